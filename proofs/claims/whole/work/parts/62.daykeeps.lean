/-! the day keeps the moment's ranges, and the reference's rows its relation -/
section
variable {n : Int} {nd : Int → Int} {fed : Int} {S : Int → Int}
theorem dyF_0 : dyF n nd fed S 0 = S 0 + 1 := by simp [dyF]
theorem dyF_1 : dyF n nd fed S 1 = S 1 - fed := by simp [dyF, dy_P]
theorem dyF_10 : dyF n nd fed S 10 = dy_fi n nd fed S := by simp [dyF]
theorem dyF_lo {j : Int} (h : (2 ≤ j ∧ j ≤ 9) ∨ (11 ≤ j ∧ j ≤ 19)) : dyF n nd fed S j = S j := by
  unfold dyF dy_P
  rw [if_neg (by omega), if_neg (by omega), if_neg (by omega), if_neg (by omega), if_neg (by omega), if_neg (by omega), if_neg (by omega)]
theorem dyF_wet {c : Int} (h0 : 0 ≤ c) (h1 : c < n) (h9 : n ≤ 9) : dyF n nd fed S (20 + c) = dy_wet n fed S c := by
  unfold dyF dy_P
  rw [if_neg (by omega), if_neg (by omega), if_neg (by omega), if_pos (by omega), show 20 + c - 20 = c by omega]
theorem dyF_bu {c : Int} (h0 : 0 ≤ c) (h1 : c < n) (h9 : n ≤ 9) : dyF n nd fed S (29 + c) = dy_bu n fed S c := by
  unfold dyF dy_P
  rw [if_neg (by omega), if_neg (by omega), if_neg (by omega), if_neg (by omega), if_pos (by omega), show 29 + c - 29 = c by omega]
theorem dyF_wa {c : Int} (h0 : 0 ≤ c) (h1 : c < n) (h9 : n ≤ 9) : dyF n nd fed S (38 + c) = dy_wa n fed S c := by
  unfold dyF dy_P
  rw [if_neg (by omega), if_neg (by omega), if_neg (by omega), if_neg (by omega), if_neg (by omega), if_pos (by omega), show 38 + c - 38 = c by omega]
theorem dyF_no {c : Int} (h0 : n ≤ c) (h1 : c < 9) (h3 : 3 ≤ n) : dyF n nd fed S (20 + c) = S (20 + c) ∧ dyF n nd fed S (29 + c) = S (29 + c) ∧ dyF n nd fed S (38 + c) = S (38 + c) := by
  unfold dyF dy_P
  refine ⟨?_, ?_, ?_⟩
  all_goals repeat rw [if_neg (by omega)]
theorem gd_day {cy : Int} (hn : 3 ≤ n ∧ n ≤ 9) (hg : iv_gd n cy S) (hf : 0 ≤ fed ∧ fed ≤ S 1) : iv_gd n cy (dyF n nd fed S) := by
  have hW := fun c (c0 : 0 ≤ c) (c1 : c < n) => dy_W_r hn hg hf.1 c0 c1
  obtain ⟨g1, g2, g3, g4, g5, g6, g7, g8⟩ := hg
  refine ⟨?_, ?_, ?_, ?_, ?_, fun y y0 y1 => ?_, ?_, fun c c0 c1 => ?_⟩
  · rw [dyF_0]; omega
  · rw [dyF_1]; omega
  · rw [dyF_1]; omega
  · rw [dyF_lo (by omega)]; exact g4
  · rw [dyF_lo (by omega)]; exact g5
  · rw [dyF_lo (by omega)]; exact g6 y y0 y1
  · rw [dyF_10]
    by_cases e : S 10 = -1
    · exact .inl (if_pos e)
    · have g7' := g7.resolve_left e
      have nx : 0 ≤ dy_nx n (S 10) ∧ dy_nx n (S 10) < n := by unfold dy_nx; split <;> omega
      have y4 : dy_fi n nd fed S = if dy_wa n fed S (S 10) < 5 then -1 else if dy_bu n fed S (S 10) < nd (S (11 + S 10)) then S 10 else if S (11 + dy_nx n (S 10)) = -1 then -1 else dy_nx n (S 10) := by unfold dy_fi; rw [if_neg e]
      rw [y4]
      split
      · exact .inl rfl
      · split
        · rw [dyF_lo (by omega)]; exact .inr g7'
        · split
          · exact .inl rfl
          · rename_i z
            rw [dyF_lo (by omega)]; exact .inr ⟨nx.1, nx.2, z⟩
  · have q := g8 c c0 c1
    rw [dyF_lo (j := 11 + c) (by omega)]
    by_cases e : c < n
    · have w := hW c c0 e
      rw [dyF_wet c0 e hn.2, dyF_bu c0 e hn.2, dyF_wa c0 e hn.2]
      clear g8 g7 g6 hW
      unfold dy_wet dy_bu dy_wa
      refine ⟨q.1, ?_, ?_, ?_, ?_, ?_⟩
      · repeat' split
        all_goals omega
      · repeat' split
        all_goals omega
      · omega
      · intro k; omega
      · intro k; rw [if_pos k, if_pos k]; exact q.2.2.2.2.2 k
    · obtain ⟨a, b, d⟩ := dyF_no (n := n) (nd := nd) (fed := fed) (S := S) (c := c) (by omega) c1 hn.1
      rw [a, b, d]; exact q
theorem mo_day {h : Int → Int → Int} (hn : 3 ≤ n ∧ n ≤ 9) (hm : iv_mo n S (h 126) (h 127) (h 128) (h 129) (h 130) (h 131) (h 125 5) (h 125 6) (h 125 7) (h 125 8)) {g : Int → Int → Int} (hg : ∀ k j, k ≠ 155 → k ≠ 156 → g k j = dy_M n nd fed S h k j) : iv_mo n (dyF n nd fed S) (g 126) (g 127) (g 128) (g 129) (g 130) (g 131) (g 125 5) (g 125 6) (g 125 7) (g 125 8) := by
  obtain ⟨m1, m2, m3, m4, m5, m6, m7⟩ := hm
  refine ⟨?_, ?_, ?_, ?_, fun y y0 y1 => ?_, fun y y0 y1 => ?_, fun c c0 c1 => ⟨?_, ?_, ?_, ?_⟩⟩
  all_goals rw [hg _ _ (by omega) (by omega)]
  · rw [dyF_0]; simp [dy_M]
  · rw [dyF_10]; simp [dy_M]
  · rw [dyF_1]; simp [dy_M]
  · rw [dyF_lo (by omega), m4]; simp [dy_M]
  · rw [dyF_lo (by omega), m5 y y0 y1]; simp [dy_M]
  · intro hn0; rw [dyF_lo (by omega), m6 y y0 y1 hn0]; simp [dy_M]
  · rw [dyF_lo (by omega), (m7 c c0 c1).1]; simp [dy_M]
  · rw [dyF_wet c0 c1 hn.2]; simp only [dy_M, Int.reduceEq, false_and, true_and, if_false]; rw [if_pos ⟨c0, c1⟩]
  · rw [dyF_bu c0 c1 hn.2]; simp only [dy_M, Int.reduceEq, false_and, true_and, if_false]; rw [if_pos ⟨c0, c1⟩]
  · rw [dyF_wa c0 c1 hn.2]; simp only [dy_M, Int.reduceEq, false_and, true_and, if_false]; rw [if_pos ⟨c0, c1⟩]
theorem fed_r {w : Int} {cy : Int} (hg : iv_gd n cy S) (hw : 0 ≤ w) : 0 ≤ dy_fed S w ∧ dy_fed S w ≤ S 1 := by
  obtain ⟨-, g2, -⟩ := hg
  unfold dy_fed; repeat' split
  all_goals omega
theorem w_r {cy r : Int} {W : (Int → Int) → Int} {h : Int → Int → Int} (hn : 3 ≤ n ∧ n ≤ 9) (hg : iv_gd n cy S) (h9 : S 0 < 100000) (hnd : ∀ y, 0 ≤ y → y < cy → 0 ≤ nd y ∧ nd y ≤ 100000) (hr : r = -1 ∨ (0 ≤ r ∧ iv_rx h r W)) : 0 ≤ dy_w n nd W r S ∧ dy_w n nd W r S ≤ 9 := by
  unfold dy_w
  by_cases e : S 10 = -1
  · rw [if_pos e]; omega
  · rw [if_neg e]
    rcases hr with hr | hr
    · rw [if_pos hr]; omega
    · rw [if_neg (by omega)]; exact (hr.2 _ (dy_F_r hn hg h9 hnd e)).1
end
theorem iv_act3 {h g g' : Int → Int → Int} {S' : Int → Int} (hi : iv_h h) (hb : h 25 0 ≠ 0)
    (q1 : ∀ a j, a ≠ 20 → a ≠ 23 → a ≠ 157 → ¬ (a = 124 ∧ (j = 48 ∨ j = 49 ∨ j = 50)) → g a j = ax_rw (ac_r h) 33 S' a j) (q2 : g 124 48 = min 20 (h 24 4 + 1)) (q3 : ∀ j, 0 ≤ j → j < 47 * (min 20 (h 24 4 + 1) - 1) → g 157 j = ax_rw (ac_r h) 33 S' 157 (if h 24 4 = 20 then j + 47 else j)) (q4 : kq (ax_rw (ac_r h) 33 S') g (47 * (min 20 (h 24 4 + 1) - 1)))
    (f1 : ∀ a j, ¬ (126 ≤ a ∧ a ≤ 131) → ¬ (a = 125 ∧ 5 ≤ j ∧ j ≤ 8) → ¬ (a = 124 ∧ (j = 44 ∨ j = 45)) → a ≠ 155 → a ≠ 156 → g' a j = g a j)
    (hgd : iv_gd (h 25 0) (h 25 2) S') (hg9 : S' 0 ≤ 999) (hmo : iv_mo (h 25 0) S' (g' 126) (g' 127) (g' 128) (g' 129) (g' 130) (g' 131) (g' 125 5) (g' 125 6) (g' 125 7) (g' 125 8)) : iv_h g' := by
  have A := iv_act2 (g := fun a j => if a = 20 ∨ a = 23 then ac_r h a j else g a j) (g' := fun a j => if a = 20 ∨ a = 23 then ac_r h a j else g' a j) (S' := S') hi hb (by
      intro a j a1 a2
      by_cases e : a = 20 ∨ a = 23
      · simp only [e, if_true]; rw [rwno _ _ _ _ _ (by omega)]
      · simp only [e, if_false]; exact q1 a j (by omega) (by omega) a1 a2) (by simpa using q2) (by simpa using q3) (by simpa [kq] using q4) (by
      intro a j e1 e2 e3 e4 e5
      by_cases e : a = 20 ∨ a = 23
      · simp only [e, if_true]
      · simp only [e, if_false]; exact f1 a j e1 e2 e3 e4 e5) hgd hg9 (by simpa using hmo)
  refine iv_same A ?_
  intro k j q
  have : ¬ (k = 20 ∨ k = 23) := by unfold iv_o iv_n iv_t at q; omega
  simp only [this, if_false]
theorem iv_mk {g : Int → Int → Int} (h : iv_h g) : Inv (L0, g) := ⟨rfl, h⟩
