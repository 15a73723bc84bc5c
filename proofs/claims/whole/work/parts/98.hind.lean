/-! what fits the notes, in the class -/
theorem st_114 : isSt 114 := by unfold isSt; simp only [ly_cd, ly_rf, ly_ln, Int.reduceAdd]; decide
theorem td_116 : isTd 116 := by unfold isTd; simp only [ly_cd, ly_rf, ly_ln, Int.reduceAdd]; decide
/-- a day by any told numbers -/
def dG (n : Int) (nd : Int → Int) (W : (Int → Int) → Int) (r : Int) (S : Int → Int) : Int → Int := dyF n nd (dy_fed S (dy_w n nd W r S)) S
theorem dG_out {n r : Int} {nd : Int → Int} {W : (Int → Int) → Int} {S : Int → Int} (n9 : n ≤ 9) {j : Int} (hj : j < 0 ∨ 47 ≤ j) : dG n nd W r S j = S j := by
  unfold dG dyF dy_P
  rw [if_neg (by omega), if_neg (by omega), if_neg (by omega), if_neg (by omega), if_neg (by omega), if_neg (by omega), if_neg (by omega)]
theorem dG_of {n r : Int} {nd : Int → Int} {W : (Int → Int) → Int} {S : Int → Int} (e : S 10 = -1) : dG n nd W r S 10 = -1 := by
  unfold dG; rw [dyF_10]; unfold dy_fi; rw [if_pos e]
/-- told numbers that a day can go by -/
def tf (n co fi cy : Int) (sw cw nd : Int → Int) : Prop := (3 ≤ n ∧ n ≤ 9) ∧ (0 ≤ co ∧ co ≤ 999) ∧ (0 ≤ cy ∧ cy ≤ 3) ∧ (fi = -1 ∨ (0 ≤ fi ∧ fi < n ∧ sw fi ≠ -1)) ∧ (∀ y, 0 ≤ y → y < cy → (0 ≤ cw y ∧ cw y ≤ 100000) ∧ (0 ≤ nd y ∧ nd y ≤ 100000)) ∧ (∀ c, 0 ≤ c → c < 9 → -1 ≤ sw c ∧ sw c < cy ∧ (n ≤ c → sw c = -1))
theorem bg_gd {n co fi cy : Int} {sw cw nd : Int → Int} (t : tf n co fi cy sw cw nd) (S : Int → Int) : iv_gd n cy (bg co fi sw cw S) := by
  obtain ⟨t1, t2, t3, t4, t5, t6⟩ := t
  have b0 : bg co fi sw cw S 0 = 0 := by simp [bg]
  have b1 : bg co fi sw cw S 1 = co := by simp [bg]
  have b2 : bg co fi sw cw S 2 = 0 := by simp [bg]
  have b10 : bg co fi sw cw S 10 = fi := by simp [bg]
  refine ⟨by omega, by omega, by omega, by omega, by omega, fun y y0 y1 => ?_, ?_, fun c c0 c1 => ?_⟩
  · unfold bg; rw [if_neg (by omega), if_neg (by omega), if_neg (by omega), if_neg (by omega), if_neg (by omega), if_neg (by omega), if_neg (by omega)]; omega
  · rw [b10]
    rcases t4 with e | e
    · exact .inl e
    · refine .inr ⟨e.1, e.2.1, ?_⟩
      unfold bg; rw [if_neg (by omega), if_neg (by omega), if_neg (by omega), if_neg (by omega), if_pos (by omega), show 11 + fi - 11 = fi by omega]; exact e.2.2
  · have s := t6 c c0 c1
    have e1 : bg co fi sw cw S (11 + c) = sw c := by
      unfold bg; rw [if_neg (by omega), if_neg (by omega), if_neg (by omega), if_neg (by omega), if_pos (by omega), show 11 + c - 11 = c by omega]
    have e2 : bg co fi sw cw S (20 + c) = if sw c = -1 then 0 else cw (sw c) := by
      unfold bg; rw [if_neg (by omega), if_neg (by omega), if_neg (by omega), if_neg (by omega), if_neg (by omega), if_pos (by omega), show 20 + c - 20 = c by omega]
    have e3 : bg co fi sw cw S (29 + c) = 0 := by
      unfold bg; rw [if_neg (by omega), if_neg (by omega), if_neg (by omega), if_neg (by omega), if_neg (by omega), if_neg (by omega), if_neg (by omega)]
    have e4 : bg co fi sw cw S (38 + c) = if fi ≠ -1 ∧ c = fi then 40 else 0 := by
      unfold bg; rw [if_neg (by omega), if_neg (by omega), if_neg (by omega), if_neg (by omega), if_neg (by omega), if_neg (by omega)]
      by_cases u : fi ≠ -1 ∧ c = fi
      · rw [if_pos u, if_pos (by omega)]
      · rw [if_neg u, if_neg (by omega)]
    rw [e1, e2, e3, e4]
    refine ⟨by omega, ?_, by omega, by split <;> omega, fun u => ⟨by omega, by split <;> omega⟩, fun u => ⟨by rw [if_pos u], rfl⟩⟩
    split
    · omega
    · exact (t5 (sw c) (by omega) (by omega)).1
theorem dG_gd {n co fi cy r : Int} {sw cw nd : Int → Int} (t : tf n co fi cy sw cw nd) {W : (Int → Int) → Int} {h : Int → Int → Int} (hr : r = -1 ∨ (0 ≤ r ∧ iv_rx h r W)) {S : Int → Int} {b : Int} (g : iv_gd n cy S ∧ S 0 ≤ b) (hb : b < 100000) : iv_gd n cy (dG n nd W r S) ∧ dG n nd W r S 0 ≤ b + 1 := by
  refine ⟨gd_day t.1 g.1 (fed_r g.1 (w_r t.1 g.1 (by have := g.2; omega) (fun y y0 y1 => (t.2.2.2.2.1 y y0 y1).2) hr).1), ?_⟩
  have := g.2
  unfold dG; rw [dyF_0]; omega
/-- where the fire is behind day k, from the begin on -/
def pth (n co fi : Int) (sw cw nd : Int → Int) (W : (Int → Int) → Int) (r : Int) (S : Int → Int) (k : Int) : Int := it (dG n nd W r) (k + 1).toNat (bg co fi sw cw S) 10
def ftP (h : Int → Int → Int) (P : Int → Int) : Prop := ∀ i, 0 ≤ i → i < h 24 7 → P (h 35 i) = h 36 i
noncomputable def ftI (h : Int → Int → Int) (P : Int → Int) : Int := @ite Int (ftP h P) (Classical.propDecidable _) 1 0
theorem ftI_t {h : Int → Int → Int} {P : Int → Int} (p : ftP h P) : ftI h P = 1 := by unfold ftI; exact if_pos p
theorem ftI_f {h : Int → Int → Int} {P : Int → Int} (p : ¬ ftP h P) : ftI h P = 0 := by unfold ftI; exact if_neg p
theorem ftI_b (h : Int → Int → Int) (P : Int → Int) : ftI h P = 0 ∨ ftI h P = 1 := by
  unfold ftI; split
  · exact .inr rfl
  · exact .inl rfl
theorem naI_congr {g h : Int → Int → Int} (e : ∀ k j, 24 ≤ k → k ≤ 36 → g k j = h k j) (dy fi : Int) : naI g dy fi = naI h dy fi := by
  by_cases p : naP h dy fi
  · rw [naI_t p, naI_t]
    intro i i0 i1 i2
    rw [e 24 7 (by omega) (by omega)] at i1
    rw [e 35 i (by omega) (by omega)] at i2
    rw [e 36 i (by omega) (by omega)]
    exact p i i0 i1 i2
  · rw [naI_f p, naI_f]
    intro c
    refine p fun i i0 i1 i2 => ?_
    rw [← e 36 i (by omega) (by omega)]
    exact c i i0 (by rw [e 24 7 (by omega) (by omega)]; exact i1) (by rw [e 35 i (by omega) (by omega)]; exact i2)
theorem ln_congr {g h : Int → Int → Int} (e : ∀ j, g 35 j = h 35 j) : ∀ k, ln g k = ln h k
  | 0 => rfl
  | k + 1 => by unfold ln; rw [ln_congr e k, e]
theorem ln_ge (g : Int → Int → Int) : ∀ k (i : Int), 0 ≤ i → i < (k : Nat) → g 35 i ≤ ln g k
  | 0, i, a, b => by omega
  | k + 1, i, a, b => by
    unfold ln
    by_cases e : i = k
    · subst e; omega
    · have := ln_ge g k i a (by omega); omega
theorem ln_b (g : Int → Int → Int) {n : Int} (e : ∀ i, 0 ≤ i → i < n → 0 ≤ g 35 i ∧ g 35 i ≤ 60) : ∀ k : Nat, (k : Int) ≤ n → -1 ≤ ln g k ∧ ln g k ≤ 60
  | 0, _ => by unfold ln; omega
  | k + 1, hk => by
    have := ln_b g e k (by omega)
    have := e k (by omega) (by omega)
    unfold ln; omega
/-- what fits: a told, with its numbers -/
def tqd (g : Int → Int → Int) (t n co fi : Int) (sw cw nd : Int → Int) : Prop := g t 0 = n ∧ g t 1 = co ∧ g t 4 = fi ∧ g (t + 3) = sw ∧ g (t + 1) = cw ∧ g (t + 2) = nd
def ou2 (h g : Int → Int → Int) : Prop := ∀ j, j < 0 ∨ 47 ≤ j → g 115 j = h 115 j
theorem bg_S {co fi : Int} {sw cw S S' : Int → Int} (e : ∀ j, j < 0 ∨ 47 ≤ j → S j = S' j) : bg co fi sw cw S = bg co fi sw cw S' := by
  funext j; unfold bg
  by_cases u : j < 0 ∨ 47 ≤ j
  · rw [if_pos u, if_pos u]; exact e j u
  · rw [if_neg u, if_neg u]
/-- a day, unless the fire is out -/
def nx (n : Int) (nd : Int → Int) (W : (Int → Int) → Int) (r : Int) (S : Int → Int) (k : Int) (T : Int → Int) : Prop := T 10 = it (dG n nd W r) k.toNat S 10 ∧ (T 10 ≠ -1 → T = it (dG n nd W r) k.toNat S)
set_option maxRecDepth 100000 in
set_option maxHeartbeats 4000000 in
theorem h_day {h g : Int → Int → Int} {n co fi cy r t k : Int} {sw cw nd S : Int → Int} {W : (Int → Int) → Int} (f : fr h g) (ht : t = 25 ∨ t = 116) (q : tqd g t n co fi sw cw nd) (tt : tf n co fi cy sw cw nd) (hr : r = -1 ∨ (0 ≤ r ∧ r < h 11 3 ∧ iv_rx h r W)) (h6 : h 11 3 ≤ 6) (o : ou2 h g) (gd : iv_gd n cy (g 115) ∧ g 115 0 ≤ k) (k0 : 0 ≤ k) (k1 : k < 99999) (hn : nx n nd W r S k (g 115)) (ne : g 115 10 ≠ -1) {d : Nat} {Q : ax_V → ax_H → Prop}
    (hq : ∀ g' v, (∀ k j, k ≠ 20 → k ≠ 23 → k ≠ 115 → g' k j = g k j) → ou2 h g' → iv_gd n cy (g' 115) ∧ g' 115 0 ≤ k + 1 → nx n nd W r S (k + 1) (g' 115) → Q (0, v) (L0, g')) : ax_Ev (d + 9) 1 0 [(2, 22), (2, 114), (2, t), (0, r)] [] (L0, g) Q := by
  obtain ⟨q1, q2, q3, q4, q5, q6⟩ := q
  have e11 : g 11 3 = h 11 3 := f _ _ (by omega)
  refine ps_pass (o := 114) (t := t) (r := r) (W := W) (cy := cy) st_114 (by rcases ht with e | e <;> subst e; exact td_25; exact td_116) (by omega) (by omega) (by omega) ?_ ?_ ?_ tt.2.2.1.2 ?_ ?_ (by rw [e11]; exact h6) ?_
  · rw [q1]; exact tt.1
  · rw [q1]; exact gd.1
  · simp only [Int.reduceAdd]; omega
  · rw [q6]; intro y y0 y1; exact (tt.2.2.2.2.1 y y0 y1).2
  · rcases hr with a | a
    · exact .inl a
    · exact .inr ⟨a.1, by rw [e11]; exact a.2.1, iv_rx_same a.2.2 a.1 (by omega) fun k j _ => f k j (by omega)⟩
  · intro g' k1 k2
    rw [q1, q6] at k2
    simp only [Int.reduceAdd] at k1 k2
    have E : g' 115 = dG n nd W r (g 115) := funext k2
    have hr' : r = -1 ∨ (0 ≤ r ∧ iv_rx h r W) := by rcases hr with a | a; exact .inl a; exact .inr ⟨a.1, a.2.2⟩
    have D := dG_gd tt hr' gd (by omega)
    refine hq g' _ k1 (fun j hj => ?_) (by rw [E]; exact D) ⟨?_, fun u => ?_⟩
    · rw [E, dG_out tt.1.2 hj]; exact o j hj
    · rw [E, hn.2 ne, show (k + 1).toNat = k.toNat + 1 by omega]; rfl
    · rw [E, hn.2 ne, show (k + 1).toNat = k.toNat + 1 by omega]; rfl
theorem nx_out {n r k : Int} {nd S T : Int → Int} {W : (Int → Int) → Int} (k0 : 0 ≤ k) (hn : nx n nd W r S k T) (e : T 10 = -1) : nx n nd W r S (k + 1) T := by
  have E : it (dG n nd W r) (k + 1).toNat S 10 = -1 := by
    rw [show (k + 1).toNat = k.toNat + 1 by omega]
    exact dG_of (by rw [← hn.1]; exact e)
  exact ⟨by rw [E]; exact e, fun u => absurd e u⟩
