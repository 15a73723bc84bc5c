set_option maxRecDepth 100000 in
set_option maxHeartbeats 4000000 in
theorem iv_act {h g : Int → Int → Int} (hi : iv_h h) (ht : ∀ k j, iv_t k j → g k j = h k j) (ho : ∀ k j, iv_o k j → g k j = h k j)
    (c3 : g 24 3 = (h 24 3 + 1) % 20) (c4 : g 24 4 = min 20 (h 24 4 + 1)) (hb : h 25 0 ≠ 0)
    (cp : ∀ j, g 34 j = if 47 * h 24 3 ≤ j ∧ j < 47 * h 24 3 + 47 then h 33 (j - 47 * h 24 3) else h 34 j)
    (cc : ∀ k j, (25 ≤ k ∧ k ≤ 31) ∨ (k = 24 ∧ 5 ≤ j ∧ j ≤ 7) ∨ k = 35 ∨ k = 36 → g k j = h k j)
    (hgd : iv_gd (h 25 0) (h 25 2) (g 33)) (hg9 : g 33 0 ≤ 999) (hmo : iv_mo (h 25 0) (g 33) (g 126) (g 127) (g 128) (g 129) (g 130) (g 131) (g 125 5) (g 125 6) (g 125 7) (g 125 8))
    (m4 : g 124 48 = min 20 (h 24 4 + 1)) (mp : ∀ j, 0 ≤ j → j < 47 * (min 20 (h 24 4 + 1) - 1) → g 157 j = h 157 (if h 24 4 = 20 then j + 47 else j)) (mq : kq h g (47 * (min 20 (h 24 4 + 1) - 1)))
    (mm : ∀ k j, (k = 125 ∧ (0 ≤ j ∧ j ≤ 4 ∨ 9 ≤ j ∧ j ≤ 11)) ∨ (132 ≤ k ∧ k ≤ 139 ∧ 0 ≤ j ∧ j < 10) → g k j = h k j) : iv_h g := by
  refine iv_keep hi (iv_tp_congr hi.1 ht) ?_ ho
  obtain ⟨-, ⟨h1, h2, h3, h4, h5, h6, h7, h8, h9, h10, h11, h12, ⟨h13, k13, l13⟩, h14⟩, -⟩ := hi
  simp only [Int.reduceAdd, Int.add_zero] at h1 h3 h4 h5 h6 h7 h8 h9 h10 h11 h12 h13 k13 l13 h14
  have f0 : g 25 0 = h 25 0 := cc _ _ (by omega)
  have f1 : g 25 1 = h 25 1 := cc _ _ (by omega)
  have f2 : g 25 2 = h 25 2 := cc _ _ (by omega)
  have f3 : g 25 3 = h 25 3 := cc _ _ (by omega)
  have f4 : g 25 4 = h 25 4 := cc _ _ (by omega)
  have f5 : g 24 5 = h 24 5 := cc _ _ (by omega)
  have f6 : g 24 6 = h 24 6 := cc _ _ (by omega)
  have f7 : g 24 7 = h 24 7 := cc _ _ (by omega)
  have f11 : g 11 3 = h 11 3 := ho _ _ (by unfold iv_o; omega)
  obtain ⟨t1, t2, t3, t4, t5, t6, t7, t8⟩ := h2
  simp only [Int.reduceAdd, Int.add_zero] at t1 t2 t3 t4 t5 t6 t7 t8
  have n9 : h 25 0 ≤ 9 := by omega
  refine ⟨?_, ⟨?_, ?_, ?_, ?_, ?_, ?_, ?_, ?_⟩, ?_, ?_, ?_, ?_, ?_, ?_, ?_, ?_, ?_, ?_, ⟨?_, ?_, ?_⟩, ?_⟩
  all_goals simp only [Int.reduceAdd, Int.add_zero]
  · rw [mm 125 0 (by omega), mm 125 1 (by omega), mm 125 2 (by omega), mm 125 3 (by omega), mm 125 4 (by omega), mm 125 9 (by omega), mm 125 10 (by omega), mm 125 11 (by omega), f0, f1, f2, f3, f4, f5, f6, f7, m4, c4]
    exact ⟨h1.1, h1.2.1, h1.2.2.1, h1.2.2.2.1, h1.2.2.2.2.1, h1.2.2.2.2.2.1, h1.2.2.2.2.2.2.1, h1.2.2.2.2.2.2.2.1, rfl⟩
  · rw [f0, f2, f3]; exact t1
  · rw [f1]; exact t2
  · rw [f2]; exact t3
  · rw [f3]; exact t4
  · rw [f4, f0, cc 28 _ (by omega)]; exact t5
  · intro y y0 y1
    rw [f2] at y1
    rw [cc 26 y (by omega), cc 27 y (by omega)]; exact t6 y y0 y1
  · intro y y0 y1
    rw [cc 28 y (by omega), f2, f0]; exact t7 y y0 y1
  · intro y y0 y1
    rw [f3] at y1
    rw [cc 29 y (by omega), cc 30 y (by omega), cc 31 y (by omega), f2]; exact t8 y y0 y1
  · intro q; rw [f0] at q; exact absurd q hb
  · rw [f5, f11]; exact h4
  · rw [f6]; exact h5
  · rw [f7]; exact h6
  · rw [c4]; omega
  · rw [c3]; omega
  · intro y y0 y1
    rw [f2] at y1
    rw [cc 26 y (by omega), cc 27 y (by omega), mm 132 y (by omega), mm 133 y (by omega)]; exact h9 y y0 y1
  · intro y y0 y1
    rw [f0] at y1
    rw [cc 28 y (by omega), mm 139 y (by omega)]; exact h10 y y0 y1
  · intro y y0 y1
    rw [f3] at y1
    rw [cc 29 y (by omega), cc 30 y (by omega), cc 31 y (by omega), mm 134 y (by omega), mm 135 y (by omega), mm 136 y (by omega)]; exact h11 y y0 y1
  · intro y y0 y1
    rw [f7] at y1
    rw [cc 35 y (by omega), cc 36 y (by omega), mm 137 y (by omega), mm 138 y (by omega), f0]; exact h12 y y0 y1
  · rw [f0]; exact hmo
  · rw [f0, f2]; exact hgd
  · exact hg9
  · intro i i0 i1
    rw [c4] at i1
    rw [f0, f2, c3, c4]
    by_cases e : i = 0
    · subst e
      have hs : ((h 24 3 + 1) % 20 + 19 - 0) % 20 = h 24 3 := by omega
      rw [hs]
      have hS : ∀ j, 0 ≤ j → j < 47 → g 34 (47 * h 24 3 + j) = h 33 j := by
        intro j j0 j1; rw [cp, if_pos (by omega)]; congr 1; omega
      obtain ⟨q1, q2, q3, q4, q5, q6, q7⟩ := mq
      rw [show min 20 (h 24 4 + 1) - 1 - 0 = min 20 (h 24 4 + 1) - 1 by omega]
      refine ⟨?_, ?_, ?_⟩
      · rw [q1, q2, q3, q4]
        exact iv_mo_congr n9 h13 hS (fun j j0 j1 => (q5 j j0 j1).1) (fun j j0 j1 => (q5 j j0 j1).2.1) (fun j j0 j1 => (q5 j j0 j1).2.2.1) (fun j j0 j1 => (q5 j j0 j1).2.2.2) q6 q7
      · exact iv_gd_congr n9 k13 hS
      · have := hS 0 (by omega) (by omega)
        rw [Int.add_zero] at this
        rw [this]; exact l13
    · obtain ⟨a1, a2, a3⟩ := h14 (i - 1) (by omega) (by omega)
      have hs : ((h 24 3 + 1) % 20 + 19 - i) % 20 = (h 24 3 + 19 - (i - 1)) % 20 := by omega
      have hs2 : 0 ≤ (h 24 3 + 19 - (i - 1)) % 20 ∧ (h 24 3 + 19 - (i - 1)) % 20 < 20 ∧ (h 24 3 + 19 - (i - 1)) % 20 ≠ h 24 3 := by omega
      rw [hs]
      have hS : ∀ j, 0 ≤ j → j < 47 → g 34 (47 * ((h 24 3 + 19 - (i - 1)) % 20) + j) = h 34 (47 * ((h 24 3 + 19 - (i - 1)) % 20) + j) := by
        intro j j0 j1; rw [cp, if_neg (by omega)]
      have hP : ∀ j, 0 ≤ j → j < 47 → g 157 (47 * (min 20 (h 24 4 + 1) - 1 - i) + j) = h 157 (47 * (h 24 4 - 1 - (i - 1)) + j) := by
        intro j j0 j1; rw [mp _ (by omega) (by omega)]
        by_cases e20 : h 24 4 = 20
        · rw [if_pos e20]; congr 1; omega
        · rw [if_neg e20]; congr 1; omega
      have hP0 := hP 0 (by omega) (by omega)
      rw [Int.add_zero, Int.add_zero] at hP0
      refine ⟨?_, ?_, ?_⟩
      · rw [hP0, hP 1 (by omega) (by omega), hP 2 (by omega) (by omega), hP 3 (by omega) (by omega)]
        exact iv_mo_congr n9 a1 hS (fun j j0 j1 => by rw [Int.add_assoc, hP _ (by omega) (by omega), Int.add_assoc]) (fun j j0 j1 => by rw [Int.add_assoc, hP _ (by omega) (by omega), Int.add_assoc]) (fun j j0 j1 => by rw [Int.add_assoc, hP _ (by omega) (by omega), Int.add_assoc]) (fun j j0 j1 => by rw [Int.add_assoc, hP _ (by omega) (by omega), Int.add_assoc]) (fun j j0 j1 => by rw [Int.add_assoc, hP _ (by omega) (by omega), Int.add_assoc]) (fun j j0 j1 => by rw [Int.add_assoc, hP _ (by omega) (by omega), Int.add_assoc])
      · exact iv_gd_congr n9 a2 hS
      · have := hS 0 (by omega) (by omega)
        rw [Int.add_zero] at this
        rw [this]; exact a3
