/-- now with other fields and notes -/
theorem iv_w_fields {C C' : Int → Int → Int} {ru ru' : Int} {sc cl wt bu wa st se cw nd oo om od ny nf tc pa sc' cl' wt' bu' wa' st' se' cw' nd' oo' om' od' ny' nf' tc' pa' : Int → Int} {pm pm' : Int}
    (h : iv_w C ru sc cl wt bu wa st se cw nd pm oo om od ny nf tc pa)
    (hC : ∀ i j, 1 ≤ i → i ≤ 10 → 0 ≤ j → C' i j = C i j) (f03 : C' 0 3 = C 0 3) (f04 : C' 0 4 = C 0 4) (n9 : sc' 9 = C' 0 7) (n10 : sc' 10 = C' 0 6) (n11 : sc' 11 = C' 0 5) (n5 : -1 ≤ C' 0 5 ∧ C' 0 5 < ru') (n6 : 0 ≤ C' 0 6 ∧ C' 0 6 < 2147483648) (n7 : 0 ≤ C' 0 7 ∧ C' 0 7 ≤ 10) (n0 : C' 1 0 = 0 → C' 0 7 = 0) (nn : ∀ i, 0 ≤ i → i < C' 0 7 → C' 11 i = ny' i ∧ C' 12 i = nf' i ∧ (0 ≤ C' 11 i ∧ C' 11 i ≤ 60) ∧ (-1 ≤ C' 12 i ∧ C' 12 i < C' 1 0)) (e1 : ∀ j, 0 ≤ j → j < 9 → sc' j = sc j) (e2 : ∀ j, 0 ≤ j → j < 9 → cl' j = cl j) (e3 : ∀ j, 0 ≤ j → j < 9 → wt' j = wt j) (e4 : ∀ j, 0 ≤ j → j < 9 → bu' j = bu j) (e5 : ∀ j, 0 ≤ j → j < 9 → wa' j = wa j) (e6 : ∀ j, 0 ≤ j → j < 3 → st' j = st j) (e7 : ∀ j, 0 ≤ j → j < 4 → se' j = se j) (e8 : ∀ j, 0 ≤ j → j < 3 → cw' j = cw j) (e9 : ∀ j, 0 ≤ j → j < 3 → nd' j = nd j) (e10 : pm' = pm) (e11 : ∀ j, 0 ≤ j → j < 4 → oo' j = oo j) (e12 : ∀ j, 0 ≤ j → j < 4 → om' j = om j) (e13 : ∀ j, 0 ≤ j → j < 4 → od' j = od j) (e16 : ∀ j, 0 ≤ j → j < 9 → tc' j = tc j) (e17 : ∀ j, 0 ≤ j → j < 940 → pa' j = pa j) :
    iv_w C' ru' sc' cl' wt' bu' wa' st' se' cw' nd' pm' oo' om' od' ny' nf' tc' pa' := by
  have f10 := hC 1 0 (by omega) (by omega) (by omega)
  have f11 := hC 1 1 (by omega) (by omega) (by omega)
  have f12 := hC 1 2 (by omega) (by omega) (by omega)
  have f13 := hC 1 3 (by omega) (by omega) (by omega)
  have f14 := hC 1 4 (by omega) (by omega) (by omega)
  obtain ⟨h1, ⟨t1, t2, t3, t4, t5, t6, t7, t8⟩, h3, h4, h5, h6, h7, h8, h9, h10, h11, h12, ⟨h13, k13, l13⟩, h14⟩ := h
  simp only [Int.reduceAdd, Int.add_zero] at t1 t2 t3 t4 t5 t6 t7 t8
  refine ⟨?_, ⟨?_, ?_, ?_, ?_, ?_, ?_, ?_, ?_⟩, ?_, ?_, ?_, ?_, ?_, ?_, ?_, ?_, ?_, ?_, ⟨?_, ?_, ?_⟩, ?_⟩
  · rw [e1 0 (by omega) (by omega), e1 1 (by omega) (by omega), e1 2 (by omega) (by omega), e1 3 (by omega) (by omega), e1 4 (by omega) (by omega), e10, f10, f11, f12, f13, f14, f04]; exact ⟨h1.1, h1.2.1, h1.2.2.1, h1.2.2.2.1, h1.2.2.2.2.1, n9, n10, n11, h1.2.2.2.2.2.2.2.2⟩
  all_goals try simp only [Int.reduceAdd, Int.add_zero]
  · rw [f10, f12, f13]; exact t1
  · rw [f11]; exact t2
  · rw [f12]; exact t3
  · rw [f13]; exact t4
  · rw [f14, f10]
    rcases t5 with t5 | t5
    · exact .inl t5
    · rw [hC 4 _ (by omega) (by omega) t5.1]; exact .inr t5
  · intro y y0 y1
    rw [f12] at y1
    rw [hC 2 y (by omega) (by omega) y0, hC 3 y (by omega) (by omega) y0]; exact t6 y y0 y1
  · intro y y0 y1
    rw [hC 4 y (by omega) (by omega) y0, f12, f10]; exact t7 y y0 y1
  · intro y y0 y1
    rw [f13] at y1
    rw [hC 5 y (by omega) (by omega) y0, hC 6 y (by omega) (by omega) y0, hC 7 y (by omega) (by omega) y0, f12]; exact t8 y y0 y1
  · intro q; refine ⟨n0 q, ?_⟩; rw [f10] at q; rw [f04]; exact (h3 q).2
  · exact n5
  · exact n6
  · exact n7
  · rw [f04]; exact h7
  · rw [f03]; exact h8
  · intro y y0 y1
    rw [f12] at y1
    rw [hC 2 y (by omega) (by omega) y0, hC 3 y (by omega) (by omega) y0, e8 y y0 (by omega), e9 y y0 (by omega)]; exact h9 y y0 y1
  · intro y y0 y1
    rw [f10] at y1
    rw [hC 4 y (by omega) (by omega) y0, e16 y y0 (by omega)]; exact h10 y y0 y1
  · intro y y0 y1
    rw [f13] at y1
    rw [hC 5 y (by omega) (by omega) y0, hC 6 y (by omega) (by omega) y0, hC 7 y (by omega) (by omega) y0, e11 y y0 (by omega), e12 y y0 (by omega), e13 y y0 (by omega)]; exact h11 y y0 y1
  · exact nn
  · rw [f10, e1 5 (by omega) (by omega), e1 6 (by omega) (by omega), e1 7 (by omega) (by omega), e1 8 (by omega) (by omega)]
    exact iv_mo_congr (by omega) h13 (fun j j0 j1 => hC 9 j (by omega) (by omega) j0) e2 e3 e4 e5 e6 e7
  · rw [f10, f12]
    exact iv_gd_congr (by omega) k13 fun j j0 j1 => hC 9 j (by omega) (by omega) j0
  · rw [hC 9 0 (by omega) (by omega) (by omega)]; exact l13
  · intro i i0 i1
    rw [f04] at i1
    obtain ⟨m, g, k⟩ := h14 i i0 i1
    have hp : 0 ≤ (C 0 3 + 19 - i) % 20 := Int.emod_nonneg _ (by omega)
    simp only [f03, f04, f10, f12]
    refine ⟨?_, ?_, ?_⟩
    · rw [e17 _ (by omega) (by omega), e17 _ (by omega) (by omega), e17 _ (by omega) (by omega), e17 _ (by omega) (by omega)]
      exact iv_mo_congr (by omega) m (fun j j0 j1 => hC 10 _ (by omega) (by omega) (by omega)) (fun j j0 j1 => e17 _ (by omega) (by omega)) (fun j j0 j1 => e17 _ (by omega) (by omega)) (fun j j0 j1 => e17 _ (by omega) (by omega)) (fun j j0 j1 => e17 _ (by omega) (by omega)) (fun j j0 j1 => e17 _ (by omega) (by omega)) (fun j j0 j1 => e17 _ (by omega) (by omega))
    · exact iv_gd_congr (by omega) g fun j j0 j1 => hC 10 _ (by omega) (by omega) (by omega)
    · rw [hC 10 _ (by omega) (by omega) (by omega)]; exact k
theorem iv_now_fields {h h' : Int → Int → Int} (hn : iv_now h) (hf : ∀ k j, iv_n k j → ¬ (k = 24 ∧ 5 ≤ j ∧ j ≤ 7) → ¬ (k = 125 ∧ 9 ≤ j ∧ j ≤ 11) → k ≠ 35 → k ≠ 36 → k ≠ 137 → k ≠ 138 → h' k j = h k j)
    (n9 : h' 125 9 = h' 24 7) (n10 : h' 125 10 = h' 24 6) (n11 : h' 125 11 = h' 24 5) (n5 : -1 ≤ h' 24 5 ∧ h' 24 5 < h' 11 3) (n6 : 0 ≤ h' 24 6 ∧ h' 24 6 < 2147483648) (n7 : 0 ≤ h' 24 7 ∧ h' 24 7 ≤ 10) (n0 : h' 25 0 = 0 → h' 24 7 = 0) (nn : ∀ i, 0 ≤ i → i < h' 24 7 → h' 35 i = h' 137 i ∧ h' 36 i = h' 138 i ∧ (0 ≤ h' 35 i ∧ h' 35 i ≤ 60) ∧ (-1 ≤ h' 36 i ∧ h' 36 i < h' 25 0)) : iv_now h' := by
  refine iv_w_fields hn (fun i j i0 i1 j0 => hf _ _ (by unfold iv_n; omega) (by omega) (by omega) (by omega) (by omega) (by omega) (by omega)) (hf _ _ (by unfold iv_n; omega) (by omega) (by omega) (by omega) (by omega) (by omega) (by omega)) (hf _ _ (by unfold iv_n; omega) (by omega) (by omega) (by omega) (by omega) (by omega) (by omega)) n9 n10 n11 n5 n6 n7 n0 nn ?_ ?_ ?_ ?_ ?_ ?_ ?_ ?_ ?_ (hf _ _ (by unfold iv_n; omega) (by omega) (by omega) (by omega) (by omega) (by omega) (by omega)) ?_ ?_ ?_ ?_ ?_
  all_goals exact fun j j0 j1 => hf _ _ (by unfold iv_n; omega) (by omega) (by omega) (by omega) (by omega) (by omega) (by omega)
