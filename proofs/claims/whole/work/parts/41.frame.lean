theorem iv_mo_congr {n : Int} {S cl wt bu wa st se S' cl' wt' bu' wa' st' se' : Int → Int} {dy fi co ws : Int} (hn : n ≤ 9) (h : iv_mo n S cl wt bu wa st se dy fi co ws) (e : ∀ j, 0 ≤ j → j < 47 → S' j = S j)
    (e2 : ∀ j, 0 ≤ j → j < 9 → cl' j = cl j) (e3 : ∀ j, 0 ≤ j → j < 9 → wt' j = wt j) (e4 : ∀ j, 0 ≤ j → j < 9 → bu' j = bu j) (e5 : ∀ j, 0 ≤ j → j < 9 → wa' j = wa j) (e6 : ∀ j, 0 ≤ j → j < 3 → st' j = st j) (e7 : ∀ j, 0 ≤ j → j < 4 → se' j = se j) : iv_mo n S' cl' wt' bu' wa' st' se' dy fi co ws := by
  obtain ⟨m1, m2, m3, m4, m5, m6, m7⟩ := h
  refine ⟨?_, ?_, ?_, ?_, ?_, ?_, ?_⟩
  · rw [e 0 (by omega) (by omega)]; exact m1
  · rw [e 10 (by omega) (by omega)]; exact m2
  · rw [e 1 (by omega) (by omega)]; exact m3
  · rw [e 2 (by omega) (by omega)]; exact m4
  · intro y y0 y1
    rw [e _ (by omega) (by omega), e6 y y0 y1]; exact m5 y y0 y1
  · intro y y0 y1
    rw [e _ (by omega) (by omega), e7 y y0 y1]; exact m6 y y0 y1
  · intro y y0 y1
    rw [e _ (by omega) (by omega), e _ (by omega) (by omega), e _ (by omega) (by omega), e _ (by omega) (by omega), e2 y y0 (by omega), e3 y y0 (by omega), e4 y y0 (by omega), e5 y y0 (by omega)]; exact m7 y y0 y1
theorem iv_gd_congr {n cy : Int} {S S' : Int → Int} (hn : n ≤ 9) (h : iv_gd n cy S) (e : ∀ j, 0 ≤ j → j < 47 → S' j = S j) : iv_gd n cy S' := by
  obtain ⟨g1, g2, g3, g4, g5, g6, g7, g8⟩ := h
  have e0 := e 0 (by omega) (by omega)
  have e1 := e 1 (by omega) (by omega)
  have e2 := e 2 (by omega) (by omega)
  have e10 := e 10 (by omega) (by omega)
  refine ⟨?_, ?_, ?_, ?_, ?_, ?_, ?_, ?_⟩
  · rw [e0]; exact g1
  · rw [e1]; exact g2
  · rw [e1]; exact g3
  · rw [e2]; exact g4
  · rw [e2]; exact g5
  · intro y y0 y1
    rw [e _ (by omega) (by omega)]; exact g6 y y0 y1
  · rw [e10]
    rcases g7 with g7 | g7
    · exact .inl g7
    · rw [e _ (by omega) (by omega)]; exact .inr g7
  · intro c c0 c1
    rw [e _ (by omega) (by omega), e _ (by omega) (by omega), e _ (by omega) (by omega), e _ (by omega) (by omega)]; exact g8 c c0 c1
/-- the places of a Works that count -/
def cr (i j : Int) : Prop := (i = 0 ∧ 3 ≤ j ∧ j ≤ 7) ∨ (i = 1 ∧ 0 ≤ j ∧ j ≤ 4) ∨ (2 ≤ i ∧ i ≤ 3 ∧ 0 ≤ j ∧ j < 3) ∨ (i = 4 ∧ 0 ≤ j ∧ j < 9) ∨ (5 ≤ i ∧ i ≤ 7 ∧ 0 ≤ j ∧ j < 4) ∨ (i = 9 ∧ 0 ≤ j ∧ j < 47) ∨ (i = 10 ∧ 0 ≤ j ∧ j < 940) ∨ (11 ≤ i ∧ i ≤ 12 ∧ 0 ≤ j ∧ j < 10)
theorem cr_i {i j : Int} (c : cr i j) : 0 ≤ i ∧ i ≤ 12 ∧ 0 ≤ j := by unfold cr at c; omega
theorem cr0 {j : Int} (a : 3 ≤ j) (b : j < 8) : cr 0 j := by unfold cr; omega
theorem cr1 {j : Int} (a : 0 ≤ j) (b : j < 5) : cr 1 j := by unfold cr; omega
theorem cr2 {j : Int} (a : 0 ≤ j) (b : j < 3) : cr 2 j := by unfold cr; omega
theorem cr3 {j : Int} (a : 0 ≤ j) (b : j < 3) : cr 3 j := by unfold cr; omega
theorem cr4 {j : Int} (a : 0 ≤ j) (b : j < 9) : cr 4 j := by unfold cr; omega
theorem cr5 {j : Int} (a : 0 ≤ j) (b : j < 4) : cr 5 j := by unfold cr; omega
theorem cr6 {j : Int} (a : 0 ≤ j) (b : j < 4) : cr 6 j := by unfold cr; omega
theorem cr7 {j : Int} (a : 0 ≤ j) (b : j < 4) : cr 7 j := by unfold cr; omega
theorem cr9 {j : Int} (a : 0 ≤ j) (b : j < 47) : cr 9 j := by unfold cr; omega
theorem cr10 {j : Int} (a : 0 ≤ j) (b : j < 940) : cr 10 j := by unfold cr; omega
theorem cr11 {j : Int} (a : 0 ≤ j) (b : j < 10) : cr 11 j := by unfold cr; omega
theorem cr12 {j : Int} (a : 0 ≤ j) (b : j < 10) : cr 12 j := by unfold cr; omega
theorem iv_w_congr {C C' : Int → Int → Int} {ru ru' : Int} {sc cl wt bu wa st se cw nd oo om od ny nf tc pa sc' cl' wt' bu' wa' st' se' cw' nd' oo' om' od' ny' nf' tc' pa' : Int → Int} {pm pm' : Int}
    (h : iv_w C ru sc cl wt bu wa st se cw nd pm oo om od ny nf tc pa) (hr : ru ≤ ru')
    (hC : ∀ i j, cr i j → C' i j = C i j) (e1 : ∀ j, 0 ≤ j → j < 12 → sc' j = sc j) (e2 : ∀ j, 0 ≤ j → j < 9 → cl' j = cl j) (e3 : ∀ j, 0 ≤ j → j < 9 → wt' j = wt j) (e4 : ∀ j, 0 ≤ j → j < 9 → bu' j = bu j) (e5 : ∀ j, 0 ≤ j → j < 9 → wa' j = wa j) (e6 : ∀ j, 0 ≤ j → j < 3 → st' j = st j) (e7 : ∀ j, 0 ≤ j → j < 4 → se' j = se j) (e8 : ∀ j, 0 ≤ j → j < 3 → cw' j = cw j) (e9 : ∀ j, 0 ≤ j → j < 3 → nd' j = nd j) (e10 : pm' = pm) (e11 : ∀ j, 0 ≤ j → j < 4 → oo' j = oo j) (e12 : ∀ j, 0 ≤ j → j < 4 → om' j = om j) (e13 : ∀ j, 0 ≤ j → j < 4 → od' j = od j) (e14 : ∀ j, 0 ≤ j → j < 10 → ny' j = ny j) (e15 : ∀ j, 0 ≤ j → j < 10 → nf' j = nf j) (e16 : ∀ j, 0 ≤ j → j < 9 → tc' j = tc j) (e17 : ∀ j, 0 ≤ j → j < 940 → pa' j = pa j) :
    iv_w C' ru' sc' cl' wt' bu' wa' st' se' cw' nd' pm' oo' om' od' ny' nf' tc' pa' := by
  have f10 := hC 1 0 (cr1 (by omega) (by omega))
  have f11 := hC 1 1 (cr1 (by omega) (by omega))
  have f12 := hC 1 2 (cr1 (by omega) (by omega))
  have f13 := hC 1 3 (cr1 (by omega) (by omega))
  have f14 := hC 1 4 (cr1 (by omega) (by omega))
  have f03 := hC 0 3 (cr0 (by omega) (by omega))
  have f04 := hC 0 4 (cr0 (by omega) (by omega))
  have f05 := hC 0 5 (cr0 (by omega) (by omega))
  have f06 := hC 0 6 (cr0 (by omega) (by omega))
  have f07 := hC 0 7 (cr0 (by omega) (by omega))
  obtain ⟨h1, ⟨t1, t2, t3, t4, t5, t6, t7, t8⟩, h3, h4, h5, h6, h7, h8, h9, h10, h11, h12, ⟨h13, k13, l13⟩, h14⟩ := h
  simp only [Int.reduceAdd, Int.add_zero] at t1 t2 t3 t4 t5 t6 t7 t8
  refine ⟨?_, ⟨?_, ?_, ?_, ?_, ?_, ?_, ?_, ?_⟩, ?_, ?_, ?_, ?_, ?_, ?_, ?_, ?_, ?_, ?_, ⟨?_, ?_, ?_⟩, ?_⟩
  · rw [e1 0 (by omega) (by omega), e1 1 (by omega) (by omega), e1 2 (by omega) (by omega), e1 3 (by omega) (by omega), e1 4 (by omega) (by omega), e1 9 (by omega) (by omega), e1 10 (by omega) (by omega), e1 11 (by omega) (by omega), e10, f10, f11, f12, f13, f14, f04, f05, f06, f07]; exact h1
  all_goals try simp only [Int.reduceAdd, Int.add_zero]
  · rw [f10, f12, f13]; exact t1
  · rw [f11]; exact t2
  · rw [f12]; exact t3
  · rw [f13]; exact t4
  · rw [f14, f10]
    rcases t5 with t5 | t5
    · exact .inl t5
    · rw [hC 4 _ (cr4 (by omega) (by omega))]; exact .inr t5
  · intro y y0 y1
    rw [f12] at y1
    rw [hC 2 y (cr2 (by omega) (by omega)), hC 3 y (cr3 (by omega) (by omega))]; exact t6 y y0 y1
  · intro y y0 y1
    rw [hC 4 y (cr4 (by omega) (by omega)), f12, f10]; exact t7 y y0 y1
  · intro y y0 y1
    rw [f13] at y1
    rw [hC 5 y (cr5 (by omega) (by omega)), hC 6 y (cr6 (by omega) (by omega)), hC 7 y (cr7 (by omega) (by omega)), f12]; exact t8 y y0 y1
  · rw [f10, f07, f04]; exact h3
  · rw [f05]; omega
  · rw [f06]; exact h5
  · rw [f07]; exact h6
  · rw [f04]; exact h7
  · rw [f03]; exact h8
  · intro y y0 y1
    rw [f12] at y1
    rw [hC 2 y (cr2 (by omega) (by omega)), hC 3 y (cr3 (by omega) (by omega)), e8 y y0 (by omega), e9 y y0 (by omega)]; exact h9 y y0 y1
  · intro y y0 y1
    rw [f10] at y1
    rw [hC 4 y (cr4 (by omega) (by omega)), e16 y y0 (by omega)]; exact h10 y y0 y1
  · intro y y0 y1
    rw [f13] at y1
    rw [hC 5 y (cr5 (by omega) (by omega)), hC 6 y (cr6 (by omega) (by omega)), hC 7 y (cr7 (by omega) (by omega)), e11 y y0 (by omega), e12 y y0 (by omega), e13 y y0 (by omega)]; exact h11 y y0 y1
  · intro y y0 y1
    rw [f07] at y1
    rw [hC 11 y (cr11 (by omega) (by omega)), hC 12 y (cr12 (by omega) (by omega)), e14 y y0 (by omega), e15 y y0 (by omega), f10]; exact h12 y y0 y1
  · rw [f10, e1 5 (by omega) (by omega), e1 6 (by omega) (by omega), e1 7 (by omega) (by omega), e1 8 (by omega) (by omega)]
    exact iv_mo_congr (by omega) h13 (fun j j0 j1 => hC 9 j (cr9 (by omega) (by omega))) e2 e3 e4 e5 e6 e7
  · rw [f10, f12]
    exact iv_gd_congr (by omega) k13 fun j j0 j1 => hC 9 j (cr9 (by omega) (by omega))
  · rw [hC 9 0 (cr9 (by omega) (by omega))]; exact l13
  · intro i i0 i1
    rw [f04] at i1
    obtain ⟨m, g, k⟩ := h14 i i0 i1
    have hp : 0 ≤ (C 0 3 + 19 - i) % 20 := Int.emod_nonneg _ (by omega)
    simp only [f03, f04, f10, f12]
    refine ⟨?_, ?_, ?_⟩
    · rw [e17 _ (by omega) (by omega), e17 _ (by omega) (by omega), e17 _ (by omega) (by omega), e17 _ (by omega) (by omega)]
      exact iv_mo_congr (by omega) m (fun j j0 j1 => hC 10 _ (cr10 (by omega) (by omega))) (fun j j0 j1 => e17 _ (by omega) (by omega)) (fun j j0 j1 => e17 _ (by omega) (by omega)) (fun j j0 j1 => e17 _ (by omega) (by omega)) (fun j j0 j1 => e17 _ (by omega) (by omega)) (fun j j0 j1 => e17 _ (by omega) (by omega)) (fun j j0 j1 => e17 _ (by omega) (by omega))
    · exact iv_gd_congr (by omega) g fun j j0 j1 => hC 10 _ (cr10 (by omega) (by omega))
    · rw [hC 10 _ (cr10 (by omega) (by omega))]; exact k
theorem iv_im_congr {h h' : Int → Int → Int} {w b : Int} (hi : iv_im h w b) (hr : h 11 3 ≤ h' 11 3) (hC : ∀ i j, 0 ≤ i → i ≤ 12 → 0 ≤ j → h' (w + i) j = h (w + i) j) (hb : ∀ j, b ≤ j → j < b + 1100 → h' 164 j = h 164 j) : iv_im h' w b := by
  refine iv_w_congr hi hr (fun i j c => hC i j (cr_i c).1 (cr_i c).2.1 (cr_i c).2.2) ?_ ?_ ?_ ?_ ?_ ?_ ?_ ?_ ?_ (hb _ (by omega) (by omega)) ?_ ?_ ?_ ?_ ?_ ?_ ?_
  all_goals exact fun j j0 j1 => hb _ (by omega) (by omega)
theorem iv_rx_congr {h h' : Int → Int → Int} {r : Int} {W : (Int → Int) → Int} (hi : iv_rx h r W) (e1 : ∀ j, h' (13 + r) j = h (13 + r) j) (e2 : h' 19 r = h 19 r) (e3 : ∀ j, 300 * r ≤ j → j < 300 * r + 300 → h' 148 j = h 148 j ∧ h' 149 j = h 149 j) (e4 : h' 150 r = h 150 r) (e5 : ∀ j, 12 * r ≤ j → j < 12 * r + 12 → h' 151 j = h 151 j ∧ h' 152 j = h 152 j ∧ h' 153 j = h 153 j) : iv_rx h' r W := by
  intro F hF
  obtain ⟨w, a, b⟩ := hi F hF
  refine ⟨w, ?_, ?_⟩
  · intro g d Q q1 q2 q3 q4 q5
    exact a g d Q (fun j => (q1 j).trans (e1 j)) (q2.trans e2) q3 q4 q5
  · intro g d Q q1 q2 q3 q4 q5 q6
    exact b g d Q (fun j j0 j1 => ⟨(q1 j j0 j1).1.trans (e3 j j0 j1).1, (q1 j j0 j1).2.trans (e3 j j0 j1).2⟩) (q2.trans e4) (fun j j0 j1 => ⟨(q3 j j0 j1).1.trans (e5 j j0 j1).1, (q3 j j0 j1).2.1.trans (e5 j j0 j1).2.1, (q3 j j0 j1).2.2.trans (e5 j j0 j1).2.2⟩) q4 q5 q6
/-- the rows beside now and the tape that the invariant speaks of -/
def iv_o (k j : Int) : Prop := (11 ≤ k ∧ k ≤ 19) ∨ (37 ≤ k ∧ k ≤ 90) ∨ (k = 124 ∧ (j = 27 ∨ j = 32 ∨ j = 43)) ∨ (148 ≤ k ∧ k ≤ 153) ∨ (k = 164 ∧ j < 4400) ∨ k = 165 ∨ (132 ≤ k ∧ k ≤ 133 ∧ 0 ≤ j ∧ j < 3) ∨ (142 ≤ k ∧ k ≤ 143) ∨ (k = 139 ∧ 0 ≤ j ∧ j < 9)
/-- now's rows -/
def iv_n (k j : Int) : Prop := (24 ≤ k ∧ k ≤ 36) ∨ (k = 125 ∧ 0 ≤ j ∧ j < 12) ∨ (126 ≤ k ∧ k ≤ 129 ∧ 0 ≤ j ∧ j < 9) ∨ (k = 130 ∧ 0 ≤ j ∧ j < 3) ∨ (k = 131 ∧ 0 ≤ j ∧ j < 4) ∨ (132 ≤ k ∧ k ≤ 133 ∧ 0 ≤ j ∧ j < 3) ∨ (134 ≤ k ∧ k ≤ 136 ∧ 0 ≤ j ∧ j < 4) ∨ (137 ≤ k ∧ k ≤ 138 ∧ 0 ≤ j ∧ j < 10) ∨ (k = 139 ∧ 0 ≤ j ∧ j < 9) ∨ (k = 157 ∧ 0 ≤ j ∧ j < 940) ∨ (k = 124 ∧ j = 48) ∨ (k = 11 ∧ j = 3)
def iv_t (k j : Int) : Prop := (k = 1 ∧ j = 1) ∨ k = 2 ∨ (k = 124 ∧ j = 23) ∨ k = 147
theorem iv_keep {h h' : Int → Int → Int} (hi : iv_h h) (ht : iv_tp h') (hn : iv_now h') (hf : ∀ k j, iv_o k j → h' k j = h k j) : iv_h h' := by
  obtain ⟨-, -, hm, ⟨r1, r2, r3, r4⟩, k1, k2⟩ := hi
  have e11 : h' 11 3 = h 11 3 := hf _ _ (by unfold iv_o; omega)
  refine ⟨ht, hn, ?_, ⟨?_, ?_, ?_, ?_⟩, ?_, ?_⟩
  · intro k k0 k1
    rw [hf 38 k (by unfold iv_o; omega), hf 165 k (by unfold iv_o; omega)]
    obtain ⟨a, b, c⟩ := hm k k0 k1
    refine ⟨a, b, fun q => iv_im_congr (c q) (by omega) (fun i j i0 i1 j0 => hf _ _ (by unfold iv_o; omega)) (fun j j0 j1 => hf _ _ (by unfold iv_o; omega))⟩
  · rw [hf 124 27 (by unfold iv_o; omega), e11]; exact r1
  · omega
  · omega
  · intro r r0 r1'
    obtain ⟨W, hw⟩ := r4 r r0 (by omega)
    exact ⟨W, iv_rx_congr hw (fun j => hf _ _ (by unfold iv_o; omega)) (hf _ _ (by unfold iv_o; omega)) (fun j _ _ => ⟨hf _ _ (by unfold iv_o; omega), hf _ _ (by unfold iv_o; omega)⟩) (hf _ _ (by unfold iv_o; omega)) (fun j _ _ => ⟨hf _ _ (by unfold iv_o; omega), hf _ _ (by unfold iv_o; omega), hf _ _ (by unfold iv_o; omega)⟩)⟩
  · refine ⟨by rw [hf 124 32 (by unfold iv_o; omega)]; exact k1.1, fun y y0 y1 => ?_, fun c c0 c1 => ?_⟩
    · obtain ⟨s1, s2, s3, s4, s5⟩ := k1.2.1 y y0 y1
      rw [hf 132 y (by unfold iv_o; omega), hf 133 y (by unfold iv_o; omega), hf 142 y (by unfold iv_o; omega), hf 143 y (by unfold iv_o; omega)]
      refine ⟨s1, s2, s3, s4, fun k k0 k4 => ?_⟩
      rw [hf 164 (1100 * k + 55 + y) (by unfold iv_o; omega), hf 164 (1100 * k + 58 + y) (by unfold iv_o; omega)]
      exact s5 k k0 k4
    · obtain ⟨s1, s2⟩ := k1.2.2 c c0 c1
      rw [hf 139 c (by unfold iv_o; omega)]
      refine ⟨s1, fun k k0 k4 => ?_⟩
      rw [hf 164 (1100 * k + 94 + c) (by unfold iv_o; omega)]; exact s2 k k0 k4
  · rw [hf 124 43 (by unfold iv_o; omega)]; exact k2
theorem iv_tp_congr {h h' : Int → Int → Int} (ht : iv_tp h) (hf : ∀ k j, iv_t k j → h' k j = h k j) : iv_tp h' := by
  obtain ⟨a, b, c, d⟩ := ht
  have e1 : h' 1 1 = h 1 1 := hf _ _ (by unfold iv_t; omega)
  refine ⟨?_, ?_, ?_, ?_⟩
  · rw [e1, hf 124 23 (by unfold iv_t; omega)]; exact a
  · omega
  · omega
  · intro j j0 j1
    rw [hf 147 j (by unfold iv_t; omega), hf 2 j (by unfold iv_t; omega)]; exact d j j0 (by omega)
theorem iv_now_congr {h h' : Int → Int → Int} (hn : iv_now h) (hf : ∀ k j, iv_n k j → h' k j = h k j) : iv_now h' := by
  refine iv_w_congr hn (by rw [hf 11 3 (by unfold iv_n; omega)]; omega) (fun i j c => hf _ _ (Or.inl (by have := cr_i c; omega))) ?_ ?_ ?_ ?_ ?_ ?_ ?_ ?_ ?_ (hf _ _ (by unfold iv_n; omega)) ?_ ?_ ?_ ?_ ?_ ?_ ?_
  all_goals exact fun j j0 j1 => hf _ _ (by unfold iv_n; omega)
theorem iv_same {h h' : Int → Int → Int} (hi : iv_h h) (hf : ∀ k j, (iv_o k j ∨ iv_n k j ∨ iv_t k j) → h' k j = h k j) : iv_h h' :=
  iv_keep hi (iv_tp_congr hi.1 fun k j q => hf k j (.inr (.inr q))) (iv_now_congr hi.2.1 fun k j q => hf k j (.inr (.inl q))) fun k j q => hf k j (.inl q)
