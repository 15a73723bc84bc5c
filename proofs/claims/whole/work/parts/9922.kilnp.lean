/-! the pair kiln -/
theorem iv_kiln {h x g T : Int → Int → Int} (hi : iv_h h) (td : iv_td T) (T3 : 3 ≤ T 0 0) (xf : ∀ k j, ¬ (k = 1 ∧ 1 ≤ j ∧ j ≤ 6) → ¬ (4 ≤ k ∧ k ≤ 10) → ¬ (25 ≤ k ∧ k ≤ 31) → k ≠ 33 → ¬ (k = 24 ∧ (j = 3 ∨ j = 4 ∨ j = 7)) → x k j = h k j) (x1 : x 1 1 = 0) (xn : nowT T x)
    (gf : ∀ k j, ¬ (125 ≤ k ∧ k ≤ 136) → k ≠ 139 → ¬ (k = 124 ∧ (j = 48 ∨ (23 ≤ j ∧ j ≤ 25) ∨ (28 ≤ j ∧ j ≤ 30))) → ¬ (140 ≤ k ∧ k ≤ 146) → g k j = x k j) (g23 : g 124 23 = 0) (g10 : g 125 10 = x 125 10 ∧ g 125 11 = x 125 11) (gn : mNow T g) (gb : mB g) : iv_h g := by
  obtain ⟨n1, n2, n3, n4, ⟨J, n5⟩, n6, n7, n8⟩ := xn
  obtain ⟨⟨s0, s1, s2, s3, s4⟩, ⟨s5, s6, s7, s8, s9⟩, mc, m130, m131, m132, m134, m48, mbb⟩ := gn
  have td' := td
  obtain ⟨b1, b2, b3, b4, b5, b6, b7, b8⟩ := td
  have X : ∀ k j, k ≤ 123 → g k j = x k j := fun k j e => gf k j (by omega) (by omega) (by omega) (by omega)
  have X28 : x 28 = g 28 := funext fun j => (X 28 j (by omega)).symm
  have X26 : x 26 = g 26 := funext fun j => (X 26 j (by omega)).symm
  have T25 : ∀ j, 0 ≤ j → j ≤ 4 → g 25 j = T 0 j := fun j a b => by rw [X _ _ (by omega)]; exact n1 j a b
  have t0 := T25 0 (by omega) (by omega)
  have t1 := T25 1 (by omega) (by omega)
  have t2 := T25 2 (by omega) (by omega)
  have t3 := T25 3 (by omega) (by omega)
  have t4 := T25 4 (by omega) (by omega)
  have T26 : ∀ y, 0 ≤ y → y < 3 → g 26 y = T 1 y ∧ g 27 y = T 2 y := fun y a b => by rw [X _ _ (by omega), X _ _ (by omega)]; exact n2 y a b
  have T28 : ∀ c, 0 ≤ c → c < 9 → g 28 c = T 3 c := fun y a b => by rw [X _ _ (by omega)]; exact n3 y a b
  have T29 : ∀ r, 0 ≤ r → r < 4 → g 29 r = T 4 r ∧ g 30 r = T 5 r ∧ g 31 r = T 6 r := fun y a b => by rw [X _ _ (by omega), X _ _ (by omega), X _ _ (by omega)]; exact n4 y a b
  have e5 : g 24 5 = h 24 5 := by rw [X _ _ (by omega)]; exact xf _ _ (by omega) (by omega) (by omega) (by omega) (by omega)
  have e6 : g 24 6 = h 24 6 := by rw [X _ _ (by omega)]; exact xf _ _ (by omega) (by omega) (by omega) (by omega) (by omega)
  have e11 : g 11 3 = h 11 3 := by rw [X _ _ (by omega)]; exact xf _ _ (by omega) (by omega) (by omega) (by omega) (by omega)
  have d10 : g 125 10 = h 125 10 := by rw [g10.1]; exact xf _ _ (by omega) (by omega) (by omega) (by omega) (by omega)
  have d11 : g 125 11 = h 125 11 := by rw [g10.2]; exact xf _ _ (by omega) (by omega) (by omega) (by omega) (by omega)
  have z3 : g 24 3 = 0 := by rw [X _ _ (by omega)]; exact n6
  have z4 : g 24 4 = 0 := by rw [X _ _ (by omega)]; exact n7
  have z7 : g 24 7 = 0 := by rw [X _ _ (by omega)]; exact n8
  have g33 : g 33 = bg (T 0 1) (T 0 4) (g 28) (g 26) J := by
    rw [← X28, ← X26, ← n5]; exact funext fun j => X 33 j (by omega)
  obtain ⟨a7, a8, c2, c3⟩ : h 125 10 = h 24 6 ∧ h 125 11 = h 24 5 ∧ (-1 ≤ h 24 5 ∧ h 24 5 < h 11 3) ∧ (0 ≤ h 24 6 ∧ h 24 6 < 2147483648) := by
    obtain ⟨⟨a1, a2, a3, a4, a5, a6, a7, a8, a9⟩, ⟨b1, b2, b3, b4, b5, b6, b7, b8⟩, c1, c2, c3, c4, c5, c6, c7, c8, c9, c10, ⟨⟨m1, m2, m3, m4, m5, m6, m7⟩, ⟨g1, g2, g3, g4, g5, g6, g7, g8⟩, g9⟩, r1, tp⟩ := iv_get hi; exact ⟨a7, a8, c2, c3⟩
  have tfT : tf (T 0 0) (T 0 1) (T 0 4) (T 0 2) (g 28) (g 26) (g 27) := by
    refine ⟨by omega, b2, b3, ?_, fun y y0 y1 => ?_, fun c c0 c1 => by rw [T28 c c0 c1]; exact b7 c c0 c1⟩
    · rcases b5 with e | e
      · exact .inl e
      · exact .inr ⟨e.1, e.2.1, by rw [T28 _ e.1 (by omega)]; exact e.2.2⟩
    · have := b6 y y0 y1
      rw [(T26 y y0 (by omega)).1, (T26 y y0 (by omega)).2]; omega
  have tdg : iv_td (fun i j => g (24 + (1 + i)) j) := by
    have E0 : ∀ j, 0 ≤ j → j ≤ 4 → g (24 + (1 + 0)) j = T 0 j := T25
    have E3 : ∀ c, 0 ≤ c → c < 9 → g (24 + (1 + 3)) c = T 3 c := T28
    have E1 : ∀ y, 0 ≤ y → y < 3 → g (24 + (1 + 1)) y = T 1 y := fun y a b => (T26 y a b).1
    have E2 : ∀ y, 0 ≤ y → y < 3 → g (24 + (1 + 2)) y = T 2 y := fun y a b => (T26 y a b).2
    have E4 : ∀ r, 0 ≤ r → r < 4 → g (24 + (1 + 4)) r = T 4 r := fun y a b => (T29 y a b).1
    have E5 : ∀ r, 0 ≤ r → r < 4 → g (24 + (1 + 5)) r = T 5 r := fun y a b => (T29 y a b).2.1
    have E6 : ∀ r, 0 ≤ r → r < 4 → g (24 + (1 + 6)) r = T 6 r := fun y a b => (T29 y a b).2.2
    unfold iv_td
    dsimp only
    rw [E0 0 (by omega) (by omega), E0 1 (by omega) (by omega), E0 2 (by omega) (by omega), E0 3 (by omega) (by omega), E0 4 (by omega) (by omega)]
    refine ⟨b1, b2, b3, b4, ?_, fun y y0 y1 => ?_, fun c c0 c1 => ?_, fun r r0 r1 => ?_⟩
    · rcases b5 with e | e
      · exact .inl e
      · exact .inr ⟨e.1, e.2.1, by rw [E3 _ e.1 (by omega)]; exact e.2.2⟩
    · rw [E1 y y0 (by omega), E2 y y0 (by omega)]; exact b6 y y0 y1
    · rw [E3 c c0 c1]; exact b7 c c0 c1
    · rw [E4 r r0 (by omega), E5 r r0 (by omega), E6 r r0 (by omega)]; exact b8 r r0 r1
  have GD : iv_gd (T 0 0) (T 0 2) (g 33) := by rw [g33]; exact bg_gd tfT J
  have MO : iv_mo (T 0 0) (g 33) (g 126) (g 127) (g 128) (g 129) (g 130) (g 131) (g 125 5) (g 125 6) (g 125 7) (g 125 8) := by
    rw [g33, s5, s6, s7, s8]
    refine ⟨by simp [bg], by simp [bg], by simp [bg], by simp [bg], fun y y0 y1 => ?_, fun y y0 y1 => ?_, fun c c0 c1 => ?_⟩
    · rw [m130 y y0 y1]; unfold bg; rw [if_neg (by omega), if_neg (by omega), if_neg (by omega), if_neg (by omega), if_neg (by omega), if_neg (by omega), if_neg (by omega)]
    · intro _; rw [m131 y y0 y1]; unfold bg; rw [if_neg (by omega), if_neg (by omega), if_neg (by omega), if_pos (by omega)]
    · have c9 : c < 9 := by omega
      obtain ⟨q1, q2, q3, q4, q5⟩ := mc c c0 c9
      have s := b7 c c0 c9
      rw [q2, q3, q4, q5]
      refine ⟨?_, ?_, ?_, ?_⟩
      · unfold bg; rw [if_neg (by omega), if_neg (by omega), if_neg (by omega), if_neg (by omega), if_pos (by omega), show 11 + c - 11 = c by omega]; exact T28 c c0 c9
      · unfold bg; rw [if_neg (by omega), if_neg (by omega), if_neg (by omega), if_neg (by omega), if_neg (by omega), if_pos (by omega), show 20 + c - 20 = c by omega, T28 c c0 c9]
        by_cases v : T 3 c = -1
        · rw [if_pos v, if_pos v]
        · rw [if_neg v, if_neg v, (m132 (T 3 c) (by omega) (by omega)).1, (T26 (T 3 c) (by omega) (by omega)).1]
      · unfold bg; rw [if_neg (by omega), if_neg (by omega), if_neg (by omega), if_neg (by omega), if_neg (by omega), if_neg (by omega), if_neg (by omega)]
      · unfold bg; rw [if_neg (by omega), if_neg (by omega), if_neg (by omega), if_neg (by omega), if_neg (by omega), if_neg (by omega)]
        by_cases v : c = T 0 4
        · rw [if_pos v, if_pos (by omega)]
        · rw [if_neg v, if_neg (by omega)]
  refine iv_keep3 hi ⟨?_, ?_, ?_, ?_⟩ ⟨?_, tdg, ?_, ?_, ?_, ?_, ?_, ?_, ?_, ?_, ?_, ?_, ⟨?_, ?_, ?_⟩, ?_⟩ ?_ ?_ ?_
  · rw [X _ _ (by omega), x1, g23]
  · rw [X _ _ (by omega), x1]; omega
  · rw [X _ _ (by omega), x1]; omega
  · intro j j0 j1; rw [X _ _ (by omega), x1] at j1; omega
  · simp only [Int.reduceAdd]
    refine ⟨?_, ?_, ?_, ?_, ?_, ?_, ?_, ?_, ?_⟩
    · rw [s0, t0]
    · rw [s1, t2]
    · rw [s2, t3]
    · rw [s3, t4]
    · rw [s4, t1]
    · show g 125 9 = g 24 7; rw [s9, z7]
    · show g 125 10 = g 24 6; rw [d10, e6]; exact a7
    · show g 125 11 = g 24 5; rw [d11, e5]; exact a8
    · show g 124 48 = g 24 4; rw [m48, z4]
  · intro _; exact ⟨z7, z4⟩
  · show -1 ≤ g 24 5 ∧ g 24 5 < g 11 3; rw [e5, e11]; exact c2
  · show 0 ≤ g 24 6 ∧ g 24 6 < 2147483648; rw [e6]; exact c3
  · show 0 ≤ g 24 7 ∧ g 24 7 ≤ 10; rw [z7]; omega
  · show 0 ≤ g 24 4 ∧ g 24 4 ≤ 20; rw [z4]; omega
  · show 0 ≤ g 24 3 ∧ g 24 3 < 20; rw [z3]; omega
  · intro y y0 y1
    have y1' : y < T 0 2 := by have : y < g 25 2 := y1; omega
    show g 26 y = g 132 y ∧ g 27 y = g 133 y
    rw [(T26 y y0 (by omega)).1, (T26 y y0 (by omega)).2, (m132 y y0 y1').1, (m132 y y0 y1').2]; exact ⟨rfl, rfl⟩
  · intro c c0 c1
    have c1' : c < T 0 0 := by have : c < g 25 0 := c1; omega
    show g 28 c = g 139 c
    rw [T28 c c0 (by omega), (mc c c0 (by omega)).1]
  · intro r r0 r1
    have r1' : r < T 0 3 := by have : r < g 25 3 := r1; omega
    show g 29 r = g 134 r ∧ g 30 r = g 135 r ∧ g 31 r = g 136 r
    have q := m134 r r0 r1'
    have p := T29 r r0 (by omega)
    rw [q.1, q.2.1, q.2.2, p.1, p.2.1, p.2.2]; exact ⟨rfl, rfl, rfl⟩
  · intro i i0 i1
    have : i < g 24 7 := i1
    omega
  · show iv_mo (g 25 0) (g 33) _ _ _ _ _ _ _ _ _ _; rw [t0]; exact MO
  · show iv_gd (g 25 0) (g 25 2) (g 33); rw [t0, t2]; exact GD
  · show g 33 0 ≤ 999; rw [g33]; simp [bg]
  · intro i i0 i1
    have : i < g 24 4 := i1
    omega
  · intro k j q
    unfold iv_p at q
    rw [gf k j (by omega) (by omega) (by omega) (by omega)]
    exact xf k j (by omega) (by omega) (by omega) (by omega) (by omega)
  · intro y y0 y1
    exact ⟨(mbb y y0 y1).1, (mbb y y0 y1).2, (gb y y0 y1).1, (gb y y0 y1).2⟩
  · intro c c0 c1
    rw [(mc c c0 c1).1]; have := b7 c c0 c1; omega
theorem iv_fault {h g : Int → Int → Int} (hi : iv_h h) (gf : ∀ k j, ¬ (k = 1 ∧ 1 ≤ j ∧ j ≤ 6) → ¬ (4 ≤ k ∧ k ≤ 10) → ¬ (k = 124 ∧ ((23 ≤ j ∧ j ≤ 25) ∨ (28 ≤ j ∧ j ≤ 30))) → ¬ (140 ≤ k ∧ k ≤ 146) → g k j = h k j) (g1 : g 1 1 = 0) (g23 : g 124 23 = 0) (gb : mB g) : iv_h g := by
  have st := hi.2.2.2.2.1.2
  refine iv_keep3 hi ⟨by rw [g1, g23], by omega, by omega, fun j j0 j1 => by omega⟩ (iv_now_congr hi.2.1 fun k j q => ?_) (fun k j q => ?_) (fun y y0 y1 => ?_) (fun c c0 c1 => ?_)
  · unfold iv_n at q; exact gf k j (by omega) (by omega) (by omega) (by omega)
  · unfold iv_p at q; exact gf k j (by omega) (by omega) (by omega) (by omega)
  · obtain ⟨s1, s2, -⟩ := st.1 y y0 y1
    rw [gf 132 y (by omega) (by omega) (by omega) (by omega), gf 133 y (by omega) (by omega) (by omega) (by omega)]
    exact ⟨s1, s2, (gb y y0 y1).1, (gb y y0 y1).2⟩
  · rw [gf 139 c (by omega) (by omega) (by omega) (by omega)]; exact (st.2 c c0 c1).1
set_option maxRecDepth 100000 in
set_option maxHeartbeats 4000000 in
theorem pr_kiln : lw_pair Inv 0 124 0 115 156 := by
  refine iv_p0 fun h hi => ?_
  unfold iv_ok
  have tp := hi.1
  have st := hi.2.2.2.2.1.2.1
  have t : tx (h 2) (h 1 1) := ⟨⟨tp.2.1, tp.2.2.1⟩, fun j j0 j1 => (tp.2.2.2 j j0 j1).2⟩
  have mb : mB h := fun y y0 y1 => ⟨(st y y0 y1).2.2.1, (st y y0 y1).2.2.2.1⟩
  have mt : tm (h 2) (h 1 1) h := ⟨tp.1.symm, fun j j0 j1 => (tp.2.2.2 j j0 j1).1⟩
  have KN := kall_nn (b := h 2) (N := h 1 1) 41 0 (sk (h 2) (h 1 1) 0) (T0 h) (by omega) (sk_ge _ _ _) (sk_le tp.2.1) (T0_td h)
  have raa := fun (x : Int → Int → Int) m1 m2 Q => m_readsAll (h := h) (x := x) t m1 m2 (d := 32) (Q := Q)
  have rdd := fun Q => c_read (h := h) t (d := 34) (Q := Q)
  generalize kall (h 2) (h 1 1) 41 0 (sk (h 2) (h 1 1) 0) (T0 h) = K at *
  obtain ⟨f, T⟩ := K
  dsimp only at *
  simp (disch := omega) only [ax_ev, ax_kk, ax_ps, ax_r_const, ax_r_lconst, ax_r_str, ax_r_iload, ax_r_lload, ax_r_aload, ax_r_istore, ax_r_astore, ax_r_lstore, ax_r_iinc, ax_r_iadd, ax_r_isub, ax_r_imul, ax_r_idiv, ax_r_irem, ax_r_iand, ax_r_ior, ax_r_ishl, ax_r_ishr, ax_r_iushr, ax_r_i2l, ax_r_l2i, ax_r_i2b, ax_r_ladd, ax_r_lsub, ax_r_lmul, ax_r_ldiv, ax_r_lrem, ax_r_land, ax_r_lor, ax_r_lcmp, ax_r_ifeq, ax_r_ifne, ax_r_iflt, ax_r_ifge, ax_r_ifgt, ax_r_ifle, ax_r_iceq, ax_r_icne, ax_r_iclt, ax_r_icge, ax_r_icgt, ax_r_icle, ax_r_goto, ax_r_tsw, ax_evt_c, ax_evt_n, ax_r_lsw, ax_evu_c, ax_evu_n, ax_r_getI, ax_r_getR, ax_r_putI, ax_r_putZ, ax_r_iald, ax_r_iast, ax_r_lald, ax_r_last, ax_r_bald, ax_r_aald, ax_r_alen, ax_r_bast, ax_r_min, ax_r_max, ax_r_minl, ax_r_maxl, ax_r_copy, ax_r_slen, ax_r_schr, ax_r_dup, ax_r_dup2, ax_r_pop, ax_r_ret, ax_r_lret, ax_r_vret, ax_r_zret, ax_r_aret, ax_r_call, ax_evo, ax_eva, ax_ar, ax_tk, ax_ex, ax_ld, ax_sto, ax_stl, ly_pm, ly_cd, ly_ln, ly_rf, Option.bind_some, Option.map_some, if_true, if_false, true_and, and_true, List.nil_append, List.cons_append, List.append_nil, List.length_nil, List.length_cons, List.headD_cons, true_or, or_true, false_or, or_false, ne_eq, not_false_eq_true, not_true_eq_false, false_and, and_false, List.set_cons_zero, List.set_cons_succ, Nat.reduceAdd, Nat.reduceSub, Nat.reduceMul, Nat.reduceLeDiff, Nat.reduceLT, Nat.reduceEqDiff, ↓reduceIte, Int.reduceNeg, Int.reduceAdd, Int.reduceSub, Int.reduceMul, Int.reduceEq, Int.reduceNe, Int.reduceLE, Int.reduceLT, Int.reduceToNat, Nat.one_ne_zero, Nat.zero_ne_one, Int.cast_ofNat_Int, lc_lt, lc_ge, lc_gt, lc_le, lc_eq, lc_ne, w32i, w64i, tdv, tmd, ltT, ltF, leT, leF, eqT, eqF, dc_RingKiln_kiln, List.map_nil]
  refine rdd _ ?_
  intro g c1 c2 c3
  rw [ax_kk]
  by_cases z : f = 0
  · obtain ⟨td, T3⟩ := KN.2 z
    have tc := c3 z
    have tc' : TC T (ax_up g 1 1 0) := fun i j i0 i1 => by rw [ax_up_no (by omega)]; exact tc i j i0 i1
    subst z
    simp (disch := omega) only [ax_ev, ax_kk, ax_ps, ax_r_const, ax_r_lconst, ax_r_str, ax_r_iload, ax_r_lload, ax_r_aload, ax_r_istore, ax_r_astore, ax_r_lstore, ax_r_iinc, ax_r_iadd, ax_r_isub, ax_r_imul, ax_r_idiv, ax_r_irem, ax_r_iand, ax_r_ior, ax_r_ishl, ax_r_ishr, ax_r_iushr, ax_r_i2l, ax_r_l2i, ax_r_i2b, ax_r_ladd, ax_r_lsub, ax_r_lmul, ax_r_ldiv, ax_r_lrem, ax_r_land, ax_r_lor, ax_r_lcmp, ax_r_ifeq, ax_r_ifne, ax_r_iflt, ax_r_ifge, ax_r_ifgt, ax_r_ifle, ax_r_iceq, ax_r_icne, ax_r_iclt, ax_r_icge, ax_r_icgt, ax_r_icle, ax_r_goto, ax_r_tsw, ax_evt_c, ax_evt_n, ax_r_lsw, ax_evu_c, ax_evu_n, ax_r_getI, ax_r_getR, ax_r_putI, ax_r_putZ, ax_r_iald, ax_r_iast, ax_r_lald, ax_r_last, ax_r_bald, ax_r_aald, ax_r_alen, ax_r_bast, ax_r_min, ax_r_max, ax_r_minl, ax_r_maxl, ax_r_copy, ax_r_slen, ax_r_schr, ax_r_dup, ax_r_dup2, ax_r_pop, ax_r_ret, ax_r_lret, ax_r_vret, ax_r_zret, ax_r_aret, ax_r_call, ax_evo, ax_eva, ax_ar, ax_tk, ax_ex, ax_ld, ax_sto, ax_stl, ly_pm, ly_cd, ly_ln, ly_rf, Option.bind_some, Option.map_some, if_true, if_false, true_and, and_true, List.nil_append, List.cons_append, List.append_nil, List.length_nil, List.length_cons, List.headD_cons, true_or, or_true, false_or, or_false, ne_eq, not_false_eq_true, not_true_eq_false, false_and, and_false, List.set_cons_zero, List.set_cons_succ, Nat.reduceAdd, Nat.reduceSub, Nat.reduceMul, Nat.reduceLeDiff, Nat.reduceLT, Nat.reduceEqDiff, ↓reduceIte, Int.reduceNeg, Int.reduceAdd, Int.reduceSub, Int.reduceMul, Int.reduceEq, Int.reduceNe, Int.reduceLE, Int.reduceLT, Int.reduceToNat, Nat.one_ne_zero, Nat.zero_ne_one, Int.cast_ofNat_Int, lc_lt, lc_ge, lc_gt, lc_le, lc_eq, lc_ne, w32i, w64i, tdv, tmd, ltT, ltF, leT, leF, eqT, eqF, dc_RingKiln_kiln, List.map_nil]
    refine c_start tc' td ?_
    intro x f1 xn
    have xf : ∀ k j, ¬ (k = 1 ∧ 1 ≤ j ∧ j ≤ 6) → ¬ (4 ≤ k ∧ k ≤ 10) → ¬ (25 ≤ k ∧ k ≤ 31) → k ≠ 33 → ¬ (k = 24 ∧ (j = 3 ∨ j = 4 ∨ j = 7)) → x k j = h k j := fun k j e1 e2 e3 e4 e5 => by
      rw [f1 k j e3 e4 e5, ax_up_no (by omega)]; exact c1 k j (by omega) e2
    have x1 : x 1 1 = 0 := by rw [f1 _ _ (by omega) (by omega) (by omega), ax_up_eq]
    have x2 : x 25 2 = T 0 2 := xn.1 2 (by omega) (by omega)
    have xm : tm (h 2) (h 1 1) x := ⟨by rw [xf _ _ (by omega) (by omega) (by omega) (by omega) (by omega)]; exact mt.1, fun j j0 j1 => by rw [xf _ _ (by omega) (by omega) (by omega) (by omega) (by omega)]; exact mt.2 j j0 j1⟩
    have xb : mB x := fun y y0 y1 => by rw [xf 142 y (by omega) (by omega) (by omega) (by omega) (by omega), xf 143 y (by omega) (by omega) (by omega) (by omega) (by omega)]; exact mb y y0 y1
    rw [ax_kk]
    simp (disch := omega) only [ax_ev, ax_kk, ax_ps, ax_r_const, ax_r_lconst, ax_r_str, ax_r_iload, ax_r_lload, ax_r_aload, ax_r_istore, ax_r_astore, ax_r_lstore, ax_r_iinc, ax_r_iadd, ax_r_isub, ax_r_imul, ax_r_idiv, ax_r_irem, ax_r_iand, ax_r_ior, ax_r_ishl, ax_r_ishr, ax_r_iushr, ax_r_i2l, ax_r_l2i, ax_r_i2b, ax_r_ladd, ax_r_lsub, ax_r_lmul, ax_r_ldiv, ax_r_lrem, ax_r_land, ax_r_lor, ax_r_lcmp, ax_r_ifeq, ax_r_ifne, ax_r_iflt, ax_r_ifge, ax_r_ifgt, ax_r_ifle, ax_r_iceq, ax_r_icne, ax_r_iclt, ax_r_icge, ax_r_icgt, ax_r_icle, ax_r_goto, ax_r_tsw, ax_evt_c, ax_evt_n, ax_r_lsw, ax_evu_c, ax_evu_n, ax_r_getI, ax_r_getR, ax_r_putI, ax_r_putZ, ax_r_iald, ax_r_iast, ax_r_lald, ax_r_last, ax_r_bald, ax_r_aald, ax_r_alen, ax_r_bast, ax_r_min, ax_r_max, ax_r_minl, ax_r_maxl, ax_r_copy, ax_r_slen, ax_r_schr, ax_r_dup, ax_r_dup2, ax_r_pop, ax_r_ret, ax_r_lret, ax_r_vret, ax_r_zret, ax_r_aret, ax_r_call, ax_evo, ax_eva, ax_ar, ax_tk, ax_ex, ax_ld, ax_sto, ax_stl, ly_pm, ly_cd, ly_ln, ly_rf, Option.bind_some, Option.map_some, if_true, if_false, true_and, and_true, List.nil_append, List.cons_append, List.append_nil, List.length_nil, List.length_cons, List.headD_cons, true_or, or_true, false_or, or_false, ne_eq, not_false_eq_true, not_true_eq_false, false_and, and_false, List.set_cons_zero, List.set_cons_succ, Nat.reduceAdd, Nat.reduceSub, Nat.reduceMul, Nat.reduceLeDiff, Nat.reduceLT, Nat.reduceEqDiff, ↓reduceIte, Int.reduceNeg, Int.reduceAdd, Int.reduceSub, Int.reduceMul, Int.reduceEq, Int.reduceNe, Int.reduceLE, Int.reduceLT, Int.reduceToNat, Nat.one_ne_zero, Nat.zero_ne_one, Int.cast_ofNat_Int, lc_lt, lc_ge, lc_gt, lc_le, lc_eq, lc_ne, w32i, w64i, tdv, tmd, ltT, ltF, leT, leF, eqT, eqF, dc_RingKiln_kiln, List.map_nil, x2]
    simp (disch := omega) only [ax_ev, ax_kk, ax_ps, ax_r_const, ax_r_lconst, ax_r_str, ax_r_iload, ax_r_lload, ax_r_aload, ax_r_istore, ax_r_astore, ax_r_lstore, ax_r_iinc, ax_r_iadd, ax_r_isub, ax_r_imul, ax_r_idiv, ax_r_irem, ax_r_iand, ax_r_ior, ax_r_ishl, ax_r_ishr, ax_r_iushr, ax_r_i2l, ax_r_l2i, ax_r_i2b, ax_r_ladd, ax_r_lsub, ax_r_lmul, ax_r_ldiv, ax_r_lrem, ax_r_land, ax_r_lor, ax_r_lcmp, ax_r_ifeq, ax_r_ifne, ax_r_iflt, ax_r_ifge, ax_r_ifgt, ax_r_ifle, ax_r_iceq, ax_r_icne, ax_r_iclt, ax_r_icge, ax_r_icgt, ax_r_icle, ax_r_goto, ax_r_tsw, ax_evt_c, ax_evt_n, ax_r_lsw, ax_evu_c, ax_evu_n, ax_r_getI, ax_r_getR, ax_r_putI, ax_r_putZ, ax_r_iald, ax_r_iast, ax_r_lald, ax_r_last, ax_r_bald, ax_r_aald, ax_r_alen, ax_r_bast, ax_r_min, ax_r_max, ax_r_minl, ax_r_maxl, ax_r_copy, ax_r_slen, ax_r_schr, ax_r_dup, ax_r_dup2, ax_r_pop, ax_r_ret, ax_r_lret, ax_r_vret, ax_r_zret, ax_r_aret, ax_r_call, ax_evo, ax_eva, ax_ar, ax_tk, ax_ex, ax_ld, ax_sto, ax_stl, ly_pm, ly_cd, ly_ln, ly_rf, Option.bind_some, Option.map_some, if_true, if_false, true_and, and_true, List.nil_append, List.cons_append, List.append_nil, List.length_nil, List.length_cons, List.headD_cons, true_or, or_true, false_or, or_false, ne_eq, not_false_eq_true, not_true_eq_false, false_and, and_false, List.set_cons_zero, List.set_cons_succ, Nat.reduceAdd, Nat.reduceSub, Nat.reduceMul, Nat.reduceLeDiff, Nat.reduceLT, Nat.reduceEqDiff, ↓reduceIte, Int.reduceNeg, Int.reduceAdd, Int.reduceSub, Int.reduceMul, Int.reduceEq, Int.reduceNe, Int.reduceLE, Int.reduceLT, Int.reduceToNat, Nat.one_ne_zero, Nat.zero_ne_one, Int.cast_ofNat_Int, lc_lt, lc_ge, lc_gt, lc_le, lc_eq, lc_ne, w32i, w64i, tdv, tmd, ltT, ltF, leT, leF, eqT, eqF, dc_M_kiln]
    refine raa x xm xb _ ?_
    intro g2 f2 b2 q23 q25 q3
    rw [ax_kk]
    refine m_start (d := 38) (q3 rfl) b2 td q25 ?_
    intro g3 f3 q10 gn
    refine ⟨rfl, iv_mk (iv_kiln hi td T3 xf x1 xn (fun k j e1 e2 e3 e4 => ?_) ?_ ?_ gn ?_)⟩
    · rw [f3 k j e1 e2 (by omega)]; exact f2 k j (by omega) e4
    · rw [f3 _ _ (by omega) (by omega) (by omega)]; exact q23
    · rw [q10.1, q10.2]; exact ⟨f2 _ _ (by omega) (by omega), f2 _ _ (by omega) (by omega)⟩
    · intro y y0 y1; rw [f3 142 y (by omega) (by omega) (by omega), f3 143 y (by omega) (by omega) (by omega)]; exact b2 y y0 y1
  · have fp : 0 < f := by omega
    obtain ⟨x, hx⟩ : ∃ x, x = ax_up g 1 1 0 := ⟨_, rfl⟩
    have xf : ∀ k j, ¬ (k = 1 ∧ 1 ≤ j ∧ j ≤ 6) → ¬ (4 ≤ k ∧ k ≤ 10) → x k j = h k j := fun k j e1 e2 => by
      rw [hx, ax_up_no (by omega)]; exact c1 k j (by omega) e2
    have x1 : x 1 1 = 0 := by rw [hx, ax_up_eq]
    have xm : tm (h 2) (h 1 1) x := ⟨by rw [xf _ _ (by omega) (by omega)]; exact mt.1, fun j j0 j1 => by rw [xf _ _ (by omega) (by omega)]; exact mt.2 j j0 j1⟩
    have xb : mB x := fun y y0 y1 => by rw [xf 142 y (by omega) (by omega), xf 143 y (by omega) (by omega)]; exact mb y y0 y1
    simp (disch := omega) only [ax_ev, ax_kk, ax_ps, ax_r_const, ax_r_lconst, ax_r_str, ax_r_iload, ax_r_lload, ax_r_aload, ax_r_istore, ax_r_astore, ax_r_lstore, ax_r_iinc, ax_r_iadd, ax_r_isub, ax_r_imul, ax_r_idiv, ax_r_irem, ax_r_iand, ax_r_ior, ax_r_ishl, ax_r_ishr, ax_r_iushr, ax_r_i2l, ax_r_l2i, ax_r_i2b, ax_r_ladd, ax_r_lsub, ax_r_lmul, ax_r_ldiv, ax_r_lrem, ax_r_land, ax_r_lor, ax_r_lcmp, ax_r_ifeq, ax_r_ifne, ax_r_iflt, ax_r_ifge, ax_r_ifgt, ax_r_ifle, ax_r_iceq, ax_r_icne, ax_r_iclt, ax_r_icge, ax_r_icgt, ax_r_icle, ax_r_goto, ax_r_tsw, ax_evt_c, ax_evt_n, ax_r_lsw, ax_evu_c, ax_evu_n, ax_r_getI, ax_r_getR, ax_r_putI, ax_r_putZ, ax_r_iald, ax_r_iast, ax_r_lald, ax_r_last, ax_r_bald, ax_r_aald, ax_r_alen, ax_r_bast, ax_r_min, ax_r_max, ax_r_minl, ax_r_maxl, ax_r_copy, ax_r_slen, ax_r_schr, ax_r_dup, ax_r_dup2, ax_r_pop, ax_r_ret, ax_r_lret, ax_r_vret, ax_r_zret, ax_r_aret, ax_r_call, ax_evo, ax_eva, ax_ar, ax_tk, ax_ex, ax_ld, ax_sto, ax_stl, ly_pm, ly_cd, ly_ln, ly_rf, Option.bind_some, Option.map_some, if_true, if_false, true_and, and_true, List.nil_append, List.cons_append, List.append_nil, List.length_nil, List.length_cons, List.headD_cons, true_or, or_true, false_or, or_false, ne_eq, not_false_eq_true, not_true_eq_false, false_and, and_false, List.set_cons_zero, List.set_cons_succ, Nat.reduceAdd, Nat.reduceSub, Nat.reduceMul, Nat.reduceLeDiff, Nat.reduceLT, Nat.reduceEqDiff, ↓reduceIte, Int.reduceNeg, Int.reduceAdd, Int.reduceSub, Int.reduceMul, Int.reduceEq, Int.reduceNe, Int.reduceLE, Int.reduceLT, Int.reduceToNat, Nat.one_ne_zero, Nat.zero_ne_one, Int.cast_ofNat_Int, lc_lt, lc_ge, lc_gt, lc_le, lc_eq, lc_ne, w32i, w64i, tdv, tmd, ltT, ltF, leT, leF, eqT, eqF, dc_RingKiln_kiln, List.map_nil, hx.symm]
    simp (disch := omega) only [ax_ev, ax_kk, ax_ps, ax_r_const, ax_r_lconst, ax_r_str, ax_r_iload, ax_r_lload, ax_r_aload, ax_r_istore, ax_r_astore, ax_r_lstore, ax_r_iinc, ax_r_iadd, ax_r_isub, ax_r_imul, ax_r_idiv, ax_r_irem, ax_r_iand, ax_r_ior, ax_r_ishl, ax_r_ishr, ax_r_iushr, ax_r_i2l, ax_r_l2i, ax_r_i2b, ax_r_ladd, ax_r_lsub, ax_r_lmul, ax_r_ldiv, ax_r_lrem, ax_r_land, ax_r_lor, ax_r_lcmp, ax_r_ifeq, ax_r_ifne, ax_r_iflt, ax_r_ifge, ax_r_ifgt, ax_r_ifle, ax_r_iceq, ax_r_icne, ax_r_iclt, ax_r_icge, ax_r_icgt, ax_r_icle, ax_r_goto, ax_r_tsw, ax_evt_c, ax_evt_n, ax_r_lsw, ax_evu_c, ax_evu_n, ax_r_getI, ax_r_getR, ax_r_putI, ax_r_putZ, ax_r_iald, ax_r_iast, ax_r_lald, ax_r_last, ax_r_bald, ax_r_aald, ax_r_alen, ax_r_bast, ax_r_min, ax_r_max, ax_r_minl, ax_r_maxl, ax_r_copy, ax_r_slen, ax_r_schr, ax_r_dup, ax_r_dup2, ax_r_pop, ax_r_ret, ax_r_lret, ax_r_vret, ax_r_zret, ax_r_aret, ax_r_call, ax_evo, ax_eva, ax_ar, ax_tk, ax_ex, ax_ld, ax_sto, ax_stl, ly_pm, ly_cd, ly_ln, ly_rf, Option.bind_some, Option.map_some, if_true, if_false, true_and, and_true, List.nil_append, List.cons_append, List.append_nil, List.length_nil, List.length_cons, List.headD_cons, true_or, or_true, false_or, or_false, ne_eq, not_false_eq_true, not_true_eq_false, false_and, and_false, List.set_cons_zero, List.set_cons_succ, Nat.reduceAdd, Nat.reduceSub, Nat.reduceMul, Nat.reduceLeDiff, Nat.reduceLT, Nat.reduceEqDiff, ↓reduceIte, Int.reduceNeg, Int.reduceAdd, Int.reduceSub, Int.reduceMul, Int.reduceEq, Int.reduceNe, Int.reduceLE, Int.reduceLT, Int.reduceToNat, Nat.one_ne_zero, Nat.zero_ne_one, Int.cast_ofNat_Int, lc_lt, lc_ge, lc_gt, lc_le, lc_eq, lc_ne, w32i, w64i, tdv, tmd, ltT, ltF, leT, leF, eqT, eqF, dc_M_kiln]
    refine raa x xm xb _ ?_
    intro g2 f2 b2 q23 q25 q3
    rw [ax_kk]
    have F : Inv (L0, g2) := by
      refine iv_mk (iv_fault hi (fun k j e1 e2 e3 e4 => ?_) ?_ q23 b2)
      · rw [f2 k j e3 e4]; exact xf k j e1 e2
      · rw [f2 _ _ (by omega) (by omega)]; exact x1
    clear hi tp st t mb mt KN raa rdd c1 c2 c3 xf xm xb f2 b2 q3
    simp (disch := omega) only [ax_ev, ax_kk, ax_ps, ax_r_const, ax_r_lconst, ax_r_str, ax_r_iload, ax_r_lload, ax_r_aload, ax_r_istore, ax_r_astore, ax_r_lstore, ax_r_iinc, ax_r_iadd, ax_r_isub, ax_r_imul, ax_r_idiv, ax_r_irem, ax_r_iand, ax_r_ior, ax_r_ishl, ax_r_ishr, ax_r_iushr, ax_r_i2l, ax_r_l2i, ax_r_i2b, ax_r_ladd, ax_r_lsub, ax_r_lmul, ax_r_ldiv, ax_r_lrem, ax_r_land, ax_r_lor, ax_r_lcmp, ax_r_ifeq, ax_r_ifne, ax_r_iflt, ax_r_ifge, ax_r_ifgt, ax_r_ifle, ax_r_iceq, ax_r_icne, ax_r_iclt, ax_r_icge, ax_r_icgt, ax_r_icle, ax_r_goto, ax_r_tsw, ax_evt_c, ax_evt_n, ax_r_lsw, ax_evu_c, ax_evu_n, ax_r_getI, ax_r_getR, ax_r_putI, ax_r_putZ, ax_r_iald, ax_r_iast, ax_r_lald, ax_r_last, ax_r_bald, ax_r_aald, ax_r_alen, ax_r_bast, ax_r_min, ax_r_max, ax_r_minl, ax_r_maxl, ax_r_copy, ax_r_slen, ax_r_schr, ax_r_dup, ax_r_dup2, ax_r_pop, ax_r_ret, ax_r_lret, ax_r_vret, ax_r_zret, ax_r_aret, ax_r_call, ax_evo, ax_eva, ax_ar, ax_tk, ax_ex, ax_ld, ax_sto, ax_stl, ly_pm, ly_cd, ly_ln, ly_rf, Option.bind_some, Option.map_some, if_true, if_false, true_and, and_true, List.nil_append, List.cons_append, List.append_nil, List.length_nil, List.length_cons, List.headD_cons, true_or, or_true, false_or, or_false, ne_eq, not_false_eq_true, not_true_eq_false, false_and, and_false, List.set_cons_zero, List.set_cons_succ, Nat.reduceAdd, Nat.reduceSub, Nat.reduceMul, Nat.reduceLeDiff, Nat.reduceLT, Nat.reduceEqDiff, ↓reduceIte, Int.reduceNeg, Int.reduceAdd, Int.reduceSub, Int.reduceMul, Int.reduceEq, Int.reduceNe, Int.reduceLE, Int.reduceLT, Int.reduceToNat, Nat.one_ne_zero, Nat.zero_ne_one, Int.cast_ofNat_Int, lc_lt, lc_ge, lc_gt, lc_le, lc_eq, lc_ne, w32i, w64i, tdv, tmd, ltT, ltF, leT, leF, eqT, eqF, dc_M_kiln, q25]
    exact F
