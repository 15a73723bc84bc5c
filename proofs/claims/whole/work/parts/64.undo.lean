theorem iv_undo {h g : Int → Int → Int} (hi : iv_h h) (ht : ∀ k j, iv_t k j → g k j = h k j) (ho : ∀ k j, iv_o k j → g k j = h k j) (hp : 0 < h 24 4)
    (c3 : g 24 3 = (h 24 3 + 19) % 20) (c4 : g 24 4 = h 24 4 - 1)
    (cp : ∀ j, 0 ≤ j → j < 47 → g 33 j = h 34 (47 * ((h 24 3 + 19) % 20) + j))
    (cc : ∀ k j, (25 ≤ k ∧ k ≤ 31) ∨ (k = 24 ∧ 5 ≤ j ∧ j ≤ 7) ∨ k = 34 ∨ k = 35 ∨ k = 36 → g k j = h k j)
    (m4 : g 124 48 = h 24 4 - 1) (mq : kq g h (47 * (h 24 4 - 1)))
    (mm : ∀ k j, (k = 125 ∧ (0 ≤ j ∧ j ≤ 4 ∨ 9 ≤ j ∧ j ≤ 11)) ∨ (132 ≤ k ∧ k ≤ 139 ∧ 0 ≤ j ∧ j < 10) ∨ k = 157 → g k j = h k j) : iv_h g := by
  refine iv_keep hi (iv_tp_congr hi.1 ht) ?_ ho
  obtain ⟨-, ⟨h1, h2, h3, h4, h5, h6, h7, h8, h9, h10, h11, h12, ⟨h13, k13, l13⟩, h14⟩, -⟩ := hi
  simp only [Int.reduceAdd, Int.add_zero] at h1 h3 h4 h5 h6 h7 h8 h9 h10 h11 h12 h13 k13 l13 h14
  have f0 : g 25 0 = h 25 0 := cc _ _ (by omega)
  have f1 : g 25 1 = h 25 1 := cc _ _ (by omega)
  have f2 : g 25 2 = h 25 2 := cc _ _ (by omega)
  have f3 : g 25 3 = h 25 3 := cc _ _ (by omega)
  have f4 : g 25 4 = h 25 4 := cc _ _ (by omega)
  have f5 : g 24 5 = h 24 5 := cc _ _ (by omega)
  have f6 : g 24 6 = h 24 6 := cc _ _ (by omega)
  have f7 : g 24 7 = h 24 7 := cc _ _ (by omega)
  have f11 : g 11 3 = h 11 3 := ho _ _ (by unfold iv_o; omega)
  obtain ⟨t1, t2, t3, t4, t5, t6, t7, t8⟩ := h2
  simp only [Int.reduceAdd, Int.add_zero] at t1 t2 t3 t4 t5 t6 t7 t8
  have n9 : h 25 0 ≤ 9 := by omega
  have A := h14 0 (by omega) (by omega)
  simp only [Int.sub_zero] at A
  obtain ⟨A1, A2, A3⟩ := A
  refine ⟨?_, ⟨?_, ?_, ?_, ?_, ?_, ?_, ?_, ?_⟩, ?_, ?_, ?_, ?_, ?_, ?_, ?_, ?_, ?_, ?_, ⟨?_, ?_, ?_⟩, ?_⟩
  all_goals simp only [Int.reduceAdd, Int.add_zero]
  · rw [mm 125 0 (by omega), mm 125 1 (by omega), mm 125 2 (by omega), mm 125 3 (by omega), mm 125 4 (by omega), mm 125 9 (by omega), mm 125 10 (by omega), mm 125 11 (by omega), f0, f1, f2, f3, f4, f5, f6, f7, m4, c4]
    exact ⟨h1.1, h1.2.1, h1.2.2.1, h1.2.2.2.1, h1.2.2.2.2.1, h1.2.2.2.2.2.1, h1.2.2.2.2.2.2.1, h1.2.2.2.2.2.2.2.1, rfl⟩
  · rw [f0, f2, f3]; exact t1
  · rw [f1]; exact t2
  · rw [f2]; exact t3
  · rw [f3]; exact t4
  · rw [f4, f0, cc 28 _ (by omega)]; exact t5
  · intro y y0 y1
    rw [f2] at y1
    rw [cc 26 y (by omega), cc 27 y (by omega)]; exact t6 y y0 y1
  · intro y y0 y1
    rw [cc 28 y (by omega), f2, f0]; exact t7 y y0 y1
  · intro y y0 y1
    rw [f3] at y1
    rw [cc 29 y (by omega), cc 30 y (by omega), cc 31 y (by omega), f2]; exact t8 y y0 y1
  · intro q; rw [f0] at q; have := h3 q; omega
  · rw [f5, f11]; exact h4
  · rw [f6]; exact h5
  · rw [f7]; exact h6
  · rw [c4]; omega
  · rw [c3]; omega
  · intro y y0 y1
    rw [f2] at y1
    rw [cc 26 y (by omega), cc 27 y (by omega), mm 132 y (by omega), mm 133 y (by omega)]; exact h9 y y0 y1
  · intro y y0 y1
    rw [f0] at y1
    rw [cc 28 y (by omega), mm 139 y (by omega)]; exact h10 y y0 y1
  · intro y y0 y1
    rw [f3] at y1
    rw [cc 29 y (by omega), cc 30 y (by omega), cc 31 y (by omega), mm 134 y (by omega), mm 135 y (by omega), mm 136 y (by omega)]; exact h11 y y0 y1
  · intro y y0 y1
    rw [f7] at y1
    rw [cc 35 y (by omega), cc 36 y (by omega), mm 137 y (by omega), mm 138 y (by omega), f0]; exact h12 y y0 y1
  · obtain ⟨q1, q2, q3, q4, q5, q6, q7⟩ := mq
    rw [q1, q2, q3, q4] at A1
    rw [f0]
    exact iv_mo_congr n9 A1 cp (fun j j0 j1 => (q5 j j0 j1).1.symm) (fun j j0 j1 => (q5 j j0 j1).2.1.symm) (fun j j0 j1 => (q5 j j0 j1).2.2.1.symm) (fun j j0 j1 => (q5 j j0 j1).2.2.2.symm) (fun j j0 j1 => (q6 j j0 j1).symm) (fun j j0 j1 => (q7 j j0 j1).symm)
  · rw [f0, f2]; exact iv_gd_congr n9 A2 cp
  · rw [cp 0 (by omega) (by omega), Int.add_zero]; exact A3
  · intro i i0 i1
    rw [c4] at i1
    have B := h14 (i + 1) (by omega) (by omega)
    rw [f0, f2, c3, c4, show ((h 24 3 + 19) % 20 + 19 - i) % 20 = (h 24 3 + 19 - (i + 1)) % 20 by omega, show h 24 4 - 1 - 1 - i = h 24 4 - 1 - (i + 1) by omega]
    simp only [funext fun j => cc 34 j (by omega), funext fun j => mm 157 j (by omega)]
    exact B
set_option maxRecDepth 100000 in
set_option maxHeartbeats 4000000 in
theorem pr_undo : lw_pair Inv 0 124 0 127 200 := by
  refine iv_p0 fun h hi => ?_
  have hI : Inv (L0, h) := ⟨rfl, hi⟩
  obtain ⟨a9, c5, c6⟩ : h 124 48 = h 24 4 ∧ (0 ≤ h 24 4 ∧ h 24 4 ≤ 20) ∧ (0 ≤ h 24 3 ∧ h 24 3 < 20) := by
    obtain ⟨⟨a1, a2, a3, a4, a5, a6, a7, a8, a9⟩, ⟨b1, b2, b3, b4, b5, b6, b7, b8⟩, c1, c2, c3, c4, c5, c6, c7, c8, c9, c10, ⟨⟨m1, m2, m3, m4, m5, m6, m7⟩, ⟨g1, g2, g3, g4, g5, g6, g7, g8⟩, g9⟩, r1, tp⟩ := iv_get hi
    exact ⟨a9, c5, c6⟩
  unfold iv_ok
  rcases (by omega : h 24 4 = 0 ∨ 0 < h 24 4) with e | e
  · clear hi
    simp (disch := omega) only [ax_ev, ax_kk, ax_ps, ax_r_const, ax_r_lconst, ax_r_str, ax_r_iload, ax_r_lload, ax_r_aload, ax_r_istore, ax_r_astore, ax_r_lstore, ax_r_iinc, ax_r_iadd, ax_r_isub, ax_r_imul, ax_r_idiv, ax_r_irem, ax_r_iand, ax_r_ior, ax_r_ishl, ax_r_ishr, ax_r_iushr, ax_r_i2l, ax_r_l2i, ax_r_i2b, ax_r_ladd, ax_r_lsub, ax_r_lmul, ax_r_ldiv, ax_r_lrem, ax_r_land, ax_r_lor, ax_r_lcmp, ax_r_ifeq, ax_r_ifne, ax_r_iflt, ax_r_ifge, ax_r_ifgt, ax_r_ifle, ax_r_iceq, ax_r_icne, ax_r_iclt, ax_r_icge, ax_r_icgt, ax_r_icle, ax_r_goto, ax_r_tsw, ax_evt_c, ax_evt_n, ax_r_lsw, ax_evu_c, ax_evu_n, ax_r_getI, ax_r_getR, ax_r_putI, ax_r_putZ, ax_r_iald, ax_r_iast, ax_r_lald, ax_r_last, ax_r_bald, ax_r_aald, ax_r_alen, ax_r_bast, ax_r_min, ax_r_max, ax_r_minl, ax_r_maxl, ax_r_copy, ax_r_slen, ax_r_schr, ax_r_dup, ax_r_dup2, ax_r_pop, ax_r_ret, ax_r_lret, ax_r_vret, ax_r_zret, ax_r_aret, ax_r_call, ax_evo, ax_eva, ax_ar, ax_tk, ax_ex, ax_ld, ax_sto, ax_stl, ly_pm, ly_cd, ly_ln, ly_rf, Option.bind_some, Option.map_some, if_true, if_false, true_and, and_true, List.nil_append, List.cons_append, List.append_nil, List.length_nil, List.length_cons, List.headD_cons, true_or, or_true, false_or, or_false, ne_eq, not_false_eq_true, not_true_eq_false, false_and, and_false, List.set_cons_zero, List.set_cons_succ, Nat.reduceAdd, Nat.reduceSub, Nat.reduceMul, Nat.reduceLeDiff, Nat.reduceLT, Nat.reduceEqDiff, ↓reduceIte, Int.reduceNeg, Int.reduceAdd, Int.reduceSub, Int.reduceMul, Int.reduceEq, Int.reduceNe, Int.reduceLE, Int.reduceLT, Int.reduceToNat, Nat.one_ne_zero, Nat.zero_ne_one, Int.cast_ofNat_Int, lc_lt, lc_ge, lc_gt, lc_le, lc_eq, lc_ne, w32i, w64i, tdv, tmd, ltT, ltF, leT, leF, eqT, eqF, dc_RingKiln_undo, dc_M_undo, List.map_nil, a9, Prod.mk.injEq, hI]
  · have t1 : (h 24 3 + 20 - 1).tmod 20 = (h 24 3 + 19) % 20 := by rw [tmd (by omega)]; congr 1; omega
    have t2 : 0 ≤ (h 24 3 + 19) % 20 ∧ (h 24 3 + 19) % 20 < 20 := by omega
    generalize ht : (h 24 3 + 19) % 20 = t at *
    simp (disch := omega) only [ax_ev, ax_kk, ax_ps, ax_r_const, ax_r_lconst, ax_r_str, ax_r_iload, ax_r_lload, ax_r_aload, ax_r_istore, ax_r_astore, ax_r_lstore, ax_r_iinc, ax_r_iadd, ax_r_isub, ax_r_imul, ax_r_idiv, ax_r_irem, ax_r_iand, ax_r_ior, ax_r_ishl, ax_r_ishr, ax_r_iushr, ax_r_i2l, ax_r_l2i, ax_r_i2b, ax_r_ladd, ax_r_lsub, ax_r_lmul, ax_r_ldiv, ax_r_lrem, ax_r_land, ax_r_lor, ax_r_lcmp, ax_r_ifeq, ax_r_ifne, ax_r_iflt, ax_r_ifge, ax_r_ifgt, ax_r_ifle, ax_r_iceq, ax_r_icne, ax_r_iclt, ax_r_icge, ax_r_icgt, ax_r_icle, ax_r_goto, ax_r_tsw, ax_evt_c, ax_evt_n, ax_r_lsw, ax_evu_c, ax_evu_n, ax_r_getI, ax_r_getR, ax_r_putI, ax_r_putZ, ax_r_iald, ax_r_iast, ax_r_lald, ax_r_last, ax_r_bald, ax_r_aald, ax_r_alen, ax_r_bast, ax_r_min, ax_r_max, ax_r_minl, ax_r_maxl, ax_r_copy, ax_r_slen, ax_r_schr, ax_r_dup, ax_r_dup2, ax_r_pop, ax_r_ret, ax_r_lret, ax_r_vret, ax_r_zret, ax_r_aret, ax_r_call, ax_evo, ax_eva, ax_ar, ax_tk, ax_ex, ax_ld, ax_sto, ax_stl, ly_pm, ly_cd, ly_ln, ly_rf, Option.bind_some, Option.map_some, if_true, if_false, true_and, and_true, List.nil_append, List.cons_append, List.append_nil, List.length_nil, List.length_cons, List.headD_cons, true_or, or_true, false_or, or_false, ne_eq, not_false_eq_true, not_true_eq_false, false_and, and_false, List.set_cons_zero, List.set_cons_succ, Nat.reduceAdd, Nat.reduceSub, Nat.reduceMul, Nat.reduceLeDiff, Nat.reduceLT, Nat.reduceEqDiff, ↓reduceIte, Int.reduceNeg, Int.reduceAdd, Int.reduceSub, Int.reduceMul, Int.reduceEq, Int.reduceNe, Int.reduceLE, Int.reduceLT, Int.reduceToNat, Nat.one_ne_zero, Nat.zero_ne_one, Int.cast_ofNat_Int, lc_lt, lc_ge, lc_gt, lc_le, lc_eq, lc_ne, w32i, w64i, tdv, tmd, ltT, ltF, leT, leF, eqT, eqF, dc_RingKiln_undo, dc_Works_forgetLast, dc_M_undo, ax_up, ax_cp, List.map_nil, a9, t1]
    refine mv_back (k := h 24 4 - 1) (by omega) (by omega) ?_
    intro g q1 q2 q3
    rw [ax_kk]
    have r48 : g 124 48 = h 24 4 - 1 := by rw [q1 _ _ (by omega) (by omega)]; simp [ax_up]
    simp (disch := omega) only [ax_ev, ax_kk, ax_ps, ax_r_const, ax_r_lconst, ax_r_str, ax_r_iload, ax_r_lload, ax_r_aload, ax_r_istore, ax_r_astore, ax_r_lstore, ax_r_iinc, ax_r_iadd, ax_r_isub, ax_r_imul, ax_r_idiv, ax_r_irem, ax_r_iand, ax_r_ior, ax_r_ishl, ax_r_ishr, ax_r_iushr, ax_r_i2l, ax_r_l2i, ax_r_i2b, ax_r_ladd, ax_r_lsub, ax_r_lmul, ax_r_ldiv, ax_r_lrem, ax_r_land, ax_r_lor, ax_r_lcmp, ax_r_ifeq, ax_r_ifne, ax_r_iflt, ax_r_ifge, ax_r_ifgt, ax_r_ifle, ax_r_iceq, ax_r_icne, ax_r_iclt, ax_r_icge, ax_r_icgt, ax_r_icle, ax_r_goto, ax_r_tsw, ax_evt_c, ax_evt_n, ax_r_lsw, ax_evu_c, ax_evu_n, ax_r_getI, ax_r_getR, ax_r_putI, ax_r_putZ, ax_r_iald, ax_r_iast, ax_r_lald, ax_r_last, ax_r_bald, ax_r_aald, ax_r_alen, ax_r_bast, ax_r_min, ax_r_max, ax_r_minl, ax_r_maxl, ax_r_copy, ax_r_slen, ax_r_schr, ax_r_dup, ax_r_dup2, ax_r_pop, ax_r_ret, ax_r_lret, ax_r_vret, ax_r_zret, ax_r_aret, ax_r_call, ax_evo, ax_eva, ax_ar, ax_tk, ax_ex, ax_ld, ax_sto, ax_stl, ly_pm, ly_cd, ly_ln, ly_rf, Option.bind_some, Option.map_some, if_true, if_false, true_and, and_true, List.nil_append, List.cons_append, List.append_nil, List.length_nil, List.length_cons, List.headD_cons, true_or, or_true, false_or, or_false, ne_eq, not_false_eq_true, not_true_eq_false, false_and, and_false, List.set_cons_zero, List.set_cons_succ, Nat.reduceAdd, Nat.reduceSub, Nat.reduceMul, Nat.reduceLeDiff, Nat.reduceLT, Nat.reduceEqDiff, ↓reduceIte, Int.reduceNeg, Int.reduceAdd, Int.reduceSub, Int.reduceMul, Int.reduceEq, Int.reduceNe, Int.reduceLE, Int.reduceLT, Int.reduceToNat, Nat.one_ne_zero, Nat.zero_ne_one, Int.cast_ofNat_Int, lc_lt, lc_ge, lc_gt, lc_le, lc_eq, lc_ne, w32i, w64i, tdv, tmd, ltT, ltF, leT, leF, eqT, eqF, dc_M_undo, r48]
    refine iv_mk (iv_undo hi ?_ ?_ e ?_ ?_ ?_ ?_ ?_ ?_ ?_)
    · intro k j q; unfold iv_t at q; rw [q1 _ _ (by omega) (by omega)]; simp only [ax_up, ax_cp]; repeat rw [if_neg (by omega)]
    · intro k j q; unfold iv_o at q; rw [q1 _ _ (by omega) (by omega)]; simp only [ax_up, ax_cp]; repeat rw [if_neg (by omega)]
    · rw [q1 _ _ (by omega) (by omega)]; simp [ax_up, ax_cp]; omega
    · rw [q1 _ _ (by omega) (by omega)]; simp [ax_up, ax_cp]
    · intro j j0 j1; rw [q1 _ _ (by omega) (by omega)]; simp only [ax_up, ax_cp, Int.reduceEq, false_and, true_and, if_false]; rw [if_pos (by omega)]; congr 1; omega
    · intro k j q
      rw [q1 _ _ (by omega) (by omega)]; simp only [ax_up, ax_cp]; repeat rw [if_neg (by omega)]
    · exact r48
    · obtain ⟨u1, u2, u3, u4, u5, u6, u7⟩ := q3
      simp only [ax_up, ax_cp, Int.reduceEq, false_and, if_false] at u1 u2 u3 u4 u5 u6 u7
      exact ⟨u1, u2, u3, u4, u5, u6, u7⟩
    · intro k j q
      by_cases k5 : k = 125
      · subst k5; rw [q2 j (by omega)]; simp only [ax_up, ax_cp, Int.reduceEq, false_and, if_false]
      · rw [q1 _ _ (by omega) (by omega)]; simp only [ax_up, ax_cp]; repeat rw [if_neg (by omega)]
set_option maxRecDepth 100000 in
set_option maxHeartbeats 4000000 in
theorem pr_end : lw_pair Inv 0 124 1 114 155 := by
  refine iv_p1 fun h x hx hi => ?_
  have hI : Inv (L0, h) := ⟨rfl, hi⟩
  obtain ⟨t1, t2, t3, t4⟩ := hi.1
  unfold ax_r32 at hx
  unfold iv_ok
  rcases (by omega : x < 0 ∨ h 1 1 < x ∨ (0 ≤ x ∧ x ≤ h 1 1)) with e | e | e
  · simp (disch := omega) only [ax_ev, ax_kk, ax_ps, ax_r_const, ax_r_lconst, ax_r_str, ax_r_iload, ax_r_lload, ax_r_aload, ax_r_istore, ax_r_astore, ax_r_lstore, ax_r_iinc, ax_r_iadd, ax_r_isub, ax_r_imul, ax_r_idiv, ax_r_irem, ax_r_iand, ax_r_ior, ax_r_ishl, ax_r_ishr, ax_r_iushr, ax_r_i2l, ax_r_l2i, ax_r_i2b, ax_r_ladd, ax_r_lsub, ax_r_lmul, ax_r_ldiv, ax_r_lrem, ax_r_land, ax_r_lor, ax_r_lcmp, ax_r_ifeq, ax_r_ifne, ax_r_iflt, ax_r_ifge, ax_r_ifgt, ax_r_ifle, ax_r_iceq, ax_r_icne, ax_r_iclt, ax_r_icge, ax_r_icgt, ax_r_icle, ax_r_goto, ax_r_tsw, ax_evt_c, ax_evt_n, ax_r_lsw, ax_evu_c, ax_evu_n, ax_r_getI, ax_r_getR, ax_r_putI, ax_r_putZ, ax_r_iald, ax_r_iast, ax_r_lald, ax_r_last, ax_r_bald, ax_r_aald, ax_r_alen, ax_r_bast, ax_r_min, ax_r_max, ax_r_minl, ax_r_maxl, ax_r_copy, ax_r_slen, ax_r_schr, ax_r_dup, ax_r_dup2, ax_r_pop, ax_r_ret, ax_r_lret, ax_r_vret, ax_r_zret, ax_r_aret, ax_r_call, ax_evo, ax_eva, ax_ar, ax_tk, ax_ex, ax_ld, ax_sto, ax_stl, ly_pm, ly_cd, ly_ln, ly_rf, Option.bind_some, Option.map_some, if_true, if_false, true_and, and_true, List.nil_append, List.cons_append, List.append_nil, List.length_nil, List.length_cons, List.headD_cons, true_or, or_true, false_or, or_false, ne_eq, not_false_eq_true, not_true_eq_false, false_and, and_false, List.set_cons_zero, List.set_cons_succ, Nat.reduceAdd, Nat.reduceSub, Nat.reduceMul, Nat.reduceLeDiff, Nat.reduceLT, Nat.reduceEqDiff, ↓reduceIte, Int.reduceNeg, Int.reduceAdd, Int.reduceSub, Int.reduceMul, Int.reduceEq, Int.reduceNe, Int.reduceLE, Int.reduceLT, Int.reduceToNat, Nat.one_ne_zero, Nat.zero_ne_one, Int.cast_ofNat_Int, lc_lt, lc_ge, lc_gt, lc_le, lc_eq, lc_ne, w32i, w64i, tdv, tmd, ltT, ltF, leT, leF, eqT, eqF, dc_RingKiln_end, dc_M_end, List.map_cons, List.map_nil, ax_up, t1.symm, Prod.mk.injEq, hI]
  · simp (disch := omega) only [ax_ev, ax_kk, ax_ps, ax_r_const, ax_r_lconst, ax_r_str, ax_r_iload, ax_r_lload, ax_r_aload, ax_r_istore, ax_r_astore, ax_r_lstore, ax_r_iinc, ax_r_iadd, ax_r_isub, ax_r_imul, ax_r_idiv, ax_r_irem, ax_r_iand, ax_r_ior, ax_r_ishl, ax_r_ishr, ax_r_iushr, ax_r_i2l, ax_r_l2i, ax_r_i2b, ax_r_ladd, ax_r_lsub, ax_r_lmul, ax_r_ldiv, ax_r_lrem, ax_r_land, ax_r_lor, ax_r_lcmp, ax_r_ifeq, ax_r_ifne, ax_r_iflt, ax_r_ifge, ax_r_ifgt, ax_r_ifle, ax_r_iceq, ax_r_icne, ax_r_iclt, ax_r_icge, ax_r_icgt, ax_r_icle, ax_r_goto, ax_r_tsw, ax_evt_c, ax_evt_n, ax_r_lsw, ax_evu_c, ax_evu_n, ax_r_getI, ax_r_getR, ax_r_putI, ax_r_putZ, ax_r_iald, ax_r_iast, ax_r_lald, ax_r_last, ax_r_bald, ax_r_aald, ax_r_alen, ax_r_bast, ax_r_min, ax_r_max, ax_r_minl, ax_r_maxl, ax_r_copy, ax_r_slen, ax_r_schr, ax_r_dup, ax_r_dup2, ax_r_pop, ax_r_ret, ax_r_lret, ax_r_vret, ax_r_zret, ax_r_aret, ax_r_call, ax_evo, ax_eva, ax_ar, ax_tk, ax_ex, ax_ld, ax_sto, ax_stl, ly_pm, ly_cd, ly_ln, ly_rf, Option.bind_some, Option.map_some, if_true, if_false, true_and, and_true, List.nil_append, List.cons_append, List.append_nil, List.length_nil, List.length_cons, List.headD_cons, true_or, or_true, false_or, or_false, ne_eq, not_false_eq_true, not_true_eq_false, false_and, and_false, List.set_cons_zero, List.set_cons_succ, Nat.reduceAdd, Nat.reduceSub, Nat.reduceMul, Nat.reduceLeDiff, Nat.reduceLT, Nat.reduceEqDiff, ↓reduceIte, Int.reduceNeg, Int.reduceAdd, Int.reduceSub, Int.reduceMul, Int.reduceEq, Int.reduceNe, Int.reduceLE, Int.reduceLT, Int.reduceToNat, Nat.one_ne_zero, Nat.zero_ne_one, Int.cast_ofNat_Int, lc_lt, lc_ge, lc_gt, lc_le, lc_eq, lc_ne, w32i, w64i, tdv, tmd, ltT, ltF, leT, leF, eqT, eqF, dc_RingKiln_end, dc_M_end, List.map_cons, List.map_nil, ax_up, t1.symm, Prod.mk.injEq, hI]
  · simp (disch := omega) only [ax_ev, ax_kk, ax_ps, ax_r_const, ax_r_lconst, ax_r_str, ax_r_iload, ax_r_lload, ax_r_aload, ax_r_istore, ax_r_astore, ax_r_lstore, ax_r_iinc, ax_r_iadd, ax_r_isub, ax_r_imul, ax_r_idiv, ax_r_irem, ax_r_iand, ax_r_ior, ax_r_ishl, ax_r_ishr, ax_r_iushr, ax_r_i2l, ax_r_l2i, ax_r_i2b, ax_r_ladd, ax_r_lsub, ax_r_lmul, ax_r_ldiv, ax_r_lrem, ax_r_land, ax_r_lor, ax_r_lcmp, ax_r_ifeq, ax_r_ifne, ax_r_iflt, ax_r_ifge, ax_r_ifgt, ax_r_ifle, ax_r_iceq, ax_r_icne, ax_r_iclt, ax_r_icge, ax_r_icgt, ax_r_icle, ax_r_goto, ax_r_tsw, ax_evt_c, ax_evt_n, ax_r_lsw, ax_evu_c, ax_evu_n, ax_r_getI, ax_r_getR, ax_r_putI, ax_r_putZ, ax_r_iald, ax_r_iast, ax_r_lald, ax_r_last, ax_r_bald, ax_r_aald, ax_r_alen, ax_r_bast, ax_r_min, ax_r_max, ax_r_minl, ax_r_maxl, ax_r_copy, ax_r_slen, ax_r_schr, ax_r_dup, ax_r_dup2, ax_r_pop, ax_r_ret, ax_r_lret, ax_r_vret, ax_r_zret, ax_r_aret, ax_r_call, ax_evo, ax_eva, ax_ar, ax_tk, ax_ex, ax_ld, ax_sto, ax_stl, ly_pm, ly_cd, ly_ln, ly_rf, Option.bind_some, Option.map_some, if_true, if_false, true_and, and_true, List.nil_append, List.cons_append, List.append_nil, List.length_nil, List.length_cons, List.headD_cons, true_or, or_true, false_or, or_false, ne_eq, not_false_eq_true, not_true_eq_false, false_and, and_false, List.set_cons_zero, List.set_cons_succ, Nat.reduceAdd, Nat.reduceSub, Nat.reduceMul, Nat.reduceLeDiff, Nat.reduceLT, Nat.reduceEqDiff, ↓reduceIte, Int.reduceNeg, Int.reduceAdd, Int.reduceSub, Int.reduceMul, Int.reduceEq, Int.reduceNe, Int.reduceLE, Int.reduceLT, Int.reduceToNat, Nat.one_ne_zero, Nat.zero_ne_one, Int.cast_ofNat_Int, lc_lt, lc_ge, lc_gt, lc_le, lc_eq, lc_ne, w32i, w64i, tdv, tmd, ltT, ltF, leT, leF, eqT, eqF, dc_RingKiln_end, dc_M_end, List.map_cons, List.map_nil, ax_up, t1.symm, Prod.mk.injEq]
    refine ⟨rfl, iv_keep hi ?_ (iv_now_congr hi.2.1 (by intro k j q; unfold iv_n at q; simp only [ax_up, ax_cp, ax_rw]; repeat rw [if_neg (by omega)])) (by intro k j q; unfold iv_o at q; simp only [ax_up, ax_cp, ax_rw]; repeat rw [if_neg (by omega)])⟩
    refine ⟨by simp [ax_up], by simp [ax_up]; omega, by simp [ax_up]; omega, ?_⟩
    intro j j0 j1
    simp [ax_up] at j1 ⊢
    exact t4 j j0 (by omega)
