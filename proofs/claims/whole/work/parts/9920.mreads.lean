/-! kiln: all clauses in the reference -/
set_option maxRecDepth 100000 in
set_option maxHeartbeats 4000000 in
theorem m_all {b : Int → Int} {N : Int} (t : tx b N) {d : Nat} {Q : ax_V → ax_H → Prop} : ∀ (k : Nat) (cl s : Int) (T g : Int → Int → Int), cl + k = 41 → 1 ≤ k → 0 ≤ cl → kg cl T → mS b N g s T → (∀ g', mfr g g' → mB g' → g' 124 25 = (kall b N k cl s T).1 → ((kall b N k cl s T).1 = 0 → MT (kall b N k cl s T).2 g') → Q (9, 0) (L0, ax_up g' 124 23 0)) → ax_Ev (d + 7) 157 56 [(2, 124), (0, cl), (0, 1)] [] (L0, g) Q
  | 0, cl, s, T, g, _, h1, _, _, _, _ => by omega
  | k + 1, cl, s, T, g, hk, _, cl0, G, c, hq => by
    have N4 := t.1
    have IH := m_all t (d := d) (Q := Q) k
    have s0 : 0 ≤ s := by have := c.2.2.2; have := sk_ge b N (g 124 24); have := c.2.1; omega
    have s1 : s ≤ N := by have := c.2.2.2; have := sk_le (b := b) c.2.1.2; omega
    have KT := fun h => kstep_td (b := b) (N := N) (s := s) cl0 s0 s1 G h
    have KS := fun h => kstep_s (b := b) (N := N) (cl := cl) (T := T) s0 h
    have KA : kall b N (k + 1) cl s T = if (kstep b N cl s T).1 ≠ 0 then ((kstep b N cl s T).1, T) else if tkK b N (kstep b N cl s T).2.1 = 0 then (0, (kstep b N cl s T).2.2) else if tkK b N (kstep b N cl s T).2.1 = 3 ∧ tkV b N (kstep b N cl s T).2.1 = 59 then kall b N k (cl + 1) (nxT b N (kstep b N cl s T).2.1) (kstep b N cl s T).2.2 else (1 + 8 * (kstep b N cl s T).2.1, T) := rfl
    rw [KA] at hq
    clear KA
    have CC := fun Q' (hq' : ∀ g', mR b N g g' (kstep b N cl s T) → Q' (9, 0) (L0, g')) => m_clause t c cl0 (by omega) G (d := d) (Q := Q') hq'
    generalize kstep b N cl s T = R at *
    obtain ⟨f, s', T'⟩ := R
    dsimp only at *
    rw [ax_ev, dh_M_readsAll_56]
    simp (disch := omega) only [ax_ev, ax_kk, ax_ps, ax_r_const, ax_r_lconst, ax_r_str, ax_r_iload, ax_r_lload, ax_r_aload, ax_r_istore, ax_r_astore, ax_r_lstore, ax_r_iinc, ax_r_iadd, ax_r_isub, ax_r_imul, ax_r_idiv, ax_r_irem, ax_r_iand, ax_r_ior, ax_r_ishl, ax_r_ishr, ax_r_iushr, ax_r_i2l, ax_r_l2i, ax_r_i2b, ax_r_ladd, ax_r_lsub, ax_r_lmul, ax_r_ldiv, ax_r_lrem, ax_r_land, ax_r_lor, ax_r_lcmp, ax_r_ifeq, ax_r_ifne, ax_r_iflt, ax_r_ifge, ax_r_ifgt, ax_r_ifle, ax_r_iceq, ax_r_icne, ax_r_iclt, ax_r_icge, ax_r_icgt, ax_r_icle, ax_r_goto, ax_r_tsw, ax_evt_c, ax_evt_n, ax_r_lsw, ax_evu_c, ax_evu_n, ax_r_getI, ax_r_getR, ax_r_putI, ax_r_putZ, ax_r_iald, ax_r_iast, ax_r_lald, ax_r_last, ax_r_bald, ax_r_aald, ax_r_alen, ax_r_bast, ax_r_min, ax_r_max, ax_r_minl, ax_r_maxl, ax_r_copy, ax_r_slen, ax_r_schr, ax_r_dup, ax_r_dup2, ax_r_pop, ax_r_ret, ax_r_lret, ax_r_vret, ax_r_zret, ax_r_aret, ax_r_call, ax_evo, ax_eva, ax_ar, ax_tk, ax_ex, ax_ld, ax_sto, ax_stl, ly_pm, ly_cd, ly_ln, ly_rf, Option.bind_some, Option.map_some, if_true, if_false, true_and, and_true, List.nil_append, List.cons_append, List.append_nil, List.length_nil, List.length_cons, List.headD_cons, true_or, or_true, false_or, or_false, ne_eq, not_false_eq_true, not_true_eq_false, false_and, and_false, List.set_cons_zero, List.set_cons_succ, Nat.reduceAdd, Nat.reduceSub, Nat.reduceMul, Nat.reduceLeDiff, Nat.reduceLT, Nat.reduceEqDiff, ↓reduceIte, Int.reduceNeg, Int.reduceAdd, Int.reduceSub, Int.reduceMul, Int.reduceEq, Int.reduceNe, Int.reduceLE, Int.reduceLT, Int.reduceToNat, Nat.one_ne_zero, Nat.zero_ne_one, Int.cast_ofNat_Int, lc_lt, lc_ge, lc_gt, lc_le, lc_eq, lc_ne, w32i, w64i, tdv, tmd, ltT, ltF, leT, leF, eqT, eqF, dc_M_readsAll]
    refine CC _ ?_
    intro g1 x
    obtain ⟨x1, x2, x3, x4, x5⟩ := x
    dsimp only at x4 x5
    rw [ax_kk]
    simp (disch := omega) only [ax_ev, ax_kk, ax_ps, ax_r_const, ax_r_lconst, ax_r_str, ax_r_iload, ax_r_lload, ax_r_aload, ax_r_istore, ax_r_astore, ax_r_lstore, ax_r_iinc, ax_r_iadd, ax_r_isub, ax_r_imul, ax_r_idiv, ax_r_irem, ax_r_iand, ax_r_ior, ax_r_ishl, ax_r_ishr, ax_r_iushr, ax_r_i2l, ax_r_l2i, ax_r_i2b, ax_r_ladd, ax_r_lsub, ax_r_lmul, ax_r_ldiv, ax_r_lrem, ax_r_land, ax_r_lor, ax_r_lcmp, ax_r_ifeq, ax_r_ifne, ax_r_iflt, ax_r_ifge, ax_r_ifgt, ax_r_ifle, ax_r_iceq, ax_r_icne, ax_r_iclt, ax_r_icge, ax_r_icgt, ax_r_icle, ax_r_goto, ax_r_tsw, ax_evt_c, ax_evt_n, ax_r_lsw, ax_evu_c, ax_evu_n, ax_r_getI, ax_r_getR, ax_r_putI, ax_r_putZ, ax_r_iald, ax_r_iast, ax_r_lald, ax_r_last, ax_r_bald, ax_r_aald, ax_r_alen, ax_r_bast, ax_r_min, ax_r_max, ax_r_minl, ax_r_maxl, ax_r_copy, ax_r_slen, ax_r_schr, ax_r_dup, ax_r_dup2, ax_r_pop, ax_r_ret, ax_r_lret, ax_r_vret, ax_r_zret, ax_r_aret, ax_r_call, ax_evo, ax_eva, ax_ar, ax_tk, ax_ex, ax_ld, ax_sto, ax_stl, ly_pm, ly_cd, ly_ln, ly_rf, Option.bind_some, Option.map_some, if_true, if_false, true_and, and_true, List.nil_append, List.cons_append, List.append_nil, List.length_nil, List.length_cons, List.headD_cons, true_or, or_true, false_or, or_false, ne_eq, not_false_eq_true, not_true_eq_false, false_and, and_false, List.set_cons_zero, List.set_cons_succ, Nat.reduceAdd, Nat.reduceSub, Nat.reduceMul, Nat.reduceLeDiff, Nat.reduceLT, Nat.reduceEqDiff, ↓reduceIte, Int.reduceNeg, Int.reduceAdd, Int.reduceSub, Int.reduceMul, Int.reduceEq, Int.reduceNe, Int.reduceLE, Int.reduceLT, Int.reduceToNat, Nat.one_ne_zero, Nat.zero_ne_one, Int.cast_ofNat_Int, lc_lt, lc_ge, lc_gt, lc_le, lc_eq, lc_ne, w32i, w64i, tdv, tmd, ltT, ltF, leT, leF, eqT, eqF, dc_M_readsAll]
    refine m_goesOn t (tm_mfr c.1.1 x1) x3.1 x3.2 x4 (fun z g2 a2 e2 => ?_) (fun z y g2 a2 e2 e3 => ?_) (fun z y1 y2 g2 a2 e2 => ?_)
    · have H : Q (9, 0) (L0, ax_up g2 124 23 0) := by
        by_cases z1 : f = 0
        · have x6 := x5 z1
          have z2 : tkK b N s' = 0 := by
            rcases z with z | z
            · exact absurd z1 z
            · rw [x6.2] at z; exact z
          rw [if_neg (by omega), if_pos z2] at hq
          exact hq g2 (mfr_am x1 a2) (mB_same x2 a2) (by rw [e2]; exact z1) (fun _ => MT_same x6.1 a2)
        · rw [if_pos z1] at hq
          exact hq g2 (mfr_am x1 a2) (mB_same x2 a2) e2 (fun y => absurd y z1)
      rw [ax_kk]
      clear hq t IH KT KS CC x1 x2 x5 c G a2 z
      simp (disch := omega) only [ax_ev, ax_kk, ax_ps, ax_r_const, ax_r_lconst, ax_r_str, ax_r_iload, ax_r_lload, ax_r_aload, ax_r_istore, ax_r_astore, ax_r_lstore, ax_r_iinc, ax_r_iadd, ax_r_isub, ax_r_imul, ax_r_idiv, ax_r_irem, ax_r_iand, ax_r_ior, ax_r_ishl, ax_r_ishr, ax_r_iushr, ax_r_i2l, ax_r_l2i, ax_r_i2b, ax_r_ladd, ax_r_lsub, ax_r_lmul, ax_r_ldiv, ax_r_lrem, ax_r_land, ax_r_lor, ax_r_lcmp, ax_r_ifeq, ax_r_ifne, ax_r_iflt, ax_r_ifge, ax_r_ifgt, ax_r_ifle, ax_r_iceq, ax_r_icne, ax_r_iclt, ax_r_icge, ax_r_icgt, ax_r_icle, ax_r_goto, ax_r_tsw, ax_evt_c, ax_evt_n, ax_r_lsw, ax_evu_c, ax_evu_n, ax_r_getI, ax_r_getR, ax_r_putI, ax_r_putZ, ax_r_iald, ax_r_iast, ax_r_lald, ax_r_last, ax_r_bald, ax_r_aald, ax_r_alen, ax_r_bast, ax_r_min, ax_r_max, ax_r_minl, ax_r_maxl, ax_r_copy, ax_r_slen, ax_r_schr, ax_r_dup, ax_r_dup2, ax_r_pop, ax_r_ret, ax_r_lret, ax_r_vret, ax_r_zret, ax_r_aret, ax_r_call, ax_evo, ax_eva, ax_ar, ax_tk, ax_ex, ax_ld, ax_sto, ax_stl, ly_pm, ly_cd, ly_ln, ly_rf, Option.bind_some, Option.map_some, if_true, if_false, true_and, and_true, List.nil_append, List.cons_append, List.append_nil, List.length_nil, List.length_cons, List.headD_cons, true_or, or_true, false_or, or_false, ne_eq, not_false_eq_true, not_true_eq_false, false_and, and_false, List.set_cons_zero, List.set_cons_succ, Nat.reduceAdd, Nat.reduceSub, Nat.reduceMul, Nat.reduceLeDiff, Nat.reduceLT, Nat.reduceEqDiff, ↓reduceIte, Int.reduceNeg, Int.reduceAdd, Int.reduceSub, Int.reduceMul, Int.reduceEq, Int.reduceNe, Int.reduceLE, Int.reduceLT, Int.reduceToNat, Nat.one_ne_zero, Nat.zero_ne_one, Int.cast_ofNat_Int, lc_lt, lc_ge, lc_gt, lc_le, lc_eq, lc_ne, w32i, w64i, tdv, tmd, ltT, ltF, leT, leF, eqT, eqF, dc_M_readsAll]
      rw [dh_M_readsAll_56]
      simp (disch := omega) only [ax_ev, ax_kk, ax_ps, ax_r_const, ax_r_lconst, ax_r_str, ax_r_iload, ax_r_lload, ax_r_aload, ax_r_istore, ax_r_astore, ax_r_lstore, ax_r_iinc, ax_r_iadd, ax_r_isub, ax_r_imul, ax_r_idiv, ax_r_irem, ax_r_iand, ax_r_ior, ax_r_ishl, ax_r_ishr, ax_r_iushr, ax_r_i2l, ax_r_l2i, ax_r_i2b, ax_r_ladd, ax_r_lsub, ax_r_lmul, ax_r_ldiv, ax_r_lrem, ax_r_land, ax_r_lor, ax_r_lcmp, ax_r_ifeq, ax_r_ifne, ax_r_iflt, ax_r_ifge, ax_r_ifgt, ax_r_ifle, ax_r_iceq, ax_r_icne, ax_r_iclt, ax_r_icge, ax_r_icgt, ax_r_icle, ax_r_goto, ax_r_tsw, ax_evt_c, ax_evt_n, ax_r_lsw, ax_evu_c, ax_evu_n, ax_r_getI, ax_r_getR, ax_r_putI, ax_r_putZ, ax_r_iald, ax_r_iast, ax_r_lald, ax_r_last, ax_r_bald, ax_r_aald, ax_r_alen, ax_r_bast, ax_r_min, ax_r_max, ax_r_minl, ax_r_maxl, ax_r_copy, ax_r_slen, ax_r_schr, ax_r_dup, ax_r_dup2, ax_r_pop, ax_r_ret, ax_r_lret, ax_r_vret, ax_r_zret, ax_r_aret, ax_r_call, ax_evo, ax_eva, ax_ar, ax_tk, ax_ex, ax_ld, ax_sto, ax_stl, ly_pm, ly_cd, ly_ln, ly_rf, Option.bind_some, Option.map_some, if_true, if_false, true_and, and_true, List.nil_append, List.cons_append, List.append_nil, List.length_nil, List.length_cons, List.headD_cons, true_or, or_true, false_or, or_false, ne_eq, not_false_eq_true, not_true_eq_false, false_and, and_false, List.set_cons_zero, List.set_cons_succ, Nat.reduceAdd, Nat.reduceSub, Nat.reduceMul, Nat.reduceLeDiff, Nat.reduceLT, Nat.reduceEqDiff, ↓reduceIte, Int.reduceNeg, Int.reduceAdd, Int.reduceSub, Int.reduceMul, Int.reduceEq, Int.reduceNe, Int.reduceLE, Int.reduceLT, Int.reduceToNat, Nat.one_ne_zero, Nat.zero_ne_one, Int.cast_ofNat_Int, lc_lt, lc_ge, lc_gt, lc_le, lc_eq, lc_ne, w32i, w64i, tdv, tmd, ltT, ltF, leT, leF, eqT, eqF, dc_M_readsAll]
      exact H
    · have x6 := x5 z
      rw [x6.2] at y e3
      have c41 := KS z
      have Ktd := KT z
      rw [if_neg (by omega), if_neg (by omega), if_pos y] at hq
      have sb0 : 0 ≤ s' := by have := x6.2; have := sk_ge b N (g1 124 24); omega
      have sb1 : s' ≤ N := by have := x6.2; have := sk_le (b := b) x3.2; omega
      have t0 := tkB_ge (b := b) (N := N) (s := s')
      have t1 := tkB_le (b := b) sb1
      have H := IH (cl + 1) (nxT b N s') T' g2 (by omega) (by omega) (by omega) ⟨Ktd.1, fun y => by omega, fun _ => Ktd.2⟩ ⟨⟨tm_mfr c.1.1 (mfr_am x1 a2), MT_same x6.1 a2, mB_same x2 a2⟩, by rw [e3]; omega, e2, by rw [e3]; rfl⟩ (fun g' y1 y2 y3 y4 => hq g' (fun k j q1 q2 => by rw [y1 k j q1 q2]; exact mfr_am x1 a2 k j q1 q2) y2 y3 y4)
      rw [ax_kk]
      clear hq t IH KT KS CC x1 x2 x5 c G a2 x6
      simp (disch := omega) only [ax_ev, ax_kk, ax_ps, ax_r_const, ax_r_lconst, ax_r_str, ax_r_iload, ax_r_lload, ax_r_aload, ax_r_istore, ax_r_astore, ax_r_lstore, ax_r_iinc, ax_r_iadd, ax_r_isub, ax_r_imul, ax_r_idiv, ax_r_irem, ax_r_iand, ax_r_ior, ax_r_ishl, ax_r_ishr, ax_r_iushr, ax_r_i2l, ax_r_l2i, ax_r_i2b, ax_r_ladd, ax_r_lsub, ax_r_lmul, ax_r_ldiv, ax_r_lrem, ax_r_land, ax_r_lor, ax_r_lcmp, ax_r_ifeq, ax_r_ifne, ax_r_iflt, ax_r_ifge, ax_r_ifgt, ax_r_ifle, ax_r_iceq, ax_r_icne, ax_r_iclt, ax_r_icge, ax_r_icgt, ax_r_icle, ax_r_goto, ax_r_tsw, ax_evt_c, ax_evt_n, ax_r_lsw, ax_evu_c, ax_evu_n, ax_r_getI, ax_r_getR, ax_r_putI, ax_r_putZ, ax_r_iald, ax_r_iast, ax_r_lald, ax_r_last, ax_r_bald, ax_r_aald, ax_r_alen, ax_r_bast, ax_r_min, ax_r_max, ax_r_minl, ax_r_maxl, ax_r_copy, ax_r_slen, ax_r_schr, ax_r_dup, ax_r_dup2, ax_r_pop, ax_r_ret, ax_r_lret, ax_r_vret, ax_r_zret, ax_r_aret, ax_r_call, ax_evo, ax_eva, ax_ar, ax_tk, ax_ex, ax_ld, ax_sto, ax_stl, ly_pm, ly_cd, ly_ln, ly_rf, Option.bind_some, Option.map_some, if_true, if_false, true_and, and_true, List.nil_append, List.cons_append, List.append_nil, List.length_nil, List.length_cons, List.headD_cons, true_or, or_true, false_or, or_false, ne_eq, not_false_eq_true, not_true_eq_false, false_and, and_false, List.set_cons_zero, List.set_cons_succ, Nat.reduceAdd, Nat.reduceSub, Nat.reduceMul, Nat.reduceLeDiff, Nat.reduceLT, Nat.reduceEqDiff, ↓reduceIte, Int.reduceNeg, Int.reduceAdd, Int.reduceSub, Int.reduceMul, Int.reduceEq, Int.reduceNe, Int.reduceLE, Int.reduceLT, Int.reduceToNat, Nat.one_ne_zero, Nat.zero_ne_one, Int.cast_ofNat_Int, lc_lt, lc_ge, lc_gt, lc_le, lc_eq, lc_ne, w32i, w64i, tdv, tmd, ltT, ltF, leT, leF, eqT, eqF, dc_M_readsAll]
      exact H
    · have x6 := x5 z
      rw [x6.2] at y1 y2 e2
      rw [if_neg (by omega), if_neg y1, if_neg y2] at hq
      have sb0 : 0 ≤ s' := by have := x6.2; have := sk_ge b N (g1 124 24); omega
      have H := hq g2 (mfr_am x1 a2) (mB_same x2 a2) e2 (fun y => by simp only at y; omega)
      rw [ax_kk]
      clear hq t IH KT KS CC x1 x2 x5 c G a2 x6
      simp (disch := omega) only [ax_ev, ax_kk, ax_ps, ax_r_const, ax_r_lconst, ax_r_str, ax_r_iload, ax_r_lload, ax_r_aload, ax_r_istore, ax_r_astore, ax_r_lstore, ax_r_iinc, ax_r_iadd, ax_r_isub, ax_r_imul, ax_r_idiv, ax_r_irem, ax_r_iand, ax_r_ior, ax_r_ishl, ax_r_ishr, ax_r_iushr, ax_r_i2l, ax_r_l2i, ax_r_i2b, ax_r_ladd, ax_r_lsub, ax_r_lmul, ax_r_ldiv, ax_r_lrem, ax_r_land, ax_r_lor, ax_r_lcmp, ax_r_ifeq, ax_r_ifne, ax_r_iflt, ax_r_ifge, ax_r_ifgt, ax_r_ifle, ax_r_iceq, ax_r_icne, ax_r_iclt, ax_r_icge, ax_r_icgt, ax_r_icle, ax_r_goto, ax_r_tsw, ax_evt_c, ax_evt_n, ax_r_lsw, ax_evu_c, ax_evu_n, ax_r_getI, ax_r_getR, ax_r_putI, ax_r_putZ, ax_r_iald, ax_r_iast, ax_r_lald, ax_r_last, ax_r_bald, ax_r_aald, ax_r_alen, ax_r_bast, ax_r_min, ax_r_max, ax_r_minl, ax_r_maxl, ax_r_copy, ax_r_slen, ax_r_schr, ax_r_dup, ax_r_dup2, ax_r_pop, ax_r_ret, ax_r_lret, ax_r_vret, ax_r_zret, ax_r_aret, ax_r_call, ax_evo, ax_eva, ax_ar, ax_tk, ax_ex, ax_ld, ax_sto, ax_stl, ly_pm, ly_cd, ly_ln, ly_rf, Option.bind_some, Option.map_some, if_true, if_false, true_and, and_true, List.nil_append, List.cons_append, List.append_nil, List.length_nil, List.length_cons, List.headD_cons, true_or, or_true, false_or, or_false, ne_eq, not_false_eq_true, not_true_eq_false, false_and, and_false, List.set_cons_zero, List.set_cons_succ, Nat.reduceAdd, Nat.reduceSub, Nat.reduceMul, Nat.reduceLeDiff, Nat.reduceLT, Nat.reduceEqDiff, ↓reduceIte, Int.reduceNeg, Int.reduceAdd, Int.reduceSub, Int.reduceMul, Int.reduceEq, Int.reduceNe, Int.reduceLE, Int.reduceLT, Int.reduceToNat, Nat.one_ne_zero, Nat.zero_ne_one, Int.cast_ofNat_Int, lc_lt, lc_ge, lc_gt, lc_le, lc_eq, lc_ne, w32i, w64i, tdv, tmd, ltT, ltF, leT, leF, eqT, eqF, dc_M_readsAll]
      rw [dh_M_readsAll_56]
      simp (disch := omega) only [ax_ev, ax_kk, ax_ps, ax_r_const, ax_r_lconst, ax_r_str, ax_r_iload, ax_r_lload, ax_r_aload, ax_r_istore, ax_r_astore, ax_r_lstore, ax_r_iinc, ax_r_iadd, ax_r_isub, ax_r_imul, ax_r_idiv, ax_r_irem, ax_r_iand, ax_r_ior, ax_r_ishl, ax_r_ishr, ax_r_iushr, ax_r_i2l, ax_r_l2i, ax_r_i2b, ax_r_ladd, ax_r_lsub, ax_r_lmul, ax_r_ldiv, ax_r_lrem, ax_r_land, ax_r_lor, ax_r_lcmp, ax_r_ifeq, ax_r_ifne, ax_r_iflt, ax_r_ifge, ax_r_ifgt, ax_r_ifle, ax_r_iceq, ax_r_icne, ax_r_iclt, ax_r_icge, ax_r_icgt, ax_r_icle, ax_r_goto, ax_r_tsw, ax_evt_c, ax_evt_n, ax_r_lsw, ax_evu_c, ax_evu_n, ax_r_getI, ax_r_getR, ax_r_putI, ax_r_putZ, ax_r_iald, ax_r_iast, ax_r_lald, ax_r_last, ax_r_bald, ax_r_aald, ax_r_alen, ax_r_bast, ax_r_min, ax_r_max, ax_r_minl, ax_r_maxl, ax_r_copy, ax_r_slen, ax_r_schr, ax_r_dup, ax_r_dup2, ax_r_pop, ax_r_ret, ax_r_lret, ax_r_vret, ax_r_zret, ax_r_aret, ax_r_call, ax_evo, ax_eva, ax_ar, ax_tk, ax_ex, ax_ld, ax_sto, ax_stl, ly_pm, ly_cd, ly_ln, ly_rf, Option.bind_some, Option.map_some, if_true, if_false, true_and, and_true, List.nil_append, List.cons_append, List.append_nil, List.length_nil, List.length_cons, List.headD_cons, true_or, or_true, false_or, or_false, ne_eq, not_false_eq_true, not_true_eq_false, false_and, and_false, List.set_cons_zero, List.set_cons_succ, Nat.reduceAdd, Nat.reduceSub, Nat.reduceMul, Nat.reduceLeDiff, Nat.reduceLT, Nat.reduceEqDiff, ↓reduceIte, Int.reduceNeg, Int.reduceAdd, Int.reduceSub, Int.reduceMul, Int.reduceEq, Int.reduceNe, Int.reduceLE, Int.reduceLT, Int.reduceToNat, Nat.one_ne_zero, Nat.zero_ne_one, Int.cast_ofNat_Int, lc_lt, lc_ge, lc_gt, lc_le, lc_eq, lc_ne, w32i, w64i, tdv, tmd, ltT, ltF, leT, leF, eqT, eqF, dc_M_readsAll]
      exact H
theorem nf_nn {b : Int → Int} {N s lo hi : Int} (s0 : 0 ≤ s) : 0 ≤ nf b N s lo hi := by
  unfold nf; repeat' split
  all_goals omega
theorem kstep_b {b : Int → Int} {N cl s : Int} {T : Int → Int → Int} (s0 : 0 ≤ s) (s1 : s ≤ N) : 0 ≤ (kstep b N cl s T).1 ∧ ((kstep b N cl s T).1 = 0 → 0 ≤ (kstep b N cl s T).2.1 ∧ (kstep b N cl s T).2.1 ≤ N) := by
  obtain ⟨n0, n1⟩ := nxT_b (b := b) s0 s1
  obtain ⟨m0, m1⟩ := nxT_b (b := b) n0 n1
  obtain ⟨q0, q1⟩ := nxT_b (b := b) m0 m1
  obtain ⟨r0, r1⟩ := nxT_b (b := b) q0 q1
  have bad : ∀ f (X : Int × (Int → Int → Int)), 0 ≤ f → f ≠ 0 → 0 ≤ ((f, X) : Int × Int × (Int → Int → Int)).1 ∧ (((f, X) : Int × Int × (Int → Int → Int)).1 = 0 → 0 ≤ X.1 ∧ X.1 ≤ N) := fun f X h1 h2 => ⟨h1, fun y => absurd y h2⟩
  have good : ∀ x (T : Int → Int → Int), 0 ≤ x → x ≤ N → 0 ≤ ((0, x, T) : Int × Int × (Int → Int → Int)).1 ∧ (((0, x, T) : Int × Int × (Int → Int → Int)).1 = 0 → 0 ≤ x ∧ x ≤ N) := fun x T h1 h2 => ⟨Int.le_refl _, fun _ => ⟨h1, h2⟩⟩
  unfold kstep
  split
  · split
    · exact bad _ _ (by omega) (by omega)
    · unfold kpart
      split
      · unfold kK; split
        · rename_i z; exact bad _ _ (nf_nn n0) z
        · split
          · rename_i z; exact bad _ _ (nf_nn m0) z
          · exact good _ _ q0 q1
      · split
        · unfold kC; split
          · rename_i z; exact bad _ _ (nf_nn n0) z
          · split
            · rename_i z; exact bad _ _ (nf_nn m0) z
            · exact good _ _ q0 q1
        · split
          · unfold kS; split
            · rename_i z; exact bad _ _ (nf_nn n0) z
            · split
              · exact bad _ _ (by omega) (by omega)
              · split
                · rename_i z; exact bad _ _ (nf_nn m0) z
                · exact good _ _ q0 q1
          · split
            · unfold kF; split
              · rename_i z; exact bad _ _ (nf_nn n0) z
              · split
                · exact bad _ _ (by omega) (by omega)
                · exact good _ _ m0 m1
            · unfold kO; split
              · rename_i z; exact bad _ _ (nf_nn n0) z
              · split
                · rename_i z; exact bad _ _ (nf_nn m0) z
                · split
                  · rename_i z; exact bad _ _ (nf_nn q0) z
                  · exact good _ _ r0 r1
  · exact bad _ _ (by omega) (by omega)
theorem kall_nn {b : Int → Int} {N : Int} : ∀ (k : Nat) (cl s : Int) (T : Int → Int → Int), 0 ≤ cl → 0 ≤ s → s ≤ N → kg cl T → 0 ≤ (kall b N k cl s T).1 ∧ ((kall b N k cl s T).1 = 0 → iv_td (kall b N k cl s T).2 ∧ 3 ≤ (kall b N k cl s T).2 0 0)
  | 0, cl, s, T, _, _, _, _ => by unfold kall; exact ⟨by simp only; omega, fun y => by simp only at y; omega⟩
  | k + 1, cl, s, T, cl0, s0, s1, G => by
    have KT := fun h => kstep_td (b := b) (N := N) (s := s) cl0 s0 s1 G h
    have SB : (kstep b N cl s T).1 = 0 → 0 ≤ (kstep b N cl s T).2.1 ∧ (kstep b N cl s T).2.1 ≤ N := (kstep_b s0 s1).2
    have FB : 0 ≤ (kstep b N cl s T).1 := (kstep_b s0 s1).1
    unfold kall
    generalize kstep b N cl s T = R at *
    obtain ⟨f, s', T'⟩ := R
    dsimp only at *
    split
    · rename_i z; exact ⟨FB, fun y => absurd y z⟩
    · rename_i z
      have z : f = 0 := by omega
      split
      · exact ⟨by simp only; omega, fun _ => KT z⟩
      · split
        · obtain ⟨n0, n1⟩ := nxT_b (b := b) (SB z).1 (SB z).2
          exact kall_nn k (cl + 1) _ T' (by omega) n0 n1 ⟨(KT z).1, fun y => by omega, fun _ => (KT z).2⟩
        · have := (SB z).1
          exact ⟨by simp only; omega, fun y => by simp only at y; omega⟩
set_option maxRecDepth 100000 in
set_option maxHeartbeats 4000000 in
theorem m_readsAll {h x : Int → Int → Int} {b : Int → Int} {N : Int} (t : tx b N) (m : tm b N x) (mb : mB x) {d : Nat} {Q : ax_V → ax_H → Prop} (hq : ∀ g, (∀ k j, ¬ (k = 124 ∧ ((23 ≤ j ∧ j ≤ 25) ∨ (28 ≤ j ∧ j ≤ 30))) → ¬ (140 ≤ k ∧ k ≤ 146) → g k j = x k j) → mB g → g 124 23 = 0 → g 124 25 = (kall b N 41 0 (sk b N 0) (T0 h)).1 → ((kall b N 41 0 (sk b N 0) (T0 h)).1 = 0 → MT (kall b N 41 0 (sk b N 0) (T0 h)).2 g) → Q (9, 0) (L0, g)) : ax_Ev (d + 7) 157 0 [(2, 124), (9, 0), (9, 0)] [] (L0, x) Q := by
  have N4 := t.1
  have e : ∀ j, 0 ≤ j → j ≤ 3 → T0 h 0 j = 0 := fun j a b => if_pos ⟨rfl, a, b⟩
  have e4 : T0 h 0 4 = -1 := by simp [T0]
  have K : ∀ g1 : Int → Int → Int, (∀ k j, ¬ (k = 124 ∧ ((24 ≤ j ∧ j ≤ 25) ∨ (28 ≤ j ∧ j ≤ 30))) → ¬ (140 ≤ k ∧ k ≤ 141) → g1 k j = x k j) → g1 124 24 = 0 → g1 124 25 = 0 → (g1 140 0 = 0 ∧ g1 140 1 = 0 ∧ g1 140 2 = 0 ∧ g1 140 3 = -1 ∧ g1 140 4 = 0) → (∀ c, 0 ≤ c → c < 9 → g1 141 c = -1) → ax_Ev (d + 7) 157 56 [(2, 124), (0, 0), (0, 1)] [] (L0, g1) Q := by
    intro g1 f1 p1 p2 p3 p4
    refine m_all t 41 0 (sk b N 0) (T0 h) g1 (by omega) (by omega) (by omega) (T0_td h) ⟨⟨⟨by rw [f1 _ _ (by omega) (by omega)]; exact m.1, fun j j0 j1 => by rw [f1 _ _ (by omega) (by omega)]; exact m.2 j j0 j1⟩, ⟨⟨?_, ?_, ?_, ?_, ?_⟩, fun c a b => ?_, fun y a b => ?_, fun r a b => ?_⟩, fun y a b => ?_⟩, by rw [p1]; omega, p2, by rw [p1]⟩ ?_
    · rw [p3.1, e 0 (by omega) (by omega)]
    · rw [p3.2.1, e 2 (by omega) (by omega)]
    · rw [p3.2.2.1, e 3 (by omega) (by omega)]
    · rw [p3.2.2.2.1, e4]
    · rw [p3.2.2.2.2, e 1 (by omega) (by omega)]
    · rw [p4 c a b]; unfold T0; rw [if_neg (by omega), if_neg (by omega), if_pos ⟨rfl, a, b⟩]
    · rw [e 2 (by omega) (by omega)] at b; omega
    · rw [e 3 (by omega) (by omega)] at b; omega
    · rw [f1 142 y (by omega) (by omega), f1 143 y (by omega) (by omega)]; exact mb y a b
    · intro g2 y1 y2 y3 y4
      refine hq (ax_up g2 124 23 0) (fun k j q1 q2 => ?_) (fun y a b => ?_) ax_up_eq (by rw [ax_up_no (by omega)]; exact y3) (fun z => ?_)
      · rw [ax_up_no (by omega), y1 k j (by omega) q2]; exact f1 k j (by omega) (by omega)
      · rw [ax_up_no (by omega), ax_up_no (by omega)]; exact y2 y a b
      · obtain ⟨⟨a1, a2, a3, a4, a5⟩, m2, m3, m4⟩ := y4 z
        refine ⟨⟨?_, ?_, ?_, ?_, ?_⟩, fun c a b => ?_, fun c a b => ?_, fun c a b => ?_⟩
        all_goals (repeat rw [ax_up_no (by omega)])
        · exact a1
        · exact a2
        · exact a3
        · exact a4
        · exact a5
        · exact m2 c a b
        · exact m3 c a b
        · exact m4 c a b
  clear hq t m mb e e4
  simp (disch := omega) only [ax_ev, ax_kk, ax_ps, ax_r_const, ax_r_lconst, ax_r_str, ax_r_iload, ax_r_lload, ax_r_aload, ax_r_istore, ax_r_astore, ax_r_lstore, ax_r_iinc, ax_r_iadd, ax_r_isub, ax_r_imul, ax_r_idiv, ax_r_irem, ax_r_iand, ax_r_ior, ax_r_ishl, ax_r_ishr, ax_r_iushr, ax_r_i2l, ax_r_l2i, ax_r_i2b, ax_r_ladd, ax_r_lsub, ax_r_lmul, ax_r_ldiv, ax_r_lrem, ax_r_land, ax_r_lor, ax_r_lcmp, ax_r_ifeq, ax_r_ifne, ax_r_iflt, ax_r_ifge, ax_r_ifgt, ax_r_ifle, ax_r_iceq, ax_r_icne, ax_r_iclt, ax_r_icge, ax_r_icgt, ax_r_icle, ax_r_goto, ax_r_tsw, ax_evt_c, ax_evt_n, ax_r_lsw, ax_evu_c, ax_evu_n, ax_r_getI, ax_r_getR, ax_r_putI, ax_r_putZ, ax_r_iald, ax_r_iast, ax_r_lald, ax_r_last, ax_r_bald, ax_r_aald, ax_r_alen, ax_r_bast, ax_r_min, ax_r_max, ax_r_minl, ax_r_maxl, ax_r_copy, ax_r_slen, ax_r_schr, ax_r_dup, ax_r_dup2, ax_r_pop, ax_r_ret, ax_r_lret, ax_r_vret, ax_r_zret, ax_r_aret, ax_r_call, ax_evo, ax_eva, ax_ar, ax_tk, ax_ex, ax_ld, ax_sto, ax_stl, ly_pm, ly_cd, ly_ln, ly_rf, Option.bind_some, Option.map_some, if_true, if_false, true_and, and_true, List.nil_append, List.cons_append, List.append_nil, List.length_nil, List.length_cons, List.headD_cons, true_or, or_true, false_or, or_false, ne_eq, not_false_eq_true, not_true_eq_false, false_and, and_false, List.set_cons_zero, List.set_cons_succ, Nat.reduceAdd, Nat.reduceSub, Nat.reduceMul, Nat.reduceLeDiff, Nat.reduceLT, Nat.reduceEqDiff, ↓reduceIte, Int.reduceNeg, Int.reduceAdd, Int.reduceSub, Int.reduceMul, Int.reduceEq, Int.reduceNe, Int.reduceLE, Int.reduceLT, Int.reduceToNat, Nat.one_ne_zero, Nat.zero_ne_one, Int.cast_ofNat_Int, lc_lt, lc_ge, lc_gt, lc_le, lc_eq, lc_ne, w32i, w64i, tdv, tmd, ltT, ltF, leT, leF, eqT, eqF, dc_M_readsAll, dc_M_starts, dh_M_readsAll_6, dh_M_readsAll_33, ax_up]
  refine K _ ?_ ?_ ?_ ?_ ?_
  · intro k j q1 q2
    repeat rw [ax_up_no (by omega)]
  · simp [ax_up]
  · simp [ax_up]
  · simp [ax_up]
  · intro c a b
    rcases (by omega : c = 0 ∨ c = 1 ∨ c = 2 ∨ c = 3 ∨ c = 4 ∨ c = 5 ∨ c = 6 ∨ c = 7 ∨ c = 8) with e | e | e | e | e | e | e | e | e <;> subst e <;> simp [ax_up]
