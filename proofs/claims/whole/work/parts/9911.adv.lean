/-! the next token, in the class -/
section
variable {b : Int → Int} {N s : Int}
theorem tkB_0 (k : tkK b N s = 0) : tkB b N s = s := by unfold tkB; rw [if_pos k]
theorem tkB_1 (k : tkK b N s = 1) : tkB b N s = rnT isD b N s := by unfold tkB; rw [if_neg (by omega), if_pos k]
theorem tkB_2 (k : tkK b N s = 2) : tkB b N s = rnT isL b N s := by unfold tkB; rw [if_neg (by omega), if_neg (by omega), if_pos k]
theorem tkB_3 (k : tkK b N s = 3) : tkB b N s = @ite Int (sg2 b N s) (Classical.propDecidable _) (s + 2) (s + 1) := by unfold tkB; rw [if_neg (by omega), if_neg (by omega), if_neg (by omega)]
theorem tkV_0 (k : tkK b N s = 0) : tkV b N s = -1 := by unfold tkV; rw [if_pos k]
theorem tkV_1 (k : tkK b N s = 1) : tkV b N s = if rnT isD b N s - s ≤ 5 then dv b s (rnT isD b N s - s).toNat else -1 := by unfold tkV; rw [if_neg (by omega), if_pos k]
theorem tkV_2 (k : tkK b N s = 2) : tkV b N s = wfind b N s WL 0 := by unfold tkV; rw [if_neg (by omega), if_neg (by omega), if_pos k]
theorem tkV_3 (k : tkK b N s = 3) : tkV b N s = @ite Int (sg2 b N s) (Classical.propDecidable _) (b s + 256) (b s) := by unfold tkV; rw [if_neg (by omega), if_neg (by omega), if_neg (by omega)]
end
theorem tkB_ge {b : Int → Int} {N s : Int} : s ≤ tkB b N s := by
  unfold tkB
  have := (rnT_s isD b N s).1
  have := (rnT_s isL b N s).1
  repeat' split
  all_goals omega
theorem tkB_le {b : Int → Int} {N s : Int} (h : s ≤ N) : tkB b N s ≤ N := by
  unfold tkB
  have := rnT_le (P := isD) (b := b) h
  have := rnT_le (P := isL) (b := b) h
  split
  · omega
  · rename_i k
    have : s < N := by unfold tkK at k; split at k <;> omega
    split
    · omega
    · split
      · omega
      · split
        · rename_i c; have := c.2.1; omega
        · omega
theorem sk_ge (b : Int → Int) (N q : Int) : q ≤ sk b N q := (rnT_s isB b N q).1
theorem sk_le {b : Int → Int} {N q : Int} (h : q ≤ N) : sk b N q ≤ N := rnT_le h
set_option maxRecDepth 100000 in
set_option maxHeartbeats 4000000 in
theorem t_adv {b : Int → Int} {N q : Int} (t : tx b N) (q0 : 0 ≤ q) (q1 : q ≤ N) {g : Int → Int → Int} (gb : ∀ j, g 2 j = b j) (gN : g 1 1 = N) (g2 : g 1 2 = q) {d : Nat} {Q : ax_V → ax_H → Prop} (hq : ∀ g', (∀ k j, ¬ (k = 1 ∧ 2 ≤ j ∧ j ≤ 5) → g' k j = g k j) → tkG b N g' (sk b N q) → Q (9, 0) (L0, g')) : ax_Ev (d + 1) 79 0 [(2, 1), (9, 0)] [] (L0, g) Q := by
  have e0 := sk_ge b N q
  have eN := sk_le (b := b) q1
  obtain ⟨-, e1, e2⟩ := rnT_s isB b N q
  change ∀ j, q ≤ j → j < sk b N q → j < N ∧ isB (b j) = true at e1
  change sk b N q < N → isB (b (sk b N q)) = false at e2
  generalize sk b N q = s at *
  have N0 := t.1
  have K := lp (E := fun k => ∀ g', (∀ k j, ¬ (k = 1 ∧ j = 2) → g' k j = g k j) → g' 1 2 = k → ax_Ev (d + 1) 79 0 [(2, 1), (9, 0)] [] (L0, g') Q) (a := q) (n := s) e0 ?_ ?_
  · exact K g (fun _ _ _ => rfl) g2
  · intro k k0 k1 ih g' f1 f2
    have c := e1 k k0 k1
    have cd := isB_t.1 c.2
    have bk : g' 2 k = b k := by rw [f1 _ _ (by omega)]; exact gb k
    have gN' : g' 1 1 = N := by rw [f1 _ _ (by omega)]; exact gN
    have I := ih (ax_up g' 1 2 (k + 1)) (fun a j e => by simp only [ax_up]; rw [if_neg (by omega)]; exact f1 a j e) (by simp [ax_up])
    have kN := c.1
    clear ih hq e1 e2 t gb f1 c
    rw [ax_ev, dh_Tape_advance_0]
    simp (disch := omega) only [ax_ev, ax_kk, ax_ps, ax_r_const, ax_r_lconst, ax_r_str, ax_r_iload, ax_r_lload, ax_r_aload, ax_r_istore, ax_r_astore, ax_r_lstore, ax_r_iinc, ax_r_iadd, ax_r_isub, ax_r_imul, ax_r_idiv, ax_r_irem, ax_r_iand, ax_r_ior, ax_r_ishl, ax_r_ishr, ax_r_iushr, ax_r_i2l, ax_r_l2i, ax_r_i2b, ax_r_ladd, ax_r_lsub, ax_r_lmul, ax_r_ldiv, ax_r_lrem, ax_r_land, ax_r_lor, ax_r_lcmp, ax_r_ifeq, ax_r_ifne, ax_r_iflt, ax_r_ifge, ax_r_ifgt, ax_r_ifle, ax_r_iceq, ax_r_icne, ax_r_iclt, ax_r_icge, ax_r_icgt, ax_r_icle, ax_r_goto, ax_r_tsw, ax_evt_c, ax_evt_n, ax_r_lsw, ax_evu_c, ax_evu_n, ax_r_getI, ax_r_getR, ax_r_putI, ax_r_putZ, ax_r_iald, ax_r_iast, ax_r_lald, ax_r_last, ax_r_bald, ax_r_aald, ax_r_alen, ax_r_bast, ax_r_min, ax_r_max, ax_r_minl, ax_r_maxl, ax_r_copy, ax_r_slen, ax_r_schr, ax_r_dup, ax_r_dup2, ax_r_pop, ax_r_ret, ax_r_lret, ax_r_vret, ax_r_zret, ax_r_aret, ax_r_call, ax_evo, ax_eva, ax_ar, ax_tk, ax_ex, ax_ld, ax_sto, ax_stl, ly_pm, ly_cd, ly_ln, ly_rf, Option.bind_some, Option.map_some, if_true, if_false, true_and, and_true, List.nil_append, List.cons_append, List.append_nil, List.length_nil, List.length_cons, List.headD_cons, true_or, or_true, false_or, or_false, ne_eq, not_false_eq_true, not_true_eq_false, false_and, and_false, List.set_cons_zero, List.set_cons_succ, Nat.reduceAdd, Nat.reduceSub, Nat.reduceMul, Nat.reduceLeDiff, Nat.reduceLT, Nat.reduceEqDiff, ↓reduceIte, Int.reduceNeg, Int.reduceAdd, Int.reduceSub, Int.reduceMul, Int.reduceEq, Int.reduceNe, Int.reduceLE, Int.reduceLT, Int.reduceToNat, Nat.one_ne_zero, Nat.zero_ne_one, Int.cast_ofNat_Int, lc_lt, lc_ge, lc_gt, lc_le, lc_eq, lc_ne, w32i, w64i, tdv, tmd, ltT, ltF, leT, leF, eqT, eqF, dc_Tape_advance, f2, bk, gN']
    exact I
  · intro g' f1 f2
    have be : g' 2 s = b s := by rw [f1 _ _ (by omega)]; exact gb s
    have gN' : g' 1 1 = N := by rw [f1 _ _ (by omega)]; exact gN
    obtain ⟨G, hG⟩ : ∃ G, G = ax_up (ax_up g' 1 4 s) 1 5 (-1) := ⟨_, rfl⟩
    have Gf : ∀ k j, ¬ (k = 1 ∧ (j = 2 ∨ j = 4 ∨ j = 5)) → G k j = g k j := fun k j e => by rw [hG]; simp only [ax_up]; rw [if_neg (by omega), if_neg (by omega)]; exact f1 k j (by omega)
    have G2 : G 1 2 = s := by rw [hG]; simp [ax_up, f2]
    have G4 : G 1 4 = s := by rw [hG]; simp [ax_up]
    have G5 : G 1 5 = -1 := by rw [hG]; simp [ax_up]
    have Gb : ∀ j, G 2 j = b j := fun j => by rw [Gf _ _ (by omega)]; exact gb j
    have GN : G 1 1 = N := by rw [Gf _ _ (by omega)]; exact gN
    have Gs := Gb s
    rw [ax_ev, dh_Tape_advance_0]
    by_cases z : s < N
    · have nb : ¬ b s = 32 := isB_f.1 (e2 z)
      have bb := t.2 s (by omega) z
      by_cases D : 48 ≤ b s ∧ b s ≤ 57
      · have kk : tkK b N s = 1 := by unfold tkK; rw [if_neg (by omega), if_pos D]
        have X : ax_Ev (d) 80 0 [(2, 1), (9, 0)] [] (L0, G) (ax_k (d + 1) 79 94 [(2, 1), (0, b s)] [] Q) := by
          refine t_num t (by omega) z D Gb GN G2 G4 ?_
          intro g3 p1 p2 p3 p4
          have H := hq g3 (fun k j e => by rw [p1 k j (by omega)]; exact Gf k j (by omega)) ⟨by rw [p2, tkB_1 kk], by rw [p3, kk], by rw [p1 _ _ (by omega)]; exact G4, by rw [p4, tkV_1 kk]⟩
          clear hq p1 p2 p3 p4 t gb Gb Gf f1 e1 e2
          rw [ax_kk]
          simp (disch := omega) only [ax_ev, ax_kk, ax_ps, ax_r_const, ax_r_lconst, ax_r_str, ax_r_iload, ax_r_lload, ax_r_aload, ax_r_istore, ax_r_astore, ax_r_lstore, ax_r_iinc, ax_r_iadd, ax_r_isub, ax_r_imul, ax_r_idiv, ax_r_irem, ax_r_iand, ax_r_ior, ax_r_ishl, ax_r_ishr, ax_r_iushr, ax_r_i2l, ax_r_l2i, ax_r_i2b, ax_r_ladd, ax_r_lsub, ax_r_lmul, ax_r_ldiv, ax_r_lrem, ax_r_land, ax_r_lor, ax_r_lcmp, ax_r_ifeq, ax_r_ifne, ax_r_iflt, ax_r_ifge, ax_r_ifgt, ax_r_ifle, ax_r_iceq, ax_r_icne, ax_r_iclt, ax_r_icge, ax_r_icgt, ax_r_icle, ax_r_goto, ax_r_tsw, ax_evt_c, ax_evt_n, ax_r_lsw, ax_evu_c, ax_evu_n, ax_r_getI, ax_r_getR, ax_r_putI, ax_r_putZ, ax_r_iald, ax_r_iast, ax_r_lald, ax_r_last, ax_r_bald, ax_r_aald, ax_r_alen, ax_r_bast, ax_r_min, ax_r_max, ax_r_minl, ax_r_maxl, ax_r_copy, ax_r_slen, ax_r_schr, ax_r_dup, ax_r_dup2, ax_r_pop, ax_r_ret, ax_r_lret, ax_r_vret, ax_r_zret, ax_r_aret, ax_r_call, ax_evo, ax_eva, ax_ar, ax_tk, ax_ex, ax_ld, ax_sto, ax_stl, ly_pm, ly_cd, ly_ln, ly_rf, Option.bind_some, Option.map_some, if_true, if_false, true_and, and_true, List.nil_append, List.cons_append, List.append_nil, List.length_nil, List.length_cons, List.headD_cons, true_or, or_true, false_or, or_false, ne_eq, not_false_eq_true, not_true_eq_false, false_and, and_false, List.set_cons_zero, List.set_cons_succ, Nat.reduceAdd, Nat.reduceSub, Nat.reduceMul, Nat.reduceLeDiff, Nat.reduceLT, Nat.reduceEqDiff, ↓reduceIte, Int.reduceNeg, Int.reduceAdd, Int.reduceSub, Int.reduceMul, Int.reduceEq, Int.reduceNe, Int.reduceLE, Int.reduceLT, Int.reduceToNat, Nat.one_ne_zero, Nat.zero_ne_one, Int.cast_ofNat_Int, lc_lt, lc_ge, lc_gt, lc_le, lc_eq, lc_ne, w32i, w64i, tdv, tmd, ltT, ltF, leT, leF, eqT, eqF, dc_Tape_advance]
          exact H
        clear hq t gb Gb Gf f1 e1 e2
        simp (disch := omega) only [ax_ev, ax_kk, ax_ps, ax_r_const, ax_r_lconst, ax_r_str, ax_r_iload, ax_r_lload, ax_r_aload, ax_r_istore, ax_r_astore, ax_r_lstore, ax_r_iinc, ax_r_iadd, ax_r_isub, ax_r_imul, ax_r_idiv, ax_r_irem, ax_r_iand, ax_r_ior, ax_r_ishl, ax_r_ishr, ax_r_iushr, ax_r_i2l, ax_r_l2i, ax_r_i2b, ax_r_ladd, ax_r_lsub, ax_r_lmul, ax_r_ldiv, ax_r_lrem, ax_r_land, ax_r_lor, ax_r_lcmp, ax_r_ifeq, ax_r_ifne, ax_r_iflt, ax_r_ifge, ax_r_ifgt, ax_r_ifle, ax_r_iceq, ax_r_icne, ax_r_iclt, ax_r_icge, ax_r_icgt, ax_r_icle, ax_r_goto, ax_r_tsw, ax_evt_c, ax_evt_n, ax_r_lsw, ax_evu_c, ax_evu_n, ax_r_getI, ax_r_getR, ax_r_putI, ax_r_putZ, ax_r_iald, ax_r_iast, ax_r_lald, ax_r_last, ax_r_bald, ax_r_aald, ax_r_alen, ax_r_bast, ax_r_min, ax_r_max, ax_r_minl, ax_r_maxl, ax_r_copy, ax_r_slen, ax_r_schr, ax_r_dup, ax_r_dup2, ax_r_pop, ax_r_ret, ax_r_lret, ax_r_vret, ax_r_zret, ax_r_aret, ax_r_call, ax_evo, ax_eva, ax_ar, ax_tk, ax_ex, ax_ld, ax_sto, ax_stl, ly_pm, ly_cd, ly_ln, ly_rf, Option.bind_some, Option.map_some, if_true, if_false, true_and, and_true, List.nil_append, List.cons_append, List.append_nil, List.length_nil, List.length_cons, List.headD_cons, true_or, or_true, false_or, or_false, ne_eq, not_false_eq_true, not_true_eq_false, false_and, and_false, List.set_cons_zero, List.set_cons_succ, Nat.reduceAdd, Nat.reduceSub, Nat.reduceMul, Nat.reduceLeDiff, Nat.reduceLT, Nat.reduceEqDiff, ↓reduceIte, Int.reduceNeg, Int.reduceAdd, Int.reduceSub, Int.reduceMul, Int.reduceEq, Int.reduceNe, Int.reduceLE, Int.reduceLT, Int.reduceToNat, Nat.one_ne_zero, Nat.zero_ne_one, Int.cast_ofNat_Int, lc_lt, lc_ge, lc_gt, lc_le, lc_eq, lc_ne, w32i, w64i, tdv, tmd, ltT, ltF, leT, leF, eqT, eqF, dc_Tape_advance, f2, be, gN', hG.symm, Gs, G2, GN]
        exact X
      · by_cases Lr : 97 ≤ b s ∧ b s ≤ 122
        · have kk : tkK b N s = 2 := by unfold tkK; rw [if_neg (by omega), if_neg D, if_pos Lr]
          have X : ax_Ev (d) 81 0 [(2, 1), (9, 0), (9, 0), (9, 0), (9, 0)] [] (L0, G) (ax_k (d + 1) 79 113 [(2, 1), (0, b s)] [] Q) := by
            refine t_word t (by omega) z Gb GN G2 G4 G5 ?_
            intro g3 p1 p2 p3 p4
            have H := hq g3 (fun k j e => by rw [p1 k j (by omega)]; exact Gf k j (by omega)) ⟨by rw [p2, tkB_2 kk], by rw [p3, kk], by rw [p1 _ _ (by omega)]; exact G4, by rw [p4, tkV_2 kk]⟩
            clear hq p1 p2 p3 p4 t gb Gb Gf f1 e1 e2
            rw [ax_kk]
            simp (disch := omega) only [ax_ev, ax_kk, ax_ps, ax_r_const, ax_r_lconst, ax_r_str, ax_r_iload, ax_r_lload, ax_r_aload, ax_r_istore, ax_r_astore, ax_r_lstore, ax_r_iinc, ax_r_iadd, ax_r_isub, ax_r_imul, ax_r_idiv, ax_r_irem, ax_r_iand, ax_r_ior, ax_r_ishl, ax_r_ishr, ax_r_iushr, ax_r_i2l, ax_r_l2i, ax_r_i2b, ax_r_ladd, ax_r_lsub, ax_r_lmul, ax_r_ldiv, ax_r_lrem, ax_r_land, ax_r_lor, ax_r_lcmp, ax_r_ifeq, ax_r_ifne, ax_r_iflt, ax_r_ifge, ax_r_ifgt, ax_r_ifle, ax_r_iceq, ax_r_icne, ax_r_iclt, ax_r_icge, ax_r_icgt, ax_r_icle, ax_r_goto, ax_r_tsw, ax_evt_c, ax_evt_n, ax_r_lsw, ax_evu_c, ax_evu_n, ax_r_getI, ax_r_getR, ax_r_putI, ax_r_putZ, ax_r_iald, ax_r_iast, ax_r_lald, ax_r_last, ax_r_bald, ax_r_aald, ax_r_alen, ax_r_bast, ax_r_min, ax_r_max, ax_r_minl, ax_r_maxl, ax_r_copy, ax_r_slen, ax_r_schr, ax_r_dup, ax_r_dup2, ax_r_pop, ax_r_ret, ax_r_lret, ax_r_vret, ax_r_zret, ax_r_aret, ax_r_call, ax_evo, ax_eva, ax_ar, ax_tk, ax_ex, ax_ld, ax_sto, ax_stl, ly_pm, ly_cd, ly_ln, ly_rf, Option.bind_some, Option.map_some, if_true, if_false, true_and, and_true, List.nil_append, List.cons_append, List.append_nil, List.length_nil, List.length_cons, List.headD_cons, true_or, or_true, false_or, or_false, ne_eq, not_false_eq_true, not_true_eq_false, false_and, and_false, List.set_cons_zero, List.set_cons_succ, Nat.reduceAdd, Nat.reduceSub, Nat.reduceMul, Nat.reduceLeDiff, Nat.reduceLT, Nat.reduceEqDiff, ↓reduceIte, Int.reduceNeg, Int.reduceAdd, Int.reduceSub, Int.reduceMul, Int.reduceEq, Int.reduceNe, Int.reduceLE, Int.reduceLT, Int.reduceToNat, Nat.one_ne_zero, Nat.zero_ne_one, Int.cast_ofNat_Int, lc_lt, lc_ge, lc_gt, lc_le, lc_eq, lc_ne, w32i, w64i, tdv, tmd, ltT, ltF, leT, leF, eqT, eqF, dc_Tape_advance]
            exact H
          clear hq t gb Gb Gf f1 e1 e2
          simp (disch := omega) only [ax_ev, ax_kk, ax_ps, ax_r_const, ax_r_lconst, ax_r_str, ax_r_iload, ax_r_lload, ax_r_aload, ax_r_istore, ax_r_astore, ax_r_lstore, ax_r_iinc, ax_r_iadd, ax_r_isub, ax_r_imul, ax_r_idiv, ax_r_irem, ax_r_iand, ax_r_ior, ax_r_ishl, ax_r_ishr, ax_r_iushr, ax_r_i2l, ax_r_l2i, ax_r_i2b, ax_r_ladd, ax_r_lsub, ax_r_lmul, ax_r_ldiv, ax_r_lrem, ax_r_land, ax_r_lor, ax_r_lcmp, ax_r_ifeq, ax_r_ifne, ax_r_iflt, ax_r_ifge, ax_r_ifgt, ax_r_ifle, ax_r_iceq, ax_r_icne, ax_r_iclt, ax_r_icge, ax_r_icgt, ax_r_icle, ax_r_goto, ax_r_tsw, ax_evt_c, ax_evt_n, ax_r_lsw, ax_evu_c, ax_evu_n, ax_r_getI, ax_r_getR, ax_r_putI, ax_r_putZ, ax_r_iald, ax_r_iast, ax_r_lald, ax_r_last, ax_r_bald, ax_r_aald, ax_r_alen, ax_r_bast, ax_r_min, ax_r_max, ax_r_minl, ax_r_maxl, ax_r_copy, ax_r_slen, ax_r_schr, ax_r_dup, ax_r_dup2, ax_r_pop, ax_r_ret, ax_r_lret, ax_r_vret, ax_r_zret, ax_r_aret, ax_r_call, ax_evo, ax_eva, ax_ar, ax_tk, ax_ex, ax_ld, ax_sto, ax_stl, ly_pm, ly_cd, ly_ln, ly_rf, Option.bind_some, Option.map_some, if_true, if_false, true_and, and_true, List.nil_append, List.cons_append, List.append_nil, List.length_nil, List.length_cons, List.headD_cons, true_or, or_true, false_or, or_false, ne_eq, not_false_eq_true, not_true_eq_false, false_and, and_false, List.set_cons_zero, List.set_cons_succ, Nat.reduceAdd, Nat.reduceSub, Nat.reduceMul, Nat.reduceLeDiff, Nat.reduceLT, Nat.reduceEqDiff, ↓reduceIte, Int.reduceNeg, Int.reduceAdd, Int.reduceSub, Int.reduceMul, Int.reduceEq, Int.reduceNe, Int.reduceLE, Int.reduceLT, Int.reduceToNat, Nat.one_ne_zero, Nat.zero_ne_one, Int.cast_ofNat_Int, lc_lt, lc_ge, lc_gt, lc_le, lc_eq, lc_ne, w32i, w64i, tdv, tmd, ltT, ltF, leT, leF, eqT, eqF, dc_Tape_advance, f2, be, gN', hG.symm, Gs, G2, GN]
          exact X
        · have kk : tkK b N s = 3 := by unfold tkK; rw [if_neg (by omega), if_neg D, if_neg Lr]
          have X : ax_Ev (d) 82 0 [(2, 1), (0, b s), (9, 0)] [] (L0, G) (ax_k (d + 1) 79 121 [(2, 1), (0, b s)] [] Q) := by
            refine t_sign t (by omega) z Gb GN G2 ?_
            intro g3 p1 p2 p3 p4
            have H := hq g3 (fun k j e => by rw [p1 k j (by omega)]; exact Gf k j (by omega)) ⟨by rw [p2, tkB_3 kk], by rw [p3, kk], by rw [p1 _ _ (by omega)]; exact G4, by rw [p4, tkV_3 kk]⟩
            clear hq p1 p2 p3 p4 t gb Gb Gf f1 e1 e2
            rw [ax_kk]
            simp (disch := omega) only [ax_ev, ax_kk, ax_ps, ax_r_const, ax_r_lconst, ax_r_str, ax_r_iload, ax_r_lload, ax_r_aload, ax_r_istore, ax_r_astore, ax_r_lstore, ax_r_iinc, ax_r_iadd, ax_r_isub, ax_r_imul, ax_r_idiv, ax_r_irem, ax_r_iand, ax_r_ior, ax_r_ishl, ax_r_ishr, ax_r_iushr, ax_r_i2l, ax_r_l2i, ax_r_i2b, ax_r_ladd, ax_r_lsub, ax_r_lmul, ax_r_ldiv, ax_r_lrem, ax_r_land, ax_r_lor, ax_r_lcmp, ax_r_ifeq, ax_r_ifne, ax_r_iflt, ax_r_ifge, ax_r_ifgt, ax_r_ifle, ax_r_iceq, ax_r_icne, ax_r_iclt, ax_r_icge, ax_r_icgt, ax_r_icle, ax_r_goto, ax_r_tsw, ax_evt_c, ax_evt_n, ax_r_lsw, ax_evu_c, ax_evu_n, ax_r_getI, ax_r_getR, ax_r_putI, ax_r_putZ, ax_r_iald, ax_r_iast, ax_r_lald, ax_r_last, ax_r_bald, ax_r_aald, ax_r_alen, ax_r_bast, ax_r_min, ax_r_max, ax_r_minl, ax_r_maxl, ax_r_copy, ax_r_slen, ax_r_schr, ax_r_dup, ax_r_dup2, ax_r_pop, ax_r_ret, ax_r_lret, ax_r_vret, ax_r_zret, ax_r_aret, ax_r_call, ax_evo, ax_eva, ax_ar, ax_tk, ax_ex, ax_ld, ax_sto, ax_stl, ly_pm, ly_cd, ly_ln, ly_rf, Option.bind_some, Option.map_some, if_true, if_false, true_and, and_true, List.nil_append, List.cons_append, List.append_nil, List.length_nil, List.length_cons, List.headD_cons, true_or, or_true, false_or, or_false, ne_eq, not_false_eq_true, not_true_eq_false, false_and, and_false, List.set_cons_zero, List.set_cons_succ, Nat.reduceAdd, Nat.reduceSub, Nat.reduceMul, Nat.reduceLeDiff, Nat.reduceLT, Nat.reduceEqDiff, ↓reduceIte, Int.reduceNeg, Int.reduceAdd, Int.reduceSub, Int.reduceMul, Int.reduceEq, Int.reduceNe, Int.reduceLE, Int.reduceLT, Int.reduceToNat, Nat.one_ne_zero, Nat.zero_ne_one, Int.cast_ofNat_Int, lc_lt, lc_ge, lc_gt, lc_le, lc_eq, lc_ne, w32i, w64i, tdv, tmd, ltT, ltF, leT, leF, eqT, eqF, dc_Tape_advance]
            exact H
          clear hq t gb Gb Gf f1 e1 e2
          rcases (by omega : b s < 48 ∨ (57 < b s ∧ b s < 97) ∨ 122 < b s) with y | y | y
          all_goals
            simp (disch := omega) only [ax_ev, ax_kk, ax_ps, ax_r_const, ax_r_lconst, ax_r_str, ax_r_iload, ax_r_lload, ax_r_aload, ax_r_istore, ax_r_astore, ax_r_lstore, ax_r_iinc, ax_r_iadd, ax_r_isub, ax_r_imul, ax_r_idiv, ax_r_irem, ax_r_iand, ax_r_ior, ax_r_ishl, ax_r_ishr, ax_r_iushr, ax_r_i2l, ax_r_l2i, ax_r_i2b, ax_r_ladd, ax_r_lsub, ax_r_lmul, ax_r_ldiv, ax_r_lrem, ax_r_land, ax_r_lor, ax_r_lcmp, ax_r_ifeq, ax_r_ifne, ax_r_iflt, ax_r_ifge, ax_r_ifgt, ax_r_ifle, ax_r_iceq, ax_r_icne, ax_r_iclt, ax_r_icge, ax_r_icgt, ax_r_icle, ax_r_goto, ax_r_tsw, ax_evt_c, ax_evt_n, ax_r_lsw, ax_evu_c, ax_evu_n, ax_r_getI, ax_r_getR, ax_r_putI, ax_r_putZ, ax_r_iald, ax_r_iast, ax_r_lald, ax_r_last, ax_r_bald, ax_r_aald, ax_r_alen, ax_r_bast, ax_r_min, ax_r_max, ax_r_minl, ax_r_maxl, ax_r_copy, ax_r_slen, ax_r_schr, ax_r_dup, ax_r_dup2, ax_r_pop, ax_r_ret, ax_r_lret, ax_r_vret, ax_r_zret, ax_r_aret, ax_r_call, ax_evo, ax_eva, ax_ar, ax_tk, ax_ex, ax_ld, ax_sto, ax_stl, ly_pm, ly_cd, ly_ln, ly_rf, Option.bind_some, Option.map_some, if_true, if_false, true_and, and_true, List.nil_append, List.cons_append, List.append_nil, List.length_nil, List.length_cons, List.headD_cons, true_or, or_true, false_or, or_false, ne_eq, not_false_eq_true, not_true_eq_false, false_and, and_false, List.set_cons_zero, List.set_cons_succ, Nat.reduceAdd, Nat.reduceSub, Nat.reduceMul, Nat.reduceLeDiff, Nat.reduceLT, Nat.reduceEqDiff, ↓reduceIte, Int.reduceNeg, Int.reduceAdd, Int.reduceSub, Int.reduceMul, Int.reduceEq, Int.reduceNe, Int.reduceLE, Int.reduceLT, Int.reduceToNat, Nat.one_ne_zero, Nat.zero_ne_one, Int.cast_ofNat_Int, lc_lt, lc_ge, lc_gt, lc_le, lc_eq, lc_ne, w32i, w64i, tdv, tmd, ltT, ltF, leT, leF, eqT, eqF, dc_Tape_advance, f2, be, gN', hG.symm, Gs, G2, GN]
            exact X
    · have kk : tkK b N s = 0 := by unfold tkK; rw [if_pos (by omega)]
      have H := hq (ax_up G 1 3 0) (fun k j e => by simp only [ax_up]; rw [if_neg (by omega)]; exact Gf k j (by omega)) ⟨by simp only [ax_up]; rw [if_neg (by omega), G2, tkB_0 kk], by simp [ax_up, kk], by simp only [ax_up]; rw [if_neg (by omega)]; exact G4, by simp only [ax_up]; rw [if_neg (by omega), G5, tkV_0 kk]⟩
      clear hq t gb Gb Gf f1 e1 e2
      simp (disch := omega) only [ax_ev, ax_kk, ax_ps, ax_r_const, ax_r_lconst, ax_r_str, ax_r_iload, ax_r_lload, ax_r_aload, ax_r_istore, ax_r_astore, ax_r_lstore, ax_r_iinc, ax_r_iadd, ax_r_isub, ax_r_imul, ax_r_idiv, ax_r_irem, ax_r_iand, ax_r_ior, ax_r_ishl, ax_r_ishr, ax_r_iushr, ax_r_i2l, ax_r_l2i, ax_r_i2b, ax_r_ladd, ax_r_lsub, ax_r_lmul, ax_r_ldiv, ax_r_lrem, ax_r_land, ax_r_lor, ax_r_lcmp, ax_r_ifeq, ax_r_ifne, ax_r_iflt, ax_r_ifge, ax_r_ifgt, ax_r_ifle, ax_r_iceq, ax_r_icne, ax_r_iclt, ax_r_icge, ax_r_icgt, ax_r_icle, ax_r_goto, ax_r_tsw, ax_evt_c, ax_evt_n, ax_r_lsw, ax_evu_c, ax_evu_n, ax_r_getI, ax_r_getR, ax_r_putI, ax_r_putZ, ax_r_iald, ax_r_iast, ax_r_lald, ax_r_last, ax_r_bald, ax_r_aald, ax_r_alen, ax_r_bast, ax_r_min, ax_r_max, ax_r_minl, ax_r_maxl, ax_r_copy, ax_r_slen, ax_r_schr, ax_r_dup, ax_r_dup2, ax_r_pop, ax_r_ret, ax_r_lret, ax_r_vret, ax_r_zret, ax_r_aret, ax_r_call, ax_evo, ax_eva, ax_ar, ax_tk, ax_ex, ax_ld, ax_sto, ax_stl, ly_pm, ly_cd, ly_ln, ly_rf, Option.bind_some, Option.map_some, if_true, if_false, true_and, and_true, List.nil_append, List.cons_append, List.append_nil, List.length_nil, List.length_cons, List.headD_cons, true_or, or_true, false_or, or_false, ne_eq, not_false_eq_true, not_true_eq_false, false_and, and_false, List.set_cons_zero, List.set_cons_succ, Nat.reduceAdd, Nat.reduceSub, Nat.reduceMul, Nat.reduceLeDiff, Nat.reduceLT, Nat.reduceEqDiff, ↓reduceIte, Int.reduceNeg, Int.reduceAdd, Int.reduceSub, Int.reduceMul, Int.reduceEq, Int.reduceNe, Int.reduceLE, Int.reduceLT, Int.reduceToNat, Nat.one_ne_zero, Nat.zero_ne_one, Int.cast_ofNat_Int, lc_lt, lc_ge, lc_gt, lc_le, lc_eq, lc_ne, w32i, w64i, tdv, tmd, ltT, ltF, leT, leF, eqT, eqF, dc_Tape_advance, f2, gN', hG.symm, G2, GN]
      exact H
/-! the reference's scanning -/
/-- the reference's text is the same -/
def tm (b : Int → Int) (N : Int) (g : Int → Int → Int) : Prop := g 124 23 = N ∧ ∀ j, 0 ≤ j → j < N → g 147 j = ax_w8 (b j)
def sgn (b : Int → Int) (N p : Int) : Int := if p < N then b p else -1
theorem w8_and {x : Int} (x0 : 0 ≤ x) (x1 : x ≤ 255) : ax_and (ax_w8 x) 255 = x := by
  rw [ax_and255 (by unfold ax_r32 ax_w8; omega)]
  unfold ax_w8; omega
