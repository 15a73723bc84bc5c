/-! rule: tests in the reference -/
def lA (f k : Int) : List Int := if f = 0 then [] else [k]
theorem lA_0 (k : Int) : lA 0 k = [] := rfl
theorem lA_1 (k : Int) : lA 1 k = [k] := by simp [lA]
set_option maxRecDepth 100000 in
set_option maxHeartbeats 4000000 in
theorem m_tstl {b : Int → Int} {N r : Int} (t : tx b N) (r0 : 0 ≤ r) (r6 : r < 6) {D : Nat} (T : TSM b N r D) {dep : Int} {vs : (Int → Int) → List Int} {n : Nat} {M1 : List Int} {E : Int} {O : List Int} (hD : 11 ≤ ((D + 1 : Nat) : Int) + dep) (d0 : 0 ≤ dep) (d10 : dep ≤ 10) (E0 : 0 ≤ E) (hO2 : O.length + 25 * (D + 1) ≤ 325) (hOt : tpO O = -1 ∨ tpO O = 12) {Q : ax_V → ax_H → Prop} : ∀ (k : Nat) (s c p an : Int) (av : (Int → Int) → Int) (o : Int) (ov : (Int → Int) → Int) (m : List Int) (g : Int → Int → Int) (l3 l4 : ax_V), 61 ≤ c + k → 1 ≤ k → 0 ≤ c → c ≤ 60 → sk b N p = s → 0 ≤ p → p ≤ N → (an = 0 ∨ an = 1) → (o = 0 ∨ o = 1) → bit av → bit ov → segs m (wA an av (wA o ov vs)) (n + pA o + pA an) → mT b N r g p c (M1 ++ m) (O ++ lA o 11 ++ lA an 10) dep → 3 * ((M1 ++ m).length : Int) + E + 3 * pA o + 3 * pA an ≤ 6 * c + s → (O.length : Int) + pA o + pA an ≤ s →
    ((pL b N (pF b N (pTe b N D) dep) k s c an av o ov).1 ≠ 0 → FBT N r g (pL b N (pF b N (pTe b N D) dep) k s c an av o ov).1 Q) →
    ((pL b N (pF b N (pTe b N D) dep) k s c an av o ov).1 = 0 → SUT b N r g (pL b N (pF b N (pTe b N D) dep) k s c an av o ov) vs n M1 E s c O dep Q) →
    ax_Ev 38 186 9 [(2, 124), (0, 1), (0, 1), l3, l4] [] (L0, g) Q
  | 0, s, c, p, an, av, o, ov, m, g, l3, l4, _, h1, _, _, _, _, _, _, _, _, _, _, _, _, _, _, _ => by omega
  | k + 1, s, c, p, an, av, o, ov, m, g, l3, l4, hk, _, c0, c6, hsk, p0, pN, han, ho, bav, bov, sg, q, hl, hO, hf, hs => by
    have N4 := t.1
    have s00 := sk_ge b N p
    rw [hsk] at s00
    have IH := m_tstl t r0 r6 T (dep := dep) (vs := vs) (n := n) (M1 := M1) (E := E) (O := O) hD d0 d10 E0 hO2 hOt (Q := Q) k
    have PE : pL b N (pF b N (pTe b N D) dep) (k + 1) s c an av o ov = if (pF b N (pTe b N D) dep s c).1 ≠ 0 then pF b N (pTe b N D) dep s c else if tkK b N (pF b N (pTe b N D) dep s c).2.1 = 2 ∧ tkV b N (pF b N (pTe b N D) dep s c).2.1 = 8 then pL b N (pF b N (pTe b N D) dep) k (nxT b N (pF b N (pTe b N D) dep s c).2.1) (pF b N (pTe b N D) dep s c).2.2.1 1 (fun F => if an = 0 then (pF b N (pTe b N D) dep s c).2.2.2 F else ax_landl (av F) ((pF b N (pTe b N D) dep s c).2.2.2 F)) o ov else if tkK b N (pF b N (pTe b N D) dep s c).2.1 = 2 ∧ tkV b N (pF b N (pTe b N D) dep s c).2.1 = 9 then pL b N (pF b N (pTe b N D) dep) k (nxT b N (pF b N (pTe b N D) dep s c).2.1) (pF b N (pTe b N D) dep s c).2.2.1 0 av 1 (fun F => if o = 0 then (if an = 0 then (pF b N (pTe b N D) dep s c).2.2.2 F else ax_landl (av F) ((pF b N (pTe b N D) dep s c).2.2.2 F)) else ax_lorl (ov F) (if an = 0 then (pF b N (pTe b N D) dep s c).2.2.2 F else ax_landl (av F) ((pF b N (pTe b N D) dep s c).2.2.2 F))) else (0, (pF b N (pTe b N D) dep s c).2.1, (pF b N (pTe b N D) dep s c).2.2.1, fun F => if o = 0 then (if an = 0 then (pF b N (pTe b N D) dep s c).2.2.2 F else ax_landl (av F) ((pF b N (pTe b N D) dep s c).2.2.2 F)) else ax_lorl (ov F) (if an = 0 then (pF b N (pTe b N D) dep s c).2.2.2 F else ax_landl (av F) ((pF b N (pTe b N D) dep s c).2.2.2 F))) := rfl
    rw [PE] at hf hs
    clear PE
    have pAo : pA o ≤ 1 := by unfold pA; split <;> omega
    have pAa : pA an ≤ 1 := by unfold pA; split <;> omega
    have lO : (O ++ lA o 11 ++ lA an 10).length = O.length + pA o + pA an := by
      rcases ho with h | h <;> rcases han with h' | h' <;> subst h <;> subst h' <;> simp [lA, pA]
    have lO1 : (O ++ lA o 11).length = O.length + pA o := by
      rcases ho with h | h <;> subst h <;> simp [lA, pA]
    have FC := m_fct t r0 r6 T dep s c p (wA an av (wA o ov vs)) (n + pA o + pA an) M1 (E + 3 * pA o + 3 * pA an) m (O ++ lA o 11 ++ lA an 10) g l3 l4 Q hD d0 d10 c0 c6 hsk p0 pN (by omega) sg q (by omega) (by omega) (by omega)
    generalize hX : pF b N (pTe b N D) dep s c = X at *
    obtain ⟨f, s', c', V⟩ := X
    dsimp only at *
    refine FC (fun z => ?_) (fun z => ?_)
    · rw [if_pos z] at hf
      exact hf z
    · rw [if_neg (by omega)] at hf hs
      clear FC
      intro g1 m1 j v0 p1 l3 l4 x1 hV bv0 sg1 q1 sk1 pr1 hl1 b1 b2 b3
      have s0' : 0 ≤ s' := by omega
      have ssk : sk b N s' = s' := by rw [← sk1]; exact rnT_rn _ _ _ _
      have bV : bit V := fun F => by rw [hV F]; exact nt_bit (bv0 F)
      have t9 : tpO (O ++ lA o 11 ++ lA an 10) ≠ 9 := by
        rcases han with h' | h' <;> subst h'
        · rw [lA_0, List.append_nil]
          rcases ho with h | h <;> subst h
          · rw [lA_0, List.append_nil]; omega
          · rw [lA_1, tpO_app]; omega
        · rw [lA_1, tpO_app]; omega
      have t10 : tpO (O ++ lA o 11) ≠ 10 := by
        rcases ho with h | h <;> subst h
        · rw [lA_0, List.append_nil]; omega
        · rw [lA_1, tpO_app]; omega
      have t11 : tpO O ≠ 11 := by omega
      have W8 := wm_tk (b := b) (N := N) (s := s') (k := 8) (by omega)
      have W9 := wm_tk (b := b) (N := N) (s := s') (k := 9) (by omega)
      have q13 := q1.1.1.2.2.1
      rw [ax_ev, dh_M_test_9]
      simp (disch := omega) only [ax_ev, ax_kk, ax_ps, ax_r_const, ax_r_lconst, ax_r_str, ax_r_iload, ax_r_lload, ax_r_aload, ax_r_istore, ax_r_astore, ax_r_lstore, ax_r_iinc, ax_r_iadd, ax_r_isub, ax_r_imul, ax_r_idiv, ax_r_irem, ax_r_iand, ax_r_ior, ax_r_ishl, ax_r_ishr, ax_r_iushr, ax_r_i2l, ax_r_l2i, ax_r_i2b, ax_r_ladd, ax_r_lsub, ax_r_lmul, ax_r_ldiv, ax_r_lrem, ax_r_land, ax_r_lor, ax_r_lcmp, ax_r_ifeq, ax_r_ifne, ax_r_iflt, ax_r_ifge, ax_r_ifgt, ax_r_ifle, ax_r_iceq, ax_r_icne, ax_r_iclt, ax_r_icge, ax_r_icgt, ax_r_icle, ax_r_goto, ax_r_tsw, ax_evt_c, ax_evt_n, ax_r_lsw, ax_evu_c, ax_evu_n, ax_r_getI, ax_r_getR, ax_r_putI, ax_r_putZ, ax_r_iald, ax_r_iast, ax_r_lald, ax_r_last, ax_r_bald, ax_r_aald, ax_r_alen, ax_r_bast, ax_r_min, ax_r_max, ax_r_minl, ax_r_maxl, ax_r_copy, ax_r_slen, ax_r_schr, ax_r_dup, ax_r_dup2, ax_r_pop, ax_r_ret, ax_r_lret, ax_r_vret, ax_r_zret, ax_r_aret, ax_r_call, ax_evo, ax_eva, ax_ar, ax_tk, ax_ex, ax_ld, ax_sto, ax_stl, ly_pm, ly_cd, ly_ln, ly_rf, Option.bind_some, Option.map_some, if_true, if_false, true_and, and_true, List.nil_append, List.cons_append, List.append_nil, List.length_nil, List.length_cons, List.headD_cons, true_or, or_true, false_or, or_false, ne_eq, not_false_eq_true, not_true_eq_false, false_and, and_false, List.set_cons_zero, List.set_cons_succ, Nat.reduceAdd, Nat.reduceSub, Nat.reduceMul, Nat.reduceLeDiff, Nat.reduceLT, Nat.reduceEqDiff, ↓reduceIte, Int.reduceNeg, Int.reduceAdd, Int.reduceSub, Int.reduceMul, Int.reduceEq, Int.reduceNe, Int.reduceLE, Int.reduceLT, Int.reduceToNat, Nat.one_ne_zero, Nat.zero_ne_one, Int.cast_ofNat_Int, lc_lt, lc_ge, lc_gt, lc_le, lc_eq, lc_ne, w32i, w64i, tdv, tmd, ltT, ltF, leT, leF, eqT, eqF, dc_M_test, q13]
      refine m_ansN r0 r6 d0 (by omega) t9 j m1 v0 g1 (by omega) (by omega) q1 sg1 bv0 (by omega) ?_
      intro g2 m2 x2 q2 sg2 len2
      have sg2' : segs m2 (fun F => V F :: wA an av (wA o ov vs) F) (n + pA o + pA an + 1) := segs_eq sg2 fun F => by rw [hV F]
      rw [ax_kk]
      simp (disch := omega) only [ax_ev, ax_kk, ax_ps, ax_r_const, ax_r_lconst, ax_r_str, ax_r_iload, ax_r_lload, ax_r_aload, ax_r_istore, ax_r_astore, ax_r_lstore, ax_r_iinc, ax_r_iadd, ax_r_isub, ax_r_imul, ax_r_idiv, ax_r_irem, ax_r_iand, ax_r_ior, ax_r_ishl, ax_r_ishr, ax_r_iushr, ax_r_i2l, ax_r_l2i, ax_r_i2b, ax_r_ladd, ax_r_lsub, ax_r_lmul, ax_r_ldiv, ax_r_lrem, ax_r_land, ax_r_lor, ax_r_lcmp, ax_r_ifeq, ax_r_ifne, ax_r_iflt, ax_r_ifge, ax_r_ifgt, ax_r_ifle, ax_r_iceq, ax_r_icne, ax_r_iclt, ax_r_icge, ax_r_icgt, ax_r_icle, ax_r_goto, ax_r_tsw, ax_evt_c, ax_evt_n, ax_r_lsw, ax_evu_c, ax_evu_n, ax_r_getI, ax_r_getR, ax_r_putI, ax_r_putZ, ax_r_iald, ax_r_iast, ax_r_lald, ax_r_last, ax_r_bald, ax_r_aald, ax_r_alen, ax_r_bast, ax_r_min, ax_r_max, ax_r_minl, ax_r_maxl, ax_r_copy, ax_r_slen, ax_r_schr, ax_r_dup, ax_r_dup2, ax_r_pop, ax_r_ret, ax_r_lret, ax_r_vret, ax_r_zret, ax_r_aret, ax_r_call, ax_evo, ax_eva, ax_ar, ax_tk, ax_ex, ax_ld, ax_sto, ax_stl, ly_pm, ly_cd, ly_ln, ly_rf, Option.bind_some, Option.map_some, if_true, if_false, true_and, and_true, List.nil_append, List.cons_append, List.append_nil, List.length_nil, List.length_cons, List.headD_cons, true_or, or_true, false_or, or_false, ne_eq, not_false_eq_true, not_true_eq_false, false_and, and_false, List.set_cons_zero, List.set_cons_succ, Nat.reduceAdd, Nat.reduceSub, Nat.reduceMul, Nat.reduceLeDiff, Nat.reduceLT, Nat.reduceEqDiff, ↓reduceIte, Int.reduceNeg, Int.reduceAdd, Int.reduceSub, Int.reduceMul, Int.reduceEq, Int.reduceNe, Int.reduceLE, Int.reduceLT, Int.reduceToNat, Nat.one_ne_zero, Nat.zero_ne_one, Int.cast_ofNat_Int, lc_lt, lc_ge, lc_gt, lc_le, lc_eq, lc_ne, w32i, w64i, tdv, tmd, ltT, ltF, leT, leF, eqT, eqF, dc_M_test]
      refine m_blanks t q2.1.1.1 q2.1.1.2.1 pr1.1 pr1.2 ?_
      intro g3 f3 e3
      rw [sk1] at e3
      have q3 := mT_am q2 f3 e3
      have x3 : mrt r g g3 := mrt_am (mrt_trans x1 x2) (fun k j e => f3 k j (by omega))
      rw [ax_kk]
      simp (disch := omega) only [ax_ev, ax_kk, ax_ps, ax_r_const, ax_r_lconst, ax_r_str, ax_r_iload, ax_r_lload, ax_r_aload, ax_r_istore, ax_r_astore, ax_r_lstore, ax_r_iinc, ax_r_iadd, ax_r_isub, ax_r_imul, ax_r_idiv, ax_r_irem, ax_r_iand, ax_r_ior, ax_r_ishl, ax_r_ishr, ax_r_iushr, ax_r_i2l, ax_r_l2i, ax_r_i2b, ax_r_ladd, ax_r_lsub, ax_r_lmul, ax_r_ldiv, ax_r_lrem, ax_r_land, ax_r_lor, ax_r_lcmp, ax_r_ifeq, ax_r_ifne, ax_r_iflt, ax_r_ifge, ax_r_ifgt, ax_r_ifle, ax_r_iceq, ax_r_icne, ax_r_iclt, ax_r_icge, ax_r_icgt, ax_r_icle, ax_r_goto, ax_r_tsw, ax_evt_c, ax_evt_n, ax_r_lsw, ax_evu_c, ax_evu_n, ax_r_getI, ax_r_getR, ax_r_putI, ax_r_putZ, ax_r_iald, ax_r_iast, ax_r_lald, ax_r_last, ax_r_bald, ax_r_aald, ax_r_alen, ax_r_bast, ax_r_min, ax_r_max, ax_r_minl, ax_r_maxl, ax_r_copy, ax_r_slen, ax_r_schr, ax_r_dup, ax_r_dup2, ax_r_pop, ax_r_ret, ax_r_lret, ax_r_vret, ax_r_zret, ax_r_aret, ax_r_call, ax_evo, ax_eva, ax_ar, ax_tk, ax_ex, ax_ld, ax_sto, ax_stl, ly_pm, ly_cd, ly_ln, ly_rf, Option.bind_some, Option.map_some, if_true, if_false, true_and, and_true, List.nil_append, List.cons_append, List.append_nil, List.length_nil, List.length_cons, List.headD_cons, true_or, or_true, false_or, or_false, ne_eq, not_false_eq_true, not_true_eq_false, false_and, and_false, List.set_cons_zero, List.set_cons_succ, Nat.reduceAdd, Nat.reduceSub, Nat.reduceMul, Nat.reduceLeDiff, Nat.reduceLT, Nat.reduceEqDiff, ↓reduceIte, Int.reduceNeg, Int.reduceAdd, Int.reduceSub, Int.reduceMul, Int.reduceEq, Int.reduceNe, Int.reduceLE, Int.reduceLT, Int.reduceToNat, Nat.one_ne_zero, Nat.zero_ne_one, Int.cast_ofNat_Int, lc_lt, lc_ge, lc_gt, lc_le, lc_eq, lc_ne, w32i, w64i, tdv, tmd, ltT, ltF, leT, leF, eqT, eqF, dc_M_test]
      refine m_stood t q3.1.1.1 e3 s0' b1.2 wid_not.2.1 (by decide) ?_
      rw [ax_kk]
      simp (disch := omega) only [ax_ev, ax_kk, ax_ps, ax_r_const, ax_r_lconst, ax_r_str, ax_r_iload, ax_r_lload, ax_r_aload, ax_r_istore, ax_r_astore, ax_r_lstore, ax_r_iinc, ax_r_iadd, ax_r_isub, ax_r_imul, ax_r_idiv, ax_r_irem, ax_r_iand, ax_r_ior, ax_r_ishl, ax_r_ishr, ax_r_iushr, ax_r_i2l, ax_r_l2i, ax_r_i2b, ax_r_ladd, ax_r_lsub, ax_r_lmul, ax_r_ldiv, ax_r_lrem, ax_r_land, ax_r_lor, ax_r_lcmp, ax_r_ifeq, ax_r_ifne, ax_r_iflt, ax_r_ifge, ax_r_ifgt, ax_r_ifle, ax_r_iceq, ax_r_icne, ax_r_iclt, ax_r_icge, ax_r_icgt, ax_r_icle, ax_r_goto, ax_r_tsw, ax_evt_c, ax_evt_n, ax_r_lsw, ax_evu_c, ax_evu_n, ax_r_getI, ax_r_getR, ax_r_putI, ax_r_putZ, ax_r_iald, ax_r_iast, ax_r_lald, ax_r_last, ax_r_bald, ax_r_aald, ax_r_alen, ax_r_bast, ax_r_min, ax_r_max, ax_r_minl, ax_r_maxl, ax_r_copy, ax_r_slen, ax_r_schr, ax_r_dup, ax_r_dup2, ax_r_pop, ax_r_ret, ax_r_lret, ax_r_vret, ax_r_zret, ax_r_aret, ax_r_call, ax_evo, ax_eva, ax_ar, ax_tk, ax_ex, ax_ld, ax_sto, ax_stl, ly_pm, ly_cd, ly_ln, ly_rf, Option.bind_some, Option.map_some, if_true, if_false, true_and, and_true, List.nil_append, List.cons_append, List.append_nil, List.length_nil, List.length_cons, List.headD_cons, true_or, or_true, false_or, or_false, ne_eq, not_false_eq_true, not_true_eq_false, false_and, and_false, List.set_cons_zero, List.set_cons_succ, Nat.reduceAdd, Nat.reduceSub, Nat.reduceMul, Nat.reduceLeDiff, Nat.reduceLT, Nat.reduceEqDiff, ↓reduceIte, Int.reduceNeg, Int.reduceAdd, Int.reduceSub, Int.reduceMul, Int.reduceEq, Int.reduceNe, Int.reduceLE, Int.reduceLT, Int.reduceToNat, Nat.one_ne_zero, Nat.zero_ne_one, Int.cast_ofNat_Int, lc_lt, lc_ge, lc_gt, lc_le, lc_eq, lc_ne, w32i, w64i, tdv, tmd, ltT, ltF, leT, leF, eqT, eqF, dc_M_test]
      refine m_stood t q3.1.1.1 e3 s0' b1.2 wid_not.2.2.1 (by decide) ?_
      rw [ax_kk]
      clear f3
      -- behind the ands
      have R1 : ∀ (g4 : Int → Int → Int) (m4 : List Int), mrt r g g4 → segs m4 (fun F => (if an = 0 then V F else ax_landl (av F) (V F)) :: wA o ov vs F) (n + pA o + 1) → mT b N r g4 s' c' (M1 ++ m4) (O ++ lA o 11) dep → 3 * ((M1 ++ m4).length : Int) + 3 + E + 3 * pA o ≤ 6 * c' + s' → ax_Ev 38 186 73 [(2, 124), (0, 0), (0, 1), (0, wmI b N (WL.getD 8 []) s'), (0, wmI b N (WL.getD 9 []) s')] [] (L0, g4) Q := by
        intro g4 m4 x4 sg4 q4 hl4
        have e4 : g4 124 24 = s' := q4.1.1.2.1
        have bv1 : bit (fun F => if an = 0 then V F else ax_landl (av F) (V F)) := fun F => by
          dsimp only; split
          · exact bV F
          · exact land_bit (bav F) (bV F)
        -- the ors
        have OR : ∀ Q', (∀ (g5 : Int → Int → Int) (m5 : List Int), mrt r g g5 → segs m5 (fun F => (if o = 0 then (if an = 0 then V F else ax_landl (av F) (V F)) else ax_lorl (ov F) (if an = 0 then V F else ax_landl (av F) (V F))) :: vs F) (n + 1) → mT b N r g5 s' c' (M1 ++ m5) O dep → 3 * ((M1 ++ m5).length : Int) + 3 + E ≤ 6 * c' + s' → Q' (9, 0) (L0, g5)) → ax_Ev 37 190 0 [(2, 124), (0, 11)] [] (L0, g4) Q' := by
          intro Q' hQ'
          rcases ho with h | h
          · subst h
            rw [lA_0, List.append_nil] at q4
            refine m_ansE (by omega) q4 (by omega) t11 ?_
            exact hQ' g4 m4 x4 (segs_eq sg4 fun F => by rw [wA_0, if_pos rfl]) q4 (by rw [pA_0] at hl4; omega)
          · subst h
            rw [lA_1] at q4
            rw [pA_1] at sg4 hl4
            refine m_ans1 r0 r6 (.inr (.inr ⟨rfl, rfl⟩)) q4 (by omega) (by omega) (by omega) ?_
            intro g5 y1 y2
            rw [List.append_assoc] at y2
            simp only [Int.reduceEq, if_false] at y2
            refine m_ansE (by omega) y2 (by omega) t11 ?_
            refine hQ' g5 (m4 ++ [6]) (mrt_trans x4 y1) ?_ y2 ?_
            · refine segs_eq (segs_bin (x := ov) (y := fun F => if an = 0 then V F else ax_landl (av F) (V F)) (vs := vs) (n := n) (segs_eq sg4 fun F => ?_) (by omega) (by omega)) fun F => ?_
              · rw [wA_1]
              · rw [jn_or]; simp only [Int.reduceEq, if_false]
            · have : ((M1 ++ (m4 ++ [6])).length : Int) = (M1 ++ m4).length + 1 := by simp; omega
              omega
        by_cases aw : tkK b N s' = 2 ∧ tkV b N s' = 8
        · rw [if_pos aw] at hf hs
          have W := W8.2 ⟨aw.1, aw.2⟩
          have tb : tkB b N s' = s' + 3 := by rw [tkB_2 aw.1]; exact W.1
          have tb1 := tkB_le (b := b) b1.2
          have nx : sk b N (s' + 3) = nxT b N s' := by unfold nxT; rw [tb]
          have nxg : s' + 3 ≤ nxT b N s' := by rw [← nx]; exact sk_ge _ _ _
          have v9 : wmI b N (WL.getD 9 []) s' = 0 := wmI_f (fun z => by have := W9.1 z; omega)
          rw [wmI_t W, v9]
          simp (disch := omega) only [ax_ev, ax_kk, ax_ps, ax_r_const, ax_r_lconst, ax_r_str, ax_r_iload, ax_r_lload, ax_r_aload, ax_r_istore, ax_r_astore, ax_r_lstore, ax_r_iinc, ax_r_iadd, ax_r_isub, ax_r_imul, ax_r_idiv, ax_r_irem, ax_r_iand, ax_r_ior, ax_r_ishl, ax_r_ishr, ax_r_iushr, ax_r_i2l, ax_r_l2i, ax_r_i2b, ax_r_ladd, ax_r_lsub, ax_r_lmul, ax_r_ldiv, ax_r_lrem, ax_r_land, ax_r_lor, ax_r_lcmp, ax_r_ifeq, ax_r_ifne, ax_r_iflt, ax_r_ifge, ax_r_ifgt, ax_r_ifle, ax_r_iceq, ax_r_icne, ax_r_iclt, ax_r_icge, ax_r_icgt, ax_r_icle, ax_r_goto, ax_r_tsw, ax_evt_c, ax_evt_n, ax_r_lsw, ax_evu_c, ax_evu_n, ax_r_getI, ax_r_getR, ax_r_putI, ax_r_putZ, ax_r_iald, ax_r_iast, ax_r_lald, ax_r_last, ax_r_bald, ax_r_aald, ax_r_alen, ax_r_bast, ax_r_min, ax_r_max, ax_r_minl, ax_r_maxl, ax_r_copy, ax_r_slen, ax_r_schr, ax_r_dup, ax_r_dup2, ax_r_pop, ax_r_ret, ax_r_lret, ax_r_vret, ax_r_zret, ax_r_aret, ax_r_call, ax_evo, ax_eva, ax_ar, ax_tk, ax_ex, ax_ld, ax_sto, ax_stl, ly_pm, ly_cd, ly_ln, ly_rf, Option.bind_some, Option.map_some, if_true, if_false, true_and, and_true, List.nil_append, List.cons_append, List.append_nil, List.length_nil, List.length_cons, List.headD_cons, true_or, or_true, false_or, or_false, ne_eq, not_false_eq_true, not_true_eq_false, false_and, and_false, List.set_cons_zero, List.set_cons_succ, Nat.reduceAdd, Nat.reduceSub, Nat.reduceMul, Nat.reduceLeDiff, Nat.reduceLT, Nat.reduceEqDiff, ↓reduceIte, Int.reduceNeg, Int.reduceAdd, Int.reduceSub, Int.reduceMul, Int.reduceEq, Int.reduceNe, Int.reduceLE, Int.reduceLT, Int.reduceToNat, Nat.one_ne_zero, Nat.zero_ne_one, Int.cast_ofNat_Int, lc_lt, lc_ge, lc_gt, lc_le, lc_eq, lc_ne, w32i, w64i, tdv, tmd, ltT, ltF, leT, leF, eqT, eqF, dc_M_test]
          refine m_openA (.inl rfl) q4 (by omega) ?_
          intro g5 x5 q5
          have e5 : g5 124 24 = s' := q5.1.1.2.1
          have I := IH (nxT b N s') c' (s' + 3) 1 (fun F => if an = 0 then V F else ax_landl (av F) (V F)) o ov m4 (ax_up g5 124 24 (s' + 3)) (0, 1) (0, 0) (by omega) (by omega) (by omega) (by omega) nx (by omega) (by omega) (.inr rfl) ho bv1 bov (by
              rw [pA_1]
              exact segs_eq sg4 fun F => by rw [wA_1]) (by rw [lA_1]; exact mT_up q5) (by rw [pA_1]; omega) (by rw [pA_1]; omega) (fun z g' w1 w2 w3 => hf z g' (mrt_trans (mrt_up (mrt_trans x4 x5) (.inl ⟨rfl, by omega⟩)) w1) w2 w3) (fun z => by
              have hs := hs z
              unfold SUT at hs ⊢
              intro g' m' l3 l4 w1 w2 w3 w4 w5 w6 w7 w8
              exact hs g' m' l3 l4 (mrt_trans (mrt_up (mrt_trans x4 x5) (.inl ⟨rfl, by omega⟩)) w1) w2 w3 w4 (by omega) (by omega) w7 w8)
          rw [ax_kk]
          clear hf hs IH T t q q1 q2 q3 q4 q5 sg sg1 sg2 sg2' sg4 x1 x2 x3 x4 x5 OR bv1 W W8 W9 hX
          simp (disch := omega) only [ax_ev, ax_kk, ax_ps, ax_r_const, ax_r_lconst, ax_r_str, ax_r_iload, ax_r_lload, ax_r_aload, ax_r_istore, ax_r_astore, ax_r_lstore, ax_r_iinc, ax_r_iadd, ax_r_isub, ax_r_imul, ax_r_idiv, ax_r_irem, ax_r_iand, ax_r_ior, ax_r_ishl, ax_r_ishr, ax_r_iushr, ax_r_i2l, ax_r_l2i, ax_r_i2b, ax_r_ladd, ax_r_lsub, ax_r_lmul, ax_r_ldiv, ax_r_lrem, ax_r_land, ax_r_lor, ax_r_lcmp, ax_r_ifeq, ax_r_ifne, ax_r_iflt, ax_r_ifge, ax_r_ifgt, ax_r_ifle, ax_r_iceq, ax_r_icne, ax_r_iclt, ax_r_icge, ax_r_icgt, ax_r_icle, ax_r_goto, ax_r_tsw, ax_evt_c, ax_evt_n, ax_r_lsw, ax_evu_c, ax_evu_n, ax_r_getI, ax_r_getR, ax_r_putI, ax_r_putZ, ax_r_iald, ax_r_iast, ax_r_lald, ax_r_last, ax_r_bald, ax_r_aald, ax_r_alen, ax_r_bast, ax_r_min, ax_r_max, ax_r_minl, ax_r_maxl, ax_r_copy, ax_r_slen, ax_r_schr, ax_r_dup, ax_r_dup2, ax_r_pop, ax_r_ret, ax_r_lret, ax_r_vret, ax_r_zret, ax_r_aret, ax_r_call, ax_evo, ax_eva, ax_ar, ax_tk, ax_ex, ax_ld, ax_sto, ax_stl, ly_pm, ly_cd, ly_ln, ly_rf, Option.bind_some, Option.map_some, if_true, if_false, true_and, and_true, List.nil_append, List.cons_append, List.append_nil, List.length_nil, List.length_cons, List.headD_cons, true_or, or_true, false_or, or_false, ne_eq, not_false_eq_true, not_true_eq_false, false_and, and_false, List.set_cons_zero, List.set_cons_succ, Nat.reduceAdd, Nat.reduceSub, Nat.reduceMul, Nat.reduceLeDiff, Nat.reduceLT, Nat.reduceEqDiff, ↓reduceIte, Int.reduceNeg, Int.reduceAdd, Int.reduceSub, Int.reduceMul, Int.reduceEq, Int.reduceNe, Int.reduceLE, Int.reduceLT, Int.reduceToNat, Nat.one_ne_zero, Nat.zero_ne_one, Int.cast_ofNat_Int, lc_lt, lc_ge, lc_gt, lc_le, lc_eq, lc_ne, w32i, w64i, tdv, tmd, ltT, ltF, leT, leF, eqT, eqF, dc_M_test, e5]
          exact I
        · rw [if_neg aw] at hf hs
          have v8 : wmI b N (WL.getD 8 []) s' = 0 := wmI_f (fun z => aw (by have := W8.1 z; exact ⟨this.1, by omega⟩))
          have bv2 : bit (fun F => if o = 0 then (if an = 0 then V F else ax_landl (av F) (V F)) else ax_lorl (ov F) (if an = 0 then V F else ax_landl (av F) (V F))) := fun F => by
            dsimp only; split
            · exact bv1 F
            · exact lor_bit (bov F) (bv1 F)
          by_cases ow : tkK b N s' = 2 ∧ tkV b N s' = 9
          · rw [if_pos ow] at hf hs
            have W := W9.2 ⟨ow.1, ow.2⟩
            have tb : tkB b N s' = s' + 2 := by rw [tkB_2 ow.1]; exact W.1
            have tb1 := tkB_le (b := b) b1.2
            have nx : sk b N (s' + 2) = nxT b N s' := by unfold nxT; rw [tb]
            have nxg : s' + 2 ≤ nxT b N s' := by rw [← nx]; exact sk_ge _ _ _
            rw [v8, wmI_t W]
            simp (disch := omega) only [ax_ev, ax_kk, ax_ps, ax_r_const, ax_r_lconst, ax_r_str, ax_r_iload, ax_r_lload, ax_r_aload, ax_r_istore, ax_r_astore, ax_r_lstore, ax_r_iinc, ax_r_iadd, ax_r_isub, ax_r_imul, ax_r_idiv, ax_r_irem, ax_r_iand, ax_r_ior, ax_r_ishl, ax_r_ishr, ax_r_iushr, ax_r_i2l, ax_r_l2i, ax_r_i2b, ax_r_ladd, ax_r_lsub, ax_r_lmul, ax_r_ldiv, ax_r_lrem, ax_r_land, ax_r_lor, ax_r_lcmp, ax_r_ifeq, ax_r_ifne, ax_r_iflt, ax_r_ifge, ax_r_ifgt, ax_r_ifle, ax_r_iceq, ax_r_icne, ax_r_iclt, ax_r_icge, ax_r_icgt, ax_r_icle, ax_r_goto, ax_r_tsw, ax_evt_c, ax_evt_n, ax_r_lsw, ax_evu_c, ax_evu_n, ax_r_getI, ax_r_getR, ax_r_putI, ax_r_putZ, ax_r_iald, ax_r_iast, ax_r_lald, ax_r_last, ax_r_bald, ax_r_aald, ax_r_alen, ax_r_bast, ax_r_min, ax_r_max, ax_r_minl, ax_r_maxl, ax_r_copy, ax_r_slen, ax_r_schr, ax_r_dup, ax_r_dup2, ax_r_pop, ax_r_ret, ax_r_lret, ax_r_vret, ax_r_zret, ax_r_aret, ax_r_call, ax_evo, ax_eva, ax_ar, ax_tk, ax_ex, ax_ld, ax_sto, ax_stl, ly_pm, ly_cd, ly_ln, ly_rf, Option.bind_some, Option.map_some, if_true, if_false, true_and, and_true, List.nil_append, List.cons_append, List.append_nil, List.length_nil, List.length_cons, List.headD_cons, true_or, or_true, false_or, or_false, ne_eq, not_false_eq_true, not_true_eq_false, false_and, and_false, List.set_cons_zero, List.set_cons_succ, Nat.reduceAdd, Nat.reduceSub, Nat.reduceMul, Nat.reduceLeDiff, Nat.reduceLT, Nat.reduceEqDiff, ↓reduceIte, Int.reduceNeg, Int.reduceAdd, Int.reduceSub, Int.reduceMul, Int.reduceEq, Int.reduceNe, Int.reduceLE, Int.reduceLT, Int.reduceToNat, Nat.one_ne_zero, Nat.zero_ne_one, Int.cast_ofNat_Int, lc_lt, lc_ge, lc_gt, lc_le, lc_eq, lc_ne, w32i, w64i, tdv, tmd, ltT, ltF, leT, leF, eqT, eqF, dc_M_test]
            refine OR _ ?_
            intro g5 m5 x5 sg5 q5 hl5
            rw [ax_kk]
            simp (disch := omega) only [ax_ev, ax_kk, ax_ps, ax_r_const, ax_r_lconst, ax_r_str, ax_r_iload, ax_r_lload, ax_r_aload, ax_r_istore, ax_r_astore, ax_r_lstore, ax_r_iinc, ax_r_iadd, ax_r_isub, ax_r_imul, ax_r_idiv, ax_r_irem, ax_r_iand, ax_r_ior, ax_r_ishl, ax_r_ishr, ax_r_iushr, ax_r_i2l, ax_r_l2i, ax_r_i2b, ax_r_ladd, ax_r_lsub, ax_r_lmul, ax_r_ldiv, ax_r_lrem, ax_r_land, ax_r_lor, ax_r_lcmp, ax_r_ifeq, ax_r_ifne, ax_r_iflt, ax_r_ifge, ax_r_ifgt, ax_r_ifle, ax_r_iceq, ax_r_icne, ax_r_iclt, ax_r_icge, ax_r_icgt, ax_r_icle, ax_r_goto, ax_r_tsw, ax_evt_c, ax_evt_n, ax_r_lsw, ax_evu_c, ax_evu_n, ax_r_getI, ax_r_getR, ax_r_putI, ax_r_putZ, ax_r_iald, ax_r_iast, ax_r_lald, ax_r_last, ax_r_bald, ax_r_aald, ax_r_alen, ax_r_bast, ax_r_min, ax_r_max, ax_r_minl, ax_r_maxl, ax_r_copy, ax_r_slen, ax_r_schr, ax_r_dup, ax_r_dup2, ax_r_pop, ax_r_ret, ax_r_lret, ax_r_vret, ax_r_zret, ax_r_aret, ax_r_call, ax_evo, ax_eva, ax_ar, ax_tk, ax_ex, ax_ld, ax_sto, ax_stl, ly_pm, ly_cd, ly_ln, ly_rf, Option.bind_some, Option.map_some, if_true, if_false, true_and, and_true, List.nil_append, List.cons_append, List.append_nil, List.length_nil, List.length_cons, List.headD_cons, true_or, or_true, false_or, or_false, ne_eq, not_false_eq_true, not_true_eq_false, false_and, and_false, List.set_cons_zero, List.set_cons_succ, Nat.reduceAdd, Nat.reduceSub, Nat.reduceMul, Nat.reduceLeDiff, Nat.reduceLT, Nat.reduceEqDiff, ↓reduceIte, Int.reduceNeg, Int.reduceAdd, Int.reduceSub, Int.reduceMul, Int.reduceEq, Int.reduceNe, Int.reduceLE, Int.reduceLT, Int.reduceToNat, Nat.one_ne_zero, Nat.zero_ne_one, Int.cast_ofNat_Int, lc_lt, lc_ge, lc_gt, lc_le, lc_eq, lc_ne, w32i, w64i, tdv, tmd, ltT, ltF, leT, leF, eqT, eqF, dc_M_test]
            refine m_openA (.inr rfl) q5 (by omega) ?_
            intro g6 x6 q6
            have e6 : g6 124 24 = s' := q6.1.1.2.1
            have I := IH (nxT b N s') c' (s' + 2) 0 av 1 (fun F => if o = 0 then (if an = 0 then V F else ax_landl (av F) (V F)) else ax_lorl (ov F) (if an = 0 then V F else ax_landl (av F) (V F))) m5 (ax_up g6 124 24 (s' + 2)) (0, 0) (0, 1) (by omega) (by omega) (by omega) (by omega) nx (by omega) (by omega) (.inl rfl) (.inr rfl) bav bv2 (by
                rw [pA_1, pA_0]
                exact segs_eq sg5 fun F => by rw [wA_0, wA_1]) (by rw [lA_1, lA_0, List.append_nil]; exact mT_up q6) (by rw [pA_1, pA_0]; omega) (by rw [pA_1, pA_0]; omega) (fun z g' w1 w2 w3 => hf z g' (mrt_trans (mrt_up (mrt_trans x5 x6) (.inl ⟨rfl, by omega⟩)) w1) w2 w3) (fun z => by
                have hs := hs z
                unfold SUT at hs ⊢
                intro g' m' l3 l4 w1 w2 w3 w4 w5 w6 w7 w8
                exact hs g' m' l3 l4 (mrt_trans (mrt_up (mrt_trans x5 x6) (.inl ⟨rfl, by omega⟩)) w1) w2 w3 w4 (by omega) (by omega) w7 w8)
            rw [ax_kk]
            clear hf hs IH T t q q1 q2 q3 q4 q5 q6 sg sg1 sg2 sg2' sg4 sg5 x1 x2 x3 x4 x5 x6 OR bv1 bv2 W W8 W9 hX
            simp (disch := omega) only [ax_ev, ax_kk, ax_ps, ax_r_const, ax_r_lconst, ax_r_str, ax_r_iload, ax_r_lload, ax_r_aload, ax_r_istore, ax_r_astore, ax_r_lstore, ax_r_iinc, ax_r_iadd, ax_r_isub, ax_r_imul, ax_r_idiv, ax_r_irem, ax_r_iand, ax_r_ior, ax_r_ishl, ax_r_ishr, ax_r_iushr, ax_r_i2l, ax_r_l2i, ax_r_i2b, ax_r_ladd, ax_r_lsub, ax_r_lmul, ax_r_ldiv, ax_r_lrem, ax_r_land, ax_r_lor, ax_r_lcmp, ax_r_ifeq, ax_r_ifne, ax_r_iflt, ax_r_ifge, ax_r_ifgt, ax_r_ifle, ax_r_iceq, ax_r_icne, ax_r_iclt, ax_r_icge, ax_r_icgt, ax_r_icle, ax_r_goto, ax_r_tsw, ax_evt_c, ax_evt_n, ax_r_lsw, ax_evu_c, ax_evu_n, ax_r_getI, ax_r_getR, ax_r_putI, ax_r_putZ, ax_r_iald, ax_r_iast, ax_r_lald, ax_r_last, ax_r_bald, ax_r_aald, ax_r_alen, ax_r_bast, ax_r_min, ax_r_max, ax_r_minl, ax_r_maxl, ax_r_copy, ax_r_slen, ax_r_schr, ax_r_dup, ax_r_dup2, ax_r_pop, ax_r_ret, ax_r_lret, ax_r_vret, ax_r_zret, ax_r_aret, ax_r_call, ax_evo, ax_eva, ax_ar, ax_tk, ax_ex, ax_ld, ax_sto, ax_stl, ly_pm, ly_cd, ly_ln, ly_rf, Option.bind_some, Option.map_some, if_true, if_false, true_and, and_true, List.nil_append, List.cons_append, List.append_nil, List.length_nil, List.length_cons, List.headD_cons, true_or, or_true, false_or, or_false, ne_eq, not_false_eq_true, not_true_eq_false, false_and, and_false, List.set_cons_zero, List.set_cons_succ, Nat.reduceAdd, Nat.reduceSub, Nat.reduceMul, Nat.reduceLeDiff, Nat.reduceLT, Nat.reduceEqDiff, ↓reduceIte, Int.reduceNeg, Int.reduceAdd, Int.reduceSub, Int.reduceMul, Int.reduceEq, Int.reduceNe, Int.reduceLE, Int.reduceLT, Int.reduceToNat, Nat.one_ne_zero, Nat.zero_ne_one, Int.cast_ofNat_Int, lc_lt, lc_ge, lc_gt, lc_le, lc_eq, lc_ne, w32i, w64i, tdv, tmd, ltT, ltF, leT, leF, eqT, eqF, dc_M_test, e6]
            exact I
          · rw [if_neg ow] at hf hs
            have hs := hs rfl
            unfold SUT at hs
            dsimp only at hs
            have v9 : wmI b N (WL.getD 9 []) s' = 0 := wmI_f (fun z => ow (by have := W9.1 z; exact ⟨this.1, by omega⟩))
            rw [v8, v9]
            simp (disch := omega) only [ax_ev, ax_kk, ax_ps, ax_r_const, ax_r_lconst, ax_r_str, ax_r_iload, ax_r_lload, ax_r_aload, ax_r_istore, ax_r_astore, ax_r_lstore, ax_r_iinc, ax_r_iadd, ax_r_isub, ax_r_imul, ax_r_idiv, ax_r_irem, ax_r_iand, ax_r_ior, ax_r_ishl, ax_r_ishr, ax_r_iushr, ax_r_i2l, ax_r_l2i, ax_r_i2b, ax_r_ladd, ax_r_lsub, ax_r_lmul, ax_r_ldiv, ax_r_lrem, ax_r_land, ax_r_lor, ax_r_lcmp, ax_r_ifeq, ax_r_ifne, ax_r_iflt, ax_r_ifge, ax_r_ifgt, ax_r_ifle, ax_r_iceq, ax_r_icne, ax_r_iclt, ax_r_icge, ax_r_icgt, ax_r_icle, ax_r_goto, ax_r_tsw, ax_evt_c, ax_evt_n, ax_r_lsw, ax_evu_c, ax_evu_n, ax_r_getI, ax_r_getR, ax_r_putI, ax_r_putZ, ax_r_iald, ax_r_iast, ax_r_lald, ax_r_last, ax_r_bald, ax_r_aald, ax_r_alen, ax_r_bast, ax_r_min, ax_r_max, ax_r_minl, ax_r_maxl, ax_r_copy, ax_r_slen, ax_r_schr, ax_r_dup, ax_r_dup2, ax_r_pop, ax_r_ret, ax_r_lret, ax_r_vret, ax_r_zret, ax_r_aret, ax_r_call, ax_evo, ax_eva, ax_ar, ax_tk, ax_ex, ax_ld, ax_sto, ax_stl, ly_pm, ly_cd, ly_ln, ly_rf, Option.bind_some, Option.map_some, if_true, if_false, true_and, and_true, List.nil_append, List.cons_append, List.append_nil, List.length_nil, List.length_cons, List.headD_cons, true_or, or_true, false_or, or_false, ne_eq, not_false_eq_true, not_true_eq_false, false_and, and_false, List.set_cons_zero, List.set_cons_succ, Nat.reduceAdd, Nat.reduceSub, Nat.reduceMul, Nat.reduceLeDiff, Nat.reduceLT, Nat.reduceEqDiff, ↓reduceIte, Int.reduceNeg, Int.reduceAdd, Int.reduceSub, Int.reduceMul, Int.reduceEq, Int.reduceNe, Int.reduceLE, Int.reduceLT, Int.reduceToNat, Nat.one_ne_zero, Nat.zero_ne_one, Int.cast_ofNat_Int, lc_lt, lc_ge, lc_gt, lc_le, lc_eq, lc_ne, w32i, w64i, tdv, tmd, ltT, ltF, leT, leF, eqT, eqF, dc_M_test]
            refine OR _ ?_
            intro g5 m5 x5 sg5 q5 hl5
            have H := hs g5 m5 (0, 0) (0, 0) x5 sg5 q5 hl5 b1 b2 ssk bv2
            rw [ax_kk]
            exact H
      rcases han with h | h
      · subst h
        rw [lA_0, List.append_nil] at q3
        rw [pA_0] at hl1 sg2'
        simp (disch := omega) only [ax_ev, ax_kk, ax_ps, ax_r_const, ax_r_lconst, ax_r_str, ax_r_iload, ax_r_lload, ax_r_aload, ax_r_istore, ax_r_astore, ax_r_lstore, ax_r_iinc, ax_r_iadd, ax_r_isub, ax_r_imul, ax_r_idiv, ax_r_irem, ax_r_iand, ax_r_ior, ax_r_ishl, ax_r_ishr, ax_r_iushr, ax_r_i2l, ax_r_l2i, ax_r_i2b, ax_r_ladd, ax_r_lsub, ax_r_lmul, ax_r_ldiv, ax_r_lrem, ax_r_land, ax_r_lor, ax_r_lcmp, ax_r_ifeq, ax_r_ifne, ax_r_iflt, ax_r_ifge, ax_r_ifgt, ax_r_ifle, ax_r_iceq, ax_r_icne, ax_r_iclt, ax_r_icge, ax_r_icgt, ax_r_icle, ax_r_goto, ax_r_tsw, ax_evt_c, ax_evt_n, ax_r_lsw, ax_evu_c, ax_evu_n, ax_r_getI, ax_r_getR, ax_r_putI, ax_r_putZ, ax_r_iald, ax_r_iast, ax_r_lald, ax_r_last, ax_r_bald, ax_r_aald, ax_r_alen, ax_r_bast, ax_r_min, ax_r_max, ax_r_minl, ax_r_maxl, ax_r_copy, ax_r_slen, ax_r_schr, ax_r_dup, ax_r_dup2, ax_r_pop, ax_r_ret, ax_r_lret, ax_r_vret, ax_r_zret, ax_r_aret, ax_r_call, ax_evo, ax_eva, ax_ar, ax_tk, ax_ex, ax_ld, ax_sto, ax_stl, ly_pm, ly_cd, ly_ln, ly_rf, Option.bind_some, Option.map_some, if_true, if_false, true_and, and_true, List.nil_append, List.cons_append, List.append_nil, List.length_nil, List.length_cons, List.headD_cons, true_or, or_true, false_or, or_false, ne_eq, not_false_eq_true, not_true_eq_false, false_and, and_false, List.set_cons_zero, List.set_cons_succ, Nat.reduceAdd, Nat.reduceSub, Nat.reduceMul, Nat.reduceLeDiff, Nat.reduceLT, Nat.reduceEqDiff, ↓reduceIte, Int.reduceNeg, Int.reduceAdd, Int.reduceSub, Int.reduceMul, Int.reduceEq, Int.reduceNe, Int.reduceLE, Int.reduceLT, Int.reduceToNat, Nat.one_ne_zero, Nat.zero_ne_one, Int.cast_ofNat_Int, lc_lt, lc_ge, lc_gt, lc_le, lc_eq, lc_ne, w32i, w64i, tdv, tmd, ltT, ltF, leT, leF, eqT, eqF, dc_M_test]
        refine m_ansE (by omega) q3 (by omega) t10 ?_
        rw [ax_kk]
        exact R1 g3 m2 x3 (segs_eq sg2' fun F => by rw [wA_0, if_pos rfl]) q3 (by omega)
      · subst h
        rw [lA_1] at q3
        rw [pA_1] at hl1 sg2'
        simp (disch := omega) only [ax_ev, ax_kk, ax_ps, ax_r_const, ax_r_lconst, ax_r_str, ax_r_iload, ax_r_lload, ax_r_aload, ax_r_istore, ax_r_astore, ax_r_lstore, ax_r_iinc, ax_r_iadd, ax_r_isub, ax_r_imul, ax_r_idiv, ax_r_irem, ax_r_iand, ax_r_ior, ax_r_ishl, ax_r_ishr, ax_r_iushr, ax_r_i2l, ax_r_l2i, ax_r_i2b, ax_r_ladd, ax_r_lsub, ax_r_lmul, ax_r_ldiv, ax_r_lrem, ax_r_land, ax_r_lor, ax_r_lcmp, ax_r_ifeq, ax_r_ifne, ax_r_iflt, ax_r_ifge, ax_r_ifgt, ax_r_ifle, ax_r_iceq, ax_r_icne, ax_r_iclt, ax_r_icge, ax_r_icgt, ax_r_icle, ax_r_goto, ax_r_tsw, ax_evt_c, ax_evt_n, ax_r_lsw, ax_evu_c, ax_evu_n, ax_r_getI, ax_r_getR, ax_r_putI, ax_r_putZ, ax_r_iald, ax_r_iast, ax_r_lald, ax_r_last, ax_r_bald, ax_r_aald, ax_r_alen, ax_r_bast, ax_r_min, ax_r_max, ax_r_minl, ax_r_maxl, ax_r_copy, ax_r_slen, ax_r_schr, ax_r_dup, ax_r_dup2, ax_r_pop, ax_r_ret, ax_r_lret, ax_r_vret, ax_r_zret, ax_r_aret, ax_r_call, ax_evo, ax_eva, ax_ar, ax_tk, ax_ex, ax_ld, ax_sto, ax_stl, ly_pm, ly_cd, ly_ln, ly_rf, Option.bind_some, Option.map_some, if_true, if_false, true_and, and_true, List.nil_append, List.cons_append, List.append_nil, List.length_nil, List.length_cons, List.headD_cons, true_or, or_true, false_or, or_false, ne_eq, not_false_eq_true, not_true_eq_false, false_and, and_false, List.set_cons_zero, List.set_cons_succ, Nat.reduceAdd, Nat.reduceSub, Nat.reduceMul, Nat.reduceLeDiff, Nat.reduceLT, Nat.reduceEqDiff, ↓reduceIte, Int.reduceNeg, Int.reduceAdd, Int.reduceSub, Int.reduceMul, Int.reduceEq, Int.reduceNe, Int.reduceLE, Int.reduceLT, Int.reduceToNat, Nat.one_ne_zero, Nat.zero_ne_one, Int.cast_ofNat_Int, lc_lt, lc_ge, lc_gt, lc_le, lc_eq, lc_ne, w32i, w64i, tdv, tmd, ltT, ltF, leT, leF, eqT, eqF, dc_M_test]
        refine m_ans1 r0 r6 (.inr (.inl ⟨rfl, rfl⟩)) q3 (by omega) (by omega) (by omega) ?_
        intro g4 y1 y2
        rw [List.append_assoc] at y2
        simp only [Int.reduceEq, if_false] at y2
        refine m_ansE (by omega) y2 (by omega) t10 ?_
        rw [ax_kk]
        refine R1 g4 (m2 ++ [5]) (mrt_trans x3 y1) ?_ y2 ?_
        · refine segs_eq (segs_bin (x := av) (y := V) (vs := wA o ov vs) (n := n + pA o) (segs_eq sg2' fun F => ?_) (by omega) (by omega)) fun F => ?_
          · rw [wA_1]
          · rw [jn_and]; simp only [Int.reduceEq, if_false]
        · have : ((M1 ++ (m2 ++ [5])).length : Int) = (M1 ++ m2).length + 1 := by simp; omega
          omega
set_option maxRecDepth 100000 in
set_option maxHeartbeats 4000000 in
theorem m_tst {b : Int → Int} {N r : Int} (t : tx b N) (r0 : 0 ≤ r) (r6 : r < 6) : ∀ D, TSM b N r D
  | 0 => fun dep s c p vs n M1 E m O g l3 l4 Q hD d0 d10 _ _ _ _ _ _ _ _ _ _ _ _ _ _ => by omega
  | D + 1 => fun dep s c p vs n M1 E m O g l3 l4 Q hD d0 d10 c0 c6 hsk p0 pN E0 sg q hl hO hO2 hOt hf hs =>
    m_tstl t r0 r6 (m_tst t r0 r6 D) hD d0 d10 E0 hO2 hOt (61 - c).toNat s c p 0 (fun _ => 0) 0 (fun _ => 0) m g l3 l4 (by omega) (by omega) c0 c6 hsk p0 pN (.inl rfl) (.inl rfl) (fun F => .inl rfl) (fun F => .inl rfl) (segs_eq sg fun F => by rw [wA_0, wA_0]) (by rw [lA_0, lA_0, List.append_nil, List.append_nil]; exact q) (by rw [pA_0]; omega) (by rw [pA_0]; omega) hf hs
