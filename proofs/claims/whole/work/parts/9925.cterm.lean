/-! rule: sums in the class, read -/
def wsP (po : Int) (pv : (Int → Int) → Int) (vs : (Int → Int) → List Int) : (Int → Int) → List Int := fun F => if po = -1 then vs F else pv F :: vs F
def pn (po : Int) : Nat := if po = -1 then 0 else 1
theorem rnT_gt {P : Int → Bool} {b : Int → Int} {N s : Int} (h : s < N) (p : P (b s) = true) : s + 1 ≤ rnT P b N s := by
  obtain ⟨e0, e1, e2⟩ := rnT_s P b N s
  rcases (by omega : rnT P b N s = s ∨ s + 1 ≤ rnT P b N s) with e | e
  · have := e2 (by omega); rw [e, p] at this; cases this
  · exact e
theorem nxT_gt {b : Int → Int} {N s : Int} (k : tkK b N s ≠ 0) : s + 1 ≤ nxT b N s ∧ s < N := by
  have sN : s < N := by
    rcases (by omega : s < N ∨ N ≤ s) with h | h
    · exact h
    · exact absurd (tkK_0.2 h) k
  refine ⟨?_, sN⟩
  have g := sk_ge b N (tkB b N s)
  have : s + 1 ≤ tkB b N s := by
    by_cases k1 : tkK b N s = 1
    · rw [tkB_1 k1]; exact rnT_gt sN (isD_t.2 (tkK_1.1 k1).2)
    · by_cases k2 : tkK b N s = 2
      · rw [tkB_2 k2]; exact rnT_gt sN (isL_t.2 (tkK_2.1 k2).2)
      · have k3 : tkK b N s = 3 := by
          unfold tkK at k k1 k2 ⊢
          split at k
          · exact absurd rfl k
          · rw [if_neg (by omega)] at k1 k2 ⊢
            split at k1
            · exact absurd rfl k1
            · rename_i z; rw [if_neg z] at k2 ⊢
              split at k2
              · exact absurd rfl k2
              · rename_i y; rw [if_neg y]
        rw [tkB_3 k3]; split <;> omega
  unfold nxT; omega
theorem vf_k {b : Int → Int} {N s : Int} (s0 : 0 ≤ s) (h : vf b N s = 0) : tkK b N s ≠ 0 := by
  intro k
  unfold vf at h
  rw [if_neg (by omega), if_pos (by omega)] at h
  omega
theorem poS_b (b : Int → Int) (N s : Int) : poS b N s = -1 ∨ ((9 ≤ poS b N s ∧ poS b N s ≤ 11) ∧ tkK b N s ≠ 0) := by
  unfold poS
  repeat' split
  all_goals first | (right; rename_i z; exact ⟨by omega, by omega⟩) | exact .inl rfl
theorem soS_b (b : Int → Int) (N s : Int) : soS b N s = -1 ∨ ((7 ≤ soS b N s ∧ soS b N s ≤ 8) ∧ tkK b N s ≠ 0) := by
  unfold soS
  repeat' split
  all_goals first | (right; rename_i z; exact ⟨by omega, by omega⟩) | exact .inl rfl
set_option maxRecDepth 100000 in
set_option maxHeartbeats 4000000 in
theorem c_term {b : Int → Int} {N r : Int} (t : tx b N) (r0 : 0 ≤ r) (r6 : r < 6) {so : Int} {vs : (Int → Int) → List Int} {n : Nat} {L1 : List Int} {e : Int} (e0 : 0 ≤ e) {d : Nat} {Q : ax_V → ax_H → Prop} : ∀ (k : Nat) (s c po : Int) (pv : (Int → Int) → Int) (i : Int) (l : List Int) (g : Int → Int → Int) (l4 : ax_V), c + k = 61 → 1 ≤ k → 0 ≤ c → 0 ≤ i → i ≤ c → 0 ≤ s → s ≤ N → (po = -1 ∨ (9 ≤ po ∧ po ≤ 11)) → segs l (wsP po pv vs) (n + pn po) → cQ b N r g s c (L1 ++ l) → ((L1 ++ l).length : Int) + e + pn po + pn so ≤ s → (pus l : Int) ≤ c →
    ((pT b N k s c po pv).1 ≠ 0 → ∀ g', crf r g g' → g' 1 6 = (pT b N k s c po pv).1 → 0 ≤ g' 21 2 ∧ g' 21 2 ≤ 400 → Q (0, 0) (L0, g')) →
    ((pT b N k s c po pv).1 = 0 → ∀ (g' : Int → Int → Int) (l' : List Int) (i' : Int) (l4' : ax_V), crf r g g' → segs l' (fun F => (pT b N k s c po pv).2.2.2 F :: vs F) (n + 1) → cQ b N r g' (pT b N k s c po pv).2.1 (pT b N k s c po pv).2.2.1 (L1 ++ l') → ((L1 ++ l').length : Int) + e + pn so ≤ (pT b N k s c po pv).2.1 → (pus l' : Int) ≤ (pT b N k s c po pv).2.2.1 → 0 ≤ i' ∧ i' + 1 ≤ (pT b N k s c po pv).2.2.1 → (s ≤ (pT b N k s c po pv).2.1 ∧ (pT b N k s c po pv).2.1 ≤ N) → (c + 1 ≤ (pT b N k s c po pv).2.2.1 ∧ (pT b N k s c po pv).2.2.1 ≤ 60) → ax_Ev (d + 3) 53 62 [(2, 21), (0, -1), (0, so), (0, i'), l4'] [] (L0, g') Q) →
    ax_Ev (d + 3) 53 6 [(2, 21), (0, po), (0, so), (0, i), l4] [] (L0, g) Q
  | 0, s, c, po, pv, i, l, g, l4, _, h1, _, _, _, _, _, _, _, _, _, _, _, _ => by omega
  | k + 1, s, c, po, pv, i, l, g, l4, hk, _, c0, i0, ic, s0, s1, hpo, sg, q, hl, hp, hf, hs => by
    have N4 := t.1
    have IH := c_term t r0 r6 (so := so) (vs := vs) (n := n) (L1 := L1) (e := e) e0 (d := d) (Q := Q) k
    have PE : pT b N (k + 1) s c po pv = if vf b N s ≠ 0 then (vf b N s, s, c, pv) else if 60 ≤ c then (4 + 8 * s, s, c, pv) else if poS b N (nxT b N s) = -1 then (0, nxT b N s, c + 1, fun F => if po = -1 then vv b N s F else jn po (pv F) (vv b N s F)) else pT b N k (nxT b N (nxT b N s)) (c + 1) (poS b N (nxT b N s)) (fun F => if po = -1 then vv b N s F else jn po (pv F) (vv b N s F)) := rfl
    rw [PE] at hf hs
    clear PE
    rw [ax_ev, dh_RuleReader_readSum_6]
    simp (disch := omega) only [ax_ev, ax_kk, ax_ps, ax_r_const, ax_r_lconst, ax_r_str, ax_r_iload, ax_r_lload, ax_r_aload, ax_r_istore, ax_r_astore, ax_r_lstore, ax_r_iinc, ax_r_iadd, ax_r_isub, ax_r_imul, ax_r_idiv, ax_r_irem, ax_r_iand, ax_r_ior, ax_r_ishl, ax_r_ishr, ax_r_iushr, ax_r_i2l, ax_r_l2i, ax_r_i2b, ax_r_ladd, ax_r_lsub, ax_r_lmul, ax_r_ldiv, ax_r_lrem, ax_r_land, ax_r_lor, ax_r_lcmp, ax_r_ifeq, ax_r_ifne, ax_r_iflt, ax_r_ifge, ax_r_ifgt, ax_r_ifle, ax_r_iceq, ax_r_icne, ax_r_iclt, ax_r_icge, ax_r_icgt, ax_r_icle, ax_r_goto, ax_r_tsw, ax_evt_c, ax_evt_n, ax_r_lsw, ax_evu_c, ax_evu_n, ax_r_getI, ax_r_getR, ax_r_putI, ax_r_putZ, ax_r_iald, ax_r_iast, ax_r_lald, ax_r_last, ax_r_bald, ax_r_aald, ax_r_alen, ax_r_bast, ax_r_min, ax_r_max, ax_r_minl, ax_r_maxl, ax_r_copy, ax_r_slen, ax_r_schr, ax_r_dup, ax_r_dup2, ax_r_pop, ax_r_ret, ax_r_lret, ax_r_vret, ax_r_zret, ax_r_aret, ax_r_call, ax_evo, ax_eva, ax_ar, ax_tk, ax_ex, ax_ld, ax_sto, ax_stl, ly_pm, ly_cd, ly_ln, ly_rf, Option.bind_some, Option.map_some, if_true, if_false, true_and, and_true, List.nil_append, List.cons_append, List.append_nil, List.length_nil, List.length_cons, List.headD_cons, true_or, or_true, false_or, or_false, ne_eq, not_false_eq_true, not_true_eq_false, false_and, and_false, List.set_cons_zero, List.set_cons_succ, Nat.reduceAdd, Nat.reduceSub, Nat.reduceMul, Nat.reduceLeDiff, Nat.reduceLT, Nat.reduceEqDiff, ↓reduceIte, Int.reduceNeg, Int.reduceAdd, Int.reduceSub, Int.reduceMul, Int.reduceEq, Int.reduceNe, Int.reduceLE, Int.reduceLT, Int.reduceToNat, Nat.one_ne_zero, Nat.zero_ne_one, Int.cast_ofNat_Int, lc_lt, lc_ge, lc_gt, lc_le, lc_eq, lc_ne, w32i, w64i, tdv, tmd, ltT, ltF, leT, leF, eqT, eqF, dc_RuleReader_readSum]
    refine c_val s0 (by omega) q.1.1 (fun z => ?_) (fun z => ?_)
    · rw [if_neg (by omega)] at hf hs
      have kn := vf_k s0 z
      obtain ⟨n1, sN⟩ := nxT_gt kn
      obtain ⟨nx0, nxN⟩ := nxT_b (b := b) s0 s1
      obtain ⟨ok, vcv⟩ := vc_ok s0 z
      have vc0 : vc b N s ≠ -1 := by have := ok.1; omega
      rw [ax_kk]
      simp (disch := omega) only [ax_ev, ax_kk, ax_ps, ax_r_const, ax_r_lconst, ax_r_str, ax_r_iload, ax_r_lload, ax_r_aload, ax_r_istore, ax_r_astore, ax_r_lstore, ax_r_iinc, ax_r_iadd, ax_r_isub, ax_r_imul, ax_r_idiv, ax_r_irem, ax_r_iand, ax_r_ior, ax_r_ishl, ax_r_ishr, ax_r_iushr, ax_r_i2l, ax_r_l2i, ax_r_i2b, ax_r_ladd, ax_r_lsub, ax_r_lmul, ax_r_ldiv, ax_r_lrem, ax_r_land, ax_r_lor, ax_r_lcmp, ax_r_ifeq, ax_r_ifne, ax_r_iflt, ax_r_ifge, ax_r_ifgt, ax_r_ifle, ax_r_iceq, ax_r_icne, ax_r_iclt, ax_r_icge, ax_r_icgt, ax_r_icle, ax_r_goto, ax_r_tsw, ax_evt_c, ax_evt_n, ax_r_lsw, ax_evu_c, ax_evu_n, ax_r_getI, ax_r_getR, ax_r_putI, ax_r_putZ, ax_r_iald, ax_r_iast, ax_r_lald, ax_r_last, ax_r_bald, ax_r_aald, ax_r_alen, ax_r_bast, ax_r_min, ax_r_max, ax_r_minl, ax_r_maxl, ax_r_copy, ax_r_slen, ax_r_schr, ax_r_dup, ax_r_dup2, ax_r_pop, ax_r_ret, ax_r_lret, ax_r_vret, ax_r_zret, ax_r_aret, ax_r_call, ax_evo, ax_eva, ax_ar, ax_tk, ax_ex, ax_ld, ax_sto, ax_stl, ly_pm, ly_cd, ly_ln, ly_rf, Option.bind_some, Option.map_some, if_true, if_false, true_and, and_true, List.nil_append, List.cons_append, List.append_nil, List.length_nil, List.length_cons, List.headD_cons, true_or, or_true, false_or, or_false, ne_eq, not_false_eq_true, not_true_eq_false, false_and, and_false, List.set_cons_zero, List.set_cons_succ, Nat.reduceAdd, Nat.reduceSub, Nat.reduceMul, Nat.reduceLeDiff, Nat.reduceLT, Nat.reduceEqDiff, ↓reduceIte, Int.reduceNeg, Int.reduceAdd, Int.reduceSub, Int.reduceMul, Int.reduceEq, Int.reduceNe, Int.reduceLE, Int.reduceLT, Int.reduceToNat, Nat.one_ne_zero, Nat.zero_ne_one, Int.cast_ofNat_Int, lc_lt, lc_ge, lc_gt, lc_le, lc_eq, lc_ne, w32i, w64i, tdv, tmd, ltT, ltF, leT, leF, eqT, eqF, dc_RuleReader_readSum]
      refine c_count (b := b) (N := N) s0 (by omega) c0 (by omega) q.1.1.2.2.1 q.2.1.2.1 (fun y => ?_) (fun y => ?_)
      · rw [if_neg (by omega)] at hf hs
        have q1 := cQ_parts r0 r6 q
        have x1 : crf r g (ax_up g 21 3 (c + 1)) := crf_up (crf_refl r g) (.inr (.inl ⟨rfl, by omega, by omega⟩))
        rw [ax_kk]
        simp (disch := omega) only [ax_ev, ax_kk, ax_ps, ax_r_const, ax_r_lconst, ax_r_str, ax_r_iload, ax_r_lload, ax_r_aload, ax_r_istore, ax_r_astore, ax_r_lstore, ax_r_iinc, ax_r_iadd, ax_r_isub, ax_r_imul, ax_r_idiv, ax_r_irem, ax_r_iand, ax_r_ior, ax_r_ishl, ax_r_ishr, ax_r_iushr, ax_r_i2l, ax_r_l2i, ax_r_i2b, ax_r_ladd, ax_r_lsub, ax_r_lmul, ax_r_ldiv, ax_r_lrem, ax_r_land, ax_r_lor, ax_r_lcmp, ax_r_ifeq, ax_r_ifne, ax_r_iflt, ax_r_ifge, ax_r_ifgt, ax_r_ifle, ax_r_iceq, ax_r_icne, ax_r_iclt, ax_r_icge, ax_r_icgt, ax_r_icle, ax_r_goto, ax_r_tsw, ax_evt_c, ax_evt_n, ax_r_lsw, ax_evu_c, ax_evu_n, ax_r_getI, ax_r_getR, ax_r_putI, ax_r_putZ, ax_r_iald, ax_r_iast, ax_r_lald, ax_r_last, ax_r_bald, ax_r_aald, ax_r_alen, ax_r_bast, ax_r_min, ax_r_max, ax_r_minl, ax_r_maxl, ax_r_copy, ax_r_slen, ax_r_schr, ax_r_dup, ax_r_dup2, ax_r_pop, ax_r_ret, ax_r_lret, ax_r_vret, ax_r_zret, ax_r_aret, ax_r_call, ax_evo, ax_eva, ax_ar, ax_tk, ax_ex, ax_ld, ax_sto, ax_stl, ly_pm, ly_cd, ly_ln, ly_rf, Option.bind_some, Option.map_some, if_true, if_false, true_and, and_true, List.nil_append, List.cons_append, List.append_nil, List.length_nil, List.length_cons, List.headD_cons, true_or, or_true, false_or, or_false, ne_eq, not_false_eq_true, not_true_eq_false, false_and, and_false, List.set_cons_zero, List.set_cons_succ, Nat.reduceAdd, Nat.reduceSub, Nat.reduceMul, Nat.reduceLeDiff, Nat.reduceLT, Nat.reduceEqDiff, ↓reduceIte, Int.reduceNeg, Int.reduceAdd, Int.reduceSub, Int.reduceMul, Int.reduceEq, Int.reduceNe, Int.reduceLE, Int.reduceLT, Int.reduceToNat, Nat.one_ne_zero, Nat.zero_ne_one, Int.cast_ofNat_Int, lc_lt, lc_ge, lc_gt, lc_le, lc_eq, lc_ne, w32i, w64i, tdv, tmd, ltT, ltF, leT, leF, eqT, eqF, dc_RuleReader_readSum]
        refine c_emit r0 r6 q1 (by omega) vc0 ?_
        intro g2 x2 q2
        rw [List.append_assoc] at q2
        have x2' := crf_trans x1 x2
        have sg2 := segs_push sg ok vcv
        have len2 : ((L1 ++ (l ++ [vc b N s])).length : Int) = (L1 ++ l).length + 1 := by simp; omega
        have pus2 : (pus (l ++ [vc b N s]) : Int) ≤ c + 1 := by rw [pus_app]; simp only [pus]; split <;> omega
        rw [ax_kk]
        simp (disch := omega) only [ax_ev, ax_kk, ax_ps, ax_r_const, ax_r_lconst, ax_r_str, ax_r_iload, ax_r_lload, ax_r_aload, ax_r_istore, ax_r_astore, ax_r_lstore, ax_r_iinc, ax_r_iadd, ax_r_isub, ax_r_imul, ax_r_idiv, ax_r_irem, ax_r_iand, ax_r_ior, ax_r_ishl, ax_r_ishr, ax_r_iushr, ax_r_i2l, ax_r_l2i, ax_r_i2b, ax_r_ladd, ax_r_lsub, ax_r_lmul, ax_r_ldiv, ax_r_lrem, ax_r_land, ax_r_lor, ax_r_lcmp, ax_r_ifeq, ax_r_ifne, ax_r_iflt, ax_r_ifge, ax_r_ifgt, ax_r_ifle, ax_r_iceq, ax_r_icne, ax_r_iclt, ax_r_icge, ax_r_icgt, ax_r_icle, ax_r_goto, ax_r_tsw, ax_evt_c, ax_evt_n, ax_r_lsw, ax_evu_c, ax_evu_n, ax_r_getI, ax_r_getR, ax_r_putI, ax_r_putZ, ax_r_iald, ax_r_iast, ax_r_lald, ax_r_last, ax_r_bald, ax_r_aald, ax_r_alen, ax_r_bast, ax_r_min, ax_r_max, ax_r_minl, ax_r_maxl, ax_r_copy, ax_r_slen, ax_r_schr, ax_r_dup, ax_r_dup2, ax_r_pop, ax_r_ret, ax_r_lret, ax_r_vret, ax_r_zret, ax_r_aret, ax_r_call, ax_evo, ax_eva, ax_ar, ax_tk, ax_ex, ax_ld, ax_sto, ax_stl, ly_pm, ly_cd, ly_ln, ly_rf, Option.bind_some, Option.map_some, if_true, if_false, true_and, and_true, List.nil_append, List.cons_append, List.append_nil, List.length_nil, List.length_cons, List.headD_cons, true_or, or_true, false_or, or_false, ne_eq, not_false_eq_true, not_true_eq_false, false_and, and_false, List.set_cons_zero, List.set_cons_succ, Nat.reduceAdd, Nat.reduceSub, Nat.reduceMul, Nat.reduceLeDiff, Nat.reduceLT, Nat.reduceEqDiff, ↓reduceIte, Int.reduceNeg, Int.reduceAdd, Int.reduceSub, Int.reduceMul, Int.reduceEq, Int.reduceNe, Int.reduceLE, Int.reduceLT, Int.reduceToNat, Nat.one_ne_zero, Nat.zero_ne_one, Int.cast_ofNat_Int, lc_lt, lc_ge, lc_gt, lc_le, lc_eq, lc_ne, w32i, w64i, tdv, tmd, ltT, ltF, leT, leF, eqT, eqF, dc_RuleReader_readSum]
        -- behind the product
        have REST : ∀ (g3 : Int → Int → Int) (l3 : List Int), crf r g g3 → segs l3 (fun F => (if po = -1 then vv b N s F else jn po (pv F) (vv b N s F)) :: vs F) (n + 1) → cQ b N r g3 s (c + 1) (L1 ++ l3) → ((L1 ++ l3).length : Int) + e + pn so ≤ s + 1 → (pus l3 : Int) ≤ c + 1 → ax_Ev (d + 3) 53 45 [(2, 21), (0, po), (0, so), (0, i), (0, vc b N s)] [] (L0, g3) Q := by
          intro g3 l3 x3 sg3 q3 len3 pus3
          simp (disch := omega) only [ax_ev, ax_kk, ax_ps, ax_r_const, ax_r_lconst, ax_r_str, ax_r_iload, ax_r_lload, ax_r_aload, ax_r_istore, ax_r_astore, ax_r_lstore, ax_r_iinc, ax_r_iadd, ax_r_isub, ax_r_imul, ax_r_idiv, ax_r_irem, ax_r_iand, ax_r_ior, ax_r_ishl, ax_r_ishr, ax_r_iushr, ax_r_i2l, ax_r_l2i, ax_r_i2b, ax_r_ladd, ax_r_lsub, ax_r_lmul, ax_r_ldiv, ax_r_lrem, ax_r_land, ax_r_lor, ax_r_lcmp, ax_r_ifeq, ax_r_ifne, ax_r_iflt, ax_r_ifge, ax_r_ifgt, ax_r_ifle, ax_r_iceq, ax_r_icne, ax_r_iclt, ax_r_icge, ax_r_icgt, ax_r_icle, ax_r_goto, ax_r_tsw, ax_evt_c, ax_evt_n, ax_r_lsw, ax_evu_c, ax_evu_n, ax_r_getI, ax_r_getR, ax_r_putI, ax_r_putZ, ax_r_iald, ax_r_iast, ax_r_lald, ax_r_last, ax_r_bald, ax_r_aald, ax_r_alen, ax_r_bast, ax_r_min, ax_r_max, ax_r_minl, ax_r_maxl, ax_r_copy, ax_r_slen, ax_r_schr, ax_r_dup, ax_r_dup2, ax_r_pop, ax_r_ret, ax_r_lret, ax_r_vret, ax_r_zret, ax_r_aret, ax_r_call, ax_evo, ax_eva, ax_ar, ax_tk, ax_ex, ax_ld, ax_sto, ax_stl, ly_pm, ly_cd, ly_ln, ly_rf, Option.bind_some, Option.map_some, if_true, if_false, true_and, and_true, List.nil_append, List.cons_append, List.append_nil, List.length_nil, List.length_cons, List.headD_cons, true_or, or_true, false_or, or_false, ne_eq, not_false_eq_true, not_true_eq_false, false_and, and_false, List.set_cons_zero, List.set_cons_succ, Nat.reduceAdd, Nat.reduceSub, Nat.reduceMul, Nat.reduceLeDiff, Nat.reduceLT, Nat.reduceEqDiff, ↓reduceIte, Int.reduceNeg, Int.reduceAdd, Int.reduceSub, Int.reduceMul, Int.reduceEq, Int.reduceNe, Int.reduceLE, Int.reduceLT, Int.reduceToNat, Nat.one_ne_zero, Nat.zero_ne_one, Int.cast_ofNat_Int, lc_lt, lc_ge, lc_gt, lc_le, lc_eq, lc_ne, w32i, w64i, tdv, tmd, ltT, ltF, leT, leF, eqT, eqF, dc_RuleReader_readSum]
          refine t_adv t (q := tkB b N s) (by have := tkB_ge (b := b) (N := N) (s := s); omega) (tkB_le s1) q3.1.2.1 q3.1.2.2.1 q3.1.1.1 ?_
          intro g4 f4 k4
          have q4 := cQ_adv r0 q3 f4 k4
          have x4 := crf_adv x3 f4
          have pb := poS_b b N (nxT b N s)
          rw [ax_kk]
          simp (disch := omega) only [ax_ev, ax_kk, ax_ps, ax_r_const, ax_r_lconst, ax_r_str, ax_r_iload, ax_r_lload, ax_r_aload, ax_r_istore, ax_r_astore, ax_r_lstore, ax_r_iinc, ax_r_iadd, ax_r_isub, ax_r_imul, ax_r_idiv, ax_r_irem, ax_r_iand, ax_r_ior, ax_r_ishl, ax_r_ishr, ax_r_iushr, ax_r_i2l, ax_r_l2i, ax_r_i2b, ax_r_ladd, ax_r_lsub, ax_r_lmul, ax_r_ldiv, ax_r_lrem, ax_r_land, ax_r_lor, ax_r_lcmp, ax_r_ifeq, ax_r_ifne, ax_r_iflt, ax_r_ifge, ax_r_ifgt, ax_r_ifle, ax_r_iceq, ax_r_icne, ax_r_iclt, ax_r_icge, ax_r_icgt, ax_r_icle, ax_r_goto, ax_r_tsw, ax_evt_c, ax_evt_n, ax_r_lsw, ax_evu_c, ax_evu_n, ax_r_getI, ax_r_getR, ax_r_putI, ax_r_putZ, ax_r_iald, ax_r_iast, ax_r_lald, ax_r_last, ax_r_bald, ax_r_aald, ax_r_alen, ax_r_bast, ax_r_min, ax_r_max, ax_r_minl, ax_r_maxl, ax_r_copy, ax_r_slen, ax_r_schr, ax_r_dup, ax_r_dup2, ax_r_pop, ax_r_ret, ax_r_lret, ax_r_vret, ax_r_zret, ax_r_aret, ax_r_call, ax_evo, ax_eva, ax_ar, ax_tk, ax_ex, ax_ld, ax_sto, ax_stl, ly_pm, ly_cd, ly_ln, ly_rf, Option.bind_some, Option.map_some, if_true, if_false, true_and, and_true, List.nil_append, List.cons_append, List.append_nil, List.length_nil, List.length_cons, List.headD_cons, true_or, or_true, false_or, or_false, ne_eq, not_false_eq_true, not_true_eq_false, false_and, and_false, List.set_cons_zero, List.set_cons_succ, Nat.reduceAdd, Nat.reduceSub, Nat.reduceMul, Nat.reduceLeDiff, Nat.reduceLT, Nat.reduceEqDiff, ↓reduceIte, Int.reduceNeg, Int.reduceAdd, Int.reduceSub, Int.reduceMul, Int.reduceEq, Int.reduceNe, Int.reduceLE, Int.reduceLT, Int.reduceToNat, Nat.one_ne_zero, Nat.zero_ne_one, Int.cast_ofNat_Int, lc_lt, lc_ge, lc_gt, lc_le, lc_eq, lc_ne, w32i, w64i, tdv, tmd, ltT, ltF, leT, leF, eqT, eqF, dc_RuleReader_readSum]
          refine c_prod k4 ?_
          change ax_k (d + 3) 53 56 [(2, 21), (0, po), (0, so), (0, i), (0, vc b N s)] [] Q (0, poS b N (nxT b N s)) (L0, g4)
          change cQ b N r g4 (nxT b N s) (c + 1) (L1 ++ l3) at q4
          rw [ax_kk]
          by_cases w : poS b N (nxT b N s) = -1
          · rw [if_pos w] at hf hs
            dsimp only at hs
            have H := hs rfl g4 l3 i (0, vc b N s) x4 sg3 q4 (by omega) pus3 (by omega) (by omega) (by omega)
            rw [w]
            rw [ax_ev] at H
            clear hf hs IH t sg sg2 sg3 q q1 q2 q3 q4 x1 x2 x2' x3 x4 f4 k4 vcv
            simp (disch := omega) only [ax_ev, ax_kk, ax_ps, ax_r_const, ax_r_lconst, ax_r_str, ax_r_iload, ax_r_lload, ax_r_aload, ax_r_istore, ax_r_astore, ax_r_lstore, ax_r_iinc, ax_r_iadd, ax_r_isub, ax_r_imul, ax_r_idiv, ax_r_irem, ax_r_iand, ax_r_ior, ax_r_ishl, ax_r_ishr, ax_r_iushr, ax_r_i2l, ax_r_l2i, ax_r_i2b, ax_r_ladd, ax_r_lsub, ax_r_lmul, ax_r_ldiv, ax_r_lrem, ax_r_land, ax_r_lor, ax_r_lcmp, ax_r_ifeq, ax_r_ifne, ax_r_iflt, ax_r_ifge, ax_r_ifgt, ax_r_ifle, ax_r_iceq, ax_r_icne, ax_r_iclt, ax_r_icge, ax_r_icgt, ax_r_icle, ax_r_goto, ax_r_tsw, ax_evt_c, ax_evt_n, ax_r_lsw, ax_evu_c, ax_evu_n, ax_r_getI, ax_r_getR, ax_r_putI, ax_r_putZ, ax_r_iald, ax_r_iast, ax_r_lald, ax_r_last, ax_r_bald, ax_r_aald, ax_r_alen, ax_r_bast, ax_r_min, ax_r_max, ax_r_minl, ax_r_maxl, ax_r_copy, ax_r_slen, ax_r_schr, ax_r_dup, ax_r_dup2, ax_r_pop, ax_r_ret, ax_r_lret, ax_r_vret, ax_r_zret, ax_r_aret, ax_r_call, ax_evo, ax_eva, ax_ar, ax_tk, ax_ex, ax_ld, ax_sto, ax_stl, ly_pm, ly_cd, ly_ln, ly_rf, Option.bind_some, Option.map_some, if_true, if_false, true_and, and_true, List.nil_append, List.cons_append, List.append_nil, List.length_nil, List.length_cons, List.headD_cons, true_or, or_true, false_or, or_false, ne_eq, not_false_eq_true, not_true_eq_false, false_and, and_false, List.set_cons_zero, List.set_cons_succ, Nat.reduceAdd, Nat.reduceSub, Nat.reduceMul, Nat.reduceLeDiff, Nat.reduceLT, Nat.reduceEqDiff, ↓reduceIte, Int.reduceNeg, Int.reduceAdd, Int.reduceSub, Int.reduceMul, Int.reduceEq, Int.reduceNe, Int.reduceLE, Int.reduceLT, Int.reduceToNat, Nat.one_ne_zero, Nat.zero_ne_one, Int.cast_ofNat_Int, lc_lt, lc_ge, lc_gt, lc_le, lc_eq, lc_ne, w32i, w64i, tdv, tmd, ltT, ltF, leT, leF, eqT, eqF, dc_RuleReader_readSum] at H ⊢
            exact H
          · rw [if_neg w] at hf hs
            obtain ⟨pb1, pb2⟩ := pb.resolve_left w
            obtain ⟨m1, mN⟩ := nxT_gt pb2
            obtain ⟨mx0, mxN⟩ := nxT_b (b := b) nx0 nxN
            have A := t_adv t (q := tkB b N (nxT b N s)) (g := g4) (d := d + 1) (Q := ax_k (d + 3) 53 86 [(2, 21), (0, poS b N (nxT b N s)), (0, so), (0, i), (0, vc b N s)] [] Q) (by have := tkB_ge (b := b) (N := N) (s := nxT b N s); omega) (tkB_le nxN) q4.1.2.1 q4.1.2.2.1 q4.1.1.1 (by
              intro g5 f5 k5
              have q5 := cQ_adv r0 q4 f5 k5
              have x5 := crf_adv x4 f5
              change cQ b N r g5 (nxT b N (nxT b N s)) (c + 1) (L1 ++ l3) at q5
              have pnw : pn (poS b N (nxT b N s)) = 1 := by unfold pn; rw [if_neg w]
              have I := IH (nxT b N (nxT b N s)) (c + 1) (poS b N (nxT b N s)) (fun F => if po = -1 then vv b N s F else jn po (pv F) (vv b N s F)) (i + 1) l3 g5 (0, vc b N s) (by omega) (by omega) (by omega) (by omega) (by omega) mx0 mxN (.inr pb1) (by
                  rw [pnw]
                  exact segs_eq sg3 fun F => by unfold wsP; rw [if_neg w]) q5 (by rw [pnw]; omega) pus3 (fun z g' y => hf z g' (crf_trans x5 y)) (fun z g' l' i' l4' y1 y2 y3 y4 y5 y6 y7 y8 => hs z g' l' i' l4' (crf_trans x5 y1) y2 y3 y4 y5 y6 (by omega) (by omega))
              rw [ax_kk]
              clear hf hs IH t sg sg2 sg3 q q1 q2 q3 q4 q5 x1 x2 x2' x3 x4 x5 f4 k4 f5 k5 vcv
              simp (disch := omega) only [ax_ev, ax_kk, ax_ps, ax_r_const, ax_r_lconst, ax_r_str, ax_r_iload, ax_r_lload, ax_r_aload, ax_r_istore, ax_r_astore, ax_r_lstore, ax_r_iinc, ax_r_iadd, ax_r_isub, ax_r_imul, ax_r_idiv, ax_r_irem, ax_r_iand, ax_r_ior, ax_r_ishl, ax_r_ishr, ax_r_iushr, ax_r_i2l, ax_r_l2i, ax_r_i2b, ax_r_ladd, ax_r_lsub, ax_r_lmul, ax_r_ldiv, ax_r_lrem, ax_r_land, ax_r_lor, ax_r_lcmp, ax_r_ifeq, ax_r_ifne, ax_r_iflt, ax_r_ifge, ax_r_ifgt, ax_r_ifle, ax_r_iceq, ax_r_icne, ax_r_iclt, ax_r_icge, ax_r_icgt, ax_r_icle, ax_r_goto, ax_r_tsw, ax_evt_c, ax_evt_n, ax_r_lsw, ax_evu_c, ax_evu_n, ax_r_getI, ax_r_getR, ax_r_putI, ax_r_putZ, ax_r_iald, ax_r_iast, ax_r_lald, ax_r_last, ax_r_bald, ax_r_aald, ax_r_alen, ax_r_bast, ax_r_min, ax_r_max, ax_r_minl, ax_r_maxl, ax_r_copy, ax_r_slen, ax_r_schr, ax_r_dup, ax_r_dup2, ax_r_pop, ax_r_ret, ax_r_lret, ax_r_vret, ax_r_zret, ax_r_aret, ax_r_call, ax_evo, ax_eva, ax_ar, ax_tk, ax_ex, ax_ld, ax_sto, ax_stl, ly_pm, ly_cd, ly_ln, ly_rf, Option.bind_some, Option.map_some, if_true, if_false, true_and, and_true, List.nil_append, List.cons_append, List.append_nil, List.length_nil, List.length_cons, List.headD_cons, true_or, or_true, false_or, or_false, ne_eq, not_false_eq_true, not_true_eq_false, false_and, and_false, List.set_cons_zero, List.set_cons_succ, Nat.reduceAdd, Nat.reduceSub, Nat.reduceMul, Nat.reduceLeDiff, Nat.reduceLT, Nat.reduceEqDiff, ↓reduceIte, Int.reduceNeg, Int.reduceAdd, Int.reduceSub, Int.reduceMul, Int.reduceEq, Int.reduceNe, Int.reduceLE, Int.reduceLT, Int.reduceToNat, Nat.one_ne_zero, Nat.zero_ne_one, Int.cast_ofNat_Int, lc_lt, lc_ge, lc_gt, lc_le, lc_eq, lc_ne, w32i, w64i, tdv, tmd, ltT, ltF, leT, leF, eqT, eqF, dc_RuleReader_readSum]
              exact I)
            clear hf hs IH t sg sg2 sg3 q q1 q2 q3 q4 x1 x2 x2' x3 x4 f4 k4 vcv
            simp (disch := omega) only [ax_ev, ax_kk, ax_ps, ax_r_const, ax_r_lconst, ax_r_str, ax_r_iload, ax_r_lload, ax_r_aload, ax_r_istore, ax_r_astore, ax_r_lstore, ax_r_iinc, ax_r_iadd, ax_r_isub, ax_r_imul, ax_r_idiv, ax_r_irem, ax_r_iand, ax_r_ior, ax_r_ishl, ax_r_ishr, ax_r_iushr, ax_r_i2l, ax_r_l2i, ax_r_i2b, ax_r_ladd, ax_r_lsub, ax_r_lmul, ax_r_ldiv, ax_r_lrem, ax_r_land, ax_r_lor, ax_r_lcmp, ax_r_ifeq, ax_r_ifne, ax_r_iflt, ax_r_ifge, ax_r_ifgt, ax_r_ifle, ax_r_iceq, ax_r_icne, ax_r_iclt, ax_r_icge, ax_r_icgt, ax_r_icle, ax_r_goto, ax_r_tsw, ax_evt_c, ax_evt_n, ax_r_lsw, ax_evu_c, ax_evu_n, ax_r_getI, ax_r_getR, ax_r_putI, ax_r_putZ, ax_r_iald, ax_r_iast, ax_r_lald, ax_r_last, ax_r_bald, ax_r_aald, ax_r_alen, ax_r_bast, ax_r_min, ax_r_max, ax_r_minl, ax_r_maxl, ax_r_copy, ax_r_slen, ax_r_schr, ax_r_dup, ax_r_dup2, ax_r_pop, ax_r_ret, ax_r_lret, ax_r_vret, ax_r_zret, ax_r_aret, ax_r_call, ax_evo, ax_eva, ax_ar, ax_tk, ax_ex, ax_ld, ax_sto, ax_stl, ly_pm, ly_cd, ly_ln, ly_rf, Option.bind_some, Option.map_some, if_true, if_false, true_and, and_true, List.nil_append, List.cons_append, List.append_nil, List.length_nil, List.length_cons, List.headD_cons, true_or, or_true, false_or, or_false, ne_eq, not_false_eq_true, not_true_eq_false, false_and, and_false, List.set_cons_zero, List.set_cons_succ, Nat.reduceAdd, Nat.reduceSub, Nat.reduceMul, Nat.reduceLeDiff, Nat.reduceLT, Nat.reduceEqDiff, ↓reduceIte, Int.reduceNeg, Int.reduceAdd, Int.reduceSub, Int.reduceMul, Int.reduceEq, Int.reduceNe, Int.reduceLE, Int.reduceLT, Int.reduceToNat, Nat.one_ne_zero, Nat.zero_ne_one, Int.cast_ofNat_Int, lc_lt, lc_ge, lc_gt, lc_le, lc_eq, lc_ne, w32i, w64i, tdv, tmd, ltT, ltF, leT, leF, eqT, eqF, dc_RuleReader_readSum]
            exact A
        by_cases p1 : po = -1
        · have R := REST g2 (l ++ [vc b N s]) x2' (by
            have := segs_eq sg2 (ws := fun F => (if po = -1 then vv b N s F else jn po (pv F) (vv b N s F)) :: vs F) (fun F => by unfold wsP; rw [if_pos p1, if_pos p1])
            rw [show pn po = 0 by unfold pn; rw [if_pos p1]] at this
            exact this) q2 (by omega) pus2
          rw [ax_ev] at R
          clear REST hf hs IH t sg sg2 q q1 q2 x1 x2 x2' vcv
          subst p1
          simp (disch := omega) only [ax_ev, ax_kk, ax_ps, ax_r_const, ax_r_lconst, ax_r_str, ax_r_iload, ax_r_lload, ax_r_aload, ax_r_istore, ax_r_astore, ax_r_lstore, ax_r_iinc, ax_r_iadd, ax_r_isub, ax_r_imul, ax_r_idiv, ax_r_irem, ax_r_iand, ax_r_ior, ax_r_ishl, ax_r_ishr, ax_r_iushr, ax_r_i2l, ax_r_l2i, ax_r_i2b, ax_r_ladd, ax_r_lsub, ax_r_lmul, ax_r_ldiv, ax_r_lrem, ax_r_land, ax_r_lor, ax_r_lcmp, ax_r_ifeq, ax_r_ifne, ax_r_iflt, ax_r_ifge, ax_r_ifgt, ax_r_ifle, ax_r_iceq, ax_r_icne, ax_r_iclt, ax_r_icge, ax_r_icgt, ax_r_icle, ax_r_goto, ax_r_tsw, ax_evt_c, ax_evt_n, ax_r_lsw, ax_evu_c, ax_evu_n, ax_r_getI, ax_r_getR, ax_r_putI, ax_r_putZ, ax_r_iald, ax_r_iast, ax_r_lald, ax_r_last, ax_r_bald, ax_r_aald, ax_r_alen, ax_r_bast, ax_r_min, ax_r_max, ax_r_minl, ax_r_maxl, ax_r_copy, ax_r_slen, ax_r_schr, ax_r_dup, ax_r_dup2, ax_r_pop, ax_r_ret, ax_r_lret, ax_r_vret, ax_r_zret, ax_r_aret, ax_r_call, ax_evo, ax_eva, ax_ar, ax_tk, ax_ex, ax_ld, ax_sto, ax_stl, ly_pm, ly_cd, ly_ln, ly_rf, Option.bind_some, Option.map_some, if_true, if_false, true_and, and_true, List.nil_append, List.cons_append, List.append_nil, List.length_nil, List.length_cons, List.headD_cons, true_or, or_true, false_or, or_false, ne_eq, not_false_eq_true, not_true_eq_false, false_and, and_false, List.set_cons_zero, List.set_cons_succ, Nat.reduceAdd, Nat.reduceSub, Nat.reduceMul, Nat.reduceLeDiff, Nat.reduceLT, Nat.reduceEqDiff, ↓reduceIte, Int.reduceNeg, Int.reduceAdd, Int.reduceSub, Int.reduceMul, Int.reduceEq, Int.reduceNe, Int.reduceLE, Int.reduceLT, Int.reduceToNat, Nat.one_ne_zero, Nat.zero_ne_one, Int.cast_ofNat_Int, lc_lt, lc_ge, lc_gt, lc_le, lc_eq, lc_ne, w32i, w64i, tdv, tmd, ltT, ltF, leT, leF, eqT, eqF, dc_RuleReader_readSum, dc_RuleReader_emit] at R ⊢
          exact R
        · have pb := hpo.resolve_left p1
          have pn1 : pn po = 1 := by unfold pn; rw [if_neg p1]
          rw [pn1] at hl sg2
          refine c_emit r0 r6 q2 (by omega) (by omega) ?_
          intro g3 x3 q3
          rw [List.append_assoc] at q3
          have sg3 : segs (l ++ [vc b N s] ++ [po]) (fun F => (if po = -1 then vv b N s F else jn po (pv F) (vv b N s F)) :: vs F) (n + 1) := by
            refine segs_eq (segs_bin (x := pv) (y := vv b N s) (vs := vs) (n := n) (segs_eq sg2 fun F => ?_) (by omega) (by omega)) fun F => ?_
            · unfold wsP; rw [if_neg p1]
            · rw [if_neg p1]
          have R := REST g3 (l ++ [vc b N s] ++ [po]) (crf_trans x2' x3) sg3 q3 (by
            have : ((L1 ++ (l ++ [vc b N s] ++ [po])).length : Int) = (L1 ++ (l ++ [vc b N s])).length + 1 := by simp; omega
            omega) (by rw [pus_app]; simp only [pus]; rw [if_neg (by omega)]; omega)
          rw [ax_kk]
          exact R
      · rw [if_pos y] at hf hs
        have H := hf (by simp only; omega) (ax_up g 1 6 (4 + 8 * s)) (crf_up (crf_refl r g) (.inl ⟨rfl, by omega, by omega⟩)) ax_up_eq (by rw [ax_up_no (by omega), q.2.1.1]; omega)
        rw [ax_kk]
        clear hf hs IH t sg q vcv
        simp (disch := omega) only [ax_ev, ax_kk, ax_ps, ax_r_const, ax_r_lconst, ax_r_str, ax_r_iload, ax_r_lload, ax_r_aload, ax_r_istore, ax_r_astore, ax_r_lstore, ax_r_iinc, ax_r_iadd, ax_r_isub, ax_r_imul, ax_r_idiv, ax_r_irem, ax_r_iand, ax_r_ior, ax_r_ishl, ax_r_ishr, ax_r_iushr, ax_r_i2l, ax_r_l2i, ax_r_i2b, ax_r_ladd, ax_r_lsub, ax_r_lmul, ax_r_ldiv, ax_r_lrem, ax_r_land, ax_r_lor, ax_r_lcmp, ax_r_ifeq, ax_r_ifne, ax_r_iflt, ax_r_ifge, ax_r_ifgt, ax_r_ifle, ax_r_iceq, ax_r_icne, ax_r_iclt, ax_r_icge, ax_r_icgt, ax_r_icle, ax_r_goto, ax_r_tsw, ax_evt_c, ax_evt_n, ax_r_lsw, ax_evu_c, ax_evu_n, ax_r_getI, ax_r_getR, ax_r_putI, ax_r_putZ, ax_r_iald, ax_r_iast, ax_r_lald, ax_r_last, ax_r_bald, ax_r_aald, ax_r_alen, ax_r_bast, ax_r_min, ax_r_max, ax_r_minl, ax_r_maxl, ax_r_copy, ax_r_slen, ax_r_schr, ax_r_dup, ax_r_dup2, ax_r_pop, ax_r_ret, ax_r_lret, ax_r_vret, ax_r_zret, ax_r_aret, ax_r_call, ax_evo, ax_eva, ax_ar, ax_tk, ax_ex, ax_ld, ax_sto, ax_stl, ly_pm, ly_cd, ly_ln, ly_rf, Option.bind_some, Option.map_some, if_true, if_false, true_and, and_true, List.nil_append, List.cons_append, List.append_nil, List.length_nil, List.length_cons, List.headD_cons, true_or, or_true, false_or, or_false, ne_eq, not_false_eq_true, not_true_eq_false, false_and, and_false, List.set_cons_zero, List.set_cons_succ, Nat.reduceAdd, Nat.reduceSub, Nat.reduceMul, Nat.reduceLeDiff, Nat.reduceLT, Nat.reduceEqDiff, ↓reduceIte, Int.reduceNeg, Int.reduceAdd, Int.reduceSub, Int.reduceMul, Int.reduceEq, Int.reduceNe, Int.reduceLE, Int.reduceLT, Int.reduceToNat, Nat.one_ne_zero, Nat.zero_ne_one, Int.cast_ofNat_Int, lc_lt, lc_ge, lc_gt, lc_le, lc_eq, lc_ne, w32i, w64i, tdv, tmd, ltT, ltF, leT, leF, eqT, eqF, dc_RuleReader_readSum]
        exact H
    · rw [if_pos z] at hf hs
      have H := hf z (ax_up g 1 6 (vf b N s)) (crf_up (crf_refl r g) (.inl ⟨rfl, by omega, by omega⟩)) ax_up_eq (by rw [ax_up_no (by omega), q.2.1.1]; omega)
      rw [ax_kk]
      clear hf hs IH t sg q
      simp (disch := omega) only [ax_ev, ax_kk, ax_ps, ax_r_const, ax_r_lconst, ax_r_str, ax_r_iload, ax_r_lload, ax_r_aload, ax_r_istore, ax_r_astore, ax_r_lstore, ax_r_iinc, ax_r_iadd, ax_r_isub, ax_r_imul, ax_r_idiv, ax_r_irem, ax_r_iand, ax_r_ior, ax_r_ishl, ax_r_ishr, ax_r_iushr, ax_r_i2l, ax_r_l2i, ax_r_i2b, ax_r_ladd, ax_r_lsub, ax_r_lmul, ax_r_ldiv, ax_r_lrem, ax_r_land, ax_r_lor, ax_r_lcmp, ax_r_ifeq, ax_r_ifne, ax_r_iflt, ax_r_ifge, ax_r_ifgt, ax_r_ifle, ax_r_iceq, ax_r_icne, ax_r_iclt, ax_r_icge, ax_r_icgt, ax_r_icle, ax_r_goto, ax_r_tsw, ax_evt_c, ax_evt_n, ax_r_lsw, ax_evu_c, ax_evu_n, ax_r_getI, ax_r_getR, ax_r_putI, ax_r_putZ, ax_r_iald, ax_r_iast, ax_r_lald, ax_r_last, ax_r_bald, ax_r_aald, ax_r_alen, ax_r_bast, ax_r_min, ax_r_max, ax_r_minl, ax_r_maxl, ax_r_copy, ax_r_slen, ax_r_schr, ax_r_dup, ax_r_dup2, ax_r_pop, ax_r_ret, ax_r_lret, ax_r_vret, ax_r_zret, ax_r_aret, ax_r_call, ax_evo, ax_eva, ax_ar, ax_tk, ax_ex, ax_ld, ax_sto, ax_stl, ly_pm, ly_cd, ly_ln, ly_rf, Option.bind_some, Option.map_some, if_true, if_false, true_and, and_true, List.nil_append, List.cons_append, List.append_nil, List.length_nil, List.length_cons, List.headD_cons, true_or, or_true, false_or, or_false, ne_eq, not_false_eq_true, not_true_eq_false, false_and, and_false, List.set_cons_zero, List.set_cons_succ, Nat.reduceAdd, Nat.reduceSub, Nat.reduceMul, Nat.reduceLeDiff, Nat.reduceLT, Nat.reduceEqDiff, ↓reduceIte, Int.reduceNeg, Int.reduceAdd, Int.reduceSub, Int.reduceMul, Int.reduceEq, Int.reduceNe, Int.reduceLE, Int.reduceLT, Int.reduceToNat, Nat.one_ne_zero, Nat.zero_ne_one, Int.cast_ofNat_Int, lc_lt, lc_ge, lc_gt, lc_le, lc_eq, lc_ne, w32i, w64i, tdv, tmd, ltT, ltF, leT, leF, eqT, eqF, dc_RuleReader_readSum]
      exact H
