/-! kiln: the text in the reference -/
set_option maxRecDepth 100000 in
set_option maxHeartbeats 4000000 in
theorem m_k4 {b : Int → Int} {N s : Int} (t : tx b N) {g T : Int → Int → Int} (c : mS b N g s T) (y0 : 0 ≤ T 0 2 ∧ T 0 2 ≤ 3) (o0 : 0 ≤ T 0 3) (o4 : T 0 3 < 4) {d : Nat} {Q : ax_V → ax_H → Prop} (hq : ∀ g', mR b N g g' (kO b N s T) → Q (9, 0) (L0, g')) : ax_Ev (d + 5) 166 0 [(2, 124), (0, 4), (9, 0)] [] (L0, g) Q := by
  obtain ⟨⟨c1, c2, c3⟩, ⟨p0, pN⟩, c4, c5⟩ := c
  subst c5
  have eo : g 140 2 = T 0 3 := c2.1.2.2.1
  have ey : g 140 1 = T 0 2 := c2.1.2.1
  unfold kO at hq
  simp (disch := omega) only [ax_ev, ax_kk, ax_ps, ax_r_const, ax_r_lconst, ax_r_str, ax_r_iload, ax_r_lload, ax_r_aload, ax_r_istore, ax_r_astore, ax_r_lstore, ax_r_iinc, ax_r_iadd, ax_r_isub, ax_r_imul, ax_r_idiv, ax_r_irem, ax_r_iand, ax_r_ior, ax_r_ishl, ax_r_ishr, ax_r_iushr, ax_r_i2l, ax_r_l2i, ax_r_i2b, ax_r_ladd, ax_r_lsub, ax_r_lmul, ax_r_ldiv, ax_r_lrem, ax_r_land, ax_r_lor, ax_r_lcmp, ax_r_ifeq, ax_r_ifne, ax_r_iflt, ax_r_ifge, ax_r_ifgt, ax_r_ifle, ax_r_iceq, ax_r_icne, ax_r_iclt, ax_r_icge, ax_r_icgt, ax_r_icle, ax_r_goto, ax_r_tsw, ax_evt_c, ax_evt_n, ax_r_lsw, ax_evu_c, ax_evu_n, ax_r_getI, ax_r_getR, ax_r_putI, ax_r_putZ, ax_r_iald, ax_r_iast, ax_r_lald, ax_r_last, ax_r_bald, ax_r_aald, ax_r_alen, ax_r_bast, ax_r_min, ax_r_max, ax_r_minl, ax_r_maxl, ax_r_copy, ax_r_slen, ax_r_schr, ax_r_dup, ax_r_dup2, ax_r_pop, ax_r_ret, ax_r_lret, ax_r_vret, ax_r_zret, ax_r_aret, ax_r_call, ax_evo, ax_eva, ax_ar, ax_tk, ax_ex, ax_ld, ax_sto, ax_stl, ly_pm, ly_cd, ly_ln, ly_rf, Option.bind_some, Option.map_some, if_true, if_false, true_and, and_true, List.nil_append, List.cons_append, List.append_nil, List.length_nil, List.length_cons, List.headD_cons, true_or, or_true, false_or, or_false, ne_eq, not_false_eq_true, not_true_eq_false, false_and, and_false, List.set_cons_zero, List.set_cons_succ, Nat.reduceAdd, Nat.reduceSub, Nat.reduceMul, Nat.reduceLeDiff, Nat.reduceLT, Nat.reduceEqDiff, ↓reduceIte, Int.reduceNeg, Int.reduceAdd, Int.reduceSub, Int.reduceMul, Int.reduceEq, Int.reduceNe, Int.reduceLE, Int.reduceLT, Int.reduceToNat, Nat.one_ne_zero, Nat.zero_ne_one, Int.cast_ofNat_Int, lc_lt, lc_ge, lc_gt, lc_le, lc_eq, lc_ne, w32i, w64i, tdv, tmd, ltT, ltF, leT, leF, eqT, eqF, dc_M_kilnPart, dc_M_orderPart, eo, ey]
  refine m_amount t c1 rfl c4 p0 pN (by omega) (by omega) (by omega) (by omega) ?_
  intro g1 v1 f1 r1 F1 vb1 S1
  rw [if_pos rfl] at F1
  rw [ax_kk]
  have x1 : mfr g (ax_up g1 144 (T 0 3) v1) := mfr_up (mfr_am (mfr_refl g) f1) (by omega)
  have B1 : mB (ax_up g1 144 (T 0 3) v1) := mB_up (mB_same c3 f1) (by omega)
  have r1' : 0 ≤ ax_up g1 144 (T 0 3) v1 124 24 ∧ ax_up g1 144 (T 0 3) v1 124 24 ≤ N := by rw [up_p (by omega)]; exact r1
  have F1' : ax_up g1 144 (T 0 3) v1 124 25 = nf b N (sk b N (g 124 24)) 0 (T 0 2 - 1) := by rw [up_p (by omega)]; exact F1
  simp (disch := omega) only [ax_ev, ax_kk, ax_ps, ax_r_const, ax_r_lconst, ax_r_str, ax_r_iload, ax_r_lload, ax_r_aload, ax_r_istore, ax_r_astore, ax_r_lstore, ax_r_iinc, ax_r_iadd, ax_r_isub, ax_r_imul, ax_r_idiv, ax_r_irem, ax_r_iand, ax_r_ior, ax_r_ishl, ax_r_ishr, ax_r_iushr, ax_r_i2l, ax_r_l2i, ax_r_i2b, ax_r_ladd, ax_r_lsub, ax_r_lmul, ax_r_ldiv, ax_r_lrem, ax_r_land, ax_r_lor, ax_r_lcmp, ax_r_ifeq, ax_r_ifne, ax_r_iflt, ax_r_ifge, ax_r_ifgt, ax_r_ifle, ax_r_iceq, ax_r_icne, ax_r_iclt, ax_r_icge, ax_r_icgt, ax_r_icle, ax_r_goto, ax_r_tsw, ax_evt_c, ax_evt_n, ax_r_lsw, ax_evu_c, ax_evu_n, ax_r_getI, ax_r_getR, ax_r_putI, ax_r_putZ, ax_r_iald, ax_r_iast, ax_r_lald, ax_r_last, ax_r_bald, ax_r_aald, ax_r_alen, ax_r_bast, ax_r_min, ax_r_max, ax_r_minl, ax_r_maxl, ax_r_copy, ax_r_slen, ax_r_schr, ax_r_dup, ax_r_dup2, ax_r_pop, ax_r_ret, ax_r_lret, ax_r_vret, ax_r_zret, ax_r_aret, ax_r_call, ax_evo, ax_eva, ax_ar, ax_tk, ax_ex, ax_ld, ax_sto, ax_stl, ly_pm, ly_cd, ly_ln, ly_rf, Option.bind_some, Option.map_some, if_true, if_false, true_and, and_true, List.nil_append, List.cons_append, List.append_nil, List.length_nil, List.length_cons, List.headD_cons, true_or, or_true, false_or, or_false, ne_eq, not_false_eq_true, not_true_eq_false, false_and, and_false, List.set_cons_zero, List.set_cons_succ, Nat.reduceAdd, Nat.reduceSub, Nat.reduceMul, Nat.reduceLeDiff, Nat.reduceLT, Nat.reduceEqDiff, ↓reduceIte, Int.reduceNeg, Int.reduceAdd, Int.reduceSub, Int.reduceMul, Int.reduceEq, Int.reduceNe, Int.reduceLE, Int.reduceLT, Int.reduceToNat, Nat.one_ne_zero, Nat.zero_ne_one, Int.cast_ofNat_Int, lc_lt, lc_ge, lc_gt, lc_le, lc_eq, lc_ne, w32i, w64i, tdv, tmd, ltT, ltF, leT, leF, eqT, eqF, dc_M_kilnPart, dc_M_orderPart]
  refine m_amount t (tm_mfr c1 x1) rfl F1' r1'.1 r1'.2 (by omega) (by omega) (by omega) (by omega) ?_
  intro g2 v2 f2 r2 F2 vb2 S2
  rw [ax_kk]
  have x2 : mfr g (ax_up g2 145 (T 0 3) v2) := mfr_up (mfr_am x1 f2) (by omega)
  have B2 : mB (ax_up g2 145 (T 0 3) v2) := mB_up (mB_same B1 f2) (by omega)
  have r2' : 0 ≤ ax_up g2 145 (T 0 3) v2 124 24 ∧ ax_up g2 145 (T 0 3) v2 124 24 ≤ N := by rw [up_p (by omega)]; exact r2
  have F2' : ax_up g2 145 (T 0 3) v2 124 25 = g2 124 25 := by rw [up_p (by omega)]
  simp (disch := omega) only [ax_ev, ax_kk, ax_ps, ax_r_const, ax_r_lconst, ax_r_str, ax_r_iload, ax_r_lload, ax_r_aload, ax_r_istore, ax_r_astore, ax_r_lstore, ax_r_iinc, ax_r_iadd, ax_r_isub, ax_r_imul, ax_r_idiv, ax_r_irem, ax_r_iand, ax_r_ior, ax_r_ishl, ax_r_ishr, ax_r_iushr, ax_r_i2l, ax_r_l2i, ax_r_i2b, ax_r_ladd, ax_r_lsub, ax_r_lmul, ax_r_ldiv, ax_r_lrem, ax_r_land, ax_r_lor, ax_r_lcmp, ax_r_ifeq, ax_r_ifne, ax_r_iflt, ax_r_ifge, ax_r_ifgt, ax_r_ifle, ax_r_iceq, ax_r_icne, ax_r_iclt, ax_r_icge, ax_r_icgt, ax_r_icle, ax_r_goto, ax_r_tsw, ax_evt_c, ax_evt_n, ax_r_lsw, ax_evu_c, ax_evu_n, ax_r_getI, ax_r_getR, ax_r_putI, ax_r_putZ, ax_r_iald, ax_r_iast, ax_r_lald, ax_r_last, ax_r_bald, ax_r_aald, ax_r_alen, ax_r_bast, ax_r_min, ax_r_max, ax_r_minl, ax_r_maxl, ax_r_copy, ax_r_slen, ax_r_schr, ax_r_dup, ax_r_dup2, ax_r_pop, ax_r_ret, ax_r_lret, ax_r_vret, ax_r_zret, ax_r_aret, ax_r_call, ax_evo, ax_eva, ax_ar, ax_tk, ax_ex, ax_ld, ax_sto, ax_stl, ly_pm, ly_cd, ly_ln, ly_rf, Option.bind_some, Option.map_some, if_true, if_false, true_and, and_true, List.nil_append, List.cons_append, List.append_nil, List.length_nil, List.length_cons, List.headD_cons, true_or, or_true, false_or, or_false, ne_eq, not_false_eq_true, not_true_eq_false, false_and, and_false, List.set_cons_zero, List.set_cons_succ, Nat.reduceAdd, Nat.reduceSub, Nat.reduceMul, Nat.reduceLeDiff, Nat.reduceLT, Nat.reduceEqDiff, ↓reduceIte, Int.reduceNeg, Int.reduceAdd, Int.reduceSub, Int.reduceMul, Int.reduceEq, Int.reduceNe, Int.reduceLE, Int.reduceLT, Int.reduceToNat, Nat.one_ne_zero, Nat.zero_ne_one, Int.cast_ofNat_Int, lc_lt, lc_ge, lc_gt, lc_le, lc_eq, lc_ne, w32i, w64i, tdv, tmd, ltT, ltF, leT, leF, eqT, eqF, dc_M_kilnPart, dc_M_orderPart]
  refine m_amount t (tm_mfr c1 x2) rfl F2' r2'.1 r2'.2 (by omega) (by omega) (by omega) (by omega) ?_
  intro g3 v3 f3 r3 F3 vb3 S3
  rw [ax_kk]
  have x3 : mfr g (ax_up (ax_up g3 146 (T 0 3) v3) 140 2 (T 0 3 + 1)) := mfr_up (mfr_up (mfr_am x2 f3) (by omega)) (by omega)
  have B3 : mB (ax_up (ax_up g3 146 (T 0 3) v3) 140 2 (T 0 3 + 1)) := mB_up (mB_up (mB_same B2 f3) (by omega)) (by omega)
  have eo3 : ax_up g3 146 (T 0 3) v3 140 2 = T 0 3 := by
    rw [ax_up_no (by omega), f3 _ _ (by omega), ax_up_no (by omega), f2 _ _ (by omega), ax_up_no (by omega), f1 _ _ (by omega)]; exact eo
  have E25 : ax_up (ax_up g3 146 (T 0 3) v3) 140 2 (T 0 3 + 1) 124 25 = g3 124 25 := by rw [up_p (by omega), up_p (by omega)]
  have E24 : ax_up (ax_up g3 146 (T 0 3) v3) 140 2 (T 0 3 + 1) 124 24 = g3 124 24 := by rw [up_p (by omega), up_p (by omega)]
  have H : Q (9, 0) (L0, ax_up (ax_up g3 146 (T 0 3) v3) 140 2 (T 0 3 + 1)) := by
    by_cases z1 : nf b N (sk b N (g 124 24)) 0 (T 0 2 - 1) = 0
    · rw [if_neg (by omega)] at hq
      obtain ⟨w1, p1⟩ := S1 rfl z1
      rw [up_p (by omega), p1] at S2 F2
      change g2 124 25 = (if _ then nf b N (nxT b N (sk b N (g 124 24))) 1 9 else _) at F2
      change _ → nf b N (nxT b N (sk b N (g 124 24))) 1 9 = 0 → v2 = tkV b N (nxT b N (sk b N (g 124 24))) ∧ g2 124 24 = tkB b N (nxT b N (sk b N (g 124 24))) at S2
      rw [if_pos z1] at F2
      by_cases z2 : nf b N (nxT b N (sk b N (g 124 24))) 1 9 = 0
      · rw [if_neg (by omega)] at hq
        obtain ⟨w2, p2⟩ := S2 z1 z2
        rw [up_p (by omega), p2] at S3 F3
        change g3 124 25 = (if _ then nf b N (nxT b N (nxT b N (sk b N (g 124 24)))) 0 99 else _) at F3
        change _ → nf b N (nxT b N (nxT b N (sk b N (g 124 24)))) 0 99 = 0 → v3 = tkV b N (nxT b N (nxT b N (sk b N (g 124 24)))) ∧ g3 124 24 = tkB b N (nxT b N (nxT b N (sk b N (g 124 24)))) at S3
        rw [if_pos (by rw [F2]; exact z2)] at F3
        by_cases z3 : nf b N (nxT b N (nxT b N (sk b N (g 124 24)))) 0 99 = 0
        · rw [if_neg (by omega)] at hq
          obtain ⟨w3, p3⟩ := S3 (by rw [F2]; exact z2) z3
          refine hq _ ⟨x3, B3, by rw [E24]; exact r3, by rw [E25, F3]; exact z3, fun _ => ?_⟩
          obtain ⟨⟨a, a2, a3, a4, a5⟩, m2, m3, m4⟩ := c2
          dsimp only
          rw [← w1, ← w2, ← w3]
          have E : ∀ k j, ¬ (k = 124 ∧ (j = 24 ∨ j = 25)) → ¬ (k = 140 ∧ j = 2) → ¬ (144 ≤ k ∧ k ≤ 146 ∧ j = T 0 3) → ax_up (ax_up g3 146 (T 0 3) v3) 140 2 (T 0 3 + 1) k j = g k j := fun k j e1 e2 e3 => by
            rw [ax_up_no (by omega), ax_up_no (by omega), f3 k j e1, ax_up_no (by omega), f2 k j e1, ax_up_no (by omega), f1 k j e1]
          have t0 : ∀ i j, ¬ (i = 0 ∧ j = 3) → ¬ (4 ≤ i ∧ i ≤ 6 ∧ j = T 0 3) → ax_up (ax_up (ax_up (ax_up T 4 (T 0 3) v1) 5 (T 0 3) v2) 6 (T 0 3) v3) 0 3 (T 0 3 + 1) i j = T i j := fun i j x1 x2 => by rw [ax_up_no x1, ax_up_no (by omega), ax_up_no (by omega), ax_up_no (by omega)]
          refine ⟨⟨⟨?_, ?_, ?_, ?_, ?_⟩, fun c x y => ?_, fun c x y => ?_, fun c x y => ?_⟩, ?_⟩
          · rw [E _ _ (by omega) (by omega) (by omega), t0 _ _ (by omega) (by omega)]; exact a
          · rw [E _ _ (by omega) (by omega) (by omega), t0 _ _ (by omega) (by omega)]; exact a2
          · rw [ax_up_eq, ax_up_eq]
          · rw [E _ _ (by omega) (by omega) (by omega), t0 _ _ (by omega) (by omega)]; exact a4
          · rw [E _ _ (by omega) (by omega) (by omega), t0 _ _ (by omega) (by omega)]; exact a5
          · rw [E _ _ (by omega) (by omega) (by omega), t0 _ _ (by omega) (by omega)]; exact m2 c x y
          · rw [t0 0 2 (by omega) (by omega)] at y
            rw [E _ _ (by omega) (by omega) (by omega), E _ _ (by omega) (by omega) (by omega), t0 _ _ (by omega) (by omega), t0 _ _ (by omega) (by omega)]; exact m3 c x y
          · rw [ax_up_eq] at y
            by_cases u : c = T 0 3
            · subst u
              refine ⟨?_, ?_, ?_⟩
              · rw [ax_up_no (by omega), ax_up_no (by omega), f3 _ _ (by omega), ax_up_no (by omega), f2 _ _ (by omega), ax_up_eq, ax_up_no (by omega), ax_up_no (by omega), ax_up_no (by omega), ax_up_eq]
              · rw [ax_up_no (by omega), ax_up_no (by omega), f3 _ _ (by omega), ax_up_eq, ax_up_no (by omega), ax_up_no (by omega), ax_up_eq]
              · rw [ax_up_no (by omega), ax_up_eq, ax_up_no (by omega), ax_up_eq]
            · rw [E _ _ (by omega) (by omega) (by omega), E _ _ (by omega) (by omega) (by omega), E _ _ (by omega) (by omega) (by omega), t0 _ _ (by omega) (by omega), t0 _ _ (by omega) (by omega), t0 _ _ (by omega) (by omega)]; exact m4 c x (by omega)
          · rw [E24, p3]; rfl
        · rw [if_pos z3] at hq
          exact hq _ ⟨x3, B3, by rw [E24]; exact r3, by rw [E25]; exact F3, fun y => absurd y z3⟩
      · rw [if_pos z2] at hq
        rw [if_neg (by rw [F2]; exact z2)] at F3
        exact hq _ ⟨x3, B3, by rw [E24]; exact r3, by rw [E25, F3]; exact F2, fun y => absurd y z2⟩
    · rw [if_pos z1] at hq
      rw [if_neg z1] at F2
      rw [if_neg (by rw [F2]; exact z1)] at F3
      exact hq _ ⟨x3, B3, by rw [E24]; exact r3, by rw [E25, F3]; exact F2, fun y => absurd y z1⟩
  clear hq t f1 f2 f3 S1 S2 S3 x1 x2 x3 B1 B2 B3 c1 c2 c3
  simp (disch := omega) only [ax_ev, ax_kk, ax_ps, ax_r_const, ax_r_lconst, ax_r_str, ax_r_iload, ax_r_lload, ax_r_aload, ax_r_istore, ax_r_astore, ax_r_lstore, ax_r_iinc, ax_r_iadd, ax_r_isub, ax_r_imul, ax_r_idiv, ax_r_irem, ax_r_iand, ax_r_ior, ax_r_ishl, ax_r_ishr, ax_r_iushr, ax_r_i2l, ax_r_l2i, ax_r_i2b, ax_r_ladd, ax_r_lsub, ax_r_lmul, ax_r_ldiv, ax_r_lrem, ax_r_land, ax_r_lor, ax_r_lcmp, ax_r_ifeq, ax_r_ifne, ax_r_iflt, ax_r_ifge, ax_r_ifgt, ax_r_ifle, ax_r_iceq, ax_r_icne, ax_r_iclt, ax_r_icge, ax_r_icgt, ax_r_icle, ax_r_goto, ax_r_tsw, ax_evt_c, ax_evt_n, ax_r_lsw, ax_evu_c, ax_evu_n, ax_r_getI, ax_r_getR, ax_r_putI, ax_r_putZ, ax_r_iald, ax_r_iast, ax_r_lald, ax_r_last, ax_r_bald, ax_r_aald, ax_r_alen, ax_r_bast, ax_r_min, ax_r_max, ax_r_minl, ax_r_maxl, ax_r_copy, ax_r_slen, ax_r_schr, ax_r_dup, ax_r_dup2, ax_r_pop, ax_r_ret, ax_r_lret, ax_r_vret, ax_r_zret, ax_r_aret, ax_r_call, ax_evo, ax_eva, ax_ar, ax_tk, ax_ex, ax_ld, ax_sto, ax_stl, ly_pm, ly_cd, ly_ln, ly_rf, Option.bind_some, Option.map_some, if_true, if_false, true_and, and_true, List.nil_append, List.cons_append, List.append_nil, List.length_nil, List.length_cons, List.headD_cons, true_or, or_true, false_or, or_false, ne_eq, not_false_eq_true, not_true_eq_false, false_and, and_false, List.set_cons_zero, List.set_cons_succ, Nat.reduceAdd, Nat.reduceSub, Nat.reduceMul, Nat.reduceLeDiff, Nat.reduceLT, Nat.reduceEqDiff, ↓reduceIte, Int.reduceNeg, Int.reduceAdd, Int.reduceSub, Int.reduceMul, Int.reduceEq, Int.reduceNe, Int.reduceLE, Int.reduceLT, Int.reduceToNat, Nat.one_ne_zero, Nat.zero_ne_one, Int.cast_ofNat_Int, lc_lt, lc_ge, lc_gt, lc_le, lc_eq, lc_ne, w32i, w64i, tdv, tmd, ltT, ltF, leT, leF, eqT, eqF, dc_M_kilnPart, dc_M_orderPart, eo3]
  exact H
theorem wm_inj {b : Int → Int} {N s : Int} {w w' : List Int} (p : wm b N w s) (q : wm b N w' s) : w = w' := by
  have l : w.length = w'.length := by have := p.1; have := q.1; omega
  refine List.ext_getElem l fun i h1 h2 => ?_
  have a := p.2 i h1
  have c := q.2 i h2
  rw [a] at c
  rw [List.getD_eq_getElem?_getD, List.getD_eq_getElem?_getD, List.getElem?_eq_getElem h1, List.getElem?_eq_getElem h2] at c
  exact c
theorem wfind_s {b : Int → Int} {N s : Int} : ∀ (ws : List (List Int)) (k : Int), 0 ≤ k → (wfind b N s ws k = -1 ∧ ∀ i : Nat, i < ws.length → ¬ wm b N (ws.getD i []) s) ∨ (∃ i : Nat, i < ws.length ∧ wfind b N s ws k = k + i ∧ wm b N (ws.getD i []) s)
  | [], k, _ => .inl ⟨rfl, fun i h => absurd h (by simp)⟩
  | w :: ws, k, k0 => by
    have hf : wfind b N s (w :: ws) k = if wmI b N w s = 1 then k else wfind b N s ws (k + 1) := rfl
    rw [hf]
    by_cases p : wm b N w s
    · rw [if_pos (wmI_t p)]
      exact .inr ⟨0, by simp, by omega, p⟩
    · rw [if_neg (by rw [wmI_f p]; omega)]
      rcases wfind_s ws (k + 1) (by omega) with ⟨e, n⟩ | ⟨i, hi, e, m⟩
      · refine .inl ⟨e, fun i hi => ?_⟩
        cases i with
        | zero => exact p
        | succ i => exact n i (by simpa using hi)
      · exact .inr ⟨i + 1, by simpa using hi, by omega, m⟩
theorem WL_inj : ∀ i : Nat, i < 22 → ∀ k : Nat, k < 22 → WL.getD i [] = WL.getD k [] → i = k := by decide +kernel
theorem WL_pos : ∀ i : Nat, i < 22 → 0 < (WL.getD i []).length := by decide +kernel
theorem tkK_2 {b : Int → Int} {N s : Int} : tkK b N s = 2 ↔ (s < N ∧ 97 ≤ b s ∧ b s ≤ 122) := by
  unfold tkK
  by_cases z : N ≤ s
  · rw [if_pos z]; omega
  · rw [if_neg z]
    by_cases y : 48 ≤ b s ∧ b s ≤ 57
    · rw [if_pos y]; omega
    · rw [if_neg y]; split <;> omega
theorem wm_tk {b : Int → Int} {N s : Int} {k : Nat} (hk : k < 22) : wm b N (WL.getD k []) s ↔ (tkK b N s = 2 ∧ tkV b N s = k) := by
  have F := wfind_s (b := b) (N := N) (s := s) WL 0 (by omega)
  constructor
  · intro p
    have l := WL_pos k hk
    have k2 : tkK b N s = 2 := by
      have := (rnT_s isL b N s).2.1 s (by omega) (by rw [p.1]; omega)
      exact tkK_2.2 ⟨this.1, isL_t.1 this.2⟩
    refine ⟨k2, ?_⟩
    rw [tkV_2 k2]
    rcases F with ⟨e, n⟩ | ⟨i, hi, e, m⟩
    · exact absurd p (n k hk)
    · have := WL_inj i hi k hk (wm_inj m p)
      rw [e]; omega
  · intro p
    rw [tkV_2 p.1] at p
    rcases F with ⟨e, n⟩ | ⟨i, hi, e, m⟩
    · omega
    · have : i = k := by omega
      rw [← this]; exact m
theorem wid_kiln : wid (-18) (WL.getD 0 []) ∧ wid (-19) (WL.getD 1 []) ∧ wid (-20) (WL.getD 2 []) ∧ wid (-21) (WL.getD 3 []) ∧ wid (-22) (WL.getD 4 []) := by
  refine ⟨⟨by omega, by decide +kernel, by decide +kernel⟩, ⟨by omega, by decide +kernel, by decide +kernel⟩, ⟨by omega, by decide +kernel, by decide +kernel⟩, ⟨by omega, by decide +kernel, by decide +kernel⟩, ⟨by omega, by decide +kernel, by decide +kernel⟩⟩
