/-! rule: clauses in the reference -/
set_option maxRecDepth 100000 in
set_option maxHeartbeats 4000000 in
theorem m_goesF {b : Int → Int} {N F : Int} (t : tx b N) {g : Int → Int → Int} (m : tm b N g) (p0 : 0 ≤ g 124 24) (pN : g 124 24 ≤ N + 1) (gF : g 124 25 = F) (F0 : F ≠ 0) {d : Nat} {Q : ax_V → ax_H → Prop} (hq : ∀ g', am g g' → g' 124 25 = F → Q (0, 0) (L0, g')) : ax_Ev (d + 2) 174 0 [(2, 124), (9, 0)] [] (L0, g) Q := by
  by_cases z : g 124 24 ≤ N
  · exact m_goesOn t m p0 z gF (fun _ g' a b => hq g' a b) (fun y => absurd y F0) (fun y => absurd y F0)
  · have N4 := t.1
    have sg : sgn b N (g 124 24) = -1 := by unfold sgn; rw [if_neg (by omega)]
    have S := m_sign t m rfl p0 (d := d) (Q := ax_k (d + 1) 160 4 [(2, 124)] [] (ax_k (d + 2) 174 4 [(2, 124), (9, 0)] [] Q)) (by
      rw [ax_kk, sg]
      have H := hq (ax_up g 124 24 (g 124 24 + 1)) (fun k j e => ax_up_no (by omega)) (by rw [ax_up_no (by omega)]; exact gF)
      rw [← gF] at F0
      have nN := m.1
      clear hq t m
      simp (disch := omega) only [ax_ev, ax_kk, ax_ps, ax_r_const, ax_r_lconst, ax_r_str, ax_r_iload, ax_r_lload, ax_r_aload, ax_r_istore, ax_r_astore, ax_r_lstore, ax_r_iinc, ax_r_iadd, ax_r_isub, ax_r_imul, ax_r_idiv, ax_r_irem, ax_r_iand, ax_r_ior, ax_r_ishl, ax_r_ishr, ax_r_iushr, ax_r_i2l, ax_r_l2i, ax_r_i2b, ax_r_ladd, ax_r_lsub, ax_r_lmul, ax_r_ldiv, ax_r_lrem, ax_r_land, ax_r_lor, ax_r_lcmp, ax_r_ifeq, ax_r_ifne, ax_r_iflt, ax_r_ifge, ax_r_ifgt, ax_r_ifle, ax_r_iceq, ax_r_icne, ax_r_iclt, ax_r_icge, ax_r_icgt, ax_r_icle, ax_r_goto, ax_r_tsw, ax_evt_c, ax_evt_n, ax_r_lsw, ax_evu_c, ax_evu_n, ax_r_getI, ax_r_getR, ax_r_putI, ax_r_putZ, ax_r_iald, ax_r_iast, ax_r_lald, ax_r_last, ax_r_bald, ax_r_aald, ax_r_alen, ax_r_bast, ax_r_min, ax_r_max, ax_r_minl, ax_r_maxl, ax_r_copy, ax_r_slen, ax_r_schr, ax_r_dup, ax_r_dup2, ax_r_pop, ax_r_ret, ax_r_lret, ax_r_vret, ax_r_zret, ax_r_aret, ax_r_call, ax_evo, ax_eva, ax_ar, ax_tk, ax_ex, ax_ld, ax_sto, ax_stl, ly_pm, ly_cd, ly_ln, ly_rf, Option.bind_some, Option.map_some, if_true, if_false, true_and, and_true, List.nil_append, List.cons_append, List.append_nil, List.length_nil, List.length_cons, List.headD_cons, true_or, or_true, false_or, or_false, ne_eq, not_false_eq_true, not_true_eq_false, false_and, and_false, List.set_cons_zero, List.set_cons_succ, Nat.reduceAdd, Nat.reduceSub, Nat.reduceMul, Nat.reduceLeDiff, Nat.reduceLT, Nat.reduceEqDiff, ↓reduceIte, Int.reduceNeg, Int.reduceAdd, Int.reduceSub, Int.reduceMul, Int.reduceEq, Int.reduceNe, Int.reduceLE, Int.reduceLT, Int.reduceToNat, Nat.one_ne_zero, Nat.zero_ne_one, Int.cast_ofNat_Int, lc_lt, lc_ge, lc_gt, lc_le, lc_eq, lc_ne, w32i, w64i, tdv, tmd, ltT, ltF, leT, leF, eqT, eqF, dc_M_blanks, dc_M_goesOn, nN]
      exact H)
    clear hq t m
    simp (disch := omega) only [ax_ev, ax_kk, ax_ps, ax_r_const, ax_r_lconst, ax_r_str, ax_r_iload, ax_r_lload, ax_r_aload, ax_r_istore, ax_r_astore, ax_r_lstore, ax_r_iinc, ax_r_iadd, ax_r_isub, ax_r_imul, ax_r_idiv, ax_r_irem, ax_r_iand, ax_r_ior, ax_r_ishl, ax_r_ishr, ax_r_iushr, ax_r_i2l, ax_r_l2i, ax_r_i2b, ax_r_ladd, ax_r_lsub, ax_r_lmul, ax_r_ldiv, ax_r_lrem, ax_r_land, ax_r_lor, ax_r_lcmp, ax_r_ifeq, ax_r_ifne, ax_r_iflt, ax_r_ifge, ax_r_ifgt, ax_r_ifle, ax_r_iceq, ax_r_icne, ax_r_iclt, ax_r_icge, ax_r_icgt, ax_r_icle, ax_r_goto, ax_r_tsw, ax_evt_c, ax_evt_n, ax_r_lsw, ax_evu_c, ax_evu_n, ax_r_getI, ax_r_getR, ax_r_putI, ax_r_putZ, ax_r_iald, ax_r_iast, ax_r_lald, ax_r_last, ax_r_bald, ax_r_aald, ax_r_alen, ax_r_bast, ax_r_min, ax_r_max, ax_r_minl, ax_r_maxl, ax_r_copy, ax_r_slen, ax_r_schr, ax_r_dup, ax_r_dup2, ax_r_pop, ax_r_ret, ax_r_lret, ax_r_vret, ax_r_zret, ax_r_aret, ax_r_call, ax_evo, ax_eva, ax_ar, ax_tk, ax_ex, ax_ld, ax_sto, ax_stl, ly_pm, ly_cd, ly_ln, ly_rf, Option.bind_some, Option.map_some, if_true, if_false, true_and, and_true, List.nil_append, List.cons_append, List.append_nil, List.length_nil, List.length_cons, List.headD_cons, true_or, or_true, false_or, or_false, ne_eq, not_false_eq_true, not_true_eq_false, false_and, and_false, List.set_cons_zero, List.set_cons_succ, Nat.reduceAdd, Nat.reduceSub, Nat.reduceMul, Nat.reduceLeDiff, Nat.reduceLT, Nat.reduceEqDiff, ↓reduceIte, Int.reduceNeg, Int.reduceAdd, Int.reduceSub, Int.reduceMul, Int.reduceEq, Int.reduceNe, Int.reduceLE, Int.reduceLT, Int.reduceToNat, Nat.one_ne_zero, Nat.zero_ne_one, Int.cast_ofNat_Int, lc_lt, lc_ge, lc_gt, lc_le, lc_eq, lc_ne, w32i, w64i, tdv, tmd, ltT, ltF, leT, leF, eqT, eqF, dc_M_goesOn]
    rw [dh_M_blanks_0]
    simp (disch := omega) only [ax_ev, ax_kk, ax_ps, ax_r_const, ax_r_lconst, ax_r_str, ax_r_iload, ax_r_lload, ax_r_aload, ax_r_istore, ax_r_astore, ax_r_lstore, ax_r_iinc, ax_r_iadd, ax_r_isub, ax_r_imul, ax_r_idiv, ax_r_irem, ax_r_iand, ax_r_ior, ax_r_ishl, ax_r_ishr, ax_r_iushr, ax_r_i2l, ax_r_l2i, ax_r_i2b, ax_r_ladd, ax_r_lsub, ax_r_lmul, ax_r_ldiv, ax_r_lrem, ax_r_land, ax_r_lor, ax_r_lcmp, ax_r_ifeq, ax_r_ifne, ax_r_iflt, ax_r_ifge, ax_r_ifgt, ax_r_ifle, ax_r_iceq, ax_r_icne, ax_r_iclt, ax_r_icge, ax_r_icgt, ax_r_icle, ax_r_goto, ax_r_tsw, ax_evt_c, ax_evt_n, ax_r_lsw, ax_evu_c, ax_evu_n, ax_r_getI, ax_r_getR, ax_r_putI, ax_r_putZ, ax_r_iald, ax_r_iast, ax_r_lald, ax_r_last, ax_r_bald, ax_r_aald, ax_r_alen, ax_r_bast, ax_r_min, ax_r_max, ax_r_minl, ax_r_maxl, ax_r_copy, ax_r_slen, ax_r_schr, ax_r_dup, ax_r_dup2, ax_r_pop, ax_r_ret, ax_r_lret, ax_r_vret, ax_r_zret, ax_r_aret, ax_r_call, ax_evo, ax_eva, ax_ar, ax_tk, ax_ex, ax_ld, ax_sto, ax_stl, ly_pm, ly_cd, ly_ln, ly_rf, Option.bind_some, Option.map_some, if_true, if_false, true_and, and_true, List.nil_append, List.cons_append, List.append_nil, List.length_nil, List.length_cons, List.headD_cons, true_or, or_true, false_or, or_false, ne_eq, not_false_eq_true, not_true_eq_false, false_and, and_false, List.set_cons_zero, List.set_cons_succ, Nat.reduceAdd, Nat.reduceSub, Nat.reduceMul, Nat.reduceLeDiff, Nat.reduceLT, Nat.reduceEqDiff, ↓reduceIte, Int.reduceNeg, Int.reduceAdd, Int.reduceSub, Int.reduceMul, Int.reduceEq, Int.reduceNe, Int.reduceLE, Int.reduceLT, Int.reduceToNat, Nat.one_ne_zero, Nat.zero_ne_one, Int.cast_ofNat_Int, lc_lt, lc_ge, lc_gt, lc_le, lc_eq, lc_ne, w32i, w64i, tdv, tmd, ltT, ltF, leT, leF, eqT, eqF, dc_M_blanks]
    exact S
/-- a clause's entries: where they are and what they come to -/
def clM (g : Int → Int → Int) (r cl : Int) (x : Int × ((Int → Int) → Int) × ((Int → Int) → Int)) (M : List Int) : Prop := ∃ M0 ms mt M2 : List Int, M = M0 ++ ms ++ mt ++ M2 ∧ segs ms (fun F => [x.2.1 F]) 1 ∧ (g 151 (12 * r + cl) = M0.length ∧ g 152 (12 * r + cl) = (M0 ++ ms).length ∧ g 153 (12 * r + cl) = (M0 ++ ms ++ mt).length) ∧ ((x.1 = 0 ∧ mt = []) ∨ (x.1 = 1 ∧ mt ≠ [] ∧ segs mt (fun F => [x.2.2 F]) 1 ∧ bit x.2.2))
theorem clM_more {g g' : Int → Int → Int} {r cl : Int} {x : Int × ((Int → Int) → Int) × ((Int → Int) → Int)} {M : List Int} (h : clM g r cl x M) (e : ∀ k, 151 ≤ k → k ≤ 153 → g' k (12 * r + cl) = g k (12 * r + cl)) (M3 : List Int) : clM g' r cl x (M ++ M3) := by
  obtain ⟨M0, ms, mt, M2, h1, h2, ⟨h3, h4, h5⟩, h6⟩ := h
  exact ⟨M0, ms, mt, M2 ++ M3, by rw [h1, List.append_assoc], h2, ⟨by rw [e 151 (by omega) (by omega)]; exact h3, by rw [e 152 (by omega) (by omega)]; exact h4, by rw [e 153 (by omega) (by omega)]; exact h5⟩, h6⟩
def mrc (r cl : Int) (g g' : Int → Int → Int) : Prop := ∀ k j, ¬ (k = 124 ∧ (j = 24 ∨ j = 25 ∨ (28 ≤ j ∧ j ≤ 31))) → ¬ ((k = 148 ∨ k = 149) ∧ 300 * r ≤ j ∧ j < 300 * r + 300) → k ≠ 154 → ¬ ((151 ≤ k ∧ k ≤ 153) ∧ 12 * r + cl ≤ j ∧ j < 12 * r + 12) → g' k j = g k j
theorem mrc_of {r cl : Int} {a b : Int → Int → Int} (x : mrt r a b) : mrc r cl a b := fun k j e1 e2 e3 _ => x k j e1 e2 e3
theorem mrc_trans {r cl : Int} {a b c : Int → Int → Int} (x : mrc r cl a b) (y : mrc r cl b c) : mrc r cl a c := fun k j e1 e2 e3 e4 => by rw [y k j e1 e2 e3 e4]; exact x k j e1 e2 e3 e4
theorem mrc_up {r cl : Int} {a g : Int → Int → Int} (x : mrc r cl a g) {k j v : Int} (h : (k = 124 ∧ (j = 24 ∨ j = 25 ∨ (28 ≤ j ∧ j ≤ 31))) ∨ k = 154 ∨ ((151 ≤ k ∧ k ≤ 153) ∧ 12 * r + cl ≤ j ∧ j < 12 * r + 12)) : mrc r cl a (ax_up g k j v) := fun i c e1 e2 e3 e4 => by simp only [ax_up]; rw [if_neg (by omega)]; exact x i c e1 e2 e3 e4
theorem mQ_row {b : Int → Int} {N r : Int} {g : Int → Int → Int} {p c : Int} {M : List Int} (q : mQ b N r g p c M) {k j v : Int} (h : 151 ≤ k ∧ k ≤ 154) : mQ b N r (ax_up g k j v) p c M := by
  obtain ⟨⟨q1, q2, q3, q4⟩, ⟨q5, q6, q7⟩, q8⟩ := q
  refine ⟨⟨⟨by rw [ax_up_no (by omega)]; exact q1.1, fun j j0 j1 => by rw [ax_up_no (by omega)]; exact q1.2 j j0 j1⟩, by rw [ax_up_no (by omega)]; exact q2, by rw [ax_up_no (by omega)]; exact q3, by rw [ax_up_no (by omega)]; exact q4⟩, ⟨by rw [ax_up_no (by omega)]; exact q5, by rw [ax_up_no (by omega)]; exact q6, by rw [ax_up_no (by omega)]; exact q7⟩, fun i hi => ?_⟩
  rw [ax_up_no (by omega), ax_up_no (by omega)]; exact q8 i hi
theorem mQ_f {b : Int → Int} {N r : Int} {g : Int → Int → Int} {p c : Int} {M : List Int} (q : mQ b N r g p c M) {j v : Int} (h : j = 29 ∨ j = 31) : mQ b N r (ax_up g 124 j v) p c M := by
  obtain ⟨⟨q1, q2, q3, q4⟩, ⟨q5, q6, q7⟩, q8⟩ := q
  refine ⟨⟨⟨by rw [ax_up_no (by omega)]; exact q1.1, fun j j0 j1 => by rw [ax_up_no (by omega)]; exact q1.2 j j0 j1⟩, by rw [ax_up_no (by omega)]; exact q2, by rw [ax_up_no (by omega)]; exact q3, by rw [ax_up_no (by omega)]; exact q4⟩, ⟨by rw [ax_up_no (by omega)]; exact q5, by rw [ax_up_no (by omega)]; exact q6, by rw [ax_up_no (by omega)]; exact q7⟩, fun i hi => ?_⟩
  rw [ax_up_no (by omega), ax_up_no (by omega)]; exact q8 i hi
set_option maxRecDepth 100000 in
set_option maxHeartbeats 4000000 in
theorem m_cl {b : Int → Int} {N r : Int} (t : tx b N) (r0 : 0 ≤ r) (r6 : r < 6) {cl s c p : Int} (cl0 : 0 ≤ cl) (cl12 : cl ≤ 12) (c0 : 0 ≤ c) (c6 : c ≤ 60) (hsk : sk b N p = s) (p0 : 0 ≤ p) (pN : p ≤ N) {M1 : List Int} {g : Int → Int → Int} (q : mQ b N r g p c M1) (gd : g 124 29 = 0) (hl : 3 * (M1.length : Int) ≤ 6 * c + s) {Q : ax_V → ax_H → Prop}
    (hf : (pCl b N cl s c).1 ≠ 0 → ∀ g', mrc r cl g g' → g' 124 25 = (pCl b N cl s c).1 → 0 ≤ g' 124 24 ∧ g' 124 24 ≤ N + 1 → Q (9, 0) (L0, g'))
    (hs : (pCl b N cl s c).1 = 0 → ∀ (g' : Int → Int → Int) (m' : List Int) (p' : Int), mrc r cl g g' → mQ b N r g' p' (pCl b N cl s c).2.2.1 (M1 ++ m') → g' 124 29 = 0 → sk b N p' = (pCl b N cl s c).2.1 → 0 ≤ p' ∧ p' ≤ N → clM g' r cl (pCl b N cl s c).2.2.2 (M1 ++ m') → 3 * ((M1 ++ m').length : Int) ≤ 6 * (pCl b N cl s c).2.2.1 + (pCl b N cl s c).2.1 → (s + 1 ≤ (pCl b N cl s c).2.1 ∧ (pCl b N cl s c).2.1 ≤ N) → (0 ≤ (pCl b N cl s c).2.2.1 ∧ (pCl b N cl s c).2.2.1 ≤ 60) → Q (9, 0) (L0, g')) : ax_Ev (39) 178 0 [(2, 124), (0, cl), (9, 0), (9, 0)] [] (L0, g) Q := by
  have N4 := t.1
  have s0 := sk_ge b N p
  have sN := sk_le (b := b) pN
  rw [hsk] at s0 sN
  have s00 : 0 ≤ s := by omega
  unfold pCl at hf hs
  simp (disch := omega) only [ax_ev, ax_kk, ax_ps, ax_r_const, ax_r_lconst, ax_r_str, ax_r_iload, ax_r_lload, ax_r_aload, ax_r_istore, ax_r_astore, ax_r_lstore, ax_r_iinc, ax_r_iadd, ax_r_isub, ax_r_imul, ax_r_idiv, ax_r_irem, ax_r_iand, ax_r_ior, ax_r_ishl, ax_r_ishr, ax_r_iushr, ax_r_i2l, ax_r_l2i, ax_r_i2b, ax_r_ladd, ax_r_lsub, ax_r_lmul, ax_r_ldiv, ax_r_lrem, ax_r_land, ax_r_lor, ax_r_lcmp, ax_r_ifeq, ax_r_ifne, ax_r_iflt, ax_r_ifge, ax_r_ifgt, ax_r_ifle, ax_r_iceq, ax_r_icne, ax_r_iclt, ax_r_icge, ax_r_icgt, ax_r_icle, ax_r_goto, ax_r_tsw, ax_evt_c, ax_evt_n, ax_r_lsw, ax_evu_c, ax_evu_n, ax_r_getI, ax_r_getR, ax_r_putI, ax_r_putZ, ax_r_iald, ax_r_iast, ax_r_lald, ax_r_last, ax_r_bald, ax_r_aald, ax_r_alen, ax_r_bast, ax_r_min, ax_r_max, ax_r_minl, ax_r_maxl, ax_r_copy, ax_r_slen, ax_r_schr, ax_r_dup, ax_r_dup2, ax_r_pop, ax_r_ret, ax_r_lret, ax_r_vret, ax_r_zret, ax_r_aret, ax_r_call, ax_evo, ax_eva, ax_ar, ax_tk, ax_ex, ax_ld, ax_sto, ax_stl, ly_pm, ly_cd, ly_ln, ly_rf, Option.bind_some, Option.map_some, if_true, if_false, true_and, and_true, List.nil_append, List.cons_append, List.append_nil, List.length_nil, List.length_cons, List.headD_cons, true_or, or_true, false_or, or_false, ne_eq, not_false_eq_true, not_true_eq_false, false_and, and_false, List.set_cons_zero, List.set_cons_succ, Nat.reduceAdd, Nat.reduceSub, Nat.reduceMul, Nat.reduceLeDiff, Nat.reduceLT, Nat.reduceEqDiff, ↓reduceIte, Int.reduceNeg, Int.reduceAdd, Int.reduceSub, Int.reduceMul, Int.reduceEq, Int.reduceNe, Int.reduceLE, Int.reduceLT, Int.reduceToNat, Nat.one_ne_zero, Nat.zero_ne_one, Int.cast_ofNat_Int, lc_lt, lc_ge, lc_gt, lc_le, lc_eq, lc_ne, w32i, w64i, tdv, tmd, ltT, ltF, leT, leF, eqT, eqF, dc_M_ruleClause]
  refine m_blanks t q.1.1 q.1.2.1 p0 pN ?_
  intro g1 f1 e1
  rw [hsk] at e1
  have q1 := mQ_am q f1 e1
  have x1 : mrc r cl g g1 := mrc_of (mrt_am (mrt_refl r g) (fun k j e => f1 k j (by omega)))
  have gd1 : g1 124 29 = 0 := by rw [f1 _ _ (by omega)]; exact gd
  have W5 := wm_tk (b := b) (N := N) (s := s) (k := 5) (by omega)
  have F1 := q1.1.2.2.1
  rw [ax_kk]
  simp (disch := omega) only [ax_ev, ax_kk, ax_ps, ax_r_const, ax_r_lconst, ax_r_str, ax_r_iload, ax_r_lload, ax_r_aload, ax_r_istore, ax_r_astore, ax_r_lstore, ax_r_iinc, ax_r_iadd, ax_r_isub, ax_r_imul, ax_r_idiv, ax_r_irem, ax_r_iand, ax_r_ior, ax_r_ishl, ax_r_ishr, ax_r_iushr, ax_r_i2l, ax_r_l2i, ax_r_i2b, ax_r_ladd, ax_r_lsub, ax_r_lmul, ax_r_ldiv, ax_r_lrem, ax_r_land, ax_r_lor, ax_r_lcmp, ax_r_ifeq, ax_r_ifne, ax_r_iflt, ax_r_ifge, ax_r_ifgt, ax_r_ifle, ax_r_iceq, ax_r_icne, ax_r_iclt, ax_r_icge, ax_r_icgt, ax_r_icle, ax_r_goto, ax_r_tsw, ax_evt_c, ax_evt_n, ax_r_lsw, ax_evu_c, ax_evu_n, ax_r_getI, ax_r_getR, ax_r_putI, ax_r_putZ, ax_r_iald, ax_r_iast, ax_r_lald, ax_r_last, ax_r_bald, ax_r_aald, ax_r_alen, ax_r_bast, ax_r_min, ax_r_max, ax_r_minl, ax_r_maxl, ax_r_copy, ax_r_slen, ax_r_schr, ax_r_dup, ax_r_dup2, ax_r_pop, ax_r_ret, ax_r_lret, ax_r_vret, ax_r_zret, ax_r_aret, ax_r_call, ax_evo, ax_eva, ax_ar, ax_tk, ax_ex, ax_ld, ax_sto, ax_stl, ly_pm, ly_cd, ly_ln, ly_rf, Option.bind_some, Option.map_some, if_true, if_false, true_and, and_true, List.nil_append, List.cons_append, List.append_nil, List.length_nil, List.length_cons, List.headD_cons, true_or, or_true, false_or, or_false, ne_eq, not_false_eq_true, not_true_eq_false, false_and, and_false, List.set_cons_zero, List.set_cons_succ, Nat.reduceAdd, Nat.reduceSub, Nat.reduceMul, Nat.reduceLeDiff, Nat.reduceLT, Nat.reduceEqDiff, ↓reduceIte, Int.reduceNeg, Int.reduceAdd, Int.reduceSub, Int.reduceMul, Int.reduceEq, Int.reduceNe, Int.reduceLE, Int.reduceLT, Int.reduceToNat, Nat.one_ne_zero, Nat.zero_ne_one, Int.cast_ofNat_Int, lc_lt, lc_ge, lc_gt, lc_le, lc_eq, lc_ne, w32i, w64i, tdv, tmd, ltT, ltF, leT, leF, eqT, eqF, dc_M_ruleClause, e1]
  refine m_stood t q1.1.1 e1 s00 sN wid_not.2.2.2.1 (by decide) ?_
  rw [ax_kk]
  by_cases hd : tkK b N s = 2 ∧ tkV b N s = 5
  · rw [if_neg (by simpa using hd)] at hf hs
    have W := W5.2 ⟨hd.1, hd.2⟩
    have tb : tkB b N s = s + 4 := by rw [tkB_2 hd.1]; exact W.1
    have tb1 := tkB_le (b := b) sN
    have nx : sk b N (s + 4) = nxT b N s := by unfold nxT; rw [tb]
    obtain ⟨n0, n2⟩ := nxT_b (b := b) s00 sN
    have nxg : s + 4 ≤ nxT b N s := by rw [← nx]; exact sk_ge _ _ _
    rw [wmI_t W]
    by_cases c12 : 12 ≤ cl
    · rw [if_pos c12] at hf
      have H := hf (by simp only; omega) (ax_up g1 124 25 (1 + 8 * s + 4)) (mrc_up x1 (.inl ⟨rfl, by omega⟩)) (by rw [ax_up_eq]; simp only; omega) (by rw [ax_up_no (by omega), e1]; omega)
      have c12' : cl = 12 := by omega
      clear hf hs t q q1 x1 f1 W W5
      subst c12'
      simp (disch := omega) only [ax_ev, ax_kk, ax_ps, ax_r_const, ax_r_lconst, ax_r_str, ax_r_iload, ax_r_lload, ax_r_aload, ax_r_istore, ax_r_astore, ax_r_lstore, ax_r_iinc, ax_r_iadd, ax_r_isub, ax_r_imul, ax_r_idiv, ax_r_irem, ax_r_iand, ax_r_ior, ax_r_ishl, ax_r_ishr, ax_r_iushr, ax_r_i2l, ax_r_l2i, ax_r_i2b, ax_r_ladd, ax_r_lsub, ax_r_lmul, ax_r_ldiv, ax_r_lrem, ax_r_land, ax_r_lor, ax_r_lcmp, ax_r_ifeq, ax_r_ifne, ax_r_iflt, ax_r_ifge, ax_r_ifgt, ax_r_ifle, ax_r_iceq, ax_r_icne, ax_r_iclt, ax_r_icge, ax_r_icgt, ax_r_icle, ax_r_goto, ax_r_tsw, ax_evt_c, ax_evt_n, ax_r_lsw, ax_evu_c, ax_evu_n, ax_r_getI, ax_r_getR, ax_r_putI, ax_r_putZ, ax_r_iald, ax_r_iast, ax_r_lald, ax_r_last, ax_r_bald, ax_r_aald, ax_r_alen, ax_r_bast, ax_r_min, ax_r_max, ax_r_minl, ax_r_maxl, ax_r_copy, ax_r_slen, ax_r_schr, ax_r_dup, ax_r_dup2, ax_r_pop, ax_r_ret, ax_r_lret, ax_r_vret, ax_r_zret, ax_r_aret, ax_r_call, ax_evo, ax_eva, ax_ar, ax_tk, ax_ex, ax_ld, ax_sto, ax_stl, ly_pm, ly_cd, ly_ln, ly_rf, Option.bind_some, Option.map_some, if_true, if_false, true_and, and_true, List.nil_append, List.cons_append, List.append_nil, List.length_nil, List.length_cons, List.headD_cons, true_or, or_true, false_or, or_false, ne_eq, not_false_eq_true, not_true_eq_false, false_and, and_false, List.set_cons_zero, List.set_cons_succ, Nat.reduceAdd, Nat.reduceSub, Nat.reduceMul, Nat.reduceLeDiff, Nat.reduceLT, Nat.reduceEqDiff, ↓reduceIte, Int.reduceNeg, Int.reduceAdd, Int.reduceSub, Int.reduceMul, Int.reduceEq, Int.reduceNe, Int.reduceLE, Int.reduceLT, Int.reduceToNat, Nat.one_ne_zero, Nat.zero_ne_one, Int.cast_ofNat_Int, lc_lt, lc_ge, lc_gt, lc_le, lc_eq, lc_ne, w32i, w64i, tdv, tmd, ltT, ltF, leT, leF, eqT, eqF, dc_M_ruleClause, dc_M_fails, F1]
      exact H
    · rw [if_neg c12] at hf hs
      obtain ⟨G, hG⟩ : ∃ G, G = ax_up (ax_up g1 124 24 (s + 4)) 151 (12 * r + cl) M1.length := ⟨_, rfl⟩
      have q2 : mQ b N r G (s + 4) c M1 := by rw [hG]; exact mQ_row (mQ_up q1) (by omega)
      have x2 : mrc r cl g G := by rw [hG]; exact mrc_up (mrc_up x1 (.inl ⟨rfl, by omega⟩)) (.inr (.inr ⟨by omega, by omega, by omega⟩))
      have G151 : G 151 (12 * r + cl) = M1.length := by rw [hG, ax_up_eq]
      have gdG : G 124 29 = 0 := by rw [hG, ax_up_no (by omega), ax_up_no (by omega)]; exact gd1
      have SM := fun Q' => m_sum t r0 r6 (vs := fun _ => []) (n := 0) (M1 := M1) (E := 0) (by omega) (d := 33) (Q := Q') (p := s + 4) (s := nxT b N s) (c := c) nx (by omega) (by omega) c0 c6 (m := []) (g := G) segs_nil (by rw [List.append_nil]; exact q2) (by rw [List.append_nil]; omega)
      have TT := m_tst t r0 r6 11
      have slot := q1.2.1.1
      have ent := q1.2.1.2.1
      have sl1 : ax_up g1 124 24 (s + 4) 124 26 = r := by rw [ax_up_no (by omega)]; exact slot
      have en1 : ax_up g1 124 24 (s + 4) 124 28 = M1.length := by rw [ax_up_no (by omega)]; exact ent
      generalize pSum b N (nxT b N s) c = R at *
      obtain ⟨f, s', c', V⟩ := R
      dsimp only at *
      have K : ax_Ev (38) 179 0 [(2, 124), (9, 0)] [] (L0, G) (ax_k 39 178 73 [(2, 124), (0, cl), (0, s), (0, 12 * r + cl)] [] Q) := by
        refine SM _ (fun z => ?_) (fun z => ?_)
        · rw [if_pos z] at hf
          intro g3 y1 y2 y3
          have H := hf z (ax_up (ax_up g3 152 (12 * r + cl) (g3 124 28)) 153 (12 * r + cl) (g3 124 28)) (mrc_up (mrc_up (mrc_trans x2 (mrc_of (mrt_mrf (mrt_refl r G) y1))) (.inr (.inr ⟨by omega, by omega, by omega⟩))) (.inr (.inr ⟨by omega, by omega, by omega⟩))) (by rw [ax_up_no (by omega), ax_up_no (by omega)]; exact y2) (by rw [ax_up_no (by omega), ax_up_no (by omega)]; omega)
          have e3 : ax_up g3 152 (12 * r + cl) (g3 124 28) 124 28 = g3 124 28 := ax_up_no (by omega)
          have F3 : ax_up g3 152 (12 * r + cl) (g3 124 28) 124 25 = g3 124 25 := ax_up_no (by omega)
          rw [← y2] at z
          rw [ax_kk]
          clear hf hs t q q1 q2 x1 x2 f1 W W5 SM TT y1
          simp (disch := omega) only [ax_ev, ax_kk, ax_ps, ax_r_const, ax_r_lconst, ax_r_str, ax_r_iload, ax_r_lload, ax_r_aload, ax_r_istore, ax_r_astore, ax_r_lstore, ax_r_iinc, ax_r_iadd, ax_r_isub, ax_r_imul, ax_r_idiv, ax_r_irem, ax_r_iand, ax_r_ior, ax_r_ishl, ax_r_ishr, ax_r_iushr, ax_r_i2l, ax_r_l2i, ax_r_i2b, ax_r_ladd, ax_r_lsub, ax_r_lmul, ax_r_ldiv, ax_r_lrem, ax_r_land, ax_r_lor, ax_r_lcmp, ax_r_ifeq, ax_r_ifne, ax_r_iflt, ax_r_ifge, ax_r_ifgt, ax_r_ifle, ax_r_iceq, ax_r_icne, ax_r_iclt, ax_r_icge, ax_r_icgt, ax_r_icle, ax_r_goto, ax_r_tsw, ax_evt_c, ax_evt_n, ax_r_lsw, ax_evu_c, ax_evu_n, ax_r_getI, ax_r_getR, ax_r_putI, ax_r_putZ, ax_r_iald, ax_r_iast, ax_r_lald, ax_r_last, ax_r_bald, ax_r_aald, ax_r_alen, ax_r_bast, ax_r_min, ax_r_max, ax_r_minl, ax_r_maxl, ax_r_copy, ax_r_slen, ax_r_schr, ax_r_dup, ax_r_dup2, ax_r_pop, ax_r_ret, ax_r_lret, ax_r_vret, ax_r_zret, ax_r_aret, ax_r_call, ax_evo, ax_eva, ax_ar, ax_tk, ax_ex, ax_ld, ax_sto, ax_stl, ly_pm, ly_cd, ly_ln, ly_rf, Option.bind_some, Option.map_some, if_true, if_false, true_and, and_true, List.nil_append, List.cons_append, List.append_nil, List.length_nil, List.length_cons, List.headD_cons, true_or, or_true, false_or, or_false, ne_eq, not_false_eq_true, not_true_eq_false, false_and, and_false, List.set_cons_zero, List.set_cons_succ, Nat.reduceAdd, Nat.reduceSub, Nat.reduceMul, Nat.reduceLeDiff, Nat.reduceLT, Nat.reduceEqDiff, ↓reduceIte, Int.reduceNeg, Int.reduceAdd, Int.reduceSub, Int.reduceMul, Int.reduceEq, Int.reduceNe, Int.reduceLE, Int.reduceLT, Int.reduceToNat, Nat.one_ne_zero, Nat.zero_ne_one, Int.cast_ofNat_Int, lc_lt, lc_ge, lc_gt, lc_le, lc_eq, lc_ne, w32i, w64i, tdv, tmd, ltT, ltF, leT, leF, eqT, eqF, dc_M_ruleClause, e3, F3]
          exact H
        · rw [if_neg (by omega)] at hf hs
          unfold SUMR
          dsimp only
          intro g3 m3 y1 y2 y3 y4 y5 y6 y7
          have s0' : 0 ≤ s' := by omega
          have len3 := y3.2.1.2.1
          obtain ⟨G3, hG3⟩ : ∃ G, G = ax_up g3 152 (12 * r + cl) (M1 ++ m3).length := ⟨_, rfl⟩
          have q4 : mQ b N r G3 s' c' (M1 ++ m3) := by rw [hG3]; exact mQ_row y3 (by omega)
          have x4 : mrc r cl g G3 := by rw [hG3]; exact mrc_up (mrc_trans x2 (mrc_of (mrt_mrf (mrt_refl r G) y1))) (.inr (.inr ⟨by omega, by omega, by omega⟩))
          have r151 : G3 151 (12 * r + cl) = M1.length := by rw [hG3, ax_up_no (by omega), y1 _ _ (by omega) (by omega)]; exact G151
          have r152 : G3 152 (12 * r + cl) = (M1 ++ m3).length := by rw [hG3, ax_up_eq]
          have gd4 : G3 124 29 = 0 := by rw [hG3, ax_up_no (by omega), y1 _ _ (by omega) (by omega)]; exact gdG
          have F4 := q4.1.2.2.1
          have e4 := q4.1.2.1
          have W6 := wm_tk (b := b) (N := N) (s := s') (k := 6) (by omega)
          have K2 : ax_Ev (37) 160 0 [(2, 124)] [] (L0, G3) (ax_k 38 185 4 [(2, 124), (2, -24), (9, 0)] [] (ax_k 39 178 97 [(2, 124), (0, cl), (0, s), (0, 12 * r + cl)] [] Q)) := by
            refine m_blanks t q4.1.1 e4 s0' y5.2 ?_
            intro g5 f5 e5
            rw [y7] at e5
            have q5 := mQ_am q4 f5 e5
            have x5 : mrc r cl g g5 := mrc_trans x4 (mrc_of (mrt_am (mrt_refl r G3) (fun k j e => f5 k j (by omega))))
            have r151' : g5 151 (12 * r + cl) = M1.length := by rw [f5 _ _ (by omega)]; exact r151
            have r152' : g5 152 (12 * r + cl) = (M1 ++ m3).length := by rw [f5 _ _ (by omega)]; exact r152
            have gd5 : g5 124 29 = 0 := by rw [f5 _ _ (by omega)]; exact gd4
            have sl6 : ax_slen (-24) = 2 := by decide +kernel
            have sbb : ax_Sb.length = 23 := rfl
            rw [ax_kk]
            simp (disch := omega) only [ax_ev, ax_kk, ax_ps, ax_r_const, ax_r_lconst, ax_r_str, ax_r_iload, ax_r_lload, ax_r_aload, ax_r_istore, ax_r_astore, ax_r_lstore, ax_r_iinc, ax_r_iadd, ax_r_isub, ax_r_imul, ax_r_idiv, ax_r_irem, ax_r_iand, ax_r_ior, ax_r_ishl, ax_r_ishr, ax_r_iushr, ax_r_i2l, ax_r_l2i, ax_r_i2b, ax_r_ladd, ax_r_lsub, ax_r_lmul, ax_r_ldiv, ax_r_lrem, ax_r_land, ax_r_lor, ax_r_lcmp, ax_r_ifeq, ax_r_ifne, ax_r_iflt, ax_r_ifge, ax_r_ifgt, ax_r_ifle, ax_r_iceq, ax_r_icne, ax_r_iclt, ax_r_icge, ax_r_icgt, ax_r_icle, ax_r_goto, ax_r_tsw, ax_evt_c, ax_evt_n, ax_r_lsw, ax_evu_c, ax_evu_n, ax_r_getI, ax_r_getR, ax_r_putI, ax_r_putZ, ax_r_iald, ax_r_iast, ax_r_lald, ax_r_last, ax_r_bald, ax_r_aald, ax_r_alen, ax_r_bast, ax_r_min, ax_r_max, ax_r_minl, ax_r_maxl, ax_r_copy, ax_r_slen, ax_r_schr, ax_r_dup, ax_r_dup2, ax_r_pop, ax_r_ret, ax_r_lret, ax_r_vret, ax_r_zret, ax_r_aret, ax_r_call, ax_evo, ax_eva, ax_ar, ax_tk, ax_ex, ax_ld, ax_sto, ax_stl, ly_pm, ly_cd, ly_ln, ly_rf, Option.bind_some, Option.map_some, if_true, if_false, true_and, and_true, List.nil_append, List.cons_append, List.append_nil, List.length_nil, List.length_cons, List.headD_cons, true_or, or_true, false_or, or_false, ne_eq, not_false_eq_true, not_true_eq_false, false_and, and_false, List.set_cons_zero, List.set_cons_succ, Nat.reduceAdd, Nat.reduceSub, Nat.reduceMul, Nat.reduceLeDiff, Nat.reduceLT, Nat.reduceEqDiff, ↓reduceIte, Int.reduceNeg, Int.reduceAdd, Int.reduceSub, Int.reduceMul, Int.reduceEq, Int.reduceNe, Int.reduceLE, Int.reduceLT, Int.reduceToNat, Nat.one_ne_zero, Nat.zero_ne_one, Int.cast_ofNat_Int, lc_lt, lc_ge, lc_gt, lc_le, lc_eq, lc_ne, w32i, w64i, tdv, tmd, ltT, ltF, leT, leF, eqT, eqF, dc_M_takes]
            refine m_stood t q5.1.1 e5 s0' y5.2 wid_not.2.2.2.2 (by decide) ?_
            rw [ax_kk]
            by_cases iw : tkK b N s' = 2 ∧ tkV b N s' = 6
            · rw [if_pos iw] at hf hs
              have W' := W6.2 ⟨iw.1, iw.2⟩
              have tb' : tkB b N s' = s' + 2 := by rw [tkB_2 iw.1]; exact W'.1
              have tb1' := tkB_le (b := b) y5.2
              have nx' : sk b N (s' + 2) = nxT b N s' := by unfold nxT; rw [tb']
              obtain ⟨mx0, mxN⟩ := nxT_b (b := b) s0' y5.2
              have nxg' : s' + 2 ≤ nxT b N s' := by rw [← nx']; exact sk_ge _ _ _
              obtain ⟨G6, hG6⟩ : ∃ G, G = ax_up (ax_up g5 124 24 (s' + 2)) 124 31 0 := ⟨_, rfl⟩
              have q6 : mQ b N r G6 (s' + 2) c' (M1 ++ m3) := by rw [hG6]; exact mQ_f (mQ_up q5) (.inr rfl)
              have x6 : mrc r cl g G6 := by rw [hG6]; exact mrc_up (mrc_up x5 (.inl ⟨rfl, by omega⟩)) (.inl ⟨rfl, by omega⟩)
              have mt6 : mT b N r G6 (s' + 2) c' (M1 ++ m3 ++ []) [] 0 := by
                rw [List.append_nil]
                exact ⟨q6, by rw [hG6, ax_up_no (by omega), ax_up_no (by omega)]; exact gd5, by rw [hG6, ax_up_eq]; rfl, fun i hi => absurd hi (by simp)⟩
              have r151'' : G6 151 (12 * r + cl) = M1.length := by rw [hG6, ax_up_no (by omega), ax_up_no (by omega)]; exact r151'
              have r152'' : G6 152 (12 * r + cl) = (M1 ++ m3).length := by rw [hG6, ax_up_no (by omega), ax_up_no (by omega)]; exact r152'
              have TT' := TT 0 (nxT b N s') c' (s' + 2) (fun _ => []) 0 (M1 ++ m3) 0 [] [] G6 (9, 0) (9, 0) (ax_k 39 178 104 [(2, 124), (0, cl), (0, s), (0, 12 * r + cl)] [] Q) (by omega) (by omega) (by omega) (by omega) y6.2 nx' (by omega) (by omega) (by omega) segs_nil mt6 (by rw [List.append_nil]; omega) (by simp; omega) (by simp) (.inl rfl)
              generalize pTe b N 11 0 (nxT b N s') c' = R2 at *
              obtain ⟨f2, s2, c2, P⟩ := R2
              dsimp only at *
              have KT := TT' (fun z2 => by
                  rw [if_pos z2] at hf
                  intro g7 w1 w2 w3
                  have H := hf z2 (ax_up g7 153 (12 * r + cl) (g7 124 28)) (mrc_up (mrc_trans x6 (mrc_of w1)) (.inr (.inr ⟨by omega, by omega, by omega⟩))) (by rw [ax_up_no (by omega)]; exact w2) (by rw [ax_up_no (by omega)]; omega)
                  rw [ax_kk]
                  clear hf hs t q q1 q2 x1 x2 f1 W W5 SM TT TT' y1 y2 y3 q4 x4 W6 f5 q5 x5 W' q6 x6 mt6 w1
                  simp (disch := omega) only [ax_ev, ax_kk, ax_ps, ax_r_const, ax_r_lconst, ax_r_str, ax_r_iload, ax_r_lload, ax_r_aload, ax_r_istore, ax_r_astore, ax_r_lstore, ax_r_iinc, ax_r_iadd, ax_r_isub, ax_r_imul, ax_r_idiv, ax_r_irem, ax_r_iand, ax_r_ior, ax_r_ishl, ax_r_ishr, ax_r_iushr, ax_r_i2l, ax_r_l2i, ax_r_i2b, ax_r_ladd, ax_r_lsub, ax_r_lmul, ax_r_ldiv, ax_r_lrem, ax_r_land, ax_r_lor, ax_r_lcmp, ax_r_ifeq, ax_r_ifne, ax_r_iflt, ax_r_ifge, ax_r_ifgt, ax_r_ifle, ax_r_iceq, ax_r_icne, ax_r_iclt, ax_r_icge, ax_r_icgt, ax_r_icle, ax_r_goto, ax_r_tsw, ax_evt_c, ax_evt_n, ax_r_lsw, ax_evu_c, ax_evu_n, ax_r_getI, ax_r_getR, ax_r_putI, ax_r_putZ, ax_r_iald, ax_r_iast, ax_r_lald, ax_r_last, ax_r_bald, ax_r_aald, ax_r_alen, ax_r_bast, ax_r_min, ax_r_max, ax_r_minl, ax_r_maxl, ax_r_copy, ax_r_slen, ax_r_schr, ax_r_dup, ax_r_dup2, ax_r_pop, ax_r_ret, ax_r_lret, ax_r_vret, ax_r_zret, ax_r_aret, ax_r_call, ax_evo, ax_eva, ax_ar, ax_tk, ax_ex, ax_ld, ax_sto, ax_stl, ly_pm, ly_cd, ly_ln, ly_rf, Option.bind_some, Option.map_some, if_true, if_false, true_and, and_true, List.nil_append, List.cons_append, List.append_nil, List.length_nil, List.length_cons, List.headD_cons, true_or, or_true, false_or, or_false, ne_eq, not_false_eq_true, not_true_eq_false, false_and, and_false, List.set_cons_zero, List.set_cons_succ, Nat.reduceAdd, Nat.reduceSub, Nat.reduceMul, Nat.reduceLeDiff, Nat.reduceLT, Nat.reduceEqDiff, ↓reduceIte, Int.reduceNeg, Int.reduceAdd, Int.reduceSub, Int.reduceMul, Int.reduceEq, Int.reduceNe, Int.reduceLE, Int.reduceLT, Int.reduceToNat, Nat.one_ne_zero, Nat.zero_ne_one, Int.cast_ofNat_Int, lc_lt, lc_ge, lc_gt, lc_le, lc_eq, lc_ne, w32i, w64i, tdv, tmd, ltT, ltF, leT, leF, eqT, eqF, dc_M_ruleClause]
                  exact H) (fun z2 => by
                  rw [if_neg (by omega)] at hs
                  dsimp only at hs
                  unfold SUT
                  dsimp only
                  intro g7 m7 l3 l4 w1 w2 w3 w4 w5 w6 w7 w8
                  have len7 : g7 124 28 = (M1 ++ m3 ++ m7).length := w3.1.2.1.2.1
                  have ne7 : m7 ≠ [] := fun h => by
                    have := w2.2.1 0
                    rw [h] at this
                    simp [dpt] at this
                  have H := hs rfl (ax_up g7 153 (12 * r + cl) (M1 ++ m3 ++ m7).length) (m3 ++ m7) s2 (mrc_up (mrc_trans x6 (mrc_of w1)) (.inr (.inr ⟨by omega, by omega, by omega⟩))) (by rw [← List.append_assoc]; exact mQ_row w3.1 (by omega)) (by rw [ax_up_no (by omega)]; exact w3.2.1) w7 (by omega) (by
                    rw [← List.append_assoc]
                    refine ⟨M1, m3, m7, [], by rw [List.append_nil], y2, ⟨?_, ?_, ?_⟩, .inr ⟨rfl, ne7, w2, w8⟩⟩
                    · rw [ax_up_no (by omega), w1 _ _ (by omega) (by omega) (by omega)]; exact r151''
                    · rw [ax_up_no (by omega), w1 _ _ (by omega) (by omega) (by omega)]; exact r152''
                    · rw [ax_up_eq]) (by rw [← List.append_assoc]; omega) (by omega) (by omega)
                  have o7 : g7 124 31 = 0 := w3.2.2.1
                  clear hf hs t q q1 q2 x1 x2 f1 W W5 SM TT TT' y1 y2 y3 q4 x4 W6 f5 q5 x5 W' q6 x6 mt6 w1 w2 w3
                  simp (disch := omega) only [ax_ev, ax_kk, ax_ps, ax_r_const, ax_r_lconst, ax_r_str, ax_r_iload, ax_r_lload, ax_r_aload, ax_r_istore, ax_r_astore, ax_r_lstore, ax_r_iinc, ax_r_iadd, ax_r_isub, ax_r_imul, ax_r_idiv, ax_r_irem, ax_r_iand, ax_r_ior, ax_r_ishl, ax_r_ishr, ax_r_iushr, ax_r_i2l, ax_r_l2i, ax_r_i2b, ax_r_ladd, ax_r_lsub, ax_r_lmul, ax_r_ldiv, ax_r_lrem, ax_r_land, ax_r_lor, ax_r_lcmp, ax_r_ifeq, ax_r_ifne, ax_r_iflt, ax_r_ifge, ax_r_ifgt, ax_r_ifle, ax_r_iceq, ax_r_icne, ax_r_iclt, ax_r_icge, ax_r_icgt, ax_r_icle, ax_r_goto, ax_r_tsw, ax_evt_c, ax_evt_n, ax_r_lsw, ax_evu_c, ax_evu_n, ax_r_getI, ax_r_getR, ax_r_putI, ax_r_putZ, ax_r_iald, ax_r_iast, ax_r_lald, ax_r_last, ax_r_bald, ax_r_aald, ax_r_alen, ax_r_bast, ax_r_min, ax_r_max, ax_r_minl, ax_r_maxl, ax_r_copy, ax_r_slen, ax_r_schr, ax_r_dup, ax_r_dup2, ax_r_pop, ax_r_ret, ax_r_lret, ax_r_vret, ax_r_zret, ax_r_aret, ax_r_call, ax_evo, ax_eva, ax_ar, ax_tk, ax_ex, ax_ld, ax_sto, ax_stl, ly_pm, ly_cd, ly_ln, ly_rf, Option.bind_some, Option.map_some, if_true, if_false, true_and, and_true, List.nil_append, List.cons_append, List.append_nil, List.length_nil, List.length_cons, List.headD_cons, true_or, or_true, false_or, or_false, ne_eq, not_false_eq_true, not_true_eq_false, false_and, and_false, List.set_cons_zero, List.set_cons_succ, Nat.reduceAdd, Nat.reduceSub, Nat.reduceMul, Nat.reduceLeDiff, Nat.reduceLT, Nat.reduceEqDiff, ↓reduceIte, Int.reduceNeg, Int.reduceAdd, Int.reduceSub, Int.reduceMul, Int.reduceEq, Int.reduceNe, Int.reduceLE, Int.reduceLT, Int.reduceToNat, Nat.one_ne_zero, Nat.zero_ne_one, Int.cast_ofNat_Int, lc_lt, lc_ge, lc_gt, lc_le, lc_eq, lc_ne, w32i, w64i, tdv, tmd, ltT, ltF, leT, leF, eqT, eqF, dc_M_test, dc_M_top, o7]
                  rw [dh_M_test_9]
                  simp (disch := omega) only [ax_ev, ax_kk, ax_ps, ax_r_const, ax_r_lconst, ax_r_str, ax_r_iload, ax_r_lload, ax_r_aload, ax_r_istore, ax_r_astore, ax_r_lstore, ax_r_iinc, ax_r_iadd, ax_r_isub, ax_r_imul, ax_r_idiv, ax_r_irem, ax_r_iand, ax_r_ior, ax_r_ishl, ax_r_ishr, ax_r_iushr, ax_r_i2l, ax_r_l2i, ax_r_i2b, ax_r_ladd, ax_r_lsub, ax_r_lmul, ax_r_ldiv, ax_r_lrem, ax_r_land, ax_r_lor, ax_r_lcmp, ax_r_ifeq, ax_r_ifne, ax_r_iflt, ax_r_ifge, ax_r_ifgt, ax_r_ifle, ax_r_iceq, ax_r_icne, ax_r_iclt, ax_r_icge, ax_r_icgt, ax_r_icle, ax_r_goto, ax_r_tsw, ax_evt_c, ax_evt_n, ax_r_lsw, ax_evu_c, ax_evu_n, ax_r_getI, ax_r_getR, ax_r_putI, ax_r_putZ, ax_r_iald, ax_r_iast, ax_r_lald, ax_r_last, ax_r_bald, ax_r_aald, ax_r_alen, ax_r_bast, ax_r_min, ax_r_max, ax_r_minl, ax_r_maxl, ax_r_copy, ax_r_slen, ax_r_schr, ax_r_dup, ax_r_dup2, ax_r_pop, ax_r_ret, ax_r_lret, ax_r_vret, ax_r_zret, ax_r_aret, ax_r_call, ax_evo, ax_eva, ax_ar, ax_tk, ax_ex, ax_ld, ax_sto, ax_stl, ly_pm, ly_cd, ly_ln, ly_rf, Option.bind_some, Option.map_some, if_true, if_false, true_and, and_true, List.nil_append, List.cons_append, List.append_nil, List.length_nil, List.length_cons, List.headD_cons, true_or, or_true, false_or, or_false, ne_eq, not_false_eq_true, not_true_eq_false, false_and, and_false, List.set_cons_zero, List.set_cons_succ, Nat.reduceAdd, Nat.reduceSub, Nat.reduceMul, Nat.reduceLeDiff, Nat.reduceLT, Nat.reduceEqDiff, ↓reduceIte, Int.reduceNeg, Int.reduceAdd, Int.reduceSub, Int.reduceMul, Int.reduceEq, Int.reduceNe, Int.reduceLE, Int.reduceLT, Int.reduceToNat, Nat.one_ne_zero, Nat.zero_ne_one, Int.cast_ofNat_Int, lc_lt, lc_ge, lc_gt, lc_le, lc_eq, lc_ne, w32i, w64i, tdv, tmd, ltT, ltF, leT, leF, eqT, eqF, dc_M_test, dc_M_ruleClause, len7]
                  exact H)
              rw [wmI_t W']
              rw [hG6] at KT
              clear hf hs t q q1 q2 x1 x2 f1 W W5 SM TT TT' y1 y2 y3 q4 x4 W6 f5 q5 x5 W' q6 x6 mt6
              simp (disch := omega) only [ax_ev, ax_kk, ax_ps, ax_r_const, ax_r_lconst, ax_r_str, ax_r_iload, ax_r_lload, ax_r_aload, ax_r_istore, ax_r_astore, ax_r_lstore, ax_r_iinc, ax_r_iadd, ax_r_isub, ax_r_imul, ax_r_idiv, ax_r_irem, ax_r_iand, ax_r_ior, ax_r_ishl, ax_r_ishr, ax_r_iushr, ax_r_i2l, ax_r_l2i, ax_r_i2b, ax_r_ladd, ax_r_lsub, ax_r_lmul, ax_r_ldiv, ax_r_lrem, ax_r_land, ax_r_lor, ax_r_lcmp, ax_r_ifeq, ax_r_ifne, ax_r_iflt, ax_r_ifge, ax_r_ifgt, ax_r_ifle, ax_r_iceq, ax_r_icne, ax_r_iclt, ax_r_icge, ax_r_icgt, ax_r_icle, ax_r_goto, ax_r_tsw, ax_evt_c, ax_evt_n, ax_r_lsw, ax_evu_c, ax_evu_n, ax_r_getI, ax_r_getR, ax_r_putI, ax_r_putZ, ax_r_iald, ax_r_iast, ax_r_lald, ax_r_last, ax_r_bald, ax_r_aald, ax_r_alen, ax_r_bast, ax_r_min, ax_r_max, ax_r_minl, ax_r_maxl, ax_r_copy, ax_r_slen, ax_r_schr, ax_r_dup, ax_r_dup2, ax_r_pop, ax_r_ret, ax_r_lret, ax_r_vret, ax_r_zret, ax_r_aret, ax_r_call, ax_evo, ax_eva, ax_ar, ax_tk, ax_ex, ax_ld, ax_sto, ax_stl, ly_pm, ly_cd, ly_ln, ly_rf, Option.bind_some, Option.map_some, if_true, if_false, true_and, and_true, List.nil_append, List.cons_append, List.append_nil, List.length_nil, List.length_cons, List.headD_cons, true_or, or_true, false_or, or_false, ne_eq, not_false_eq_true, not_true_eq_false, false_and, and_false, List.set_cons_zero, List.set_cons_succ, Nat.reduceAdd, Nat.reduceSub, Nat.reduceMul, Nat.reduceLeDiff, Nat.reduceLT, Nat.reduceEqDiff, ↓reduceIte, Int.reduceNeg, Int.reduceAdd, Int.reduceSub, Int.reduceMul, Int.reduceEq, Int.reduceNe, Int.reduceLE, Int.reduceLT, Int.reduceToNat, Nat.one_ne_zero, Nat.zero_ne_one, Int.cast_ofNat_Int, lc_lt, lc_ge, lc_gt, lc_le, lc_eq, lc_ne, w32i, w64i, tdv, tmd, ltT, ltF, leT, leF, eqT, eqF, dc_M_takes, dc_M_ruleClause, dc_M_test, e5, sl6, sbb]
              exact KT
            · rw [if_neg iw] at hs
              dsimp only at hs
              have len5 : g5 124 28 = (M1 ++ m3).length := q5.2.1.2.1
              have up5 : ∀ v, v = s' → ax_up g5 124 24 v = g5 := fun v hv => by
                funext k j; simp only [ax_up]; split
                · rename_i y; rw [y.1, y.2, e5, hv]
                · rfl
              have H := hs rfl (ax_up g5 153 (12 * r + cl) (M1 ++ m3).length) m3 s' (mrc_up x5 (.inr (.inr ⟨by omega, by omega, by omega⟩))) (mQ_row q5 (by omega)) (by rw [ax_up_no (by omega)]; exact gd5) y7 (by omega) ⟨M1, m3, [], [], by simp, y2, ⟨by rw [ax_up_no (by omega)]; exact r151', by rw [ax_up_no (by omega)]; exact r152', by rw [ax_up_eq, List.append_nil]⟩, .inl ⟨rfl, rfl⟩⟩ (by omega) (by omega) (by omega)
              rw [wmI_f (fun z => iw (by have := W6.1 z; exact ⟨this.1, by omega⟩))]
              have up5' := up5 (s' + 0) (by omega)
              clear hf hs t q q1 q2 x1 x2 f1 W W5 SM TT y1 y2 y3 q4 x4 W6 f5 q5 x5 up5
              simp (disch := omega) only [ax_ev, ax_kk, ax_ps, ax_r_const, ax_r_lconst, ax_r_str, ax_r_iload, ax_r_lload, ax_r_aload, ax_r_istore, ax_r_astore, ax_r_lstore, ax_r_iinc, ax_r_iadd, ax_r_isub, ax_r_imul, ax_r_idiv, ax_r_irem, ax_r_iand, ax_r_ior, ax_r_ishl, ax_r_ishr, ax_r_iushr, ax_r_i2l, ax_r_l2i, ax_r_i2b, ax_r_ladd, ax_r_lsub, ax_r_lmul, ax_r_ldiv, ax_r_lrem, ax_r_land, ax_r_lor, ax_r_lcmp, ax_r_ifeq, ax_r_ifne, ax_r_iflt, ax_r_ifge, ax_r_ifgt, ax_r_ifle, ax_r_iceq, ax_r_icne, ax_r_iclt, ax_r_icge, ax_r_icgt, ax_r_icle, ax_r_goto, ax_r_tsw, ax_evt_c, ax_evt_n, ax_r_lsw, ax_evu_c, ax_evu_n, ax_r_getI, ax_r_getR, ax_r_putI, ax_r_putZ, ax_r_iald, ax_r_iast, ax_r_lald, ax_r_last, ax_r_bald, ax_r_aald, ax_r_alen, ax_r_bast, ax_r_min, ax_r_max, ax_r_minl, ax_r_maxl, ax_r_copy, ax_r_slen, ax_r_schr, ax_r_dup, ax_r_dup2, ax_r_pop, ax_r_ret, ax_r_lret, ax_r_vret, ax_r_zret, ax_r_aret, ax_r_call, ax_evo, ax_eva, ax_ar, ax_tk, ax_ex, ax_ld, ax_sto, ax_stl, ly_pm, ly_cd, ly_ln, ly_rf, Option.bind_some, Option.map_some, if_true, if_false, true_and, and_true, List.nil_append, List.cons_append, List.append_nil, List.length_nil, List.length_cons, List.headD_cons, true_or, or_true, false_or, or_false, ne_eq, not_false_eq_true, not_true_eq_false, false_and, and_false, List.set_cons_zero, List.set_cons_succ, Nat.reduceAdd, Nat.reduceSub, Nat.reduceMul, Nat.reduceLeDiff, Nat.reduceLT, Nat.reduceEqDiff, ↓reduceIte, Int.reduceNeg, Int.reduceAdd, Int.reduceSub, Int.reduceMul, Int.reduceEq, Int.reduceNe, Int.reduceLE, Int.reduceLT, Int.reduceToNat, Nat.one_ne_zero, Nat.zero_ne_one, Int.cast_ofNat_Int, lc_lt, lc_ge, lc_gt, lc_le, lc_eq, lc_ne, w32i, w64i, tdv, tmd, ltT, ltF, leT, leF, eqT, eqF, dc_M_takes, dc_M_ruleClause, e5, len5, up5']
              exact H
          rw [hG3] at K2 F4
          rw [ax_kk]
          clear hf hs t q q1 q2 x1 x2 f1 W W5 SM TT y1 y2 y3 q4 x4 W6
          simp (disch := omega) only [ax_ev, ax_kk, ax_ps, ax_r_const, ax_r_lconst, ax_r_str, ax_r_iload, ax_r_lload, ax_r_aload, ax_r_istore, ax_r_astore, ax_r_lstore, ax_r_iinc, ax_r_iadd, ax_r_isub, ax_r_imul, ax_r_idiv, ax_r_irem, ax_r_iand, ax_r_ior, ax_r_ishl, ax_r_ishr, ax_r_iushr, ax_r_i2l, ax_r_l2i, ax_r_i2b, ax_r_ladd, ax_r_lsub, ax_r_lmul, ax_r_ldiv, ax_r_lrem, ax_r_land, ax_r_lor, ax_r_lcmp, ax_r_ifeq, ax_r_ifne, ax_r_iflt, ax_r_ifge, ax_r_ifgt, ax_r_ifle, ax_r_iceq, ax_r_icne, ax_r_iclt, ax_r_icge, ax_r_icgt, ax_r_icle, ax_r_goto, ax_r_tsw, ax_evt_c, ax_evt_n, ax_r_lsw, ax_evu_c, ax_evu_n, ax_r_getI, ax_r_getR, ax_r_putI, ax_r_putZ, ax_r_iald, ax_r_iast, ax_r_lald, ax_r_last, ax_r_bald, ax_r_aald, ax_r_alen, ax_r_bast, ax_r_min, ax_r_max, ax_r_minl, ax_r_maxl, ax_r_copy, ax_r_slen, ax_r_schr, ax_r_dup, ax_r_dup2, ax_r_pop, ax_r_ret, ax_r_lret, ax_r_vret, ax_r_zret, ax_r_aret, ax_r_call, ax_evo, ax_eva, ax_ar, ax_tk, ax_ex, ax_ld, ax_sto, ax_stl, ly_pm, ly_cd, ly_ln, ly_rf, Option.bind_some, Option.map_some, if_true, if_false, true_and, and_true, List.nil_append, List.cons_append, List.append_nil, List.length_nil, List.length_cons, List.headD_cons, true_or, or_true, false_or, or_false, ne_eq, not_false_eq_true, not_true_eq_false, false_and, and_false, List.set_cons_zero, List.set_cons_succ, Nat.reduceAdd, Nat.reduceSub, Nat.reduceMul, Nat.reduceLeDiff, Nat.reduceLT, Nat.reduceEqDiff, ↓reduceIte, Int.reduceNeg, Int.reduceAdd, Int.reduceSub, Int.reduceMul, Int.reduceEq, Int.reduceNe, Int.reduceLE, Int.reduceLT, Int.reduceToNat, Nat.one_ne_zero, Nat.zero_ne_one, Int.cast_ofNat_Int, lc_lt, lc_ge, lc_gt, lc_le, lc_eq, lc_ne, w32i, w64i, tdv, tmd, ltT, ltF, leT, leF, eqT, eqF, dc_M_ruleClause, dc_M_takes, len3, F4]
          exact K2
      rw [hG] at K
      have dm : 12 * r = 12 * r := rfl
      clear hf hs t q q1 q2 x1 x2 f1 W W5 SM TT
      simp (disch := omega) only [ax_ev, ax_kk, ax_ps, ax_r_const, ax_r_lconst, ax_r_str, ax_r_iload, ax_r_lload, ax_r_aload, ax_r_istore, ax_r_astore, ax_r_lstore, ax_r_iinc, ax_r_iadd, ax_r_isub, ax_r_imul, ax_r_idiv, ax_r_irem, ax_r_iand, ax_r_ior, ax_r_ishl, ax_r_ishr, ax_r_iushr, ax_r_i2l, ax_r_l2i, ax_r_i2b, ax_r_ladd, ax_r_lsub, ax_r_lmul, ax_r_ldiv, ax_r_lrem, ax_r_land, ax_r_lor, ax_r_lcmp, ax_r_ifeq, ax_r_ifne, ax_r_iflt, ax_r_ifge, ax_r_ifgt, ax_r_ifle, ax_r_iceq, ax_r_icne, ax_r_iclt, ax_r_icge, ax_r_icgt, ax_r_icle, ax_r_goto, ax_r_tsw, ax_evt_c, ax_evt_n, ax_r_lsw, ax_evu_c, ax_evu_n, ax_r_getI, ax_r_getR, ax_r_putI, ax_r_putZ, ax_r_iald, ax_r_iast, ax_r_lald, ax_r_last, ax_r_bald, ax_r_aald, ax_r_alen, ax_r_bast, ax_r_min, ax_r_max, ax_r_minl, ax_r_maxl, ax_r_copy, ax_r_slen, ax_r_schr, ax_r_dup, ax_r_dup2, ax_r_pop, ax_r_ret, ax_r_lret, ax_r_vret, ax_r_zret, ax_r_aret, ax_r_call, ax_evo, ax_eva, ax_ar, ax_tk, ax_ex, ax_ld, ax_sto, ax_stl, ly_pm, ly_cd, ly_ln, ly_rf, Option.bind_some, Option.map_some, if_true, if_false, true_and, and_true, List.nil_append, List.cons_append, List.append_nil, List.length_nil, List.length_cons, List.headD_cons, true_or, or_true, false_or, or_false, ne_eq, not_false_eq_true, not_true_eq_false, false_and, and_false, List.set_cons_zero, List.set_cons_succ, Nat.reduceAdd, Nat.reduceSub, Nat.reduceMul, Nat.reduceLeDiff, Nat.reduceLT, Nat.reduceEqDiff, ↓reduceIte, Int.reduceNeg, Int.reduceAdd, Int.reduceSub, Int.reduceMul, Int.reduceEq, Int.reduceNe, Int.reduceLE, Int.reduceLT, Int.reduceToNat, Nat.one_ne_zero, Nat.zero_ne_one, Int.cast_ofNat_Int, lc_lt, lc_ge, lc_gt, lc_le, lc_eq, lc_ne, w32i, w64i, tdv, tmd, ltT, ltF, leT, leF, eqT, eqF, dc_M_ruleClause, e1, slot, sl1, en1]
      exact K
  · rw [if_pos hd] at hf
    have H := hf (by simp only; omega) (ax_up g1 124 25 (1 + 8 * s + 0)) (mrc_up x1 (.inl ⟨rfl, by omega⟩)) (by rw [ax_up_eq]; simp only; omega) (by rw [ax_up_no (by omega), e1]; omega)
    rw [wmI_f (fun z => hd (by have := W5.1 z; exact ⟨this.1, by omega⟩))]
    clear hf hs t q q1 x1 f1 W5
    simp (disch := omega) only [ax_ev, ax_kk, ax_ps, ax_r_const, ax_r_lconst, ax_r_str, ax_r_iload, ax_r_lload, ax_r_aload, ax_r_istore, ax_r_astore, ax_r_lstore, ax_r_iinc, ax_r_iadd, ax_r_isub, ax_r_imul, ax_r_idiv, ax_r_irem, ax_r_iand, ax_r_ior, ax_r_ishl, ax_r_ishr, ax_r_iushr, ax_r_i2l, ax_r_l2i, ax_r_i2b, ax_r_ladd, ax_r_lsub, ax_r_lmul, ax_r_ldiv, ax_r_lrem, ax_r_land, ax_r_lor, ax_r_lcmp, ax_r_ifeq, ax_r_ifne, ax_r_iflt, ax_r_ifge, ax_r_ifgt, ax_r_ifle, ax_r_iceq, ax_r_icne, ax_r_iclt, ax_r_icge, ax_r_icgt, ax_r_icle, ax_r_goto, ax_r_tsw, ax_evt_c, ax_evt_n, ax_r_lsw, ax_evu_c, ax_evu_n, ax_r_getI, ax_r_getR, ax_r_putI, ax_r_putZ, ax_r_iald, ax_r_iast, ax_r_lald, ax_r_last, ax_r_bald, ax_r_aald, ax_r_alen, ax_r_bast, ax_r_min, ax_r_max, ax_r_minl, ax_r_maxl, ax_r_copy, ax_r_slen, ax_r_schr, ax_r_dup, ax_r_dup2, ax_r_pop, ax_r_ret, ax_r_lret, ax_r_vret, ax_r_zret, ax_r_aret, ax_r_call, ax_evo, ax_eva, ax_ar, ax_tk, ax_ex, ax_ld, ax_sto, ax_stl, ly_pm, ly_cd, ly_ln, ly_rf, Option.bind_some, Option.map_some, if_true, if_false, true_and, and_true, List.nil_append, List.cons_append, List.append_nil, List.length_nil, List.length_cons, List.headD_cons, true_or, or_true, false_or, or_false, ne_eq, not_false_eq_true, not_true_eq_false, false_and, and_false, List.set_cons_zero, List.set_cons_succ, Nat.reduceAdd, Nat.reduceSub, Nat.reduceMul, Nat.reduceLeDiff, Nat.reduceLT, Nat.reduceEqDiff, ↓reduceIte, Int.reduceNeg, Int.reduceAdd, Int.reduceSub, Int.reduceMul, Int.reduceEq, Int.reduceNe, Int.reduceLE, Int.reduceLT, Int.reduceToNat, Nat.one_ne_zero, Nat.zero_ne_one, Int.cast_ofNat_Int, lc_lt, lc_ge, lc_gt, lc_le, lc_eq, lc_ne, w32i, w64i, tdv, tmd, ltT, ltF, leT, leF, eqT, eqF, dc_M_ruleClause, dc_M_fails, F1]
    exact H
def clD : Int × ((Int → Int) → Int) × ((Int → Int) → Int) := (0, fun _ => 0, fun _ => 0)
theorem mrc_le {r cl : Int} {a b : Int → Int → Int} (x : mrc r (cl + 1) a b) : mrc r cl a b := fun k j e1 e2 e3 e4 => x k j e1 e2 e3 (by omega)
theorem mrc_am {r cl : Int} {a b c : Int → Int → Int} (x : mrc r cl a b) (y : am b c) : mrc r cl a c := fun k j e1 e2 e3 e4 => by rw [y k j (by omega)]; exact x k j e1 e2 e3 e4
theorem tm_mrc {b : Int → Int} {N r cl : Int} {g g' : Int → Int → Int} (m : tm b N g) (x : mrc r cl g g') : tm b N g' := ⟨by rw [x _ _ (by omega) (by omega) (by omega) (by omega)]; exact m.1, fun j j0 j1 => by rw [x _ _ (by omega) (by omega) (by omega) (by omega)]; exact m.2 j j0 j1⟩
set_option maxRecDepth 100000 in
set_option maxHeartbeats 4000000 in
theorem m_rl {b : Int → Int} {N r : Int} (t : tx b N) (r0 : 0 ≤ r) (r6 : r < 6) {Q : ax_V → ax_H → Prop} : ∀ (k : Nat) (cl s c p : Int) (M1 : List Int) (g : Int → Int → Int), cl + k = 13 → 1 ≤ k → 0 ≤ cl → 0 ≤ c → c ≤ 60 → sk b N p = s → 0 ≤ p → p ≤ N → mQ b N r g p c M1 → g 124 29 = 0 → 3 * (M1.length : Int) ≤ 6 * c + s →
    ((pRl b N k cl s c).1 ≠ 0 → ∀ (g' : Int → Int → Int) (n : Int), mrc r cl g g' → g' 124 25 = (pRl b N k cl s c).1 → 0 ≤ n ∧ n ≤ 100 → ax_Ev 40 177 27 [(2, 124), (0, n), (0, 0)] [] (L0, g') Q) →
    ((pRl b N k cl s c).1 = 0 → ∀ (g' : Int → Int → Int) (m' : List Int), mrc r cl g g' → g' 124 25 = 0 → (∀ i : Nat, i < (M1 ++ m').length → g' 148 (300 * r + i) = msO ((M1 ++ m').getD i 0 % 32) ∧ g' 149 (300 * r + i) = (M1 ++ m').getD i 0 / 32) → (M1 ++ m').length < 300 → (∀ i : Nat, i < (pRl b N k cl s c).2.length → clM g' r (cl + i) ((pRl b N k cl s c).2.getD i clD) (M1 ++ m')) → cl + (pRl b N k cl s c).2.length ≤ 12 → ax_Ev 40 177 27 [(2, 124), (0, cl + (pRl b N k cl s c).2.length), (0, 0)] [] (L0, g') Q) →
    ax_Ev 40 177 27 [(2, 124), (0, cl), (0, 1)] [] (L0, g) Q
  | 0, cl, s, c, p, M1, g, _, h1, _, _, _, _, _, _, _, _, _, _, _ => by omega
  | k + 1, cl, s, c, p, M1, g, hk, _, cl0, c0, c6, hsk, p0, pN, q, gd, hl, hf, hs => by
    have N4 := t.1
    have s0 : 0 ≤ s := by have := sk_ge b N p; omega
    have IH := m_rl t r0 r6 (Q := Q) k
    have PE : pRl b N (k + 1) cl s c = if (pCl b N cl s c).1 ≠ 0 then ((pCl b N cl s c).1, []) else if tkK b N (pCl b N cl s c).2.1 = 0 then (0, [(pCl b N cl s c).2.2.2]) else if tkK b N (pCl b N cl s c).2.1 = 3 ∧ tkV b N (pCl b N cl s c).2.1 = 59 then ((pRl b N k (cl + 1) (nxT b N (pCl b N cl s c).2.1) (pCl b N cl s c).2.2.1).1, (pCl b N cl s c).2.2.2 :: (pRl b N k (cl + 1) (nxT b N (pCl b N cl s c).2.1) (pCl b N cl s c).2.2.1).2) else (1 + 8 * (pCl b N cl s c).2.1, []) := rfl
    rw [PE] at hf hs
    clear PE
    have CC := fun Q' => m_cl t r0 r6 cl0 (by omega : cl ≤ 12) c0 c6 hsk p0 pN q gd hl (Q := Q')
    have K12 : (pCl b N cl s c).1 = 0 → cl < 12 := by
      intro z
      unfold pCl at z
      split at z
      · simp only at z; omega
      · split at z
        · simp only at z; omega
        · omega
    generalize pCl b N cl s c = X at *
    obtain ⟨f, s', c', x⟩ := X
    dsimp only at *
    rw [ax_ev, dh_M_rule_27]
    simp (disch := omega) only [ax_ev, ax_kk, ax_ps, ax_r_const, ax_r_lconst, ax_r_str, ax_r_iload, ax_r_lload, ax_r_aload, ax_r_istore, ax_r_astore, ax_r_lstore, ax_r_iinc, ax_r_iadd, ax_r_isub, ax_r_imul, ax_r_idiv, ax_r_irem, ax_r_iand, ax_r_ior, ax_r_ishl, ax_r_ishr, ax_r_iushr, ax_r_i2l, ax_r_l2i, ax_r_i2b, ax_r_ladd, ax_r_lsub, ax_r_lmul, ax_r_ldiv, ax_r_lrem, ax_r_land, ax_r_lor, ax_r_lcmp, ax_r_ifeq, ax_r_ifne, ax_r_iflt, ax_r_ifge, ax_r_ifgt, ax_r_ifle, ax_r_iceq, ax_r_icne, ax_r_iclt, ax_r_icge, ax_r_icgt, ax_r_icle, ax_r_goto, ax_r_tsw, ax_evt_c, ax_evt_n, ax_r_lsw, ax_evu_c, ax_evu_n, ax_r_getI, ax_r_getR, ax_r_putI, ax_r_putZ, ax_r_iald, ax_r_iast, ax_r_lald, ax_r_last, ax_r_bald, ax_r_aald, ax_r_alen, ax_r_bast, ax_r_min, ax_r_max, ax_r_minl, ax_r_maxl, ax_r_copy, ax_r_slen, ax_r_schr, ax_r_dup, ax_r_dup2, ax_r_pop, ax_r_ret, ax_r_lret, ax_r_vret, ax_r_zret, ax_r_aret, ax_r_call, ax_evo, ax_eva, ax_ar, ax_tk, ax_ex, ax_ld, ax_sto, ax_stl, ly_pm, ly_cd, ly_ln, ly_rf, Option.bind_some, Option.map_some, if_true, if_false, true_and, and_true, List.nil_append, List.cons_append, List.append_nil, List.length_nil, List.length_cons, List.headD_cons, true_or, or_true, false_or, or_false, ne_eq, not_false_eq_true, not_true_eq_false, false_and, and_false, List.set_cons_zero, List.set_cons_succ, Nat.reduceAdd, Nat.reduceSub, Nat.reduceMul, Nat.reduceLeDiff, Nat.reduceLT, Nat.reduceEqDiff, ↓reduceIte, Int.reduceNeg, Int.reduceAdd, Int.reduceSub, Int.reduceMul, Int.reduceEq, Int.reduceNe, Int.reduceLE, Int.reduceLT, Int.reduceToNat, Nat.one_ne_zero, Nat.zero_ne_one, Int.cast_ofNat_Int, lc_lt, lc_ge, lc_gt, lc_le, lc_eq, lc_ne, w32i, w64i, tdv, tmd, ltT, ltF, leT, leF, eqT, eqF, dc_M_rule]
    refine CC _ (fun z g1 x1 x2 x3 => ?_) (fun z g1 m1 p1 x1 x2 x3 x4 x5 x6 x7 x8 x9 => ?_)
    · rw [if_pos z] at hf
      dsimp only at hf
      rw [ax_kk]
      simp (disch := omega) only [ax_ev, ax_kk, ax_ps, ax_r_const, ax_r_lconst, ax_r_str, ax_r_iload, ax_r_lload, ax_r_aload, ax_r_istore, ax_r_astore, ax_r_lstore, ax_r_iinc, ax_r_iadd, ax_r_isub, ax_r_imul, ax_r_idiv, ax_r_irem, ax_r_iand, ax_r_ior, ax_r_ishl, ax_r_ishr, ax_r_iushr, ax_r_i2l, ax_r_l2i, ax_r_i2b, ax_r_ladd, ax_r_lsub, ax_r_lmul, ax_r_ldiv, ax_r_lrem, ax_r_land, ax_r_lor, ax_r_lcmp, ax_r_ifeq, ax_r_ifne, ax_r_iflt, ax_r_ifge, ax_r_ifgt, ax_r_ifle, ax_r_iceq, ax_r_icne, ax_r_iclt, ax_r_icge, ax_r_icgt, ax_r_icle, ax_r_goto, ax_r_tsw, ax_evt_c, ax_evt_n, ax_r_lsw, ax_evu_c, ax_evu_n, ax_r_getI, ax_r_getR, ax_r_putI, ax_r_putZ, ax_r_iald, ax_r_iast, ax_r_lald, ax_r_last, ax_r_bald, ax_r_aald, ax_r_alen, ax_r_bast, ax_r_min, ax_r_max, ax_r_minl, ax_r_maxl, ax_r_copy, ax_r_slen, ax_r_schr, ax_r_dup, ax_r_dup2, ax_r_pop, ax_r_ret, ax_r_lret, ax_r_vret, ax_r_zret, ax_r_aret, ax_r_call, ax_evo, ax_eva, ax_ar, ax_tk, ax_ex, ax_ld, ax_sto, ax_stl, ly_pm, ly_cd, ly_ln, ly_rf, Option.bind_some, Option.map_some, if_true, if_false, true_and, and_true, List.nil_append, List.cons_append, List.append_nil, List.length_nil, List.length_cons, List.headD_cons, true_or, or_true, false_or, or_false, ne_eq, not_false_eq_true, not_true_eq_false, false_and, and_false, List.set_cons_zero, List.set_cons_succ, Nat.reduceAdd, Nat.reduceSub, Nat.reduceMul, Nat.reduceLeDiff, Nat.reduceLT, Nat.reduceEqDiff, ↓reduceIte, Int.reduceNeg, Int.reduceAdd, Int.reduceSub, Int.reduceMul, Int.reduceEq, Int.reduceNe, Int.reduceLE, Int.reduceLT, Int.reduceToNat, Nat.one_ne_zero, Nat.zero_ne_one, Int.cast_ofNat_Int, lc_lt, lc_ge, lc_gt, lc_le, lc_eq, lc_ne, w32i, w64i, tdv, tmd, ltT, ltF, leT, leF, eqT, eqF, dc_M_rule]
      refine m_goesF t (tm_mrc q.1.1 x1) x3.1 x3.2 x2 z ?_
      intro g2 a2 e2
      have H := hf z g2 (cl + 1) (mrc_am x1 a2) e2 (by omega)
      rw [ax_kk]
      clear hf hs IH CC t q x1 a2
      simp (disch := omega) only [ax_ev, ax_kk, ax_ps, ax_r_const, ax_r_lconst, ax_r_str, ax_r_iload, ax_r_lload, ax_r_aload, ax_r_istore, ax_r_astore, ax_r_lstore, ax_r_iinc, ax_r_iadd, ax_r_isub, ax_r_imul, ax_r_idiv, ax_r_irem, ax_r_iand, ax_r_ior, ax_r_ishl, ax_r_ishr, ax_r_iushr, ax_r_i2l, ax_r_l2i, ax_r_i2b, ax_r_ladd, ax_r_lsub, ax_r_lmul, ax_r_ldiv, ax_r_lrem, ax_r_land, ax_r_lor, ax_r_lcmp, ax_r_ifeq, ax_r_ifne, ax_r_iflt, ax_r_ifge, ax_r_ifgt, ax_r_ifle, ax_r_iceq, ax_r_icne, ax_r_iclt, ax_r_icge, ax_r_icgt, ax_r_icle, ax_r_goto, ax_r_tsw, ax_evt_c, ax_evt_n, ax_r_lsw, ax_evu_c, ax_evu_n, ax_r_getI, ax_r_getR, ax_r_putI, ax_r_putZ, ax_r_iald, ax_r_iast, ax_r_lald, ax_r_last, ax_r_bald, ax_r_aald, ax_r_alen, ax_r_bast, ax_r_min, ax_r_max, ax_r_minl, ax_r_maxl, ax_r_copy, ax_r_slen, ax_r_schr, ax_r_dup, ax_r_dup2, ax_r_pop, ax_r_ret, ax_r_lret, ax_r_vret, ax_r_zret, ax_r_aret, ax_r_call, ax_evo, ax_eva, ax_ar, ax_tk, ax_ex, ax_ld, ax_sto, ax_stl, ly_pm, ly_cd, ly_ln, ly_rf, Option.bind_some, Option.map_some, if_true, if_false, true_and, and_true, List.nil_append, List.cons_append, List.append_nil, List.length_nil, List.length_cons, List.headD_cons, true_or, or_true, false_or, or_false, ne_eq, not_false_eq_true, not_true_eq_false, false_and, and_false, List.set_cons_zero, List.set_cons_succ, Nat.reduceAdd, Nat.reduceSub, Nat.reduceMul, Nat.reduceLeDiff, Nat.reduceLT, Nat.reduceEqDiff, ↓reduceIte, Int.reduceNeg, Int.reduceAdd, Int.reduceSub, Int.reduceMul, Int.reduceEq, Int.reduceNe, Int.reduceLE, Int.reduceLT, Int.reduceToNat, Nat.one_ne_zero, Nat.zero_ne_one, Int.cast_ofNat_Int, lc_lt, lc_ge, lc_gt, lc_le, lc_eq, lc_ne, w32i, w64i, tdv, tmd, ltT, ltF, leT, leF, eqT, eqF, dc_M_rule]
      exact H
    · rw [if_neg (by omega)] at hf hs
      have c12 := K12 z
      have s0' : 0 ≤ s' := by omega
      clear CC
      rw [ax_kk]
      simp (disch := omega) only [ax_ev, ax_kk, ax_ps, ax_r_const, ax_r_lconst, ax_r_str, ax_r_iload, ax_r_lload, ax_r_aload, ax_r_istore, ax_r_astore, ax_r_lstore, ax_r_iinc, ax_r_iadd, ax_r_isub, ax_r_imul, ax_r_idiv, ax_r_irem, ax_r_iand, ax_r_ior, ax_r_ishl, ax_r_ishr, ax_r_iushr, ax_r_i2l, ax_r_l2i, ax_r_i2b, ax_r_ladd, ax_r_lsub, ax_r_lmul, ax_r_ldiv, ax_r_lrem, ax_r_land, ax_r_lor, ax_r_lcmp, ax_r_ifeq, ax_r_ifne, ax_r_iflt, ax_r_ifge, ax_r_ifgt, ax_r_ifle, ax_r_iceq, ax_r_icne, ax_r_iclt, ax_r_icge, ax_r_icgt, ax_r_icle, ax_r_goto, ax_r_tsw, ax_evt_c, ax_evt_n, ax_r_lsw, ax_evu_c, ax_evu_n, ax_r_getI, ax_r_getR, ax_r_putI, ax_r_putZ, ax_r_iald, ax_r_iast, ax_r_lald, ax_r_last, ax_r_bald, ax_r_aald, ax_r_alen, ax_r_bast, ax_r_min, ax_r_max, ax_r_minl, ax_r_maxl, ax_r_copy, ax_r_slen, ax_r_schr, ax_r_dup, ax_r_dup2, ax_r_pop, ax_r_ret, ax_r_lret, ax_r_vret, ax_r_zret, ax_r_aret, ax_r_call, ax_evo, ax_eva, ax_ar, ax_tk, ax_ex, ax_ld, ax_sto, ax_stl, ly_pm, ly_cd, ly_ln, ly_rf, Option.bind_some, Option.map_some, if_true, if_false, true_and, and_true, List.nil_append, List.cons_append, List.append_nil, List.length_nil, List.length_cons, List.headD_cons, true_or, or_true, false_or, or_false, ne_eq, not_false_eq_true, not_true_eq_false, false_and, and_false, List.set_cons_zero, List.set_cons_succ, Nat.reduceAdd, Nat.reduceSub, Nat.reduceMul, Nat.reduceLeDiff, Nat.reduceLT, Nat.reduceEqDiff, ↓reduceIte, Int.reduceNeg, Int.reduceAdd, Int.reduceSub, Int.reduceMul, Int.reduceEq, Int.reduceNe, Int.reduceLE, Int.reduceLT, Int.reduceToNat, Nat.one_ne_zero, Nat.zero_ne_one, Int.cast_ofNat_Int, lc_lt, lc_ge, lc_gt, lc_le, lc_eq, lc_ne, w32i, w64i, tdv, tmd, ltT, ltF, leT, leF, eqT, eqF, dc_M_rule]
      have len1 : (M1 ++ m1).length < 300 := by omega
      refine m_goesOn t x2.1.1 (by rw [x2.1.2.1]; exact x5.1) (by rw [x2.1.2.1]; exact x5.2) x2.1.2.2.1 (fun y g2 a2 e2 => ?_) (fun _ y g2 a2 e2 e3 => ?_) (fun _ y y2 g2 a2 e2 => ?_)
      · have y' : tkK b N s' = 0 := by
          rcases y with y | y
          · exact absurd rfl y
          · rw [x2.1.2.1, x4] at y; exact y
        rw [if_pos y'] at hs
        dsimp only at hs
        have H := hs rfl g2 m1 (mrc_am x1 a2) e2 (fun i hi => by rw [a2 _ _ (by omega), a2 _ _ (by omega)]; exact x2.2.2 i hi) len1 (fun i hi => by
          have : i = 0 := by simpa using hi
          subst this
          have := clM_more x6 (g' := g2) (fun k _ _ => a2 _ _ (by omega)) []
          simpa using this) (by simp; omega)
        rw [ax_kk]
        clear hf hs IH t q x1 x2 x6 a2
        simp only [List.length_singleton] at H
        simp (disch := omega) only [ax_ev, ax_kk, ax_ps, ax_r_const, ax_r_lconst, ax_r_str, ax_r_iload, ax_r_lload, ax_r_aload, ax_r_istore, ax_r_astore, ax_r_lstore, ax_r_iinc, ax_r_iadd, ax_r_isub, ax_r_imul, ax_r_idiv, ax_r_irem, ax_r_iand, ax_r_ior, ax_r_ishl, ax_r_ishr, ax_r_iushr, ax_r_i2l, ax_r_l2i, ax_r_i2b, ax_r_ladd, ax_r_lsub, ax_r_lmul, ax_r_ldiv, ax_r_lrem, ax_r_land, ax_r_lor, ax_r_lcmp, ax_r_ifeq, ax_r_ifne, ax_r_iflt, ax_r_ifge, ax_r_ifgt, ax_r_ifle, ax_r_iceq, ax_r_icne, ax_r_iclt, ax_r_icge, ax_r_icgt, ax_r_icle, ax_r_goto, ax_r_tsw, ax_evt_c, ax_evt_n, ax_r_lsw, ax_evu_c, ax_evu_n, ax_r_getI, ax_r_getR, ax_r_putI, ax_r_putZ, ax_r_iald, ax_r_iast, ax_r_lald, ax_r_last, ax_r_bald, ax_r_aald, ax_r_alen, ax_r_bast, ax_r_min, ax_r_max, ax_r_minl, ax_r_maxl, ax_r_copy, ax_r_slen, ax_r_schr, ax_r_dup, ax_r_dup2, ax_r_pop, ax_r_ret, ax_r_lret, ax_r_vret, ax_r_zret, ax_r_aret, ax_r_call, ax_evo, ax_eva, ax_ar, ax_tk, ax_ex, ax_ld, ax_sto, ax_stl, ly_pm, ly_cd, ly_ln, ly_rf, Option.bind_some, Option.map_some, if_true, if_false, true_and, and_true, List.nil_append, List.cons_append, List.append_nil, List.length_nil, List.length_cons, List.headD_cons, true_or, or_true, false_or, or_false, ne_eq, not_false_eq_true, not_true_eq_false, false_and, and_false, List.set_cons_zero, List.set_cons_succ, Nat.reduceAdd, Nat.reduceSub, Nat.reduceMul, Nat.reduceLeDiff, Nat.reduceLT, Nat.reduceEqDiff, ↓reduceIte, Int.reduceNeg, Int.reduceAdd, Int.reduceSub, Int.reduceMul, Int.reduceEq, Int.reduceNe, Int.reduceLE, Int.reduceLT, Int.reduceToNat, Nat.one_ne_zero, Nat.zero_ne_one, Int.cast_ofNat_Int, lc_lt, lc_ge, lc_gt, lc_le, lc_eq, lc_ne, w32i, w64i, tdv, tmd, ltT, ltF, leT, leF, eqT, eqF, dc_M_rule]
        exact H
      · rw [x2.1.2.1, x4] at y e3
        rw [if_neg (by omega), if_pos y] at hf hs
        dsimp only at hf hs
        obtain ⟨m0, mN⟩ := nxT_b (b := b) s0' x8.2
        have tb0 := tkB_ge (b := b) (N := N) (s := s')
        have tb1 := tkB_le (b := b) x8.2
        have nxg : s' ≤ nxT b N s' := by have := sk_ge b N (tkB b N s'); unfold nxT; omega
        have q2 : mQ b N r g2 (tkB b N s') c' (M1 ++ m1) := by
          obtain ⟨⟨u1, u2, u3, u4⟩, ⟨u5, u6, u7⟩, u8⟩ := x2
          exact ⟨⟨tm_same u1 a2, e3, e2, by rw [a2 _ _ (by omega)]; exact u4⟩, ⟨by rw [a2 _ _ (by omega)]; exact u5, by rw [a2 _ _ (by omega)]; exact u6, by rw [a2 _ _ (by omega)]; exact u7⟩, fun i hi => by rw [a2 _ _ (by omega), a2 _ _ (by omega)]; exact u8 i hi⟩
        have x6' := clM_more x6 (g' := g2) (fun k _ _ => a2 _ _ (by omega)) []
        rw [List.append_nil] at x6'
        have xg2 := mrc_am x1 a2
        have I := IH (cl + 1) (nxT b N s') c' (tkB b N s') (M1 ++ m1) g2 (by omega) (by omega) (by omega) (by omega) x9.2 rfl (by omega) tb1 q2 (by rw [a2 _ _ (by omega)]; exact x3) (by omega) (fun w g' n w1 w2 w3 => hf w g' n (mrc_trans xg2 (mrc_le w1)) w2 w3) (fun w g' m' w1 w2 w3 w4 w5 w6 => by
            have h := hs w g' (m1 ++ m') (mrc_trans xg2 (mrc_le w1)) w2 (by rw [← List.append_assoc]; exact w3) (by rw [← List.append_assoc]; exact w4) (fun i hi => by
              rw [← List.append_assoc]
              cases i with
              | zero =>
                rw [show cl + ((0 : Nat) : Int) = cl by omega]
                exact clM_more x6' (g' := g') (fun k k1 k2 => w1 _ _ (by omega) (by omega) (by omega) (by omega)) m'
              | succ i =>
                have := w5 i (by simpa using hi)
                rw [show cl + ((i + 1 : Nat) : Int) = cl + 1 + i by omega]
                exact this) (by rw [List.length_cons]; omega)
            rw [List.length_cons, show cl + (((pRl b N k (cl + 1) (nxT b N s') c').2.length + 1 : Nat) : Int) = cl + 1 + ((pRl b N k (cl + 1) (nxT b N s') c').2.length : Nat) by omega] at h
            exact h)
        rw [ax_kk]
        clear hf hs IH t q x1 x2 x6 a2 q2 x6' xg2
        simp (disch := omega) only [ax_ev, ax_kk, ax_ps, ax_r_const, ax_r_lconst, ax_r_str, ax_r_iload, ax_r_lload, ax_r_aload, ax_r_istore, ax_r_astore, ax_r_lstore, ax_r_iinc, ax_r_iadd, ax_r_isub, ax_r_imul, ax_r_idiv, ax_r_irem, ax_r_iand, ax_r_ior, ax_r_ishl, ax_r_ishr, ax_r_iushr, ax_r_i2l, ax_r_l2i, ax_r_i2b, ax_r_ladd, ax_r_lsub, ax_r_lmul, ax_r_ldiv, ax_r_lrem, ax_r_land, ax_r_lor, ax_r_lcmp, ax_r_ifeq, ax_r_ifne, ax_r_iflt, ax_r_ifge, ax_r_ifgt, ax_r_ifle, ax_r_iceq, ax_r_icne, ax_r_iclt, ax_r_icge, ax_r_icgt, ax_r_icle, ax_r_goto, ax_r_tsw, ax_evt_c, ax_evt_n, ax_r_lsw, ax_evu_c, ax_evu_n, ax_r_getI, ax_r_getR, ax_r_putI, ax_r_putZ, ax_r_iald, ax_r_iast, ax_r_lald, ax_r_last, ax_r_bald, ax_r_aald, ax_r_alen, ax_r_bast, ax_r_min, ax_r_max, ax_r_minl, ax_r_maxl, ax_r_copy, ax_r_slen, ax_r_schr, ax_r_dup, ax_r_dup2, ax_r_pop, ax_r_ret, ax_r_lret, ax_r_vret, ax_r_zret, ax_r_aret, ax_r_call, ax_evo, ax_eva, ax_ar, ax_tk, ax_ex, ax_ld, ax_sto, ax_stl, ly_pm, ly_cd, ly_ln, ly_rf, Option.bind_some, Option.map_some, if_true, if_false, true_and, and_true, List.nil_append, List.cons_append, List.append_nil, List.length_nil, List.length_cons, List.headD_cons, true_or, or_true, false_or, or_false, ne_eq, not_false_eq_true, not_true_eq_false, false_and, and_false, List.set_cons_zero, List.set_cons_succ, Nat.reduceAdd, Nat.reduceSub, Nat.reduceMul, Nat.reduceLeDiff, Nat.reduceLT, Nat.reduceEqDiff, ↓reduceIte, Int.reduceNeg, Int.reduceAdd, Int.reduceSub, Int.reduceMul, Int.reduceEq, Int.reduceNe, Int.reduceLE, Int.reduceLT, Int.reduceToNat, Nat.one_ne_zero, Nat.zero_ne_one, Int.cast_ofNat_Int, lc_lt, lc_ge, lc_gt, lc_le, lc_eq, lc_ne, w32i, w64i, tdv, tmd, ltT, ltF, leT, leF, eqT, eqF, dc_M_rule]
        exact I
      · rw [x2.1.2.1, x4] at y y2 e2
        rw [if_neg y, if_neg y2] at hf
        dsimp only at hf
        have H := hf (by omega) g2 (cl + 1) (mrc_am x1 a2) e2 (by omega)
        rw [ax_kk]
        clear hf hs IH t q x1 x2 x6 a2
        simp (disch := omega) only [ax_ev, ax_kk, ax_ps, ax_r_const, ax_r_lconst, ax_r_str, ax_r_iload, ax_r_lload, ax_r_aload, ax_r_istore, ax_r_astore, ax_r_lstore, ax_r_iinc, ax_r_iadd, ax_r_isub, ax_r_imul, ax_r_idiv, ax_r_irem, ax_r_iand, ax_r_ior, ax_r_ishl, ax_r_ishr, ax_r_iushr, ax_r_i2l, ax_r_l2i, ax_r_i2b, ax_r_ladd, ax_r_lsub, ax_r_lmul, ax_r_ldiv, ax_r_lrem, ax_r_land, ax_r_lor, ax_r_lcmp, ax_r_ifeq, ax_r_ifne, ax_r_iflt, ax_r_ifge, ax_r_ifgt, ax_r_ifle, ax_r_iceq, ax_r_icne, ax_r_iclt, ax_r_icge, ax_r_icgt, ax_r_icle, ax_r_goto, ax_r_tsw, ax_evt_c, ax_evt_n, ax_r_lsw, ax_evu_c, ax_evu_n, ax_r_getI, ax_r_getR, ax_r_putI, ax_r_putZ, ax_r_iald, ax_r_iast, ax_r_lald, ax_r_last, ax_r_bald, ax_r_aald, ax_r_alen, ax_r_bast, ax_r_min, ax_r_max, ax_r_minl, ax_r_maxl, ax_r_copy, ax_r_slen, ax_r_schr, ax_r_dup, ax_r_dup2, ax_r_pop, ax_r_ret, ax_r_lret, ax_r_vret, ax_r_zret, ax_r_aret, ax_r_call, ax_evo, ax_eva, ax_ar, ax_tk, ax_ex, ax_ld, ax_sto, ax_stl, ly_pm, ly_cd, ly_ln, ly_rf, Option.bind_some, Option.map_some, if_true, if_false, true_and, and_true, List.nil_append, List.cons_append, List.append_nil, List.length_nil, List.length_cons, List.headD_cons, true_or, or_true, false_or, or_false, ne_eq, not_false_eq_true, not_true_eq_false, false_and, and_false, List.set_cons_zero, List.set_cons_succ, Nat.reduceAdd, Nat.reduceSub, Nat.reduceMul, Nat.reduceLeDiff, Nat.reduceLT, Nat.reduceEqDiff, ↓reduceIte, Int.reduceNeg, Int.reduceAdd, Int.reduceSub, Int.reduceMul, Int.reduceEq, Int.reduceNe, Int.reduceLE, Int.reduceLT, Int.reduceToNat, Nat.one_ne_zero, Nat.zero_ne_one, Int.cast_ofNat_Int, lc_lt, lc_ge, lc_gt, lc_le, lc_eq, lc_ne, w32i, w64i, tdv, tmd, ltT, ltF, leT, leF, eqT, eqF, dc_M_rule]
        exact H
