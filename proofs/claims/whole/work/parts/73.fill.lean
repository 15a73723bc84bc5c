/-- an empty chamber c set with a clay (-1: none) -/
def fl (h : Int → Int → Int) (S : Int → Int) (c y : Int) : Int → Int := fun j => if y = -1 then S j else if j = 29 + c then 0 else if j = 20 + c then h 26 y else if j = 11 + c then y else S j
theorem fl_gm {h : Int → Int → Int} {W : (Int → Int) → Int} (q : qx h W) {b : Int} {S : Int → Int} (g : gm h b S) {c y : Int} (c0 : 0 ≤ c) (c1 : c < h 25 0) (y0 : -1 ≤ y) (y1 : y < h 25 2) : gm h b (fl h S c y) := by
  by_cases e : y = -1
  · have : fl h S c y = S := by funext j; exact if_pos e
    rw [this]; exact g
  · have wet : 0 ≤ h 26 y ∧ h 26 y ≤ 30 := by have hi := q.1; obtain ⟨⟨a1, a2, a3, a4, a5, a6, a7, a8, a9⟩, ⟨b1, b2, b3, b4, b5, b6, b7, b8⟩, c1, c2, c3, c4, c5, c6, c7, c8, c9, c10, ⟨⟨m1, m2, m3, m4, m5, m6, m7⟩, ⟨g1, g2, g3, g4, g5, g6, g7, g8⟩, g9⟩, r1, tp⟩ := iv_get hi; exact (b6 y (by omega) y1).1
    have n9 := q.2.1
    have F : ∀ j, fl h S c y j = if j = 29 + c then 0 else if j = 20 + c then h 26 y else if j = 11 + c then y else S j := fun j => if_neg e
    obtain ⟨⟨g1, g2, g3, g4, g5, g6, g7, g8⟩, g9⟩ := g
    refine ⟨⟨?_, ?_, ?_, ?_, ?_, fun k k0 k1 => ?_, ?_, fun k k0 k1 => ?_⟩, ?_⟩
    all_goals simp only [F]
    iterate 5 · (simp (disch := omega) only [ax_up, ltT, ltF, leT, leF, eqT, eqF, if_false, if_true, Int.reduceEq, ↓reduceIte, and_true, and_false, true_and, false_and, and_self, ne_eq, not_false_eq_true, not_true_eq_false, imp_self, false_imp_iff, implies_true] <;> omega)
    · simp (disch := omega) only [ax_up, ltT, ltF, leT, leF, eqT, eqF, if_false, if_true, Int.reduceEq, ↓reduceIte, and_true, and_false, true_and, false_and, and_self, ne_eq, not_false_eq_true, not_true_eq_false, imp_self, false_imp_iff, implies_true] <;> exact g6 k k0 k1
    · rcases g7 with g7 | g7
      · exact .inl (by simp (disch := omega) only [ax_up, ltT, ltF, leT, leF, eqT, eqF, if_false, if_true, Int.reduceEq, ↓reduceIte, and_true, and_false, true_and, false_and, and_self, ne_eq, not_false_eq_true, not_true_eq_false, imp_self, false_imp_iff, implies_true] <;> omega)
      · rw [show (if (10 : Int) = 29 + c then 0 else if (10 : Int) = 20 + c then h 26 y else if (10 : Int) = 11 + c then y else S 10) = S 10 by rw [if_neg (by omega), if_neg (by omega), if_neg (by omega)]]
        refine .inr ⟨g7.1, g7.2.1, ?_⟩
        by_cases k : S 10 = c
        · simp (disch := omega) only [ax_up, ltT, ltF, leT, leF, eqT, eqF, if_false, if_true, Int.reduceEq, ↓reduceIte, and_true, and_false, true_and, false_and, and_self, ne_eq, not_false_eq_true, not_true_eq_false, imp_self, false_imp_iff, implies_true] <;> omega
        · simp (disch := omega) only [ax_up, ltT, ltF, leT, leF, eqT, eqF, if_false, if_true, Int.reduceEq, ↓reduceIte, and_true, and_false, true_and, false_and, and_self, ne_eq, not_false_eq_true, not_true_eq_false, imp_self, false_imp_iff, implies_true] <;> exact g7.2.2
    · by_cases u : k = c
      · subst u; have := g8 k k0 k1; simp (disch := omega) only [ax_up, ltT, ltF, leT, leF, eqT, eqF, if_false, if_true, Int.reduceEq, ↓reduceIte, and_true, and_false, true_and, false_and, and_self, ne_eq, not_false_eq_true, not_true_eq_false, imp_self, false_imp_iff, implies_true] <;> omega
      · simp (disch := omega) only [ax_up, ltT, ltF, leT, leF, eqT, eqF, if_false, if_true, Int.reduceEq, ↓reduceIte, and_true, and_false, true_and, false_and, and_self, ne_eq, not_false_eq_true, not_true_eq_false, imp_self, false_imp_iff, implies_true] <;> exact g8 k k0 k1
    · simp (disch := omega) only [ax_up, ltT, ltF, leT, leF, eqT, eqF, if_false, if_true, Int.reduceEq, ↓reduceIte, and_true, and_false, true_and, false_and, and_self, ne_eq, not_false_eq_true, not_true_eq_false, imp_self, false_imp_iff, implies_true] <;> omega
theorem fl_mo {h g : Int → Int → Int} {b : Int} {S : Int → Int} (hg : gm h b S) (hm : mo h S g) {c y : Int} (c0 : 0 ≤ c) (c1 : c < h 25 0) (c9 : h 25 0 ≤ 9) (ce : S (11 + c) = -1) {g' : Int → Int → Int} (p : ∀ k j, ¬ (126 ≤ k ∧ k ≤ 128 ∧ j = c) → g' k j = g k j) (p1 : g' 126 c = y) (p2 : g' 127 c = if y = -1 then 0 else h 26 y) (p3 : g' 128 c = 0) : mo h (fl h S c y) g' := by
  obtain ⟨m1, m2, m3, m4, m5, m6, m7⟩ := hm
  have z := (hg.1.2.2.2.2.2.2.2 c c0 (by omega)).2.2.2.2.2 ce
  have F : ∀ j, j ≠ 11 + c → j ≠ 20 + c → j ≠ 29 + c → fl h S c y j = S j := by
    intro j e1 e2 e3; unfold fl
    by_cases e : y = -1
    · rw [if_pos e]
    · rw [if_neg e, if_neg e3, if_neg e2, if_neg e1]
  refine ⟨?_, ?_, ?_, ?_, fun k k0 k1 => ?_, fun k k0 k1 => ?_, fun k k0 k1 => ?_⟩
  · rw [F _ (by omega) (by omega) (by omega), p _ _ (by omega)]; exact m1
  · rw [F _ (by omega) (by omega) (by omega), p _ _ (by omega)]; exact m2
  · rw [F _ (by omega) (by omega) (by omega), p _ _ (by omega)]; exact m3
  · rw [F _ (by omega) (by omega) (by omega), p _ _ (by omega)]; exact m4
  · rw [F _ (by omega) (by omega) (by omega), p _ _ (by omega)]; exact m5 k k0 k1
  · rw [F _ (by omega) (by omega) (by omega), p _ _ (by omega)]; exact m6 k k0 k1
  · by_cases u : k = c
    · subst u
      rw [F (38 + k) (by omega) (by omega) (by omega), p1, p2, p3, p 129 k (by omega)]
      refine ⟨?_, ?_, ?_, (m7 k k0 k1).2.2.2⟩
      · unfold fl
        by_cases e : y = -1
        · rw [if_pos e, ce, e]
        · rw [if_neg e, if_neg (by omega), if_neg (by omega), if_pos rfl]
      · unfold fl
        by_cases e : y = -1
        · rw [if_pos e, if_pos e]; exact z.1
        · rw [if_neg e, if_neg e, if_neg (by omega), if_pos rfl]
      · unfold fl
        by_cases e : y = -1
        · rw [if_pos e]; exact z.2
        · rw [if_neg e, if_pos rfl]
    · rw [F _ (by omega) (by omega) (by omega), F _ (by omega) (by omega) (by omega), F _ (by omega) (by omega) (by omega), F _ (by omega) (by omega) (by omega), p _ _ (by omega), p _ _ (by omega), p _ _ (by omega), p _ _ (by omega)]; exact m7 k k0 k1
set_option maxRecDepth 100000 in
set_option maxHeartbeats 4000000 in
theorem w_fill {h g : Int → Int → Int} {W : (Int → Int) → Int} (q : qx h W) (f : fr h g) {o : Int} (so : isSt o) (ho : 36 < o) {S : Int → Int} (hS : g (o + 1) = S) {c y : Int} (c0 : 0 ≤ c) (c1 : c < 9) (y0 : -1 ≤ y) (y1 : y < h 25 2) {d : Nat} {Q : ax_V → ax_H → Prop} (hq : Q (9, 0) (L0, ax_rw g (o + 1) (fl h S c y))) : ax_Ev (d) 66 0 [(2, o), (2, 25), (0, c), (0, y)] [] (L0, g) Q := by
  obtain ⟨s1, s2, s3, s4⟩ := so
  have b3 : h 25 2 ≤ 3 := by have hi := q.1; obtain ⟨⟨a1, a2, a3, a4, a5, a6, a7, a8, a9⟩, ⟨b1, b2, b3, b4, b5, b6, b7, b8⟩, c1, c2, c3, c4, c5, c6, c7, c8, c9, c10, ⟨⟨m1, m2, m3, m4, m5, m6, m7⟩, ⟨g1, g2, g3, g4, g5, g6, g7, g8⟩, g9⟩, r1, tp⟩ := iv_get hi; omega
  have e26 : g 26 y = h 26 y := f _ _ (by omega)
  have hself : g = ax_rw g (o + 1) S := by
    funext k j; unfold ax_rw; split
    · rename_i q; rw [q, hS]
    · rfl
  by_cases e : y = -1
  · rw [show fl h S c y = S from funext fun j => if_pos e] at hq
    rw [← hself] at hq
    clear hself q f
    simp (disch := omega) only [ax_ev, ax_kk, ax_ps, ax_r_const, ax_r_lconst, ax_r_str, ax_r_iload, ax_r_lload, ax_r_aload, ax_r_istore, ax_r_astore, ax_r_lstore, ax_r_iinc, ax_r_iadd, ax_r_isub, ax_r_imul, ax_r_idiv, ax_r_irem, ax_r_iand, ax_r_ior, ax_r_ishl, ax_r_ishr, ax_r_iushr, ax_r_i2l, ax_r_l2i, ax_r_i2b, ax_r_ladd, ax_r_lsub, ax_r_lmul, ax_r_ldiv, ax_r_lrem, ax_r_land, ax_r_lor, ax_r_lcmp, ax_r_ifeq, ax_r_ifne, ax_r_iflt, ax_r_ifge, ax_r_ifgt, ax_r_ifle, ax_r_iceq, ax_r_icne, ax_r_iclt, ax_r_icge, ax_r_icgt, ax_r_icle, ax_r_goto, ax_r_tsw, ax_evt_c, ax_evt_n, ax_r_lsw, ax_evu_c, ax_evu_n, ax_r_getI, ax_r_getR, ax_r_putI, ax_r_putZ, ax_r_iald, ax_r_iast, ax_r_lald, ax_r_last, ax_r_bald, ax_r_aald, ax_r_alen, ax_r_bast, ax_r_min, ax_r_max, ax_r_minl, ax_r_maxl, ax_r_copy, ax_r_slen, ax_r_schr, ax_r_dup, ax_r_dup2, ax_r_pop, ax_r_ret, ax_r_lret, ax_r_vret, ax_r_zret, ax_r_aret, ax_r_call, ax_evo, ax_eva, ax_ar, ax_tk, ax_ex, ax_ld, ax_sto, ax_stl, ly_pm, ly_cd, ly_ln, ly_rf, Option.bind_some, Option.map_some, if_true, if_false, true_and, and_true, List.nil_append, List.cons_append, List.append_nil, List.length_nil, List.length_cons, List.headD_cons, true_or, or_true, false_or, or_false, ne_eq, not_false_eq_true, not_true_eq_false, false_and, and_false, List.set_cons_zero, List.set_cons_succ, Nat.reduceAdd, Nat.reduceSub, Nat.reduceMul, Nat.reduceLeDiff, Nat.reduceLT, Nat.reduceEqDiff, ↓reduceIte, Int.reduceNeg, Int.reduceAdd, Int.reduceSub, Int.reduceMul, Int.reduceEq, Int.reduceNe, Int.reduceLE, Int.reduceLT, Int.reduceToNat, Nat.one_ne_zero, Nat.zero_ne_one, Int.cast_ofNat_Int, lc_lt, lc_ge, lc_gt, lc_le, lc_eq, lc_ne, w32i, w64i, tdv, tmd, ltT, ltF, leT, leF, eqT, eqF, dc_State_fill]
    exact hq
  · have F : fl h S c y = fun j => if j = 29 + c then 0 else if j = 20 + c then h 26 y else if j = 11 + c then y else S j := funext fun j => if_neg e
    rw [F] at hq
    rw [hself]
    have n26 : ∀ T, ax_rw g (o + 1) T 26 y = h 26 y := by intro T; rw [rwno _ _ _ _ _ (by omega)]; exact e26
    clear hself q f F
    simp (disch := omega) only [ax_ev, ax_kk, ax_ps, ax_r_const, ax_r_lconst, ax_r_str, ax_r_iload, ax_r_lload, ax_r_aload, ax_r_istore, ax_r_astore, ax_r_lstore, ax_r_iinc, ax_r_iadd, ax_r_isub, ax_r_imul, ax_r_idiv, ax_r_irem, ax_r_iand, ax_r_ior, ax_r_ishl, ax_r_ishr, ax_r_iushr, ax_r_i2l, ax_r_l2i, ax_r_i2b, ax_r_ladd, ax_r_lsub, ax_r_lmul, ax_r_ldiv, ax_r_lrem, ax_r_land, ax_r_lor, ax_r_lcmp, ax_r_ifeq, ax_r_ifne, ax_r_iflt, ax_r_ifge, ax_r_ifgt, ax_r_ifle, ax_r_iceq, ax_r_icne, ax_r_iclt, ax_r_icge, ax_r_icgt, ax_r_icle, ax_r_goto, ax_r_tsw, ax_evt_c, ax_evt_n, ax_r_lsw, ax_evu_c, ax_evu_n, ax_r_getI, ax_r_getR, ax_r_putI, ax_r_putZ, ax_r_iald, ax_r_iast, ax_r_lald, ax_r_last, ax_r_bald, ax_r_aald, ax_r_alen, ax_r_bast, ax_r_min, ax_r_max, ax_r_minl, ax_r_maxl, ax_r_copy, ax_r_slen, ax_r_schr, ax_r_dup, ax_r_dup2, ax_r_pop, ax_r_ret, ax_r_lret, ax_r_vret, ax_r_zret, ax_r_aret, ax_r_call, ax_evo, ax_eva, ax_ar, ax_tk, ax_ex, ax_ld, ax_sto, ax_stl, ly_pm, ly_cd, ly_ln, ly_rf, Option.bind_some, Option.map_some, if_true, if_false, true_and, and_true, List.nil_append, List.cons_append, List.append_nil, List.length_nil, List.length_cons, List.headD_cons, true_or, or_true, false_or, or_false, ne_eq, not_false_eq_true, not_true_eq_false, false_and, and_false, List.set_cons_zero, List.set_cons_succ, Nat.reduceAdd, Nat.reduceSub, Nat.reduceMul, Nat.reduceLeDiff, Nat.reduceLT, Nat.reduceEqDiff, ↓reduceIte, Int.reduceNeg, Int.reduceAdd, Int.reduceSub, Int.reduceMul, Int.reduceEq, Int.reduceNe, Int.reduceLE, Int.reduceLT, Int.reduceToNat, Nat.one_ne_zero, Nat.zero_ne_one, Int.cast_ofNat_Int, lc_lt, lc_ge, lc_gt, lc_le, lc_eq, lc_ne, w32i, w64i, tdv, tmd, ltT, ltF, leT, leF, eqT, eqF, dc_State_fill, s1, s2, s3, s4, rwup, rwrd, n26]
    exact hq
set_option maxRecDepth 100000 in
set_option maxHeartbeats 4000000 in
theorem m_lays {h g : Int → Int → Int} {W : (Int → Int) → Int} (q : qx h W) (f : ms h g) {b : Int} {S : Int → Int} (hm : mo h S g) (hg : gm h b S) {c y : Int} (c0 : 0 ≤ c) (c1 : c < h 25 0) (ce : S (11 + c) = -1) (y0 : -1 ≤ y) (y1 : y < h 25 2) {d : Nat} {Q : ax_V → ax_H → Prop} (hq : ∀ g', (∀ k j, ¬ (126 ≤ k ∧ k ≤ 128) → g' k j = g k j) → mo h (fl h S c y) g' → Q (9, 0) (L0, g')) : ax_Ev (d) 221 0 [(2, 124), (0, c), (0, y)] [] (L0, g) Q := by
  have n9 := q.2.1.2
  obtain ⟨b3, c7⟩ : h 25 2 ≤ 3 ∧ (∀ y, 0 ≤ y → y < h 25 2 → h 26 y = h 132 y ∧ h 27 y = h 133 y) := by have hi := q.1; obtain ⟨⟨a1, a2, a3, a4, a5, a6, a7, a8, a9⟩, ⟨b1, b2, b3, b4, b5, b6, b7, b8⟩, c1, c2, c3, c4, c5, c6, c7, c8, c9, c10, ⟨⟨m1, m2, m3, m4, m5, m6, m7⟩, ⟨g1, g2, g3, g4, g5, g6, g7, g8⟩, g9⟩, r1, tp⟩ := iv_get hi; exact ⟨b3.2, c7⟩
  have H : ∀ v, v = (if y = -1 then 0 else h 26 y) → Q (9, 0) (L0, ax_up (ax_up (ax_up g 126 c y) 127 c v) 128 c 0) := by
    intro v hv
    refine hq _ ?_ (fl_mo hg hm c0 c1 n9 ce ?_ ?_ ?_ ?_)
    · intro k j e; simp only [ax_up]; rw [if_neg (by omega), if_neg (by omega), if_neg (by omega)]
    · intro k j e; simp only [ax_up]; rw [if_neg (by omega), if_neg (by omega), if_neg (by omega)]
    · simp [ax_up]
    · simp [ax_up, hv]
    · simp [ax_up]
  by_cases e : y = -1
  · have H' := H 0 (by rw [if_pos e])
    clear H hq q f hm hg c7
    simp (disch := omega) only [ax_ev, ax_kk, ax_ps, ax_r_const, ax_r_lconst, ax_r_str, ax_r_iload, ax_r_lload, ax_r_aload, ax_r_istore, ax_r_astore, ax_r_lstore, ax_r_iinc, ax_r_iadd, ax_r_isub, ax_r_imul, ax_r_idiv, ax_r_irem, ax_r_iand, ax_r_ior, ax_r_ishl, ax_r_ishr, ax_r_iushr, ax_r_i2l, ax_r_l2i, ax_r_i2b, ax_r_ladd, ax_r_lsub, ax_r_lmul, ax_r_ldiv, ax_r_lrem, ax_r_land, ax_r_lor, ax_r_lcmp, ax_r_ifeq, ax_r_ifne, ax_r_iflt, ax_r_ifge, ax_r_ifgt, ax_r_ifle, ax_r_iceq, ax_r_icne, ax_r_iclt, ax_r_icge, ax_r_icgt, ax_r_icle, ax_r_goto, ax_r_tsw, ax_evt_c, ax_evt_n, ax_r_lsw, ax_evu_c, ax_evu_n, ax_r_getI, ax_r_getR, ax_r_putI, ax_r_putZ, ax_r_iald, ax_r_iast, ax_r_lald, ax_r_last, ax_r_bald, ax_r_aald, ax_r_alen, ax_r_bast, ax_r_min, ax_r_max, ax_r_minl, ax_r_maxl, ax_r_copy, ax_r_slen, ax_r_schr, ax_r_dup, ax_r_dup2, ax_r_pop, ax_r_ret, ax_r_lret, ax_r_vret, ax_r_zret, ax_r_aret, ax_r_call, ax_evo, ax_eva, ax_ar, ax_tk, ax_ex, ax_ld, ax_sto, ax_stl, ly_pm, ly_cd, ly_ln, ly_rf, Option.bind_some, Option.map_some, if_true, if_false, true_and, and_true, List.nil_append, List.cons_append, List.append_nil, List.length_nil, List.length_cons, List.headD_cons, true_or, or_true, false_or, or_false, ne_eq, not_false_eq_true, not_true_eq_false, false_and, and_false, List.set_cons_zero, List.set_cons_succ, Nat.reduceAdd, Nat.reduceSub, Nat.reduceMul, Nat.reduceLeDiff, Nat.reduceLT, Nat.reduceEqDiff, ↓reduceIte, Int.reduceNeg, Int.reduceAdd, Int.reduceSub, Int.reduceMul, Int.reduceEq, Int.reduceNe, Int.reduceLE, Int.reduceLT, Int.reduceToNat, Nat.one_ne_zero, Nat.zero_ne_one, Int.cast_ofNat_Int, lc_lt, lc_ge, lc_gt, lc_le, lc_eq, lc_ne, w32i, w64i, tdv, tmd, ltT, ltF, leT, leF, eqT, eqF, dc_M_lays]
    exact H'
  · have e132 : g 132 y = h 26 y := by rw [f _ _ (by omega), (c7 y (by omega) y1).1]
    have H' := H (h 26 y) (by rw [if_neg e])
    have u : ax_up g 126 c y 132 y = h 26 y := by simp [ax_up, e132]
    clear H hq q f hm hg c7
    simp (disch := omega) only [ax_ev, ax_kk, ax_ps, ax_r_const, ax_r_lconst, ax_r_str, ax_r_iload, ax_r_lload, ax_r_aload, ax_r_istore, ax_r_astore, ax_r_lstore, ax_r_iinc, ax_r_iadd, ax_r_isub, ax_r_imul, ax_r_idiv, ax_r_irem, ax_r_iand, ax_r_ior, ax_r_ishl, ax_r_ishr, ax_r_iushr, ax_r_i2l, ax_r_l2i, ax_r_i2b, ax_r_ladd, ax_r_lsub, ax_r_lmul, ax_r_ldiv, ax_r_lrem, ax_r_land, ax_r_lor, ax_r_lcmp, ax_r_ifeq, ax_r_ifne, ax_r_iflt, ax_r_ifge, ax_r_ifgt, ax_r_ifle, ax_r_iceq, ax_r_icne, ax_r_iclt, ax_r_icge, ax_r_icgt, ax_r_icle, ax_r_goto, ax_r_tsw, ax_evt_c, ax_evt_n, ax_r_lsw, ax_evu_c, ax_evu_n, ax_r_getI, ax_r_getR, ax_r_putI, ax_r_putZ, ax_r_iald, ax_r_iast, ax_r_lald, ax_r_last, ax_r_bald, ax_r_aald, ax_r_alen, ax_r_bast, ax_r_min, ax_r_max, ax_r_minl, ax_r_maxl, ax_r_copy, ax_r_slen, ax_r_schr, ax_r_dup, ax_r_dup2, ax_r_pop, ax_r_ret, ax_r_lret, ax_r_vret, ax_r_zret, ax_r_aret, ax_r_call, ax_evo, ax_eva, ax_ar, ax_tk, ax_ex, ax_ld, ax_sto, ax_stl, ly_pm, ly_cd, ly_ln, ly_rf, Option.bind_some, Option.map_some, if_true, if_false, true_and, and_true, List.nil_append, List.cons_append, List.append_nil, List.length_nil, List.length_cons, List.headD_cons, true_or, or_true, false_or, or_false, ne_eq, not_false_eq_true, not_true_eq_false, false_and, and_false, List.set_cons_zero, List.set_cons_succ, Nat.reduceAdd, Nat.reduceSub, Nat.reduceMul, Nat.reduceLeDiff, Nat.reduceLT, Nat.reduceEqDiff, ↓reduceIte, Int.reduceNeg, Int.reduceAdd, Int.reduceSub, Int.reduceMul, Int.reduceEq, Int.reduceNe, Int.reduceLE, Int.reduceLT, Int.reduceToNat, Nat.one_ne_zero, Nat.zero_ne_one, Int.cast_ofNat_Int, lc_lt, lc_ge, lc_gt, lc_le, lc_eq, lc_ne, w32i, w64i, tdv, tmd, ltT, ltF, leT, leF, eqT, eqF, dc_M_lays, u]
    exact H'
