/-! rule: facts in the reference -/
theorem wid_not : wid (-15) (WL.getD 7 []) ∧ wid (-16) (WL.getD 8 []) ∧ wid (-17) (WL.getD 9 []) ∧ wid (-23) (WL.getD 5 []) ∧ wid (-24) (WL.getD 6 []) := by
  refine ⟨⟨by omega, by decide +kernel, by decide +kernel⟩, ⟨by omega, by decide +kernel, by decide +kernel⟩, ⟨by omega, by decide +kernel, by decide +kernel⟩, ⟨by omega, by decide +kernel, by decide +kernel⟩, ⟨by omega, by decide +kernel, by decide +kernel⟩⟩
def SUT (b : Int → Int) (N r : Int) (g : Int → Int → Int) (R : Int × Int × Int × ((Int → Int) → Int)) (vs : (Int → Int) → List Int) (n : Nat) (M1 : List Int) (E s c : Int) (O : List Int) (dep : Int) (Q : ax_V → ax_H → Prop) : Prop := ∀ (g' : Int → Int → Int) (m' : List Int) (l3 l4 : ax_V), mrt r g g' → segs m' (fun F => R.2.2.2 F :: vs F) (n + 1) → mT b N r g' R.2.1 R.2.2.1 (M1 ++ m') O dep → 3 * ((M1 ++ m').length : Int) + 3 + E ≤ 6 * R.2.2.1 + R.2.1 → (s ≤ R.2.1 ∧ R.2.1 ≤ N) → (c + 1 ≤ R.2.2.1 ∧ R.2.2.1 ≤ 60) → sk b N R.2.1 = R.2.1 → bit R.2.2.2 → ax_Ev 38 186 137 [(2, 124), (0, 0), (0, 1), l3, l4] [] (L0, g') Q
def TSM (b : Int → Int) (N r : Int) (D : Nat) : Prop := ∀ (dep s c p : Int) (vs : (Int → Int) → List Int) (n : Nat) (M1 : List Int) (E : Int) (m O : List Int) (g : Int → Int → Int) (l3 l4 : ax_V) (Q : ax_V → ax_H → Prop), 11 ≤ D + dep → 0 ≤ dep → dep ≤ 10 → 0 ≤ c → c ≤ 60 → sk b N p = s → 0 ≤ p → p ≤ N → 0 ≤ E → segs m vs n → mT b N r g p c (M1 ++ m) O dep → 3 * ((M1 ++ m).length : Int) + E ≤ 6 * c + s → (O.length : Int) ≤ s → O.length + 25 * D ≤ 325 → (tpO O = -1 ∨ tpO O = 12) → ((pTe b N D dep s c).1 ≠ 0 → FBT N r g (pTe b N D dep s c).1 Q) → ((pTe b N D dep s c).1 = 0 → SUT b N r g (pTe b N D dep s c) vs n M1 E s c O dep Q) → ax_Ev 38 186 9 [(2, 124), (0, 1), (0, 1), l3, l4] [] (L0, g) Q
theorem pN_end (b : Int → Int) (N : Int) : ∀ (k : Nat) (s i : Int), 10 ≤ i + k → ¬ ((tkK b N (pN b N k s i).1 = 2 ∧ tkV b N (pN b N k s i).1 = 7) ∧ (pN b N k s i).2 < 10)
  | 0, s, i, h => by
    show ¬ ((tkK b N s = 2 ∧ tkV b N s = 7) ∧ i < 10)
    omega
  | k + 1, s, i, h => by
    have PE : pN b N (k + 1) s i = if (tkK b N s = 2 ∧ tkV b N s = 7) ∧ i < 10 then pN b N k (nxT b N s) (i + 1) else (s, i) := rfl
    rw [PE]
    split
    · exact pN_end b N k _ _ (by omega)
    · assumption
set_option maxRecDepth 100000 in
set_option maxHeartbeats 4000000 in
theorem m_nots {b : Int → Int} {N r : Int} (t : tx b N) {c : Int} {M : List Int} {l3 l4 : ax_V} {Q : ax_V → ax_H → Prop} : ∀ (k : Nat) (s inn p : Int) (O : List Int) (g : Int → Int → Int), 10 ≤ inn + k → 0 ≤ inn → inn ≤ 10 → sk b N p = s → 0 ≤ p → p ≤ N → O.length + k ≤ 400 → mT b N r g p c M O inn → (∀ (g' : Int → Int → Int) (p' : Int) (j : Nat), mrt r g g' → (pN b N k s inn).2 = inn + j → mT b N r g' p' c M (O ++ List.replicate j 9) (inn + j) → sk b N p' = (pN b N k s inn).1 → 0 ≤ p' ∧ p' ≤ N → (s + 3 * j ≤ (pN b N k s inn).1 ∧ (pN b N k s inn).1 ≤ N) → inn + j ≤ 10 → ax_Ev 38 186 9 [(2, 124), (0, 1), (0, 1), l3, l4] [] (L0, g') Q) → ax_Ev 38 186 9 [(2, 124), (0, 1), (0, 1), l3, l4] [] (L0, g) Q := by
  intro k
  induction k with
  | zero =>
    intro s inn p O g h0 i0 i1 hsk p0 pN hO q hq
    have sN := sk_le (b := b) pN
    exact hq g p 0 (mrt_refl r g) (by show inn = inn + ((0 : Nat) : Int); omega) (by rw [show inn + ((0 : Nat) : Int) = inn by omega]; simpa using q) hsk ⟨p0, pN⟩ (by show s + 3 * ((0 : Nat) : Int) ≤ s ∧ s ≤ N; omega) (by omega)
  | succ k ih =>
    intro s inn p O g h0 i0 i1 hsk p0 pN hO q hq
    have s0 := sk_ge b N p
    have sN := sk_le (b := b) pN
    rw [hsk] at s0 sN
    have N4 := t.1
    have PE : _root_.Jvm.Pilot.CRingKilnLaw_law_r1598_2190e3.pN b N (k + 1) s inn = if (tkK b N s = 2 ∧ tkV b N s = 7) ∧ inn < 10 then _root_.Jvm.Pilot.CRingKilnLaw_law_r1598_2190e3.pN b N k (nxT b N s) (inn + 1) else (s, inn) := rfl
    rw [PE] at hq
    by_cases z : (tkK b N s = 2 ∧ tkV b N s = 7) ∧ inn < 10
    · rw [if_pos z] at hq
      have W := (wm_tk (b := b) (N := N) (s := s) (k := 7) (by omega)).2 ⟨z.1.1, z.1.2⟩
      have tb : tkB b N s = s + 3 := by rw [tkB_2 z.1.1]; exact W.1
      have tb1 := tkB_le (b := b) sN
      have nx : sk b N (s + 3) = nxT b N s := by unfold nxT; rw [tb]
      obtain ⟨m0, m1⟩ := nxT_b (b := b) (by omega : 0 ≤ s) sN
      have nxg : s + 3 ≤ nxT b N s := by rw [← nx]; exact sk_ge _ _ _
      have wv := wmI_t W
      have q3 := q.1.1.2.2.1
      rw [ax_ev, dh_M_test_9]
      simp (disch := omega) only [ax_ev, ax_kk, ax_ps, ax_r_const, ax_r_lconst, ax_r_str, ax_r_iload, ax_r_lload, ax_r_aload, ax_r_istore, ax_r_astore, ax_r_lstore, ax_r_iinc, ax_r_iadd, ax_r_isub, ax_r_imul, ax_r_idiv, ax_r_irem, ax_r_iand, ax_r_ior, ax_r_ishl, ax_r_ishr, ax_r_iushr, ax_r_i2l, ax_r_l2i, ax_r_i2b, ax_r_ladd, ax_r_lsub, ax_r_lmul, ax_r_ldiv, ax_r_lrem, ax_r_land, ax_r_lor, ax_r_lcmp, ax_r_ifeq, ax_r_ifne, ax_r_iflt, ax_r_ifge, ax_r_ifgt, ax_r_ifle, ax_r_iceq, ax_r_icne, ax_r_iclt, ax_r_icge, ax_r_icgt, ax_r_icle, ax_r_goto, ax_r_tsw, ax_evt_c, ax_evt_n, ax_r_lsw, ax_evu_c, ax_evu_n, ax_r_getI, ax_r_getR, ax_r_putI, ax_r_putZ, ax_r_iald, ax_r_iast, ax_r_lald, ax_r_last, ax_r_bald, ax_r_aald, ax_r_alen, ax_r_bast, ax_r_min, ax_r_max, ax_r_minl, ax_r_maxl, ax_r_copy, ax_r_slen, ax_r_schr, ax_r_dup, ax_r_dup2, ax_r_pop, ax_r_ret, ax_r_lret, ax_r_vret, ax_r_zret, ax_r_aret, ax_r_call, ax_evo, ax_eva, ax_ar, ax_tk, ax_ex, ax_ld, ax_sto, ax_stl, ly_pm, ly_cd, ly_ln, ly_rf, Option.bind_some, Option.map_some, if_true, if_false, true_and, and_true, List.nil_append, List.cons_append, List.append_nil, List.length_nil, List.length_cons, List.headD_cons, true_or, or_true, false_or, or_false, ne_eq, not_false_eq_true, not_true_eq_false, false_and, and_false, List.set_cons_zero, List.set_cons_succ, Nat.reduceAdd, Nat.reduceSub, Nat.reduceMul, Nat.reduceLeDiff, Nat.reduceLT, Nat.reduceEqDiff, ↓reduceIte, Int.reduceNeg, Int.reduceAdd, Int.reduceSub, Int.reduceMul, Int.reduceEq, Int.reduceNe, Int.reduceLE, Int.reduceLT, Int.reduceToNat, Nat.one_ne_zero, Nat.zero_ne_one, Int.cast_ofNat_Int, lc_lt, lc_ge, lc_gt, lc_le, lc_eq, lc_ne, w32i, w64i, tdv, tmd, ltT, ltF, leT, leF, eqT, eqF, dc_M_test, dc_M_fact, q3]
      refine m_blanks t q.1.1.1 q.1.1.2.1 p0 pN ?_
      intro g1 f1 e1
      rw [hsk] at e1
      have q1 := mT_am q f1 e1
      rw [ax_kk]
      simp (disch := omega) only [ax_ev, ax_kk, ax_ps, ax_r_const, ax_r_lconst, ax_r_str, ax_r_iload, ax_r_lload, ax_r_aload, ax_r_istore, ax_r_astore, ax_r_lstore, ax_r_iinc, ax_r_iadd, ax_r_isub, ax_r_imul, ax_r_idiv, ax_r_irem, ax_r_iand, ax_r_ior, ax_r_ishl, ax_r_ishr, ax_r_iushr, ax_r_i2l, ax_r_l2i, ax_r_i2b, ax_r_ladd, ax_r_lsub, ax_r_lmul, ax_r_ldiv, ax_r_lrem, ax_r_land, ax_r_lor, ax_r_lcmp, ax_r_ifeq, ax_r_ifne, ax_r_iflt, ax_r_ifge, ax_r_ifgt, ax_r_ifle, ax_r_iceq, ax_r_icne, ax_r_iclt, ax_r_icge, ax_r_icgt, ax_r_icle, ax_r_goto, ax_r_tsw, ax_evt_c, ax_evt_n, ax_r_lsw, ax_evu_c, ax_evu_n, ax_r_getI, ax_r_getR, ax_r_putI, ax_r_putZ, ax_r_iald, ax_r_iast, ax_r_lald, ax_r_last, ax_r_bald, ax_r_aald, ax_r_alen, ax_r_bast, ax_r_min, ax_r_max, ax_r_minl, ax_r_maxl, ax_r_copy, ax_r_slen, ax_r_schr, ax_r_dup, ax_r_dup2, ax_r_pop, ax_r_ret, ax_r_lret, ax_r_vret, ax_r_zret, ax_r_aret, ax_r_call, ax_evo, ax_eva, ax_ar, ax_tk, ax_ex, ax_ld, ax_sto, ax_stl, ly_pm, ly_cd, ly_ln, ly_rf, Option.bind_some, Option.map_some, if_true, if_false, true_and, and_true, List.nil_append, List.cons_append, List.append_nil, List.length_nil, List.length_cons, List.headD_cons, true_or, or_true, false_or, or_false, ne_eq, not_false_eq_true, not_true_eq_false, false_and, and_false, List.set_cons_zero, List.set_cons_succ, Nat.reduceAdd, Nat.reduceSub, Nat.reduceMul, Nat.reduceLeDiff, Nat.reduceLT, Nat.reduceEqDiff, ↓reduceIte, Int.reduceNeg, Int.reduceAdd, Int.reduceSub, Int.reduceMul, Int.reduceEq, Int.reduceNe, Int.reduceLE, Int.reduceLT, Int.reduceToNat, Nat.one_ne_zero, Nat.zero_ne_one, Int.cast_ofNat_Int, lc_lt, lc_ge, lc_gt, lc_le, lc_eq, lc_ne, w32i, w64i, tdv, tmd, ltT, ltF, leT, leF, eqT, eqF, dc_M_test, dc_M_fact]
      refine m_stood t q1.1.1.1 e1 (by omega) sN wid_not.1 (by decide) ?_
      rw [ax_kk, wv]
      simp (disch := omega) only [ax_ev, ax_kk, ax_ps, ax_r_const, ax_r_lconst, ax_r_str, ax_r_iload, ax_r_lload, ax_r_aload, ax_r_istore, ax_r_astore, ax_r_lstore, ax_r_iinc, ax_r_iadd, ax_r_isub, ax_r_imul, ax_r_idiv, ax_r_irem, ax_r_iand, ax_r_ior, ax_r_ishl, ax_r_ishr, ax_r_iushr, ax_r_i2l, ax_r_l2i, ax_r_i2b, ax_r_ladd, ax_r_lsub, ax_r_lmul, ax_r_ldiv, ax_r_lrem, ax_r_land, ax_r_lor, ax_r_lcmp, ax_r_ifeq, ax_r_ifne, ax_r_iflt, ax_r_ifge, ax_r_ifgt, ax_r_ifle, ax_r_iceq, ax_r_icne, ax_r_iclt, ax_r_icge, ax_r_icgt, ax_r_icle, ax_r_goto, ax_r_tsw, ax_evt_c, ax_evt_n, ax_r_lsw, ax_evu_c, ax_evu_n, ax_r_getI, ax_r_getR, ax_r_putI, ax_r_putZ, ax_r_iald, ax_r_iast, ax_r_lald, ax_r_last, ax_r_bald, ax_r_aald, ax_r_alen, ax_r_bast, ax_r_min, ax_r_max, ax_r_minl, ax_r_maxl, ax_r_copy, ax_r_slen, ax_r_schr, ax_r_dup, ax_r_dup2, ax_r_pop, ax_r_ret, ax_r_lret, ax_r_vret, ax_r_zret, ax_r_aret, ax_r_call, ax_evo, ax_eva, ax_ar, ax_tk, ax_ex, ax_ld, ax_sto, ax_stl, ly_pm, ly_cd, ly_ln, ly_rf, Option.bind_some, Option.map_some, if_true, if_false, true_and, and_true, List.nil_append, List.cons_append, List.append_nil, List.length_nil, List.length_cons, List.headD_cons, true_or, or_true, false_or, or_false, ne_eq, not_false_eq_true, not_true_eq_false, false_and, and_false, List.set_cons_zero, List.set_cons_succ, Nat.reduceAdd, Nat.reduceSub, Nat.reduceMul, Nat.reduceLeDiff, Nat.reduceLT, Nat.reduceEqDiff, ↓reduceIte, Int.reduceNeg, Int.reduceAdd, Int.reduceSub, Int.reduceMul, Int.reduceEq, Int.reduceNe, Int.reduceLE, Int.reduceLT, Int.reduceToNat, Nat.one_ne_zero, Nat.zero_ne_one, Int.cast_ofNat_Int, lc_lt, lc_ge, lc_gt, lc_le, lc_eq, lc_ne, w32i, w64i, tdv, tmd, ltT, ltF, leT, leF, eqT, eqF, dc_M_test, dc_M_fact]
      refine m_openN (.inl rfl) q1 i0 z.2 (by omega) ?_
      intro g2 x2 q2
      have e2 : g2 124 24 = s := q2.1.1.2.1
      rw [ax_kk]
      have I := ih (nxT b N s) (inn + 1) (s + 3) (O ++ [9]) (ax_up g2 124 24 (s + 3)) (by omega) (by omega) (by omega) nx (by omega) (by omega) (by simp; omega) (mT_up q2) (fun g' p' j y1 y2 y3 y4 y5 y6 y7 => hq g' p' (j + 1) (mrt_trans (mrt_up (mrt_trans (mrt_am (mrt_refl r g) (fun k j e => f1 k j (by omega))) x2) (.inl ⟨rfl, by omega⟩)) y1) (by rw [y2]; omega) (by
          rw [List.replicate_succ, show inn + ((j + 1 : Nat) : Int) = inn + 1 + j by omega]
          rw [List.append_assoc] at y3
          exact y3) y4 y5 (by omega) (by omega))
      clear hq ih t q q1 q2 x2 f1 W PE
      simp (disch := omega) only [ax_ev, ax_kk, ax_ps, ax_r_const, ax_r_lconst, ax_r_str, ax_r_iload, ax_r_lload, ax_r_aload, ax_r_istore, ax_r_astore, ax_r_lstore, ax_r_iinc, ax_r_iadd, ax_r_isub, ax_r_imul, ax_r_idiv, ax_r_irem, ax_r_iand, ax_r_ior, ax_r_ishl, ax_r_ishr, ax_r_iushr, ax_r_i2l, ax_r_l2i, ax_r_i2b, ax_r_ladd, ax_r_lsub, ax_r_lmul, ax_r_ldiv, ax_r_lrem, ax_r_land, ax_r_lor, ax_r_lcmp, ax_r_ifeq, ax_r_ifne, ax_r_iflt, ax_r_ifge, ax_r_ifgt, ax_r_ifle, ax_r_iceq, ax_r_icne, ax_r_iclt, ax_r_icge, ax_r_icgt, ax_r_icle, ax_r_goto, ax_r_tsw, ax_evt_c, ax_evt_n, ax_r_lsw, ax_evu_c, ax_evu_n, ax_r_getI, ax_r_getR, ax_r_putI, ax_r_putZ, ax_r_iald, ax_r_iast, ax_r_lald, ax_r_last, ax_r_bald, ax_r_aald, ax_r_alen, ax_r_bast, ax_r_min, ax_r_max, ax_r_minl, ax_r_maxl, ax_r_copy, ax_r_slen, ax_r_schr, ax_r_dup, ax_r_dup2, ax_r_pop, ax_r_ret, ax_r_lret, ax_r_vret, ax_r_zret, ax_r_aret, ax_r_call, ax_evo, ax_eva, ax_ar, ax_tk, ax_ex, ax_ld, ax_sto, ax_stl, ly_pm, ly_cd, ly_ln, ly_rf, Option.bind_some, Option.map_some, if_true, if_false, true_and, and_true, List.nil_append, List.cons_append, List.append_nil, List.length_nil, List.length_cons, List.headD_cons, true_or, or_true, false_or, or_false, ne_eq, not_false_eq_true, not_true_eq_false, false_and, and_false, List.set_cons_zero, List.set_cons_succ, Nat.reduceAdd, Nat.reduceSub, Nat.reduceMul, Nat.reduceLeDiff, Nat.reduceLT, Nat.reduceEqDiff, ↓reduceIte, Int.reduceNeg, Int.reduceAdd, Int.reduceSub, Int.reduceMul, Int.reduceEq, Int.reduceNe, Int.reduceLE, Int.reduceLT, Int.reduceToNat, Nat.one_ne_zero, Nat.zero_ne_one, Int.cast_ofNat_Int, lc_lt, lc_ge, lc_gt, lc_le, lc_eq, lc_ne, w32i, w64i, tdv, tmd, ltT, ltF, leT, leF, eqT, eqF, dc_M_test, dc_M_fact, e2]
      exact I
    · rw [if_neg z] at hq
      dsimp only at hq
      exact hq g p 0 (mrt_refl r g) (by omega) (by rw [show inn + ((0 : Nat) : Int) = inn by omega]; simpa using q) hsk ⟨p0, pN⟩ (by omega) (by omega)
theorem bit_pC (b : Int → Int) (N s c : Int) : (pC b N s c).1 = 0 → bit (pC b N s c).2.2.2 := by
  intro h
  unfold pC at h ⊢
  split at h
  · rename_i z; exact absurd h z
  · rename_i z; rw [if_neg z]
    split at h
    · intro F; rename_i y; rw [if_pos y]; exact .inl rfl
    · rename_i y; rw [if_neg y]
      split at h
      · intro F; rename_i x; rw [if_pos x]; exact .inl rfl
      · rename_i x; rw [if_neg x]
        split at h
        · rename_i u; exact absurd h u
        · rename_i u; rw [if_neg u]
          have cb := (cmS_b b N (pSum b N s c).2.1).resolve_left y
          intro F; exact cmp_bit (by omega)
set_option maxRecDepth 100000 in
set_option maxHeartbeats 4000000 in
theorem m_fct {b : Int → Int} {N r : Int} (t : tx b N) (r0 : 0 ≤ r) (r6 : r < 6) {D : Nat} (T : TSM b N r D) (dep s c p : Int) (vs : (Int → Int) → List Int) (n : Nat) (M1 : List Int) (E : Int) (m O : List Int) (g : Int → Int → Int) (l3 l4 : ax_V) (Q : ax_V → ax_H → Prop) (hD : 11 ≤ ((D + 1 : Nat) : Int) + dep) (d0 : 0 ≤ dep) (d10 : dep ≤ 10) (c0 : 0 ≤ c) (c6 : c ≤ 60) (hsk : sk b N p = s) (p0 : 0 ≤ p) (pN : p ≤ N) (E0 : 0 ≤ E) (sg : segs m vs n) (q : mT b N r g p c (M1 ++ m) O dep) (hl : 3 * ((M1 ++ m).length : Int) + E ≤ 6 * c + s) (hO : (O.length : Int) ≤ s) (hO2 : O.length + 25 * (D + 1) ≤ 327)
    (hf : (pF b N (pTe b N D) dep s c).1 ≠ 0 → FBT N r g (pF b N (pTe b N D) dep s c).1 Q)
    (hs : (pF b N (pTe b N D) dep s c).1 = 0 → ∀ (g' : Int → Int → Int) (m' : List Int) (j : Nat) (v0 : (Int → Int) → Int) (p' : Int) (l3 l4 : ax_V), mrt r g g' → (∀ F, (pF b N (pTe b N D) dep s c).2.2.2 F = nt j (v0 F)) → bit v0 → segs m' (fun F => v0 F :: vs F) (n + 1) → mT b N r g' p' (pF b N (pTe b N D) dep s c).2.2.1 (M1 ++ m') (O ++ List.replicate j 9) (dep + j) → sk b N p' = (pF b N (pTe b N D) dep s c).2.1 → 0 ≤ p' ∧ p' ≤ N → 3 * ((M1 ++ m').length : Int) + 3 + 3 * j + E ≤ 6 * (pF b N (pTe b N D) dep s c).2.2.1 + (pF b N (pTe b N D) dep s c).2.1 → (s ≤ (pF b N (pTe b N D) dep s c).2.1 ∧ (pF b N (pTe b N D) dep s c).2.1 ≤ N) → (c + 1 ≤ (pF b N (pTe b N D) dep s c).2.2.1 ∧ (pF b N (pTe b N D) dep s c).2.2.1 ≤ 60) → dep + j ≤ 10 → ax_Ev 38 186 9 [(2, 124), (0, 0), (0, 1), l3, l4] [] (L0, g') Q) :
    ax_Ev 38 186 9 [(2, 124), (0, 1), (0, 1), l3, l4] [] (L0, g) Q := by
  have N4 := t.1
  have s00 := sk_ge b N p
  have sN0 := sk_le (b := b) pN
  rw [hsk] at s00 sN0
  have NS := m_nots t (r := r) (c := c) (M := M1 ++ m) (l3 := l3) (l4 := l4) (Q := Q) 10 s dep p O g (by omega) d0 d10 hsk p0 pN (by omega) q
  have PEND := pN_end b N 10 s dep (by omega)
  unfold pF at hf hs
  generalize _root_.Jvm.Pilot.CRingKilnLaw_law_r1598_2190e3.pN b N 10 s dep = P at *
  obtain ⟨sx, inn⟩ := P
  dsimp only at *
  refine NS fun g1 p1 j x1 hj q1 sk1 pr1 b1 b2 => ?_
  clear NS
  subst hj
  have sx0 : 0 ≤ sx := by omega
  have lenO : (O ++ List.replicate j (9 : Int)).length = O.length + j := by simp
  have q3 := q1.1.1.2.2.1
  rw [ax_ev, dh_M_test_9]
  simp (disch := omega) only [ax_ev, ax_kk, ax_ps, ax_r_const, ax_r_lconst, ax_r_str, ax_r_iload, ax_r_lload, ax_r_aload, ax_r_istore, ax_r_astore, ax_r_lstore, ax_r_iinc, ax_r_iadd, ax_r_isub, ax_r_imul, ax_r_idiv, ax_r_irem, ax_r_iand, ax_r_ior, ax_r_ishl, ax_r_ishr, ax_r_iushr, ax_r_i2l, ax_r_l2i, ax_r_i2b, ax_r_ladd, ax_r_lsub, ax_r_lmul, ax_r_ldiv, ax_r_lrem, ax_r_land, ax_r_lor, ax_r_lcmp, ax_r_ifeq, ax_r_ifne, ax_r_iflt, ax_r_ifge, ax_r_ifgt, ax_r_ifle, ax_r_iceq, ax_r_icne, ax_r_iclt, ax_r_icge, ax_r_icgt, ax_r_icle, ax_r_goto, ax_r_tsw, ax_evt_c, ax_evt_n, ax_r_lsw, ax_evu_c, ax_evu_n, ax_r_getI, ax_r_getR, ax_r_putI, ax_r_putZ, ax_r_iald, ax_r_iast, ax_r_lald, ax_r_last, ax_r_bald, ax_r_aald, ax_r_alen, ax_r_bast, ax_r_min, ax_r_max, ax_r_minl, ax_r_maxl, ax_r_copy, ax_r_slen, ax_r_schr, ax_r_dup, ax_r_dup2, ax_r_pop, ax_r_ret, ax_r_lret, ax_r_vret, ax_r_zret, ax_r_aret, ax_r_call, ax_evo, ax_eva, ax_ar, ax_tk, ax_ex, ax_ld, ax_sto, ax_stl, ly_pm, ly_cd, ly_ln, ly_rf, Option.bind_some, Option.map_some, if_true, if_false, true_and, and_true, List.nil_append, List.cons_append, List.append_nil, List.length_nil, List.length_cons, List.headD_cons, true_or, or_true, false_or, or_false, ne_eq, not_false_eq_true, not_true_eq_false, false_and, and_false, List.set_cons_zero, List.set_cons_succ, Nat.reduceAdd, Nat.reduceSub, Nat.reduceMul, Nat.reduceLeDiff, Nat.reduceLT, Nat.reduceEqDiff, ↓reduceIte, Int.reduceNeg, Int.reduceAdd, Int.reduceSub, Int.reduceMul, Int.reduceEq, Int.reduceNe, Int.reduceLE, Int.reduceLT, Int.reduceToNat, Nat.one_ne_zero, Nat.zero_ne_one, Int.cast_ofNat_Int, lc_lt, lc_ge, lc_gt, lc_le, lc_eq, lc_ne, w32i, w64i, tdv, tmd, ltT, ltF, leT, leF, eqT, eqF, dc_M_test, dc_M_fact, q3]
  refine m_blanks t q1.1.1.1 q1.1.1.2.1 pr1.1 pr1.2 ?_
  intro g2 f2 e2
  rw [sk1] at e2
  have q2 := mT_am q1 f2 e2
  have x2 : mrt r g g2 := mrt_am x1 (fun k j e => f2 k j (by omega))
  have WT := wm_tk (b := b) (N := N) (s := sx) (k := 7) (by omega)
  rw [ax_kk]
  simp (disch := omega) only [ax_ev, ax_kk, ax_ps, ax_r_const, ax_r_lconst, ax_r_str, ax_r_iload, ax_r_lload, ax_r_aload, ax_r_istore, ax_r_astore, ax_r_lstore, ax_r_iinc, ax_r_iadd, ax_r_isub, ax_r_imul, ax_r_idiv, ax_r_irem, ax_r_iand, ax_r_ior, ax_r_ishl, ax_r_ishr, ax_r_iushr, ax_r_i2l, ax_r_l2i, ax_r_i2b, ax_r_ladd, ax_r_lsub, ax_r_lmul, ax_r_ldiv, ax_r_lrem, ax_r_land, ax_r_lor, ax_r_lcmp, ax_r_ifeq, ax_r_ifne, ax_r_iflt, ax_r_ifge, ax_r_ifgt, ax_r_ifle, ax_r_iceq, ax_r_icne, ax_r_iclt, ax_r_icge, ax_r_icgt, ax_r_icle, ax_r_goto, ax_r_tsw, ax_evt_c, ax_evt_n, ax_r_lsw, ax_evu_c, ax_evu_n, ax_r_getI, ax_r_getR, ax_r_putI, ax_r_putZ, ax_r_iald, ax_r_iast, ax_r_lald, ax_r_last, ax_r_bald, ax_r_aald, ax_r_alen, ax_r_bast, ax_r_min, ax_r_max, ax_r_minl, ax_r_maxl, ax_r_copy, ax_r_slen, ax_r_schr, ax_r_dup, ax_r_dup2, ax_r_pop, ax_r_ret, ax_r_lret, ax_r_vret, ax_r_zret, ax_r_aret, ax_r_call, ax_evo, ax_eva, ax_ar, ax_tk, ax_ex, ax_ld, ax_sto, ax_stl, ly_pm, ly_cd, ly_ln, ly_rf, Option.bind_some, Option.map_some, if_true, if_false, true_and, and_true, List.nil_append, List.cons_append, List.append_nil, List.length_nil, List.length_cons, List.headD_cons, true_or, or_true, false_or, or_false, ne_eq, not_false_eq_true, not_true_eq_false, false_and, and_false, List.set_cons_zero, List.set_cons_succ, Nat.reduceAdd, Nat.reduceSub, Nat.reduceMul, Nat.reduceLeDiff, Nat.reduceLT, Nat.reduceEqDiff, ↓reduceIte, Int.reduceNeg, Int.reduceAdd, Int.reduceSub, Int.reduceMul, Int.reduceEq, Int.reduceNe, Int.reduceLE, Int.reduceLT, Int.reduceToNat, Nat.one_ne_zero, Nat.zero_ne_one, Int.cast_ofNat_Int, lc_lt, lc_ge, lc_gt, lc_le, lc_eq, lc_ne, w32i, w64i, tdv, tmd, ltT, ltF, leT, leF, eqT, eqF, dc_M_test, dc_M_fact]
  refine m_stood t q2.1.1.1 e2 sx0 b1.2 wid_not.1 (by decide) ?_
  rw [ax_kk]
  by_cases nw : tkK b N sx = 2 ∧ tkV b N sx = 7
  · -- a not, too deep
    have W := WT.2 ⟨nw.1, nw.2⟩
    have tb : tkB b N sx = sx + 3 := by rw [tkB_2 nw.1]; exact W.1
    have tb1 := tkB_le (b := b) b1.2
    rw [wmI_t W]
    by_cases i10 : 10 ≤ dep + j
    · rw [if_pos ⟨i10, .inr nw⟩] at hf
      have d10' : dep + (j : Int) = 10 := by omega
      rw [d10'] at q2
      simp (disch := omega) only [ax_ev, ax_kk, ax_ps, ax_r_const, ax_r_lconst, ax_r_str, ax_r_iload, ax_r_lload, ax_r_aload, ax_r_istore, ax_r_astore, ax_r_lstore, ax_r_iinc, ax_r_iadd, ax_r_isub, ax_r_imul, ax_r_idiv, ax_r_irem, ax_r_iand, ax_r_ior, ax_r_ishl, ax_r_ishr, ax_r_iushr, ax_r_i2l, ax_r_l2i, ax_r_i2b, ax_r_ladd, ax_r_lsub, ax_r_lmul, ax_r_ldiv, ax_r_lrem, ax_r_land, ax_r_lor, ax_r_lcmp, ax_r_ifeq, ax_r_ifne, ax_r_iflt, ax_r_ifge, ax_r_ifgt, ax_r_ifle, ax_r_iceq, ax_r_icne, ax_r_iclt, ax_r_icge, ax_r_icgt, ax_r_icle, ax_r_goto, ax_r_tsw, ax_evt_c, ax_evt_n, ax_r_lsw, ax_evu_c, ax_evu_n, ax_r_getI, ax_r_getR, ax_r_putI, ax_r_putZ, ax_r_iald, ax_r_iast, ax_r_lald, ax_r_last, ax_r_bald, ax_r_aald, ax_r_alen, ax_r_bast, ax_r_min, ax_r_max, ax_r_minl, ax_r_maxl, ax_r_copy, ax_r_slen, ax_r_schr, ax_r_dup, ax_r_dup2, ax_r_pop, ax_r_ret, ax_r_lret, ax_r_vret, ax_r_zret, ax_r_aret, ax_r_call, ax_evo, ax_eva, ax_ar, ax_tk, ax_ex, ax_ld, ax_sto, ax_stl, ly_pm, ly_cd, ly_ln, ly_rf, Option.bind_some, Option.map_some, if_true, if_false, true_and, and_true, List.nil_append, List.cons_append, List.append_nil, List.length_nil, List.length_cons, List.headD_cons, true_or, or_true, false_or, or_false, ne_eq, not_false_eq_true, not_true_eq_false, false_and, and_false, List.set_cons_zero, List.set_cons_succ, Nat.reduceAdd, Nat.reduceSub, Nat.reduceMul, Nat.reduceLeDiff, Nat.reduceLT, Nat.reduceEqDiff, ↓reduceIte, Int.reduceNeg, Int.reduceAdd, Int.reduceSub, Int.reduceMul, Int.reduceEq, Int.reduceNe, Int.reduceLE, Int.reduceLT, Int.reduceToNat, Nat.one_ne_zero, Nat.zero_ne_one, Int.cast_ofNat_Int, lc_lt, lc_ge, lc_gt, lc_le, lc_eq, lc_ne, w32i, w64i, tdv, tmd, ltT, ltF, leT, leF, eqT, eqF, dc_M_test, dc_M_fact]
      refine m_openF (.inl rfl) q2 sx0 (by omega) (by omega) ?_
      intro g3 y1 y2 y3
      have H := hf (by simp only; omega) (ax_up g3 124 24 (sx + 3)) (mrt_up (mrt_trans x2 y1) (.inl ⟨rfl, by omega⟩)) (by rw [ax_up_no (by omega)]; simp only; omega) (by rw [ax_up_eq]; omega)
      have X := m_texit (g := ax_up g3 124 24 (sx + 3)) (F := 3 + 8 * sx) (w := 1) (l3 := l3) (l4 := l4) (d := 38) (Q := Q) (by rw [ax_up_no (by omega)]; exact y2) (by omega) H
      rw [ax_kk]
      clear hf hs t T q q1 q2 sg x1 x2 f2 W WT y1 H
      simp (disch := omega) only [ax_ev, ax_kk, ax_ps, ax_r_const, ax_r_lconst, ax_r_str, ax_r_iload, ax_r_lload, ax_r_aload, ax_r_istore, ax_r_astore, ax_r_lstore, ax_r_iinc, ax_r_iadd, ax_r_isub, ax_r_imul, ax_r_idiv, ax_r_irem, ax_r_iand, ax_r_ior, ax_r_ishl, ax_r_ishr, ax_r_iushr, ax_r_i2l, ax_r_l2i, ax_r_i2b, ax_r_ladd, ax_r_lsub, ax_r_lmul, ax_r_ldiv, ax_r_lrem, ax_r_land, ax_r_lor, ax_r_lcmp, ax_r_ifeq, ax_r_ifne, ax_r_iflt, ax_r_ifge, ax_r_ifgt, ax_r_ifle, ax_r_iceq, ax_r_icne, ax_r_iclt, ax_r_icge, ax_r_icgt, ax_r_icle, ax_r_goto, ax_r_tsw, ax_evt_c, ax_evt_n, ax_r_lsw, ax_evu_c, ax_evu_n, ax_r_getI, ax_r_getR, ax_r_putI, ax_r_putZ, ax_r_iald, ax_r_iast, ax_r_lald, ax_r_last, ax_r_bald, ax_r_aald, ax_r_alen, ax_r_bast, ax_r_min, ax_r_max, ax_r_minl, ax_r_maxl, ax_r_copy, ax_r_slen, ax_r_schr, ax_r_dup, ax_r_dup2, ax_r_pop, ax_r_ret, ax_r_lret, ax_r_vret, ax_r_zret, ax_r_aret, ax_r_call, ax_evo, ax_eva, ax_ar, ax_tk, ax_ex, ax_ld, ax_sto, ax_stl, ly_pm, ly_cd, ly_ln, ly_rf, Option.bind_some, Option.map_some, if_true, if_false, true_and, and_true, List.nil_append, List.cons_append, List.append_nil, List.length_nil, List.length_cons, List.headD_cons, true_or, or_true, false_or, or_false, ne_eq, not_false_eq_true, not_true_eq_false, false_and, and_false, List.set_cons_zero, List.set_cons_succ, Nat.reduceAdd, Nat.reduceSub, Nat.reduceMul, Nat.reduceLeDiff, Nat.reduceLT, Nat.reduceEqDiff, ↓reduceIte, Int.reduceNeg, Int.reduceAdd, Int.reduceSub, Int.reduceMul, Int.reduceEq, Int.reduceNe, Int.reduceLE, Int.reduceLT, Int.reduceToNat, Nat.one_ne_zero, Nat.zero_ne_one, Int.cast_ofNat_Int, lc_lt, lc_ge, lc_gt, lc_le, lc_eq, lc_ne, w32i, w64i, tdv, tmd, ltT, ltF, leT, leF, eqT, eqF, dc_M_test, dc_M_fact, y3]
      exact X
    · exact absurd ⟨nw, by omega⟩ PEND
  · rw [wmI_f (fun z => nw (WT.1 z))]
    have TS := tk_sign (b := b) (N := N) (s := sx) (x := 91) t sx0 (by omega) (by omega) (by omega) (by omega)
    have sb := sgn_b t sx0
    simp (disch := omega) only [ax_ev, ax_kk, ax_ps, ax_r_const, ax_r_lconst, ax_r_str, ax_r_iload, ax_r_lload, ax_r_aload, ax_r_istore, ax_r_astore, ax_r_lstore, ax_r_iinc, ax_r_iadd, ax_r_isub, ax_r_imul, ax_r_idiv, ax_r_irem, ax_r_iand, ax_r_ior, ax_r_ishl, ax_r_ishr, ax_r_iushr, ax_r_i2l, ax_r_l2i, ax_r_i2b, ax_r_ladd, ax_r_lsub, ax_r_lmul, ax_r_ldiv, ax_r_lrem, ax_r_land, ax_r_lor, ax_r_lcmp, ax_r_ifeq, ax_r_ifne, ax_r_iflt, ax_r_ifge, ax_r_ifgt, ax_r_ifle, ax_r_iceq, ax_r_icne, ax_r_iclt, ax_r_icge, ax_r_icgt, ax_r_icle, ax_r_goto, ax_r_tsw, ax_evt_c, ax_evt_n, ax_r_lsw, ax_evu_c, ax_evu_n, ax_r_getI, ax_r_getR, ax_r_putI, ax_r_putZ, ax_r_iald, ax_r_iast, ax_r_lald, ax_r_last, ax_r_bald, ax_r_aald, ax_r_alen, ax_r_bast, ax_r_min, ax_r_max, ax_r_minl, ax_r_maxl, ax_r_copy, ax_r_slen, ax_r_schr, ax_r_dup, ax_r_dup2, ax_r_pop, ax_r_ret, ax_r_lret, ax_r_vret, ax_r_zret, ax_r_aret, ax_r_call, ax_evo, ax_eva, ax_ar, ax_tk, ax_ex, ax_ld, ax_sto, ax_stl, ly_pm, ly_cd, ly_ln, ly_rf, Option.bind_some, Option.map_some, if_true, if_false, true_and, and_true, List.nil_append, List.cons_append, List.append_nil, List.length_nil, List.length_cons, List.headD_cons, true_or, or_true, false_or, or_false, ne_eq, not_false_eq_true, not_true_eq_false, false_and, and_false, List.set_cons_zero, List.set_cons_succ, Nat.reduceAdd, Nat.reduceSub, Nat.reduceMul, Nat.reduceLeDiff, Nat.reduceLT, Nat.reduceEqDiff, ↓reduceIte, Int.reduceNeg, Int.reduceAdd, Int.reduceSub, Int.reduceMul, Int.reduceEq, Int.reduceNe, Int.reduceLE, Int.reduceLT, Int.reduceToNat, Nat.one_ne_zero, Nat.zero_ne_one, Int.cast_ofNat_Int, lc_lt, lc_ge, lc_gt, lc_le, lc_eq, lc_ne, w32i, w64i, tdv, tmd, ltT, ltF, leT, leF, eqT, eqF, dc_M_test, dc_M_fact]
    refine m_sign t q2.1.1.1 e2 sx0 ?_
    rw [ax_kk]
    by_cases op : tkK b N sx = 3 ∧ tkV b N sx = 91
    · have o1 := TS.1 op
      have sg91 : sgn b N sx = 91 := (sgn_lt (by omega)).2 o1
      have tb : tkB b N sx = sx + 1 := tk_signB op.1 o1.2 (by omega)
      rw [sg91]
      by_cases i10 : 10 ≤ dep + j
      · rw [if_pos ⟨i10, .inl op⟩] at hf
        have d10' : dep + (j : Int) = 10 := by omega
        rw [d10'] at q2
        simp (disch := omega) only [ax_ev, ax_kk, ax_ps, ax_r_const, ax_r_lconst, ax_r_str, ax_r_iload, ax_r_lload, ax_r_aload, ax_r_istore, ax_r_astore, ax_r_lstore, ax_r_iinc, ax_r_iadd, ax_r_isub, ax_r_imul, ax_r_idiv, ax_r_irem, ax_r_iand, ax_r_ior, ax_r_ishl, ax_r_ishr, ax_r_iushr, ax_r_i2l, ax_r_l2i, ax_r_i2b, ax_r_ladd, ax_r_lsub, ax_r_lmul, ax_r_ldiv, ax_r_lrem, ax_r_land, ax_r_lor, ax_r_lcmp, ax_r_ifeq, ax_r_ifne, ax_r_iflt, ax_r_ifge, ax_r_ifgt, ax_r_ifle, ax_r_iceq, ax_r_icne, ax_r_iclt, ax_r_icge, ax_r_icgt, ax_r_icle, ax_r_goto, ax_r_tsw, ax_evt_c, ax_evt_n, ax_r_lsw, ax_evu_c, ax_evu_n, ax_r_getI, ax_r_getR, ax_r_putI, ax_r_putZ, ax_r_iald, ax_r_iast, ax_r_lald, ax_r_last, ax_r_bald, ax_r_aald, ax_r_alen, ax_r_bast, ax_r_min, ax_r_max, ax_r_minl, ax_r_maxl, ax_r_copy, ax_r_slen, ax_r_schr, ax_r_dup, ax_r_dup2, ax_r_pop, ax_r_ret, ax_r_lret, ax_r_vret, ax_r_zret, ax_r_aret, ax_r_call, ax_evo, ax_eva, ax_ar, ax_tk, ax_ex, ax_ld, ax_sto, ax_stl, ly_pm, ly_cd, ly_ln, ly_rf, Option.bind_some, Option.map_some, if_true, if_false, true_and, and_true, List.nil_append, List.cons_append, List.append_nil, List.length_nil, List.length_cons, List.headD_cons, true_or, or_true, false_or, or_false, ne_eq, not_false_eq_true, not_true_eq_false, false_and, and_false, List.set_cons_zero, List.set_cons_succ, Nat.reduceAdd, Nat.reduceSub, Nat.reduceMul, Nat.reduceLeDiff, Nat.reduceLT, Nat.reduceEqDiff, ↓reduceIte, Int.reduceNeg, Int.reduceAdd, Int.reduceSub, Int.reduceMul, Int.reduceEq, Int.reduceNe, Int.reduceLE, Int.reduceLT, Int.reduceToNat, Nat.one_ne_zero, Nat.zero_ne_one, Int.cast_ofNat_Int, lc_lt, lc_ge, lc_gt, lc_le, lc_eq, lc_ne, w32i, w64i, tdv, tmd, ltT, ltF, leT, leF, eqT, eqF, dc_M_test, dc_M_fact]
        refine m_openF (.inr rfl) q2 sx0 (by omega) (by omega) ?_
        intro g3 y1 y2 y3
        have H := hf (by simp only; omega) (ax_up g3 124 24 (sx + 1)) (mrt_up (mrt_trans x2 y1) (.inl ⟨rfl, by omega⟩)) (by rw [ax_up_no (by omega)]; simp only; omega) (by rw [ax_up_eq]; omega)
        have X := m_texit (g := ax_up g3 124 24 (sx + 1)) (F := 3 + 8 * sx) (w := 1) (l3 := l3) (l4 := l4) (d := 38) (Q := Q) (by rw [ax_up_no (by omega)]; exact y2) (by omega) H
        rw [ax_kk]
        clear hf hs t T q q1 q2 sg x1 x2 f2 WT y1 H
        simp (disch := omega) only [ax_ev, ax_kk, ax_ps, ax_r_const, ax_r_lconst, ax_r_str, ax_r_iload, ax_r_lload, ax_r_aload, ax_r_istore, ax_r_astore, ax_r_lstore, ax_r_iinc, ax_r_iadd, ax_r_isub, ax_r_imul, ax_r_idiv, ax_r_irem, ax_r_iand, ax_r_ior, ax_r_ishl, ax_r_ishr, ax_r_iushr, ax_r_i2l, ax_r_l2i, ax_r_i2b, ax_r_ladd, ax_r_lsub, ax_r_lmul, ax_r_ldiv, ax_r_lrem, ax_r_land, ax_r_lor, ax_r_lcmp, ax_r_ifeq, ax_r_ifne, ax_r_iflt, ax_r_ifge, ax_r_ifgt, ax_r_ifle, ax_r_iceq, ax_r_icne, ax_r_iclt, ax_r_icge, ax_r_icgt, ax_r_icle, ax_r_goto, ax_r_tsw, ax_evt_c, ax_evt_n, ax_r_lsw, ax_evu_c, ax_evu_n, ax_r_getI, ax_r_getR, ax_r_putI, ax_r_putZ, ax_r_iald, ax_r_iast, ax_r_lald, ax_r_last, ax_r_bald, ax_r_aald, ax_r_alen, ax_r_bast, ax_r_min, ax_r_max, ax_r_minl, ax_r_maxl, ax_r_copy, ax_r_slen, ax_r_schr, ax_r_dup, ax_r_dup2, ax_r_pop, ax_r_ret, ax_r_lret, ax_r_vret, ax_r_zret, ax_r_aret, ax_r_call, ax_evo, ax_eva, ax_ar, ax_tk, ax_ex, ax_ld, ax_sto, ax_stl, ly_pm, ly_cd, ly_ln, ly_rf, Option.bind_some, Option.map_some, if_true, if_false, true_and, and_true, List.nil_append, List.cons_append, List.append_nil, List.length_nil, List.length_cons, List.headD_cons, true_or, or_true, false_or, or_false, ne_eq, not_false_eq_true, not_true_eq_false, false_and, and_false, List.set_cons_zero, List.set_cons_succ, Nat.reduceAdd, Nat.reduceSub, Nat.reduceMul, Nat.reduceLeDiff, Nat.reduceLT, Nat.reduceEqDiff, ↓reduceIte, Int.reduceNeg, Int.reduceAdd, Int.reduceSub, Int.reduceMul, Int.reduceEq, Int.reduceNe, Int.reduceLE, Int.reduceLT, Int.reduceToNat, Nat.one_ne_zero, Nat.zero_ne_one, Int.cast_ofNat_Int, lc_lt, lc_ge, lc_gt, lc_le, lc_eq, lc_ne, w32i, w64i, tdv, tmd, ltT, ltF, leT, leF, eqT, eqF, dc_M_test, dc_M_fact, y3]
        exact X
      · rw [if_neg (fun z => i10 z.1), if_pos op] at hf hs
        obtain ⟨mx0, mxN⟩ := nxT_b (b := b) sx0 b1.2
        have nx : sk b N (sx + 1) = nxT b N sx := by unfold nxT; rw [tb]
        have nxg : sx + 1 ≤ nxT b N sx := by rw [← nx]; exact sk_ge _ _ _
        simp (disch := omega) only [ax_ev, ax_kk, ax_ps, ax_r_const, ax_r_lconst, ax_r_str, ax_r_iload, ax_r_lload, ax_r_aload, ax_r_istore, ax_r_astore, ax_r_lstore, ax_r_iinc, ax_r_iadd, ax_r_isub, ax_r_imul, ax_r_idiv, ax_r_irem, ax_r_iand, ax_r_ior, ax_r_ishl, ax_r_ishr, ax_r_iushr, ax_r_i2l, ax_r_l2i, ax_r_i2b, ax_r_ladd, ax_r_lsub, ax_r_lmul, ax_r_ldiv, ax_r_lrem, ax_r_land, ax_r_lor, ax_r_lcmp, ax_r_ifeq, ax_r_ifne, ax_r_iflt, ax_r_ifge, ax_r_ifgt, ax_r_ifle, ax_r_iceq, ax_r_icne, ax_r_iclt, ax_r_icge, ax_r_icgt, ax_r_icle, ax_r_goto, ax_r_tsw, ax_evt_c, ax_evt_n, ax_r_lsw, ax_evu_c, ax_evu_n, ax_r_getI, ax_r_getR, ax_r_putI, ax_r_putZ, ax_r_iald, ax_r_iast, ax_r_lald, ax_r_last, ax_r_bald, ax_r_aald, ax_r_alen, ax_r_bast, ax_r_min, ax_r_max, ax_r_minl, ax_r_maxl, ax_r_copy, ax_r_slen, ax_r_schr, ax_r_dup, ax_r_dup2, ax_r_pop, ax_r_ret, ax_r_lret, ax_r_vret, ax_r_zret, ax_r_aret, ax_r_call, ax_evo, ax_eva, ax_ar, ax_tk, ax_ex, ax_ld, ax_sto, ax_stl, ly_pm, ly_cd, ly_ln, ly_rf, Option.bind_some, Option.map_some, if_true, if_false, true_and, and_true, List.nil_append, List.cons_append, List.append_nil, List.length_nil, List.length_cons, List.headD_cons, true_or, or_true, false_or, or_false, ne_eq, not_false_eq_true, not_true_eq_false, false_and, and_false, List.set_cons_zero, List.set_cons_succ, Nat.reduceAdd, Nat.reduceSub, Nat.reduceMul, Nat.reduceLeDiff, Nat.reduceLT, Nat.reduceEqDiff, ↓reduceIte, Int.reduceNeg, Int.reduceAdd, Int.reduceSub, Int.reduceMul, Int.reduceEq, Int.reduceNe, Int.reduceLE, Int.reduceLT, Int.reduceToNat, Nat.one_ne_zero, Nat.zero_ne_one, Int.cast_ofNat_Int, lc_lt, lc_ge, lc_gt, lc_le, lc_eq, lc_ne, w32i, w64i, tdv, tmd, ltT, ltF, leT, leF, eqT, eqF, dc_M_test, dc_M_fact]
        refine m_openN (.inr rfl) q2 (by omega) (by omega) (by omega) ?_
        intro g3 x3 q3'
        have e3 : g3 124 24 = sx := q3'.1.1.2.1
        have x3' : mrt r g (ax_up g3 124 24 (sx + 1)) := mrt_up (mrt_trans x2 x3) (.inl ⟨rfl, by omega⟩)
        have q4 := mT_up (p' := sx + 1) q3'
        have lenO2 : (O ++ List.replicate j (9 : Int) ++ [12]).length = O.length + j + 1 := by simp; omega
        have TT := T (dep + j + 1) (nxT b N sx) c (sx + 1) vs n M1 (E + 3 * j) m (O ++ List.replicate j 9 ++ [12]) (ax_up g3 124 24 (sx + 1)) l3 l4 Q (by omega) (by omega) (by omega) c0 c6 nx (by omega) (by omega) (by omega) sg q4 (by omega) (by omega) (by omega) (.inr (tpO_app _ _))
        generalize pTe b N D (dep + j + 1) (nxT b N sx) c = R at *
        obtain ⟨f, s', c', V⟩ := R
        dsimp only at *
        have K := TT (fun z => by
            rw [if_pos z] at hf
            intro g' y1 y2 y3; exact hf z g' (mrt_trans x3' y1) y2 y3) (fun z => by
            rw [if_neg (by omega)] at hf hs
            unfold SUT
            dsimp only
            intro g5 m5 l3' l4' y1 y2 y3 y4 y5 y6 y7 y8
            have s0' : 0 ≤ s' := by omega
            have TS2 := tk_sign (b := b) (N := N) (s := s') (x := 93) t s0' (by omega) (by omega) (by omega) (by omega)
            have sb2 := sgn_b t s0'
            have tp := mT_top y3 (by omega)
            rw [tpO_app, lenO2, show (((O.length + j + 1 : Nat)) : Int) - 1 = (O.length : Int) + j by omega] at tp
            have o5 : g5 124 31 = (O.length : Int) + j + 1 := by rw [y3.2.2.1, lenO2]; omega
            have d5 : g5 124 29 = dep + j + 1 := y3.2.1
            have e5 : g5 124 24 = s' := y3.1.1.2.1
            have F5 := y3.1.1.2.2.1
            have ol : (O.length : Int) + j + 1 - 1 = (O.length : Int) + j := by omega
            have SG := fun Q' => m_sign t y3.1.1.1 e5 s0' (d := 37) (Q := Q')
            have x5 : mrt r g g5 := mrt_trans x3' y1
            by_cases cl : tkK b N s' = 3 ∧ tkV b N s' = 93
            · rw [if_pos cl] at hs
              dsimp only at hs
              have c1 := TS2.1 cl
              have sg93 : sgn b N s' = 93 := (sgn_lt (by omega)).2 c1
              have tb2 : tkB b N s' = s' + 1 := tk_signB cl.1 c1.2 (by omega)
              have nx2 : sk b N (s' + 1) = nxT b N s' := by unfold nxT; rw [tb2]
              obtain ⟨ox0, oxN⟩ := nxT_b (b := b) s0' y5.2
              have nxg2 : s' + 1 ≤ nxT b N s' := by rw [← nx2]; exact sk_ge _ _ _
              have G := ax_up (ax_up (ax_up g5 124 24 (s' + 1)) 124 31 ((O.length : Int) + j)) 124 29 (dep + j)
              have H := hs rfl (ax_up (ax_up (ax_up g5 124 24 (s' + 1)) 124 31 ((O.length : Int) + j)) 124 29 (dep + j)) m5 j V (s' + 1) l3' l4' (mrt_up (mrt_up (mrt_up x5 (.inl ⟨rfl, by omega⟩)) (.inl ⟨rfl, by omega⟩)) (.inl ⟨rfl, by omega⟩)) (fun F => by rw [show dep + (j : Int) - dep = j by omega]) y8 y2 (mT_pop (mT_up (p' := s' + 1) y3) (fun a i e => by rw [ax_up_no (by omega), ax_up_no (by omega)]) ax_up_eq (by rw [ax_up_no (by omega), ax_up_eq, lenO]; omega)) nx2 (by omega) (by omega) (by omega) (by omega) (by omega)
              have o6 : ax_up g5 124 24 (s' + 1) 124 31 = (O.length : Int) + j + 1 := by rw [ax_up_no (by omega)]; exact o5
              have d6 : ax_up (ax_up g5 124 24 (s' + 1)) 124 31 ((O.length : Int) + j) 124 29 = dep + j + 1 := by rw [ax_up_no (by omega), ax_up_no (by omega)]; exact d5
              have dl : dep + (j : Int) + 1 - 1 = dep + j := by omega
              rw [sg93] at SG
              clear hf hs t T TT q q1 q2 q3' q4 sg x1 x2 x3 x3' x5 f2 WT y1 y2 y3 G
              simp (disch := omega) only [ax_ev, ax_kk, ax_ps, ax_r_const, ax_r_lconst, ax_r_str, ax_r_iload, ax_r_lload, ax_r_aload, ax_r_istore, ax_r_astore, ax_r_lstore, ax_r_iinc, ax_r_iadd, ax_r_isub, ax_r_imul, ax_r_idiv, ax_r_irem, ax_r_iand, ax_r_ior, ax_r_ishl, ax_r_ishr, ax_r_iushr, ax_r_i2l, ax_r_l2i, ax_r_i2b, ax_r_ladd, ax_r_lsub, ax_r_lmul, ax_r_ldiv, ax_r_lrem, ax_r_land, ax_r_lor, ax_r_lcmp, ax_r_ifeq, ax_r_ifne, ax_r_iflt, ax_r_ifge, ax_r_ifgt, ax_r_ifle, ax_r_iceq, ax_r_icne, ax_r_iclt, ax_r_icge, ax_r_icgt, ax_r_icle, ax_r_goto, ax_r_tsw, ax_evt_c, ax_evt_n, ax_r_lsw, ax_evu_c, ax_evu_n, ax_r_getI, ax_r_getR, ax_r_putI, ax_r_putZ, ax_r_iald, ax_r_iast, ax_r_lald, ax_r_last, ax_r_bald, ax_r_aald, ax_r_alen, ax_r_bast, ax_r_min, ax_r_max, ax_r_minl, ax_r_maxl, ax_r_copy, ax_r_slen, ax_r_schr, ax_r_dup, ax_r_dup2, ax_r_pop, ax_r_ret, ax_r_lret, ax_r_vret, ax_r_zret, ax_r_aret, ax_r_call, ax_evo, ax_eva, ax_ar, ax_tk, ax_ex, ax_ld, ax_sto, ax_stl, ly_pm, ly_cd, ly_ln, ly_rf, Option.bind_some, Option.map_some, if_true, if_false, true_and, and_true, List.nil_append, List.cons_append, List.append_nil, List.length_nil, List.length_cons, List.headD_cons, true_or, or_true, false_or, or_false, ne_eq, not_false_eq_true, not_true_eq_false, false_and, and_false, List.set_cons_zero, List.set_cons_succ, Nat.reduceAdd, Nat.reduceSub, Nat.reduceMul, Nat.reduceLeDiff, Nat.reduceLT, Nat.reduceEqDiff, ↓reduceIte, Int.reduceNeg, Int.reduceAdd, Int.reduceSub, Int.reduceMul, Int.reduceEq, Int.reduceNe, Int.reduceLE, Int.reduceLT, Int.reduceToNat, Nat.one_ne_zero, Nat.zero_ne_one, Int.cast_ofNat_Int, lc_lt, lc_ge, lc_gt, lc_le, lc_eq, lc_ne, w32i, w64i, tdv, tmd, ltT, ltF, leT, leF, eqT, eqF, dc_M_test, dc_M_top, o5, ol, tp]
              refine SG _ ?_
              rw [ax_kk]
              clear SG
              simp (disch := omega) only [ax_ev, ax_kk, ax_ps, ax_r_const, ax_r_lconst, ax_r_str, ax_r_iload, ax_r_lload, ax_r_aload, ax_r_istore, ax_r_astore, ax_r_lstore, ax_r_iinc, ax_r_iadd, ax_r_isub, ax_r_imul, ax_r_idiv, ax_r_irem, ax_r_iand, ax_r_ior, ax_r_ishl, ax_r_ishr, ax_r_iushr, ax_r_i2l, ax_r_l2i, ax_r_i2b, ax_r_ladd, ax_r_lsub, ax_r_lmul, ax_r_ldiv, ax_r_lrem, ax_r_land, ax_r_lor, ax_r_lcmp, ax_r_ifeq, ax_r_ifne, ax_r_iflt, ax_r_ifge, ax_r_ifgt, ax_r_ifle, ax_r_iceq, ax_r_icne, ax_r_iclt, ax_r_icge, ax_r_icgt, ax_r_icle, ax_r_goto, ax_r_tsw, ax_evt_c, ax_evt_n, ax_r_lsw, ax_evu_c, ax_evu_n, ax_r_getI, ax_r_getR, ax_r_putI, ax_r_putZ, ax_r_iald, ax_r_iast, ax_r_lald, ax_r_last, ax_r_bald, ax_r_aald, ax_r_alen, ax_r_bast, ax_r_min, ax_r_max, ax_r_minl, ax_r_maxl, ax_r_copy, ax_r_slen, ax_r_schr, ax_r_dup, ax_r_dup2, ax_r_pop, ax_r_ret, ax_r_lret, ax_r_vret, ax_r_zret, ax_r_aret, ax_r_call, ax_evo, ax_eva, ax_ar, ax_tk, ax_ex, ax_ld, ax_sto, ax_stl, ly_pm, ly_cd, ly_ln, ly_rf, Option.bind_some, Option.map_some, if_true, if_false, true_and, and_true, List.nil_append, List.cons_append, List.append_nil, List.length_nil, List.length_cons, List.headD_cons, true_or, or_true, false_or, or_false, ne_eq, not_false_eq_true, not_true_eq_false, false_and, and_false, List.set_cons_zero, List.set_cons_succ, Nat.reduceAdd, Nat.reduceSub, Nat.reduceMul, Nat.reduceLeDiff, Nat.reduceLT, Nat.reduceEqDiff, ↓reduceIte, Int.reduceNeg, Int.reduceAdd, Int.reduceSub, Int.reduceMul, Int.reduceEq, Int.reduceNe, Int.reduceLE, Int.reduceLT, Int.reduceToNat, Nat.one_ne_zero, Nat.zero_ne_one, Int.cast_ofNat_Int, lc_lt, lc_ge, lc_gt, lc_le, lc_eq, lc_ne, w32i, w64i, tdv, tmd, ltT, ltF, leT, leF, eqT, eqF, dc_M_test, e5, o6, ol, d6, dl]
              exact H
            · rw [if_neg cl] at hf
              have n93 : sgn b N s' ≠ 93 := fun z => cl (TS2.2 ((sgn_lt (by omega)).1 z))
              obtain ⟨G5, hG5⟩ : ∃ G, G = ax_up (ax_up (ax_up (ax_up g5 124 25 (1 + 8 * s' + 0)) 124 24 (s' + 1)) 124 31 ((O.length : Int) + j)) 124 29 (dep + j) := ⟨_, rfl⟩
              have F6 : G5 124 25 = 1 + 8 * s' := by rw [hG5, ax_up_no (by omega), ax_up_no (by omega), ax_up_no (by omega), ax_up_eq]; omega
              have H := hf (by simp only; omega) G5 (by rw [hG5]; exact mrt_up (mrt_up (mrt_up (mrt_up x5 (.inl ⟨rfl, by omega⟩)) (.inl ⟨rfl, by omega⟩)) (.inl ⟨rfl, by omega⟩)) (.inl ⟨rfl, by omega⟩)) F6 (by rw [hG5, ax_up_no (by omega), ax_up_no (by omega), ax_up_eq]; omega)
              have X := m_texit (g := G5) (F := 1 + 8 * s') (w := 0) (l3 := l3') (l4 := l4') (d := 38) (Q := Q) F6 (by omega) H
              rw [hG5] at X
              have e6 : ax_up g5 124 25 (1 + 8 * s' + 0) 124 24 = s' := by rw [ax_up_no (by omega)]; exact e5
              have o6 : ax_up (ax_up g5 124 25 (1 + 8 * s' + 0)) 124 24 (s' + 1) 124 31 = (O.length : Int) + j + 1 := by rw [ax_up_no (by omega), ax_up_no (by omega)]; exact o5
              have d6 : ax_up (ax_up (ax_up g5 124 25 (1 + 8 * s' + 0)) 124 24 (s' + 1)) 124 31 ((O.length : Int) + j) 124 29 = dep + j + 1 := by rw [ax_up_no (by omega), ax_up_no (by omega), ax_up_no (by omega)]; exact d5
              have dl : dep + (j : Int) + 1 - 1 = dep + j := by omega
              clear hf hs t T TT q q1 q2 q3' q4 sg x1 x2 x3 x3' x5 f2 WT y1 y2 y3 H F6 hG5
              generalize sgn b N s' = xx at *
              simp (disch := omega) only [ax_ev, ax_kk, ax_ps, ax_r_const, ax_r_lconst, ax_r_str, ax_r_iload, ax_r_lload, ax_r_aload, ax_r_istore, ax_r_astore, ax_r_lstore, ax_r_iinc, ax_r_iadd, ax_r_isub, ax_r_imul, ax_r_idiv, ax_r_irem, ax_r_iand, ax_r_ior, ax_r_ishl, ax_r_ishr, ax_r_iushr, ax_r_i2l, ax_r_l2i, ax_r_i2b, ax_r_ladd, ax_r_lsub, ax_r_lmul, ax_r_ldiv, ax_r_lrem, ax_r_land, ax_r_lor, ax_r_lcmp, ax_r_ifeq, ax_r_ifne, ax_r_iflt, ax_r_ifge, ax_r_ifgt, ax_r_ifle, ax_r_iceq, ax_r_icne, ax_r_iclt, ax_r_icge, ax_r_icgt, ax_r_icle, ax_r_goto, ax_r_tsw, ax_evt_c, ax_evt_n, ax_r_lsw, ax_evu_c, ax_evu_n, ax_r_getI, ax_r_getR, ax_r_putI, ax_r_putZ, ax_r_iald, ax_r_iast, ax_r_lald, ax_r_last, ax_r_bald, ax_r_aald, ax_r_alen, ax_r_bast, ax_r_min, ax_r_max, ax_r_minl, ax_r_maxl, ax_r_copy, ax_r_slen, ax_r_schr, ax_r_dup, ax_r_dup2, ax_r_pop, ax_r_ret, ax_r_lret, ax_r_vret, ax_r_zret, ax_r_aret, ax_r_call, ax_evo, ax_eva, ax_ar, ax_tk, ax_ex, ax_ld, ax_sto, ax_stl, ly_pm, ly_cd, ly_ln, ly_rf, Option.bind_some, Option.map_some, if_true, if_false, true_and, and_true, List.nil_append, List.cons_append, List.append_nil, List.length_nil, List.length_cons, List.headD_cons, true_or, or_true, false_or, or_false, ne_eq, not_false_eq_true, not_true_eq_false, false_and, and_false, List.set_cons_zero, List.set_cons_succ, Nat.reduceAdd, Nat.reduceSub, Nat.reduceMul, Nat.reduceLeDiff, Nat.reduceLT, Nat.reduceEqDiff, ↓reduceIte, Int.reduceNeg, Int.reduceAdd, Int.reduceSub, Int.reduceMul, Int.reduceEq, Int.reduceNe, Int.reduceLE, Int.reduceLT, Int.reduceToNat, Nat.one_ne_zero, Nat.zero_ne_one, Int.cast_ofNat_Int, lc_lt, lc_ge, lc_gt, lc_le, lc_eq, lc_ne, w32i, w64i, tdv, tmd, ltT, ltF, leT, leF, eqT, eqF, dc_M_test, dc_M_top, o5, ol, tp]
              refine SG _ ?_
              rw [ax_kk]
              clear SG
              simp (disch := omega) only [ax_ev, ax_kk, ax_ps, ax_r_const, ax_r_lconst, ax_r_str, ax_r_iload, ax_r_lload, ax_r_aload, ax_r_istore, ax_r_astore, ax_r_lstore, ax_r_iinc, ax_r_iadd, ax_r_isub, ax_r_imul, ax_r_idiv, ax_r_irem, ax_r_iand, ax_r_ior, ax_r_ishl, ax_r_ishr, ax_r_iushr, ax_r_i2l, ax_r_l2i, ax_r_i2b, ax_r_ladd, ax_r_lsub, ax_r_lmul, ax_r_ldiv, ax_r_lrem, ax_r_land, ax_r_lor, ax_r_lcmp, ax_r_ifeq, ax_r_ifne, ax_r_iflt, ax_r_ifge, ax_r_ifgt, ax_r_ifle, ax_r_iceq, ax_r_icne, ax_r_iclt, ax_r_icge, ax_r_icgt, ax_r_icle, ax_r_goto, ax_r_tsw, ax_evt_c, ax_evt_n, ax_r_lsw, ax_evu_c, ax_evu_n, ax_r_getI, ax_r_getR, ax_r_putI, ax_r_putZ, ax_r_iald, ax_r_iast, ax_r_lald, ax_r_last, ax_r_bald, ax_r_aald, ax_r_alen, ax_r_bast, ax_r_min, ax_r_max, ax_r_minl, ax_r_maxl, ax_r_copy, ax_r_slen, ax_r_schr, ax_r_dup, ax_r_dup2, ax_r_pop, ax_r_ret, ax_r_lret, ax_r_vret, ax_r_zret, ax_r_aret, ax_r_call, ax_evo, ax_eva, ax_ar, ax_tk, ax_ex, ax_ld, ax_sto, ax_stl, ly_pm, ly_cd, ly_ln, ly_rf, Option.bind_some, Option.map_some, if_true, if_false, true_and, and_true, List.nil_append, List.cons_append, List.append_nil, List.length_nil, List.length_cons, List.headD_cons, true_or, or_true, false_or, or_false, ne_eq, not_false_eq_true, not_true_eq_false, false_and, and_false, List.set_cons_zero, List.set_cons_succ, Nat.reduceAdd, Nat.reduceSub, Nat.reduceMul, Nat.reduceLeDiff, Nat.reduceLT, Nat.reduceEqDiff, ↓reduceIte, Int.reduceNeg, Int.reduceAdd, Int.reduceSub, Int.reduceMul, Int.reduceEq, Int.reduceNe, Int.reduceLE, Int.reduceLT, Int.reduceToNat, Nat.one_ne_zero, Nat.zero_ne_one, Int.cast_ofNat_Int, lc_lt, lc_ge, lc_gt, lc_le, lc_eq, lc_ne, w32i, w64i, tdv, tmd, ltT, ltF, leT, leF, eqT, eqF, dc_M_test, dc_M_fails, e5, F5, e6, o6, ol, d6, dl]
              exact X)
        rw [ax_kk]
        clear hf hs t T TT q q1 q2 q3' q4 sg x1 x2 x3 x3' f2 WT
        simp (disch := omega) only [ax_ev, ax_kk, ax_ps, ax_r_const, ax_r_lconst, ax_r_str, ax_r_iload, ax_r_lload, ax_r_aload, ax_r_istore, ax_r_astore, ax_r_lstore, ax_r_iinc, ax_r_iadd, ax_r_isub, ax_r_imul, ax_r_idiv, ax_r_irem, ax_r_iand, ax_r_ior, ax_r_ishl, ax_r_ishr, ax_r_iushr, ax_r_i2l, ax_r_l2i, ax_r_i2b, ax_r_ladd, ax_r_lsub, ax_r_lmul, ax_r_ldiv, ax_r_lrem, ax_r_land, ax_r_lor, ax_r_lcmp, ax_r_ifeq, ax_r_ifne, ax_r_iflt, ax_r_ifge, ax_r_ifgt, ax_r_ifle, ax_r_iceq, ax_r_icne, ax_r_iclt, ax_r_icge, ax_r_icgt, ax_r_icle, ax_r_goto, ax_r_tsw, ax_evt_c, ax_evt_n, ax_r_lsw, ax_evu_c, ax_evu_n, ax_r_getI, ax_r_getR, ax_r_putI, ax_r_putZ, ax_r_iald, ax_r_iast, ax_r_lald, ax_r_last, ax_r_bald, ax_r_aald, ax_r_alen, ax_r_bast, ax_r_min, ax_r_max, ax_r_minl, ax_r_maxl, ax_r_copy, ax_r_slen, ax_r_schr, ax_r_dup, ax_r_dup2, ax_r_pop, ax_r_ret, ax_r_lret, ax_r_vret, ax_r_zret, ax_r_aret, ax_r_call, ax_evo, ax_eva, ax_ar, ax_tk, ax_ex, ax_ld, ax_sto, ax_stl, ly_pm, ly_cd, ly_ln, ly_rf, Option.bind_some, Option.map_some, if_true, if_false, true_and, and_true, List.nil_append, List.cons_append, List.append_nil, List.length_nil, List.length_cons, List.headD_cons, true_or, or_true, false_or, or_false, ne_eq, not_false_eq_true, not_true_eq_false, false_and, and_false, List.set_cons_zero, List.set_cons_succ, Nat.reduceAdd, Nat.reduceSub, Nat.reduceMul, Nat.reduceLeDiff, Nat.reduceLT, Nat.reduceEqDiff, ↓reduceIte, Int.reduceNeg, Int.reduceAdd, Int.reduceSub, Int.reduceMul, Int.reduceEq, Int.reduceNe, Int.reduceLE, Int.reduceLT, Int.reduceToNat, Nat.one_ne_zero, Nat.zero_ne_one, Int.cast_ofNat_Int, lc_lt, lc_ge, lc_gt, lc_le, lc_eq, lc_ne, w32i, w64i, tdv, tmd, ltT, ltF, leT, leF, eqT, eqF, dc_M_test, dc_M_fact, e3]
        exact K
    · have n91 : sgn b N sx ≠ 91 := fun z => op (TS.2 ((sgn_lt (by omega)).1 z))
      rw [if_neg (fun z => by rcases z.2 with h | h; exact op h; exact nw h), if_neg op] at hf hs
      have CP := fun Q' => m_compared t r0 r6 (vs := vs) (n := n) (M1 := M1) (E := E + 3 * j) (by omega) (d := 30) (Q := Q') (p := sx) (s := sx) (c := c) (by rw [← sk1]; exact rnT_rn _ _ _ _) sx0 b1.2 c0 c6 (m := m) (g := g2) sg q2.1 (by omega)
      have BT := bit_pC b N sx c
      generalize pC b N sx c = R at *
      obtain ⟨f, s', c', V⟩ := R
      dsimp only at *
      have K : ax_Ev (36) 189 0 [(2, 124), (9, 0), (9, 0)] [] (L0, g2) (ax_k 37 187 63 [(2, 124)] [] (ax_k 38 186 28 [(2, 124), (0, 1), (0, 1), l3, l4] [] Q)) := by
        refine CP _ (fun z => ?_) (fun z => ?_)
        · rw [if_pos z] at hf
          intro g4 y1 y2 y3
          have H := hf z g4 (mrt_mrf x2 y1) y2 (by omega)
          have X := m_texit (g := g4) (F := f) (w := 0) (l3 := l3) (l4 := l4) (d := 38) (Q := Q) y2 z H
          rw [ax_kk]
          clear hf hs t T CP q q1 q2 sg x1 x2 f2 WT y1 H
          simp (disch := omega) only [ax_ev, ax_kk, ax_ps, ax_r_const, ax_r_lconst, ax_r_str, ax_r_iload, ax_r_lload, ax_r_aload, ax_r_istore, ax_r_astore, ax_r_lstore, ax_r_iinc, ax_r_iadd, ax_r_isub, ax_r_imul, ax_r_idiv, ax_r_irem, ax_r_iand, ax_r_ior, ax_r_ishl, ax_r_ishr, ax_r_iushr, ax_r_i2l, ax_r_l2i, ax_r_i2b, ax_r_ladd, ax_r_lsub, ax_r_lmul, ax_r_ldiv, ax_r_lrem, ax_r_land, ax_r_lor, ax_r_lcmp, ax_r_ifeq, ax_r_ifne, ax_r_iflt, ax_r_ifge, ax_r_ifgt, ax_r_ifle, ax_r_iceq, ax_r_icne, ax_r_iclt, ax_r_icge, ax_r_icgt, ax_r_icle, ax_r_goto, ax_r_tsw, ax_evt_c, ax_evt_n, ax_r_lsw, ax_evu_c, ax_evu_n, ax_r_getI, ax_r_getR, ax_r_putI, ax_r_putZ, ax_r_iald, ax_r_iast, ax_r_lald, ax_r_last, ax_r_bald, ax_r_aald, ax_r_alen, ax_r_bast, ax_r_min, ax_r_max, ax_r_minl, ax_r_maxl, ax_r_copy, ax_r_slen, ax_r_schr, ax_r_dup, ax_r_dup2, ax_r_pop, ax_r_ret, ax_r_lret, ax_r_vret, ax_r_zret, ax_r_aret, ax_r_call, ax_evo, ax_eva, ax_ar, ax_tk, ax_ex, ax_ld, ax_sto, ax_stl, ly_pm, ly_cd, ly_ln, ly_rf, Option.bind_some, Option.map_some, if_true, if_false, true_and, and_true, List.nil_append, List.cons_append, List.append_nil, List.length_nil, List.length_cons, List.headD_cons, true_or, or_true, false_or, or_false, ne_eq, not_false_eq_true, not_true_eq_false, false_and, and_false, List.set_cons_zero, List.set_cons_succ, Nat.reduceAdd, Nat.reduceSub, Nat.reduceMul, Nat.reduceLeDiff, Nat.reduceLT, Nat.reduceEqDiff, ↓reduceIte, Int.reduceNeg, Int.reduceAdd, Int.reduceSub, Int.reduceMul, Int.reduceEq, Int.reduceNe, Int.reduceLE, Int.reduceLT, Int.reduceToNat, Nat.one_ne_zero, Nat.zero_ne_one, Int.cast_ofNat_Int, lc_lt, lc_ge, lc_gt, lc_le, lc_eq, lc_ne, w32i, w64i, tdv, tmd, ltT, ltF, leT, leF, eqT, eqF, dc_M_test, dc_M_fact]
          exact X
        · rw [if_neg (by omega)] at hs
          dsimp only at hs
          unfold SUMR
          dsimp only
          intro g4 m4 y1 y2 y3 y4 y5 y6 y7
          have H := hs rfl g4 m4 j V s' l3 l4 (mrt_mrf x2 y1) (fun F => by rw [show dep + (j : Int) - dep = j by omega]) (BT z) y2 (mT_mrf q2 y1 y3) y7 (by omega) (by omega) (by omega) (by omega) (by omega)
          rw [ax_kk]
          clear hf hs t T CP q q1 q2 sg x1 x2 f2 WT y1 y2 y3
          simp (disch := omega) only [ax_ev, ax_kk, ax_ps, ax_r_const, ax_r_lconst, ax_r_str, ax_r_iload, ax_r_lload, ax_r_aload, ax_r_istore, ax_r_astore, ax_r_lstore, ax_r_iinc, ax_r_iadd, ax_r_isub, ax_r_imul, ax_r_idiv, ax_r_irem, ax_r_iand, ax_r_ior, ax_r_ishl, ax_r_ishr, ax_r_iushr, ax_r_i2l, ax_r_l2i, ax_r_i2b, ax_r_ladd, ax_r_lsub, ax_r_lmul, ax_r_ldiv, ax_r_lrem, ax_r_land, ax_r_lor, ax_r_lcmp, ax_r_ifeq, ax_r_ifne, ax_r_iflt, ax_r_ifge, ax_r_ifgt, ax_r_ifle, ax_r_iceq, ax_r_icne, ax_r_iclt, ax_r_icge, ax_r_icgt, ax_r_icle, ax_r_goto, ax_r_tsw, ax_evt_c, ax_evt_n, ax_r_lsw, ax_evu_c, ax_evu_n, ax_r_getI, ax_r_getR, ax_r_putI, ax_r_putZ, ax_r_iald, ax_r_iast, ax_r_lald, ax_r_last, ax_r_bald, ax_r_aald, ax_r_alen, ax_r_bast, ax_r_min, ax_r_max, ax_r_minl, ax_r_maxl, ax_r_copy, ax_r_slen, ax_r_schr, ax_r_dup, ax_r_dup2, ax_r_pop, ax_r_ret, ax_r_lret, ax_r_vret, ax_r_zret, ax_r_aret, ax_r_call, ax_evo, ax_eva, ax_ar, ax_tk, ax_ex, ax_ld, ax_sto, ax_stl, ly_pm, ly_cd, ly_ln, ly_rf, Option.bind_some, Option.map_some, if_true, if_false, true_and, and_true, List.nil_append, List.cons_append, List.append_nil, List.length_nil, List.length_cons, List.headD_cons, true_or, or_true, false_or, or_false, ne_eq, not_false_eq_true, not_true_eq_false, false_and, and_false, List.set_cons_zero, List.set_cons_succ, Nat.reduceAdd, Nat.reduceSub, Nat.reduceMul, Nat.reduceLeDiff, Nat.reduceLT, Nat.reduceEqDiff, ↓reduceIte, Int.reduceNeg, Int.reduceAdd, Int.reduceSub, Int.reduceMul, Int.reduceEq, Int.reduceNe, Int.reduceLE, Int.reduceLT, Int.reduceToNat, Nat.one_ne_zero, Nat.zero_ne_one, Int.cast_ofNat_Int, lc_lt, lc_ge, lc_gt, lc_le, lc_eq, lc_ne, w32i, w64i, tdv, tmd, ltT, ltF, leT, leF, eqT, eqF, dc_M_test, dc_M_fact]
          exact H
      clear hf hs t T CP q q1 q2 sg x1 x2 f2 WT
      generalize sgn b N sx = xx at *
      simp (disch := omega) only [ax_ev, ax_kk, ax_ps, ax_r_const, ax_r_lconst, ax_r_str, ax_r_iload, ax_r_lload, ax_r_aload, ax_r_istore, ax_r_astore, ax_r_lstore, ax_r_iinc, ax_r_iadd, ax_r_isub, ax_r_imul, ax_r_idiv, ax_r_irem, ax_r_iand, ax_r_ior, ax_r_ishl, ax_r_ishr, ax_r_iushr, ax_r_i2l, ax_r_l2i, ax_r_i2b, ax_r_ladd, ax_r_lsub, ax_r_lmul, ax_r_ldiv, ax_r_lrem, ax_r_land, ax_r_lor, ax_r_lcmp, ax_r_ifeq, ax_r_ifne, ax_r_iflt, ax_r_ifge, ax_r_ifgt, ax_r_ifle, ax_r_iceq, ax_r_icne, ax_r_iclt, ax_r_icge, ax_r_icgt, ax_r_icle, ax_r_goto, ax_r_tsw, ax_evt_c, ax_evt_n, ax_r_lsw, ax_evu_c, ax_evu_n, ax_r_getI, ax_r_getR, ax_r_putI, ax_r_putZ, ax_r_iald, ax_r_iast, ax_r_lald, ax_r_last, ax_r_bald, ax_r_aald, ax_r_alen, ax_r_bast, ax_r_min, ax_r_max, ax_r_minl, ax_r_maxl, ax_r_copy, ax_r_slen, ax_r_schr, ax_r_dup, ax_r_dup2, ax_r_pop, ax_r_ret, ax_r_lret, ax_r_vret, ax_r_zret, ax_r_aret, ax_r_call, ax_evo, ax_eva, ax_ar, ax_tk, ax_ex, ax_ld, ax_sto, ax_stl, ly_pm, ly_cd, ly_ln, ly_rf, Option.bind_some, Option.map_some, if_true, if_false, true_and, and_true, List.nil_append, List.cons_append, List.append_nil, List.length_nil, List.length_cons, List.headD_cons, true_or, or_true, false_or, or_false, ne_eq, not_false_eq_true, not_true_eq_false, false_and, and_false, List.set_cons_zero, List.set_cons_succ, Nat.reduceAdd, Nat.reduceSub, Nat.reduceMul, Nat.reduceLeDiff, Nat.reduceLT, Nat.reduceEqDiff, ↓reduceIte, Int.reduceNeg, Int.reduceAdd, Int.reduceSub, Int.reduceMul, Int.reduceEq, Int.reduceNe, Int.reduceLE, Int.reduceLT, Int.reduceToNat, Nat.one_ne_zero, Nat.zero_ne_one, Int.cast_ofNat_Int, lc_lt, lc_ge, lc_gt, lc_le, lc_eq, lc_ne, w32i, w64i, tdv, tmd, ltT, ltF, leT, leF, eqT, eqF, dc_M_test, dc_M_fact]
      exact K
