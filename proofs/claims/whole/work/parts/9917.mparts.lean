/-! kiln: the clauses in the reference -/
def MT (T g : Int → Int → Int) : Prop := (g 140 0 = T 0 0 ∧ g 140 1 = T 0 2 ∧ g 140 2 = T 0 3 ∧ g 140 3 = T 0 4 ∧ g 140 4 = T 0 1) ∧ (∀ c, 0 ≤ c → c < 9 → g 141 c = T 3 c) ∧ (∀ y, 0 ≤ y → y < T 0 2 → g 142 y = T 1 y ∧ g 143 y = T 2 y) ∧ (∀ r, 0 ≤ r → r < T 0 3 → g 144 r = T 4 r ∧ g 145 r = T 5 r ∧ g 146 r = T 6 r)
def mB (g : Int → Int → Int) : Prop := ∀ y, 0 ≤ y → y < 3 → (0 ≤ g 142 y ∧ g 142 y ≤ 99999) ∧ (0 ≤ g 143 y ∧ g 143 y ≤ 99999)
def mfr (g g' : Int → Int → Int) : Prop := ∀ k j, ¬ (k = 124 ∧ (j = 24 ∨ j = 25)) → ¬ (140 ≤ k ∧ k ≤ 146) → g' k j = g k j
def mR (b : Int → Int) (N : Int) (g g' : Int → Int → Int) (K : Int × Int × (Int → Int → Int)) : Prop := mfr g g' ∧ mB g' ∧ (0 ≤ g' 124 24 ∧ g' 124 24 ≤ N) ∧ g' 124 25 = K.1 ∧ (K.1 = 0 → MT K.2.2 g' ∧ sk b N (g' 124 24) = K.2.1)
def mS (b : Int → Int) (N : Int) (g : Int → Int → Int) (s : Int) (T : Int → Int → Int) : Prop := (tm b N g ∧ MT T g ∧ mB g) ∧ (0 ≤ g 124 24 ∧ g 124 24 ≤ N) ∧ g 124 25 = 0 ∧ sk b N (g 124 24) = s
def am (g g' : Int → Int → Int) : Prop := ∀ k j, ¬ (k = 124 ∧ (j = 24 ∨ j = 25)) → g' k j = g k j
theorem MT_same {T g g' : Int → Int → Int} (m : MT T g) (e : am g g') : MT T g' := by
  obtain ⟨⟨a, b, c, d, f⟩, m2, m3, m4⟩ := m
  refine ⟨⟨by rw [e _ _ (by omega)]; exact a, by rw [e _ _ (by omega)]; exact b, by rw [e _ _ (by omega)]; exact c, by rw [e _ _ (by omega)]; exact d, by rw [e _ _ (by omega)]; exact f⟩, fun c a b => by rw [e _ _ (by omega)]; exact m2 c a b, fun y a b => ?_, fun r a b => ?_⟩
  · rw [e 142 y (by omega), e 143 y (by omega)]; exact m3 y a b
  · rw [e 144 r (by omega), e 145 r (by omega), e 146 r (by omega)]; exact m4 r a b
theorem mB_same {g g' : Int → Int → Int} (m : mB g) (e : am g g') : mB g' := fun y a b => by rw [e 142 y (by omega), e 143 y (by omega)]; exact m y a b
theorem mfr_am {a g g' : Int → Int → Int} (x : mfr a g) (e : am g g') : mfr a g' := fun k j e1 e2 => by rw [e k j e1]; exact x k j e1 e2
theorem mfr_up {a g : Int → Int → Int} (x : mfr a g) {k j v : Int} (h : 140 ≤ k ∧ k ≤ 146) : mfr a (ax_up g k j v) := fun i c e1 e2 => by simp only [ax_up]; rw [if_neg (by omega)]; exact x i c e1 e2
theorem mfr_refl (g : Int → Int → Int) : mfr g g := fun _ _ _ _ => rfl
theorem tm_mfr {b : Int → Int} {N : Int} {g g' : Int → Int → Int} (m : tm b N g) (e : mfr g g') : tm b N g' := ⟨by rw [e _ _ (by omega) (by omega)]; exact m.1, fun j j0 j1 => by rw [e _ _ (by omega) (by omega)]; exact m.2 j j0 j1⟩
theorem mB_up {g : Int → Int → Int} (m : mB g) {k j v : Int} (h : (k = 142 ∨ k = 143) → 0 ≤ v ∧ v ≤ 99999) : mB (ax_up g k j v) := by
  intro y a b
  have := m y a b
  simp only [ax_up]
  refine ⟨?_, ?_⟩ <;> split <;> omega
theorem up_p {g : Int → Int → Int} {k j v : Int} (h : 140 ≤ k) (i : Int) : ax_up g k j v 124 i = g 124 i := by simp only [ax_up]; rw [if_neg (by omega)]
set_option maxRecDepth 100000 in
set_option maxHeartbeats 4000000 in
theorem m_k0 {b : Int → Int} {N s : Int} (t : tx b N) {g T : Int → Int → Int} (c : mS b N g s T) {d : Nat} {Q : ax_V → ax_H → Prop} (hq : ∀ g', mR b N g g' (kK b N s T) → Q (9, 0) (L0, g')) : ax_Ev (d + 5) 166 0 [(2, 124), (0, 0), (9, 0)] [] (L0, g) Q := by
  obtain ⟨⟨c1, c2, c3⟩, ⟨p0, pN⟩, c4, c5⟩ := c
  subst c5
  unfold kK at hq
  simp (disch := omega) only [ax_ev, ax_kk, ax_ps, ax_r_const, ax_r_lconst, ax_r_str, ax_r_iload, ax_r_lload, ax_r_aload, ax_r_istore, ax_r_astore, ax_r_lstore, ax_r_iinc, ax_r_iadd, ax_r_isub, ax_r_imul, ax_r_idiv, ax_r_irem, ax_r_iand, ax_r_ior, ax_r_ishl, ax_r_ishr, ax_r_iushr, ax_r_i2l, ax_r_l2i, ax_r_i2b, ax_r_ladd, ax_r_lsub, ax_r_lmul, ax_r_ldiv, ax_r_lrem, ax_r_land, ax_r_lor, ax_r_lcmp, ax_r_ifeq, ax_r_ifne, ax_r_iflt, ax_r_ifge, ax_r_ifgt, ax_r_ifle, ax_r_iceq, ax_r_icne, ax_r_iclt, ax_r_icge, ax_r_icgt, ax_r_icle, ax_r_goto, ax_r_tsw, ax_evt_c, ax_evt_n, ax_r_lsw, ax_evu_c, ax_evu_n, ax_r_getI, ax_r_getR, ax_r_putI, ax_r_putZ, ax_r_iald, ax_r_iast, ax_r_lald, ax_r_last, ax_r_bald, ax_r_aald, ax_r_alen, ax_r_bast, ax_r_min, ax_r_max, ax_r_minl, ax_r_maxl, ax_r_copy, ax_r_slen, ax_r_schr, ax_r_dup, ax_r_dup2, ax_r_pop, ax_r_ret, ax_r_lret, ax_r_vret, ax_r_zret, ax_r_aret, ax_r_call, ax_evo, ax_eva, ax_ar, ax_tk, ax_ex, ax_ld, ax_sto, ax_stl, ly_pm, ly_cd, ly_ln, ly_rf, Option.bind_some, Option.map_some, if_true, if_false, true_and, and_true, List.nil_append, List.cons_append, List.append_nil, List.length_nil, List.length_cons, List.headD_cons, true_or, or_true, false_or, or_false, ne_eq, not_false_eq_true, not_true_eq_false, false_and, and_false, List.set_cons_zero, List.set_cons_succ, Nat.reduceAdd, Nat.reduceSub, Nat.reduceMul, Nat.reduceLeDiff, Nat.reduceLT, Nat.reduceEqDiff, ↓reduceIte, Int.reduceNeg, Int.reduceAdd, Int.reduceSub, Int.reduceMul, Int.reduceEq, Int.reduceNe, Int.reduceLE, Int.reduceLT, Int.reduceToNat, Nat.one_ne_zero, Nat.zero_ne_one, Int.cast_ofNat_Int, lc_lt, lc_ge, lc_gt, lc_le, lc_eq, lc_ne, w32i, w64i, tdv, tmd, ltT, ltF, leT, leF, eqT, eqF, dc_M_kilnPart]
  refine m_amount t c1 rfl c4 p0 pN (by omega) (by omega) (by omega) (by omega) ?_
  intro g1 v f1 r1 F1 vb S1
  rw [if_pos rfl] at F1
  rw [ax_kk]
  have x1 : mfr g (ax_up g1 140 0 v) := mfr_up (mfr_am (mfr_refl g) f1) (by omega)
  have q1 : tm b N (ax_up g1 140 0 v) := tm_mfr c1 x1
  have B1 : mB (ax_up g1 140 0 v) := mB_up (mB_same c3 f1) (by omega)
  have r1' : 0 ≤ ax_up g1 140 0 v 124 24 ∧ ax_up g1 140 0 v 124 24 ≤ N := by rw [up_p (by omega)]; exact r1
  have F1' : ax_up g1 140 0 v 124 25 = nf b N (sk b N (g 124 24)) 3 9 := by rw [up_p (by omega)]; exact F1
  simp (disch := omega) only [ax_ev, ax_kk, ax_ps, ax_r_const, ax_r_lconst, ax_r_str, ax_r_iload, ax_r_lload, ax_r_aload, ax_r_istore, ax_r_astore, ax_r_lstore, ax_r_iinc, ax_r_iadd, ax_r_isub, ax_r_imul, ax_r_idiv, ax_r_irem, ax_r_iand, ax_r_ior, ax_r_ishl, ax_r_ishr, ax_r_iushr, ax_r_i2l, ax_r_l2i, ax_r_i2b, ax_r_ladd, ax_r_lsub, ax_r_lmul, ax_r_ldiv, ax_r_lrem, ax_r_land, ax_r_lor, ax_r_lcmp, ax_r_ifeq, ax_r_ifne, ax_r_iflt, ax_r_ifge, ax_r_ifgt, ax_r_ifle, ax_r_iceq, ax_r_icne, ax_r_iclt, ax_r_icge, ax_r_icgt, ax_r_icle, ax_r_goto, ax_r_tsw, ax_evt_c, ax_evt_n, ax_r_lsw, ax_evu_c, ax_evu_n, ax_r_getI, ax_r_getR, ax_r_putI, ax_r_putZ, ax_r_iald, ax_r_iast, ax_r_lald, ax_r_last, ax_r_bald, ax_r_aald, ax_r_alen, ax_r_bast, ax_r_min, ax_r_max, ax_r_minl, ax_r_maxl, ax_r_copy, ax_r_slen, ax_r_schr, ax_r_dup, ax_r_dup2, ax_r_pop, ax_r_ret, ax_r_lret, ax_r_vret, ax_r_zret, ax_r_aret, ax_r_call, ax_evo, ax_eva, ax_ar, ax_tk, ax_ex, ax_ld, ax_sto, ax_stl, ly_pm, ly_cd, ly_ln, ly_rf, Option.bind_some, Option.map_some, if_true, if_false, true_and, and_true, List.nil_append, List.cons_append, List.append_nil, List.length_nil, List.length_cons, List.headD_cons, true_or, or_true, false_or, or_false, ne_eq, not_false_eq_true, not_true_eq_false, false_and, and_false, List.set_cons_zero, List.set_cons_succ, Nat.reduceAdd, Nat.reduceSub, Nat.reduceMul, Nat.reduceLeDiff, Nat.reduceLT, Nat.reduceEqDiff, ↓reduceIte, Int.reduceNeg, Int.reduceAdd, Int.reduceSub, Int.reduceMul, Int.reduceEq, Int.reduceNe, Int.reduceLE, Int.reduceLT, Int.reduceToNat, Nat.one_ne_zero, Nat.zero_ne_one, Int.cast_ofNat_Int, lc_lt, lc_ge, lc_gt, lc_le, lc_eq, lc_ne, w32i, w64i, tdv, tmd, ltT, ltF, leT, leF, eqT, eqF, dc_M_kilnPart]
  refine m_amount t q1 rfl F1' r1'.1 r1'.2 (by omega) (by omega) (by omega) (by omega) ?_
  intro g2 v2 f2 r2 F2 vb2 S2
  have x2 : mfr g (ax_up g2 140 4 v2) := mfr_up (mfr_am x1 f2) (by omega)
  have H := hq (ax_up g2 140 4 v2) ⟨x2, mB_up (mB_same B1 f2) (by omega), by rw [up_p (by omega)]; exact r2, by
    rw [up_p (by omega), F2]
    split
    · rename_i z
      rw [if_neg (by omega)]
      have s1 := S1 rfl z
      rw [up_p (by omega), s1.2]
      show nf b N (nxT b N _) 0 999 = _
      split
      · rfl
      · rename_i z2; simp only; omega
    · rename_i z
      first | rfl | rw [if_pos z], fun z => by
    split at z
    · rename_i y; exact absurd z y
    · rename_i y
      rw [if_neg y]
      have y' : nf b N (sk b N (g 124 24)) 3 9 = 0 := by omega
      have s1 := S1 rfl y'
      rw [up_p (by omega)] at S2
      rw [s1.2] at S2
      split at z
      · rename_i y2; exact absurd z y2
      · rename_i y2
        rw [if_neg y2]
        have s2 := S2 y' (by have : nf b N (nxT b N (sk b N (g 124 24))) 0 999 = 0 := by omega
                             exact this)
        obtain ⟨⟨a, a2, a3, a4, a5⟩, m2, m3, m4⟩ := c2
        have E : ∀ k j, ¬ (k = 124 ∧ (j = 24 ∨ j = 25)) → ¬ (k = 140 ∧ (j = 0 ∨ j = 4)) → ax_up g2 140 4 v2 k j = g k j := fun k j e1 e2 => by
          rw [ax_up_no (by omega), f2 k j e1, ax_up_no (by omega), f1 k j e1]
        refine ⟨⟨⟨?_, ?_, ?_, ?_, ?_⟩, fun c x y => ?_, fun c x y => ?_, fun c x y => ?_⟩, ?_⟩
        · rw [ax_up_no (by omega), f2 _ _ (by omega), ax_up_eq, s1.1]; simp [ax_up]
        · rw [E _ _ (by omega) (by omega)]; simp only [ax_up]; rw [if_neg (by omega), if_neg (by omega)]; exact a2
        · rw [E _ _ (by omega) (by omega)]; simp only [ax_up]; rw [if_neg (by omega), if_neg (by omega)]; exact a3
        · rw [E _ _ (by omega) (by omega)]; simp only [ax_up]; rw [if_neg (by omega), if_neg (by omega)]; exact a4
        · rw [ax_up_eq, s2.1]; simp [ax_up]; rfl
        · rw [E _ _ (by omega) (by omega)]; simp only [ax_up]; rw [if_neg (by omega), if_neg (by omega)]; exact m2 c x y
        · rw [E _ _ (by omega) (by omega), E _ _ (by omega) (by omega)]; simp only [ax_up, Int.reduceEq, false_and, and_false, if_false] at y ⊢; exact m3 c x y
        · rw [E _ _ (by omega) (by omega), E _ _ (by omega) (by omega), E _ _ (by omega) (by omega)]; simp only [ax_up, Int.reduceEq, false_and, and_false, if_false] at y ⊢; exact m4 c x y
        · rw [up_p (by omega), s2.2]; rfl⟩
  rw [ax_kk]
  clear hq t f1 f2 S1 S2 x1 x2 q1 B1 c1 c2 c3
  simp (disch := omega) only [ax_ev, ax_kk, ax_ps, ax_r_const, ax_r_lconst, ax_r_str, ax_r_iload, ax_r_lload, ax_r_aload, ax_r_istore, ax_r_astore, ax_r_lstore, ax_r_iinc, ax_r_iadd, ax_r_isub, ax_r_imul, ax_r_idiv, ax_r_irem, ax_r_iand, ax_r_ior, ax_r_ishl, ax_r_ishr, ax_r_iushr, ax_r_i2l, ax_r_l2i, ax_r_i2b, ax_r_ladd, ax_r_lsub, ax_r_lmul, ax_r_ldiv, ax_r_lrem, ax_r_land, ax_r_lor, ax_r_lcmp, ax_r_ifeq, ax_r_ifne, ax_r_iflt, ax_r_ifge, ax_r_ifgt, ax_r_ifle, ax_r_iceq, ax_r_icne, ax_r_iclt, ax_r_icge, ax_r_icgt, ax_r_icle, ax_r_goto, ax_r_tsw, ax_evt_c, ax_evt_n, ax_r_lsw, ax_evu_c, ax_evu_n, ax_r_getI, ax_r_getR, ax_r_putI, ax_r_putZ, ax_r_iald, ax_r_iast, ax_r_lald, ax_r_last, ax_r_bald, ax_r_aald, ax_r_alen, ax_r_bast, ax_r_min, ax_r_max, ax_r_minl, ax_r_maxl, ax_r_copy, ax_r_slen, ax_r_schr, ax_r_dup, ax_r_dup2, ax_r_pop, ax_r_ret, ax_r_lret, ax_r_vret, ax_r_zret, ax_r_aret, ax_r_call, ax_evo, ax_eva, ax_ar, ax_tk, ax_ex, ax_ld, ax_sto, ax_stl, ly_pm, ly_cd, ly_ln, ly_rf, Option.bind_some, Option.map_some, if_true, if_false, true_and, and_true, List.nil_append, List.cons_append, List.append_nil, List.length_nil, List.length_cons, List.headD_cons, true_or, or_true, false_or, or_false, ne_eq, not_false_eq_true, not_true_eq_false, false_and, and_false, List.set_cons_zero, List.set_cons_succ, Nat.reduceAdd, Nat.reduceSub, Nat.reduceMul, Nat.reduceLeDiff, Nat.reduceLT, Nat.reduceEqDiff, ↓reduceIte, Int.reduceNeg, Int.reduceAdd, Int.reduceSub, Int.reduceMul, Int.reduceEq, Int.reduceNe, Int.reduceLE, Int.reduceLT, Int.reduceToNat, Nat.one_ne_zero, Nat.zero_ne_one, Int.cast_ofNat_Int, lc_lt, lc_ge, lc_gt, lc_le, lc_eq, lc_ne, w32i, w64i, tdv, tmd, ltT, ltF, leT, leF, eqT, eqF, dc_M_kilnPart]
  exact H
set_option maxRecDepth 100000 in
set_option maxHeartbeats 4000000 in
theorem m_k1 {b : Int → Int} {N s : Int} (t : tx b N) {g T : Int → Int → Int} (c : mS b N g s T) (y0 : 0 ≤ T 0 2) (y3 : T 0 2 < 3) {d : Nat} {Q : ax_V → ax_H → Prop} (hq : ∀ g', mR b N g g' (kC b N s T) → Q (9, 0) (L0, g')) : ax_Ev (d + 5) 166 0 [(2, 124), (0, 1), (9, 0)] [] (L0, g) Q := by
  obtain ⟨⟨c1, c2, c3⟩, ⟨p0, pN⟩, c4, c5⟩ := c
  subst c5
  have ey : g 140 1 = T 0 2 := c2.1.2.1
  unfold kC at hq
  simp (disch := omega) only [ax_ev, ax_kk, ax_ps, ax_r_const, ax_r_lconst, ax_r_str, ax_r_iload, ax_r_lload, ax_r_aload, ax_r_istore, ax_r_astore, ax_r_lstore, ax_r_iinc, ax_r_iadd, ax_r_isub, ax_r_imul, ax_r_idiv, ax_r_irem, ax_r_iand, ax_r_ior, ax_r_ishl, ax_r_ishr, ax_r_iushr, ax_r_i2l, ax_r_l2i, ax_r_i2b, ax_r_ladd, ax_r_lsub, ax_r_lmul, ax_r_ldiv, ax_r_lrem, ax_r_land, ax_r_lor, ax_r_lcmp, ax_r_ifeq, ax_r_ifne, ax_r_iflt, ax_r_ifge, ax_r_ifgt, ax_r_ifle, ax_r_iceq, ax_r_icne, ax_r_iclt, ax_r_icge, ax_r_icgt, ax_r_icle, ax_r_goto, ax_r_tsw, ax_evt_c, ax_evt_n, ax_r_lsw, ax_evu_c, ax_evu_n, ax_r_getI, ax_r_getR, ax_r_putI, ax_r_putZ, ax_r_iald, ax_r_iast, ax_r_lald, ax_r_last, ax_r_bald, ax_r_aald, ax_r_alen, ax_r_bast, ax_r_min, ax_r_max, ax_r_minl, ax_r_maxl, ax_r_copy, ax_r_slen, ax_r_schr, ax_r_dup, ax_r_dup2, ax_r_pop, ax_r_ret, ax_r_lret, ax_r_vret, ax_r_zret, ax_r_aret, ax_r_call, ax_evo, ax_eva, ax_ar, ax_tk, ax_ex, ax_ld, ax_sto, ax_stl, ly_pm, ly_cd, ly_ln, ly_rf, Option.bind_some, Option.map_some, if_true, if_false, true_and, and_true, List.nil_append, List.cons_append, List.append_nil, List.length_nil, List.length_cons, List.headD_cons, true_or, or_true, false_or, or_false, ne_eq, not_false_eq_true, not_true_eq_false, false_and, and_false, List.set_cons_zero, List.set_cons_succ, Nat.reduceAdd, Nat.reduceSub, Nat.reduceMul, Nat.reduceLeDiff, Nat.reduceLT, Nat.reduceEqDiff, ↓reduceIte, Int.reduceNeg, Int.reduceAdd, Int.reduceSub, Int.reduceMul, Int.reduceEq, Int.reduceNe, Int.reduceLE, Int.reduceLT, Int.reduceToNat, Nat.one_ne_zero, Nat.zero_ne_one, Int.cast_ofNat_Int, lc_lt, lc_ge, lc_gt, lc_le, lc_eq, lc_ne, w32i, w64i, tdv, tmd, ltT, ltF, leT, leF, eqT, eqF, dc_M_kilnPart, ey]
  refine m_amount t c1 rfl c4 p0 pN (by omega) (by omega) (by omega) (by omega) ?_
  intro g1 v f1 r1 F1 vb S1
  rw [if_pos rfl] at F1
  rw [ax_kk]
  have x1 : mfr g (ax_up g1 142 (T 0 2) v) := mfr_up (mfr_am (mfr_refl g) f1) (by omega)
  have q1 : tm b N (ax_up g1 142 (T 0 2) v) := tm_mfr c1 x1
  have B1 : mB (ax_up g1 142 (T 0 2) v) := mB_up (mB_same c3 f1) (fun _ => vb)
  have r1' : 0 ≤ ax_up g1 142 (T 0 2) v 124 24 ∧ ax_up g1 142 (T 0 2) v 124 24 ≤ N := by rw [up_p (by omega)]; exact r1
  have F1' : ax_up g1 142 (T 0 2) v 124 25 = nf b N (sk b N (g 124 24)) 0 30 := by rw [up_p (by omega)]; exact F1
  simp (disch := omega) only [ax_ev, ax_kk, ax_ps, ax_r_const, ax_r_lconst, ax_r_str, ax_r_iload, ax_r_lload, ax_r_aload, ax_r_istore, ax_r_astore, ax_r_lstore, ax_r_iinc, ax_r_iadd, ax_r_isub, ax_r_imul, ax_r_idiv, ax_r_irem, ax_r_iand, ax_r_ior, ax_r_ishl, ax_r_ishr, ax_r_iushr, ax_r_i2l, ax_r_l2i, ax_r_i2b, ax_r_ladd, ax_r_lsub, ax_r_lmul, ax_r_ldiv, ax_r_lrem, ax_r_land, ax_r_lor, ax_r_lcmp, ax_r_ifeq, ax_r_ifne, ax_r_iflt, ax_r_ifge, ax_r_ifgt, ax_r_ifle, ax_r_iceq, ax_r_icne, ax_r_iclt, ax_r_icge, ax_r_icgt, ax_r_icle, ax_r_goto, ax_r_tsw, ax_evt_c, ax_evt_n, ax_r_lsw, ax_evu_c, ax_evu_n, ax_r_getI, ax_r_getR, ax_r_putI, ax_r_putZ, ax_r_iald, ax_r_iast, ax_r_lald, ax_r_last, ax_r_bald, ax_r_aald, ax_r_alen, ax_r_bast, ax_r_min, ax_r_max, ax_r_minl, ax_r_maxl, ax_r_copy, ax_r_slen, ax_r_schr, ax_r_dup, ax_r_dup2, ax_r_pop, ax_r_ret, ax_r_lret, ax_r_vret, ax_r_zret, ax_r_aret, ax_r_call, ax_evo, ax_eva, ax_ar, ax_tk, ax_ex, ax_ld, ax_sto, ax_stl, ly_pm, ly_cd, ly_ln, ly_rf, Option.bind_some, Option.map_some, if_true, if_false, true_and, and_true, List.nil_append, List.cons_append, List.append_nil, List.length_nil, List.length_cons, List.headD_cons, true_or, or_true, false_or, or_false, ne_eq, not_false_eq_true, not_true_eq_false, false_and, and_false, List.set_cons_zero, List.set_cons_succ, Nat.reduceAdd, Nat.reduceSub, Nat.reduceMul, Nat.reduceLeDiff, Nat.reduceLT, Nat.reduceEqDiff, ↓reduceIte, Int.reduceNeg, Int.reduceAdd, Int.reduceSub, Int.reduceMul, Int.reduceEq, Int.reduceNe, Int.reduceLE, Int.reduceLT, Int.reduceToNat, Nat.one_ne_zero, Nat.zero_ne_one, Int.cast_ofNat_Int, lc_lt, lc_ge, lc_gt, lc_le, lc_eq, lc_ne, w32i, w64i, tdv, tmd, ltT, ltF, leT, leF, eqT, eqF, dc_M_kilnPart]
  refine m_amount t q1 rfl F1' r1'.1 r1'.2 (by omega) (by omega) (by omega) (by omega) ?_
  intro g2 v2 f2 r2 F2 vb2 S2
  have x2 : mfr g (ax_up (ax_up g2 143 (T 0 2) v2) 140 1 (T 0 2 + 1)) := mfr_up (mfr_up (mfr_am x1 f2) (by omega)) (by omega)
  have ey2 : ax_up g2 143 (T 0 2) v2 140 1 = T 0 2 := by
    rw [ax_up_no (by omega), f2 _ _ (by omega), ax_up_no (by omega), f1 _ _ (by omega)]; exact ey
  have H := hq (ax_up (ax_up g2 143 (T 0 2) v2) 140 1 (T 0 2 + 1)) ⟨x2, mB_up (mB_up (mB_same B1 f2) (fun _ => vb2)) (by omega), by rw [up_p (by omega), up_p (by omega)]; exact r2, by
    rw [up_p (by omega), up_p (by omega), F2]
    split
    · rename_i z
      rw [if_neg (by omega)]
      have s1 := S1 rfl z
      rw [up_p (by omega), s1.2]
      show nf b N (nxT b N _) 1 60 = _
      split
      · rfl
      · rename_i z2; simp only; omega
    · rename_i z
      first | rfl | rw [if_pos z], fun z => by
    split at z
    · rename_i y; exact absurd z y
    · rename_i y
      rw [if_neg y]
      have y' : nf b N (sk b N (g 124 24)) 0 30 = 0 := by omega
      have s1 := S1 rfl y'
      rw [up_p (by omega)] at S2
      rw [s1.2] at S2
      split at z
      · rename_i y2; exact absurd z y2
      · rename_i y2
        rw [if_neg y2]
        have s2 := S2 y' (by have : nf b N (nxT b N (sk b N (g 124 24))) 1 60 = 0 := by omega
                             exact this)
        obtain ⟨⟨a, a2, a3, a4, a5⟩, m2, m3, m4⟩ := c2
        have E : ∀ k j, ¬ (k = 124 ∧ (j = 24 ∨ j = 25)) → ¬ (k = 140 ∧ j = 1) → ¬ ((k = 142 ∨ k = 143) ∧ j = T 0 2) → ax_up (ax_up g2 143 (T 0 2) v2) 140 1 (T 0 2 + 1) k j = g k j := fun k j e1 e2 e3 => by
          rw [ax_up_no (by omega), ax_up_no (by omega), f2 k j e1, ax_up_no (by omega), f1 k j e1]
        dsimp only
        have e2 : ax_up (ax_up g2 143 (T 0 2) v2) 140 1 (T 0 2 + 1) 142 (T 0 2) = v := by rw [ax_up_no (by omega), ax_up_no (by omega), f2 _ _ (by omega), ax_up_eq]
        have e3 : ax_up (ax_up g2 143 (T 0 2) v2) 140 1 (T 0 2 + 1) 143 (T 0 2) = v2 := by rw [ax_up_no (by omega), ax_up_eq]
        have t0 : ∀ i j, ¬ (i = 0 ∧ j = 2) → ¬ ((i = 1 ∨ i = 2) ∧ j = T 0 2) → ax_up (ax_up (ax_up T 1 (T 0 2) (tkV b N (sk b N (g 124 24)))) 2 (T 0 2) (tkV b N (nxT b N (sk b N (g 124 24))))) 0 2 (T 0 2 + 1) i j = T i j := fun i j e1 e2 => by rw [ax_up_no (by omega), ax_up_no (by omega), ax_up_no (by omega)]
        have t2 : ax_up (ax_up (ax_up T 1 (T 0 2) (tkV b N (sk b N (g 124 24)))) 2 (T 0 2) (tkV b N (nxT b N (sk b N (g 124 24))))) 0 2 (T 0 2 + 1) 0 2 = T 0 2 + 1 := ax_up_eq
        have t3 : ax_up (ax_up (ax_up T 1 (T 0 2) (tkV b N (sk b N (g 124 24)))) 2 (T 0 2) (tkV b N (nxT b N (sk b N (g 124 24))))) 0 2 (T 0 2 + 1) 1 (T 0 2) = tkV b N (sk b N (g 124 24)) := by rw [ax_up_no (by omega), ax_up_no (by omega), ax_up_eq]
        have t4 : ax_up (ax_up (ax_up T 1 (T 0 2) (tkV b N (sk b N (g 124 24)))) 2 (T 0 2) (tkV b N (nxT b N (sk b N (g 124 24))))) 0 2 (T 0 2 + 1) 2 (T 0 2) = tkV b N (nxT b N (sk b N (g 124 24))) := by rw [ax_up_no (by omega), ax_up_eq]
        refine ⟨⟨⟨?_, ?_, ?_, ?_, ?_⟩, fun c x y => ?_, fun c x y => ?_, fun c x y => ?_⟩, ?_⟩
        · rw [E _ _ (by omega) (by omega) (by omega), t0 _ _ (by omega) (by omega)]; exact a
        · rw [ax_up_eq, t2]
        · rw [E _ _ (by omega) (by omega) (by omega), t0 _ _ (by omega) (by omega)]; exact a3
        · rw [E _ _ (by omega) (by omega) (by omega), t0 _ _ (by omega) (by omega)]; exact a4
        · rw [E _ _ (by omega) (by omega) (by omega), t0 _ _ (by omega) (by omega)]; exact a5
        · rw [E _ _ (by omega) (by omega) (by omega), t0 _ _ (by omega) (by omega)]; exact m2 c x y
        · rw [t2] at y
          by_cases w : c = T 0 2
          · rw [w, e2, e3, t3, t4, s1.1]; exact ⟨rfl, s2.1⟩
          · rw [E _ _ (by omega) (by omega) (by omega), E _ _ (by omega) (by omega) (by omega), t0 _ _ (by omega) (by omega), t0 _ _ (by omega) (by omega)]; exact m3 c x (by omega)
        · rw [t0 0 3 (by omega) (by omega)] at y
          rw [E _ _ (by omega) (by omega) (by omega), E _ _ (by omega) (by omega) (by omega), E _ _ (by omega) (by omega) (by omega), t0 _ _ (by omega) (by omega), t0 _ _ (by omega) (by omega), t0 _ _ (by omega) (by omega)]; exact m4 c x y
        · rw [up_p (by omega), up_p (by omega), s2.2]; rfl⟩
  rw [ax_kk]
  clear hq t f1 f2 S1 S2 x1 x2 q1 B1 c1 c2 c3
  simp (disch := omega) only [ax_ev, ax_kk, ax_ps, ax_r_const, ax_r_lconst, ax_r_str, ax_r_iload, ax_r_lload, ax_r_aload, ax_r_istore, ax_r_astore, ax_r_lstore, ax_r_iinc, ax_r_iadd, ax_r_isub, ax_r_imul, ax_r_idiv, ax_r_irem, ax_r_iand, ax_r_ior, ax_r_ishl, ax_r_ishr, ax_r_iushr, ax_r_i2l, ax_r_l2i, ax_r_i2b, ax_r_ladd, ax_r_lsub, ax_r_lmul, ax_r_ldiv, ax_r_lrem, ax_r_land, ax_r_lor, ax_r_lcmp, ax_r_ifeq, ax_r_ifne, ax_r_iflt, ax_r_ifge, ax_r_ifgt, ax_r_ifle, ax_r_iceq, ax_r_icne, ax_r_iclt, ax_r_icge, ax_r_icgt, ax_r_icle, ax_r_goto, ax_r_tsw, ax_evt_c, ax_evt_n, ax_r_lsw, ax_evu_c, ax_evu_n, ax_r_getI, ax_r_getR, ax_r_putI, ax_r_putZ, ax_r_iald, ax_r_iast, ax_r_lald, ax_r_last, ax_r_bald, ax_r_aald, ax_r_alen, ax_r_bast, ax_r_min, ax_r_max, ax_r_minl, ax_r_maxl, ax_r_copy, ax_r_slen, ax_r_schr, ax_r_dup, ax_r_dup2, ax_r_pop, ax_r_ret, ax_r_lret, ax_r_vret, ax_r_zret, ax_r_aret, ax_r_call, ax_evo, ax_eva, ax_ar, ax_tk, ax_ex, ax_ld, ax_sto, ax_stl, ly_pm, ly_cd, ly_ln, ly_rf, Option.bind_some, Option.map_some, if_true, if_false, true_and, and_true, List.nil_append, List.cons_append, List.append_nil, List.length_nil, List.length_cons, List.headD_cons, true_or, or_true, false_or, or_false, ne_eq, not_false_eq_true, not_true_eq_false, false_and, and_false, List.set_cons_zero, List.set_cons_succ, Nat.reduceAdd, Nat.reduceSub, Nat.reduceMul, Nat.reduceLeDiff, Nat.reduceLT, Nat.reduceEqDiff, ↓reduceIte, Int.reduceNeg, Int.reduceAdd, Int.reduceSub, Int.reduceMul, Int.reduceEq, Int.reduceNe, Int.reduceLE, Int.reduceLT, Int.reduceToNat, Nat.one_ne_zero, Nat.zero_ne_one, Int.cast_ofNat_Int, lc_lt, lc_ge, lc_gt, lc_le, lc_eq, lc_ne, w32i, w64i, tdv, tmd, ltT, ltF, leT, leF, eqT, eqF, dc_M_kilnPart, ey2]
  exact H
set_option maxRecDepth 100000 in
set_option maxHeartbeats 4000000 in
theorem m_k2 {b : Int → Int} {N s : Int} (t : tx b N) {g T : Int → Int → Int} (c : mS b N g s T) (y0 : 0 ≤ T 0 2 ∧ T 0 2 ≤ 3) (h9 : 0 ≤ T 0 0 ∧ T 0 0 ≤ 9) {d : Nat} {Q : ax_V → ax_H → Prop} (hq : ∀ g', mR b N g g' (kS b N s T) → Q (9, 0) (L0, g')) : ax_Ev (d + 5) 166 0 [(2, 124), (0, 2), (9, 0)] [] (L0, g) Q := by
  obtain ⟨⟨c1, c2, c3⟩, ⟨p0, pN⟩, c4, c5⟩ := c
  have N4 := t.1
  have s0 := sk_ge b N (g 124 24)
  have sN := sk_le (b := b) pN
  rw [c5] at s0 sN
  have n2 := nxT_b (b := b) (by omega : 0 ≤ s) sN
  unfold kS at hq
  simp (disch := omega) only [ax_ev, ax_kk, ax_ps, ax_r_const, ax_r_lconst, ax_r_str, ax_r_iload, ax_r_lload, ax_r_aload, ax_r_istore, ax_r_astore, ax_r_lstore, ax_r_iinc, ax_r_iadd, ax_r_isub, ax_r_imul, ax_r_idiv, ax_r_irem, ax_r_iand, ax_r_ior, ax_r_ishl, ax_r_ishr, ax_r_iushr, ax_r_i2l, ax_r_l2i, ax_r_i2b, ax_r_ladd, ax_r_lsub, ax_r_lmul, ax_r_ldiv, ax_r_lrem, ax_r_land, ax_r_lor, ax_r_lcmp, ax_r_ifeq, ax_r_ifne, ax_r_iflt, ax_r_ifge, ax_r_ifgt, ax_r_ifle, ax_r_iceq, ax_r_icne, ax_r_iclt, ax_r_icge, ax_r_icgt, ax_r_icle, ax_r_goto, ax_r_tsw, ax_evt_c, ax_evt_n, ax_r_lsw, ax_evu_c, ax_evu_n, ax_r_getI, ax_r_getR, ax_r_putI, ax_r_putZ, ax_r_iald, ax_r_iast, ax_r_lald, ax_r_last, ax_r_bald, ax_r_aald, ax_r_alen, ax_r_bast, ax_r_min, ax_r_max, ax_r_minl, ax_r_maxl, ax_r_copy, ax_r_slen, ax_r_schr, ax_r_dup, ax_r_dup2, ax_r_pop, ax_r_ret, ax_r_lret, ax_r_vret, ax_r_zret, ax_r_aret, ax_r_call, ax_evo, ax_eva, ax_ar, ax_tk, ax_ex, ax_ld, ax_sto, ax_stl, ly_pm, ly_cd, ly_ln, ly_rf, Option.bind_some, Option.map_some, if_true, if_false, true_and, and_true, List.nil_append, List.cons_append, List.append_nil, List.length_nil, List.length_cons, List.headD_cons, true_or, or_true, false_or, or_false, ne_eq, not_false_eq_true, not_true_eq_false, false_and, and_false, List.set_cons_zero, List.set_cons_succ, Nat.reduceAdd, Nat.reduceSub, Nat.reduceMul, Nat.reduceLeDiff, Nat.reduceLT, Nat.reduceEqDiff, ↓reduceIte, Int.reduceNeg, Int.reduceAdd, Int.reduceSub, Int.reduceMul, Int.reduceEq, Int.reduceNe, Int.reduceLE, Int.reduceLT, Int.reduceToNat, Nat.one_ne_zero, Nat.zero_ne_one, Int.cast_ofNat_Int, lc_lt, lc_ge, lc_gt, lc_le, lc_eq, lc_ne, w32i, w64i, tdv, tmd, ltT, ltF, leT, leF, eqT, eqF, dc_M_kilnPart, dc_M_setPart]
  refine m_blanks t c1 rfl p0 pN ?_
  intro g0 f0 e0
  rw [c5] at e0
  have am0 : am g g0 := fun k j e => f0 k j (by omega)
  have q0 := tm_same c1 am0
  have c40 : g0 124 25 = 0 := by rw [f0 _ _ (by omega)]; exact c4
  have h0 : g0 140 0 = T 0 0 := by rw [f0 _ _ (by omega)]; exact c2.1.1
  have ssk : sk b N s = s := by rw [← c5]; exact rnT_rn isB b N _
  rw [ax_kk]
  simp (disch := omega) only [ax_ev, ax_kk, ax_ps, ax_r_const, ax_r_lconst, ax_r_str, ax_r_iload, ax_r_lload, ax_r_aload, ax_r_istore, ax_r_astore, ax_r_lstore, ax_r_iinc, ax_r_iadd, ax_r_isub, ax_r_imul, ax_r_idiv, ax_r_irem, ax_r_iand, ax_r_ior, ax_r_ishl, ax_r_ishr, ax_r_iushr, ax_r_i2l, ax_r_l2i, ax_r_i2b, ax_r_ladd, ax_r_lsub, ax_r_lmul, ax_r_ldiv, ax_r_lrem, ax_r_land, ax_r_lor, ax_r_lcmp, ax_r_ifeq, ax_r_ifne, ax_r_iflt, ax_r_ifge, ax_r_ifgt, ax_r_ifle, ax_r_iceq, ax_r_icne, ax_r_iclt, ax_r_icge, ax_r_icgt, ax_r_icle, ax_r_goto, ax_r_tsw, ax_evt_c, ax_evt_n, ax_r_lsw, ax_evu_c, ax_evu_n, ax_r_getI, ax_r_getR, ax_r_putI, ax_r_putZ, ax_r_iald, ax_r_iast, ax_r_lald, ax_r_last, ax_r_bald, ax_r_aald, ax_r_alen, ax_r_bast, ax_r_min, ax_r_max, ax_r_minl, ax_r_maxl, ax_r_copy, ax_r_slen, ax_r_schr, ax_r_dup, ax_r_dup2, ax_r_pop, ax_r_ret, ax_r_lret, ax_r_vret, ax_r_zret, ax_r_aret, ax_r_call, ax_evo, ax_eva, ax_ar, ax_tk, ax_ex, ax_ld, ax_sto, ax_stl, ly_pm, ly_cd, ly_ln, ly_rf, Option.bind_some, Option.map_some, if_true, if_false, true_and, and_true, List.nil_append, List.cons_append, List.append_nil, List.length_nil, List.length_cons, List.headD_cons, true_or, or_true, false_or, or_false, ne_eq, not_false_eq_true, not_true_eq_false, false_and, and_false, List.set_cons_zero, List.set_cons_succ, Nat.reduceAdd, Nat.reduceSub, Nat.reduceMul, Nat.reduceLeDiff, Nat.reduceLT, Nat.reduceEqDiff, ↓reduceIte, Int.reduceNeg, Int.reduceAdd, Int.reduceSub, Int.reduceMul, Int.reduceEq, Int.reduceNe, Int.reduceLE, Int.reduceLT, Int.reduceToNat, Nat.one_ne_zero, Nat.zero_ne_one, Int.cast_ofNat_Int, lc_lt, lc_ge, lc_gt, lc_le, lc_eq, lc_ne, w32i, w64i, tdv, tmd, ltT, ltF, leT, leF, eqT, eqF, dc_M_kilnPart, dc_M_setPart, e0, h0]
  refine m_amount t q0 e0 c40 (by omega) sN (by omega) (by omega) (by omega) (by omega) ?_
  intro g1 v f1 r1 F1 vb S1
  rw [if_pos rfl] at F1
  rw [ssk] at F1 S1
  rw [ax_kk]
  have am1 : am g g1 := fun k j e => by rw [f1 k j e]; exact am0 k j e
  have y1 : g1 140 1 = T 0 2 := by rw [am1 _ _ (by omega)]; exact c2.1.2.1
  -- faulty
  have R : ∀ (g2 : Int → Int → Int) F, F ≠ 0 → am g g2 → 0 ≤ g2 124 24 ∧ g2 124 24 ≤ N → g2 124 25 = F → (kS b N s T).1 = F → ax_Ev (d + 3) 167 0 [(2, 124), (0, 0), (0, T 0 2 - 1), (9, 0), (9, 0)] [] (L0, g2) (ax_k (d + 4) 171 59 [(2, 124), (0, s), (0, v), (9, 0)] [] (ax_k (d + 5) 166 112 [(2, 124), (0, 2), (9, 0)] [] Q)) := by
    intro g2 F F0 a2 r2 e2 eK
    refine m_amount t (tm_same c1 a2) rfl e2 r2.1 r2.2 (by omega) (by omega) (by omega) (by omega) ?_
    intro g3 v3 f3 r3 F3 vb3 S3
    rw [if_neg F0] at F3
    have a3 : am g g3 := fun k j e => by rw [f3 k j e]; exact a2 k j e
    have H := hq g3 ⟨mfr_am (mfr_refl g) a3, mB_same c3 a3, r3, by rw [F3]; exact eK.symm, fun z => absurd z (by
      have : (kS b N s T).1 ≠ 0 := by rw [eK]; exact F0
      exact this)⟩
    rw [ax_kk]
    clear hq t f0 f1 S1 c1 c2 c3 am0 q0 am1 a2 f3 S3 a3 eK
    simp (disch := omega) only [ax_ev, ax_kk, ax_ps, ax_r_const, ax_r_lconst, ax_r_str, ax_r_iload, ax_r_lload, ax_r_aload, ax_r_istore, ax_r_astore, ax_r_lstore, ax_r_iinc, ax_r_iadd, ax_r_isub, ax_r_imul, ax_r_idiv, ax_r_irem, ax_r_iand, ax_r_ior, ax_r_ishl, ax_r_ishr, ax_r_iushr, ax_r_i2l, ax_r_l2i, ax_r_i2b, ax_r_ladd, ax_r_lsub, ax_r_lmul, ax_r_ldiv, ax_r_lrem, ax_r_land, ax_r_lor, ax_r_lcmp, ax_r_ifeq, ax_r_ifne, ax_r_iflt, ax_r_ifge, ax_r_ifgt, ax_r_ifle, ax_r_iceq, ax_r_icne, ax_r_iclt, ax_r_icge, ax_r_icgt, ax_r_icle, ax_r_goto, ax_r_tsw, ax_evt_c, ax_evt_n, ax_r_lsw, ax_evu_c, ax_evu_n, ax_r_getI, ax_r_getR, ax_r_putI, ax_r_putZ, ax_r_iald, ax_r_iast, ax_r_lald, ax_r_last, ax_r_bald, ax_r_aald, ax_r_alen, ax_r_bast, ax_r_min, ax_r_max, ax_r_minl, ax_r_maxl, ax_r_copy, ax_r_slen, ax_r_schr, ax_r_dup, ax_r_dup2, ax_r_pop, ax_r_ret, ax_r_lret, ax_r_vret, ax_r_zret, ax_r_aret, ax_r_call, ax_evo, ax_eva, ax_ar, ax_tk, ax_ex, ax_ld, ax_sto, ax_stl, ly_pm, ly_cd, ly_ln, ly_rf, Option.bind_some, Option.map_some, if_true, if_false, true_and, and_true, List.nil_append, List.cons_append, List.append_nil, List.length_nil, List.length_cons, List.headD_cons, true_or, or_true, false_or, or_false, ne_eq, not_false_eq_true, not_true_eq_false, false_and, and_false, List.set_cons_zero, List.set_cons_succ, Nat.reduceAdd, Nat.reduceSub, Nat.reduceMul, Nat.reduceLeDiff, Nat.reduceLT, Nat.reduceEqDiff, ↓reduceIte, Int.reduceNeg, Int.reduceAdd, Int.reduceSub, Int.reduceMul, Int.reduceEq, Int.reduceNe, Int.reduceLE, Int.reduceLT, Int.reduceToNat, Nat.one_ne_zero, Nat.zero_ne_one, Int.cast_ofNat_Int, lc_lt, lc_ge, lc_gt, lc_le, lc_eq, lc_ne, w32i, w64i, tdv, tmd, ltT, ltF, leT, leF, eqT, eqF, dc_M_setPart, dc_M_kilnPart]
    exact H
  by_cases z : nf b N s 0 (T 0 0 - 1) = 0
  · obtain ⟨v1, p1⟩ := S1 rfl z
    obtain ⟨kk, vl, vh⟩ := nf_0 (by omega) z
    have tv : g1 141 v = T 3 v := by rw [am1 _ _ (by omega)]; exact c2.2.1 v (by omega) (by omega)
    rw [z] at F1
    by_cases w : T 3 v = -1
    · rw [if_neg (by omega), if_neg (by rw [← v1]; omega)] at hq
      rw [w] at tv
      clear R
      simp (disch := omega) only [ax_ev, ax_kk, ax_ps, ax_r_const, ax_r_lconst, ax_r_str, ax_r_iload, ax_r_lload, ax_r_aload, ax_r_istore, ax_r_astore, ax_r_lstore, ax_r_iinc, ax_r_iadd, ax_r_isub, ax_r_imul, ax_r_idiv, ax_r_irem, ax_r_iand, ax_r_ior, ax_r_ishl, ax_r_ishr, ax_r_iushr, ax_r_i2l, ax_r_l2i, ax_r_i2b, ax_r_ladd, ax_r_lsub, ax_r_lmul, ax_r_ldiv, ax_r_lrem, ax_r_land, ax_r_lor, ax_r_lcmp, ax_r_ifeq, ax_r_ifne, ax_r_iflt, ax_r_ifge, ax_r_ifgt, ax_r_ifle, ax_r_iceq, ax_r_icne, ax_r_iclt, ax_r_icge, ax_r_icgt, ax_r_icle, ax_r_goto, ax_r_tsw, ax_evt_c, ax_evt_n, ax_r_lsw, ax_evu_c, ax_evu_n, ax_r_getI, ax_r_getR, ax_r_putI, ax_r_putZ, ax_r_iald, ax_r_iast, ax_r_lald, ax_r_last, ax_r_bald, ax_r_aald, ax_r_alen, ax_r_bast, ax_r_min, ax_r_max, ax_r_minl, ax_r_maxl, ax_r_copy, ax_r_slen, ax_r_schr, ax_r_dup, ax_r_dup2, ax_r_pop, ax_r_ret, ax_r_lret, ax_r_vret, ax_r_zret, ax_r_aret, ax_r_call, ax_evo, ax_eva, ax_ar, ax_tk, ax_ex, ax_ld, ax_sto, ax_stl, ly_pm, ly_cd, ly_ln, ly_rf, Option.bind_some, Option.map_some, if_true, if_false, true_and, and_true, List.nil_append, List.cons_append, List.append_nil, List.length_nil, List.length_cons, List.headD_cons, true_or, or_true, false_or, or_false, ne_eq, not_false_eq_true, not_true_eq_false, false_and, and_false, List.set_cons_zero, List.set_cons_succ, Nat.reduceAdd, Nat.reduceSub, Nat.reduceMul, Nat.reduceLeDiff, Nat.reduceLT, Nat.reduceEqDiff, ↓reduceIte, Int.reduceNeg, Int.reduceAdd, Int.reduceSub, Int.reduceMul, Int.reduceEq, Int.reduceNe, Int.reduceLE, Int.reduceLT, Int.reduceToNat, Nat.one_ne_zero, Nat.zero_ne_one, Int.cast_ofNat_Int, lc_lt, lc_ge, lc_gt, lc_le, lc_eq, lc_ne, w32i, w64i, tdv, tmd, ltT, ltF, leT, leF, eqT, eqF, dc_M_kilnPart, dc_M_setPart, F1, tv, y1]
      refine m_amount t (tm_same c1 am1) p1 F1 (by have := tkB_ge (b := b) (N := N) (s := s); omega) (tkB_le sN) (by omega) (by omega) (by omega) (by omega) ?_
      intro g3 v3 f3 r3 F3 vb3 S3
      rw [if_pos rfl] at F3
      change g3 124 25 = nf b N (nxT b N s) 0 (T 0 2 - 1) at F3
      change 0 = 0 → nf b N (nxT b N s) 0 (T 0 2 - 1) = 0 → v3 = tkV b N (nxT b N s) ∧ g3 124 24 = tkB b N (nxT b N s) at S3
      have a3 : am g g3 := fun k j e => by rw [f3 k j e]; exact am1 k j e
      rw [ax_kk]
      by_cases z2 : nf b N (nxT b N s) 0 (T 0 2 - 1) = 0
      · rw [if_neg (by omega)] at hq
        obtain ⟨v2, p2⟩ := S3 rfl z2
        rw [z2] at F3
        have H := hq (ax_up g3 141 v v3) ⟨mfr_up (mfr_am (mfr_refl g) a3) (by omega), mB_up (mB_same c3 a3) (by omega), by rw [up_p (by omega)]; exact r3, by rw [up_p (by omega)]; exact F3, fun _ => by
          obtain ⟨⟨a, a2, a3', a4, a5⟩, m2, m3, m4⟩ := c2
          dsimp only
          have E : ∀ k j, ¬ (k = 124 ∧ (j = 24 ∨ j = 25)) → ¬ (k = 141 ∧ j = v) → ax_up g3 141 v v3 k j = g k j := fun k j e1 e2 => by rw [ax_up_no e2]; exact a3 k j e1
          have t0 : ∀ i j, ¬ (i = 3 ∧ j = v) → ax_up T 3 (tkV b N s) (tkV b N (nxT b N s)) i j = T i j := fun i j e => by rw [← v1, ax_up_no e]
          refine ⟨⟨⟨?_, ?_, ?_, ?_, ?_⟩, fun c x y => ?_, fun c x y => ?_, fun c x y => ?_⟩, ?_⟩
          · rw [E _ _ (by omega) (by omega), t0 _ _ (by omega)]; exact a
          · rw [E _ _ (by omega) (by omega), t0 _ _ (by omega)]; exact a2
          · rw [E _ _ (by omega) (by omega), t0 _ _ (by omega)]; exact a3'
          · rw [E _ _ (by omega) (by omega), t0 _ _ (by omega)]; exact a4
          · rw [E _ _ (by omega) (by omega), t0 _ _ (by omega)]; exact a5
          · by_cases u : c = v
            · rw [u, ax_up_eq, v2, ← v1, ax_up_eq]
            · rw [E _ _ (by omega) (by omega), t0 _ _ (by omega)]; exact m2 c x y
          · rw [t0 0 2 (by omega)] at y
            rw [E _ _ (by omega) (by omega), E _ _ (by omega) (by omega), t0 _ _ (by omega), t0 _ _ (by omega)]; exact m3 c x y
          · rw [t0 0 3 (by omega)] at y
            rw [E _ _ (by omega) (by omega), E _ _ (by omega) (by omega), E _ _ (by omega) (by omega), t0 _ _ (by omega), t0 _ _ (by omega), t0 _ _ (by omega)]; exact m4 c x y
          · rw [up_p (by omega), p2]; rfl⟩
        clear hq t f0 f1 S1 c1 c2 c3 am0 q0 am1 f3 S3 a3
        simp (disch := omega) only [ax_ev, ax_kk, ax_ps, ax_r_const, ax_r_lconst, ax_r_str, ax_r_iload, ax_r_lload, ax_r_aload, ax_r_istore, ax_r_astore, ax_r_lstore, ax_r_iinc, ax_r_iadd, ax_r_isub, ax_r_imul, ax_r_idiv, ax_r_irem, ax_r_iand, ax_r_ior, ax_r_ishl, ax_r_ishr, ax_r_iushr, ax_r_i2l, ax_r_l2i, ax_r_i2b, ax_r_ladd, ax_r_lsub, ax_r_lmul, ax_r_ldiv, ax_r_lrem, ax_r_land, ax_r_lor, ax_r_lcmp, ax_r_ifeq, ax_r_ifne, ax_r_iflt, ax_r_ifge, ax_r_ifgt, ax_r_ifle, ax_r_iceq, ax_r_icne, ax_r_iclt, ax_r_icge, ax_r_icgt, ax_r_icle, ax_r_goto, ax_r_tsw, ax_evt_c, ax_evt_n, ax_r_lsw, ax_evu_c, ax_evu_n, ax_r_getI, ax_r_getR, ax_r_putI, ax_r_putZ, ax_r_iald, ax_r_iast, ax_r_lald, ax_r_last, ax_r_bald, ax_r_aald, ax_r_alen, ax_r_bast, ax_r_min, ax_r_max, ax_r_minl, ax_r_maxl, ax_r_copy, ax_r_slen, ax_r_schr, ax_r_dup, ax_r_dup2, ax_r_pop, ax_r_ret, ax_r_lret, ax_r_vret, ax_r_zret, ax_r_aret, ax_r_call, ax_evo, ax_eva, ax_ar, ax_tk, ax_ex, ax_ld, ax_sto, ax_stl, ly_pm, ly_cd, ly_ln, ly_rf, Option.bind_some, Option.map_some, if_true, if_false, true_and, and_true, List.nil_append, List.cons_append, List.append_nil, List.length_nil, List.length_cons, List.headD_cons, true_or, or_true, false_or, or_false, ne_eq, not_false_eq_true, not_true_eq_false, false_and, and_false, List.set_cons_zero, List.set_cons_succ, Nat.reduceAdd, Nat.reduceSub, Nat.reduceMul, Nat.reduceLeDiff, Nat.reduceLT, Nat.reduceEqDiff, ↓reduceIte, Int.reduceNeg, Int.reduceAdd, Int.reduceSub, Int.reduceMul, Int.reduceEq, Int.reduceNe, Int.reduceLE, Int.reduceLT, Int.reduceToNat, Nat.one_ne_zero, Nat.zero_ne_one, Int.cast_ofNat_Int, lc_lt, lc_ge, lc_gt, lc_le, lc_eq, lc_ne, w32i, w64i, tdv, tmd, ltT, ltF, leT, leF, eqT, eqF, dc_M_setPart, dc_M_kilnPart, F3]
        exact H
      · rw [if_pos z2] at hq
        have H := hq g3 ⟨mfr_am (mfr_refl g) a3, mB_same c3 a3, r3, F3, fun z => absurd z z2⟩
        rw [← F3] at z2
        clear hq t f0 f1 S1 c1 c2 c3 am0 q0 am1 f3 S3 a3
        simp (disch := omega) only [ax_ev, ax_kk, ax_ps, ax_r_const, ax_r_lconst, ax_r_str, ax_r_iload, ax_r_lload, ax_r_aload, ax_r_istore, ax_r_astore, ax_r_lstore, ax_r_iinc, ax_r_iadd, ax_r_isub, ax_r_imul, ax_r_idiv, ax_r_irem, ax_r_iand, ax_r_ior, ax_r_ishl, ax_r_ishr, ax_r_iushr, ax_r_i2l, ax_r_l2i, ax_r_i2b, ax_r_ladd, ax_r_lsub, ax_r_lmul, ax_r_ldiv, ax_r_lrem, ax_r_land, ax_r_lor, ax_r_lcmp, ax_r_ifeq, ax_r_ifne, ax_r_iflt, ax_r_ifge, ax_r_ifgt, ax_r_ifle, ax_r_iceq, ax_r_icne, ax_r_iclt, ax_r_icge, ax_r_icgt, ax_r_icle, ax_r_goto, ax_r_tsw, ax_evt_c, ax_evt_n, ax_r_lsw, ax_evu_c, ax_evu_n, ax_r_getI, ax_r_getR, ax_r_putI, ax_r_putZ, ax_r_iald, ax_r_iast, ax_r_lald, ax_r_last, ax_r_bald, ax_r_aald, ax_r_alen, ax_r_bast, ax_r_min, ax_r_max, ax_r_minl, ax_r_maxl, ax_r_copy, ax_r_slen, ax_r_schr, ax_r_dup, ax_r_dup2, ax_r_pop, ax_r_ret, ax_r_lret, ax_r_vret, ax_r_zret, ax_r_aret, ax_r_call, ax_evo, ax_eva, ax_ar, ax_tk, ax_ex, ax_ld, ax_sto, ax_stl, ly_pm, ly_cd, ly_ln, ly_rf, Option.bind_some, Option.map_some, if_true, if_false, true_and, and_true, List.nil_append, List.cons_append, List.append_nil, List.length_nil, List.length_cons, List.headD_cons, true_or, or_true, false_or, or_false, ne_eq, not_false_eq_true, not_true_eq_false, false_and, and_false, List.set_cons_zero, List.set_cons_succ, Nat.reduceAdd, Nat.reduceSub, Nat.reduceMul, Nat.reduceLeDiff, Nat.reduceLT, Nat.reduceEqDiff, ↓reduceIte, Int.reduceNeg, Int.reduceAdd, Int.reduceSub, Int.reduceMul, Int.reduceEq, Int.reduceNe, Int.reduceLE, Int.reduceLT, Int.reduceToNat, Nat.one_ne_zero, Nat.zero_ne_one, Int.cast_ofNat_Int, lc_lt, lc_ge, lc_gt, lc_le, lc_eq, lc_ne, w32i, w64i, tdv, tmd, ltT, ltF, leT, leF, eqT, eqF, dc_M_setPart, dc_M_kilnPart]
        exact H
    · have R' := R (ax_up g1 124 25 (1 + 8 * s + 1)) (1 + 8 * s + 1) (by omega) (fun k j e => by rw [ax_up_no (by omega)]; exact am1 k j e) (by rw [ax_up_no (by omega)]; exact r1) (by rw [ax_up_eq]) (by
        unfold kS
        rw [if_neg (by omega), if_pos (by rw [← v1]; exact w)]; simp only; omega)
      clear R hq t f0 f1 S1 c1 c2 c3 am0 q0 am1
      simp (disch := omega) only [ax_ev, ax_kk, ax_ps, ax_r_const, ax_r_lconst, ax_r_str, ax_r_iload, ax_r_lload, ax_r_aload, ax_r_istore, ax_r_astore, ax_r_lstore, ax_r_iinc, ax_r_iadd, ax_r_isub, ax_r_imul, ax_r_idiv, ax_r_irem, ax_r_iand, ax_r_ior, ax_r_ishl, ax_r_ishr, ax_r_iushr, ax_r_i2l, ax_r_l2i, ax_r_i2b, ax_r_ladd, ax_r_lsub, ax_r_lmul, ax_r_ldiv, ax_r_lrem, ax_r_land, ax_r_lor, ax_r_lcmp, ax_r_ifeq, ax_r_ifne, ax_r_iflt, ax_r_ifge, ax_r_ifgt, ax_r_ifle, ax_r_iceq, ax_r_icne, ax_r_iclt, ax_r_icge, ax_r_icgt, ax_r_icle, ax_r_goto, ax_r_tsw, ax_evt_c, ax_evt_n, ax_r_lsw, ax_evu_c, ax_evu_n, ax_r_getI, ax_r_getR, ax_r_putI, ax_r_putZ, ax_r_iald, ax_r_iast, ax_r_lald, ax_r_last, ax_r_bald, ax_r_aald, ax_r_alen, ax_r_bast, ax_r_min, ax_r_max, ax_r_minl, ax_r_maxl, ax_r_copy, ax_r_slen, ax_r_schr, ax_r_dup, ax_r_dup2, ax_r_pop, ax_r_ret, ax_r_lret, ax_r_vret, ax_r_zret, ax_r_aret, ax_r_call, ax_evo, ax_eva, ax_ar, ax_tk, ax_ex, ax_ld, ax_sto, ax_stl, ly_pm, ly_cd, ly_ln, ly_rf, Option.bind_some, Option.map_some, if_true, if_false, true_and, and_true, List.nil_append, List.cons_append, List.append_nil, List.length_nil, List.length_cons, List.headD_cons, true_or, or_true, false_or, or_false, ne_eq, not_false_eq_true, not_true_eq_false, false_and, and_false, List.set_cons_zero, List.set_cons_succ, Nat.reduceAdd, Nat.reduceSub, Nat.reduceMul, Nat.reduceLeDiff, Nat.reduceLT, Nat.reduceEqDiff, ↓reduceIte, Int.reduceNeg, Int.reduceAdd, Int.reduceSub, Int.reduceMul, Int.reduceEq, Int.reduceNe, Int.reduceLE, Int.reduceLT, Int.reduceToNat, Nat.one_ne_zero, Nat.zero_ne_one, Int.cast_ofNat_Int, lc_lt, lc_ge, lc_gt, lc_le, lc_eq, lc_ne, w32i, w64i, tdv, tmd, ltT, ltF, leT, leF, eqT, eqF, dc_M_kilnPart, dc_M_setPart, dc_M_fails, F1, tv, y1, ax_up]
      exact R'
  · have R' := R g1 _ z am1 r1 F1 (by unfold kS; rw [if_pos z])
    rw [← F1] at z
    clear R hq t f0 f1 S1 c1 c2 c3 am0 q0 am1
    simp (disch := omega) only [ax_ev, ax_kk, ax_ps, ax_r_const, ax_r_lconst, ax_r_str, ax_r_iload, ax_r_lload, ax_r_aload, ax_r_istore, ax_r_astore, ax_r_lstore, ax_r_iinc, ax_r_iadd, ax_r_isub, ax_r_imul, ax_r_idiv, ax_r_irem, ax_r_iand, ax_r_ior, ax_r_ishl, ax_r_ishr, ax_r_iushr, ax_r_i2l, ax_r_l2i, ax_r_i2b, ax_r_ladd, ax_r_lsub, ax_r_lmul, ax_r_ldiv, ax_r_lrem, ax_r_land, ax_r_lor, ax_r_lcmp, ax_r_ifeq, ax_r_ifne, ax_r_iflt, ax_r_ifge, ax_r_ifgt, ax_r_ifle, ax_r_iceq, ax_r_icne, ax_r_iclt, ax_r_icge, ax_r_icgt, ax_r_icle, ax_r_goto, ax_r_tsw, ax_evt_c, ax_evt_n, ax_r_lsw, ax_evu_c, ax_evu_n, ax_r_getI, ax_r_getR, ax_r_putI, ax_r_putZ, ax_r_iald, ax_r_iast, ax_r_lald, ax_r_last, ax_r_bald, ax_r_aald, ax_r_alen, ax_r_bast, ax_r_min, ax_r_max, ax_r_minl, ax_r_maxl, ax_r_copy, ax_r_slen, ax_r_schr, ax_r_dup, ax_r_dup2, ax_r_pop, ax_r_ret, ax_r_lret, ax_r_vret, ax_r_zret, ax_r_aret, ax_r_call, ax_evo, ax_eva, ax_ar, ax_tk, ax_ex, ax_ld, ax_sto, ax_stl, ly_pm, ly_cd, ly_ln, ly_rf, Option.bind_some, Option.map_some, if_true, if_false, true_and, and_true, List.nil_append, List.cons_append, List.append_nil, List.length_nil, List.length_cons, List.headD_cons, true_or, or_true, false_or, or_false, ne_eq, not_false_eq_true, not_true_eq_false, false_and, and_false, List.set_cons_zero, List.set_cons_succ, Nat.reduceAdd, Nat.reduceSub, Nat.reduceMul, Nat.reduceLeDiff, Nat.reduceLT, Nat.reduceEqDiff, ↓reduceIte, Int.reduceNeg, Int.reduceAdd, Int.reduceSub, Int.reduceMul, Int.reduceEq, Int.reduceNe, Int.reduceLE, Int.reduceLT, Int.reduceToNat, Nat.one_ne_zero, Nat.zero_ne_one, Int.cast_ofNat_Int, lc_lt, lc_ge, lc_gt, lc_le, lc_eq, lc_ne, w32i, w64i, tdv, tmd, ltT, ltF, leT, leF, eqT, eqF, dc_M_kilnPart, dc_M_setPart, y1]
    exact R'
set_option maxRecDepth 100000 in
set_option maxHeartbeats 4000000 in
theorem m_k3 {b : Int → Int} {N s : Int} (t : tx b N) {g T : Int → Int → Int} (c : mS b N g s T) (h9 : 0 ≤ T 0 0 ∧ T 0 0 ≤ 9) {d : Nat} {Q : ax_V → ax_H → Prop} (hq : ∀ g', mR b N g g' (kF b N s T) → Q (9, 0) (L0, g')) : ax_Ev (d + 5) 166 0 [(2, 124), (0, 3), (9, 0)] [] (L0, g) Q := by
  obtain ⟨⟨c1, c2, c3⟩, ⟨p0, pN⟩, c4, c5⟩ := c
  have N4 := t.1
  have s0 := sk_ge b N (g 124 24)
  have sN := sk_le (b := b) pN
  rw [c5] at s0 sN
  unfold kF at hq
  simp (disch := omega) only [ax_ev, ax_kk, ax_ps, ax_r_const, ax_r_lconst, ax_r_str, ax_r_iload, ax_r_lload, ax_r_aload, ax_r_istore, ax_r_astore, ax_r_lstore, ax_r_iinc, ax_r_iadd, ax_r_isub, ax_r_imul, ax_r_idiv, ax_r_irem, ax_r_iand, ax_r_ior, ax_r_ishl, ax_r_ishr, ax_r_iushr, ax_r_i2l, ax_r_l2i, ax_r_i2b, ax_r_ladd, ax_r_lsub, ax_r_lmul, ax_r_ldiv, ax_r_lrem, ax_r_land, ax_r_lor, ax_r_lcmp, ax_r_ifeq, ax_r_ifne, ax_r_iflt, ax_r_ifge, ax_r_ifgt, ax_r_ifle, ax_r_iceq, ax_r_icne, ax_r_iclt, ax_r_icge, ax_r_icgt, ax_r_icle, ax_r_goto, ax_r_tsw, ax_evt_c, ax_evt_n, ax_r_lsw, ax_evu_c, ax_evu_n, ax_r_getI, ax_r_getR, ax_r_putI, ax_r_putZ, ax_r_iald, ax_r_iast, ax_r_lald, ax_r_last, ax_r_bald, ax_r_aald, ax_r_alen, ax_r_bast, ax_r_min, ax_r_max, ax_r_minl, ax_r_maxl, ax_r_copy, ax_r_slen, ax_r_schr, ax_r_dup, ax_r_dup2, ax_r_pop, ax_r_ret, ax_r_lret, ax_r_vret, ax_r_zret, ax_r_aret, ax_r_call, ax_evo, ax_eva, ax_ar, ax_tk, ax_ex, ax_ld, ax_sto, ax_stl, ly_pm, ly_cd, ly_ln, ly_rf, Option.bind_some, Option.map_some, if_true, if_false, true_and, and_true, List.nil_append, List.cons_append, List.append_nil, List.length_nil, List.length_cons, List.headD_cons, true_or, or_true, false_or, or_false, ne_eq, not_false_eq_true, not_true_eq_false, false_and, and_false, List.set_cons_zero, List.set_cons_succ, Nat.reduceAdd, Nat.reduceSub, Nat.reduceMul, Nat.reduceLeDiff, Nat.reduceLT, Nat.reduceEqDiff, ↓reduceIte, Int.reduceNeg, Int.reduceAdd, Int.reduceSub, Int.reduceMul, Int.reduceEq, Int.reduceNe, Int.reduceLE, Int.reduceLT, Int.reduceToNat, Nat.one_ne_zero, Nat.zero_ne_one, Int.cast_ofNat_Int, lc_lt, lc_ge, lc_gt, lc_le, lc_eq, lc_ne, w32i, w64i, tdv, tmd, ltT, ltF, leT, leF, eqT, eqF, dc_M_kilnPart, dc_M_firePart]
  refine m_blanks t c1 rfl p0 pN ?_
  intro g0 f0 e0
  rw [c5] at e0
  have am0 : am g g0 := fun k j e => f0 k j (by omega)
  have q0 := tm_same c1 am0
  have c40 : g0 124 25 = 0 := by rw [f0 _ _ (by omega)]; exact c4
  have h0 : g0 140 0 = T 0 0 := by rw [f0 _ _ (by omega)]; exact c2.1.1
  have ssk : sk b N s = s := by rw [← c5]; exact rnT_rn isB b N _
  rw [ax_kk]
  simp (disch := omega) only [ax_ev, ax_kk, ax_ps, ax_r_const, ax_r_lconst, ax_r_str, ax_r_iload, ax_r_lload, ax_r_aload, ax_r_istore, ax_r_astore, ax_r_lstore, ax_r_iinc, ax_r_iadd, ax_r_isub, ax_r_imul, ax_r_idiv, ax_r_irem, ax_r_iand, ax_r_ior, ax_r_ishl, ax_r_ishr, ax_r_iushr, ax_r_i2l, ax_r_l2i, ax_r_i2b, ax_r_ladd, ax_r_lsub, ax_r_lmul, ax_r_ldiv, ax_r_lrem, ax_r_land, ax_r_lor, ax_r_lcmp, ax_r_ifeq, ax_r_ifne, ax_r_iflt, ax_r_ifge, ax_r_ifgt, ax_r_ifle, ax_r_iceq, ax_r_icne, ax_r_iclt, ax_r_icge, ax_r_icgt, ax_r_icle, ax_r_goto, ax_r_tsw, ax_evt_c, ax_evt_n, ax_r_lsw, ax_evu_c, ax_evu_n, ax_r_getI, ax_r_getR, ax_r_putI, ax_r_putZ, ax_r_iald, ax_r_iast, ax_r_lald, ax_r_last, ax_r_bald, ax_r_aald, ax_r_alen, ax_r_bast, ax_r_min, ax_r_max, ax_r_minl, ax_r_maxl, ax_r_copy, ax_r_slen, ax_r_schr, ax_r_dup, ax_r_dup2, ax_r_pop, ax_r_ret, ax_r_lret, ax_r_vret, ax_r_zret, ax_r_aret, ax_r_call, ax_evo, ax_eva, ax_ar, ax_tk, ax_ex, ax_ld, ax_sto, ax_stl, ly_pm, ly_cd, ly_ln, ly_rf, Option.bind_some, Option.map_some, if_true, if_false, true_and, and_true, List.nil_append, List.cons_append, List.append_nil, List.length_nil, List.length_cons, List.headD_cons, true_or, or_true, false_or, or_false, ne_eq, not_false_eq_true, not_true_eq_false, false_and, and_false, List.set_cons_zero, List.set_cons_succ, Nat.reduceAdd, Nat.reduceSub, Nat.reduceMul, Nat.reduceLeDiff, Nat.reduceLT, Nat.reduceEqDiff, ↓reduceIte, Int.reduceNeg, Int.reduceAdd, Int.reduceSub, Int.reduceMul, Int.reduceEq, Int.reduceNe, Int.reduceLE, Int.reduceLT, Int.reduceToNat, Nat.one_ne_zero, Nat.zero_ne_one, Int.cast_ofNat_Int, lc_lt, lc_ge, lc_gt, lc_le, lc_eq, lc_ne, w32i, w64i, tdv, tmd, ltT, ltF, leT, leF, eqT, eqF, dc_M_kilnPart, dc_M_firePart, e0, h0]
  refine m_amount t q0 e0 c40 (by omega) sN (by omega) (by omega) (by omega) (by omega) ?_
  intro g1 v f1 r1 F1 vb S1
  rw [if_pos rfl] at F1
  rw [ssk] at F1 S1
  rw [ax_kk]
  have am1 : am g g1 := fun k j e => by rw [f1 k j e]; exact am0 k j e
  by_cases z : nf b N s 0 (T 0 0 - 1) = 0
  · obtain ⟨v1, p1⟩ := S1 rfl z
    obtain ⟨kk, vl, vh⟩ := nf_0 (by omega) z
    have tv : g1 141 v = T 3 v := by rw [am1 _ _ (by omega)]; exact c2.2.1 v (by omega) (by omega)
    rw [z] at F1
    rw [if_neg (by omega)] at hq
    by_cases w : T 3 v = -1
    · rw [if_pos (by rw [← v1]; exact w)] at hq
      have H := hq (ax_up (ax_up g1 124 25 (1 + 8 * s + 1)) 140 3 v) ⟨mfr_up (mfr_am (mfr_refl g) (fun k j e => by rw [ax_up_no (by omega)]; exact am1 k j e)) (by omega), mB_up (mB_same c3 (fun k j e => by rw [ax_up_no (by omega)]; exact am1 k j e)) (by omega), by rw [up_p (by omega), ax_up_no (by omega)]; exact r1, by rw [up_p (by omega), ax_up_eq]; simp only; omega, fun y => by simp only at y; omega⟩
      rw [w] at tv
      clear hq t f0 f1 S1 c1 c2 c3 am0 q0 am1
      simp (disch := omega) only [ax_ev, ax_kk, ax_ps, ax_r_const, ax_r_lconst, ax_r_str, ax_r_iload, ax_r_lload, ax_r_aload, ax_r_istore, ax_r_astore, ax_r_lstore, ax_r_iinc, ax_r_iadd, ax_r_isub, ax_r_imul, ax_r_idiv, ax_r_irem, ax_r_iand, ax_r_ior, ax_r_ishl, ax_r_ishr, ax_r_iushr, ax_r_i2l, ax_r_l2i, ax_r_i2b, ax_r_ladd, ax_r_lsub, ax_r_lmul, ax_r_ldiv, ax_r_lrem, ax_r_land, ax_r_lor, ax_r_lcmp, ax_r_ifeq, ax_r_ifne, ax_r_iflt, ax_r_ifge, ax_r_ifgt, ax_r_ifle, ax_r_iceq, ax_r_icne, ax_r_iclt, ax_r_icge, ax_r_icgt, ax_r_icle, ax_r_goto, ax_r_tsw, ax_evt_c, ax_evt_n, ax_r_lsw, ax_evu_c, ax_evu_n, ax_r_getI, ax_r_getR, ax_r_putI, ax_r_putZ, ax_r_iald, ax_r_iast, ax_r_lald, ax_r_last, ax_r_bald, ax_r_aald, ax_r_alen, ax_r_bast, ax_r_min, ax_r_max, ax_r_minl, ax_r_maxl, ax_r_copy, ax_r_slen, ax_r_schr, ax_r_dup, ax_r_dup2, ax_r_pop, ax_r_ret, ax_r_lret, ax_r_vret, ax_r_zret, ax_r_aret, ax_r_call, ax_evo, ax_eva, ax_ar, ax_tk, ax_ex, ax_ld, ax_sto, ax_stl, ly_pm, ly_cd, ly_ln, ly_rf, Option.bind_some, Option.map_some, if_true, if_false, true_and, and_true, List.nil_append, List.cons_append, List.append_nil, List.length_nil, List.length_cons, List.headD_cons, true_or, or_true, false_or, or_false, ne_eq, not_false_eq_true, not_true_eq_false, false_and, and_false, List.set_cons_zero, List.set_cons_succ, Nat.reduceAdd, Nat.reduceSub, Nat.reduceMul, Nat.reduceLeDiff, Nat.reduceLT, Nat.reduceEqDiff, ↓reduceIte, Int.reduceNeg, Int.reduceAdd, Int.reduceSub, Int.reduceMul, Int.reduceEq, Int.reduceNe, Int.reduceLE, Int.reduceLT, Int.reduceToNat, Nat.one_ne_zero, Nat.zero_ne_one, Int.cast_ofNat_Int, lc_lt, lc_ge, lc_gt, lc_le, lc_eq, lc_ne, w32i, w64i, tdv, tmd, ltT, ltF, leT, leF, eqT, eqF, dc_M_kilnPart, dc_M_firePart, dc_M_fails, F1, tv]
      exact H
    · rw [if_neg (by rw [← v1]; exact w)] at hq
      have H := hq (ax_up g1 140 3 v) ⟨mfr_up (mfr_am (mfr_refl g) am1) (by omega), mB_up (mB_same c3 am1) (by omega), by rw [up_p (by omega)]; exact r1, by rw [up_p (by omega)]; exact F1, fun _ => by
          obtain ⟨⟨a, a2, a3', a4, a5⟩, m2, m3, m4⟩ := c2
          dsimp only
          have E : ∀ k j, ¬ (k = 124 ∧ (j = 24 ∨ j = 25)) → ¬ (k = 140 ∧ j = 3) → ax_up g1 140 3 v k j = g k j := fun k j e1 e2 => by rw [ax_up_no e2]; exact am1 k j e1
          have t0 : ∀ i j, ¬ (i = 0 ∧ j = 4) → ax_up T 0 4 (tkV b N s) i j = T i j := fun i j e => by rw [ax_up_no e]
          refine ⟨⟨⟨?_, ?_, ?_, ?_, ?_⟩, fun c x y => ?_, fun c x y => ?_, fun c x y => ?_⟩, ?_⟩
          · rw [E _ _ (by omega) (by omega), t0 _ _ (by omega)]; exact a
          · rw [E _ _ (by omega) (by omega), t0 _ _ (by omega)]; exact a2
          · rw [E _ _ (by omega) (by omega), t0 _ _ (by omega)]; exact a3'
          · rw [ax_up_eq, ax_up_eq]; exact v1
          · rw [E _ _ (by omega) (by omega), t0 _ _ (by omega)]; exact a5
          · rw [E _ _ (by omega) (by omega), t0 _ _ (by omega)]; exact m2 c x y
          · rw [t0 0 2 (by omega)] at y
            rw [E _ _ (by omega) (by omega), E _ _ (by omega) (by omega), t0 _ _ (by omega), t0 _ _ (by omega)]; exact m3 c x y
          · rw [t0 0 3 (by omega)] at y
            rw [E _ _ (by omega) (by omega), E _ _ (by omega) (by omega), E _ _ (by omega) (by omega), t0 _ _ (by omega), t0 _ _ (by omega), t0 _ _ (by omega)]; exact m4 c x y
          · rw [up_p (by omega), p1]; rfl⟩
      clear hq t f0 f1 S1 c1 c2 c3 am0 q0 am1
      simp (disch := omega) only [ax_ev, ax_kk, ax_ps, ax_r_const, ax_r_lconst, ax_r_str, ax_r_iload, ax_r_lload, ax_r_aload, ax_r_istore, ax_r_astore, ax_r_lstore, ax_r_iinc, ax_r_iadd, ax_r_isub, ax_r_imul, ax_r_idiv, ax_r_irem, ax_r_iand, ax_r_ior, ax_r_ishl, ax_r_ishr, ax_r_iushr, ax_r_i2l, ax_r_l2i, ax_r_i2b, ax_r_ladd, ax_r_lsub, ax_r_lmul, ax_r_ldiv, ax_r_lrem, ax_r_land, ax_r_lor, ax_r_lcmp, ax_r_ifeq, ax_r_ifne, ax_r_iflt, ax_r_ifge, ax_r_ifgt, ax_r_ifle, ax_r_iceq, ax_r_icne, ax_r_iclt, ax_r_icge, ax_r_icgt, ax_r_icle, ax_r_goto, ax_r_tsw, ax_evt_c, ax_evt_n, ax_r_lsw, ax_evu_c, ax_evu_n, ax_r_getI, ax_r_getR, ax_r_putI, ax_r_putZ, ax_r_iald, ax_r_iast, ax_r_lald, ax_r_last, ax_r_bald, ax_r_aald, ax_r_alen, ax_r_bast, ax_r_min, ax_r_max, ax_r_minl, ax_r_maxl, ax_r_copy, ax_r_slen, ax_r_schr, ax_r_dup, ax_r_dup2, ax_r_pop, ax_r_ret, ax_r_lret, ax_r_vret, ax_r_zret, ax_r_aret, ax_r_call, ax_evo, ax_eva, ax_ar, ax_tk, ax_ex, ax_ld, ax_sto, ax_stl, ly_pm, ly_cd, ly_ln, ly_rf, Option.bind_some, Option.map_some, if_true, if_false, true_and, and_true, List.nil_append, List.cons_append, List.append_nil, List.length_nil, List.length_cons, List.headD_cons, true_or, or_true, false_or, or_false, ne_eq, not_false_eq_true, not_true_eq_false, false_and, and_false, List.set_cons_zero, List.set_cons_succ, Nat.reduceAdd, Nat.reduceSub, Nat.reduceMul, Nat.reduceLeDiff, Nat.reduceLT, Nat.reduceEqDiff, ↓reduceIte, Int.reduceNeg, Int.reduceAdd, Int.reduceSub, Int.reduceMul, Int.reduceEq, Int.reduceNe, Int.reduceLE, Int.reduceLT, Int.reduceToNat, Nat.one_ne_zero, Nat.zero_ne_one, Int.cast_ofNat_Int, lc_lt, lc_ge, lc_gt, lc_le, lc_eq, lc_ne, w32i, w64i, tdv, tmd, ltT, ltF, leT, leF, eqT, eqF, dc_M_kilnPart, dc_M_firePart, F1, tv]
      exact H
  · rw [if_pos z] at hq
    have H := hq (ax_up g1 140 3 v) ⟨mfr_up (mfr_am (mfr_refl g) am1) (by omega), mB_up (mB_same c3 am1) (by omega), by rw [up_p (by omega)]; exact r1, by rw [up_p (by omega)]; exact F1, fun y => absurd y z⟩
    rw [← F1] at z
    clear hq t f0 f1 S1 c1 c2 c3 am0 q0 am1
    simp (disch := omega) only [ax_ev, ax_kk, ax_ps, ax_r_const, ax_r_lconst, ax_r_str, ax_r_iload, ax_r_lload, ax_r_aload, ax_r_istore, ax_r_astore, ax_r_lstore, ax_r_iinc, ax_r_iadd, ax_r_isub, ax_r_imul, ax_r_idiv, ax_r_irem, ax_r_iand, ax_r_ior, ax_r_ishl, ax_r_ishr, ax_r_iushr, ax_r_i2l, ax_r_l2i, ax_r_i2b, ax_r_ladd, ax_r_lsub, ax_r_lmul, ax_r_ldiv, ax_r_lrem, ax_r_land, ax_r_lor, ax_r_lcmp, ax_r_ifeq, ax_r_ifne, ax_r_iflt, ax_r_ifge, ax_r_ifgt, ax_r_ifle, ax_r_iceq, ax_r_icne, ax_r_iclt, ax_r_icge, ax_r_icgt, ax_r_icle, ax_r_goto, ax_r_tsw, ax_evt_c, ax_evt_n, ax_r_lsw, ax_evu_c, ax_evu_n, ax_r_getI, ax_r_getR, ax_r_putI, ax_r_putZ, ax_r_iald, ax_r_iast, ax_r_lald, ax_r_last, ax_r_bald, ax_r_aald, ax_r_alen, ax_r_bast, ax_r_min, ax_r_max, ax_r_minl, ax_r_maxl, ax_r_copy, ax_r_slen, ax_r_schr, ax_r_dup, ax_r_dup2, ax_r_pop, ax_r_ret, ax_r_lret, ax_r_vret, ax_r_zret, ax_r_aret, ax_r_call, ax_evo, ax_eva, ax_ar, ax_tk, ax_ex, ax_ld, ax_sto, ax_stl, ly_pm, ly_cd, ly_ln, ly_rf, Option.bind_some, Option.map_some, if_true, if_false, true_and, and_true, List.nil_append, List.cons_append, List.append_nil, List.length_nil, List.length_cons, List.headD_cons, true_or, or_true, false_or, or_false, ne_eq, not_false_eq_true, not_true_eq_false, false_and, and_false, List.set_cons_zero, List.set_cons_succ, Nat.reduceAdd, Nat.reduceSub, Nat.reduceMul, Nat.reduceLeDiff, Nat.reduceLT, Nat.reduceEqDiff, ↓reduceIte, Int.reduceNeg, Int.reduceAdd, Int.reduceSub, Int.reduceMul, Int.reduceEq, Int.reduceNe, Int.reduceLE, Int.reduceLT, Int.reduceToNat, Nat.one_ne_zero, Nat.zero_ne_one, Int.cast_ofNat_Int, lc_lt, lc_ge, lc_gt, lc_le, lc_eq, lc_ne, w32i, w64i, tdv, tmd, ltT, ltF, leT, leF, eqT, eqF, dc_M_kilnPart, dc_M_firePart]
    exact H
