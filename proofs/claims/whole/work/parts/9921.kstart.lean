/-! the pair kiln -/
def iv_p (k j : Int) : Prop := (11 ≤ k ∧ k ≤ 19) ∨ (37 ≤ k ∧ k ≤ 90) ∨ (k = 124 ∧ (j = 27 ∨ j = 32 ∨ j = 43)) ∨ (148 ≤ k ∧ k ≤ 153) ∨ (k = 164 ∧ j < 4400) ∨ k = 165
theorem iv_keep3 {h h' : Int → Int → Int} (hi : iv_h h) (ht : iv_tp h') (hn : iv_now h') (hf : ∀ k j, iv_p k j → h' k j = h k j) (hb : ∀ y, 0 ≤ y → y < 3 → (0 ≤ h' 132 y ∧ h' 132 y ≤ 99999) ∧ (0 ≤ h' 133 y ∧ h' 133 y ≤ 99999) ∧ (0 ≤ h' 142 y ∧ h' 142 y ≤ 99999) ∧ (0 ≤ h' 143 y ∧ h' 143 y ≤ 99999)) (hc : ∀ c, 0 ≤ c → c < 9 → -1 ≤ h' 139 c ∧ h' 139 c < 3) : iv_h h' := by
  obtain ⟨-, -, hm, ⟨r1, r2, r3, r4⟩, k1, k2⟩ := hi
  have e11 : h' 11 3 = h 11 3 := hf _ _ (by unfold iv_p; omega)
  refine ⟨ht, hn, ?_, ⟨?_, ?_, ?_, ?_⟩, ?_, ?_⟩
  · intro k k0 k1
    rw [hf 38 k (by unfold iv_p; omega), hf 165 k (by unfold iv_p; omega)]
    obtain ⟨a, b, c⟩ := hm k k0 k1
    refine ⟨a, b, fun q => iv_im_congr (c q) (by omega) (fun i j i0 i1 j0 => hf _ _ (by unfold iv_p; omega)) (fun j j0 j1 => hf _ _ (by unfold iv_p; omega))⟩
  · rw [hf 124 27 (by unfold iv_p; omega), e11]; exact r1
  · omega
  · omega
  · intro r r0 r1'
    obtain ⟨W, hw⟩ := r4 r r0 (by omega)
    exact ⟨W, iv_rx_congr hw (fun j => hf _ _ (by unfold iv_p; omega)) (hf _ _ (by unfold iv_p; omega)) (fun j _ _ => ⟨hf _ _ (by unfold iv_p; omega), hf _ _ (by unfold iv_p; omega)⟩) (hf _ _ (by unfold iv_p; omega)) (fun j _ _ => ⟨hf _ _ (by unfold iv_p; omega), hf _ _ (by unfold iv_p; omega), hf _ _ (by unfold iv_p; omega)⟩)⟩
  · refine ⟨by rw [hf 124 32 (by unfold iv_p; omega)]; exact k1.1, fun y y0 y1 => ?_, fun c c0 c1 => ?_⟩
    · obtain ⟨s1, s2, s3, s4, s5⟩ := k1.2.1 y y0 y1
      obtain ⟨q1, q2, q3, q4⟩ := hb y y0 y1
      refine ⟨q1, q2, q3, q4, fun k k0 k4 => ?_⟩
      rw [hf 164 (1100 * k + 55 + y) (by unfold iv_p; omega), hf 164 (1100 * k + 58 + y) (by unfold iv_p; omega)]
      exact s5 k k0 k4
    · obtain ⟨s1, s2⟩ := k1.2.2 c c0 c1
      refine ⟨hc c c0 c1, fun k k0 k4 => ?_⟩
      rw [hf 164 (1100 * k + 94 + c) (by unfold iv_p; omega)]; exact s2 k k0 k4
  · rw [hf 124 43 (by unfold iv_p; omega)]; exact k2
set_option maxRecDepth 100000 in
set_option maxHeartbeats 4000000 in
theorem w_tcopy2 {g : Int → Int → Int} {d : Nat} {Q : ax_V → ax_H → Prop} (hq : ∀ g', (∀ k j, ¬ (25 ≤ k ∧ k ≤ 31) → g' k j = g k j) → (g' 25 0 = g 4 0 ∧ g' 25 1 = g 4 1 ∧ g' 25 2 = g 4 2 ∧ g' 25 3 = g 4 3 ∧ g' 25 4 = g 4 4) → (∀ y, 0 ≤ y → y < 3 → g' 26 y = g 5 y ∧ g' 27 y = g 6 y) → (∀ c, 0 ≤ c → c < 9 → g' 28 c = g 7 c) → (∀ r, 0 ≤ r → r < 4 → g' 29 r = g 8 r ∧ g' 30 r = g 9 r ∧ g' 31 r = g 10 r) → Q (9, 0) (L0, g')) : ax_Ev (d) 89 0 [(2, 25), (2, 4)] [] (L0, g) Q := by
  simp (disch := omega) only [ax_ev, ax_kk, ax_ps, ax_r_const, ax_r_lconst, ax_r_str, ax_r_iload, ax_r_lload, ax_r_aload, ax_r_istore, ax_r_astore, ax_r_lstore, ax_r_iinc, ax_r_iadd, ax_r_isub, ax_r_imul, ax_r_idiv, ax_r_irem, ax_r_iand, ax_r_ior, ax_r_ishl, ax_r_ishr, ax_r_iushr, ax_r_i2l, ax_r_l2i, ax_r_i2b, ax_r_ladd, ax_r_lsub, ax_r_lmul, ax_r_ldiv, ax_r_lrem, ax_r_land, ax_r_lor, ax_r_lcmp, ax_r_ifeq, ax_r_ifne, ax_r_iflt, ax_r_ifge, ax_r_ifgt, ax_r_ifle, ax_r_iceq, ax_r_icne, ax_r_iclt, ax_r_icge, ax_r_icgt, ax_r_icle, ax_r_goto, ax_r_tsw, ax_evt_c, ax_evt_n, ax_r_lsw, ax_evu_c, ax_evu_n, ax_r_getI, ax_r_getR, ax_r_putI, ax_r_putZ, ax_r_iald, ax_r_iast, ax_r_lald, ax_r_last, ax_r_bald, ax_r_aald, ax_r_alen, ax_r_bast, ax_r_min, ax_r_max, ax_r_minl, ax_r_maxl, ax_r_copy, ax_r_slen, ax_r_schr, ax_r_dup, ax_r_dup2, ax_r_pop, ax_r_ret, ax_r_lret, ax_r_vret, ax_r_zret, ax_r_aret, ax_r_call, ax_evo, ax_eva, ax_ar, ax_tk, ax_ex, ax_ld, ax_sto, ax_stl, ly_pm, ly_cd, ly_ln, ly_rf, Option.bind_some, Option.map_some, if_true, if_false, true_and, and_true, List.nil_append, List.cons_append, List.append_nil, List.length_nil, List.length_cons, List.headD_cons, true_or, or_true, false_or, or_false, ne_eq, not_false_eq_true, not_true_eq_false, false_and, and_false, List.set_cons_zero, List.set_cons_succ, Nat.reduceAdd, Nat.reduceSub, Nat.reduceMul, Nat.reduceLeDiff, Nat.reduceLT, Nat.reduceEqDiff, ↓reduceIte, Int.reduceNeg, Int.reduceAdd, Int.reduceSub, Int.reduceMul, Int.reduceEq, Int.reduceNe, Int.reduceLE, Int.reduceLT, Int.reduceToNat, Nat.one_ne_zero, Nat.zero_ne_one, Int.cast_ofNat_Int, lc_lt, lc_ge, lc_gt, lc_le, lc_eq, lc_ne, w32i, w64i, tdv, tmd, ltT, ltF, leT, leF, eqT, eqF, dc_Told_copyFrom, ax_up]
  refine hq _ ?_ ?_ ?_ ?_ ?_
  · intro k j e
    simp only [ax_cp, ax_up]
    repeat rw [if_neg (by omega)]
  · simp [ax_cp, ax_up]
  · intro y y0 y1
    simp only [ax_cp, ax_up, Int.reduceEq, false_and, true_and, if_false]
    rw [if_pos (by omega), if_pos (by omega), show 0 + (y - 0) = y by omega]; exact ⟨rfl, rfl⟩
  · intro y y0 y1
    simp only [ax_cp, ax_up, Int.reduceEq, false_and, true_and, if_false]
    rw [if_pos (by omega), show 0 + (y - 0) = y by omega]
  · intro y y0 y1
    simp only [ax_cp, ax_up, Int.reduceEq, false_and, true_and, if_false]
    rw [if_pos (by omega), if_pos (by omega), if_pos (by omega), show 0 + (y - 0) = y by omega]; exact ⟨rfl, rfl, rfl⟩
/-- the class's now, begun as T tells -/
def nowT (T x : Int → Int → Int) : Prop := (∀ j, 0 ≤ j → j ≤ 4 → x 25 j = T 0 j) ∧ (∀ y, 0 ≤ y → y < 3 → x 26 y = T 1 y ∧ x 27 y = T 2 y) ∧ (∀ c, 0 ≤ c → c < 9 → x 28 c = T 3 c) ∧ (∀ r, 0 ≤ r → r < 4 → x 29 r = T 4 r ∧ x 30 r = T 5 r ∧ x 31 r = T 6 r) ∧ (∃ J, x 33 = bg (T 0 1) (T 0 4) (x 28) (x 26) J) ∧ x 24 3 = 0 ∧ x 24 4 = 0 ∧ x 24 7 = 0
set_option maxRecDepth 100000 in
set_option maxHeartbeats 4000000 in
theorem c_start {g T : Int → Int → Int} (tc : TC T g) (td : iv_td T) {d : Nat} {Q : ax_V → ax_H → Prop} (hq : ∀ x, (∀ k j, ¬ (25 ≤ k ∧ k ≤ 31) → k ≠ 33 → ¬ (k = 24 ∧ (j = 3 ∨ j = 4 ∨ j = 7)) → x k j = g k j) → nowT T x → Q (9, 0) (L0, x)) : ax_Ev (d + 2) 92 0 [(2, 24), (2, 4)] [] (L0, g) Q := by
  obtain ⟨b1, b2, b3, b4, b5, b6, b7, b8⟩ := td
  have TT : ∀ i j k, k = 4 + i → 0 ≤ i → i ≤ 6 → g k j = T i j := fun i j k e i0 i1 => by subst e; exact tc i j i0 i1
  simp (disch := omega) only [ax_ev, ax_kk, ax_ps, ax_r_const, ax_r_lconst, ax_r_str, ax_r_iload, ax_r_lload, ax_r_aload, ax_r_istore, ax_r_astore, ax_r_lstore, ax_r_iinc, ax_r_iadd, ax_r_isub, ax_r_imul, ax_r_idiv, ax_r_irem, ax_r_iand, ax_r_ior, ax_r_ishl, ax_r_ishr, ax_r_iushr, ax_r_i2l, ax_r_l2i, ax_r_i2b, ax_r_ladd, ax_r_lsub, ax_r_lmul, ax_r_ldiv, ax_r_lrem, ax_r_land, ax_r_lor, ax_r_lcmp, ax_r_ifeq, ax_r_ifne, ax_r_iflt, ax_r_ifge, ax_r_ifgt, ax_r_ifle, ax_r_iceq, ax_r_icne, ax_r_iclt, ax_r_icge, ax_r_icgt, ax_r_icle, ax_r_goto, ax_r_tsw, ax_evt_c, ax_evt_n, ax_r_lsw, ax_evu_c, ax_evu_n, ax_r_getI, ax_r_getR, ax_r_putI, ax_r_putZ, ax_r_iald, ax_r_iast, ax_r_lald, ax_r_last, ax_r_bald, ax_r_aald, ax_r_alen, ax_r_bast, ax_r_min, ax_r_max, ax_r_minl, ax_r_maxl, ax_r_copy, ax_r_slen, ax_r_schr, ax_r_dup, ax_r_dup2, ax_r_pop, ax_r_ret, ax_r_lret, ax_r_vret, ax_r_zret, ax_r_aret, ax_r_call, ax_evo, ax_eva, ax_ar, ax_tk, ax_ex, ax_ld, ax_sto, ax_stl, ly_pm, ly_cd, ly_ln, ly_rf, Option.bind_some, Option.map_some, if_true, if_false, true_and, and_true, List.nil_append, List.cons_append, List.append_nil, List.length_nil, List.length_cons, List.headD_cons, true_or, or_true, false_or, or_false, ne_eq, not_false_eq_true, not_true_eq_false, false_and, and_false, List.set_cons_zero, List.set_cons_succ, Nat.reduceAdd, Nat.reduceSub, Nat.reduceMul, Nat.reduceLeDiff, Nat.reduceLT, Nat.reduceEqDiff, ↓reduceIte, Int.reduceNeg, Int.reduceAdd, Int.reduceSub, Int.reduceMul, Int.reduceEq, Int.reduceNe, Int.reduceLE, Int.reduceLT, Int.reduceToNat, Nat.one_ne_zero, Nat.zero_ne_one, Int.cast_ofNat_Int, lc_lt, lc_ge, lc_gt, lc_le, lc_eq, lc_ne, w32i, w64i, tdv, tmd, ltT, ltF, leT, leF, eqT, eqF, dc_Works_startAs]
  refine w_tcopy2 ?_
  intro g1 p1 p2 p3 p4 p5
  rw [ax_kk]
  simp (disch := omega) only [ax_ev, ax_kk, ax_ps, ax_r_const, ax_r_lconst, ax_r_str, ax_r_iload, ax_r_lload, ax_r_aload, ax_r_istore, ax_r_astore, ax_r_lstore, ax_r_iinc, ax_r_iadd, ax_r_isub, ax_r_imul, ax_r_idiv, ax_r_irem, ax_r_iand, ax_r_ior, ax_r_ishl, ax_r_ishr, ax_r_iushr, ax_r_i2l, ax_r_l2i, ax_r_i2b, ax_r_ladd, ax_r_lsub, ax_r_lmul, ax_r_ldiv, ax_r_lrem, ax_r_land, ax_r_lor, ax_r_lcmp, ax_r_ifeq, ax_r_ifne, ax_r_iflt, ax_r_ifge, ax_r_ifgt, ax_r_ifle, ax_r_iceq, ax_r_icne, ax_r_iclt, ax_r_icge, ax_r_icgt, ax_r_icle, ax_r_goto, ax_r_tsw, ax_evt_c, ax_evt_n, ax_r_lsw, ax_evu_c, ax_evu_n, ax_r_getI, ax_r_getR, ax_r_putI, ax_r_putZ, ax_r_iald, ax_r_iast, ax_r_lald, ax_r_last, ax_r_bald, ax_r_aald, ax_r_alen, ax_r_bast, ax_r_min, ax_r_max, ax_r_minl, ax_r_maxl, ax_r_copy, ax_r_slen, ax_r_schr, ax_r_dup, ax_r_dup2, ax_r_pop, ax_r_ret, ax_r_lret, ax_r_vret, ax_r_zret, ax_r_aret, ax_r_call, ax_evo, ax_eva, ax_ar, ax_tk, ax_ex, ax_ld, ax_sto, ax_stl, ly_pm, ly_cd, ly_ln, ly_rf, Option.bind_some, Option.map_some, if_true, if_false, true_and, and_true, List.nil_append, List.cons_append, List.append_nil, List.length_nil, List.length_cons, List.headD_cons, true_or, or_true, false_or, or_false, ne_eq, not_false_eq_true, not_true_eq_false, false_and, and_false, List.set_cons_zero, List.set_cons_succ, Nat.reduceAdd, Nat.reduceSub, Nat.reduceMul, Nat.reduceLeDiff, Nat.reduceLT, Nat.reduceEqDiff, ↓reduceIte, Int.reduceNeg, Int.reduceAdd, Int.reduceSub, Int.reduceMul, Int.reduceEq, Int.reduceNe, Int.reduceLE, Int.reduceLT, Int.reduceToNat, Nat.one_ne_zero, Nat.zero_ne_one, Int.cast_ofNat_Int, lc_lt, lc_ge, lc_gt, lc_le, lc_eq, lc_ne, w32i, w64i, tdv, tmd, ltT, ltF, leT, leF, eqT, eqF, dc_Works_startAs]
  refine w_begin (o := 32) (t := 25) ?_ ?_ (by omega) ?_ ?_ ?_
  · unfold lSt; simp only [ly_cd, ly_rf, ly_ln, Int.reduceAdd]; decide
  · unfold lTd; simp only [ly_cd, ly_rf, ly_ln, Int.reduceAdd]; decide
  · intro c c0 c1
    simp only [Int.reduceAdd]
    rw [p4 c c0 c1, TT 3 c 7 (by omega) (by omega) (by omega)]
    have := b7 c c0 c1; omega
  · rw [p2.2.2.2.2, TT 0 4 4 (by omega) (by omega) (by omega)]
    omega
  · rw [ax_kk]
    simp only [Int.reduceAdd]
    have H := hq (ax_up (ax_up (ax_up (ax_rw g1 33 (bg (g1 25 1) (g1 25 4) (g1 28) (g1 26) (g1 33))) 24 3 0) 24 4 0) 24 7 0) (fun k j e1 e2 e3 => by
        rw [ax_up_no (by omega), ax_up_no (by omega), ax_up_no (by omega), rwno _ _ _ _ _ e2]; exact p1 k j e1) (by
        have X : ∀ k j, k ≠ 33 → k ≠ 24 → ax_up (ax_up (ax_up (ax_rw g1 33 (bg (g1 25 1) (g1 25 4) (g1 28) (g1 26) (g1 33))) 24 3 0) 24 4 0) 24 7 0 k j = g1 k j := fun k j e1 e2 => by
          rw [ax_up_no (by omega), ax_up_no (by omega), ax_up_no (by omega), rwno _ _ _ _ _ e1]
        have X28 : ax_up (ax_up (ax_up (ax_rw g1 33 (bg (g1 25 1) (g1 25 4) (g1 28) (g1 26) (g1 33))) 24 3 0) 24 4 0) 24 7 0 28 = g1 28 := funext fun j => X 28 j (by omega) (by omega)
        have X26 : ax_up (ax_up (ax_up (ax_rw g1 33 (bg (g1 25 1) (g1 25 4) (g1 28) (g1 26) (g1 33))) 24 3 0) 24 4 0) 24 7 0 26 = g1 26 := funext fun j => X 26 j (by omega) (by omega)
        refine ⟨fun j j0 j4 => ?_, fun y y0 y1 => ?_, fun c c0 c1 => ?_, fun r r0 r1 => ?_, ⟨g1 33, ?_⟩, by simp [ax_up], by simp [ax_up], by simp [ax_up]⟩
        · rw [X _ _ (by omega) (by omega)]
          rcases (by omega : j = 0 ∨ j = 1 ∨ j = 2 ∨ j = 3 ∨ j = 4) with e | e | e | e | e <;> subst e
          · rw [p2.1]; exact TT 0 _ 4 (by omega) (by omega) (by omega)
          · rw [p2.2.1]; exact TT 0 _ 4 (by omega) (by omega) (by omega)
          · rw [p2.2.2.1]; exact TT 0 _ 4 (by omega) (by omega) (by omega)
          · rw [p2.2.2.2.1]; exact TT 0 _ 4 (by omega) (by omega) (by omega)
          · rw [p2.2.2.2.2]; exact TT 0 _ 4 (by omega) (by omega) (by omega)
        · rw [X _ _ (by omega) (by omega), X _ _ (by omega) (by omega), (p3 y y0 y1).1, (p3 y y0 y1).2]
          exact ⟨TT 1 _ 5 (by omega) (by omega) (by omega), TT 2 _ 6 (by omega) (by omega) (by omega)⟩
        · rw [X _ _ (by omega) (by omega), p4 c c0 c1]; exact TT 3 _ 7 (by omega) (by omega) (by omega)
        · rw [X _ _ (by omega) (by omega), X _ _ (by omega) (by omega), X _ _ (by omega) (by omega), (p5 r r0 r1).1, (p5 r r0 r1).2.1, (p5 r r0 r1).2.2]
          exact ⟨TT 4 _ 8 (by omega) (by omega) (by omega), TT 5 _ 9 (by omega) (by omega) (by omega), TT 6 _ 10 (by omega) (by omega) (by omega)⟩
        · rw [X28, X26, ← TT 0 1 4 (by omega) (by omega) (by omega), ← TT 0 4 4 (by omega) (by omega) (by omega), ← p2.2.1, ← p2.2.2.2.2]
          funext j
          rw [ax_up_no (by omega), ax_up_no (by omega), ax_up_no (by omega), rwrd])
    clear hq p1 p2 p3 p4 p5 TT tc b1 b2 b3 b4 b5 b6 b7 b8
    simp (disch := omega) only [ax_ev, ax_kk, ax_ps, ax_r_const, ax_r_lconst, ax_r_str, ax_r_iload, ax_r_lload, ax_r_aload, ax_r_istore, ax_r_astore, ax_r_lstore, ax_r_iinc, ax_r_iadd, ax_r_isub, ax_r_imul, ax_r_idiv, ax_r_irem, ax_r_iand, ax_r_ior, ax_r_ishl, ax_r_ishr, ax_r_iushr, ax_r_i2l, ax_r_l2i, ax_r_i2b, ax_r_ladd, ax_r_lsub, ax_r_lmul, ax_r_ldiv, ax_r_lrem, ax_r_land, ax_r_lor, ax_r_lcmp, ax_r_ifeq, ax_r_ifne, ax_r_iflt, ax_r_ifge, ax_r_ifgt, ax_r_ifle, ax_r_iceq, ax_r_icne, ax_r_iclt, ax_r_icge, ax_r_icgt, ax_r_icle, ax_r_goto, ax_r_tsw, ax_evt_c, ax_evt_n, ax_r_lsw, ax_evu_c, ax_evu_n, ax_r_getI, ax_r_getR, ax_r_putI, ax_r_putZ, ax_r_iald, ax_r_iast, ax_r_lald, ax_r_last, ax_r_bald, ax_r_aald, ax_r_alen, ax_r_bast, ax_r_min, ax_r_max, ax_r_minl, ax_r_maxl, ax_r_copy, ax_r_slen, ax_r_schr, ax_r_dup, ax_r_dup2, ax_r_pop, ax_r_ret, ax_r_lret, ax_r_vret, ax_r_zret, ax_r_aret, ax_r_call, ax_evo, ax_eva, ax_ar, ax_tk, ax_ex, ax_ld, ax_sto, ax_stl, ly_pm, ly_cd, ly_ln, ly_rf, Option.bind_some, Option.map_some, if_true, if_false, true_and, and_true, List.nil_append, List.cons_append, List.append_nil, List.length_nil, List.length_cons, List.headD_cons, true_or, or_true, false_or, or_false, ne_eq, not_false_eq_true, not_true_eq_false, false_and, and_false, List.set_cons_zero, List.set_cons_succ, Nat.reduceAdd, Nat.reduceSub, Nat.reduceMul, Nat.reduceLeDiff, Nat.reduceLT, Nat.reduceEqDiff, ↓reduceIte, Int.reduceNeg, Int.reduceAdd, Int.reduceSub, Int.reduceMul, Int.reduceEq, Int.reduceNe, Int.reduceLE, Int.reduceLT, Int.reduceToNat, Nat.one_ne_zero, Nat.zero_ne_one, Int.cast_ofNat_Int, lc_lt, lc_ge, lc_gt, lc_le, lc_eq, lc_ne, w32i, w64i, tdv, tmd, ltT, ltF, leT, leF, eqT, eqF, dc_Works_startAs]
    exact H
/-- the reference's now, begun as T tells -/
def mNow (T g : Int → Int → Int) : Prop := (g 125 0 = T 0 0 ∧ g 125 1 = T 0 2 ∧ g 125 2 = T 0 3 ∧ g 125 3 = T 0 4 ∧ g 125 4 = T 0 1) ∧ (g 125 5 = 0 ∧ g 125 6 = T 0 4 ∧ g 125 7 = T 0 1 ∧ g 125 8 = 0 ∧ g 125 9 = 0) ∧ (∀ c, 0 ≤ c → c < 9 → g 139 c = T 3 c ∧ g 126 c = T 3 c ∧ g 127 c = (if T 3 c = -1 then 0 else g 132 (T 3 c)) ∧ g 128 c = 0 ∧ g 129 c = (if c = T 0 4 then 40 else 0)) ∧ (∀ y, 0 ≤ y → y < 3 → g 130 y = 0) ∧ (∀ r, 0 ≤ r → r < 4 → g 131 r = -1) ∧ (∀ y, 0 ≤ y → y < T 0 2 → g 132 y = T 1 y ∧ g 133 y = T 2 y) ∧ (∀ r, 0 ≤ r → r < T 0 3 → g 134 r = T 4 r ∧ g 135 r = T 5 r ∧ g 136 r = T 6 r) ∧ g 124 48 = 0 ∧ (∀ y, 0 ≤ y → y < 3 → (0 ≤ g 132 y ∧ g 132 y ≤ 99999) ∧ (0 ≤ g 133 y ∧ g 133 y ≤ 99999))
theorem cp_no {h : Int → Int → Int} {a i b j n k x : Int} (e : k ≠ b) : ax_cp h a i b j n k x = h k x := by simp only [ax_cp]; rw [if_neg (by omega)]
theorem cp_eq {h : Int → Int → Int} {a b n x : Int} (x0 : 0 ≤ x) (x1 : x < n) : ax_cp h a 0 b 0 n b x = h a x := by simp only [ax_cp, true_and]; rw [if_pos (by omega)]; congr 1; omega
set_option maxRecDepth 100000 in
set_option maxHeartbeats 4000000 in
theorem m_start {g T : Int → Int → Int} (mt : MT T g) (mb : mB g) (td : iv_td T) (f0 : g 124 25 = 0) {d : Nat} {Q : ax_V → ax_H → Prop} (hq : ∀ x, (∀ k j, ¬ (125 ≤ k ∧ k ≤ 136) → k ≠ 139 → ¬ (k = 124 ∧ j = 48) → x k j = g k j) → (x 125 10 = g 125 10 ∧ x 125 11 = g 125 11) → mNow T x → Q (0, T 0 2) (L0, x)) : ax_Ev (d + 2) 156 4 [(2, 124), (9, 0)] [] (L0, g) Q := by
  obtain ⟨b1, b2, b3, b4, b5, b6, b7, b8⟩ := td
  obtain ⟨⟨a1, a2, a3, a4, a5⟩, m2, m3, m4⟩ := mt
  -- the scalars
  obtain ⟨G, hG⟩ : ∃ G, G = ax_up (ax_up (ax_up (ax_up (ax_up (ax_up g 125 0 (T 0 0)) 125 1 (T 0 2)) 125 2 (T 0 3)) 125 3 (T 0 4)) 125 4 (T 0 1)) 125 9 0 := ⟨_, rfl⟩
  have Gn : ∀ k j, ¬ (k = 125 ∧ (j ≤ 4 ∨ j = 9)) → G k j = g k j := fun k j e => by
    rw [hG]; repeat rw [ax_up_no (by omega)]
  have G125 : G 125 0 = T 0 0 ∧ G 125 1 = T 0 2 ∧ G 125 2 = T 0 3 ∧ G 125 3 = T 0 4 ∧ G 125 4 = T 0 1 ∧ G 125 9 = 0 := by
    rw [hG]; simp [ax_up]
  have STP : ∀ Q, ax_Ev (d + 1) 175 0 [(2, 141), (2, 139), (9, 0)] [] (L0, G) (ax_k (d + 2) 156 63 [(2, 124), (0, 5)] [] Q) → ax_Ev (d + 2) 156 4 [(2, 124), (9, 0)] [] (L0, g) Q := by
    intro Q H
    rw [hG] at H
    clear hq Gn G125 m2 m3 m4 b6 b7 b8 mb hG
    simp (disch := omega) only [ax_ev, ax_kk, ax_ps, ax_r_const, ax_r_lconst, ax_r_str, ax_r_iload, ax_r_lload, ax_r_aload, ax_r_istore, ax_r_astore, ax_r_lstore, ax_r_iinc, ax_r_iadd, ax_r_isub, ax_r_imul, ax_r_idiv, ax_r_irem, ax_r_iand, ax_r_ior, ax_r_ishl, ax_r_ishr, ax_r_iushr, ax_r_i2l, ax_r_l2i, ax_r_i2b, ax_r_ladd, ax_r_lsub, ax_r_lmul, ax_r_ldiv, ax_r_lrem, ax_r_land, ax_r_lor, ax_r_lcmp, ax_r_ifeq, ax_r_ifne, ax_r_iflt, ax_r_ifge, ax_r_ifgt, ax_r_ifle, ax_r_iceq, ax_r_icne, ax_r_iclt, ax_r_icge, ax_r_icgt, ax_r_icle, ax_r_goto, ax_r_tsw, ax_evt_c, ax_evt_n, ax_r_lsw, ax_evu_c, ax_evu_n, ax_r_getI, ax_r_getR, ax_r_putI, ax_r_putZ, ax_r_iald, ax_r_iast, ax_r_lald, ax_r_last, ax_r_bald, ax_r_aald, ax_r_alen, ax_r_bast, ax_r_min, ax_r_max, ax_r_minl, ax_r_maxl, ax_r_copy, ax_r_slen, ax_r_schr, ax_r_dup, ax_r_dup2, ax_r_pop, ax_r_ret, ax_r_lret, ax_r_vret, ax_r_zret, ax_r_aret, ax_r_call, ax_evo, ax_eva, ax_ar, ax_tk, ax_ex, ax_ld, ax_sto, ax_stl, ly_pm, ly_cd, ly_ln, ly_rf, Option.bind_some, Option.map_some, if_true, if_false, true_and, and_true, List.nil_append, List.cons_append, List.append_nil, List.length_nil, List.length_cons, List.headD_cons, true_or, or_true, false_or, or_false, ne_eq, not_false_eq_true, not_true_eq_false, false_and, and_false, List.set_cons_zero, List.set_cons_succ, Nat.reduceAdd, Nat.reduceSub, Nat.reduceMul, Nat.reduceLeDiff, Nat.reduceLT, Nat.reduceEqDiff, ↓reduceIte, Int.reduceNeg, Int.reduceAdd, Int.reduceSub, Int.reduceMul, Int.reduceEq, Int.reduceNe, Int.reduceLE, Int.reduceLT, Int.reduceToNat, Nat.one_ne_zero, Nat.zero_ne_one, Int.cast_ofNat_Int, lc_lt, lc_ge, lc_gt, lc_le, lc_eq, lc_ne, w32i, w64i, tdv, tmd, ltT, ltF, leT, leF, eqT, eqF, dc_M_kiln, dh_M_kiln_21, f0, ax_up, a1, a2, a3, a4, a5]
    exact H
  refine STP _ ?_
  clear STP hG
  refine m_copies (n := 9) (by simp only [ly_cd]) (by simp only [ly_ln]) (by simp only [ly_cd]) (by simp only [ly_ln]) (by omega) (by omega) (by omega) ?_
  rw [ax_kk]
  simp (disch := omega) only [ax_ev, ax_kk, ax_ps, ax_r_const, ax_r_lconst, ax_r_str, ax_r_iload, ax_r_lload, ax_r_aload, ax_r_istore, ax_r_astore, ax_r_lstore, ax_r_iinc, ax_r_iadd, ax_r_isub, ax_r_imul, ax_r_idiv, ax_r_irem, ax_r_iand, ax_r_ior, ax_r_ishl, ax_r_ishr, ax_r_iushr, ax_r_i2l, ax_r_l2i, ax_r_i2b, ax_r_ladd, ax_r_lsub, ax_r_lmul, ax_r_ldiv, ax_r_lrem, ax_r_land, ax_r_lor, ax_r_lcmp, ax_r_ifeq, ax_r_ifne, ax_r_iflt, ax_r_ifge, ax_r_ifgt, ax_r_ifle, ax_r_iceq, ax_r_icne, ax_r_iclt, ax_r_icge, ax_r_icgt, ax_r_icle, ax_r_goto, ax_r_tsw, ax_evt_c, ax_evt_n, ax_r_lsw, ax_evu_c, ax_evu_n, ax_r_getI, ax_r_getR, ax_r_putI, ax_r_putZ, ax_r_iald, ax_r_iast, ax_r_lald, ax_r_last, ax_r_bald, ax_r_aald, ax_r_alen, ax_r_bast, ax_r_min, ax_r_max, ax_r_minl, ax_r_maxl, ax_r_copy, ax_r_slen, ax_r_schr, ax_r_dup, ax_r_dup2, ax_r_pop, ax_r_ret, ax_r_lret, ax_r_vret, ax_r_zret, ax_r_aret, ax_r_call, ax_evo, ax_eva, ax_ar, ax_tk, ax_ex, ax_ld, ax_sto, ax_stl, ly_pm, ly_cd, ly_ln, ly_rf, Option.bind_some, Option.map_some, if_true, if_false, true_and, and_true, List.nil_append, List.cons_append, List.append_nil, List.length_nil, List.length_cons, List.headD_cons, true_or, or_true, false_or, or_false, ne_eq, not_false_eq_true, not_true_eq_false, false_and, and_false, List.set_cons_zero, List.set_cons_succ, Nat.reduceAdd, Nat.reduceSub, Nat.reduceMul, Nat.reduceLeDiff, Nat.reduceLT, Nat.reduceEqDiff, ↓reduceIte, Int.reduceNeg, Int.reduceAdd, Int.reduceSub, Int.reduceMul, Int.reduceEq, Int.reduceNe, Int.reduceLE, Int.reduceLT, Int.reduceToNat, Nat.one_ne_zero, Nat.zero_ne_one, Int.cast_ofNat_Int, lc_lt, lc_ge, lc_gt, lc_le, lc_eq, lc_ne, w32i, w64i, tdv, tmd, ltT, ltF, leT, leF, eqT, eqF, dc_M_kiln]
  refine m_copies (n := 3) (by simp only [ly_cd]) (by simp only [ly_ln]) (by simp only [ly_cd]) (by simp only [ly_ln]) (by omega) (by omega) (by omega) ?_
  rw [ax_kk]
  simp (disch := omega) only [ax_ev, ax_kk, ax_ps, ax_r_const, ax_r_lconst, ax_r_str, ax_r_iload, ax_r_lload, ax_r_aload, ax_r_istore, ax_r_astore, ax_r_lstore, ax_r_iinc, ax_r_iadd, ax_r_isub, ax_r_imul, ax_r_idiv, ax_r_irem, ax_r_iand, ax_r_ior, ax_r_ishl, ax_r_ishr, ax_r_iushr, ax_r_i2l, ax_r_l2i, ax_r_i2b, ax_r_ladd, ax_r_lsub, ax_r_lmul, ax_r_ldiv, ax_r_lrem, ax_r_land, ax_r_lor, ax_r_lcmp, ax_r_ifeq, ax_r_ifne, ax_r_iflt, ax_r_ifge, ax_r_ifgt, ax_r_ifle, ax_r_iceq, ax_r_icne, ax_r_iclt, ax_r_icge, ax_r_icgt, ax_r_icle, ax_r_goto, ax_r_tsw, ax_evt_c, ax_evt_n, ax_r_lsw, ax_evu_c, ax_evu_n, ax_r_getI, ax_r_getR, ax_r_putI, ax_r_putZ, ax_r_iald, ax_r_iast, ax_r_lald, ax_r_last, ax_r_bald, ax_r_aald, ax_r_alen, ax_r_bast, ax_r_min, ax_r_max, ax_r_minl, ax_r_maxl, ax_r_copy, ax_r_slen, ax_r_schr, ax_r_dup, ax_r_dup2, ax_r_pop, ax_r_ret, ax_r_lret, ax_r_vret, ax_r_zret, ax_r_aret, ax_r_call, ax_evo, ax_eva, ax_ar, ax_tk, ax_ex, ax_ld, ax_sto, ax_stl, ly_pm, ly_cd, ly_ln, ly_rf, Option.bind_some, Option.map_some, if_true, if_false, true_and, and_true, List.nil_append, List.cons_append, List.append_nil, List.length_nil, List.length_cons, List.headD_cons, true_or, or_true, false_or, or_false, ne_eq, not_false_eq_true, not_true_eq_false, false_and, and_false, List.set_cons_zero, List.set_cons_succ, Nat.reduceAdd, Nat.reduceSub, Nat.reduceMul, Nat.reduceLeDiff, Nat.reduceLT, Nat.reduceEqDiff, ↓reduceIte, Int.reduceNeg, Int.reduceAdd, Int.reduceSub, Int.reduceMul, Int.reduceEq, Int.reduceNe, Int.reduceLE, Int.reduceLT, Int.reduceToNat, Nat.one_ne_zero, Nat.zero_ne_one, Int.cast_ofNat_Int, lc_lt, lc_ge, lc_gt, lc_le, lc_eq, lc_ne, w32i, w64i, tdv, tmd, ltT, ltF, leT, leF, eqT, eqF, dc_M_kiln]
  refine m_copies (n := 3) (by simp only [ly_cd]) (by simp only [ly_ln]) (by simp only [ly_cd]) (by simp only [ly_ln]) (by omega) (by omega) (by omega) ?_
  rw [ax_kk]
  simp (disch := omega) only [ax_ev, ax_kk, ax_ps, ax_r_const, ax_r_lconst, ax_r_str, ax_r_iload, ax_r_lload, ax_r_aload, ax_r_istore, ax_r_astore, ax_r_lstore, ax_r_iinc, ax_r_iadd, ax_r_isub, ax_r_imul, ax_r_idiv, ax_r_irem, ax_r_iand, ax_r_ior, ax_r_ishl, ax_r_ishr, ax_r_iushr, ax_r_i2l, ax_r_l2i, ax_r_i2b, ax_r_ladd, ax_r_lsub, ax_r_lmul, ax_r_ldiv, ax_r_lrem, ax_r_land, ax_r_lor, ax_r_lcmp, ax_r_ifeq, ax_r_ifne, ax_r_iflt, ax_r_ifge, ax_r_ifgt, ax_r_ifle, ax_r_iceq, ax_r_icne, ax_r_iclt, ax_r_icge, ax_r_icgt, ax_r_icle, ax_r_goto, ax_r_tsw, ax_evt_c, ax_evt_n, ax_r_lsw, ax_evu_c, ax_evu_n, ax_r_getI, ax_r_getR, ax_r_putI, ax_r_putZ, ax_r_iald, ax_r_iast, ax_r_lald, ax_r_last, ax_r_bald, ax_r_aald, ax_r_alen, ax_r_bast, ax_r_min, ax_r_max, ax_r_minl, ax_r_maxl, ax_r_copy, ax_r_slen, ax_r_schr, ax_r_dup, ax_r_dup2, ax_r_pop, ax_r_ret, ax_r_lret, ax_r_vret, ax_r_zret, ax_r_aret, ax_r_call, ax_evo, ax_eva, ax_ar, ax_tk, ax_ex, ax_ld, ax_sto, ax_stl, ly_pm, ly_cd, ly_ln, ly_rf, Option.bind_some, Option.map_some, if_true, if_false, true_and, and_true, List.nil_append, List.cons_append, List.append_nil, List.length_nil, List.length_cons, List.headD_cons, true_or, or_true, false_or, or_false, ne_eq, not_false_eq_true, not_true_eq_false, false_and, and_false, List.set_cons_zero, List.set_cons_succ, Nat.reduceAdd, Nat.reduceSub, Nat.reduceMul, Nat.reduceLeDiff, Nat.reduceLT, Nat.reduceEqDiff, ↓reduceIte, Int.reduceNeg, Int.reduceAdd, Int.reduceSub, Int.reduceMul, Int.reduceEq, Int.reduceNe, Int.reduceLE, Int.reduceLT, Int.reduceToNat, Nat.one_ne_zero, Nat.zero_ne_one, Int.cast_ofNat_Int, lc_lt, lc_ge, lc_gt, lc_le, lc_eq, lc_ne, w32i, w64i, tdv, tmd, ltT, ltF, leT, leF, eqT, eqF, dc_M_kiln]
  refine m_copies (n := 4) (by simp only [ly_cd]) (by simp only [ly_ln]) (by simp only [ly_cd]) (by simp only [ly_ln]) (by omega) (by omega) (by omega) ?_
  rw [ax_kk]
  simp (disch := omega) only [ax_ev, ax_kk, ax_ps, ax_r_const, ax_r_lconst, ax_r_str, ax_r_iload, ax_r_lload, ax_r_aload, ax_r_istore, ax_r_astore, ax_r_lstore, ax_r_iinc, ax_r_iadd, ax_r_isub, ax_r_imul, ax_r_idiv, ax_r_irem, ax_r_iand, ax_r_ior, ax_r_ishl, ax_r_ishr, ax_r_iushr, ax_r_i2l, ax_r_l2i, ax_r_i2b, ax_r_ladd, ax_r_lsub, ax_r_lmul, ax_r_ldiv, ax_r_lrem, ax_r_land, ax_r_lor, ax_r_lcmp, ax_r_ifeq, ax_r_ifne, ax_r_iflt, ax_r_ifge, ax_r_ifgt, ax_r_ifle, ax_r_iceq, ax_r_icne, ax_r_iclt, ax_r_icge, ax_r_icgt, ax_r_icle, ax_r_goto, ax_r_tsw, ax_evt_c, ax_evt_n, ax_r_lsw, ax_evu_c, ax_evu_n, ax_r_getI, ax_r_getR, ax_r_putI, ax_r_putZ, ax_r_iald, ax_r_iast, ax_r_lald, ax_r_last, ax_r_bald, ax_r_aald, ax_r_alen, ax_r_bast, ax_r_min, ax_r_max, ax_r_minl, ax_r_maxl, ax_r_copy, ax_r_slen, ax_r_schr, ax_r_dup, ax_r_dup2, ax_r_pop, ax_r_ret, ax_r_lret, ax_r_vret, ax_r_zret, ax_r_aret, ax_r_call, ax_evo, ax_eva, ax_ar, ax_tk, ax_ex, ax_ld, ax_sto, ax_stl, ly_pm, ly_cd, ly_ln, ly_rf, Option.bind_some, Option.map_some, if_true, if_false, true_and, and_true, List.nil_append, List.cons_append, List.append_nil, List.length_nil, List.length_cons, List.headD_cons, true_or, or_true, false_or, or_false, ne_eq, not_false_eq_true, not_true_eq_false, false_and, and_false, List.set_cons_zero, List.set_cons_succ, Nat.reduceAdd, Nat.reduceSub, Nat.reduceMul, Nat.reduceLeDiff, Nat.reduceLT, Nat.reduceEqDiff, ↓reduceIte, Int.reduceNeg, Int.reduceAdd, Int.reduceSub, Int.reduceMul, Int.reduceEq, Int.reduceNe, Int.reduceLE, Int.reduceLT, Int.reduceToNat, Nat.one_ne_zero, Nat.zero_ne_one, Int.cast_ofNat_Int, lc_lt, lc_ge, lc_gt, lc_le, lc_eq, lc_ne, w32i, w64i, tdv, tmd, ltT, ltF, leT, leF, eqT, eqF, dc_M_kiln]
  refine m_copies (n := 4) (by simp only [ly_cd]) (by simp only [ly_ln]) (by simp only [ly_cd]) (by simp only [ly_ln]) (by omega) (by omega) (by omega) ?_
  rw [ax_kk]
  simp (disch := omega) only [ax_ev, ax_kk, ax_ps, ax_r_const, ax_r_lconst, ax_r_str, ax_r_iload, ax_r_lload, ax_r_aload, ax_r_istore, ax_r_astore, ax_r_lstore, ax_r_iinc, ax_r_iadd, ax_r_isub, ax_r_imul, ax_r_idiv, ax_r_irem, ax_r_iand, ax_r_ior, ax_r_ishl, ax_r_ishr, ax_r_iushr, ax_r_i2l, ax_r_l2i, ax_r_i2b, ax_r_ladd, ax_r_lsub, ax_r_lmul, ax_r_ldiv, ax_r_lrem, ax_r_land, ax_r_lor, ax_r_lcmp, ax_r_ifeq, ax_r_ifne, ax_r_iflt, ax_r_ifge, ax_r_ifgt, ax_r_ifle, ax_r_iceq, ax_r_icne, ax_r_iclt, ax_r_icge, ax_r_icgt, ax_r_icle, ax_r_goto, ax_r_tsw, ax_evt_c, ax_evt_n, ax_r_lsw, ax_evu_c, ax_evu_n, ax_r_getI, ax_r_getR, ax_r_putI, ax_r_putZ, ax_r_iald, ax_r_iast, ax_r_lald, ax_r_last, ax_r_bald, ax_r_aald, ax_r_alen, ax_r_bast, ax_r_min, ax_r_max, ax_r_minl, ax_r_maxl, ax_r_copy, ax_r_slen, ax_r_schr, ax_r_dup, ax_r_dup2, ax_r_pop, ax_r_ret, ax_r_lret, ax_r_vret, ax_r_zret, ax_r_aret, ax_r_call, ax_evo, ax_eva, ax_ar, ax_tk, ax_ex, ax_ld, ax_sto, ax_stl, ly_pm, ly_cd, ly_ln, ly_rf, Option.bind_some, Option.map_some, if_true, if_false, true_and, and_true, List.nil_append, List.cons_append, List.append_nil, List.length_nil, List.length_cons, List.headD_cons, true_or, or_true, false_or, or_false, ne_eq, not_false_eq_true, not_true_eq_false, false_and, and_false, List.set_cons_zero, List.set_cons_succ, Nat.reduceAdd, Nat.reduceSub, Nat.reduceMul, Nat.reduceLeDiff, Nat.reduceLT, Nat.reduceEqDiff, ↓reduceIte, Int.reduceNeg, Int.reduceAdd, Int.reduceSub, Int.reduceMul, Int.reduceEq, Int.reduceNe, Int.reduceLE, Int.reduceLT, Int.reduceToNat, Nat.one_ne_zero, Nat.zero_ne_one, Int.cast_ofNat_Int, lc_lt, lc_ge, lc_gt, lc_le, lc_eq, lc_ne, w32i, w64i, tdv, tmd, ltT, ltF, leT, leF, eqT, eqF, dc_M_kiln]
  refine m_copies (n := 4) (by simp only [ly_cd]) (by simp only [ly_ln]) (by simp only [ly_cd]) (by simp only [ly_ln]) (by omega) (by omega) (by omega) ?_
  rw [ax_kk]
  generalize hY : ax_cp (ax_cp (ax_cp (ax_cp (ax_cp (ax_cp G 141 0 139 0 9) 142 0 132 0 3) 143 0 133 0 3) 144 0 134 0 4) 145 0 135 0 4) 146 0 136 0 4 = Y
  have Yn : ∀ k j, k ≠ 139 → ¬ (132 ≤ k ∧ k ≤ 136) → Y k j = G k j := fun k j e1 e2 => by
    rw [← hY, cp_no (by omega), cp_no (by omega), cp_no (by omega), cp_no (by omega), cp_no (by omega), cp_no e1]
  have Y139 : ∀ c, 0 ≤ c → c < 9 → Y 139 c = T 3 c := fun c c0 c1 => by
    rw [← hY, cp_no (by omega), cp_no (by omega), cp_no (by omega), cp_no (by omega), cp_no (by omega), cp_eq c0 c1, Gn _ _ (by omega)]; exact m2 c c0 c1
  have Y132 : ∀ c, 0 ≤ c → c < 3 → Y 132 c = g 142 c ∧ Y 133 c = g 143 c := fun c c0 c1 => by
    constructor
    · rw [← hY, cp_no (by omega), cp_no (by omega), cp_no (by omega), cp_no (by omega), cp_eq c0 c1, cp_no (by omega), Gn _ _ (by omega)]
    · rw [← hY, cp_no (by omega), cp_no (by omega), cp_no (by omega), cp_eq c0 c1, cp_no (by omega), cp_no (by omega), Gn _ _ (by omega)]
  have Y134 : ∀ c, 0 ≤ c → c < 4 → Y 134 c = g 144 c ∧ Y 135 c = g 145 c ∧ Y 136 c = g 146 c := fun c c0 c1 => by
    refine ⟨?_, ?_, ?_⟩
    · rw [← hY, cp_no (by omega), cp_no (by omega), cp_eq c0 c1, cp_no (by omega), cp_no (by omega), cp_no (by omega), Gn _ _ (by omega)]
    · rw [← hY, cp_no (by omega), cp_eq c0 c1, cp_no (by omega), cp_no (by omega), cp_no (by omega), cp_no (by omega), Gn _ _ (by omega)]
    · rw [← hY, cp_eq c0 c1, cp_no (by omega), cp_no (by omega), cp_no (by omega), cp_no (by omega), cp_no (by omega), Gn _ _ (by omega)]
  clear hY
  simp (disch := omega) only [ax_ev, ax_kk, ax_ps, ax_r_const, ax_r_lconst, ax_r_str, ax_r_iload, ax_r_lload, ax_r_aload, ax_r_istore, ax_r_astore, ax_r_lstore, ax_r_iinc, ax_r_iadd, ax_r_isub, ax_r_imul, ax_r_idiv, ax_r_irem, ax_r_iand, ax_r_ior, ax_r_ishl, ax_r_ishr, ax_r_iushr, ax_r_i2l, ax_r_l2i, ax_r_i2b, ax_r_ladd, ax_r_lsub, ax_r_lmul, ax_r_ldiv, ax_r_lrem, ax_r_land, ax_r_lor, ax_r_lcmp, ax_r_ifeq, ax_r_ifne, ax_r_iflt, ax_r_ifge, ax_r_ifgt, ax_r_ifle, ax_r_iceq, ax_r_icne, ax_r_iclt, ax_r_icge, ax_r_icgt, ax_r_icle, ax_r_goto, ax_r_tsw, ax_evt_c, ax_evt_n, ax_r_lsw, ax_evu_c, ax_evu_n, ax_r_getI, ax_r_getR, ax_r_putI, ax_r_putZ, ax_r_iald, ax_r_iast, ax_r_lald, ax_r_last, ax_r_bald, ax_r_aald, ax_r_alen, ax_r_bast, ax_r_min, ax_r_max, ax_r_minl, ax_r_maxl, ax_r_copy, ax_r_slen, ax_r_schr, ax_r_dup, ax_r_dup2, ax_r_pop, ax_r_ret, ax_r_lret, ax_r_vret, ax_r_zret, ax_r_aret, ax_r_call, ax_evo, ax_eva, ax_ar, ax_tk, ax_ex, ax_ld, ax_sto, ax_stl, ly_pm, ly_cd, ly_ln, ly_rf, Option.bind_some, Option.map_some, if_true, if_false, true_and, and_true, List.nil_append, List.cons_append, List.append_nil, List.length_nil, List.length_cons, List.headD_cons, true_or, or_true, false_or, or_false, ne_eq, not_false_eq_true, not_true_eq_false, false_and, and_false, List.set_cons_zero, List.set_cons_succ, Nat.reduceAdd, Nat.reduceSub, Nat.reduceMul, Nat.reduceLeDiff, Nat.reduceLT, Nat.reduceEqDiff, ↓reduceIte, Int.reduceNeg, Int.reduceAdd, Int.reduceSub, Int.reduceMul, Int.reduceEq, Int.reduceNe, Int.reduceLE, Int.reduceLT, Int.reduceToNat, Nat.one_ne_zero, Nat.zero_ne_one, Int.cast_ofNat_Int, lc_lt, lc_ge, lc_gt, lc_le, lc_eq, lc_ne, w32i, w64i, tdv, tmd, ltT, ltF, leT, leF, eqT, eqF, dc_M_kiln]
  refine m_begins (fun c c0 c1 => by rw [Y139 c c0 c1]; have := b7 c c0 c1; omega) ?_
  intro g' p1 p2 p3 p4 p5
  have Y3 : Y 125 3 = T 0 4 := by rw [Yn _ _ (by omega) (by omega)]; exact G125.2.2.2.1
  have Y4 : Y 125 4 = T 0 1 := by rw [Yn _ _ (by omega) (by omega)]; exact G125.2.2.2.2.1
  have e1 : ax_up g' 124 48 0 125 1 = T 0 2 := by rw [ax_up_no (by omega), p1 _ _ (by omega) (by omega), Yn _ _ (by omega) (by omega)]; exact G125.2.1
  have P125 : ∀ j, ¬ (5 ≤ j ∧ j ≤ 8) → g' 125 j = G 125 j := fun j e => by rw [p1 _ _ (by omega) (by omega), Yn _ _ (by omega) (by omega)]
  have H := hq (ax_up g' 124 48 0) (fun k j q1 q2 q3 => by rw [ax_up_no q3, p1 k j (by omega) (by omega), Yn k j q2 (by omega)]; exact Gn k j (by omega)) (by
      rw [ax_up_no (by omega), ax_up_no (by omega), P125 _ (by omega), P125 _ (by omega)]; exact ⟨Gn _ _ (by omega), Gn _ _ (by omega)⟩) (by
      refine ⟨⟨?_, ?_, ?_, ?_, ?_⟩, ⟨?_, ?_, ?_, ?_, ?_⟩, fun c c0 c1 => ?_, fun y y0 y1 => ?_, fun r r0 r1 => ?_, fun y y0 y1 => ?_, fun r r0 r1 => ?_, ax_up_eq, fun y y0 y1 => ?_⟩
      all_goals (repeat rw [ax_up_no (by omega)])
      · rw [P125 _ (by omega)]; exact G125.1
      · rw [P125 _ (by omega)]; exact G125.2.1
      · rw [P125 _ (by omega)]; exact G125.2.2.1
      · rw [P125 _ (by omega)]; exact G125.2.2.2.1
      · rw [P125 _ (by omega)]; exact G125.2.2.2.2.1
      · exact p5.1
      · rw [p5.2.1, Y3]
      · rw [p5.2.2.1, Y4]
      · exact p5.2.2.2
      · rw [P125 _ (by omega)]; exact G125.2.2.2.2.2
      · have q := p2 c c0 c1
        rw [Y139 c c0 c1, Y3] at q
        rw [p1 139 c (by omega) (by omega), Y139 c c0 c1, p1 132 _ (by omega) (by omega)]
        exact ⟨rfl, q⟩
      · exact p3 y y0 y1
      · exact p4 r r0 r1
      · have y3 : y < 3 := by omega
        rw [p1 132 y (by omega) (by omega), p1 133 y (by omega) (by omega), (Y132 y y0 y3).1, (Y132 y y0 y3).2]; exact m3 y y0 y1
      · have r4 : r < 4 := by omega
        rw [p1 134 r (by omega) (by omega), p1 135 r (by omega) (by omega), p1 136 r (by omega) (by omega), (Y134 r r0 r4).1, (Y134 r r0 r4).2.1, (Y134 r r0 r4).2.2]; exact m4 r r0 r1
      · rw [p1 132 y (by omega) (by omega), p1 133 y (by omega) (by omega), (Y132 y y0 y1).1, (Y132 y y0 y1).2]; exact mb y y0 y1)
  rw [ax_kk]
  clear hq p1 p2 p3 p4 p5 Yn Y139 Y132 Y134 Gn G125 m2 m3 m4 b6 b7 b8 mb P125
  simp (disch := omega) only [ax_ev, ax_kk, ax_ps, ax_r_const, ax_r_lconst, ax_r_str, ax_r_iload, ax_r_lload, ax_r_aload, ax_r_istore, ax_r_astore, ax_r_lstore, ax_r_iinc, ax_r_iadd, ax_r_isub, ax_r_imul, ax_r_idiv, ax_r_irem, ax_r_iand, ax_r_ior, ax_r_ishl, ax_r_ishr, ax_r_iushr, ax_r_i2l, ax_r_l2i, ax_r_i2b, ax_r_ladd, ax_r_lsub, ax_r_lmul, ax_r_ldiv, ax_r_lrem, ax_r_land, ax_r_lor, ax_r_lcmp, ax_r_ifeq, ax_r_ifne, ax_r_iflt, ax_r_ifge, ax_r_ifgt, ax_r_ifle, ax_r_iceq, ax_r_icne, ax_r_iclt, ax_r_icge, ax_r_icgt, ax_r_icle, ax_r_goto, ax_r_tsw, ax_evt_c, ax_evt_n, ax_r_lsw, ax_evu_c, ax_evu_n, ax_r_getI, ax_r_getR, ax_r_putI, ax_r_putZ, ax_r_iald, ax_r_iast, ax_r_lald, ax_r_last, ax_r_bald, ax_r_aald, ax_r_alen, ax_r_bast, ax_r_min, ax_r_max, ax_r_minl, ax_r_maxl, ax_r_copy, ax_r_slen, ax_r_schr, ax_r_dup, ax_r_dup2, ax_r_pop, ax_r_ret, ax_r_lret, ax_r_vret, ax_r_zret, ax_r_aret, ax_r_call, ax_evo, ax_eva, ax_ar, ax_tk, ax_ex, ax_ld, ax_sto, ax_stl, ly_pm, ly_cd, ly_ln, ly_rf, Option.bind_some, Option.map_some, if_true, if_false, true_and, and_true, List.nil_append, List.cons_append, List.append_nil, List.length_nil, List.length_cons, List.headD_cons, true_or, or_true, false_or, or_false, ne_eq, not_false_eq_true, not_true_eq_false, false_and, and_false, List.set_cons_zero, List.set_cons_succ, Nat.reduceAdd, Nat.reduceSub, Nat.reduceMul, Nat.reduceLeDiff, Nat.reduceLT, Nat.reduceEqDiff, ↓reduceIte, Int.reduceNeg, Int.reduceAdd, Int.reduceSub, Int.reduceMul, Int.reduceEq, Int.reduceNe, Int.reduceLE, Int.reduceLT, Int.reduceToNat, Nat.one_ne_zero, Nat.zero_ne_one, Int.cast_ofNat_Int, lc_lt, lc_ge, lc_gt, lc_le, lc_eq, lc_ne, w32i, w64i, tdv, tmd, ltT, ltF, leT, leF, eqT, eqF, dc_M_kiln, e1]
  exact H
