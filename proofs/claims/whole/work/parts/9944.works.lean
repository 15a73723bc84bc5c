/-- a Told, made at o -/
def tdB (o : Int) : ax_L := [(9, 11, [-1, -1, -1, -1, -1, o + 1, o + 2, o + 3, o + 4, o + 5, o + 6]), (100, 3, []), (100, 3, []), (100, 9, []), (100, 4, []), (100, 4, []), (100, 4, [])]
def tdF : Int → Int → Int := fun k j => if k = 0 ∧ j = 4 then -1 else if k = 3 ∧ 0 ≤ j ∧ j < 9 then -1 else 0
theorem tdF_z (k j : Int) (hk : 7 ≤ k) : tdF k j = 0 := by unfold tdF; rw [if_neg (by omega), if_neg (by omega)]
set_option maxRecDepth 100000 in
set_option maxHeartbeats 4000000 in
theorem i_told {L : ax_L} {o : Int} (hL : (L.length : Int) = o) {h : Int → Int → Int} (hz : ∀ k j, o ≤ k → h k j = 0) {M : ax_L} (hM : M = L ++ [nw 9]) {d : Nat} {Q : ax_V → ax_H → Prop} (hq : Q (9, 0) (L ++ tdB o, hp h o tdF)) : ax_Ev (d + 1) 87 0 [(2, o)] [] (M, h) Q := by
  have ho : 0 ≤ o := by omega
  rw [hp_self h o hz, hM]
  have H : ∀ F : Int → Int → Int, F = tdF → Q (9, 0) (L ++ tdB o, hp h o F) := fun F e => by rw [e]; exact hq
  clear hq hM hz
  have c1 : ∀ B : ax_L, ax_cd (L ++ B) o = ax_cd B 0 := fun B => ap_cd0 L B hL
  have c2 : ∀ (B : ax_L) (i : Int), 0 ≤ i → ax_cd (L ++ B) (o + i) = ax_cd B i := fun B i => ap_cd L B hL i
  have c3 : ∀ (B : ax_L) (i : Int), 0 ≤ i → ax_ln (L ++ B) (o + i) = ax_ln B i := fun B i => ap_ln L B hL i
  have c4 : ∀ (B : ax_L) (j : Int), ax_rf (L ++ B) o j = ax_rf B 0 j := fun B => ap_rf0 L B hL
  have c5 : ∀ (B : ax_L) (j v : Int), ax_sr (L ++ B) o j v = L ++ ax_sr B 0 j v := fun B => ap_sr0 L B hL
  simp (disch := omega) only [ax_ev, ax_kk, ax_ps, ax_r_const, ax_r_lconst, ax_r_str, ax_r_iload, ax_r_lload, ax_r_aload, ax_r_istore, ax_r_astore, ax_r_lstore, ax_r_iinc, ax_r_iadd, ax_r_isub, ax_r_imul, ax_r_idiv, ax_r_irem, ax_r_iand, ax_r_ior, ax_r_ishl, ax_r_ishr, ax_r_iushr, ax_r_i2l, ax_r_l2i, ax_r_i2b, ax_r_ladd, ax_r_lsub, ax_r_lmul, ax_r_ldiv, ax_r_lrem, ax_r_land, ax_r_lor, ax_r_lcmp, ax_r_ifeq, ax_r_ifne, ax_r_iflt, ax_r_ifge, ax_r_ifgt, ax_r_ifle, ax_r_iceq, ax_r_icne, ax_r_iclt, ax_r_icge, ax_r_icgt, ax_r_icle, ax_r_goto, ax_r_tsw, ax_evt_c, ax_evt_n, ax_r_lsw, ax_evu_c, ax_evu_n, ax_r_getI, ax_r_getR, ax_r_putI, ax_r_putZ, ax_r_iald, ax_r_iast, ax_r_lald, ax_r_last, ax_r_bald, ax_r_aald, ax_r_alen, ax_r_bast, ax_r_min, ax_r_max, ax_r_minl, ax_r_maxl, ax_r_copy, ax_r_slen, ax_r_schr, ax_r_dup, ax_r_dup2, ax_r_pop, ax_r_ret, ax_r_lret, ax_r_vret, ax_r_zret, ax_r_aret, ax_r_call, ax_evo, ax_eva, ax_ar, ax_tk, ax_ex, ax_ld, ax_sto, ax_stl, ly_pm, ly_cd, ly_ln, ly_rf, Option.bind_some, Option.map_some, if_true, if_false, true_and, and_true, List.nil_append, List.cons_append, List.append_nil, List.length_nil, List.length_cons, List.headD_cons, true_or, or_true, false_or, or_false, ne_eq, not_false_eq_true, not_true_eq_false, false_and, and_false, List.set_cons_zero, List.set_cons_succ, Nat.reduceAdd, Nat.reduceSub, Nat.reduceMul, Nat.reduceLeDiff, Nat.reduceLT, Nat.reduceEqDiff, ↓reduceIte, Int.reduceNeg, Int.reduceAdd, Int.reduceSub, Int.reduceMul, Int.reduceEq, Int.reduceNe, Int.reduceLE, Int.reduceLT, Int.reduceToNat, Nat.one_ne_zero, Nat.zero_ne_one, Int.cast_ofNat_Int, lc_lt, lc_ge, lc_gt, lc_le, lc_eq, lc_ne, w32i, w64i, tdv, tmd, ltT, ltF, leT, leF, eqT, eqF, dc_Told_init, ax_r_oi, ax_r_newa, ax_r_putR, nw_9, List.append_assoc, List.length_append, Int.natCast_add, hL, c1, c2, c3, c4, c5, co_cd, co_ln, co_rf, co_sr, co_cd0, co_ln0, co_rf0, co_sr0, hp_up, hp_up0, hp_zr, zr0, Int.reduceToNat, List.getD_cons_zero, List.getD_cons_succ]
  simp (disch := omega) only [ax_ev, ax_kk, ax_ps, ax_r_const, ax_r_lconst, ax_r_str, ax_r_iload, ax_r_lload, ax_r_aload, ax_r_istore, ax_r_astore, ax_r_lstore, ax_r_iinc, ax_r_iadd, ax_r_isub, ax_r_imul, ax_r_idiv, ax_r_irem, ax_r_iand, ax_r_ior, ax_r_ishl, ax_r_ishr, ax_r_iushr, ax_r_i2l, ax_r_l2i, ax_r_i2b, ax_r_ladd, ax_r_lsub, ax_r_lmul, ax_r_ldiv, ax_r_lrem, ax_r_land, ax_r_lor, ax_r_lcmp, ax_r_ifeq, ax_r_ifne, ax_r_iflt, ax_r_ifge, ax_r_ifgt, ax_r_ifle, ax_r_iceq, ax_r_icne, ax_r_iclt, ax_r_icge, ax_r_icgt, ax_r_icle, ax_r_goto, ax_r_tsw, ax_evt_c, ax_evt_n, ax_r_lsw, ax_evu_c, ax_evu_n, ax_r_getI, ax_r_getR, ax_r_putI, ax_r_putZ, ax_r_iald, ax_r_iast, ax_r_lald, ax_r_last, ax_r_bald, ax_r_aald, ax_r_alen, ax_r_bast, ax_r_min, ax_r_max, ax_r_minl, ax_r_maxl, ax_r_copy, ax_r_slen, ax_r_schr, ax_r_dup, ax_r_dup2, ax_r_pop, ax_r_ret, ax_r_lret, ax_r_vret, ax_r_zret, ax_r_aret, ax_r_call, ax_evo, ax_eva, ax_ar, ax_tk, ax_ex, ax_ld, ax_sto, ax_stl, ly_pm, ly_cd, ly_ln, ly_rf, Option.bind_some, Option.map_some, if_true, if_false, true_and, and_true, List.nil_append, List.cons_append, List.append_nil, List.length_nil, List.length_cons, List.headD_cons, true_or, or_true, false_or, or_false, ne_eq, not_false_eq_true, not_true_eq_false, false_and, and_false, List.set_cons_zero, List.set_cons_succ, Nat.reduceAdd, Nat.reduceSub, Nat.reduceMul, Nat.reduceLeDiff, Nat.reduceLT, Nat.reduceEqDiff, ↓reduceIte, Int.reduceNeg, Int.reduceAdd, Int.reduceSub, Int.reduceMul, Int.reduceEq, Int.reduceNe, Int.reduceLE, Int.reduceLT, Int.reduceToNat, Nat.one_ne_zero, Nat.zero_ne_one, Int.cast_ofNat_Int, lc_lt, lc_ge, lc_gt, lc_le, lc_eq, lc_ne, w32i, w64i, tdv, tmd, ltT, ltF, leT, leF, eqT, eqF, dc_Told_clear, dh_Told_clear_27, c1, c2, c3, c4, co_cd, co_ln, co_rf, co_cd0, co_ln0, co_rf0, hp_up, hp_up0, Int.reduceToNat, List.getD_cons_zero, List.getD_cons_succ]
  simp (disch := omega) only [ax_ev, ax_kk, ax_ps, ax_r_const, ax_r_lconst, ax_r_str, ax_r_iload, ax_r_lload, ax_r_aload, ax_r_istore, ax_r_astore, ax_r_lstore, ax_r_iinc, ax_r_iadd, ax_r_isub, ax_r_imul, ax_r_idiv, ax_r_irem, ax_r_iand, ax_r_ior, ax_r_ishl, ax_r_ishr, ax_r_iushr, ax_r_i2l, ax_r_l2i, ax_r_i2b, ax_r_ladd, ax_r_lsub, ax_r_lmul, ax_r_ldiv, ax_r_lrem, ax_r_land, ax_r_lor, ax_r_lcmp, ax_r_ifeq, ax_r_ifne, ax_r_iflt, ax_r_ifge, ax_r_ifgt, ax_r_ifle, ax_r_iceq, ax_r_icne, ax_r_iclt, ax_r_icge, ax_r_icgt, ax_r_icle, ax_r_goto, ax_r_tsw, ax_evt_c, ax_evt_n, ax_r_lsw, ax_evu_c, ax_evu_n, ax_r_getI, ax_r_getR, ax_r_putI, ax_r_putZ, ax_r_iald, ax_r_iast, ax_r_lald, ax_r_last, ax_r_bald, ax_r_aald, ax_r_alen, ax_r_bast, ax_r_min, ax_r_max, ax_r_minl, ax_r_maxl, ax_r_copy, ax_r_slen, ax_r_schr, ax_r_dup, ax_r_dup2, ax_r_pop, ax_r_ret, ax_r_lret, ax_r_vret, ax_r_zret, ax_r_aret, ax_r_call, ax_evo, ax_eva, ax_ar, ax_tk, ax_ex, ax_ld, ax_sto, ax_stl, ly_pm, ly_cd, ly_ln, ly_rf, Option.bind_some, Option.map_some, if_true, if_false, true_and, and_true, List.nil_append, List.cons_append, List.append_nil, List.length_nil, List.length_cons, List.headD_cons, true_or, or_true, false_or, or_false, ne_eq, not_false_eq_true, not_true_eq_false, false_and, and_false, List.set_cons_zero, List.set_cons_succ, Nat.reduceAdd, Nat.reduceSub, Nat.reduceMul, Nat.reduceLeDiff, Nat.reduceLT, Nat.reduceEqDiff, ↓reduceIte, Int.reduceNeg, Int.reduceAdd, Int.reduceSub, Int.reduceMul, Int.reduceEq, Int.reduceNe, Int.reduceLE, Int.reduceLT, Int.reduceToNat, Nat.one_ne_zero, Nat.zero_ne_one, Int.cast_ofNat_Int, lc_lt, lc_ge, lc_gt, lc_le, lc_eq, lc_ne, w32i, w64i, tdv, tmd, ltT, ltF, leT, leF, eqT, eqF, dc_Told_init]
  refine H _ ?_
  clear H c1 c2 c3 c4 c5
  funext k j
  by_cases e : k = 0
  · subst e
    simp only [ax_up, tdF, z0, true_and, Int.reduceEq, false_and, if_false]
    repeat' split
    all_goals first | rfl | omega
  · simp only [ax_up, tdF, z0, e, false_and, if_false]
    by_cases f : k = 3
    · simp only [f, true_and]
      by_cases g : 0 ≤ j ∧ j < 9
      · rw [if_pos g]
        rcases (by omega : j = 0 ∨ j = 1 ∨ j = 2 ∨ j = 3 ∨ j = 4 ∨ j = 5 ∨ j = 6 ∨ j = 7 ∨ j = 8) with y | y | y | y | y | y | y | y | y <;> subst y <;> rfl
      · rw [if_neg g]
        repeat rw [if_neg (by omega)]
    · simp only [f, false_and, if_false]
/-- a Works, made at o -/
def wkB (o : Int) : ax_L := [(10, 10, [o + 1, o + 8, o + 10, -1, -1, -1, -1, -1, o + 11, o + 12]), (9, 11, [-1, -1, -1, -1, -1, o + 2, o + 3, o + 4, o + 5, o + 6, o + 7]), (100, 3, []), (100, 3, []), (100, 9, []), (100, 4, []), (100, 4, []), (100, 4, []), (7, 1, [o + 9]), (100, 47, []), (100, 940, []), (100, 10, []), (100, 10, [])]
def wkF : Int → Int → Int := fun k j => if k = 0 ∧ j = 5 then -1 else if k = 1 ∧ j = 4 then -1 else if k = 4 ∧ 0 ≤ j ∧ j < 9 then -1 else if k = 9 ∧ ((6 ≤ j ∧ j ≤ 9) ∨ j = 10 ∨ (11 ≤ j ∧ j ≤ 19)) then -1 else 0
theorem wkF_z (k j : Int) (hk : 13 ≤ k) : wkF k j = 0 := by unfold wkF; rw [if_neg (by omega), if_neg (by omega), if_neg (by omega), if_neg (by omega)]
theorem hp_rw (h : Int → Int → Int) (o : Int) (F : Int → Int → Int) (i : Int) (S : Int → Int) (hi : 0 ≤ i) : ax_rw (hp h o F) (o + i) S = hp h o (ax_rw F i S) := by
  funext x y; simp only [hp, ax_rw]
  by_cases e : x < o
  · rw [if_pos e, if_pos e, if_neg (by omega)]
  · rw [if_neg e, if_neg e]
    by_cases f : x = o + i
    · rw [if_pos f, if_pos (by omega)]
    · rw [if_neg f, if_neg (by omega)]
theorem hp_z1 (G : Int → Int → Int) (i a : Int) (hz : ∀ k j, 7 ≤ k → G k j = 0) (hi : i + 7 ≤ a) : ax_zr (hp z0 i G) a = hp z0 i G := hp_zrF z0 G i a (fun k j e => hz k j (by omega)) (by omega)
theorem td_z1 (i a : Int) (hi : i + 7 ≤ a) : ax_zr (hp z0 i tdF) a = hp z0 i tdF := hp_z1 tdF i a tdF_z hi
set_option maxRecDepth 100000 in
set_option maxHeartbeats 4000000 in
theorem i_works {L : ax_L} {o : Int} (hL : (L.length : Int) = o) {h : Int → Int → Int} (hz : ∀ k j, o ≤ k → h k j = 0) {M : ax_L} (hM : M = L ++ [nw 10]) {d : Nat} {Q : ax_V → ax_H → Prop} (hq : Q (9, 0) (L ++ wkB o, hp h o wkF)) : ax_Ev (d + 2) 91 0 [(2, o)] [] (M, h) Q := by
  have ho : 0 ≤ o := by omega
  rw [hp_self h o hz, hM]
  have H : ∀ F : Int → Int → Int, F = wkF → Q (9, 0) (L ++ wkB o, hp h o F) := fun F e => by rw [e]; exact hq
  clear hq hM hz
  have c1 : ∀ B : ax_L, ax_cd (L ++ B) o = ax_cd B 0 := fun B => ap_cd0 L B hL
  have c2 : ∀ (B : ax_L) (i : Int), 0 ≤ i → ax_cd (L ++ B) (o + i) = ax_cd B i := fun B i => ap_cd L B hL i
  have c3 : ∀ (B : ax_L) (i : Int), 0 ≤ i → ax_ln (L ++ B) (o + i) = ax_ln B i := fun B i => ap_ln L B hL i
  have c4 : ∀ (B : ax_L) (j : Int), ax_rf (L ++ B) o j = ax_rf B 0 j := fun B => ap_rf0 L B hL
  have c6 : ∀ (B : ax_L) (i : Int), 0 ≤ i → ∀ j, ax_rf (L ++ B) (o + i) j = ax_rf B i j := fun B i => ap_rf L B hL i
  have c5 : ∀ (B : ax_L) (j v : Int), ax_sr (L ++ B) o j v = L ++ ax_sr B 0 j v := fun B => ap_sr0 L B hL
  have c7 : ∀ (B : ax_L) (i : Int), 0 ≤ i → ∀ j v, ax_sr (L ++ B) (o + i) j v = L ++ ax_sr B i j v := fun B i => ap_sr L B hL i
  simp (disch := omega) only [ax_ev, ax_kk, ax_ps, ax_r_const, ax_r_lconst, ax_r_str, ax_r_iload, ax_r_lload, ax_r_aload, ax_r_istore, ax_r_astore, ax_r_lstore, ax_r_iinc, ax_r_iadd, ax_r_isub, ax_r_imul, ax_r_idiv, ax_r_irem, ax_r_iand, ax_r_ior, ax_r_ishl, ax_r_ishr, ax_r_iushr, ax_r_i2l, ax_r_l2i, ax_r_i2b, ax_r_ladd, ax_r_lsub, ax_r_lmul, ax_r_ldiv, ax_r_lrem, ax_r_land, ax_r_lor, ax_r_lcmp, ax_r_ifeq, ax_r_ifne, ax_r_iflt, ax_r_ifge, ax_r_ifgt, ax_r_ifle, ax_r_iceq, ax_r_icne, ax_r_iclt, ax_r_icge, ax_r_icgt, ax_r_icle, ax_r_goto, ax_r_tsw, ax_evt_c, ax_evt_n, ax_r_lsw, ax_evu_c, ax_evu_n, ax_r_getI, ax_r_getR, ax_r_putI, ax_r_putZ, ax_r_iald, ax_r_iast, ax_r_lald, ax_r_last, ax_r_bald, ax_r_aald, ax_r_alen, ax_r_bast, ax_r_min, ax_r_max, ax_r_minl, ax_r_maxl, ax_r_copy, ax_r_slen, ax_r_schr, ax_r_dup, ax_r_dup2, ax_r_pop, ax_r_ret, ax_r_lret, ax_r_vret, ax_r_zret, ax_r_aret, ax_r_call, ax_evo, ax_eva, ax_ar, ax_tk, ax_ex, ax_ld, ax_sto, ax_stl, ly_pm, ly_cd, ly_ln, ly_rf, Option.bind_some, Option.map_some, if_true, if_false, true_and, and_true, List.nil_append, List.cons_append, List.append_nil, List.length_nil, List.length_cons, List.headD_cons, true_or, or_true, false_or, or_false, ne_eq, not_false_eq_true, not_true_eq_false, false_and, and_false, List.set_cons_zero, List.set_cons_succ, Nat.reduceAdd, Nat.reduceSub, Nat.reduceMul, Nat.reduceLeDiff, Nat.reduceLT, Nat.reduceEqDiff, ↓reduceIte, Int.reduceNeg, Int.reduceAdd, Int.reduceSub, Int.reduceMul, Int.reduceEq, Int.reduceNe, Int.reduceLE, Int.reduceLT, Int.reduceToNat, Nat.one_ne_zero, Nat.zero_ne_one, Int.cast_ofNat_Int, lc_lt, lc_ge, lc_gt, lc_le, lc_eq, lc_ne, w32i, w64i, tdv, tmd, ltT, ltF, leT, leF, eqT, eqF, dc_Works_init, ax_r_oi, ax_r_new, ax_r_newa, ax_r_putR, nw_9, nw_7, nw_10, List.append_assoc, List.length_append, Int.natCast_add, hL, c1, c2, c3, c4, c5, c6, c7, co_cd, co_ln, co_rf, co_sr, co_cd0, co_ln0, co_rf0, co_sr0, hp_up, hp_up0, hp_zr, zr0, Int.reduceToNat, List.getD_cons_zero, List.getD_cons_succ]
  refine i_told (L := L ++ [nw 10]) (o := o + 1) (by simp [hL]) (fun k j e => ?_) (by rw [nw_10, nw_9]; simp) ?_
  · unfold hp z0; rw [if_neg (by omega)]
  simp (disch := omega) only [ax_ev, ax_kk, ax_ps, ax_r_const, ax_r_lconst, ax_r_str, ax_r_iload, ax_r_lload, ax_r_aload, ax_r_istore, ax_r_astore, ax_r_lstore, ax_r_iinc, ax_r_iadd, ax_r_isub, ax_r_imul, ax_r_idiv, ax_r_irem, ax_r_iand, ax_r_ior, ax_r_ishl, ax_r_ishr, ax_r_iushr, ax_r_i2l, ax_r_l2i, ax_r_i2b, ax_r_ladd, ax_r_lsub, ax_r_lmul, ax_r_ldiv, ax_r_lrem, ax_r_land, ax_r_lor, ax_r_lcmp, ax_r_ifeq, ax_r_ifne, ax_r_iflt, ax_r_ifge, ax_r_ifgt, ax_r_ifle, ax_r_iceq, ax_r_icne, ax_r_iclt, ax_r_icge, ax_r_icgt, ax_r_icle, ax_r_goto, ax_r_tsw, ax_evt_c, ax_evt_n, ax_r_lsw, ax_evu_c, ax_evu_n, ax_r_getI, ax_r_getR, ax_r_putI, ax_r_putZ, ax_r_iald, ax_r_iast, ax_r_lald, ax_r_last, ax_r_bald, ax_r_aald, ax_r_alen, ax_r_bast, ax_r_min, ax_r_max, ax_r_minl, ax_r_maxl, ax_r_copy, ax_r_slen, ax_r_schr, ax_r_dup, ax_r_dup2, ax_r_pop, ax_r_ret, ax_r_lret, ax_r_vret, ax_r_zret, ax_r_aret, ax_r_call, ax_evo, ax_eva, ax_ar, ax_tk, ax_ex, ax_ld, ax_sto, ax_stl, ly_pm, ly_cd, ly_ln, ly_rf, Option.bind_some, Option.map_some, if_true, if_false, true_and, and_true, List.nil_append, List.cons_append, List.append_nil, List.length_nil, List.length_cons, List.headD_cons, true_or, or_true, false_or, or_false, ne_eq, not_false_eq_true, not_true_eq_false, false_and, and_false, List.set_cons_zero, List.set_cons_succ, Nat.reduceAdd, Nat.reduceSub, Nat.reduceMul, Nat.reduceLeDiff, Nat.reduceLT, Nat.reduceEqDiff, ↓reduceIte, Int.reduceNeg, Int.reduceAdd, Int.reduceSub, Int.reduceMul, Int.reduceEq, Int.reduceNe, Int.reduceLE, Int.reduceLT, Int.reduceToNat, Nat.one_ne_zero, Nat.zero_ne_one, Int.cast_ofNat_Int, lc_lt, lc_ge, lc_gt, lc_le, lc_eq, lc_ne, w32i, w64i, tdv, tmd, ltT, ltF, leT, leF, eqT, eqF, dc_Works_init, dc_State_init, tdB, hp_hp, td_z1, Int.add_assoc, ax_r_oi, ax_r_new, ax_r_newa, ax_r_putR, nw_9, nw_7, nw_10, List.append_assoc, List.length_append, Int.natCast_add, hL, c1, c2, c3, c4, c5, c6, c7, co_cd, co_ln, co_rf, co_sr, co_cd0, co_ln0, co_rf0, co_sr0, hp_up, hp_up0, hp_zr, zr0, zr_up, Int.reduceToNat, List.getD_cons_zero, List.getD_cons_succ]
  have K : ∀ (k j : Int), 0 ≤ k → hp h o (ax_up (hp z0 1 tdF) 0 5 (-1)) (o + k) j = ax_up (hp z0 1 tdF) 0 5 (-1) k j := fun k j e => hp_rd _ _ _ _ _ e
  have K1 : ∀ (k j : Int), 0 ≤ k → ax_up (hp z0 1 tdF) 0 5 (-1) (k + 1) j = tdF k j := by
    intro k j e
    simp only [ax_up, hp]
    rw [if_neg (by omega), if_neg (by omega), Int.add_sub_cancel]
  have k1 : ∀ j, hp h o (ax_up (hp z0 1 tdF) 0 5 (-1)) (o + 1) j = tdF 0 j := fun j => by rw [K _ _ (by omega)]; exact K1 0 j (by omega)
  have k4 : ∀ j, hp h o (ax_up (hp z0 1 tdF) 0 5 (-1)) (o + 1 + 3) j = tdF 3 j := fun j => by rw [Int.add_assoc, K _ _ (by omega)]; exact K1 3 j (by omega)
  have k2 : ∀ j, hp h o (ax_up (hp z0 1 tdF) 0 5 (-1)) (o + 1 + 1) j = tdF 1 j := fun j => by rw [Int.add_assoc, K _ _ (by omega)]; exact K1 1 j (by omega)
  have k9 : ∀ j, hp h o (ax_up (hp z0 1 tdF) 0 5 (-1)) (o + 8 + 1) j = tdF 8 j := fun j => by rw [Int.add_assoc, K _ _ (by omega)]; exact K1 8 j (by omega)
  refine w_begin (o := o + 8) (t := o + 1) ?_ ?_ (by omega) (fun c c0 c1 => ?_) (.inl ?_) ?_
  · unfold lSt
    refine ⟨?_, ?_, ?_, ?_⟩
    · rw [c2 _ _ (by omega)]; rfl
    · rw [c6 _ _ (by omega), Int.add_assoc]; rfl
    · rw [Int.add_assoc, c2 _ _ (by omega)]; rfl
    · rw [Int.add_assoc, c3 _ _ (by omega)]; rfl
  · unfold lTd
    refine ⟨?_, ⟨?_, ?_⟩, ⟨?_, ?_⟩, ?_, ?_⟩
    · rw [c2 _ _ (by omega)]; rfl
    · rw [c6 _ _ (by omega), Int.add_assoc]; rfl
    · rw [c6 _ _ (by omega), Int.add_assoc]; rfl
    · rw [Int.add_assoc, c2 _ _ (by omega)]; rfl
    · rw [Int.add_assoc, c2 _ _ (by omega)]; rfl
    · rw [Int.add_assoc, c3 _ _ (by omega)]; rfl
    · rw [Int.add_assoc, c3 _ _ (by omega)]; rfl
  · rw [k4]; have : tdF 3 c = -1 := by unfold tdF; rw [if_neg (by omega), if_pos ⟨rfl, c0, c1⟩]
    omega
  · rw [k1]; rfl
  · have e4 : hp h o (ax_up (hp z0 1 tdF) 0 5 (-1)) (o + 1 + 3) = tdF 3 := funext k4
    have e2 : hp h o (ax_up (hp z0 1 tdF) 0 5 (-1)) (o + 1 + 1) = tdF 1 := funext k2
    have e9 : hp h o (ax_up (hp z0 1 tdF) 0 5 (-1)) (o + 8 + 1) = tdF 8 := funext k9
    rw [e4, e2, e9, k1, k1, Int.add_assoc, hp_rw _ _ _ _ _ (by omega)]
    simp (disch := omega) only [ax_ev, ax_kk, ax_ps, ax_r_const, ax_r_lconst, ax_r_str, ax_r_iload, ax_r_lload, ax_r_aload, ax_r_istore, ax_r_astore, ax_r_lstore, ax_r_iinc, ax_r_iadd, ax_r_isub, ax_r_imul, ax_r_idiv, ax_r_irem, ax_r_iand, ax_r_ior, ax_r_ishl, ax_r_ishr, ax_r_iushr, ax_r_i2l, ax_r_l2i, ax_r_i2b, ax_r_ladd, ax_r_lsub, ax_r_lmul, ax_r_ldiv, ax_r_lrem, ax_r_land, ax_r_lor, ax_r_lcmp, ax_r_ifeq, ax_r_ifne, ax_r_iflt, ax_r_ifge, ax_r_ifgt, ax_r_ifle, ax_r_iceq, ax_r_icne, ax_r_iclt, ax_r_icge, ax_r_icgt, ax_r_icle, ax_r_goto, ax_r_tsw, ax_evt_c, ax_evt_n, ax_r_lsw, ax_evu_c, ax_evu_n, ax_r_getI, ax_r_getR, ax_r_putI, ax_r_putZ, ax_r_iald, ax_r_iast, ax_r_lald, ax_r_last, ax_r_bald, ax_r_aald, ax_r_alen, ax_r_bast, ax_r_min, ax_r_max, ax_r_minl, ax_r_maxl, ax_r_copy, ax_r_slen, ax_r_schr, ax_r_dup, ax_r_dup2, ax_r_pop, ax_r_ret, ax_r_lret, ax_r_vret, ax_r_zret, ax_r_aret, ax_r_call, ax_evo, ax_eva, ax_ar, ax_tk, ax_ex, ax_ld, ax_sto, ax_stl, ly_pm, ly_cd, ly_ln, ly_rf, Option.bind_some, Option.map_some, if_true, if_false, true_and, and_true, List.nil_append, List.cons_append, List.append_nil, List.length_nil, List.length_cons, List.headD_cons, true_or, or_true, false_or, or_false, ne_eq, not_false_eq_true, not_true_eq_false, false_and, and_false, List.set_cons_zero, List.set_cons_succ, Nat.reduceAdd, Nat.reduceSub, Nat.reduceMul, Nat.reduceLeDiff, Nat.reduceLT, Nat.reduceEqDiff, ↓reduceIte, Int.reduceNeg, Int.reduceAdd, Int.reduceSub, Int.reduceMul, Int.reduceEq, Int.reduceNe, Int.reduceLE, Int.reduceLT, Int.reduceToNat, Nat.one_ne_zero, Nat.zero_ne_one, Int.cast_ofNat_Int, lc_lt, lc_ge, lc_gt, lc_le, lc_eq, lc_ne, w32i, w64i, tdv, tmd, ltT, ltF, leT, leF, eqT, eqF, dc_Works_init]
    refine H _ ?_
    clear H c1 c2 c3 c4 c5 c6 c7 K K1 k1 k4 k2 k9 e4 e2 e9
    funext k j
    have t1 : tdF 0 1 = 0 := rfl
    have t4 : tdF 0 4 = -1 := rfl
    have s3 : ∀ c, 0 ≤ c → c < 9 → tdF 3 c = -1 := fun c c0 c1 => by unfold tdF; rw [if_neg (by omega), if_pos ⟨rfl, c0, c1⟩]
    have s8 : ∀ c, tdF 8 c = 0 := fun c => tdF_z 8 c (by omega)
    by_cases e : k = 9
    · have r : wkF 9 j = if (6 ≤ j ∧ j ≤ 9) ∨ j = 10 ∨ (11 ≤ j ∧ j ≤ 19) then -1 else 0 := by unfold wkF; simp only [Int.reduceEq, false_and, if_false, true_and]
      rw [e]; simp only [ax_rw, if_true, Int.reduceAdd, r, bg, t1, t4, s8]
      clear r
      by_cases p : 11 ≤ j ∧ j ≤ 19
      · rw [if_neg (by omega), if_neg (by omega), if_neg (by omega), if_neg (by omega), if_pos p, s3 _ (by omega) (by omega), if_pos (by omega)]
      · by_cases p2 : 20 ≤ j ∧ j ≤ 28
        · rw [if_neg (by omega), if_neg (by omega), if_neg (by omega), if_neg (by omega), if_neg (by omega), if_pos p2, if_pos (s3 _ (by omega) (by omega)), if_neg (by omega)]
        · rw [if_neg p, if_neg p2]
          repeat' split
          all_goals first | rfl | omega
    · have : ax_rw (ax_up (hp z0 1 tdF) 0 5 (-1)) 9 (bg (tdF 0 1) (tdF 0 4) (tdF 3) (tdF 1) (tdF 8)) k j = ax_up (hp z0 1 tdF) 0 5 (-1) k j := by unfold ax_rw; rw [if_neg (by omega)]
      rw [this]
      clear this
      simp only [ax_up, hp, tdF, wkF, z0]
      clear t1 t4 s3 s8
      rw [if_neg (c := k = 9 ∧ _) (by omega)]
      repeat' split
      all_goals first | rfl | omega
