/-! the reference made -/
theorem nw_12 : nw 12 = (12, 60, [-1, -1, -1, -1, -1, -1, -1, -1, -1, -1, -1, -1, -1, -1, -1, -1, -1, -1, -1, -1, -1, -1, -1, -1, -1, -1, -1, -1, -1, -1, -1, -1, -1, -1, -1, -1, -1, -1, -1, -1, -1, -1, -1, -1, -1, -1, -1, -1, -1, -1, -1, -1, -1, -1, -1, -1, -1, -1, -1, -1]) := by decide +kernel
def mdB (o : Int) : ax_L := [(12, 60, [(-1), o + 1, o + 2, o + 3, o + 4, o + 5, o + 6, o + 7, o + 8, o + 9, o + 10, o + 11, o + 12, o + 13, o + 14, o + 15, o + 16, o + 17, o + 18, o + 19, o + 20, o + 21, o + 22, (-1), (-1), (-1), (-1), (-1), (-1), (-1), (-1), (-1), (-1), o + 23, o + 24, o + 25, o + 26, o + 27, o + 28, o + 29, o + 30, o + 31, o + 32, (-1), (-1), (-1), o + 33, o + 34, (-1), (-1), (-1), o + 35, o + 36, o + 37, o + 38, o + 39, o + 40, o + 41, (-1), (-1)]),
  (100, 12, []),
  (100, 9, []),
  (100, 9, []),
  (100, 9, []),
  (100, 9, []),
  (100, 3, []),
  (100, 4, []),
  (100, 3, []),
  (100, 3, []),
  (100, 4, []),
  (100, 4, []),
  (100, 4, []),
  (100, 10, []),
  (100, 10, []),
  (100, 9, []),
  (100, 5, []),
  (100, 9, []),
  (100, 3, []),
  (100, 3, []),
  (100, 4, []),
  (100, 4, []),
  (100, 4, []),
  (102, 400, []),
  (100, 1800, []),
  (100, 1800, []),
  (100, 6, []),
  (100, 72, []),
  (100, 72, []),
  (100, 72, []),
  (100, 402, []),
  (101, 12, []),
  (101, 300, []),
  (100, 940, []),
  (100, 1, []),
  (100, 16, []),
  (100, 16, []),
  (100, 2257, []),
  (100, 61, []),
  (100, 427, []),
  (100, 5500, []),
  (103, 4, [])]
def mdF : Int → Int → Int := fun k j => if k = 0 ∧ j = 32 then 12 else if k = 0 ∧ j = 43 then -1 else if k = 1 ∧ (j = 3 ∨ j = 6 ∨ j = 11) then -1 else 0
set_option maxRecDepth 100000 in
set_option maxHeartbeats 4000000 in
theorem i_model {L : ax_L} {o : Int} (hL : (L.length : Int) = o) {h : Int → Int → Int} (hz : ∀ k j, o ≤ k → h k j = 0) {d : Nat} {Q : ax_V → ax_H → Prop} (hq : Q (9, 0) (L ++ mdB o, hp h o mdF)) : ax_Ev (d) 152 0 [(2, o)] [] (L ++ [nw 12], h) Q := by
  have ho : 0 ≤ o := by omega
  rw [hp_self h o hz]
  have H : ∀ F : Int → Int → Int, F = mdF → Q (9, 0) (L ++ mdB o, hp h o F) := fun F e => by rw [e]; exact hq
  clear hq hz
  have c1 : ∀ B : ax_L, ax_cd (L ++ B) o = ax_cd B 0 := fun B => ap_cd0 L B hL
  have c2 : ∀ (B : ax_L) (i : Int), 0 ≤ i → ax_cd (L ++ B) (o + i) = ax_cd B i := fun B i => ap_cd L B hL i
  have c3 : ∀ (B : ax_L) (i : Int), 0 ≤ i → ax_ln (L ++ B) (o + i) = ax_ln B i := fun B i => ap_ln L B hL i
  have c4 : ∀ (B : ax_L) (j : Int), ax_rf (L ++ B) o j = ax_rf B 0 j := fun B => ap_rf0 L B hL
  have c5 : ∀ (B : ax_L) (j v : Int), ax_sr (L ++ B) o j v = L ++ ax_sr B 0 j v := fun B => ap_sr0 L B hL
  simp (disch := omega) only [ax_ev, ax_kk, ax_ps, ax_r_const, ax_r_lconst, ax_r_str, ax_r_iload, ax_r_lload, ax_r_aload, ax_r_istore, ax_r_astore, ax_r_lstore, ax_r_iinc, ax_r_iadd, ax_r_isub, ax_r_imul, ax_r_idiv, ax_r_irem, ax_r_iand, ax_r_ior, ax_r_ishl, ax_r_ishr, ax_r_iushr, ax_r_i2l, ax_r_l2i, ax_r_i2b, ax_r_ladd, ax_r_lsub, ax_r_lmul, ax_r_ldiv, ax_r_lrem, ax_r_land, ax_r_lor, ax_r_lcmp, ax_r_ifeq, ax_r_ifne, ax_r_iflt, ax_r_ifge, ax_r_ifgt, ax_r_ifle, ax_r_iceq, ax_r_icne, ax_r_iclt, ax_r_icge, ax_r_icgt, ax_r_icle, ax_r_goto, ax_r_tsw, ax_evt_c, ax_evt_n, ax_r_lsw, ax_evu_c, ax_evu_n, ax_r_getI, ax_r_getR, ax_r_putI, ax_r_putZ, ax_r_iald, ax_r_iast, ax_r_lald, ax_r_last, ax_r_bald, ax_r_aald, ax_r_alen, ax_r_bast, ax_r_min, ax_r_max, ax_r_minl, ax_r_maxl, ax_r_copy, ax_r_slen, ax_r_schr, ax_r_dup, ax_r_dup2, ax_r_pop, ax_r_ret, ax_r_lret, ax_r_vret, ax_r_zret, ax_r_aret, ax_r_call, ax_evo, ax_eva, ax_ar, ax_tk, ax_ex, ax_ld, ax_sto, ax_stl, ly_pm, ly_cd, ly_ln, ly_rf, Option.bind_some, Option.map_some, if_true, if_false, true_and, and_true, List.nil_append, List.cons_append, List.append_nil, List.length_nil, List.length_cons, List.headD_cons, true_or, or_true, false_or, or_false, ne_eq, not_false_eq_true, not_true_eq_false, false_and, and_false, List.set_cons_zero, List.set_cons_succ, Nat.reduceAdd, Nat.reduceSub, Nat.reduceMul, Nat.reduceLeDiff, Nat.reduceLT, Nat.reduceEqDiff, ↓reduceIte, Int.reduceNeg, Int.reduceAdd, Int.reduceSub, Int.reduceMul, Int.reduceEq, Int.reduceNe, Int.reduceLE, Int.reduceLT, Int.reduceToNat, Nat.one_ne_zero, Nat.zero_ne_one, Int.cast_ofNat_Int, lc_lt, lc_ge, lc_gt, lc_le, lc_eq, lc_ne, w32i, w64i, tdv, tmd, ltT, ltF, leT, leF, eqT, eqF, dc_M_init, ax_r_oi, ax_r_new, ax_r_newa, ax_r_newr, ax_r_newm, ax_r_putR, ax_r_aast, nw_12, List.append_assoc, List.length_append, Int.natCast_add, hL, c1, c2, c3, c4, c5, co_cd, co_ln, co_cd0, co_ln0, co_sr0, hp_up, hp_up0, hp_zr, zr0, zr_up, Int.reduceToNat, List.getD_cons_zero, List.getD_cons_succ]
  refine H _ ?_
  clear H c1 c2 c3 c4 c5
  funext k j
  by_cases e : k = 0
  · subst e
    simp only [ax_up, mdF, z0, true_and, Int.reduceEq, false_and, if_false]
    repeat' split
    all_goals first | rfl | omega
  · simp only [ax_up, mdF, z0, e, false_and, if_false]
    by_cases f : k = 1
    · simp only [f, true_and]
      by_cases g : 0 ≤ j ∧ j < 12
      · rcases (by omega : j = 0 ∨ j = 1 ∨ j = 2 ∨ j = 3 ∨ j = 4 ∨ j = 5 ∨ j = 6 ∨ j = 7 ∨ j = 8 ∨ j = 9 ∨ j = 10 ∨ j = 11) with y | y | y | y | y | y | y | y | y | y | y | y <;> subst y <;> rfl
      · repeat rw [if_neg (by omega)]
    · simp only [f, false_and, if_false]
theorem md_L2 : mdB 124 = L2 := by decide +kernel
