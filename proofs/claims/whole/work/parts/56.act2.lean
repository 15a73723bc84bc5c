/-- the class's heap when it has remembered -/
def ac_r (h : Int → Int → Int) : Int → Int → Int := ax_up (ax_up (ax_cp h 33 0 34 (47 * h 24 3) 47) 24 3 ((h 24 3 + 1) % 20)) 24 4 (min 20 (h 24 4 + 1))
theorem acr (h : Int → Int → Int) (k j : Int) (e1 : k ≠ 24) (e2 : k ≠ 34) : ac_r h k j = h k j := by
  simp only [ac_r, ax_up, ax_cp, e1, e2, false_and, if_false]
set_option maxRecDepth 100000 in
set_option maxHeartbeats 4000000 in
theorem w_rem {h : Int → Int → Int} {d : Nat} {Q : ax_V → ax_H → Prop} (c5 : 0 ≤ h 24 4 ∧ h 24 4 ≤ 20) (c6 : 0 ≤ h 24 3 ∧ h 24 3 < 20) (hq : Q (9, 0) (L0, ax_rw (ac_r h) 33 (h 33))) : ax_Ev (d) 97 0 [(2, 24)] [] (L0, h) Q := by
  have e : ax_rw (ac_r h) 33 (h 33) = ac_r h := by
    funext k j; unfold ax_rw; split
    · rename_i q; rw [q, acr _ _ _ (by omega) (by omega)]
    · rfl
  rw [e] at hq
  unfold ac_r at hq
  rw [Int.mul_comm, show min 20 (h 24 4 + 1) = if h 24 4 + 1 < 20 then h 24 4 + 1 else 20 by split <;> omega] at hq
  simp (disch := omega) only [ax_ev, ax_kk, ax_ps, ax_r_const, ax_r_lconst, ax_r_str, ax_r_iload, ax_r_lload, ax_r_aload, ax_r_istore, ax_r_astore, ax_r_lstore, ax_r_iinc, ax_r_iadd, ax_r_isub, ax_r_imul, ax_r_idiv, ax_r_irem, ax_r_iand, ax_r_ior, ax_r_ishl, ax_r_ishr, ax_r_iushr, ax_r_i2l, ax_r_l2i, ax_r_i2b, ax_r_ladd, ax_r_lsub, ax_r_lmul, ax_r_ldiv, ax_r_lrem, ax_r_land, ax_r_lor, ax_r_lcmp, ax_r_ifeq, ax_r_ifne, ax_r_iflt, ax_r_ifge, ax_r_ifgt, ax_r_ifle, ax_r_iceq, ax_r_icne, ax_r_iclt, ax_r_icge, ax_r_icgt, ax_r_icle, ax_r_goto, ax_r_tsw, ax_evt_c, ax_evt_n, ax_r_lsw, ax_evu_c, ax_evu_n, ax_r_getI, ax_r_getR, ax_r_putI, ax_r_putZ, ax_r_iald, ax_r_iast, ax_r_lald, ax_r_last, ax_r_bald, ax_r_aald, ax_r_alen, ax_r_bast, ax_r_min, ax_r_max, ax_r_minl, ax_r_maxl, ax_r_copy, ax_r_slen, ax_r_schr, ax_r_dup, ax_r_dup2, ax_r_pop, ax_r_ret, ax_r_lret, ax_r_vret, ax_r_zret, ax_r_aret, ax_r_call, ax_evo, ax_eva, ax_ar, ax_tk, ax_ex, ax_ld, ax_sto, ax_stl, ly_pm, ly_cd, ly_ln, ly_rf, Option.bind_some, Option.map_some, if_true, if_false, true_and, and_true, List.nil_append, List.cons_append, List.append_nil, List.length_nil, List.length_cons, List.headD_cons, true_or, or_true, false_or, or_false, ne_eq, not_false_eq_true, not_true_eq_false, false_and, and_false, List.set_cons_zero, List.set_cons_succ, Nat.reduceAdd, Nat.reduceSub, Nat.reduceMul, Nat.reduceLeDiff, Nat.reduceLT, Nat.reduceEqDiff, ↓reduceIte, Int.reduceNeg, Int.reduceAdd, Int.reduceSub, Int.reduceMul, Int.reduceEq, Int.reduceNe, Int.reduceLE, Int.reduceLT, Int.reduceToNat, Nat.one_ne_zero, Nat.zero_ne_one, Int.cast_ofNat_Int, lc_lt, lc_ge, lc_gt, lc_le, lc_eq, lc_ne, w32i, w64i, tdv, tmd, ltT, ltF, leT, leF, eqT, eqF, dc_Works_remember, ax_up, ax_cp]
  exact hq
theorem iv_act2 {h g g' : Int → Int → Int} {S' : Int → Int} (hi : iv_h h) (hb : h 25 0 ≠ 0)
    (q1 : ∀ a j, a ≠ 157 → ¬ (a = 124 ∧ (j = 48 ∨ j = 49 ∨ j = 50)) → g a j = ax_rw (ac_r h) 33 S' a j) (q2 : g 124 48 = min 20 (h 24 4 + 1)) (q3 : ∀ j, 0 ≤ j → j < 47 * (min 20 (h 24 4 + 1) - 1) → g 157 j = ax_rw (ac_r h) 33 S' 157 (if h 24 4 = 20 then j + 47 else j)) (q4 : kq (ax_rw (ac_r h) 33 S') g (47 * (min 20 (h 24 4 + 1) - 1)))
    (f1 : ∀ a j, ¬ (126 ≤ a ∧ a ≤ 131) → ¬ (a = 125 ∧ 5 ≤ j ∧ j ≤ 8) → ¬ (a = 124 ∧ (j = 44 ∨ j = 45)) → a ≠ 155 → a ≠ 156 → g' a j = g a j)
    (hgd : iv_gd (h 25 0) (h 25 2) S') (hg9 : S' 0 ≤ 999) (hmo : iv_mo (h 25 0) S' (g' 126) (g' 127) (g' 128) (g' 129) (g' 130) (g' 131) (g' 125 5) (g' 125 6) (g' 125 7) (g' 125 8)) : iv_h g' := by
  have X : ∀ k j, k ≠ 33 → k ≠ 24 → k ≠ 34 → ax_rw (ac_r h) 33 S' k j = h k j := fun k j a b c => by rw [rwno _ _ _ _ _ a, acr _ _ _ b c]
  have Y : ∀ k j, k ≠ 33 → k ≠ 24 → k ≠ 34 → k ≠ 157 → ¬ (k = 124 ∧ (j = 44 ∨ j = 45 ∨ j = 48 ∨ j = 49 ∨ j = 50)) → ¬ (126 ≤ k ∧ k ≤ 131) → ¬ (k = 125 ∧ 5 ≤ j ∧ j ≤ 8) → k ≠ 155 → k ≠ 156 → g' k j = h k j := by
    intro k j a b c d e f l m n
    rw [f1 k j f l (by omega) m n, q1 k j d (by omega), X k j a b c]
  have e33 : g' 33 = S' := by
    funext j; rw [f1 33 j (by omega) (by omega) (by omega) (by omega) (by omega), q1 33 j (by omega) (by omega), rwrd]
  have Z : ∀ k j, k = 24 ∨ k = 34 → g' k j = ac_r h k j := by
    intro k j a
    rw [f1 k j (by omega) (by omega) (by omega) (by omega) (by omega), q1 k j (by omega) (by omega), rwno _ _ _ _ _ (by omega)]
  refine iv_act hi ?_ ?_ ?_ ?_ hb ?_ ?_ (by rw [e33]; exact hgd) (by rw [e33]; exact hg9) (by rw [e33]; exact hmo) ?_ ?_ ?_ ?_
  · intro k j q; unfold iv_t at q; exact Y k j (by omega) (by omega) (by omega) (by omega) (by omega) (by omega) (by omega) (by omega) (by omega)
  · intro k j q; unfold iv_o at q; exact Y k j (by omega) (by omega) (by omega) (by omega) (by omega) (by omega) (by omega) (by omega) (by omega)
  · rw [Z 24 3 (by omega)]; simp [ac_r, ax_up]
  · rw [Z 24 4 (by omega)]; simp [ac_r, ax_up]
  · intro j
    rw [Z 34 j (by omega)]; simp only [ac_r, ax_up, ax_cp, Int.reduceEq, false_and, if_false, true_and]
    split
    · congr 1; omega
    · rfl
  · intro k j q
    by_cases e : k = 24
    · subst e
      rw [Z 24 j (by omega)]; simp only [ac_r, ax_up, ax_cp, Int.reduceEq, false_and, if_false, true_and]
      rw [if_neg (by omega), if_neg (by omega)]
    · exact Y k j (by omega) (by omega) (by omega) (by omega) (by omega) (by omega) (by omega) (by omega) (by omega)
  · rw [f1 124 48 (by omega) (by omega) (by omega) (by omega) (by omega)]; exact q2
  · intro j j0 j1
    rw [f1 157 j (by omega) (by omega) (by omega) (by omega) (by omega), q3 j j0 j1, X _ _ (by omega) (by omega) (by omega)]
  · obtain ⟨u1, u2, u3, u4, u5, u6, u7⟩ := q4
    have V : ∀ j, g' 157 j = g 157 j := fun j => f1 157 j (by omega) (by omega) (by omega) (by omega) (by omega)
    refine ⟨?_, ?_, ?_, ?_, fun c c0 c1 => ⟨?_, ?_, ?_, ?_⟩, fun c c0 c1 => ?_, fun c c0 c1 => ?_⟩
    · rw [V, u1, X _ _ (by omega) (by omega) (by omega)]
    · rw [V, u2, X _ _ (by omega) (by omega) (by omega)]
    · rw [V, u3, X _ _ (by omega) (by omega) (by omega)]
    · rw [V, u4, X _ _ (by omega) (by omega) (by omega)]
    · rw [V, (u5 c c0 c1).1, X _ _ (by omega) (by omega) (by omega)]
    · rw [V, (u5 c c0 c1).2.1, X _ _ (by omega) (by omega) (by omega)]
    · rw [V, (u5 c c0 c1).2.2.1, X _ _ (by omega) (by omega) (by omega)]
    · rw [V, (u5 c c0 c1).2.2.2, X _ _ (by omega) (by omega) (by omega)]
    · rw [V, u6 c c0 c1, X _ _ (by omega) (by omega) (by omega)]
    · rw [V, u7 c c0 c1, X _ _ (by omega) (by omega) (by omega)]
  · intro k j q
    exact Y k j (by omega) (by omega) (by omega) (by omega) (by omega) (by omega) (by omega) (by omega) (by omega)
