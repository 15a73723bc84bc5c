/-! row: the class's tree -/
theorem rf98 {m : Nat} (h : m ≤ 5) : ax_rf L0 98 (m : Int) = 101 + 2 * (m : Int) := by
  rcases (by omega : m = 0 ∨ m = 1 ∨ m = 2 ∨ m = 3 ∨ m = 4 ∨ m = 5) with e | e | e | e | e | e <;> subst e <;> simp [ly_rf]
theorem st_row {m : Nat} (h : m ≤ 5) : isSt (101 + 2 * (m : Int)) := by
  rcases (by omega : m = 0 ∨ m = 1 ∨ m = 2 ∨ m = 3 ∨ m = 4 ∨ m = 5) with e | e | e | e | e | e <;> subst e <;> (unfold isSt; simp [ly_cd, ly_rf, ly_ln])
def oj (h g : Int → Int → Int) : Prop := ∀ m : Nat, m ≤ 5 → ∀ j, j < 0 ∨ 47 ≤ j → g (102 + 2 * (m : Int)) j = h (102 + 2 * (m : Int)) j
def rk (h : Int → Int → Int) (V : Int → Int) (n dp : Nat) (p : Int) (g : Int → Int → Int) (N l cc : Int) : Prop := (fr h g ∧ oj h g) ∧ g (102 + 2 * (dp : Int)) = rS h dp p ∧ (∀ m : Nat, m < dp → g 99 m = 3 * ((p / p4 (dp - 1 - m)) % 4)) ∧ g 97 5 = l ∧ (l = 1000 ∨ ∀ m : Nat, m < n → g 100 m = 3 * ((cc / p4 (n - 1 - m)) % 4)) ∧ opt V N l cc
def fz (dp : Nat) (g g' : Int → Int → Int) : Prop := (∀ (m : Nat) j, m ≤ dp → g' (102 + 2 * (m : Int)) j = g (102 + 2 * (m : Int)) j) ∧ (∀ m : Nat, m < dp → g' 99 m = g 99 m)
/-- what a child's days come to -/
def sub (h : Int → Int → Int) (ch : Int) (n dp : Nat) (p : Int) (k : Nat) (s : Int) (d : Nat) (Q : ax_V → ax_H → Prop) : Prop := ∀ (c i l cc : Int) (g : Int → Int → Int), 0 ≤ c → c < 4 → 0 ≤ i → i + s < 9998 → rk h (rv h ch n) n dp p g ((4 * p + c) * p4 k) l cc → g 99 dp = 3 * c → g (104 + 2 * (dp : Int)) = rS h (dp + 1) (4 * p + c) → h 33 1 - rS h (dp + 1) (4 * p + c) 1 < l →
  (∀ (g' : Int → Int → Int) (i' l' cc' : Int) (l5 : ax_V), i + 1 ≤ i' → i' ≤ i + 1 + s → fz dp g g' → g' 99 dp = 3 * c → rk h (rv h ch n) n dp p g' ((4 * p + c + 1) * p4 k) l' cc' → ax_Ev (d + 6) 41 13 [(2, 97), (0, n), (0, ch), (0, dp), (0, i'), l5] [] (L0, g') Q) →
  ax_Ev (d + 6) 41 135 [(2, 97), (0, n), (0, ch), (0, dp), (0, i), (2, 103 + 2 * (dp : Int))] [] (L0, g) Q
theorem fz_trans {dp : Nat} {a b c : Int → Int → Int} (x : fz dp a b) (y : fz dp b c) : fz dp a c := ⟨fun m j hm => by rw [y.1 m j hm]; exact x.1 m j hm, fun m hm => by rw [y.2 m hm]; exact x.2 m hm⟩
set_option maxRecDepth 100000 in
set_option maxHeartbeats 4000000 in
theorem w_child {h : Int → Int → Int} {W : (Int → Int) → Int} (q : qx h W) {ch : Int} {n dp k : Nat} (hn : n = dp + 1 + k) (n5 : n ≤ 5) {p : Int} (p0 : 0 ≤ p) {s : Int} (s0 : 0 ≤ s) {d : Nat} {Q : ax_V → ax_H → Prop} (SUB : sub h ch n dp p k s d Q) : ∀ (r : Nat), r ≤ 4 → ∀ (i l cc : Int) (g : Int → Int → Int) (l5 : ax_V), 0 ≤ i → i + (r + 1) + r * s < 9999 → rk h (rv h ch n) n dp p g ((4 * p + (4 - r)) * p4 k) l cc → g 99 dp = 3 * (4 - r) - 3 →
    (∀ (g' : Int → Int → Int) (i' l' cc' : Int) (l5 : ax_V), i ≤ i' → i' ≤ i + (r + 1) + r * s → fz dp g g' → rk h (rv h ch n) n dp p g' ((4 * p + 4) * p4 k) l' cc' → ax_Ev (d + 6) 41 13 [(2, 97), (0, n), (0, ch), (0, (dp : Int) - 1), (0, i'), l5] [] (L0, g') Q) →
    ax_Ev (d + 6) 41 13 [(2, 97), (0, n), (0, ch), (0, dp), (0, i), l5] [] (L0, g) Q
  | 0, _, i, l, cc, g, l5, i0, ib, R, t, hq => by
    have fzu : fz dp g (ax_up g 99 dp (g 99 dp + 3)) := ⟨fun m j hm => by simp only [ax_up]; rw [if_neg (by omega)], fun m hm => by simp only [ax_up]; rw [if_neg (by omega)]⟩
    have K := hq (ax_up g 99 dp (g 99 dp + 3)) (i + 1) l cc l5 (by omega) (by omega) fzu (by
      obtain ⟨⟨r1, r2⟩, r3, r4, r5, r6, r7⟩ := R
      refine ⟨⟨fun k j e => by simp only [ax_up]; rw [if_neg (by omega)]; exact r1 k j e, fun m hm j hj => by simp only [ax_up]; rw [if_neg (by omega)]; exact r2 m hm j hj⟩, ?_, fun m hm => by rw [fzu.2 m hm]; exact r4 m hm, by simp only [ax_up]; rw [if_neg (by omega)]; exact r5, ?_, r7⟩
      · rw [← r3]; funext j; exact fzu.1 dp j (by omega)
      · rcases r6 with e | e
        · exact .inl e
        · exact .inr fun m hm => by simp only [ax_up]; rw [if_neg (by omega)]; exact e m hm)
    have a1 : ax_up g 99 dp (g 99 dp + 3) 99 dp = g 99 dp + 3 := by simp [ax_up]
    clear hq R SUB fzu q
    rw [ax_ev, dh_RowSearch_tryAll_13]
    simp (disch := omega) only [ax_ev, ax_kk, ax_ps, ax_r_const, ax_r_lconst, ax_r_str, ax_r_iload, ax_r_lload, ax_r_aload, ax_r_istore, ax_r_astore, ax_r_lstore, ax_r_iinc, ax_r_iadd, ax_r_isub, ax_r_imul, ax_r_idiv, ax_r_irem, ax_r_iand, ax_r_ior, ax_r_ishl, ax_r_ishr, ax_r_iushr, ax_r_i2l, ax_r_l2i, ax_r_i2b, ax_r_ladd, ax_r_lsub, ax_r_lmul, ax_r_ldiv, ax_r_lrem, ax_r_land, ax_r_lor, ax_r_lcmp, ax_r_ifeq, ax_r_ifne, ax_r_iflt, ax_r_ifge, ax_r_ifgt, ax_r_ifle, ax_r_iceq, ax_r_icne, ax_r_iclt, ax_r_icge, ax_r_icgt, ax_r_icle, ax_r_goto, ax_r_tsw, ax_evt_c, ax_evt_n, ax_r_lsw, ax_evu_c, ax_evu_n, ax_r_getI, ax_r_getR, ax_r_putI, ax_r_putZ, ax_r_iald, ax_r_iast, ax_r_lald, ax_r_last, ax_r_bald, ax_r_aald, ax_r_alen, ax_r_bast, ax_r_min, ax_r_max, ax_r_minl, ax_r_maxl, ax_r_copy, ax_r_slen, ax_r_schr, ax_r_dup, ax_r_dup2, ax_r_pop, ax_r_ret, ax_r_lret, ax_r_vret, ax_r_zret, ax_r_aret, ax_r_call, ax_evo, ax_eva, ax_ar, ax_tk, ax_ex, ax_ld, ax_sto, ax_stl, ly_pm, ly_cd, ly_ln, ly_rf, Option.bind_some, Option.map_some, if_true, if_false, true_and, and_true, List.nil_append, List.cons_append, List.append_nil, List.length_nil, List.length_cons, List.headD_cons, true_or, or_true, false_or, or_false, ne_eq, not_false_eq_true, not_true_eq_false, false_and, and_false, List.set_cons_zero, List.set_cons_succ, Nat.reduceAdd, Nat.reduceSub, Nat.reduceMul, Nat.reduceLeDiff, Nat.reduceLT, Nat.reduceEqDiff, ↓reduceIte, Int.reduceNeg, Int.reduceAdd, Int.reduceSub, Int.reduceMul, Int.reduceEq, Int.reduceNe, Int.reduceLE, Int.reduceLT, Int.reduceToNat, Nat.one_ne_zero, Nat.zero_ne_one, Int.cast_ofNat_Int, lc_lt, lc_ge, lc_gt, lc_le, lc_eq, lc_ne, w32i, w64i, tdv, tmd, ltT, ltF, leT, leF, eqT, eqF, dc_RowSearch_tryAll, a1]
    exact K
  | r + 1, hr, i, l, cc, g, l5, i0, ib, R, t, hq => by
    have n9 := q.2.1
    have nr : (((r + 1 : Nat) : Int)) * s = (r : Int) * s + s := by rw [Int.natCast_add, Int.add_mul]; omega
    rw [nr] at ib hq
    have rs0 : 0 ≤ (r : Int) * s := Int.mul_nonneg (by omega) s0
    obtain ⟨c, hc⟩ : ∃ c : Int, c = 4 - ((r + 1 : Nat) : Int) := ⟨_, rfl⟩
    rw [← hc] at R t
    have c0 : 0 ≤ c := by omega
    have c3 : c ≤ 3 := by omega
    have CONT : ∀ (g' : Int → Int → Int) (i' l' cc' : Int) (l5 : ax_V), i + 1 ≤ i' → i' ≤ i + 1 + s → fz dp g g' → g' 99 dp = 3 * c → rk h (rv h ch n) n dp p g' ((4 * p + c + 1) * p4 k) l' cc' → ax_Ev (d + 6) 41 13 [(2, 97), (0, n), (0, ch), (0, dp), (0, i'), l5] [] (L0, g') Q := by
      intro g' i' l' cc' l5 a b f' t' R'
      refine w_child q hn n5 p0 s0 SUB r (by omega) i' l' cc' g' l5 (by omega) (by omega) (by rw [show 4 * p + (4 - (r : Int)) = 4 * p + c + 1 by omega]; exact R') (by omega) ?_
      intro g2 i2 l2 cc2 l5 a2 b2 f2 R2
      exact hq g2 i2 l2 cc2 l5 (by omega) (by omega) (fz_trans f' f2) R2
    -- the number tried
    have fzu : fz dp g (ax_up g 99 dp (g 99 dp + 3)) := ⟨fun m j hm => by simp only [ax_up]; rw [if_neg (by omega)], fun m hm => by simp only [ax_up]; rw [if_neg (by omega)]⟩
    have Ru : ∀ N, opt (rv h ch n) N l cc → rk h (rv h ch n) n dp p (ax_up g 99 dp (g 99 dp + 3)) N l cc := by
      intro N o
      obtain ⟨⟨r1, r2⟩, r3, r4, r5, r6, r7⟩ := R
      refine ⟨⟨fun k j e => by simp only [ax_up]; rw [if_neg (by omega)]; exact r1 k j e, fun m hm j hj => by simp only [ax_up]; rw [if_neg (by omega)]; exact r2 m hm j hj⟩, ?_, fun m hm => by rw [fzu.2 m hm]; exact r4 m hm, by simp only [ax_up]; rw [if_neg (by omega)]; exact r5, ?_, o⟩
      · rw [← r3]; funext j; exact fzu.1 dp j (by omega)
      · rcases r6 with e | e
        · exact .inl e
        · exact .inr fun m hm => by simp only [ax_up]; rw [if_neg (by omega)]; exact e m hm
    have a1 : ax_up g 99 dp (g 99 dp + 3) 99 dp = g 99 dp + 3 := by simp [ax_up]
    have a2 : ∀ j, ax_up g 99 dp (g 99 dp + 3) (102 + 2 * (dp : Int)) j = g (102 + 2 * (dp : Int)) j := fun j => by simp only [ax_up]; rw [if_neg (by omega)]
    have x0 := rf98 (m := dp) (by omega)
    have x1 : ax_rf L0 98 ((dp : Int) + 1) = 103 + 2 * (dp : Int) := by
      have := rf98 (m := dp + 1) (by omega)
      rw [show (((dp + 1 : Nat)) : Int) = (dp : Int) + 1 by omega] at this
      omega
    have y0 := st_row (m := dp) (by omega)
    have y1 := st_row (m := dp + 1) (by omega)
    rw [show 101 + 2 * (((dp + 1 : Nat)) : Int) = 103 + 2 * (dp : Int) by omega] at y1
    have y1' := y1
    obtain ⟨y01, y02, y03, y04⟩ := y0
    obtain ⟨y11, y12, y13, y14⟩ := y1
    rw [show 101 + 2 * (dp : Int) + 1 = 102 + 2 * (dp : Int) by omega] at y02 y03 y04
    rw [show 103 + 2 * (dp : Int) + 1 = 104 + 2 * (dp : Int) by omega] at y12 y13 y14
    have r3 := R.2.1
    have G := rS_gm q dp p
    have gc1 := G.1.2.1
    have gc2 := G.1.2.2.1
    by_cases pr : 0 < c ∧ (g (102 + 2 * (dp : Int)) 10 = -1 ∨ g (102 + 2 * (dp : Int)) 1 ≤ 3 * c - 3)
    · have K := hq (ax_up g 99 dp (g 99 dp + 3)) (i + 1) l cc l5 (by omega) (by omega) fzu (Ru _ (by
        have o := R.2.2.2.2.2
        subst hn
        refine opt_same o p0 (by omega) (by omega) fun c' h1 h2 => ?_
        rw [rS_s, rS_s, show (4 * p + c') % 4 = c' by omega, show (4 * p + c') / 4 = p by omega, show (4 * p + (c - 1)) % 4 = c - 1 by omega, show (4 * p + (c - 1)) / 4 = p by omega]
        have z := pr.2
        rw [r3] at z
        unfold rD
        have e : dy_fed (mix (rS h dp p) (h (104 + 2 * (dp : Int)))) (3 * c') = dy_fed (mix (rS h dp p) (h (104 + 2 * (dp : Int)))) (3 * (c - 1)) := by
          unfold dy_fed
          rw [mix_in (by omega) (by omega), mix_in (by omega) (by omega)]
          split
          · rfl
          · split <;> split <;> omega
        rw [e]))
      rw [← r3] at gc1 gc2
      clear hq R SUB fzu q CONT Ru G r3 y1'
      rcases pr.2 with z | z
      · rw [ax_ev, dh_RowSearch_tryAll_13]
        simp (disch := omega) only [ax_ev, ax_kk, ax_ps, ax_r_const, ax_r_lconst, ax_r_str, ax_r_iload, ax_r_lload, ax_r_aload, ax_r_istore, ax_r_astore, ax_r_lstore, ax_r_iinc, ax_r_iadd, ax_r_isub, ax_r_imul, ax_r_idiv, ax_r_irem, ax_r_iand, ax_r_ior, ax_r_ishl, ax_r_ishr, ax_r_iushr, ax_r_i2l, ax_r_l2i, ax_r_i2b, ax_r_ladd, ax_r_lsub, ax_r_lmul, ax_r_ldiv, ax_r_lrem, ax_r_land, ax_r_lor, ax_r_lcmp, ax_r_ifeq, ax_r_ifne, ax_r_iflt, ax_r_ifge, ax_r_ifgt, ax_r_ifle, ax_r_iceq, ax_r_icne, ax_r_iclt, ax_r_icge, ax_r_icgt, ax_r_icle, ax_r_goto, ax_r_tsw, ax_evt_c, ax_evt_n, ax_r_lsw, ax_evu_c, ax_evu_n, ax_r_getI, ax_r_getR, ax_r_putI, ax_r_putZ, ax_r_iald, ax_r_iast, ax_r_lald, ax_r_last, ax_r_bald, ax_r_aald, ax_r_alen, ax_r_bast, ax_r_min, ax_r_max, ax_r_minl, ax_r_maxl, ax_r_copy, ax_r_slen, ax_r_schr, ax_r_dup, ax_r_dup2, ax_r_pop, ax_r_ret, ax_r_lret, ax_r_vret, ax_r_zret, ax_r_aret, ax_r_call, ax_evo, ax_eva, ax_ar, ax_tk, ax_ex, ax_ld, ax_sto, ax_stl, ly_pm, ly_cd, ly_ln, ly_rf, Option.bind_some, Option.map_some, if_true, if_false, true_and, and_true, List.nil_append, List.cons_append, List.append_nil, List.length_nil, List.length_cons, List.headD_cons, true_or, or_true, false_or, or_false, ne_eq, not_false_eq_true, not_true_eq_false, false_and, and_false, List.set_cons_zero, List.set_cons_succ, Nat.reduceAdd, Nat.reduceSub, Nat.reduceMul, Nat.reduceLeDiff, Nat.reduceLT, Nat.reduceEqDiff, ↓reduceIte, Int.reduceNeg, Int.reduceAdd, Int.reduceSub, Int.reduceMul, Int.reduceEq, Int.reduceNe, Int.reduceLE, Int.reduceLT, Int.reduceToNat, Nat.one_ne_zero, Nat.zero_ne_one, Int.cast_ofNat_Int, lc_lt, lc_ge, lc_gt, lc_le, lc_eq, lc_ne, w32i, w64i, tdv, tmd, ltT, ltF, leT, leF, eqT, eqF, dc_RowSearch_tryAll, dc_RowSearch_isAsBefore, a1, a2, x0, y01, y02, y03, y04]
        exact K
      · by_cases z2 : g (102 + 2 * (dp : Int)) 10 = -1
        · rw [ax_ev, dh_RowSearch_tryAll_13]
          simp (disch := omega) only [ax_ev, ax_kk, ax_ps, ax_r_const, ax_r_lconst, ax_r_str, ax_r_iload, ax_r_lload, ax_r_aload, ax_r_istore, ax_r_astore, ax_r_lstore, ax_r_iinc, ax_r_iadd, ax_r_isub, ax_r_imul, ax_r_idiv, ax_r_irem, ax_r_iand, ax_r_ior, ax_r_ishl, ax_r_ishr, ax_r_iushr, ax_r_i2l, ax_r_l2i, ax_r_i2b, ax_r_ladd, ax_r_lsub, ax_r_lmul, ax_r_ldiv, ax_r_lrem, ax_r_land, ax_r_lor, ax_r_lcmp, ax_r_ifeq, ax_r_ifne, ax_r_iflt, ax_r_ifge, ax_r_ifgt, ax_r_ifle, ax_r_iceq, ax_r_icne, ax_r_iclt, ax_r_icge, ax_r_icgt, ax_r_icle, ax_r_goto, ax_r_tsw, ax_evt_c, ax_evt_n, ax_r_lsw, ax_evu_c, ax_evu_n, ax_r_getI, ax_r_getR, ax_r_putI, ax_r_putZ, ax_r_iald, ax_r_iast, ax_r_lald, ax_r_last, ax_r_bald, ax_r_aald, ax_r_alen, ax_r_bast, ax_r_min, ax_r_max, ax_r_minl, ax_r_maxl, ax_r_copy, ax_r_slen, ax_r_schr, ax_r_dup, ax_r_dup2, ax_r_pop, ax_r_ret, ax_r_lret, ax_r_vret, ax_r_zret, ax_r_aret, ax_r_call, ax_evo, ax_eva, ax_ar, ax_tk, ax_ex, ax_ld, ax_sto, ax_stl, ly_pm, ly_cd, ly_ln, ly_rf, Option.bind_some, Option.map_some, if_true, if_false, true_and, and_true, List.nil_append, List.cons_append, List.append_nil, List.length_nil, List.length_cons, List.headD_cons, true_or, or_true, false_or, or_false, ne_eq, not_false_eq_true, not_true_eq_false, false_and, and_false, List.set_cons_zero, List.set_cons_succ, Nat.reduceAdd, Nat.reduceSub, Nat.reduceMul, Nat.reduceLeDiff, Nat.reduceLT, Nat.reduceEqDiff, ↓reduceIte, Int.reduceNeg, Int.reduceAdd, Int.reduceSub, Int.reduceMul, Int.reduceEq, Int.reduceNe, Int.reduceLE, Int.reduceLT, Int.reduceToNat, Nat.one_ne_zero, Nat.zero_ne_one, Int.cast_ofNat_Int, lc_lt, lc_ge, lc_gt, lc_le, lc_eq, lc_ne, w32i, w64i, tdv, tmd, ltT, ltF, leT, leF, eqT, eqF, dc_RowSearch_tryAll, dc_RowSearch_isAsBefore, a1, a2, x0, y01, y02, y03, y04]
          exact K
        · rw [ax_ev, dh_RowSearch_tryAll_13]
          simp (disch := omega) only [ax_ev, ax_kk, ax_ps, ax_r_const, ax_r_lconst, ax_r_str, ax_r_iload, ax_r_lload, ax_r_aload, ax_r_istore, ax_r_astore, ax_r_lstore, ax_r_iinc, ax_r_iadd, ax_r_isub, ax_r_imul, ax_r_idiv, ax_r_irem, ax_r_iand, ax_r_ior, ax_r_ishl, ax_r_ishr, ax_r_iushr, ax_r_i2l, ax_r_l2i, ax_r_i2b, ax_r_ladd, ax_r_lsub, ax_r_lmul, ax_r_ldiv, ax_r_lrem, ax_r_land, ax_r_lor, ax_r_lcmp, ax_r_ifeq, ax_r_ifne, ax_r_iflt, ax_r_ifge, ax_r_ifgt, ax_r_ifle, ax_r_iceq, ax_r_icne, ax_r_iclt, ax_r_icge, ax_r_icgt, ax_r_icle, ax_r_goto, ax_r_tsw, ax_evt_c, ax_evt_n, ax_r_lsw, ax_evu_c, ax_evu_n, ax_r_getI, ax_r_getR, ax_r_putI, ax_r_putZ, ax_r_iald, ax_r_iast, ax_r_lald, ax_r_last, ax_r_bald, ax_r_aald, ax_r_alen, ax_r_bast, ax_r_min, ax_r_max, ax_r_minl, ax_r_maxl, ax_r_copy, ax_r_slen, ax_r_schr, ax_r_dup, ax_r_dup2, ax_r_pop, ax_r_ret, ax_r_lret, ax_r_vret, ax_r_zret, ax_r_aret, ax_r_call, ax_evo, ax_eva, ax_ar, ax_tk, ax_ex, ax_ld, ax_sto, ax_stl, ly_pm, ly_cd, ly_ln, ly_rf, Option.bind_some, Option.map_some, if_true, if_false, true_and, and_true, List.nil_append, List.cons_append, List.append_nil, List.length_nil, List.length_cons, List.headD_cons, true_or, or_true, false_or, or_false, ne_eq, not_false_eq_true, not_true_eq_false, false_and, and_false, List.set_cons_zero, List.set_cons_succ, Nat.reduceAdd, Nat.reduceSub, Nat.reduceMul, Nat.reduceLeDiff, Nat.reduceLT, Nat.reduceEqDiff, ↓reduceIte, Int.reduceNeg, Int.reduceAdd, Int.reduceSub, Int.reduceMul, Int.reduceEq, Int.reduceNe, Int.reduceLE, Int.reduceLT, Int.reduceToNat, Nat.one_ne_zero, Nat.zero_ne_one, Int.cast_ofNat_Int, lc_lt, lc_ge, lc_gt, lc_le, lc_eq, lc_ne, w32i, w64i, tdv, tmd, ltT, ltF, leT, leF, eqT, eqF, dc_RowSearch_tryAll, dc_RowSearch_isAsBefore, a1, a2, x0, y01, y02, y03, y04]
          exact K
    · have pr' : c = 0 ∨ (g (102 + 2 * (dp : Int)) 10 ≠ -1 ∧ 3 * c - 3 < g (102 + 2 * (dp : Int)) 1) := by omega
      have b3 : h 25 2 ≤ 3 := by have hi := q.1; obtain ⟨⟨a1, a2, a3, a4, a5, a6, a7, a8, a9⟩, ⟨b1, b2, b3, b4, b5, b6, b7, b8⟩, c1, c2, c3, c4, c5, c6, c7, c8, c9, c10, ⟨⟨m1, m2, m3, m4, m5, m6, m7⟩, ⟨g1, g2, g3, g4, g5, g6, g7, g8⟩, g9⟩, r1, tp⟩ := iv_get hi; omega
      have Ru' := Ru _ R.2.2.2.2.2
      have GM := mix_gm q G (h (104 + 2 * (dp : Int)))
      have S1 : rS h (dp + 1) (4 * p + c) = rD h (3 * c) (mix (rS h dp p) (h (104 + 2 * (dp : Int)))) := by
        rw [rS_s, show (4 * p + c) % 4 = c by omega, show (4 * p + c) / 4 = p by omega]
      have l0 : l = g 97 5 := R.2.2.2.1.symm
      have oj1 : ∀ j, j < 0 ∨ 47 ≤ j → g (104 + 2 * (dp : Int)) j = h (104 + 2 * (dp : Int)) j := by
        intro j hj
        have := R.1.2 (dp + 1) (by omega) j hj
        rw [show 102 + 2 * (((dp + 1 : Nat)) : Int) = 104 + 2 * (dp : Int) by omega] at this
        exact this
      generalize hG1 : ax_up g 99 dp (g 99 dp + 3) = G1 at *
      have G2row : ax_cp G1 (102 + 2 * (dp : Int)) 0 (104 + 2 * (dp : Int)) 0 47 (104 + 2 * (dp : Int)) = mix (rS h dp p) (h (104 + 2 * (dp : Int))) := by
        funext j
        simp only [ax_cp, true_and]
        by_cases e : 0 ≤ j ∧ j < 47
        · rw [if_pos (by omega), mix_in e.1 e.2, show 0 + (j - 0) = j by omega, a2, r3]
        · rw [if_neg (by omega), mix_out (by omega), ← oj1 j (by omega), ← hG1]; simp only [ax_up]; rw [if_neg (by omega)]
      have G2no : ∀ a j, a ≠ 104 + 2 * (dp : Int) → ax_cp G1 (102 + 2 * (dp : Int)) 0 (104 + 2 * (dp : Int)) 0 47 a j = G1 a j := fun a j e => by simp only [ax_cp]; rw [if_neg (by omega)]
      generalize hG2 : ax_cp G1 (102 + 2 * (dp : Int)) 0 (104 + 2 * (dp : Int)) 0 47 = G2 at *
      have f1 := Ru'.1.1
      have E25 : G2 25 0 = h 25 0 := by rw [G2no _ _ (by omega)]; exact f1 _ _ (by omega)
      have E27 : G2 27 = h 27 := by funext j; rw [G2no _ _ (by omega)]; exact f1 _ _ (by omega)
      have e99 : G2 99 dp = 3 * c := by rw [G2no _ _ (by omega), a1]; omega
      -- behind the day
      have BEH : ∀ G3 : Int → Int → Int, (∀ a j, a ≠ 104 + 2 * (dp : Int) → G3 a j = G1 a j) → G3 (104 + 2 * (dp : Int)) = rS h (dp + 1) (4 * p + c) → (ax_k (d + 6) 41 118 [(2, 97), (0, n), (0, ch), (0, dp), (0, i), (2, 103 + 2 * (dp : Int))] [] Q) (0, dy_fed (mix (rS h dp p) (h (104 + 2 * (dp : Int)))) (3 * c)) (L0, G3) := by
        intro G3 no row
        have fz3 : fz dp g G3 := ⟨fun m j hm => by rw [no _ _ (by omega)]; exact fzu.1 m j hm, fun m hm => by rw [no _ _ (by omega)]; exact fzu.2 m hm⟩
        have R3 : ∀ N, opt (rv h ch n) N l cc → rk h (rv h ch n) n dp p G3 N l cc := by
          intro N o
          obtain ⟨⟨r1, r2⟩, r3, r4, r5, r6, r7⟩ := Ru'
          refine ⟨⟨fun k j e => by rw [no _ _ (by omega)]; exact r1 k j e, fun m hm j hj => ?_⟩, ?_, fun m hm => by rw [no _ _ (by omega)]; exact r4 m hm, by rw [no _ _ (by omega)]; exact r5, ?_, o⟩
          · by_cases e : m = dp + 1
            · subst e
              rw [show 102 + 2 * (((dp + 1 : Nat)) : Int) = 104 + 2 * (dp : Int) by omega, row]
              exact rS_out q dp _ hj
            · rw [no _ _ (by omega)]; exact r2 m hm j hj
          · rw [← r3]; funext j; exact no _ _ (by omega)
          · rcases r6 with e | e
            · exact .inl e
            · exact .inr fun m hm => by rw [no _ _ (by omega)]; exact e m hm
        have t3 : G3 99 dp = 3 * c := by rw [no _ _ (by omega), a1]; omega
        have e33 : G3 33 1 = h 33 1 := by rw [no _ _ (by omega)]; exact f1 _ _ (by omega)
        have e97 : G3 97 5 = l := by rw [no _ _ (by omega)]; exact Ru'.2.2.2.1
        have erow : G3 (104 + 2 * (dp : Int)) 1 = rS h (dp + 1) (4 * p + c) 1 := by rw [row]
        have bb := (rS_gm q (dp + 1) (4 * p + c)).1
        have bb1 := bb.2.1
        have bb2 := bb.2.2.1
        have b33 := (gm_now q).1.2
        have b331 := b33.1
        have b332 := b33.2.1
        rw [ax_kk]
        by_cases gn : h 33 1 - rS h (dp + 1) (4 * p + c) 1 < l
        · have K := SUB c i l cc G3 c0 (by omega) i0 (by omega) (R3 _ R.2.2.2.2.2) t3 row gn (fun g' i' l' cc' l5 q1 q2 q3 q4 q5 => CONT g' i' l' cc' l5 q1 q2 (fz_trans fz3 q3) q4 q5)
          clear hq R SUB fzu q CONT Ru Ru' G y1' G2row G2no E25 E27 S1 fz3 R3 GM f1 bb b33 oj1 no row
          rw [ax_ev] at K
          simp (disch := omega) only [ax_ev, ax_kk, ax_ps, ax_r_const, ax_r_lconst, ax_r_str, ax_r_iload, ax_r_lload, ax_r_aload, ax_r_istore, ax_r_astore, ax_r_lstore, ax_r_iinc, ax_r_iadd, ax_r_isub, ax_r_imul, ax_r_idiv, ax_r_irem, ax_r_iand, ax_r_ior, ax_r_ishl, ax_r_ishr, ax_r_iushr, ax_r_i2l, ax_r_l2i, ax_r_i2b, ax_r_ladd, ax_r_lsub, ax_r_lmul, ax_r_ldiv, ax_r_lrem, ax_r_land, ax_r_lor, ax_r_lcmp, ax_r_ifeq, ax_r_ifne, ax_r_iflt, ax_r_ifge, ax_r_ifgt, ax_r_ifle, ax_r_iceq, ax_r_icne, ax_r_iclt, ax_r_icge, ax_r_icgt, ax_r_icle, ax_r_goto, ax_r_tsw, ax_evt_c, ax_evt_n, ax_r_lsw, ax_evu_c, ax_evu_n, ax_r_getI, ax_r_getR, ax_r_putI, ax_r_putZ, ax_r_iald, ax_r_iast, ax_r_lald, ax_r_last, ax_r_bald, ax_r_aald, ax_r_alen, ax_r_bast, ax_r_min, ax_r_max, ax_r_minl, ax_r_maxl, ax_r_copy, ax_r_slen, ax_r_schr, ax_r_dup, ax_r_dup2, ax_r_pop, ax_r_ret, ax_r_lret, ax_r_vret, ax_r_zret, ax_r_aret, ax_r_call, ax_evo, ax_eva, ax_ar, ax_tk, ax_ex, ax_ld, ax_sto, ax_stl, ly_pm, ly_cd, ly_ln, ly_rf, Option.bind_some, Option.map_some, if_true, if_false, true_and, and_true, List.nil_append, List.cons_append, List.append_nil, List.length_nil, List.length_cons, List.headD_cons, true_or, or_true, false_or, or_false, ne_eq, not_false_eq_true, not_true_eq_false, false_and, and_false, List.set_cons_zero, List.set_cons_succ, Nat.reduceAdd, Nat.reduceSub, Nat.reduceMul, Nat.reduceLeDiff, Nat.reduceLT, Nat.reduceEqDiff, ↓reduceIte, Int.reduceNeg, Int.reduceAdd, Int.reduceSub, Int.reduceMul, Int.reduceEq, Int.reduceNe, Int.reduceLE, Int.reduceLT, Int.reduceToNat, Nat.one_ne_zero, Nat.zero_ne_one, Int.cast_ofNat_Int, lc_lt, lc_ge, lc_gt, lc_le, lc_eq, lc_ne, w32i, w64i, tdv, tmd, ltT, ltF, leT, leF, eqT, eqF, dc_RowSearch_tryAll, dc_RowSearch_gone, e33, e97, erow, y11, y12, y13, y14] at K ⊢
          exact K
        · have K := CONT G3 (i + 1) l cc (2, 103 + 2 * (dp : Int)) (by omega) (by omega) fz3 t3 (R3 _ (by
            have o := R.2.2.2.2.2
            subst hn
            exact opt_gone q o (by omega)))
          clear hq R SUB fzu q CONT Ru Ru' G y1' G2row G2no E25 E27 S1 fz3 R3 GM f1 bb b33 oj1 no row
          simp (disch := omega) only [ax_ev, ax_kk, ax_ps, ax_r_const, ax_r_lconst, ax_r_str, ax_r_iload, ax_r_lload, ax_r_aload, ax_r_istore, ax_r_astore, ax_r_lstore, ax_r_iinc, ax_r_iadd, ax_r_isub, ax_r_imul, ax_r_idiv, ax_r_irem, ax_r_iand, ax_r_ior, ax_r_ishl, ax_r_ishr, ax_r_iushr, ax_r_i2l, ax_r_l2i, ax_r_i2b, ax_r_ladd, ax_r_lsub, ax_r_lmul, ax_r_ldiv, ax_r_lrem, ax_r_land, ax_r_lor, ax_r_lcmp, ax_r_ifeq, ax_r_ifne, ax_r_iflt, ax_r_ifge, ax_r_ifgt, ax_r_ifle, ax_r_iceq, ax_r_icne, ax_r_iclt, ax_r_icge, ax_r_icgt, ax_r_icle, ax_r_goto, ax_r_tsw, ax_evt_c, ax_evt_n, ax_r_lsw, ax_evu_c, ax_evu_n, ax_r_getI, ax_r_getR, ax_r_putI, ax_r_putZ, ax_r_iald, ax_r_iast, ax_r_lald, ax_r_last, ax_r_bald, ax_r_aald, ax_r_alen, ax_r_bast, ax_r_min, ax_r_max, ax_r_minl, ax_r_maxl, ax_r_copy, ax_r_slen, ax_r_schr, ax_r_dup, ax_r_dup2, ax_r_pop, ax_r_ret, ax_r_lret, ax_r_vret, ax_r_zret, ax_r_aret, ax_r_call, ax_evo, ax_eva, ax_ar, ax_tk, ax_ex, ax_ld, ax_sto, ax_stl, ly_pm, ly_cd, ly_ln, ly_rf, Option.bind_some, Option.map_some, if_true, if_false, true_and, and_true, List.nil_append, List.cons_append, List.append_nil, List.length_nil, List.length_cons, List.headD_cons, true_or, or_true, false_or, or_false, ne_eq, not_false_eq_true, not_true_eq_false, false_and, and_false, List.set_cons_zero, List.set_cons_succ, Nat.reduceAdd, Nat.reduceSub, Nat.reduceMul, Nat.reduceLeDiff, Nat.reduceLT, Nat.reduceEqDiff, ↓reduceIte, Int.reduceNeg, Int.reduceAdd, Int.reduceSub, Int.reduceMul, Int.reduceEq, Int.reduceNe, Int.reduceLE, Int.reduceLT, Int.reduceToNat, Nat.one_ne_zero, Nat.zero_ne_one, Int.cast_ofNat_Int, lc_lt, lc_ge, lc_gt, lc_le, lc_eq, lc_ne, w32i, w64i, tdv, tmd, ltT, ltF, leT, leF, eqT, eqF, dc_RowSearch_tryAll, dc_RowSearch_gone, e33, e97, erow, y11, y12, y13, y14]
          exact K
      have DAY : ax_Ev (d + 5) 4 0 [(2, 22), (2, 103 + 2 * (dp : Int)), (2, 25), (0, 3 * c), (9, 0), (9, 0), (9, 0), (9, 0)] [] (L0, G2) (ax_k (d + 6) 41 118 [(2, 97), (0, n), (0, ch), (0, dp), (0, i), (2, 103 + 2 * (dp : Int))] [] Q) := by
        refine ps_with (o := 103 + 2 * (dp : Int)) (t := 25) (cy := h 25 2) y1' td_25 (by omega) (by omega) ?_ ?_ ?_ b3 ?_ (by omega) ?_
        all_goals simp only [Int.reduceAdd, show 103 + 2 * (dp : Int) + 1 = 104 + 2 * (dp : Int) by omega, E25, E27, G2row]
        · exact n9
        · exact GM.1
        · have := GM.2; omega
        · exact qx_nd q
        · refine BEH _ (fun a j e => by rw [rwno _ _ _ _ _ e]; exact G2no a j e) ?_
          rw [S1]; funext j; rw [rwrd]; rfl
      rw [← r3] at gc1 gc2
      have e99' : G2 99 dp = g 99 dp + 3 := by omega
      rw [show 3 * c = g 99 dp + 3 by omega] at DAY
      clear hq R SUB fzu q CONT Ru Ru' G y1' G2row G2no E25 E27 S1 GM f1 oj1 BEH e99
      rw [ax_ev, dh_RowSearch_tryAll_13]
      rcases pr' with z | z
      · simp (disch := omega) only [ax_ev, ax_kk, ax_ps, ax_r_const, ax_r_lconst, ax_r_str, ax_r_iload, ax_r_lload, ax_r_aload, ax_r_istore, ax_r_astore, ax_r_lstore, ax_r_iinc, ax_r_iadd, ax_r_isub, ax_r_imul, ax_r_idiv, ax_r_irem, ax_r_iand, ax_r_ior, ax_r_ishl, ax_r_ishr, ax_r_iushr, ax_r_i2l, ax_r_l2i, ax_r_i2b, ax_r_ladd, ax_r_lsub, ax_r_lmul, ax_r_ldiv, ax_r_lrem, ax_r_land, ax_r_lor, ax_r_lcmp, ax_r_ifeq, ax_r_ifne, ax_r_iflt, ax_r_ifge, ax_r_ifgt, ax_r_ifle, ax_r_iceq, ax_r_icne, ax_r_iclt, ax_r_icge, ax_r_icgt, ax_r_icle, ax_r_goto, ax_r_tsw, ax_evt_c, ax_evt_n, ax_r_lsw, ax_evu_c, ax_evu_n, ax_r_getI, ax_r_getR, ax_r_putI, ax_r_putZ, ax_r_iald, ax_r_iast, ax_r_lald, ax_r_last, ax_r_bald, ax_r_aald, ax_r_alen, ax_r_bast, ax_r_min, ax_r_max, ax_r_minl, ax_r_maxl, ax_r_copy, ax_r_slen, ax_r_schr, ax_r_dup, ax_r_dup2, ax_r_pop, ax_r_ret, ax_r_lret, ax_r_vret, ax_r_zret, ax_r_aret, ax_r_call, ax_evo, ax_eva, ax_ar, ax_tk, ax_ex, ax_ld, ax_sto, ax_stl, ly_pm, ly_cd, ly_ln, ly_rf, Option.bind_some, Option.map_some, if_true, if_false, true_and, and_true, List.nil_append, List.cons_append, List.append_nil, List.length_nil, List.length_cons, List.headD_cons, true_or, or_true, false_or, or_false, ne_eq, not_false_eq_true, not_true_eq_false, false_and, and_false, List.set_cons_zero, List.set_cons_succ, Nat.reduceAdd, Nat.reduceSub, Nat.reduceMul, Nat.reduceLeDiff, Nat.reduceLT, Nat.reduceEqDiff, ↓reduceIte, Int.reduceNeg, Int.reduceAdd, Int.reduceSub, Int.reduceMul, Int.reduceEq, Int.reduceNe, Int.reduceLE, Int.reduceLT, Int.reduceToNat, Nat.one_ne_zero, Nat.zero_ne_one, Int.cast_ofNat_Int, lc_lt, lc_ge, lc_gt, lc_le, lc_eq, lc_ne, w32i, w64i, tdv, tmd, ltT, ltF, leT, leF, eqT, eqF, dc_RowSearch_tryAll, dc_RowSearch_isAsBefore, dc_State_copyFrom, hG1, hG2, a1, a2, x0, x1, y01, y02, y03, y04, y11, y12, y13, y14, e99']
        exact DAY
      · by_cases z0 : c = 0
        · simp (disch := omega) only [ax_ev, ax_kk, ax_ps, ax_r_const, ax_r_lconst, ax_r_str, ax_r_iload, ax_r_lload, ax_r_aload, ax_r_istore, ax_r_astore, ax_r_lstore, ax_r_iinc, ax_r_iadd, ax_r_isub, ax_r_imul, ax_r_idiv, ax_r_irem, ax_r_iand, ax_r_ior, ax_r_ishl, ax_r_ishr, ax_r_iushr, ax_r_i2l, ax_r_l2i, ax_r_i2b, ax_r_ladd, ax_r_lsub, ax_r_lmul, ax_r_ldiv, ax_r_lrem, ax_r_land, ax_r_lor, ax_r_lcmp, ax_r_ifeq, ax_r_ifne, ax_r_iflt, ax_r_ifge, ax_r_ifgt, ax_r_ifle, ax_r_iceq, ax_r_icne, ax_r_iclt, ax_r_icge, ax_r_icgt, ax_r_icle, ax_r_goto, ax_r_tsw, ax_evt_c, ax_evt_n, ax_r_lsw, ax_evu_c, ax_evu_n, ax_r_getI, ax_r_getR, ax_r_putI, ax_r_putZ, ax_r_iald, ax_r_iast, ax_r_lald, ax_r_last, ax_r_bald, ax_r_aald, ax_r_alen, ax_r_bast, ax_r_min, ax_r_max, ax_r_minl, ax_r_maxl, ax_r_copy, ax_r_slen, ax_r_schr, ax_r_dup, ax_r_dup2, ax_r_pop, ax_r_ret, ax_r_lret, ax_r_vret, ax_r_zret, ax_r_aret, ax_r_call, ax_evo, ax_eva, ax_ar, ax_tk, ax_ex, ax_ld, ax_sto, ax_stl, ly_pm, ly_cd, ly_ln, ly_rf, Option.bind_some, Option.map_some, if_true, if_false, true_and, and_true, List.nil_append, List.cons_append, List.append_nil, List.length_nil, List.length_cons, List.headD_cons, true_or, or_true, false_or, or_false, ne_eq, not_false_eq_true, not_true_eq_false, false_and, and_false, List.set_cons_zero, List.set_cons_succ, Nat.reduceAdd, Nat.reduceSub, Nat.reduceMul, Nat.reduceLeDiff, Nat.reduceLT, Nat.reduceEqDiff, ↓reduceIte, Int.reduceNeg, Int.reduceAdd, Int.reduceSub, Int.reduceMul, Int.reduceEq, Int.reduceNe, Int.reduceLE, Int.reduceLT, Int.reduceToNat, Nat.one_ne_zero, Nat.zero_ne_one, Int.cast_ofNat_Int, lc_lt, lc_ge, lc_gt, lc_le, lc_eq, lc_ne, w32i, w64i, tdv, tmd, ltT, ltF, leT, leF, eqT, eqF, dc_RowSearch_tryAll, dc_RowSearch_isAsBefore, dc_State_copyFrom, hG1, hG2, a1, a2, x0, x1, y01, y02, y03, y04, y11, y12, y13, y14, e99']
          exact DAY
        · simp (disch := omega) only [ax_ev, ax_kk, ax_ps, ax_r_const, ax_r_lconst, ax_r_str, ax_r_iload, ax_r_lload, ax_r_aload, ax_r_istore, ax_r_astore, ax_r_lstore, ax_r_iinc, ax_r_iadd, ax_r_isub, ax_r_imul, ax_r_idiv, ax_r_irem, ax_r_iand, ax_r_ior, ax_r_ishl, ax_r_ishr, ax_r_iushr, ax_r_i2l, ax_r_l2i, ax_r_i2b, ax_r_ladd, ax_r_lsub, ax_r_lmul, ax_r_ldiv, ax_r_lrem, ax_r_land, ax_r_lor, ax_r_lcmp, ax_r_ifeq, ax_r_ifne, ax_r_iflt, ax_r_ifge, ax_r_ifgt, ax_r_ifle, ax_r_iceq, ax_r_icne, ax_r_iclt, ax_r_icge, ax_r_icgt, ax_r_icle, ax_r_goto, ax_r_tsw, ax_evt_c, ax_evt_n, ax_r_lsw, ax_evu_c, ax_evu_n, ax_r_getI, ax_r_getR, ax_r_putI, ax_r_putZ, ax_r_iald, ax_r_iast, ax_r_lald, ax_r_last, ax_r_bald, ax_r_aald, ax_r_alen, ax_r_bast, ax_r_min, ax_r_max, ax_r_minl, ax_r_maxl, ax_r_copy, ax_r_slen, ax_r_schr, ax_r_dup, ax_r_dup2, ax_r_pop, ax_r_ret, ax_r_lret, ax_r_vret, ax_r_zret, ax_r_aret, ax_r_call, ax_evo, ax_eva, ax_ar, ax_tk, ax_ex, ax_ld, ax_sto, ax_stl, ly_pm, ly_cd, ly_ln, ly_rf, Option.bind_some, Option.map_some, if_true, if_false, true_and, and_true, List.nil_append, List.cons_append, List.append_nil, List.length_nil, List.length_cons, List.headD_cons, true_or, or_true, false_or, or_false, ne_eq, not_false_eq_true, not_true_eq_false, false_and, and_false, List.set_cons_zero, List.set_cons_succ, Nat.reduceAdd, Nat.reduceSub, Nat.reduceMul, Nat.reduceLeDiff, Nat.reduceLT, Nat.reduceEqDiff, ↓reduceIte, Int.reduceNeg, Int.reduceAdd, Int.reduceSub, Int.reduceMul, Int.reduceEq, Int.reduceNe, Int.reduceLE, Int.reduceLT, Int.reduceToNat, Nat.one_ne_zero, Nat.zero_ne_one, Int.cast_ofNat_Int, lc_lt, lc_ge, lc_gt, lc_le, lc_eq, lc_ne, w32i, w64i, tdv, tmd, ltT, ltF, leT, leF, eqT, eqF, dc_RowSearch_tryAll, dc_RowSearch_isAsBefore, dc_State_copyFrom, hG1, hG2, a1, a2, x0, x1, y01, y02, y03, y04, y11, y12, y13, y14, e99']
          exact DAY
