/-! row: the class's answer -/
theorem dig {p c : Int} {dp m : Nat} (c0 : 0 ≤ c) (c4 : c < 4) (hm : m < dp) : (4 * p + c) / p4 (dp - m) % 4 = p / p4 (dp - 1 - m) % 4 := by
  rw [show dp - m = (dp - 1 - m) + 1 by omega, p4_s, ← ediv2 _ _ _ (by omega), show (4 * p + c) / 4 = p by omega]
set_option maxRecDepth 100000 in
set_option maxHeartbeats 4000000 in
theorem w_sub0 {h : Int → Int → Int} {W : (Int → Int) → Int} (q : qx h W) {ch : Int} (ch0 : 0 ≤ ch) (ch9 : ch < 9) {n dp : Nat} (hn : n = dp + 1) (n5 : n ≤ 5) {p : Int} (p0 : 0 ≤ p) {d : Nat} {Q : ax_V → ax_H → Prop} : sub h ch n dp p 0 0 d Q := by
  intro c i l cc g c0 c3 i0 ib R t row gn hq
  have y1 := st_row (m := dp + 1) (by omega)
  rw [show 101 + 2 * (((dp + 1 : Nat)) : Int) = 103 + 2 * (dp : Int) by omega] at y1
  have row' : g (103 + 2 * (dp : Int) + 1) = rS h (dp + 1) (4 * p + c) := by rw [show 103 + 2 * (dp : Int) + 1 = 104 + 2 * (dp : Int) by omega]; exact row
  have G := rS_gm q (dp + 1) (4 * p + c)
  have kb := kd_b h (rS h (dp + 1) (4 * p + c)) ch
  have e33 : g 33 1 = h 33 1 := R.1.1 _ _ (by omega)
  have erow : g (104 + 2 * (dp : Int)) 1 = rS h (dp + 1) (4 * p + c) 1 := by rw [row]
  have bb1 := G.1.2.1
  have bb2 := G.1.2.2.1
  have b331 := (gm_now q).1.2.1
  have b332 := (gm_now q).1.2.2.1
  have v : rv h ch n (4 * p + c) = if kd h (rS h (dp + 1) (4 * p + c)) ch = 1 then 1000 else h 33 1 - rS h (dp + 1) (4 * p + c) 1 := by subst hn; rfl
  rw [show (4 * p + c) * p4 0 = 4 * p + c by unfold p4; omega] at R
  rw [show (4 * p + c + 1) * p4 0 = 4 * p + c + 1 by unfold p4; omega] at hq
  have KIND : ax_Ev (d + 4) 67 0 [(2, 103 + 2 * (dp : Int)), (2, 25), (0, ch), (9, 0), (9, 0), (9, 0)] [] (L0, g) (ax_k (d + 5) 44 12 [(2, 97), (2, 103 + 2 * (dp : Int)), (0, ch)] [] (ax_k (d + 6) 41 163 [(2, 97), (0, n), (0, ch), (0, dp), (0, i), (2, 103 + 2 * (dp : Int))] [] Q)) := by
    refine w_kind q R.1.1 y1 row' G ch0 ch9 ?_
    rw [ax_kk]
    by_cases u : kd h (rS h (dp + 1) (4 * p + c)) ch = 1
    · rw [if_pos u] at v
      have K := hq g (i + 1) l cc (2, 103 + 2 * (dp : Int)) (by omega) (by omega) ⟨fun _ _ _ => rfl, fun _ _ => rfl⟩ t (by
        obtain ⟨r1, r3, r4, r5, r6, r7⟩ := R
        refine ⟨r1, r3, r4, r5, r6, opt_more r7 (by omega) fun x a b e => ?_⟩
        rw [show x = 4 * p + c by omega, v]; exact r7.1)
      clear hq R q G row row' y1
      rw [u]
      simp (disch := omega) only [ax_ev, ax_kk, ax_ps, ax_r_const, ax_r_lconst, ax_r_str, ax_r_iload, ax_r_lload, ax_r_aload, ax_r_istore, ax_r_astore, ax_r_lstore, ax_r_iinc, ax_r_iadd, ax_r_isub, ax_r_imul, ax_r_idiv, ax_r_irem, ax_r_iand, ax_r_ior, ax_r_ishl, ax_r_ishr, ax_r_iushr, ax_r_i2l, ax_r_l2i, ax_r_i2b, ax_r_ladd, ax_r_lsub, ax_r_lmul, ax_r_ldiv, ax_r_lrem, ax_r_land, ax_r_lor, ax_r_lcmp, ax_r_ifeq, ax_r_ifne, ax_r_iflt, ax_r_ifge, ax_r_ifgt, ax_r_ifle, ax_r_iceq, ax_r_icne, ax_r_iclt, ax_r_icge, ax_r_icgt, ax_r_icle, ax_r_goto, ax_r_tsw, ax_evt_c, ax_evt_n, ax_r_lsw, ax_evu_c, ax_evu_n, ax_r_getI, ax_r_getR, ax_r_putI, ax_r_putZ, ax_r_iald, ax_r_iast, ax_r_lald, ax_r_last, ax_r_bald, ax_r_aald, ax_r_alen, ax_r_bast, ax_r_min, ax_r_max, ax_r_minl, ax_r_maxl, ax_r_copy, ax_r_slen, ax_r_schr, ax_r_dup, ax_r_dup2, ax_r_pop, ax_r_ret, ax_r_lret, ax_r_vret, ax_r_zret, ax_r_aret, ax_r_call, ax_evo, ax_eva, ax_ar, ax_tk, ax_ex, ax_ld, ax_sto, ax_stl, ly_pm, ly_cd, ly_ln, ly_rf, Option.bind_some, Option.map_some, if_true, if_false, true_and, and_true, List.nil_append, List.cons_append, List.append_nil, List.length_nil, List.length_cons, List.headD_cons, true_or, or_true, false_or, or_false, ne_eq, not_false_eq_true, not_true_eq_false, false_and, and_false, List.set_cons_zero, List.set_cons_succ, Nat.reduceAdd, Nat.reduceSub, Nat.reduceMul, Nat.reduceLeDiff, Nat.reduceLT, Nat.reduceEqDiff, ↓reduceIte, Int.reduceNeg, Int.reduceAdd, Int.reduceSub, Int.reduceMul, Int.reduceEq, Int.reduceNe, Int.reduceLE, Int.reduceLT, Int.reduceToNat, Nat.one_ne_zero, Nat.zero_ne_one, Int.cast_ofNat_Int, lc_lt, lc_ge, lc_gt, lc_le, lc_eq, lc_ne, w32i, w64i, tdv, tmd, ltT, ltF, leT, leF, eqT, eqF, dc_RowSearch_keepIfRipe, dc_RowSearch_tryAll]
      exact K
    · rw [if_neg u] at v
      have K := hq (ax_cp (ax_up g 97 5 (h 33 1 - rS h (dp + 1) (4 * p + c) 1)) 99 0 100 0 5) (i + 1) (h 33 1 - rS h (dp + 1) (4 * p + c) 1) (4 * p + c) (2, 103 + 2 * (dp : Int)) (by omega) (by omega) ⟨fun m j hm => by simp only [ax_cp, ax_up]; rw [if_neg (by omega), if_neg (by omega)], fun m hm => by simp only [ax_cp, ax_up]; rw [if_neg (by omega), if_neg (by omega)]⟩ (by simp only [ax_cp, ax_up, Int.reduceEq, false_and, if_false]; exact t) (by
        obtain ⟨⟨r1, r2⟩, r3, r4, r5, r6, r7⟩ := R
        refine ⟨⟨fun a j e => ?_, fun m hm j hj => ?_⟩, ?_, fun m hm => ?_, ?_, .inr fun m hm => ?_, opt_take r7 (by omega) v gn⟩
        · simp only [ax_cp, ax_up]; rw [if_neg (by omega), if_neg (by omega)]; exact r1 a j e
        · simp only [ax_cp, ax_up]; rw [if_neg (by omega), if_neg (by omega)]; exact r2 m hm j hj
        · rw [← r3]; funext j; simp only [ax_cp, ax_up]; rw [if_neg (by omega), if_neg (by omega)]
        · simp only [ax_cp, ax_up, Int.reduceEq, false_and, if_false]; exact r4 m hm
        · simp [ax_cp, ax_up]
        · simp only [ax_cp, ax_up, true_and, Int.reduceEq, false_and, if_false]
          rw [if_pos (by omega), show 0 + ((m : Int) - 0) = m by omega, hn]
          by_cases e : m = dp
          · subst e
            rw [t, show m + 1 - 1 - m = 0 by omega]
            show 3 * c = 3 * ((4 * p + c) / 1 % 4)
            omega
          · rw [r4 m (by omega), show dp + 1 - 1 - m = dp - m by omega, dig c0 c3 (by omega)])
      clear hq R q G row row' 
      obtain ⟨y11, y12, y13, y14⟩ := y1
      rw [show 103 + 2 * (dp : Int) + 1 = 104 + 2 * (dp : Int) by omega] at y12 y13 y14
      simp (disch := omega) only [ax_ev, ax_kk, ax_ps, ax_r_const, ax_r_lconst, ax_r_str, ax_r_iload, ax_r_lload, ax_r_aload, ax_r_istore, ax_r_astore, ax_r_lstore, ax_r_iinc, ax_r_iadd, ax_r_isub, ax_r_imul, ax_r_idiv, ax_r_irem, ax_r_iand, ax_r_ior, ax_r_ishl, ax_r_ishr, ax_r_iushr, ax_r_i2l, ax_r_l2i, ax_r_i2b, ax_r_ladd, ax_r_lsub, ax_r_lmul, ax_r_ldiv, ax_r_lrem, ax_r_land, ax_r_lor, ax_r_lcmp, ax_r_ifeq, ax_r_ifne, ax_r_iflt, ax_r_ifge, ax_r_ifgt, ax_r_ifle, ax_r_iceq, ax_r_icne, ax_r_iclt, ax_r_icge, ax_r_icgt, ax_r_icle, ax_r_goto, ax_r_tsw, ax_evt_c, ax_evt_n, ax_r_lsw, ax_evu_c, ax_evu_n, ax_r_getI, ax_r_getR, ax_r_putI, ax_r_putZ, ax_r_iald, ax_r_iast, ax_r_lald, ax_r_last, ax_r_bald, ax_r_aald, ax_r_alen, ax_r_bast, ax_r_min, ax_r_max, ax_r_minl, ax_r_maxl, ax_r_copy, ax_r_slen, ax_r_schr, ax_r_dup, ax_r_dup2, ax_r_pop, ax_r_ret, ax_r_lret, ax_r_vret, ax_r_zret, ax_r_aret, ax_r_call, ax_evo, ax_eva, ax_ar, ax_tk, ax_ex, ax_ld, ax_sto, ax_stl, ly_pm, ly_cd, ly_ln, ly_rf, Option.bind_some, Option.map_some, if_true, if_false, true_and, and_true, List.nil_append, List.cons_append, List.append_nil, List.length_nil, List.length_cons, List.headD_cons, true_or, or_true, false_or, or_false, ne_eq, not_false_eq_true, not_true_eq_false, false_and, and_false, List.set_cons_zero, List.set_cons_succ, Nat.reduceAdd, Nat.reduceSub, Nat.reduceMul, Nat.reduceLeDiff, Nat.reduceLT, Nat.reduceEqDiff, ↓reduceIte, Int.reduceNeg, Int.reduceAdd, Int.reduceSub, Int.reduceMul, Int.reduceEq, Int.reduceNe, Int.reduceLE, Int.reduceLT, Int.reduceToNat, Nat.one_ne_zero, Nat.zero_ne_one, Int.cast_ofNat_Int, lc_lt, lc_ge, lc_gt, lc_le, lc_eq, lc_ne, w32i, w64i, tdv, tmd, ltT, ltF, leT, leF, eqT, eqF, dc_RowSearch_keepIfRipe, dc_RowSearch_gone, dc_RowSearch_tryAll, e33, erow, y11, y12, y13, y14]
      exact K
  have y11 := y1.1
  clear hq R q G row row' y1 v
  simp (disch := omega) only [ax_ev, ax_kk, ax_ps, ax_r_const, ax_r_lconst, ax_r_str, ax_r_iload, ax_r_lload, ax_r_aload, ax_r_istore, ax_r_astore, ax_r_lstore, ax_r_iinc, ax_r_iadd, ax_r_isub, ax_r_imul, ax_r_idiv, ax_r_irem, ax_r_iand, ax_r_ior, ax_r_ishl, ax_r_ishr, ax_r_iushr, ax_r_i2l, ax_r_l2i, ax_r_i2b, ax_r_ladd, ax_r_lsub, ax_r_lmul, ax_r_ldiv, ax_r_lrem, ax_r_land, ax_r_lor, ax_r_lcmp, ax_r_ifeq, ax_r_ifne, ax_r_iflt, ax_r_ifge, ax_r_ifgt, ax_r_ifle, ax_r_iceq, ax_r_icne, ax_r_iclt, ax_r_icge, ax_r_icgt, ax_r_icle, ax_r_goto, ax_r_tsw, ax_evt_c, ax_evt_n, ax_r_lsw, ax_evu_c, ax_evu_n, ax_r_getI, ax_r_getR, ax_r_putI, ax_r_putZ, ax_r_iald, ax_r_iast, ax_r_lald, ax_r_last, ax_r_bald, ax_r_aald, ax_r_alen, ax_r_bast, ax_r_min, ax_r_max, ax_r_minl, ax_r_maxl, ax_r_copy, ax_r_slen, ax_r_schr, ax_r_dup, ax_r_dup2, ax_r_pop, ax_r_ret, ax_r_lret, ax_r_vret, ax_r_zret, ax_r_aret, ax_r_call, ax_evo, ax_eva, ax_ar, ax_tk, ax_ex, ax_ld, ax_sto, ax_stl, ly_pm, ly_cd, ly_ln, ly_rf, Option.bind_some, Option.map_some, if_true, if_false, true_and, and_true, List.nil_append, List.cons_append, List.append_nil, List.length_nil, List.length_cons, List.headD_cons, true_or, or_true, false_or, or_false, ne_eq, not_false_eq_true, not_true_eq_false, false_and, and_false, List.set_cons_zero, List.set_cons_succ, Nat.reduceAdd, Nat.reduceSub, Nat.reduceMul, Nat.reduceLeDiff, Nat.reduceLT, Nat.reduceEqDiff, ↓reduceIte, Int.reduceNeg, Int.reduceAdd, Int.reduceSub, Int.reduceMul, Int.reduceEq, Int.reduceNe, Int.reduceLE, Int.reduceLT, Int.reduceToNat, Nat.one_ne_zero, Nat.zero_ne_one, Int.cast_ofNat_Int, lc_lt, lc_ge, lc_gt, lc_le, lc_eq, lc_ne, w32i, w64i, tdv, tmd, ltT, ltF, leT, leF, eqT, eqF, dc_RowSearch_tryAll, dc_RowSearch_keepIfRipe, y11]
  exact KIND
def cst : Nat → Int
  | 0 => 5
  | k + 1 => 5 + 4 * cst k
theorem cst_p : ∀ k, 0 ≤ cst k
  | 0 => by unfold cst; omega
  | k + 1 => by have := cst_p k; unfold cst; omega
set_option maxRecDepth 100000 in
set_option maxHeartbeats 4000000 in
theorem w_node {h : Int → Int → Int} {W : (Int → Int) → Int} (q : qx h W) {ch : Int} (ch0 : 0 ≤ ch) (ch9 : ch < 9) {n : Nat} (n5 : n ≤ 5) {d : Nat} {Q : ax_V → ax_H → Prop} : ∀ (k dp : Nat) (p i l cc : Int) (g : Int → Int → Int) (l5 : ax_V), n = dp + 1 + k → 0 ≤ p → 0 ≤ i → i + cst k < 9999 → rk h (rv h ch n) n dp p g (p * p4 (k + 1)) l cc → g 99 dp = -3 →
    (∀ (g' : Int → Int → Int) (i' l' cc' : Int) (l5 : ax_V), i ≤ i' → i' ≤ i + cst k → fz dp g g' → rk h (rv h ch n) n dp p g' ((p + 1) * p4 (k + 1)) l' cc' → ax_Ev (d + 6) 41 13 [(2, 97), (0, n), (0, ch), (0, (dp : Int) - 1), (0, i'), l5] [] (L0, g') Q) →
    ax_Ev (d + 6) 41 13 [(2, 97), (0, n), (0, ch), (0, dp), (0, i), l5] [] (L0, g) Q
  | 0, dp, p, i, l, cc, g, l5, hn, p0, i0, ib, R, t, hq => by
    have e1 : p * p4 (0 + 1) = (4 * p + (4 - ((4 : Nat) : Int))) * p4 0 := by rw [p4_s]; unfold p4; omega
    have e2 : (p + 1) * p4 (0 + 1) = (4 * p + 4) * p4 0 := by rw [p4_s]; unfold p4; omega
    rw [e1] at R
    rw [e2] at hq
    have c0 : cst 0 = 5 := rfl
    rw [c0] at ib hq
    refine w_child q (k := 0) (s := 0) (by omega) n5 p0 (by omega) (w_sub0 q ch0 ch9 (by omega) n5 p0) 4 (by omega) i l cc g l5 i0 (by omega) R (by omega) ?_
    intro g' i' l' cc' l5 a b f R'
    exact hq g' i' l' cc' l5 a (by omega) f R'
  | k + 1, dp, p, i, l, cc, g, l5, hn, p0, i0, ib, R, t, hq => by
    have e1 : p * p4 (k + 1 + 1) = (4 * p + (4 - ((4 : Nat) : Int))) * p4 (k + 1) := by
      rw [p4_s (k + 1), Int.mul_left_comm, ← Int.mul_assoc]; congr 1; omega
    have e2 : (p + 1) * p4 (k + 1 + 1) = (4 * p + 4) * p4 (k + 1) := by
      rw [p4_s (k + 1), Int.mul_left_comm, ← Int.mul_assoc]; congr 1; omega
    rw [e1] at R
    rw [e2] at hq
    have c0 : cst (k + 1) = 5 + 4 * cst k := rfl
    have cp := cst_p k
    rw [c0] at ib hq
    have SUB : sub h ch n dp p (k + 1) (cst k) d Q := by
      intro c i l cc g c0 c3 i0 ib R t row gn hq
      have K := w_node q ch0 ch9 n5 (d := d) (Q := Q) k (dp + 1) (4 * p + c) (i + 1) l cc (ax_up g 99 ((dp : Int) + 1) (-3)) (2, 103 + 2 * (dp : Int)) (by omega) (by omega) (by omega) (by omega) (by
          obtain ⟨⟨r1, r2⟩, r3, r4, r5, r6, r7⟩ := R
          refine ⟨⟨fun a j e => ?_, fun m hm j hj => ?_⟩, ?_, fun m hm => ?_, ?_, ?_, r7⟩
          · simp only [ax_up]; rw [if_neg (by omega)]; exact r1 a j e
          · simp only [ax_up]; rw [if_neg (by omega)]; exact r2 m hm j hj
          · rw [← row, show 102 + 2 * (((dp + 1 : Nat)) : Int) = 104 + 2 * (dp : Int) by omega]; funext j; simp only [ax_up]; rw [if_neg (by omega)]
          · simp only [ax_up, true_and]; rw [if_neg (by omega), show dp + 1 - 1 - m = dp - m by omega]
            by_cases e : m = dp
            · subst e
              rw [t, show m - m = 0 by omega]
              show 3 * c = 3 * ((4 * p + c) / 1 % 4)
              omega
            · rw [r4 m (by omega), dig c0 c3 (by omega)]
          · simp only [ax_up]; rw [if_neg (by omega)]; exact r5
          · rcases r6 with e | e
            · exact .inl e
            · exact .inr fun m hm => by simp only [ax_up]; rw [if_neg (by omega)]; exact e m hm) (by rw [show (((dp + 1 : Nat)) : Int) = (dp : Int) + 1 by omega]; simp [ax_up]) (by
          intro g' i' l' cc' l5 a b f R'
          rw [show (((dp + 1 : Nat)) : Int) - 1 = dp by omega]
          refine hq g' i' l' cc' l5 (by omega) (by omega) ⟨fun m j hm => ?_, fun m hm => ?_⟩ ?_ ?_
          · rw [f.1 m j (by omega)]; simp only [ax_up]; rw [if_neg (by omega)]
          · rw [f.2 m (by omega)]; simp only [ax_up]; rw [if_neg (by omega)]
          · rw [f.2 dp (by omega)]; simp only [ax_up]; rw [if_neg (by omega)]; exact t
          · obtain ⟨r1, r3, r4, r5, r6, r7⟩ := R'
            refine ⟨r1, ?_, fun m hm => ?_, r5, r6, r7⟩
            · rw [← R.2.1]; funext j; rw [f.1 dp j (by omega)]; simp only [ax_up]; rw [if_neg (by omega)]
            · rw [r4 m (by omega), show dp + 1 - 1 - m = dp - m by omega, dig c0 c3 hm])
      have e : (((dp + 1 : Nat)) : Int) = (dp : Int) + 1 := by omega
      rw [e] at K
      clear hq R q row gn t w_node
      simp (disch := omega) only [ax_ev, ax_kk, ax_ps, ax_r_const, ax_r_lconst, ax_r_str, ax_r_iload, ax_r_lload, ax_r_aload, ax_r_istore, ax_r_astore, ax_r_lstore, ax_r_iinc, ax_r_iadd, ax_r_isub, ax_r_imul, ax_r_idiv, ax_r_irem, ax_r_iand, ax_r_ior, ax_r_ishl, ax_r_ishr, ax_r_iushr, ax_r_i2l, ax_r_l2i, ax_r_i2b, ax_r_ladd, ax_r_lsub, ax_r_lmul, ax_r_ldiv, ax_r_lrem, ax_r_land, ax_r_lor, ax_r_lcmp, ax_r_ifeq, ax_r_ifne, ax_r_iflt, ax_r_ifge, ax_r_ifgt, ax_r_ifle, ax_r_iceq, ax_r_icne, ax_r_iclt, ax_r_icge, ax_r_icgt, ax_r_icle, ax_r_goto, ax_r_tsw, ax_evt_c, ax_evt_n, ax_r_lsw, ax_evu_c, ax_evu_n, ax_r_getI, ax_r_getR, ax_r_putI, ax_r_putZ, ax_r_iald, ax_r_iast, ax_r_lald, ax_r_last, ax_r_bald, ax_r_aald, ax_r_alen, ax_r_bast, ax_r_min, ax_r_max, ax_r_minl, ax_r_maxl, ax_r_copy, ax_r_slen, ax_r_schr, ax_r_dup, ax_r_dup2, ax_r_pop, ax_r_ret, ax_r_lret, ax_r_vret, ax_r_zret, ax_r_aret, ax_r_call, ax_evo, ax_eva, ax_ar, ax_tk, ax_ex, ax_ld, ax_sto, ax_stl, ly_pm, ly_cd, ly_ln, ly_rf, Option.bind_some, Option.map_some, if_true, if_false, true_and, and_true, List.nil_append, List.cons_append, List.append_nil, List.length_nil, List.length_cons, List.headD_cons, true_or, or_true, false_or, or_false, ne_eq, not_false_eq_true, not_true_eq_false, false_and, and_false, List.set_cons_zero, List.set_cons_succ, Nat.reduceAdd, Nat.reduceSub, Nat.reduceMul, Nat.reduceLeDiff, Nat.reduceLT, Nat.reduceEqDiff, ↓reduceIte, Int.reduceNeg, Int.reduceAdd, Int.reduceSub, Int.reduceMul, Int.reduceEq, Int.reduceNe, Int.reduceLE, Int.reduceLT, Int.reduceToNat, Nat.one_ne_zero, Nat.zero_ne_one, Int.cast_ofNat_Int, lc_lt, lc_ge, lc_gt, lc_le, lc_eq, lc_ne, w32i, w64i, tdv, tmd, ltT, ltF, leT, leF, eqT, eqF, dc_RowSearch_tryAll]
      exact K
    refine w_child q (k := k + 1) (s := cst k) (by omega) n5 p0 cp SUB 4 (by omega) i l cc g l5 i0 (by omega) R (by omega) ?_
    intro g' i' l' cc' l5 a b f R'
    exact hq g' i' l' cc' l5 a (by omega) f R'
set_option maxRecDepth 100000 in
set_option maxHeartbeats 4000000 in
theorem w_answer {h : Int → Int → Int} {W : (Int → Int) → Int} (q : qx h W) {ch what : Int} (ch0 : 0 ≤ ch) (ch9 : ch < 9) {n : Nat} (n1 : 1 ≤ n) (n5 : n ≤ 5) (w0 : 0 ≤ what) (w5 : what ≤ 5) {d : Nat} {Q : ax_V → ax_H → Prop}
    (hq : ∀ g l cc, fr h g → opt (rv h ch n) (p4 n) l cc → Q (0, if l = 1000 then -2 else if what = 0 then l else if what ≤ n then 3 * ((cc / p4 (n - what.toNat)) % 4) else -1) (L0, g)) : ax_Ev (d + 7) 40 0 [(2, 97), (0, ch), (0, n), (0, what)] [] (L0, h) Q := by
  have e0 : ∀ j, ax_up h 97 5 1000 33 j = h 33 j := fun j => by simp only [ax_up]; rw [if_neg (by omega)]
  obtain ⟨G, hG⟩ : ∃ G, G = ax_up (ax_cp (ax_up h 97 5 1000) 33 0 102 0 47) 99 0 (-3) := ⟨_, rfl⟩
  have cn : cst (n - 1) ≤ 5000 := by
    rcases (by omega : n = 1 ∨ n = 2 ∨ n = 3 ∨ n = 4 ∨ n = 5) with e | e | e | e | e <;> subst e <;> simp [cst]
  have K := w_node (d := d) (Q := ax_k (d + 7) 40 29 [(2, 97), (0, ch), (0, n), (0, what)] [] Q) q ch0 ch9 n5 (n - 1) 0 0 0 1000 0 G (9, 0) (by omega) (by omega) (by omega) (by omega) (by
      refine ⟨⟨fun a j e => ?_, fun m hm j hj => ?_⟩, ?_, fun m hm => by omega, ?_, .inl rfl, ⟨by omega, fun x a b => by omega, .inl rfl⟩⟩
      · rw [hG]; simp only [ax_up, ax_cp]; rw [if_neg (by omega), if_neg (by omega), if_neg (by omega)]
      · rw [hG]; simp only [ax_up, ax_cp]; rw [if_neg (by omega), if_neg (by omega), if_neg (by omega)]
      · rw [hG]; funext j
        show _ = mix (h 33) (h 102) j
        simp only [ax_up, ax_cp]
        by_cases e : 0 ≤ j ∧ j < 47
        · rw [if_neg (by omega), if_pos (by omega), if_neg (by omega), mix_in e.1 e.2]; congr 1; omega
        · rw [if_neg (by omega), if_neg (by omega), if_neg (by omega), mix_out (by omega)]; rfl
      · rw [hG]; simp [ax_up, ax_cp]) (by rw [hG]; simp [ax_up]) (by
      intro g' i' l' cc' l5 a b f R
      have o := R.2.2.2.2.2
      rw [show ((0 : Int) + 1) * p4 (n - 1 + 1) = p4 n by rw [show n - 1 + 1 = n by omega]; omega] at o
      have V := hq g' l' cc' R.1.1 o
      have e5 := R.2.2.2.1
      have r6 := R.2.2.2.2.1
      have lb := o.1
      clear hq R o q f hG
      rw [ax_ev, dh_RowSearch_tryAll_13]
      by_cases z : l' = 1000
      · rw [if_pos z] at V
        simp (disch := omega) only [ax_ev, ax_kk, ax_ps, ax_r_const, ax_r_lconst, ax_r_str, ax_r_iload, ax_r_lload, ax_r_aload, ax_r_istore, ax_r_astore, ax_r_lstore, ax_r_iinc, ax_r_iadd, ax_r_isub, ax_r_imul, ax_r_idiv, ax_r_irem, ax_r_iand, ax_r_ior, ax_r_ishl, ax_r_ishr, ax_r_iushr, ax_r_i2l, ax_r_l2i, ax_r_i2b, ax_r_ladd, ax_r_lsub, ax_r_lmul, ax_r_ldiv, ax_r_lrem, ax_r_land, ax_r_lor, ax_r_lcmp, ax_r_ifeq, ax_r_ifne, ax_r_iflt, ax_r_ifge, ax_r_ifgt, ax_r_ifle, ax_r_iceq, ax_r_icne, ax_r_iclt, ax_r_icge, ax_r_icgt, ax_r_icle, ax_r_goto, ax_r_tsw, ax_evt_c, ax_evt_n, ax_r_lsw, ax_evu_c, ax_evu_n, ax_r_getI, ax_r_getR, ax_r_putI, ax_r_putZ, ax_r_iald, ax_r_iast, ax_r_lald, ax_r_last, ax_r_bald, ax_r_aald, ax_r_alen, ax_r_bast, ax_r_min, ax_r_max, ax_r_minl, ax_r_maxl, ax_r_copy, ax_r_slen, ax_r_schr, ax_r_dup, ax_r_dup2, ax_r_pop, ax_r_ret, ax_r_lret, ax_r_vret, ax_r_zret, ax_r_aret, ax_r_call, ax_evo, ax_eva, ax_ar, ax_tk, ax_ex, ax_ld, ax_sto, ax_stl, ly_pm, ly_cd, ly_ln, ly_rf, Option.bind_some, Option.map_some, if_true, if_false, true_and, and_true, List.nil_append, List.cons_append, List.append_nil, List.length_nil, List.length_cons, List.headD_cons, true_or, or_true, false_or, or_false, ne_eq, not_false_eq_true, not_true_eq_false, false_and, and_false, List.set_cons_zero, List.set_cons_succ, Nat.reduceAdd, Nat.reduceSub, Nat.reduceMul, Nat.reduceLeDiff, Nat.reduceLT, Nat.reduceEqDiff, ↓reduceIte, Int.reduceNeg, Int.reduceAdd, Int.reduceSub, Int.reduceMul, Int.reduceEq, Int.reduceNe, Int.reduceLE, Int.reduceLT, Int.reduceToNat, Nat.one_ne_zero, Nat.zero_ne_one, Int.cast_ofNat_Int, lc_lt, lc_ge, lc_gt, lc_le, lc_eq, lc_ne, w32i, w64i, tdv, tmd, ltT, ltF, leT, leF, eqT, eqF, dc_RowSearch_tryAll, dc_RowSearch_answer, e5]
        exact V
      · rw [if_neg z] at V
        have r6 := r6.resolve_left z
        by_cases z0 : what = 0
        · rw [if_pos z0] at V
          clear r6
          simp (disch := omega) only [ax_ev, ax_kk, ax_ps, ax_r_const, ax_r_lconst, ax_r_str, ax_r_iload, ax_r_lload, ax_r_aload, ax_r_istore, ax_r_astore, ax_r_lstore, ax_r_iinc, ax_r_iadd, ax_r_isub, ax_r_imul, ax_r_idiv, ax_r_irem, ax_r_iand, ax_r_ior, ax_r_ishl, ax_r_ishr, ax_r_iushr, ax_r_i2l, ax_r_l2i, ax_r_i2b, ax_r_ladd, ax_r_lsub, ax_r_lmul, ax_r_ldiv, ax_r_lrem, ax_r_land, ax_r_lor, ax_r_lcmp, ax_r_ifeq, ax_r_ifne, ax_r_iflt, ax_r_ifge, ax_r_ifgt, ax_r_ifle, ax_r_iceq, ax_r_icne, ax_r_iclt, ax_r_icge, ax_r_icgt, ax_r_icle, ax_r_goto, ax_r_tsw, ax_evt_c, ax_evt_n, ax_r_lsw, ax_evu_c, ax_evu_n, ax_r_getI, ax_r_getR, ax_r_putI, ax_r_putZ, ax_r_iald, ax_r_iast, ax_r_lald, ax_r_last, ax_r_bald, ax_r_aald, ax_r_alen, ax_r_bast, ax_r_min, ax_r_max, ax_r_minl, ax_r_maxl, ax_r_copy, ax_r_slen, ax_r_schr, ax_r_dup, ax_r_dup2, ax_r_pop, ax_r_ret, ax_r_lret, ax_r_vret, ax_r_zret, ax_r_aret, ax_r_call, ax_evo, ax_eva, ax_ar, ax_tk, ax_ex, ax_ld, ax_sto, ax_stl, ly_pm, ly_cd, ly_ln, ly_rf, Option.bind_some, Option.map_some, if_true, if_false, true_and, and_true, List.nil_append, List.cons_append, List.append_nil, List.length_nil, List.length_cons, List.headD_cons, true_or, or_true, false_or, or_false, ne_eq, not_false_eq_true, not_true_eq_false, false_and, and_false, List.set_cons_zero, List.set_cons_succ, Nat.reduceAdd, Nat.reduceSub, Nat.reduceMul, Nat.reduceLeDiff, Nat.reduceLT, Nat.reduceEqDiff, ↓reduceIte, Int.reduceNeg, Int.reduceAdd, Int.reduceSub, Int.reduceMul, Int.reduceEq, Int.reduceNe, Int.reduceLE, Int.reduceLT, Int.reduceToNat, Nat.one_ne_zero, Nat.zero_ne_one, Int.cast_ofNat_Int, lc_lt, lc_ge, lc_gt, lc_le, lc_eq, lc_ne, w32i, w64i, tdv, tmd, ltT, ltF, leT, leF, eqT, eqF, dc_RowSearch_tryAll, dc_RowSearch_answer, e5]
          exact V
        · rw [if_neg z0] at V
          by_cases z1 : what ≤ n
          · rw [if_pos z1] at V
            have r := r6 (what.toNat - 1) (by omega)
            rw [show ((what.toNat - 1 : Nat) : Int) = what - 1 by omega, show n - 1 - (what.toNat - 1) = n - what.toNat by omega] at r
            clear r6
            simp (disch := omega) only [ax_ev, ax_kk, ax_ps, ax_r_const, ax_r_lconst, ax_r_str, ax_r_iload, ax_r_lload, ax_r_aload, ax_r_istore, ax_r_astore, ax_r_lstore, ax_r_iinc, ax_r_iadd, ax_r_isub, ax_r_imul, ax_r_idiv, ax_r_irem, ax_r_iand, ax_r_ior, ax_r_ishl, ax_r_ishr, ax_r_iushr, ax_r_i2l, ax_r_l2i, ax_r_i2b, ax_r_ladd, ax_r_lsub, ax_r_lmul, ax_r_ldiv, ax_r_lrem, ax_r_land, ax_r_lor, ax_r_lcmp, ax_r_ifeq, ax_r_ifne, ax_r_iflt, ax_r_ifge, ax_r_ifgt, ax_r_ifle, ax_r_iceq, ax_r_icne, ax_r_iclt, ax_r_icge, ax_r_icgt, ax_r_icle, ax_r_goto, ax_r_tsw, ax_evt_c, ax_evt_n, ax_r_lsw, ax_evu_c, ax_evu_n, ax_r_getI, ax_r_getR, ax_r_putI, ax_r_putZ, ax_r_iald, ax_r_iast, ax_r_lald, ax_r_last, ax_r_bald, ax_r_aald, ax_r_alen, ax_r_bast, ax_r_min, ax_r_max, ax_r_minl, ax_r_maxl, ax_r_copy, ax_r_slen, ax_r_schr, ax_r_dup, ax_r_dup2, ax_r_pop, ax_r_ret, ax_r_lret, ax_r_vret, ax_r_zret, ax_r_aret, ax_r_call, ax_evo, ax_eva, ax_ar, ax_tk, ax_ex, ax_ld, ax_sto, ax_stl, ly_pm, ly_cd, ly_ln, ly_rf, Option.bind_some, Option.map_some, if_true, if_false, true_and, and_true, List.nil_append, List.cons_append, List.append_nil, List.length_nil, List.length_cons, List.headD_cons, true_or, or_true, false_or, or_false, ne_eq, not_false_eq_true, not_true_eq_false, false_and, and_false, List.set_cons_zero, List.set_cons_succ, Nat.reduceAdd, Nat.reduceSub, Nat.reduceMul, Nat.reduceLeDiff, Nat.reduceLT, Nat.reduceEqDiff, ↓reduceIte, Int.reduceNeg, Int.reduceAdd, Int.reduceSub, Int.reduceMul, Int.reduceEq, Int.reduceNe, Int.reduceLE, Int.reduceLT, Int.reduceToNat, Nat.one_ne_zero, Nat.zero_ne_one, Int.cast_ofNat_Int, lc_lt, lc_ge, lc_gt, lc_le, lc_eq, lc_ne, w32i, w64i, tdv, tmd, ltT, ltF, leT, leF, eqT, eqF, dc_RowSearch_tryAll, dc_RowSearch_answer, e5, r]
            exact V
          · rw [if_neg z1] at V
            clear r6
            simp (disch := omega) only [ax_ev, ax_kk, ax_ps, ax_r_const, ax_r_lconst, ax_r_str, ax_r_iload, ax_r_lload, ax_r_aload, ax_r_istore, ax_r_astore, ax_r_lstore, ax_r_iinc, ax_r_iadd, ax_r_isub, ax_r_imul, ax_r_idiv, ax_r_irem, ax_r_iand, ax_r_ior, ax_r_ishl, ax_r_ishr, ax_r_iushr, ax_r_i2l, ax_r_l2i, ax_r_i2b, ax_r_ladd, ax_r_lsub, ax_r_lmul, ax_r_ldiv, ax_r_lrem, ax_r_land, ax_r_lor, ax_r_lcmp, ax_r_ifeq, ax_r_ifne, ax_r_iflt, ax_r_ifge, ax_r_ifgt, ax_r_ifle, ax_r_iceq, ax_r_icne, ax_r_iclt, ax_r_icge, ax_r_icgt, ax_r_icle, ax_r_goto, ax_r_tsw, ax_evt_c, ax_evt_n, ax_r_lsw, ax_evu_c, ax_evu_n, ax_r_getI, ax_r_getR, ax_r_putI, ax_r_putZ, ax_r_iald, ax_r_iast, ax_r_lald, ax_r_last, ax_r_bald, ax_r_aald, ax_r_alen, ax_r_bast, ax_r_min, ax_r_max, ax_r_minl, ax_r_maxl, ax_r_copy, ax_r_slen, ax_r_schr, ax_r_dup, ax_r_dup2, ax_r_pop, ax_r_ret, ax_r_lret, ax_r_vret, ax_r_zret, ax_r_aret, ax_r_call, ax_evo, ax_eva, ax_ar, ax_tk, ax_ex, ax_ld, ax_sto, ax_stl, ly_pm, ly_cd, ly_ln, ly_rf, Option.bind_some, Option.map_some, if_true, if_false, true_and, and_true, List.nil_append, List.cons_append, List.append_nil, List.length_nil, List.length_cons, List.headD_cons, true_or, or_true, false_or, or_false, ne_eq, not_false_eq_true, not_true_eq_false, false_and, and_false, List.set_cons_zero, List.set_cons_succ, Nat.reduceAdd, Nat.reduceSub, Nat.reduceMul, Nat.reduceLeDiff, Nat.reduceLT, Nat.reduceEqDiff, ↓reduceIte, Int.reduceNeg, Int.reduceAdd, Int.reduceSub, Int.reduceMul, Int.reduceEq, Int.reduceNe, Int.reduceLE, Int.reduceLT, Int.reduceToNat, Nat.one_ne_zero, Nat.zero_ne_one, Int.cast_ofNat_Int, lc_lt, lc_ge, lc_gt, lc_le, lc_eq, lc_ne, w32i, w64i, tdv, tmd, ltT, ltF, leT, leF, eqT, eqF, dc_RowSearch_tryAll, dc_RowSearch_answer, e5]
            exact V)
  clear hq q cn
  rw [hG] at K
  simp (disch := omega) only [ax_ev, ax_kk, ax_ps, ax_r_const, ax_r_lconst, ax_r_str, ax_r_iload, ax_r_lload, ax_r_aload, ax_r_istore, ax_r_astore, ax_r_lstore, ax_r_iinc, ax_r_iadd, ax_r_isub, ax_r_imul, ax_r_idiv, ax_r_irem, ax_r_iand, ax_r_ior, ax_r_ishl, ax_r_ishr, ax_r_iushr, ax_r_i2l, ax_r_l2i, ax_r_i2b, ax_r_ladd, ax_r_lsub, ax_r_lmul, ax_r_ldiv, ax_r_lrem, ax_r_land, ax_r_lor, ax_r_lcmp, ax_r_ifeq, ax_r_ifne, ax_r_iflt, ax_r_ifge, ax_r_ifgt, ax_r_ifle, ax_r_iceq, ax_r_icne, ax_r_iclt, ax_r_icge, ax_r_icgt, ax_r_icle, ax_r_goto, ax_r_tsw, ax_evt_c, ax_evt_n, ax_r_lsw, ax_evu_c, ax_evu_n, ax_r_getI, ax_r_getR, ax_r_putI, ax_r_putZ, ax_r_iald, ax_r_iast, ax_r_lald, ax_r_last, ax_r_bald, ax_r_aald, ax_r_alen, ax_r_bast, ax_r_min, ax_r_max, ax_r_minl, ax_r_maxl, ax_r_copy, ax_r_slen, ax_r_schr, ax_r_dup, ax_r_dup2, ax_r_pop, ax_r_ret, ax_r_lret, ax_r_vret, ax_r_zret, ax_r_aret, ax_r_call, ax_evo, ax_eva, ax_ar, ax_tk, ax_ex, ax_ld, ax_sto, ax_stl, ly_pm, ly_cd, ly_ln, ly_rf, Option.bind_some, Option.map_some, if_true, if_false, true_and, and_true, List.nil_append, List.cons_append, List.append_nil, List.length_nil, List.length_cons, List.headD_cons, true_or, or_true, false_or, or_false, ne_eq, not_false_eq_true, not_true_eq_false, false_and, and_false, List.set_cons_zero, List.set_cons_succ, Nat.reduceAdd, Nat.reduceSub, Nat.reduceMul, Nat.reduceLeDiff, Nat.reduceLT, Nat.reduceEqDiff, ↓reduceIte, Int.reduceNeg, Int.reduceAdd, Int.reduceSub, Int.reduceMul, Int.reduceEq, Int.reduceNe, Int.reduceLE, Int.reduceLT, Int.reduceToNat, Nat.one_ne_zero, Nat.zero_ne_one, Int.cast_ofNat_Int, lc_lt, lc_ge, lc_gt, lc_le, lc_eq, lc_ne, w32i, w64i, tdv, tmd, ltT, ltF, leT, leF, eqT, eqF, dc_RowSearch_answer, dc_State_copyFrom, dc_RowSearch_tryAll]
  exact K
