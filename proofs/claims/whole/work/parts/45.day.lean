/-! a day, as a function of a moment -/
theorem lp {E : Int → Prop} {a n : Int} (hn : a ≤ n) (step : ∀ i, a ≤ i → i < n → E (i + 1) → E i) (last : E n) : E a := by
  have key : ∀ (m : Nat) (i : Int), a ≤ i → i + m = n → E i := by
    intro m
    induction m with
    | zero => intro i h1 h2; rw [show i = n by omega]; exact last
    | succ m ih => intro i h1 h2; exact step i h1 (by omega) (ih (i + 1) (by omega) (by omega))
  exact key (n - a).toNat a (Int.le_refl a) (by omega)
def dy_nx (n c : Int) : Int := if c + 1 < n then c + 1 else 0
/-- how warm a chamber is when fed -/
def dy_W (n fed : Int) (S : Int → Int) (c : Int) : Int := if S 10 = -1 then S (38 + c) else if c = S 10 then min 99 (S (38 + c) + 4 * fed) else if c = dy_nx n (S 10) then min 99 (S (38 + c) + 2 * fed) else if c = dy_nx n (dy_nx n (S 10)) then min 99 (S (38 + c) + fed) else S (38 + c)
def dy_wet (n fed : Int) (S : Int → Int) (c : Int) : Int := if S (11 + c) = -1 then S (20 + c) else if 0 < S (20 + c) then max 0 (S (20 + c) - dy_W n fed S c / 8) else S (20 + c)
def dy_bu (n fed : Int) (S : Int → Int) (c : Int) : Int := if S (11 + c) = -1 then S (29 + c) else if 0 < S (20 + c) then S (29 + c) else min 200 (S (29 + c) + dy_W n fed S c / 8)
def dy_wa (n fed : Int) (S : Int → Int) (c : Int) : Int := dy_W n fed S c - (dy_W n fed S c + 5) / 6
def dy_fi (n : Int) (nd : Int → Int) (fed : Int) (S : Int → Int) : Int := if S 10 = -1 then -1 else if dy_wa n fed S (S 10) < 5 then -1 else if dy_bu n fed S (S 10) < nd (S (11 + S 10)) then S 10 else if S (11 + dy_nx n (S 10)) = -1 then -1 else dy_nx n (S 10)
/-- c chambers of the day done -/
def dy_P (n fed : Int) (S : Int → Int) (c : Int) : Int → Int := fun j => if j = 1 then S 1 - fed else if 20 ≤ j ∧ j < 20 + c then dy_wet n fed S (j - 20) else if 29 ≤ j ∧ j < 29 + c then dy_bu n fed S (j - 29) else if 38 ≤ j ∧ j < 38 + c then dy_wa n fed S (j - 38) else if 38 ≤ j ∧ j < 38 + n then dy_W n fed S (j - 38) else S j
def dyF (n : Int) (nd : Int → Int) (fed : Int) (S : Int → Int) : Int → Int := fun j => if j = 0 then S 0 + 1 else if j = 10 then dy_fi n nd fed S else dy_P n fed S n j
def dy_fed (S : Int → Int) (w : Int) : Int := if S 10 = -1 then 0 else if S 1 < w then S 1 else w
/-- a State and a Told of the layout -/
def isSt (o : Int) : Prop := ax_cd L0 o = 7 ∧ ax_rf L0 o 0 = o + 1 ∧ ax_cd L0 (o + 1) = 100 ∧ ax_ln L0 (o + 1) = 47
def isTd (t : Int) : Prop := ax_cd L0 t = 9 ∧ (ax_rf L0 t 5 = t + 1 ∧ ax_rf L0 t 6 = t + 2 ∧ ax_rf L0 t 7 = t + 3 ∧ ax_rf L0 t 8 = t + 4 ∧ ax_rf L0 t 9 = t + 5 ∧ ax_rf L0 t 10 = t + 6) ∧ (ax_cd L0 (t + 1) = 100 ∧ ax_cd L0 (t + 2) = 100 ∧ ax_cd L0 (t + 3) = 100 ∧ ax_cd L0 (t + 4) = 100 ∧ ax_cd L0 (t + 5) = 100 ∧ ax_cd L0 (t + 6) = 100) ∧ ax_ln L0 (t + 1) = 3 ∧ ax_ln L0 (t + 2) = 3 ∧ ax_ln L0 (t + 3) = 9 ∧ ax_ln L0 (t + 4) = 4 ∧ ax_ln L0 (t + 5) = 4 ∧ ax_ln L0 (t + 6) = 4
theorem dy_W_r {n cy fed : Int} {S : Int → Int} (hn : 3 ≤ n ∧ n ≤ 9) (hg : iv_gd n cy S) (hf : 0 ≤ fed) {c : Int} (c0 : 0 ≤ c) (c1 : c < n) : 0 ≤ dy_W n fed S c ∧ dy_W n fed S c ≤ 99 := by
  obtain ⟨-, -, -, -, -, -, g7, g8⟩ := hg
  have := (g8 c c0 (by omega)).2.2.2.1
  unfold dy_W
  repeat' split
  all_goals omega
set_option maxRecDepth 100000 in
set_option maxHeartbeats 4000000 in
theorem ps_with {o t : Int} (so : isSt o) (st : isTd t) (ho : 23 < o) (hd : t + 6 < o + 1 ∨ o + 1 < t) {h : Int → Int → Int} {w cy : Int} {d : Nat} {Q : ax_V → ax_H → Prop} (hn : 3 ≤ h t 0 ∧ h t 0 ≤ 9) (hg : iv_gd (h t 0) cy (h (o + 1))) (hg9 : h (o + 1) 0 < 100000) (hcy : cy ≤ 3) (hnd : ∀ y, 0 ≤ y → y < cy → 0 ≤ h (t + 2) y ∧ h (t + 2) y ≤ 100000) (hw : 0 ≤ w ∧ w ≤ 9)
    (hq : Q (0, dy_fed (h (o + 1)) w) (L0, ax_rw h (o + 1) (dyF (h t 0) (h (t + 2)) (dy_fed (h (o + 1)) w) (h (o + 1))))) : ax_Ev (d + 4) 4 0 [(2, 22), (2, o), (2, t), (0, w), (9, 0), (9, 0), (9, 0), (9, 0)] [] (L0, h) Q := by
  obtain ⟨s1, s2, s3, s4⟩ := so
  obtain ⟨t1, ⟨-, t2, -⟩, ⟨-, t3, -⟩, -, t4, -⟩ := st
  generalize hS : h (o + 1) = S at *
  generalize hN : h t 0 = n at *
  have hfed : 0 ≤ dy_fed S w ∧ dy_fed S w ≤ 9 ∧ dy_fed S w ≤ S 1 := by
    obtain ⟨-, g2, -⟩ := hg
    unfold dy_fed; repeat' split
    all_goals omega
  have hfW := fun c (c0 : 0 ≤ c) (c1 : c < n) => dy_W_r hn hg hfed.1 c0 c1
  have ha : (o + 1 = t) = False := eq_false (by omega)
  have ha2 : (t = o + 1) = False := eq_false (by omega)
  have ha3 : (t + 2 = o + 1) = False := eq_false (by omega)
  have hac : (o = o + 1) = False := eq_false (by omega)
  obtain ⟨g1, g2, g3, g4, g5, g6, g7, g8⟩ := hg
  have loop : ax_Ev (d + 4) 4 90 [(2, 22), (2, o), (2, t), (0, w), (2, o + 1), (0, S 10), (0, dy_fed S w), (0, 0)] [] (L0, ax_rw h (o + 1) (dy_P n (dy_fed S w) S 0)) Q := by
    generalize dy_fed S w = fed at *
    refine lp (E := fun c => ax_Ev (d + 4) 4 90 [(2, 22), (2, o), (2, t), (0, w), (2, o + 1), (0, S 10), (0, fed), (0, c)] [] (L0, ax_rw h (o + 1) (dy_P n fed S c)) Q) (a := 0) (n := n) (by omega) ?_ ?_
    · intro c c0 c1 ih
      have p1 : dy_P n fed S c (11 + c) = S (11 + c) := by grind [dy_P]
      have p2 : dy_P n fed S c (38 + c) = dy_W n fed S c := by grind [dy_P]
      have p3 : dy_P n fed S c (20 + c) = S (20 + c) := by grind [dy_P]
      have p4 : dy_P n fed S c (29 + c) = S (29 + c) := by grind [dy_P]
      have w1 := hfW c c0 c1
      have q8 := g8 c c0 (by omega)
      clear g8 g7 hfW g6 hnd
      rcases (by omega : S (11 + c) = -1 ∨ (S (11 + c) ≠ -1 ∧ 0 < S (20 + c)) ∨ (S (11 + c) ≠ -1 ∧ S (20 + c) = 0)) with e | e | e
      all_goals clear g1 g2 g3 g4 g5 hg9 hq hfed hcy hw ha ha2 ha3 hac
      all_goals
        have E : ∀ F : Int → Int, (∀ j, F j = dy_P n fed S (c + 1) j) → ax_Ev (d + 4) 4 90 [(2, 22), (2, o), (2, t), (0, w), (2, o + 1), (0, S 10), (0, fed), (0, c + 1)] [] (L0, ax_rw h (o + 1) F) Q := by
          intro F hF; rw [funext hF]; exact ih
        clear ih
      · rw [ax_ev, dh_Course_passWith_90]
        simp (disch := omega) only [ax_ev, ax_kk, ax_ps, ax_r_const, ax_r_lconst, ax_r_str, ax_r_iload, ax_r_lload, ax_r_aload, ax_r_istore, ax_r_astore, ax_r_lstore, ax_r_iinc, ax_r_iadd, ax_r_isub, ax_r_imul, ax_r_idiv, ax_r_irem, ax_r_iand, ax_r_ior, ax_r_ishl, ax_r_ishr, ax_r_iushr, ax_r_i2l, ax_r_l2i, ax_r_i2b, ax_r_ladd, ax_r_lsub, ax_r_lmul, ax_r_ldiv, ax_r_lrem, ax_r_land, ax_r_lor, ax_r_lcmp, ax_r_ifeq, ax_r_ifne, ax_r_iflt, ax_r_ifge, ax_r_ifgt, ax_r_ifle, ax_r_iceq, ax_r_icne, ax_r_iclt, ax_r_icge, ax_r_icgt, ax_r_icle, ax_r_goto, ax_r_tsw, ax_evt_c, ax_evt_n, ax_r_lsw, ax_evu_c, ax_evu_n, ax_r_getI, ax_r_getR, ax_r_putI, ax_r_putZ, ax_r_iald, ax_r_iast, ax_r_lald, ax_r_last, ax_r_bald, ax_r_aald, ax_r_alen, ax_r_bast, ax_r_min, ax_r_max, ax_r_minl, ax_r_maxl, ax_r_copy, ax_r_slen, ax_r_schr, ax_r_dup, ax_r_dup2, ax_r_pop, ax_r_ret, ax_r_lret, ax_r_vret, ax_r_zret, ax_r_aret, ax_r_call, ax_evo, ax_eva, ax_ar, ax_tk, ax_ex, ax_ld, ax_sto, ax_stl, ly_pm, ly_cd, ly_ln, ly_rf, Option.bind_some, Option.map_some, if_true, if_false, true_and, and_true, List.nil_append, List.cons_append, List.append_nil, List.length_nil, List.length_cons, List.headD_cons, true_or, or_true, false_or, or_false, ne_eq, not_false_eq_true, not_true_eq_false, false_and, and_false, List.set_cons_zero, List.set_cons_succ, Nat.reduceAdd, Nat.reduceSub, Nat.reduceMul, Nat.reduceLeDiff, Nat.reduceLT, Nat.reduceEqDiff, ↓reduceIte, Int.reduceNeg, Int.reduceAdd, Int.reduceSub, Int.reduceMul, Int.reduceEq, Int.reduceNe, Int.reduceLE, Int.reduceLT, Int.reduceToNat, Nat.one_ne_zero, Nat.zero_ne_one, Int.cast_ofNat_Int, lc_lt, lc_ge, lc_gt, lc_le, lc_eq, lc_ne, w32i, w64i, tdv, tmd, ltT, ltF, leT, leF, eqT, eqF, dc_Course_passWith, dc_Course_dryOrBurn, s1, s2, s3, s4, t1, t2, t3, t4, rwrd, rwno, hN, p1, p2, p3, p4, e, rwup]
        refine E _ fun j => ?_
        clear p1 p2 p3 p4 E; grind [dy_P, dy_wet, dy_bu, dy_wa]
      · rw [ax_ev, dh_Course_passWith_90]
        simp (disch := omega) only [ax_ev, ax_kk, ax_ps, ax_r_const, ax_r_lconst, ax_r_str, ax_r_iload, ax_r_lload, ax_r_aload, ax_r_istore, ax_r_astore, ax_r_lstore, ax_r_iinc, ax_r_iadd, ax_r_isub, ax_r_imul, ax_r_idiv, ax_r_irem, ax_r_iand, ax_r_ior, ax_r_ishl, ax_r_ishr, ax_r_iushr, ax_r_i2l, ax_r_l2i, ax_r_i2b, ax_r_ladd, ax_r_lsub, ax_r_lmul, ax_r_ldiv, ax_r_lrem, ax_r_land, ax_r_lor, ax_r_lcmp, ax_r_ifeq, ax_r_ifne, ax_r_iflt, ax_r_ifge, ax_r_ifgt, ax_r_ifle, ax_r_iceq, ax_r_icne, ax_r_iclt, ax_r_icge, ax_r_icgt, ax_r_icle, ax_r_goto, ax_r_tsw, ax_evt_c, ax_evt_n, ax_r_lsw, ax_evu_c, ax_evu_n, ax_r_getI, ax_r_getR, ax_r_putI, ax_r_putZ, ax_r_iald, ax_r_iast, ax_r_lald, ax_r_last, ax_r_bald, ax_r_aald, ax_r_alen, ax_r_bast, ax_r_min, ax_r_max, ax_r_minl, ax_r_maxl, ax_r_copy, ax_r_slen, ax_r_schr, ax_r_dup, ax_r_dup2, ax_r_pop, ax_r_ret, ax_r_lret, ax_r_vret, ax_r_zret, ax_r_aret, ax_r_call, ax_evo, ax_eva, ax_ar, ax_tk, ax_ex, ax_ld, ax_sto, ax_stl, ly_pm, ly_cd, ly_ln, ly_rf, Option.bind_some, Option.map_some, if_true, if_false, true_and, and_true, List.nil_append, List.cons_append, List.append_nil, List.length_nil, List.length_cons, List.headD_cons, true_or, or_true, false_or, or_false, ne_eq, not_false_eq_true, not_true_eq_false, false_and, and_false, List.set_cons_zero, List.set_cons_succ, Nat.reduceAdd, Nat.reduceSub, Nat.reduceMul, Nat.reduceLeDiff, Nat.reduceLT, Nat.reduceEqDiff, ↓reduceIte, Int.reduceNeg, Int.reduceAdd, Int.reduceSub, Int.reduceMul, Int.reduceEq, Int.reduceNe, Int.reduceLE, Int.reduceLT, Int.reduceToNat, Nat.one_ne_zero, Nat.zero_ne_one, Int.cast_ofNat_Int, lc_lt, lc_ge, lc_gt, lc_le, lc_eq, lc_ne, w32i, w64i, tdv, tmd, ltT, ltF, leT, leF, eqT, eqF, dc_Course_passWith, dc_Course_dryOrBurn, s1, s2, s3, s4, t1, t2, t3, t4, rwrd, rwno, hN, p1, p2, p3, p4, e.1, rwup]
        refine E _ fun j => ?_
        clear p1 p2 p3 p4 E; grind [dy_P, dy_wet, dy_bu, dy_wa]
      · rw [ax_ev, dh_Course_passWith_90]
        simp (disch := omega) only [ax_ev, ax_kk, ax_ps, ax_r_const, ax_r_lconst, ax_r_str, ax_r_iload, ax_r_lload, ax_r_aload, ax_r_istore, ax_r_astore, ax_r_lstore, ax_r_iinc, ax_r_iadd, ax_r_isub, ax_r_imul, ax_r_idiv, ax_r_irem, ax_r_iand, ax_r_ior, ax_r_ishl, ax_r_ishr, ax_r_iushr, ax_r_i2l, ax_r_l2i, ax_r_i2b, ax_r_ladd, ax_r_lsub, ax_r_lmul, ax_r_ldiv, ax_r_lrem, ax_r_land, ax_r_lor, ax_r_lcmp, ax_r_ifeq, ax_r_ifne, ax_r_iflt, ax_r_ifge, ax_r_ifgt, ax_r_ifle, ax_r_iceq, ax_r_icne, ax_r_iclt, ax_r_icge, ax_r_icgt, ax_r_icle, ax_r_goto, ax_r_tsw, ax_evt_c, ax_evt_n, ax_r_lsw, ax_evu_c, ax_evu_n, ax_r_getI, ax_r_getR, ax_r_putI, ax_r_putZ, ax_r_iald, ax_r_iast, ax_r_lald, ax_r_last, ax_r_bald, ax_r_aald, ax_r_alen, ax_r_bast, ax_r_min, ax_r_max, ax_r_minl, ax_r_maxl, ax_r_copy, ax_r_slen, ax_r_schr, ax_r_dup, ax_r_dup2, ax_r_pop, ax_r_ret, ax_r_lret, ax_r_vret, ax_r_zret, ax_r_aret, ax_r_call, ax_evo, ax_eva, ax_ar, ax_tk, ax_ex, ax_ld, ax_sto, ax_stl, ly_pm, ly_cd, ly_ln, ly_rf, Option.bind_some, Option.map_some, if_true, if_false, true_and, and_true, List.nil_append, List.cons_append, List.append_nil, List.length_nil, List.length_cons, List.headD_cons, true_or, or_true, false_or, or_false, ne_eq, not_false_eq_true, not_true_eq_false, false_and, and_false, List.set_cons_zero, List.set_cons_succ, Nat.reduceAdd, Nat.reduceSub, Nat.reduceMul, Nat.reduceLeDiff, Nat.reduceLT, Nat.reduceEqDiff, ↓reduceIte, Int.reduceNeg, Int.reduceAdd, Int.reduceSub, Int.reduceMul, Int.reduceEq, Int.reduceNe, Int.reduceLE, Int.reduceLT, Int.reduceToNat, Nat.one_ne_zero, Nat.zero_ne_one, Int.cast_ofNat_Int, lc_lt, lc_ge, lc_gt, lc_le, lc_eq, lc_ne, w32i, w64i, tdv, tmd, ltT, ltF, leT, leF, eqT, eqF, dc_Course_passWith, dc_Course_dryOrBurn, s1, s2, s3, s4, t1, t2, t3, t4, rwrd, rwno, hN, p1, p2, p3, p4, e.1, rwup]
        refine E _ fun j => ?_
        clear p1 p2 p3 p4 E; grind [dy_P, dy_wet, dy_bu, dy_wa]
    · have E : ∀ F : Int → Int, (∀ j, F j = dyF n (h (t + 2)) fed S j) → Q (0, fed) (L0, ax_rw h (o + 1) F) := by
        intro F hF; rw [funext hF]; exact hq
      have p0 : dy_P n fed S n 0 = S 0 := by grind [dy_P]
      by_cases e : S 10 = -1
      · clear hq g6 g8 hnd hfW
        rw [ax_ev, dh_Course_passWith_90]
        simp (disch := omega) only [ax_ev, ax_kk, ax_ps, ax_r_const, ax_r_lconst, ax_r_str, ax_r_iload, ax_r_lload, ax_r_aload, ax_r_istore, ax_r_astore, ax_r_lstore, ax_r_iinc, ax_r_iadd, ax_r_isub, ax_r_imul, ax_r_idiv, ax_r_irem, ax_r_iand, ax_r_ior, ax_r_ishl, ax_r_ishr, ax_r_iushr, ax_r_i2l, ax_r_l2i, ax_r_i2b, ax_r_ladd, ax_r_lsub, ax_r_lmul, ax_r_ldiv, ax_r_lrem, ax_r_land, ax_r_lor, ax_r_lcmp, ax_r_ifeq, ax_r_ifne, ax_r_iflt, ax_r_ifge, ax_r_ifgt, ax_r_ifle, ax_r_iceq, ax_r_icne, ax_r_iclt, ax_r_icge, ax_r_icgt, ax_r_icle, ax_r_goto, ax_r_tsw, ax_evt_c, ax_evt_n, ax_r_lsw, ax_evu_c, ax_evu_n, ax_r_getI, ax_r_getR, ax_r_putI, ax_r_putZ, ax_r_iald, ax_r_iast, ax_r_lald, ax_r_last, ax_r_bald, ax_r_aald, ax_r_alen, ax_r_bast, ax_r_min, ax_r_max, ax_r_minl, ax_r_maxl, ax_r_copy, ax_r_slen, ax_r_schr, ax_r_dup, ax_r_dup2, ax_r_pop, ax_r_ret, ax_r_lret, ax_r_vret, ax_r_zret, ax_r_aret, ax_r_call, ax_evo, ax_eva, ax_ar, ax_tk, ax_ex, ax_ld, ax_sto, ax_stl, ly_pm, ly_cd, ly_ln, ly_rf, Option.bind_some, Option.map_some, if_true, if_false, true_and, and_true, List.nil_append, List.cons_append, List.append_nil, List.length_nil, List.length_cons, List.headD_cons, true_or, or_true, false_or, or_false, ne_eq, not_false_eq_true, not_true_eq_false, false_and, and_false, List.set_cons_zero, List.set_cons_succ, Nat.reduceAdd, Nat.reduceSub, Nat.reduceMul, Nat.reduceLeDiff, Nat.reduceLT, Nat.reduceEqDiff, ↓reduceIte, Int.reduceNeg, Int.reduceAdd, Int.reduceSub, Int.reduceMul, Int.reduceEq, Int.reduceNe, Int.reduceLE, Int.reduceLT, Int.reduceToNat, Nat.one_ne_zero, Nat.zero_ne_one, Int.cast_ofNat_Int, lc_lt, lc_ge, lc_gt, lc_le, lc_eq, lc_ne, w32i, w64i, tdv, tmd, ltT, ltF, leT, leF, eqT, eqF, dc_Course_passWith, s1, s2, s3, s4, t1, t2, t3, t4, rwrd, rwno, hN, e, rwup, p0]
        refine E _ fun j => ?_
        clear E; grind [dyF, dy_fi, dy_P]
      · have g7' := g7.resolve_left e
        have x1 : dy_P n fed S n (38 + S 10) = dy_wa n fed S (S 10) := by grind [dy_P]
        have x2 : dy_P n fed S n (29 + S 10) = dy_bu n fed S (S 10) := by grind [dy_P]
        have x3 : dy_P n fed S n (11 + S 10) = S (11 + S 10) := by grind [dy_P]
        have nx : 0 ≤ dy_nx n (S 10) ∧ dy_nx n (S 10) < n := by unfold dy_nx; split <;> omega
        have x4 : dy_P n fed S n (11 + dy_nx n (S 10)) = S (11 + dy_nx n (S 10)) := by grind [dy_P]
        have x5 : dy_P n fed S n 11 = S 11 := by grind [dy_P]
        have y1 := (g8 (S 10) (by omega) (by omega)).1
        have y2 := hnd (S (11 + S 10)) (by omega) (by omega)
        have y3 := hfW (S 10) (by omega) (by omega)
        have y4 : dy_fi n (h (t + 2)) fed S = if dy_wa n fed S (S 10) < 5 then -1 else if dy_bu n fed S (S 10) < h (t + 2) (S (11 + S 10)) then S 10 else if S (11 + dy_nx n (S 10)) = -1 then -1 else dy_nx n (S 10) := by unfold dy_fi; rw [if_neg e]
        clear hq g6 g8 hnd hfW g7
        have fin : ∀ v, dy_fi n (h (t + 2)) fed S = v → Q (0, fed) (L0, ax_rw h (o + 1) (fun j => if j = 0 then S 0 + 1 else if j = 10 then v else dy_P n fed S n j)) := by
          intro v hv; refine E _ fun j => ?_
          unfold dyF; rw [hv]
        clear E
        rcases (by omega : dy_wa n fed S (S 10) < 5 ∨ (5 ≤ dy_wa n fed S (S 10) ∧ dy_bu n fed S (S 10) < h (t + 2) (S (11 + S 10))) ∨ (5 ≤ dy_wa n fed S (S 10) ∧ h (t + 2) (S (11 + S 10)) ≤ dy_bu n fed S (S 10))) with u | u | u
        · rw [if_pos u] at y4
          rw [ax_ev, dh_Course_passWith_90]
          simp (disch := omega) only [ax_ev, ax_kk, ax_ps, ax_r_const, ax_r_lconst, ax_r_str, ax_r_iload, ax_r_lload, ax_r_aload, ax_r_istore, ax_r_astore, ax_r_lstore, ax_r_iinc, ax_r_iadd, ax_r_isub, ax_r_imul, ax_r_idiv, ax_r_irem, ax_r_iand, ax_r_ior, ax_r_ishl, ax_r_ishr, ax_r_iushr, ax_r_i2l, ax_r_l2i, ax_r_i2b, ax_r_ladd, ax_r_lsub, ax_r_lmul, ax_r_ldiv, ax_r_lrem, ax_r_land, ax_r_lor, ax_r_lcmp, ax_r_ifeq, ax_r_ifne, ax_r_iflt, ax_r_ifge, ax_r_ifgt, ax_r_ifle, ax_r_iceq, ax_r_icne, ax_r_iclt, ax_r_icge, ax_r_icgt, ax_r_icle, ax_r_goto, ax_r_tsw, ax_evt_c, ax_evt_n, ax_r_lsw, ax_evu_c, ax_evu_n, ax_r_getI, ax_r_getR, ax_r_putI, ax_r_putZ, ax_r_iald, ax_r_iast, ax_r_lald, ax_r_last, ax_r_bald, ax_r_aald, ax_r_alen, ax_r_bast, ax_r_min, ax_r_max, ax_r_minl, ax_r_maxl, ax_r_copy, ax_r_slen, ax_r_schr, ax_r_dup, ax_r_dup2, ax_r_pop, ax_r_ret, ax_r_lret, ax_r_vret, ax_r_zret, ax_r_aret, ax_r_call, ax_evo, ax_eva, ax_ar, ax_tk, ax_ex, ax_ld, ax_sto, ax_stl, ly_pm, ly_cd, ly_ln, ly_rf, Option.bind_some, Option.map_some, if_true, if_false, true_and, and_true, List.nil_append, List.cons_append, List.append_nil, List.length_nil, List.length_cons, List.headD_cons, true_or, or_true, false_or, or_false, ne_eq, not_false_eq_true, not_true_eq_false, false_and, and_false, List.set_cons_zero, List.set_cons_succ, Nat.reduceAdd, Nat.reduceSub, Nat.reduceMul, Nat.reduceLeDiff, Nat.reduceLT, Nat.reduceEqDiff, ↓reduceIte, Int.reduceNeg, Int.reduceAdd, Int.reduceSub, Int.reduceMul, Int.reduceEq, Int.reduceNe, Int.reduceLE, Int.reduceLT, Int.reduceToNat, Nat.one_ne_zero, Nat.zero_ne_one, Int.cast_ofNat_Int, lc_lt, lc_ge, lc_gt, lc_le, lc_eq, lc_ne, w32i, w64i, tdv, tmd, ltT, ltF, leT, leF, eqT, eqF, dc_Course_passWith, dc_Course_fireBehind, s1, s2, s3, s4, t1, t2, t3, t4, rwrd, rwno, hN, rwup, p0, x1]
          exact fin _ y4
        · rw [if_neg (by omega), if_pos u.2] at y4
          rw [ax_ev, dh_Course_passWith_90]
          simp (disch := omega) only [ax_ev, ax_kk, ax_ps, ax_r_const, ax_r_lconst, ax_r_str, ax_r_iload, ax_r_lload, ax_r_aload, ax_r_istore, ax_r_astore, ax_r_lstore, ax_r_iinc, ax_r_iadd, ax_r_isub, ax_r_imul, ax_r_idiv, ax_r_irem, ax_r_iand, ax_r_ior, ax_r_ishl, ax_r_ishr, ax_r_iushr, ax_r_i2l, ax_r_l2i, ax_r_i2b, ax_r_ladd, ax_r_lsub, ax_r_lmul, ax_r_ldiv, ax_r_lrem, ax_r_land, ax_r_lor, ax_r_lcmp, ax_r_ifeq, ax_r_ifne, ax_r_iflt, ax_r_ifge, ax_r_ifgt, ax_r_ifle, ax_r_iceq, ax_r_icne, ax_r_iclt, ax_r_icge, ax_r_icgt, ax_r_icle, ax_r_goto, ax_r_tsw, ax_evt_c, ax_evt_n, ax_r_lsw, ax_evu_c, ax_evu_n, ax_r_getI, ax_r_getR, ax_r_putI, ax_r_putZ, ax_r_iald, ax_r_iast, ax_r_lald, ax_r_last, ax_r_bald, ax_r_aald, ax_r_alen, ax_r_bast, ax_r_min, ax_r_max, ax_r_minl, ax_r_maxl, ax_r_copy, ax_r_slen, ax_r_schr, ax_r_dup, ax_r_dup2, ax_r_pop, ax_r_ret, ax_r_lret, ax_r_vret, ax_r_zret, ax_r_aret, ax_r_call, ax_evo, ax_eva, ax_ar, ax_tk, ax_ex, ax_ld, ax_sto, ax_stl, ly_pm, ly_cd, ly_ln, ly_rf, Option.bind_some, Option.map_some, if_true, if_false, true_and, and_true, List.nil_append, List.cons_append, List.append_nil, List.length_nil, List.length_cons, List.headD_cons, true_or, or_true, false_or, or_false, ne_eq, not_false_eq_true, not_true_eq_false, false_and, and_false, List.set_cons_zero, List.set_cons_succ, Nat.reduceAdd, Nat.reduceSub, Nat.reduceMul, Nat.reduceLeDiff, Nat.reduceLT, Nat.reduceEqDiff, ↓reduceIte, Int.reduceNeg, Int.reduceAdd, Int.reduceSub, Int.reduceMul, Int.reduceEq, Int.reduceNe, Int.reduceLE, Int.reduceLT, Int.reduceToNat, Nat.one_ne_zero, Nat.zero_ne_one, Int.cast_ofNat_Int, lc_lt, lc_ge, lc_gt, lc_le, lc_eq, lc_ne, w32i, w64i, tdv, tmd, ltT, ltF, leT, leF, eqT, eqF, dc_Course_passWith, dc_Course_fireBehind, dc_State_kindOf, s1, s2, s3, s4, t1, t2, t3, t4, rwrd, rwno, hN, rwup, p0, x1, x2, x3]
          exact fin _ y4
        · rw [if_neg (by omega), if_neg (by omega)] at y4
          rcases (by omega : (S 10 + 1 < n) ∨ (S 10 + 1 = n)) with v | v
          · have v2 : dy_nx n (S 10) = S 10 + 1 := if_pos v
            rw [v2] at x4 y4 nx
            by_cases z : S (11 + (S 10 + 1)) = -1
            · rw [if_pos z] at y4
              rcases (by omega : dy_bu n fed S (S 10) ≤ 2 * h (t + 2) (S (11 + S 10)) ∨ 2 * h (t + 2) (S (11 + S 10)) < dy_bu n fed S (S 10)) with k | k
              all_goals rw [ax_ev, dh_Course_passWith_90]
              all_goals simp (disch := omega) only [ax_ev, ax_kk, ax_ps, ax_r_const, ax_r_lconst, ax_r_str, ax_r_iload, ax_r_lload, ax_r_aload, ax_r_istore, ax_r_astore, ax_r_lstore, ax_r_iinc, ax_r_iadd, ax_r_isub, ax_r_imul, ax_r_idiv, ax_r_irem, ax_r_iand, ax_r_ior, ax_r_ishl, ax_r_ishr, ax_r_iushr, ax_r_i2l, ax_r_l2i, ax_r_i2b, ax_r_ladd, ax_r_lsub, ax_r_lmul, ax_r_ldiv, ax_r_lrem, ax_r_land, ax_r_lor, ax_r_lcmp, ax_r_ifeq, ax_r_ifne, ax_r_iflt, ax_r_ifge, ax_r_ifgt, ax_r_ifle, ax_r_iceq, ax_r_icne, ax_r_iclt, ax_r_icge, ax_r_icgt, ax_r_icle, ax_r_goto, ax_r_tsw, ax_evt_c, ax_evt_n, ax_r_lsw, ax_evu_c, ax_evu_n, ax_r_getI, ax_r_getR, ax_r_putI, ax_r_putZ, ax_r_iald, ax_r_iast, ax_r_lald, ax_r_last, ax_r_bald, ax_r_aald, ax_r_alen, ax_r_bast, ax_r_min, ax_r_max, ax_r_minl, ax_r_maxl, ax_r_copy, ax_r_slen, ax_r_schr, ax_r_dup, ax_r_dup2, ax_r_pop, ax_r_ret, ax_r_lret, ax_r_vret, ax_r_zret, ax_r_aret, ax_r_call, ax_evo, ax_eva, ax_ar, ax_tk, ax_ex, ax_ld, ax_sto, ax_stl, ly_pm, ly_cd, ly_ln, ly_rf, Option.bind_some, Option.map_some, if_true, if_false, true_and, and_true, List.nil_append, List.cons_append, List.append_nil, List.length_nil, List.length_cons, List.headD_cons, true_or, or_true, false_or, or_false, ne_eq, not_false_eq_true, not_true_eq_false, false_and, and_false, List.set_cons_zero, List.set_cons_succ, Nat.reduceAdd, Nat.reduceSub, Nat.reduceMul, Nat.reduceLeDiff, Nat.reduceLT, Nat.reduceEqDiff, ↓reduceIte, Int.reduceNeg, Int.reduceAdd, Int.reduceSub, Int.reduceMul, Int.reduceEq, Int.reduceNe, Int.reduceLE, Int.reduceLT, Int.reduceToNat, Nat.one_ne_zero, Nat.zero_ne_one, Int.cast_ofNat_Int, lc_lt, lc_ge, lc_gt, lc_le, lc_eq, lc_ne, w32i, w64i, tdv, tmd, ltT, ltF, leT, leF, eqT, eqF, dc_Course_passWith, dc_Course_fireBehind, dc_State_kindOf, dc_Told_nextTo, dc_State_isSet, s1, s2, s3, s4, t1, t2, t3, t4, rwrd, rwno, hN, rwup, p0, x1, x2, x3, x4]
              all_goals exact fin _ y4
            · rw [if_neg z] at y4
              rcases (by omega : dy_bu n fed S (S 10) ≤ 2 * h (t + 2) (S (11 + S 10)) ∨ 2 * h (t + 2) (S (11 + S 10)) < dy_bu n fed S (S 10)) with k | k
              all_goals rw [ax_ev, dh_Course_passWith_90]
              all_goals simp (disch := omega) only [ax_ev, ax_kk, ax_ps, ax_r_const, ax_r_lconst, ax_r_str, ax_r_iload, ax_r_lload, ax_r_aload, ax_r_istore, ax_r_astore, ax_r_lstore, ax_r_iinc, ax_r_iadd, ax_r_isub, ax_r_imul, ax_r_idiv, ax_r_irem, ax_r_iand, ax_r_ior, ax_r_ishl, ax_r_ishr, ax_r_iushr, ax_r_i2l, ax_r_l2i, ax_r_i2b, ax_r_ladd, ax_r_lsub, ax_r_lmul, ax_r_ldiv, ax_r_lrem, ax_r_land, ax_r_lor, ax_r_lcmp, ax_r_ifeq, ax_r_ifne, ax_r_iflt, ax_r_ifge, ax_r_ifgt, ax_r_ifle, ax_r_iceq, ax_r_icne, ax_r_iclt, ax_r_icge, ax_r_icgt, ax_r_icle, ax_r_goto, ax_r_tsw, ax_evt_c, ax_evt_n, ax_r_lsw, ax_evu_c, ax_evu_n, ax_r_getI, ax_r_getR, ax_r_putI, ax_r_putZ, ax_r_iald, ax_r_iast, ax_r_lald, ax_r_last, ax_r_bald, ax_r_aald, ax_r_alen, ax_r_bast, ax_r_min, ax_r_max, ax_r_minl, ax_r_maxl, ax_r_copy, ax_r_slen, ax_r_schr, ax_r_dup, ax_r_dup2, ax_r_pop, ax_r_ret, ax_r_lret, ax_r_vret, ax_r_zret, ax_r_aret, ax_r_call, ax_evo, ax_eva, ax_ar, ax_tk, ax_ex, ax_ld, ax_sto, ax_stl, ly_pm, ly_cd, ly_ln, ly_rf, Option.bind_some, Option.map_some, if_true, if_false, true_and, and_true, List.nil_append, List.cons_append, List.append_nil, List.length_nil, List.length_cons, List.headD_cons, true_or, or_true, false_or, or_false, ne_eq, not_false_eq_true, not_true_eq_false, false_and, and_false, List.set_cons_zero, List.set_cons_succ, Nat.reduceAdd, Nat.reduceSub, Nat.reduceMul, Nat.reduceLeDiff, Nat.reduceLT, Nat.reduceEqDiff, ↓reduceIte, Int.reduceNeg, Int.reduceAdd, Int.reduceSub, Int.reduceMul, Int.reduceEq, Int.reduceNe, Int.reduceLE, Int.reduceLT, Int.reduceToNat, Nat.one_ne_zero, Nat.zero_ne_one, Int.cast_ofNat_Int, lc_lt, lc_ge, lc_gt, lc_le, lc_eq, lc_ne, w32i, w64i, tdv, tmd, ltT, ltF, leT, leF, eqT, eqF, dc_Course_passWith, dc_Course_fireBehind, dc_State_kindOf, dc_Told_nextTo, dc_State_isSet, s1, s2, s3, s4, t1, t2, t3, t4, rwrd, rwno, hN, rwup, p0, x1, x2, x3, x4]
              all_goals exact fin _ y4
          · have v2 : dy_nx n (S 10) = 0 := if_neg (by omega)
            rw [v2] at x4 y4 nx
            rw [show (11 : Int) + 0 = 11 from rfl] at x4 y4
            by_cases z : S 11 = -1
            · rw [if_pos z] at y4
              rcases (by omega : dy_bu n fed S (S 10) ≤ 2 * h (t + 2) (S (11 + S 10)) ∨ 2 * h (t + 2) (S (11 + S 10)) < dy_bu n fed S (S 10)) with k | k
              all_goals rw [ax_ev, dh_Course_passWith_90]
              all_goals simp (disch := omega) only [ax_ev, ax_kk, ax_ps, ax_r_const, ax_r_lconst, ax_r_str, ax_r_iload, ax_r_lload, ax_r_aload, ax_r_istore, ax_r_astore, ax_r_lstore, ax_r_iinc, ax_r_iadd, ax_r_isub, ax_r_imul, ax_r_idiv, ax_r_irem, ax_r_iand, ax_r_ior, ax_r_ishl, ax_r_ishr, ax_r_iushr, ax_r_i2l, ax_r_l2i, ax_r_i2b, ax_r_ladd, ax_r_lsub, ax_r_lmul, ax_r_ldiv, ax_r_lrem, ax_r_land, ax_r_lor, ax_r_lcmp, ax_r_ifeq, ax_r_ifne, ax_r_iflt, ax_r_ifge, ax_r_ifgt, ax_r_ifle, ax_r_iceq, ax_r_icne, ax_r_iclt, ax_r_icge, ax_r_icgt, ax_r_icle, ax_r_goto, ax_r_tsw, ax_evt_c, ax_evt_n, ax_r_lsw, ax_evu_c, ax_evu_n, ax_r_getI, ax_r_getR, ax_r_putI, ax_r_putZ, ax_r_iald, ax_r_iast, ax_r_lald, ax_r_last, ax_r_bald, ax_r_aald, ax_r_alen, ax_r_bast, ax_r_min, ax_r_max, ax_r_minl, ax_r_maxl, ax_r_copy, ax_r_slen, ax_r_schr, ax_r_dup, ax_r_dup2, ax_r_pop, ax_r_ret, ax_r_lret, ax_r_vret, ax_r_zret, ax_r_aret, ax_r_call, ax_evo, ax_eva, ax_ar, ax_tk, ax_ex, ax_ld, ax_sto, ax_stl, ly_pm, ly_cd, ly_ln, ly_rf, Option.bind_some, Option.map_some, if_true, if_false, true_and, and_true, List.nil_append, List.cons_append, List.append_nil, List.length_nil, List.length_cons, List.headD_cons, true_or, or_true, false_or, or_false, ne_eq, not_false_eq_true, not_true_eq_false, false_and, and_false, List.set_cons_zero, List.set_cons_succ, Nat.reduceAdd, Nat.reduceSub, Nat.reduceMul, Nat.reduceLeDiff, Nat.reduceLT, Nat.reduceEqDiff, ↓reduceIte, Int.reduceNeg, Int.reduceAdd, Int.reduceSub, Int.reduceMul, Int.reduceEq, Int.reduceNe, Int.reduceLE, Int.reduceLT, Int.reduceToNat, Nat.one_ne_zero, Nat.zero_ne_one, Int.cast_ofNat_Int, lc_lt, lc_ge, lc_gt, lc_le, lc_eq, lc_ne, w32i, w64i, tdv, tmd, ltT, ltF, leT, leF, eqT, eqF, dc_Course_passWith, dc_Course_fireBehind, dc_State_kindOf, dc_Told_nextTo, dc_State_isSet, s1, s2, s3, s4, t1, t2, t3, t4, rwrd, rwno, hN, rwup, p0, x1, x2, x3, x5]
              all_goals exact fin _ y4
            · rw [if_neg z] at y4
              rcases (by omega : dy_bu n fed S (S 10) ≤ 2 * h (t + 2) (S (11 + S 10)) ∨ 2 * h (t + 2) (S (11 + S 10)) < dy_bu n fed S (S 10)) with k | k
              all_goals rw [ax_ev, dh_Course_passWith_90]
              all_goals simp (disch := omega) only [ax_ev, ax_kk, ax_ps, ax_r_const, ax_r_lconst, ax_r_str, ax_r_iload, ax_r_lload, ax_r_aload, ax_r_istore, ax_r_astore, ax_r_lstore, ax_r_iinc, ax_r_iadd, ax_r_isub, ax_r_imul, ax_r_idiv, ax_r_irem, ax_r_iand, ax_r_ior, ax_r_ishl, ax_r_ishr, ax_r_iushr, ax_r_i2l, ax_r_l2i, ax_r_i2b, ax_r_ladd, ax_r_lsub, ax_r_lmul, ax_r_ldiv, ax_r_lrem, ax_r_land, ax_r_lor, ax_r_lcmp, ax_r_ifeq, ax_r_ifne, ax_r_iflt, ax_r_ifge, ax_r_ifgt, ax_r_ifle, ax_r_iceq, ax_r_icne, ax_r_iclt, ax_r_icge, ax_r_icgt, ax_r_icle, ax_r_goto, ax_r_tsw, ax_evt_c, ax_evt_n, ax_r_lsw, ax_evu_c, ax_evu_n, ax_r_getI, ax_r_getR, ax_r_putI, ax_r_putZ, ax_r_iald, ax_r_iast, ax_r_lald, ax_r_last, ax_r_bald, ax_r_aald, ax_r_alen, ax_r_bast, ax_r_min, ax_r_max, ax_r_minl, ax_r_maxl, ax_r_copy, ax_r_slen, ax_r_schr, ax_r_dup, ax_r_dup2, ax_r_pop, ax_r_ret, ax_r_lret, ax_r_vret, ax_r_zret, ax_r_aret, ax_r_call, ax_evo, ax_eva, ax_ar, ax_tk, ax_ex, ax_ld, ax_sto, ax_stl, ly_pm, ly_cd, ly_ln, ly_rf, Option.bind_some, Option.map_some, if_true, if_false, true_and, and_true, List.nil_append, List.cons_append, List.append_nil, List.length_nil, List.length_cons, List.headD_cons, true_or, or_true, false_or, or_false, ne_eq, not_false_eq_true, not_true_eq_false, false_and, and_false, List.set_cons_zero, List.set_cons_succ, Nat.reduceAdd, Nat.reduceSub, Nat.reduceMul, Nat.reduceLeDiff, Nat.reduceLT, Nat.reduceEqDiff, ↓reduceIte, Int.reduceNeg, Int.reduceAdd, Int.reduceSub, Int.reduceMul, Int.reduceEq, Int.reduceNe, Int.reduceLE, Int.reduceLT, Int.reduceToNat, Nat.one_ne_zero, Nat.zero_ne_one, Int.cast_ofNat_Int, lc_lt, lc_ge, lc_gt, lc_le, lc_eq, lc_ne, w32i, w64i, tdv, tmd, ltT, ltF, leT, leF, eqT, eqF, dc_Course_passWith, dc_Course_fireBehind, dc_State_kindOf, dc_Told_nextTo, dc_State_isSet, s1, s2, s3, s4, t1, t2, t3, t4, rwrd, rwno, hN, rwup, p0, x1, x2, x3, x5]
              all_goals exact fin _ y4
  have L : ∀ F : Int → Int, (∀ j, F j = dy_P n (dy_fed S w) S 0 j) → ax_Ev (d + 4) 4 90 [(2, 22), (2, o), (2, t), (0, w), (2, o + 1), (0, S 10), (0, dy_fed S w), (0, 0)] [] (L0, ax_rw h (o + 1) F) Q := by
    intro F hF; rw [funext hF]; exact loop
  clear loop hq hfW hnd g6
  have hself : h = ax_rw h (o + 1) S := by
    funext k j; unfold ax_rw; split
    · rename_i q; rw [q, hS]
    · rfl
  by_cases e : S 10 = -1
  · have f0 : dy_fed S w = 0 := if_pos e
    rw [f0, e] at L
    rw [hself]
    clear hself g8
    simp (disch := omega) only [ax_ev, ax_kk, ax_ps, ax_r_const, ax_r_lconst, ax_r_str, ax_r_iload, ax_r_lload, ax_r_aload, ax_r_istore, ax_r_astore, ax_r_lstore, ax_r_iinc, ax_r_iadd, ax_r_isub, ax_r_imul, ax_r_idiv, ax_r_irem, ax_r_iand, ax_r_ior, ax_r_ishl, ax_r_ishr, ax_r_iushr, ax_r_i2l, ax_r_l2i, ax_r_i2b, ax_r_ladd, ax_r_lsub, ax_r_lmul, ax_r_ldiv, ax_r_lrem, ax_r_land, ax_r_lor, ax_r_lcmp, ax_r_ifeq, ax_r_ifne, ax_r_iflt, ax_r_ifge, ax_r_ifgt, ax_r_ifle, ax_r_iceq, ax_r_icne, ax_r_iclt, ax_r_icge, ax_r_icgt, ax_r_icle, ax_r_goto, ax_r_tsw, ax_evt_c, ax_evt_n, ax_r_lsw, ax_evu_c, ax_evu_n, ax_r_getI, ax_r_getR, ax_r_putI, ax_r_putZ, ax_r_iald, ax_r_iast, ax_r_lald, ax_r_last, ax_r_bald, ax_r_aald, ax_r_alen, ax_r_bast, ax_r_min, ax_r_max, ax_r_minl, ax_r_maxl, ax_r_copy, ax_r_slen, ax_r_schr, ax_r_dup, ax_r_dup2, ax_r_pop, ax_r_ret, ax_r_lret, ax_r_vret, ax_r_zret, ax_r_aret, ax_r_call, ax_evo, ax_eva, ax_ar, ax_tk, ax_ex, ax_ld, ax_sto, ax_stl, ly_pm, ly_cd, ly_ln, ly_rf, Option.bind_some, Option.map_some, if_true, if_false, true_and, and_true, List.nil_append, List.cons_append, List.append_nil, List.length_nil, List.length_cons, List.headD_cons, true_or, or_true, false_or, or_false, ne_eq, not_false_eq_true, not_true_eq_false, false_and, and_false, List.set_cons_zero, List.set_cons_succ, Nat.reduceAdd, Nat.reduceSub, Nat.reduceMul, Nat.reduceLeDiff, Nat.reduceLT, Nat.reduceEqDiff, ↓reduceIte, Int.reduceNeg, Int.reduceAdd, Int.reduceSub, Int.reduceMul, Int.reduceEq, Int.reduceNe, Int.reduceLE, Int.reduceLT, Int.reduceToNat, Nat.one_ne_zero, Nat.zero_ne_one, Int.cast_ofNat_Int, lc_lt, lc_ge, lc_gt, lc_le, lc_eq, lc_ne, w32i, w64i, tdv, tmd, ltT, ltF, leT, leF, eqT, eqF, dc_Course_passWith, s1, s2, s3, s4, t1, t2, t3, t4, rwrd, rwno, hN, e, rwup]
    refine L _ fun j => ?_
    clear L; grind [dy_P, dy_W]
  · have g7' := g7.resolve_left e
    have f0 : dy_fed S w = if S 1 < w then S 1 else w := if_neg e
    have nx : 0 ≤ dy_nx n (S 10) ∧ dy_nx n (S 10) < n ∧ dy_nx n (S 10) ≠ S 10 := by unfold dy_nx; split <;> omega
    have nx2 : 0 ≤ dy_nx n (dy_nx n (S 10)) ∧ dy_nx n (dy_nx n (S 10)) < n ∧ dy_nx n (dy_nx n (S 10)) ≠ S 10 ∧ dy_nx n (dy_nx n (S 10)) ≠ dy_nx n (S 10) := by
      unfold dy_nx; repeat' split
      all_goals omega
    have fz : ∀ c, 0 ≤ c → c < n → 0 ≤ S (38 + c) ∧ S (38 + c) ≤ 99 := fun c c0 c1 => (g8 c c0 (by omega)).2.2.2.1
    have z1 := fz (S 10) (by omega) (by omega)
    have z2 := fz _ nx.1 nx.2.1
    have z3 := fz _ nx2.1 nx2.2.1
    rw [hself]
    clear hself g8 g7
    rcases (by omega : dy_fed S w = 0 ∨ 0 < dy_fed S w) with f1 | f1
    · have f2 : (if S 1 < w then S 1 else w) = 0 := by rw [← f0]; exact f1
      rw [f1] at L
      simp (disch := omega) only [ax_ev, ax_kk, ax_ps, ax_r_const, ax_r_lconst, ax_r_str, ax_r_iload, ax_r_lload, ax_r_aload, ax_r_istore, ax_r_astore, ax_r_lstore, ax_r_iinc, ax_r_iadd, ax_r_isub, ax_r_imul, ax_r_idiv, ax_r_irem, ax_r_iand, ax_r_ior, ax_r_ishl, ax_r_ishr, ax_r_iushr, ax_r_i2l, ax_r_l2i, ax_r_i2b, ax_r_ladd, ax_r_lsub, ax_r_lmul, ax_r_ldiv, ax_r_lrem, ax_r_land, ax_r_lor, ax_r_lcmp, ax_r_ifeq, ax_r_ifne, ax_r_iflt, ax_r_ifge, ax_r_ifgt, ax_r_ifle, ax_r_iceq, ax_r_icne, ax_r_iclt, ax_r_icge, ax_r_icgt, ax_r_icle, ax_r_goto, ax_r_tsw, ax_evt_c, ax_evt_n, ax_r_lsw, ax_evu_c, ax_evu_n, ax_r_getI, ax_r_getR, ax_r_putI, ax_r_putZ, ax_r_iald, ax_r_iast, ax_r_lald, ax_r_last, ax_r_bald, ax_r_aald, ax_r_alen, ax_r_bast, ax_r_min, ax_r_max, ax_r_minl, ax_r_maxl, ax_r_copy, ax_r_slen, ax_r_schr, ax_r_dup, ax_r_dup2, ax_r_pop, ax_r_ret, ax_r_lret, ax_r_vret, ax_r_zret, ax_r_aret, ax_r_call, ax_evo, ax_eva, ax_ar, ax_tk, ax_ex, ax_ld, ax_sto, ax_stl, ly_pm, ly_cd, ly_ln, ly_rf, Option.bind_some, Option.map_some, if_true, if_false, true_and, and_true, List.nil_append, List.cons_append, List.append_nil, List.length_nil, List.length_cons, List.headD_cons, true_or, or_true, false_or, or_false, ne_eq, not_false_eq_true, not_true_eq_false, false_and, and_false, List.set_cons_zero, List.set_cons_succ, Nat.reduceAdd, Nat.reduceSub, Nat.reduceMul, Nat.reduceLeDiff, Nat.reduceLT, Nat.reduceEqDiff, ↓reduceIte, Int.reduceNeg, Int.reduceAdd, Int.reduceSub, Int.reduceMul, Int.reduceEq, Int.reduceNe, Int.reduceLE, Int.reduceLT, Int.reduceToNat, Nat.one_ne_zero, Nat.zero_ne_one, Int.cast_ofNat_Int, lc_lt, lc_ge, lc_gt, lc_le, lc_eq, lc_ne, w32i, w64i, tdv, tmd, ltT, ltF, leT, leF, eqT, eqF, dc_Course_passWith, s1, s2, s3, s4, t1, t2, t3, t4, rwrd, rwno, hN, rwup, f2]
      refine L _ fun j => ?_
      clear L
      have hW0 : ∀ c, 0 ≤ c → c < n → dy_W n 0 S c = S (38 + c) := by
        intro c c0 c1; have := fz c c0 c1; unfold dy_W; repeat' split
        all_goals omega
      by_cases hj : 38 ≤ j ∧ j < 38 + n
      · have q := hW0 (j - 38) (by omega) (by omega)
        rw [show 38 + (j - 38) = j by omega] at q
        unfold dy_P; rw [if_neg (by omega), if_neg (by omega), if_neg (by omega), if_neg (by omega), if_pos hj, q]
      · clear hW0 fz z1 z2 z3 nx nx2; unfold dy_P
        by_cases j1 : j = 1
        · rw [if_pos j1, j1]; omega
        · rw [if_neg j1, if_neg (by omega), if_neg (by omega), if_neg (by omega), if_neg hj]
    · have f2 : (if S 1 < w then S 1 else w) = dy_fed S w := by rw [← f0]
      clear f0
      generalize dy_fed S w = fed at *
      rcases (by omega : S 10 + 1 < n ∨ S 10 + 1 = n) with v | v
      · have v2 : dy_nx n (S 10) = S 10 + 1 := if_pos v
        rw [v2] at nx nx2 z2 z3
        rcases (by omega : S 10 + 1 + 1 < n ∨ S 10 + 1 + 1 = n) with u | u
        · have u2 : dy_nx n (S 10 + 1) = S 10 + 1 + 1 := if_pos u
          rw [u2] at nx2 z3
          simp (disch := omega) only [ax_ev, ax_kk, ax_ps, ax_r_const, ax_r_lconst, ax_r_str, ax_r_iload, ax_r_lload, ax_r_aload, ax_r_istore, ax_r_astore, ax_r_lstore, ax_r_iinc, ax_r_iadd, ax_r_isub, ax_r_imul, ax_r_idiv, ax_r_irem, ax_r_iand, ax_r_ior, ax_r_ishl, ax_r_ishr, ax_r_iushr, ax_r_i2l, ax_r_l2i, ax_r_i2b, ax_r_ladd, ax_r_lsub, ax_r_lmul, ax_r_ldiv, ax_r_lrem, ax_r_land, ax_r_lor, ax_r_lcmp, ax_r_ifeq, ax_r_ifne, ax_r_iflt, ax_r_ifge, ax_r_ifgt, ax_r_ifle, ax_r_iceq, ax_r_icne, ax_r_iclt, ax_r_icge, ax_r_icgt, ax_r_icle, ax_r_goto, ax_r_tsw, ax_evt_c, ax_evt_n, ax_r_lsw, ax_evu_c, ax_evu_n, ax_r_getI, ax_r_getR, ax_r_putI, ax_r_putZ, ax_r_iald, ax_r_iast, ax_r_lald, ax_r_last, ax_r_bald, ax_r_aald, ax_r_alen, ax_r_bast, ax_r_min, ax_r_max, ax_r_minl, ax_r_maxl, ax_r_copy, ax_r_slen, ax_r_schr, ax_r_dup, ax_r_dup2, ax_r_pop, ax_r_ret, ax_r_lret, ax_r_vret, ax_r_zret, ax_r_aret, ax_r_call, ax_evo, ax_eva, ax_ar, ax_tk, ax_ex, ax_ld, ax_sto, ax_stl, ly_pm, ly_cd, ly_ln, ly_rf, Option.bind_some, Option.map_some, if_true, if_false, true_and, and_true, List.nil_append, List.cons_append, List.append_nil, List.length_nil, List.length_cons, List.headD_cons, true_or, or_true, false_or, or_false, ne_eq, not_false_eq_true, not_true_eq_false, false_and, and_false, List.set_cons_zero, List.set_cons_succ, Nat.reduceAdd, Nat.reduceSub, Nat.reduceMul, Nat.reduceLeDiff, Nat.reduceLT, Nat.reduceEqDiff, ↓reduceIte, Int.reduceNeg, Int.reduceAdd, Int.reduceSub, Int.reduceMul, Int.reduceEq, Int.reduceNe, Int.reduceLE, Int.reduceLT, Int.reduceToNat, Nat.one_ne_zero, Nat.zero_ne_one, Int.cast_ofNat_Int, lc_lt, lc_ge, lc_gt, lc_le, lc_eq, lc_ne, w32i, w64i, tdv, tmd, ltT, ltF, leT, leF, eqT, eqF, dc_Course_passWith, dc_Told_nextTo, dc_State_heat, s1, s2, s3, s4, t1, t2, t3, t4, rwrd, rwno, hN, rwup, f2]
          refine L _ fun j => ?_
          clear L fz ho hd hw s1 s2 s3 s4 t1 t2 t3 t4 hN ha ha2 ha3 hac g1 g2 g3 g4 g5 hg9 f2 hcy hfed; grind [dy_P, dy_W]
        · have u2 : dy_nx n (S 10 + 1) = 0 := if_neg (by omega)
          rw [u2] at nx2 z3
          rw [show (38 : Int) + 0 = 38 from rfl] at z3
          simp (disch := omega) only [ax_ev, ax_kk, ax_ps, ax_r_const, ax_r_lconst, ax_r_str, ax_r_iload, ax_r_lload, ax_r_aload, ax_r_istore, ax_r_astore, ax_r_lstore, ax_r_iinc, ax_r_iadd, ax_r_isub, ax_r_imul, ax_r_idiv, ax_r_irem, ax_r_iand, ax_r_ior, ax_r_ishl, ax_r_ishr, ax_r_iushr, ax_r_i2l, ax_r_l2i, ax_r_i2b, ax_r_ladd, ax_r_lsub, ax_r_lmul, ax_r_ldiv, ax_r_lrem, ax_r_land, ax_r_lor, ax_r_lcmp, ax_r_ifeq, ax_r_ifne, ax_r_iflt, ax_r_ifge, ax_r_ifgt, ax_r_ifle, ax_r_iceq, ax_r_icne, ax_r_iclt, ax_r_icge, ax_r_icgt, ax_r_icle, ax_r_goto, ax_r_tsw, ax_evt_c, ax_evt_n, ax_r_lsw, ax_evu_c, ax_evu_n, ax_r_getI, ax_r_getR, ax_r_putI, ax_r_putZ, ax_r_iald, ax_r_iast, ax_r_lald, ax_r_last, ax_r_bald, ax_r_aald, ax_r_alen, ax_r_bast, ax_r_min, ax_r_max, ax_r_minl, ax_r_maxl, ax_r_copy, ax_r_slen, ax_r_schr, ax_r_dup, ax_r_dup2, ax_r_pop, ax_r_ret, ax_r_lret, ax_r_vret, ax_r_zret, ax_r_aret, ax_r_call, ax_evo, ax_eva, ax_ar, ax_tk, ax_ex, ax_ld, ax_sto, ax_stl, ly_pm, ly_cd, ly_ln, ly_rf, Option.bind_some, Option.map_some, if_true, if_false, true_and, and_true, List.nil_append, List.cons_append, List.append_nil, List.length_nil, List.length_cons, List.headD_cons, true_or, or_true, false_or, or_false, ne_eq, not_false_eq_true, not_true_eq_false, false_and, and_false, List.set_cons_zero, List.set_cons_succ, Nat.reduceAdd, Nat.reduceSub, Nat.reduceMul, Nat.reduceLeDiff, Nat.reduceLT, Nat.reduceEqDiff, ↓reduceIte, Int.reduceNeg, Int.reduceAdd, Int.reduceSub, Int.reduceMul, Int.reduceEq, Int.reduceNe, Int.reduceLE, Int.reduceLT, Int.reduceToNat, Nat.one_ne_zero, Nat.zero_ne_one, Int.cast_ofNat_Int, lc_lt, lc_ge, lc_gt, lc_le, lc_eq, lc_ne, w32i, w64i, tdv, tmd, ltT, ltF, leT, leF, eqT, eqF, dc_Course_passWith, dc_Told_nextTo, dc_State_heat, s1, s2, s3, s4, t1, t2, t3, t4, rwrd, rwno, hN, rwup, f2]
          refine L _ fun j => ?_
          by_cases hj : j = 38
          · have q : dy_W n fed S 0 = min 99 (S 38 + fed) := by
              unfold dy_W; rw [v2, u2, if_neg e, if_neg (by omega), if_neg (by omega), if_pos rfl]; rfl
            have r : dy_P n fed S 0 38 = dy_W n fed S 0 := by
              unfold dy_P; rw [if_neg (by omega), if_neg (by omega), if_neg (by omega), if_neg (by omega), if_pos (by omega)]; rfl
            rw [hj, r, q, if_pos rfl]
            repeat' split
            all_goals omega
          · clear L fz ho hd hw s1 s2 s3 s4 t1 t2 t3 t4 hN ha ha2 ha3 hac g1 g2 g3 g4 g5 hg9 f2 hcy hfed; grind [dy_P, dy_W]
      · have v2 : dy_nx n (S 10) = 0 := if_neg (by omega)
        have u2 : dy_nx n 0 = 1 := if_pos (by omega)
        rw [v2] at nx nx2 z2 z3
        rw [u2] at nx2 z3
        rw [show (38 : Int) + 0 = 38 from rfl] at z2
        rw [show (38 : Int) + 1 = 39 from rfl] at z3
        simp (disch := omega) only [ax_ev, ax_kk, ax_ps, ax_r_const, ax_r_lconst, ax_r_str, ax_r_iload, ax_r_lload, ax_r_aload, ax_r_istore, ax_r_astore, ax_r_lstore, ax_r_iinc, ax_r_iadd, ax_r_isub, ax_r_imul, ax_r_idiv, ax_r_irem, ax_r_iand, ax_r_ior, ax_r_ishl, ax_r_ishr, ax_r_iushr, ax_r_i2l, ax_r_l2i, ax_r_i2b, ax_r_ladd, ax_r_lsub, ax_r_lmul, ax_r_ldiv, ax_r_lrem, ax_r_land, ax_r_lor, ax_r_lcmp, ax_r_ifeq, ax_r_ifne, ax_r_iflt, ax_r_ifge, ax_r_ifgt, ax_r_ifle, ax_r_iceq, ax_r_icne, ax_r_iclt, ax_r_icge, ax_r_icgt, ax_r_icle, ax_r_goto, ax_r_tsw, ax_evt_c, ax_evt_n, ax_r_lsw, ax_evu_c, ax_evu_n, ax_r_getI, ax_r_getR, ax_r_putI, ax_r_putZ, ax_r_iald, ax_r_iast, ax_r_lald, ax_r_last, ax_r_bald, ax_r_aald, ax_r_alen, ax_r_bast, ax_r_min, ax_r_max, ax_r_minl, ax_r_maxl, ax_r_copy, ax_r_slen, ax_r_schr, ax_r_dup, ax_r_dup2, ax_r_pop, ax_r_ret, ax_r_lret, ax_r_vret, ax_r_zret, ax_r_aret, ax_r_call, ax_evo, ax_eva, ax_ar, ax_tk, ax_ex, ax_ld, ax_sto, ax_stl, ly_pm, ly_cd, ly_ln, ly_rf, Option.bind_some, Option.map_some, if_true, if_false, true_and, and_true, List.nil_append, List.cons_append, List.append_nil, List.length_nil, List.length_cons, List.headD_cons, true_or, or_true, false_or, or_false, ne_eq, not_false_eq_true, not_true_eq_false, false_and, and_false, List.set_cons_zero, List.set_cons_succ, Nat.reduceAdd, Nat.reduceSub, Nat.reduceMul, Nat.reduceLeDiff, Nat.reduceLT, Nat.reduceEqDiff, ↓reduceIte, Int.reduceNeg, Int.reduceAdd, Int.reduceSub, Int.reduceMul, Int.reduceEq, Int.reduceNe, Int.reduceLE, Int.reduceLT, Int.reduceToNat, Nat.one_ne_zero, Nat.zero_ne_one, Int.cast_ofNat_Int, lc_lt, lc_ge, lc_gt, lc_le, lc_eq, lc_ne, w32i, w64i, tdv, tmd, ltT, ltF, leT, leF, eqT, eqF, dc_Course_passWith, dc_Told_nextTo, dc_State_heat, s1, s2, s3, s4, t1, t2, t3, t4, rwrd, rwno, hN, rwup, f2]
        refine L _ fun j => ?_
        clear L fz ho hd hw s1 s2 s3 s4 t1 t2 t3 t4 hN ha ha2 ha3 hac g1 g2 g3 g4 g5 hg9 f2 hcy hfed; grind [dy_P, dy_W]
