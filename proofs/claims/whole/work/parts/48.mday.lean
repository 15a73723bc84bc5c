theorem dn_cool (n fed : Int) (S : Int → Int) (h : Int → Int → Int) (c : Int) (c0 : 0 ≤ c) (c1 : c < n) : ax_up (dy_N n fed S h n c) 129 c (dy_wa n fed S c) = dy_N n fed S h n (c + 1) := by
  funext k j
  by_cases e : k = 129
  · subst e; simp only [ax_up, dy_N, Int.reduceEq, false_and, true_and, if_false]
    by_cases a : j = c
    · rw [if_pos a, if_pos (by omega), a]
    · rw [if_neg a]
      by_cases b : 0 ≤ j ∧ j < c
      · rw [if_pos b, if_pos (by omega)]
      · rw [if_neg b, if_neg (show ¬ (0 ≤ j ∧ j < c + 1) by omega)]
  · simp only [ax_up, dy_N, e, false_and, if_false]
theorem dn_dry (n fed : Int) (S : Int → Int) (h : Int → Int → Int) (c : Int) (c0 : 0 ≤ c) {g : Int → Int → Int} (h1 : g 127 c = dy_wet n fed S c) (h2 : g 128 c = dy_bu n fed S c) (h3 : ∀ k j, ¬ (k = 127 ∧ j = c) → ¬ (k = 128 ∧ j = c) → g k j = dy_N n fed S h c 0 k j) : g = dy_N n fed S h (c + 1) 0 := by
  funext k j
  by_cases e : k = 127
  · subst e
    by_cases a : j = c
    · rw [a, h1]; simp only [dy_N, Int.reduceEq, false_and, true_and, if_false]; rw [if_pos (by omega)]
    · rw [h3 _ _ (by omega) (by omega)]; simp only [dy_N, Int.reduceEq, false_and, true_and, if_false]
      by_cases b : 0 ≤ j ∧ j < c
      · rw [if_pos b, if_pos (by omega)]
      · rw [if_neg b, if_neg (by omega)]
  · by_cases e2 : k = 128
    · subst e2
      by_cases a : j = c
      · rw [a, h2]; simp only [dy_N, Int.reduceEq, false_and, true_and, if_false]; rw [if_pos (by omega)]
      · rw [h3 _ _ (by omega) (by omega)]; simp only [dy_N, Int.reduceEq, false_and, true_and, if_false]
        by_cases b : 0 ≤ j ∧ j < c
        · rw [if_pos b, if_pos (by omega)]
        · rw [if_neg b, if_neg (by omega)]
    · rw [h3 _ _ (by omega) (by omega)]; simp only [dy_N, e, e2, false_and, if_false]
theorem dn_end (n : Int) (nd : Int → Int) (fed : Int) (S : Int → Int) (h : Int → Int → Int) {g : Int → Int → Int} (h1 : g 125 5 = S 0 + 1) (h2 : g 125 6 = dy_fi n nd fed S) (h3 : g 124 45 = (if dy_fi n nd fed S = S 10 then -1 else dy_fi n nd fed S)) (h4 : ∀ k j, ¬ (k = 125 ∧ j = 5) → ¬ (k = 125 ∧ j = 6) → ¬ (k = 124 ∧ j = 45) → g k j = dy_N n fed S h n n k j) : g = dy_M n nd fed S h := by
  funext k j
  by_cases e : k = 124 ∧ j = 45
  · rw [e.1, e.2, h3]; simp only [dy_M, Int.reduceEq, and_true, and_false, if_false, if_true, true_and]
  · by_cases e2 : k = 125 ∧ j = 5
    · rw [e2.1, e2.2, h1]; simp only [dy_M, Int.reduceEq, and_true, and_false, false_and, if_false, if_true, true_and]
    · by_cases e3 : k = 125 ∧ j = 6
      · rw [e3.1, e3.2, h2]; simp only [dy_M, Int.reduceEq, and_true, and_false, false_and, if_false, if_true, true_and]
      · rw [h4 k j e2 e3 e]; simp only [dy_M, dy_N, e, e2, e3, if_false]
        by_cases e4 : k = 129
        · subst e4; simp only [Int.reduceEq, false_and, true_and, if_false]
          by_cases b : 0 ≤ j ∧ j < n
          · rw [if_pos b, if_pos b]
          · rw [if_neg b, if_neg b, if_neg b]
        · simp only [e4, false_and, if_false]
set_option maxRecDepth 100000 in
set_option maxHeartbeats 4000000 in
theorem md_loop {h : Int → Int → Int} {n cy fed : Int} {S : Int → Int} {d : Nat} {Q : ax_V → ax_H → Prop} {nd : Int → Int} (hn : 3 ≤ n ∧ n ≤ 9) (hg : iv_gd n cy S) (hm : iv_mo n S (h 126) (h 127) (h 128) (h 129) (h 130) (h 131) (h 125 5) (h 125 6) (h 125 7) (h 125 8)) (h0 : h 125 0 = n) (hf : 0 ≤ fed)
    (hnd : ∀ y, 0 ≤ y → y < cy → h 133 y = nd y ∧ 0 ≤ nd y ∧ nd y ≤ 100000) (hcy : cy ≤ 3) (h9 : S 0 < 100000)
    (hq : Q (0, fed) (L0, dy_M n nd fed S h)) : ax_Ev (d + 4) 207 27 [(2, 124), (0, 0)] [] (L0, dy_N n fed S h 0 0) Q := by
  have hfW := fun c (c0 : 0 ≤ c) (c1 : c < n) => dy_W_r hn hg hf c0 c1
  obtain ⟨g1, g2, g3, g4, g5, g6, g7, g8⟩ := hg
  obtain ⟨m1, m2, m3, m4, m5, m6, m7⟩ := hm
  have r0 : ∀ c q, dy_N n fed S h c q 125 0 = n := by intro c q; simp [dy_N, h0]
  -- cooling
  have cool : ax_Ev (d + 4) 207 50 [(2, 124), (0, 0)] [] (L0, dy_N n fed S h n 0) Q := by
    refine lp (E := fun c => ax_Ev (d + 4) 207 50 [(2, 124), (0, c)] [] (L0, dy_N n fed S h n c) Q) (a := 0) (n := n) (by omega) ?_ ?_
    · intro c c0 c1 ih
      have w1 := hfW c c0 c1
      have p1 : dy_N n fed S h n c 129 c = dy_W n fed S c := by simp only [dy_N]; simp; intros; omega
      rw [← dn_cool n fed S h c c0 c1] at ih
      clear hq hfW g6 g7 g8 m5 m6 m7 hnd
      rw [ax_ev, dh_M_goes_50]
      simp (disch := omega) only [ax_ev, ax_kk, ax_ps, ax_r_const, ax_r_lconst, ax_r_str, ax_r_iload, ax_r_lload, ax_r_aload, ax_r_istore, ax_r_astore, ax_r_lstore, ax_r_iinc, ax_r_iadd, ax_r_isub, ax_r_imul, ax_r_idiv, ax_r_irem, ax_r_iand, ax_r_ior, ax_r_ishl, ax_r_ishr, ax_r_iushr, ax_r_i2l, ax_r_l2i, ax_r_i2b, ax_r_ladd, ax_r_lsub, ax_r_lmul, ax_r_ldiv, ax_r_lrem, ax_r_land, ax_r_lor, ax_r_lcmp, ax_r_ifeq, ax_r_ifne, ax_r_iflt, ax_r_ifge, ax_r_ifgt, ax_r_ifle, ax_r_iceq, ax_r_icne, ax_r_iclt, ax_r_icge, ax_r_icgt, ax_r_icle, ax_r_goto, ax_r_tsw, ax_evt_c, ax_evt_n, ax_r_lsw, ax_evu_c, ax_evu_n, ax_r_getI, ax_r_getR, ax_r_putI, ax_r_putZ, ax_r_iald, ax_r_iast, ax_r_lald, ax_r_last, ax_r_bald, ax_r_aald, ax_r_alen, ax_r_bast, ax_r_min, ax_r_max, ax_r_minl, ax_r_maxl, ax_r_copy, ax_r_slen, ax_r_schr, ax_r_dup, ax_r_dup2, ax_r_pop, ax_r_ret, ax_r_lret, ax_r_vret, ax_r_zret, ax_r_aret, ax_r_call, ax_evo, ax_eva, ax_ar, ax_tk, ax_ex, ax_ld, ax_sto, ax_stl, ly_pm, ly_cd, ly_ln, ly_rf, Option.bind_some, Option.map_some, if_true, if_false, true_and, and_true, List.nil_append, List.cons_append, List.append_nil, List.length_nil, List.length_cons, List.headD_cons, true_or, or_true, false_or, or_false, ne_eq, not_false_eq_true, not_true_eq_false, false_and, and_false, List.set_cons_zero, List.set_cons_succ, Nat.reduceAdd, Nat.reduceSub, Nat.reduceMul, Nat.reduceLeDiff, Nat.reduceLT, Nat.reduceEqDiff, ↓reduceIte, Int.reduceNeg, Int.reduceAdd, Int.reduceSub, Int.reduceMul, Int.reduceEq, Int.reduceNe, Int.reduceLE, Int.reduceLT, Int.reduceToNat, Nat.one_ne_zero, Nat.zero_ne_one, Int.cast_ofNat_Int, lc_lt, lc_ge, lc_gt, lc_le, lc_eq, lc_ne, w32i, w64i, tdv, tmd, ltT, ltF, leT, leF, eqT, eqF, dc_M_goes, r0, p1]
      exact ih
    · have E : ∀ g : Int → Int → Int, g 125 5 = S 0 + 1 → g 125 6 = dy_fi n nd fed S → g 124 45 = (if dy_fi n nd fed S = S 10 then -1 else dy_fi n nd fed S) → (∀ k j, ¬ (k = 125 ∧ j = 5) → ¬ (k = 125 ∧ j = 6) → ¬ (k = 124 ∧ j = 45) → g k j = dy_N n fed S h n n k j) → Q (0, fed) (L0, g) := by
        intro g h1 h2 h3 h4; rw [dn_end n nd fed S h h1 h2 h3 h4]; exact hq
      have e45 : dy_N n fed S h n n 124 45 = -1 := by simp [dy_N]
      have e44 : dy_N n fed S h n n 124 44 = fed := by simp [dy_N]
      have e6 : dy_N n fed S h n n 125 6 = S 10 := by simp [dy_N, m2]
      have e5 : dy_N n fed S h n n 125 5 = S 0 := by simp [dy_N, m1]
      by_cases e : S 10 = -1
      · have f0 : dy_fi n nd fed S = -1 := if_pos e
        rw [e] at e6
        clear hfW g6 g7 g8 m5 m6 m7 hnd hq
        rw [ax_ev, dh_M_goes_50]
        simp (disch := omega) only [ax_ev, ax_kk, ax_ps, ax_r_const, ax_r_lconst, ax_r_str, ax_r_iload, ax_r_lload, ax_r_aload, ax_r_istore, ax_r_astore, ax_r_lstore, ax_r_iinc, ax_r_iadd, ax_r_isub, ax_r_imul, ax_r_idiv, ax_r_irem, ax_r_iand, ax_r_ior, ax_r_ishl, ax_r_ishr, ax_r_iushr, ax_r_i2l, ax_r_l2i, ax_r_i2b, ax_r_ladd, ax_r_lsub, ax_r_lmul, ax_r_ldiv, ax_r_lrem, ax_r_land, ax_r_lor, ax_r_lcmp, ax_r_ifeq, ax_r_ifne, ax_r_iflt, ax_r_ifge, ax_r_ifgt, ax_r_ifle, ax_r_iceq, ax_r_icne, ax_r_iclt, ax_r_icge, ax_r_icgt, ax_r_icle, ax_r_goto, ax_r_tsw, ax_evt_c, ax_evt_n, ax_r_lsw, ax_evu_c, ax_evu_n, ax_r_getI, ax_r_getR, ax_r_putI, ax_r_putZ, ax_r_iald, ax_r_iast, ax_r_lald, ax_r_last, ax_r_bald, ax_r_aald, ax_r_alen, ax_r_bast, ax_r_min, ax_r_max, ax_r_minl, ax_r_maxl, ax_r_copy, ax_r_slen, ax_r_schr, ax_r_dup, ax_r_dup2, ax_r_pop, ax_r_ret, ax_r_lret, ax_r_vret, ax_r_zret, ax_r_aret, ax_r_call, ax_evo, ax_eva, ax_ar, ax_tk, ax_ex, ax_ld, ax_sto, ax_stl, ly_pm, ly_cd, ly_ln, ly_rf, Option.bind_some, Option.map_some, if_true, if_false, true_and, and_true, List.nil_append, List.cons_append, List.append_nil, List.length_nil, List.length_cons, List.headD_cons, true_or, or_true, false_or, or_false, ne_eq, not_false_eq_true, not_true_eq_false, false_and, and_false, List.set_cons_zero, List.set_cons_succ, Nat.reduceAdd, Nat.reduceSub, Nat.reduceMul, Nat.reduceLeDiff, Nat.reduceLT, Nat.reduceEqDiff, ↓reduceIte, Int.reduceNeg, Int.reduceAdd, Int.reduceSub, Int.reduceMul, Int.reduceEq, Int.reduceNe, Int.reduceLE, Int.reduceLT, Int.reduceToNat, Nat.one_ne_zero, Nat.zero_ne_one, Int.cast_ofNat_Int, lc_lt, lc_ge, lc_gt, lc_le, lc_eq, lc_ne, w32i, w64i, tdv, tmd, ltT, ltF, leT, leF, eqT, eqF, dc_M_goes, r0, e44, e6, e5, ax_up]
        refine E _ ?_ ?_ ?_ ?_
        · simp [ax_up]
        · simp [ax_up, f0, e, e6]
        · simp [ax_up, f0, e, e45]; try omega
        · intro k j a1 a2 a3; simp only [ax_up, a1, a2, a3, if_false]
      · have g7' := g7.resolve_left e
        have nx : 0 ≤ dy_nx n (S 10) ∧ dy_nx n (S 10) < n ∧ dy_nx n (S 10) ≠ S 10 := by unfold dy_nx; split <;> omega
        have x1 : dy_N n fed S h n n 129 (S 10) = dy_wa n fed S (S 10) := by simp only [dy_N]; simp; intros; omega
        have x2 : dy_N n fed S h n n 128 (S 10) = dy_bu n fed S (S 10) := by simp only [dy_N]; simp; intros; omega
        have x3 : dy_N n fed S h n n 126 (S 10) = S (11 + S 10) := by rw [(m7 (S 10) (by omega) (by omega)).1]; simp [dy_N]
        have x4 : dy_N n fed S h n n 126 (dy_nx n (S 10)) = S (11 + dy_nx n (S 10)) := by rw [(m7 _ nx.1 nx.2.1).1]; simp [dy_N]
        have y1 := (g8 (S 10) (by omega) (by omega)).1
        have y2 := hnd (S (11 + S 10)) (by omega) (by omega)
        have x5 : dy_N n fed S h n n 133 (S (11 + S 10)) = nd (S (11 + S 10)) := by rw [← y2.1]; simp [dy_N]
        have y4 : dy_fi n nd fed S = if dy_wa n fed S (S 10) < 5 then -1 else if dy_bu n fed S (S 10) < nd (S (11 + S 10)) then S 10 else if S (11 + dy_nx n (S 10)) = -1 then -1 else dy_nx n (S 10) := by unfold dy_fi; rw [if_neg e]
        clear hfW g6 g7 g8 m5 m6 m7 hnd hq
        rcases (by omega : dy_wa n fed S (S 10) < 5 ∨ (5 ≤ dy_wa n fed S (S 10) ∧ dy_bu n fed S (S 10) < nd (S (11 + S 10))) ∨ (5 ≤ dy_wa n fed S (S 10) ∧ nd (S (11 + S 10)) ≤ dy_bu n fed S (S 10))) with u | u | u
        · rw [if_pos u] at y4
          rw [ax_ev, dh_M_goes_50]
          simp (disch := omega) only [ax_ev, ax_kk, ax_ps, ax_r_const, ax_r_lconst, ax_r_str, ax_r_iload, ax_r_lload, ax_r_aload, ax_r_istore, ax_r_astore, ax_r_lstore, ax_r_iinc, ax_r_iadd, ax_r_isub, ax_r_imul, ax_r_idiv, ax_r_irem, ax_r_iand, ax_r_ior, ax_r_ishl, ax_r_ishr, ax_r_iushr, ax_r_i2l, ax_r_l2i, ax_r_i2b, ax_r_ladd, ax_r_lsub, ax_r_lmul, ax_r_ldiv, ax_r_lrem, ax_r_land, ax_r_lor, ax_r_lcmp, ax_r_ifeq, ax_r_ifne, ax_r_iflt, ax_r_ifge, ax_r_ifgt, ax_r_ifle, ax_r_iceq, ax_r_icne, ax_r_iclt, ax_r_icge, ax_r_icgt, ax_r_icle, ax_r_goto, ax_r_tsw, ax_evt_c, ax_evt_n, ax_r_lsw, ax_evu_c, ax_evu_n, ax_r_getI, ax_r_getR, ax_r_putI, ax_r_putZ, ax_r_iald, ax_r_iast, ax_r_lald, ax_r_last, ax_r_bald, ax_r_aald, ax_r_alen, ax_r_bast, ax_r_min, ax_r_max, ax_r_minl, ax_r_maxl, ax_r_copy, ax_r_slen, ax_r_schr, ax_r_dup, ax_r_dup2, ax_r_pop, ax_r_ret, ax_r_lret, ax_r_vret, ax_r_zret, ax_r_aret, ax_r_call, ax_evo, ax_eva, ax_ar, ax_tk, ax_ex, ax_ld, ax_sto, ax_stl, ly_pm, ly_cd, ly_ln, ly_rf, Option.bind_some, Option.map_some, if_true, if_false, true_and, and_true, List.nil_append, List.cons_append, List.append_nil, List.length_nil, List.length_cons, List.headD_cons, true_or, or_true, false_or, or_false, ne_eq, not_false_eq_true, not_true_eq_false, false_and, and_false, List.set_cons_zero, List.set_cons_succ, Nat.reduceAdd, Nat.reduceSub, Nat.reduceMul, Nat.reduceLeDiff, Nat.reduceLT, Nat.reduceEqDiff, ↓reduceIte, Int.reduceNeg, Int.reduceAdd, Int.reduceSub, Int.reduceMul, Int.reduceEq, Int.reduceNe, Int.reduceLE, Int.reduceLT, Int.reduceToNat, Nat.one_ne_zero, Nat.zero_ne_one, Int.cast_ofNat_Int, lc_lt, lc_ge, lc_gt, lc_le, lc_eq, lc_ne, w32i, w64i, tdv, tmd, ltT, ltF, leT, leF, eqT, eqF, dc_M_goes, dc_M_leads, r0, e44, e6, e5, ax_up, x1]
          refine E _ ?_ ?_ ?_ ?_
          · simp [ax_up]
          · simp [ax_up, y4, e6]
          · simp [ax_up, y4, e45]; try omega
          · intro k j a1 a2 a3; simp only [ax_up, a1, a2, a3, if_false]
        · rw [if_neg (by omega), if_pos u.2] at y4
          rw [ax_ev, dh_M_goes_50]
          simp (disch := omega) only [ax_ev, ax_kk, ax_ps, ax_r_const, ax_r_lconst, ax_r_str, ax_r_iload, ax_r_lload, ax_r_aload, ax_r_istore, ax_r_astore, ax_r_lstore, ax_r_iinc, ax_r_iadd, ax_r_isub, ax_r_imul, ax_r_idiv, ax_r_irem, ax_r_iand, ax_r_ior, ax_r_ishl, ax_r_ishr, ax_r_iushr, ax_r_i2l, ax_r_l2i, ax_r_i2b, ax_r_ladd, ax_r_lsub, ax_r_lmul, ax_r_ldiv, ax_r_lrem, ax_r_land, ax_r_lor, ax_r_lcmp, ax_r_ifeq, ax_r_ifne, ax_r_iflt, ax_r_ifge, ax_r_ifgt, ax_r_ifle, ax_r_iceq, ax_r_icne, ax_r_iclt, ax_r_icge, ax_r_icgt, ax_r_icle, ax_r_goto, ax_r_tsw, ax_evt_c, ax_evt_n, ax_r_lsw, ax_evu_c, ax_evu_n, ax_r_getI, ax_r_getR, ax_r_putI, ax_r_putZ, ax_r_iald, ax_r_iast, ax_r_lald, ax_r_last, ax_r_bald, ax_r_aald, ax_r_alen, ax_r_bast, ax_r_min, ax_r_max, ax_r_minl, ax_r_maxl, ax_r_copy, ax_r_slen, ax_r_schr, ax_r_dup, ax_r_dup2, ax_r_pop, ax_r_ret, ax_r_lret, ax_r_vret, ax_r_zret, ax_r_aret, ax_r_call, ax_evo, ax_eva, ax_ar, ax_tk, ax_ex, ax_ld, ax_sto, ax_stl, ly_pm, ly_cd, ly_ln, ly_rf, Option.bind_some, Option.map_some, if_true, if_false, true_and, and_true, List.nil_append, List.cons_append, List.append_nil, List.length_nil, List.length_cons, List.headD_cons, true_or, or_true, false_or, or_false, ne_eq, not_false_eq_true, not_true_eq_false, false_and, and_false, List.set_cons_zero, List.set_cons_succ, Nat.reduceAdd, Nat.reduceSub, Nat.reduceMul, Nat.reduceLeDiff, Nat.reduceLT, Nat.reduceEqDiff, ↓reduceIte, Int.reduceNeg, Int.reduceAdd, Int.reduceSub, Int.reduceMul, Int.reduceEq, Int.reduceNe, Int.reduceLE, Int.reduceLT, Int.reduceToNat, Nat.one_ne_zero, Nat.zero_ne_one, Int.cast_ofNat_Int, lc_lt, lc_ge, lc_gt, lc_le, lc_eq, lc_ne, w32i, w64i, tdv, tmd, ltT, ltF, leT, leF, eqT, eqF, dc_M_goes, dc_M_leads, dc_M_stateOf, r0, e44, e6, e5, ax_up, x1, x2, x3, x5]
          refine E _ ?_ ?_ ?_ ?_
          · simp [ax_up]
          · simp [ax_up, y4, e6]
          · simp [ax_up, y4, e45]; try omega
          · intro k j a1 a2 a3; simp only [ax_up, a1, a2, a3, if_false]
        · rw [if_neg (by omega), if_neg (by omega)] at y4
          rcases (by omega : (S 10 + 1 < n) ∨ (S 10 + 1 = n)) with v | v
          · have v2 : dy_nx n (S 10) = S 10 + 1 := if_pos v
            rw [v2] at x4 y4 nx
            by_cases z : S (11 + (S 10 + 1)) = -1
            · rw [if_pos z] at y4
              rcases (by omega : dy_bu n fed S (S 10) ≤ 2 * nd (S (11 + S 10)) ∨ 2 * nd (S (11 + S 10)) < dy_bu n fed S (S 10)) with k | k
              all_goals rw [ax_ev, dh_M_goes_50]
              all_goals simp (disch := omega) only [ax_ev, ax_kk, ax_ps, ax_r_const, ax_r_lconst, ax_r_str, ax_r_iload, ax_r_lload, ax_r_aload, ax_r_istore, ax_r_astore, ax_r_lstore, ax_r_iinc, ax_r_iadd, ax_r_isub, ax_r_imul, ax_r_idiv, ax_r_irem, ax_r_iand, ax_r_ior, ax_r_ishl, ax_r_ishr, ax_r_iushr, ax_r_i2l, ax_r_l2i, ax_r_i2b, ax_r_ladd, ax_r_lsub, ax_r_lmul, ax_r_ldiv, ax_r_lrem, ax_r_land, ax_r_lor, ax_r_lcmp, ax_r_ifeq, ax_r_ifne, ax_r_iflt, ax_r_ifge, ax_r_ifgt, ax_r_ifle, ax_r_iceq, ax_r_icne, ax_r_iclt, ax_r_icge, ax_r_icgt, ax_r_icle, ax_r_goto, ax_r_tsw, ax_evt_c, ax_evt_n, ax_r_lsw, ax_evu_c, ax_evu_n, ax_r_getI, ax_r_getR, ax_r_putI, ax_r_putZ, ax_r_iald, ax_r_iast, ax_r_lald, ax_r_last, ax_r_bald, ax_r_aald, ax_r_alen, ax_r_bast, ax_r_min, ax_r_max, ax_r_minl, ax_r_maxl, ax_r_copy, ax_r_slen, ax_r_schr, ax_r_dup, ax_r_dup2, ax_r_pop, ax_r_ret, ax_r_lret, ax_r_vret, ax_r_zret, ax_r_aret, ax_r_call, ax_evo, ax_eva, ax_ar, ax_tk, ax_ex, ax_ld, ax_sto, ax_stl, ly_pm, ly_cd, ly_ln, ly_rf, Option.bind_some, Option.map_some, if_true, if_false, true_and, and_true, List.nil_append, List.cons_append, List.append_nil, List.length_nil, List.length_cons, List.headD_cons, true_or, or_true, false_or, or_false, ne_eq, not_false_eq_true, not_true_eq_false, false_and, and_false, List.set_cons_zero, List.set_cons_succ, Nat.reduceAdd, Nat.reduceSub, Nat.reduceMul, Nat.reduceLeDiff, Nat.reduceLT, Nat.reduceEqDiff, ↓reduceIte, Int.reduceNeg, Int.reduceAdd, Int.reduceSub, Int.reduceMul, Int.reduceEq, Int.reduceNe, Int.reduceLE, Int.reduceLT, Int.reduceToNat, Nat.one_ne_zero, Nat.zero_ne_one, Int.cast_ofNat_Int, lc_lt, lc_ge, lc_gt, lc_le, lc_eq, lc_ne, w32i, w64i, tdv, tmd, ltT, ltF, leT, leF, eqT, eqF, dc_M_goes, dc_M_leads, dc_M_stateOf, dc_M_after, r0, e44, e6, e5, ax_up, x1, x2, x3, x5, x4]
              all_goals
                refine E _ ?_ ?_ ?_ ?_
                · simp [ax_up]
                · simp [ax_up, y4, e6]
                · simp [ax_up, y4, e45]; try omega
                · intro k j a1 a2 a3; simp only [ax_up, a1, a2, a3, if_false]
            · rw [if_neg z] at y4
              rcases (by omega : dy_bu n fed S (S 10) ≤ 2 * nd (S (11 + S 10)) ∨ 2 * nd (S (11 + S 10)) < dy_bu n fed S (S 10)) with k | k
              all_goals rw [ax_ev, dh_M_goes_50]
              all_goals simp (disch := omega) only [ax_ev, ax_kk, ax_ps, ax_r_const, ax_r_lconst, ax_r_str, ax_r_iload, ax_r_lload, ax_r_aload, ax_r_istore, ax_r_astore, ax_r_lstore, ax_r_iinc, ax_r_iadd, ax_r_isub, ax_r_imul, ax_r_idiv, ax_r_irem, ax_r_iand, ax_r_ior, ax_r_ishl, ax_r_ishr, ax_r_iushr, ax_r_i2l, ax_r_l2i, ax_r_i2b, ax_r_ladd, ax_r_lsub, ax_r_lmul, ax_r_ldiv, ax_r_lrem, ax_r_land, ax_r_lor, ax_r_lcmp, ax_r_ifeq, ax_r_ifne, ax_r_iflt, ax_r_ifge, ax_r_ifgt, ax_r_ifle, ax_r_iceq, ax_r_icne, ax_r_iclt, ax_r_icge, ax_r_icgt, ax_r_icle, ax_r_goto, ax_r_tsw, ax_evt_c, ax_evt_n, ax_r_lsw, ax_evu_c, ax_evu_n, ax_r_getI, ax_r_getR, ax_r_putI, ax_r_putZ, ax_r_iald, ax_r_iast, ax_r_lald, ax_r_last, ax_r_bald, ax_r_aald, ax_r_alen, ax_r_bast, ax_r_min, ax_r_max, ax_r_minl, ax_r_maxl, ax_r_copy, ax_r_slen, ax_r_schr, ax_r_dup, ax_r_dup2, ax_r_pop, ax_r_ret, ax_r_lret, ax_r_vret, ax_r_zret, ax_r_aret, ax_r_call, ax_evo, ax_eva, ax_ar, ax_tk, ax_ex, ax_ld, ax_sto, ax_stl, ly_pm, ly_cd, ly_ln, ly_rf, Option.bind_some, Option.map_some, if_true, if_false, true_and, and_true, List.nil_append, List.cons_append, List.append_nil, List.length_nil, List.length_cons, List.headD_cons, true_or, or_true, false_or, or_false, ne_eq, not_false_eq_true, not_true_eq_false, false_and, and_false, List.set_cons_zero, List.set_cons_succ, Nat.reduceAdd, Nat.reduceSub, Nat.reduceMul, Nat.reduceLeDiff, Nat.reduceLT, Nat.reduceEqDiff, ↓reduceIte, Int.reduceNeg, Int.reduceAdd, Int.reduceSub, Int.reduceMul, Int.reduceEq, Int.reduceNe, Int.reduceLE, Int.reduceLT, Int.reduceToNat, Nat.one_ne_zero, Nat.zero_ne_one, Int.cast_ofNat_Int, lc_lt, lc_ge, lc_gt, lc_le, lc_eq, lc_ne, w32i, w64i, tdv, tmd, ltT, ltF, leT, leF, eqT, eqF, dc_M_goes, dc_M_leads, dc_M_stateOf, dc_M_after, r0, e44, e6, e5, ax_up, x1, x2, x3, x5, x4]
              all_goals
                refine E _ ?_ ?_ ?_ ?_
                · simp [ax_up]
                · simp [ax_up, y4, e6]
                · simp [ax_up, y4, e45]; try omega
                · intro k j a1 a2 a3; simp only [ax_up, a1, a2, a3, if_false]
          · have v2 : dy_nx n (S 10) = 0 := if_neg (by omega)
            rw [v2] at x4 y4 nx
            rw [show (11 : Int) + 0 = 11 from rfl] at x4 y4
            by_cases z : S 11 = -1
            · rw [if_pos z] at y4
              rcases (by omega : dy_bu n fed S (S 10) ≤ 2 * nd (S (11 + S 10)) ∨ 2 * nd (S (11 + S 10)) < dy_bu n fed S (S 10)) with k | k
              all_goals rw [ax_ev, dh_M_goes_50]
              all_goals simp (disch := omega) only [ax_ev, ax_kk, ax_ps, ax_r_const, ax_r_lconst, ax_r_str, ax_r_iload, ax_r_lload, ax_r_aload, ax_r_istore, ax_r_astore, ax_r_lstore, ax_r_iinc, ax_r_iadd, ax_r_isub, ax_r_imul, ax_r_idiv, ax_r_irem, ax_r_iand, ax_r_ior, ax_r_ishl, ax_r_ishr, ax_r_iushr, ax_r_i2l, ax_r_l2i, ax_r_i2b, ax_r_ladd, ax_r_lsub, ax_r_lmul, ax_r_ldiv, ax_r_lrem, ax_r_land, ax_r_lor, ax_r_lcmp, ax_r_ifeq, ax_r_ifne, ax_r_iflt, ax_r_ifge, ax_r_ifgt, ax_r_ifle, ax_r_iceq, ax_r_icne, ax_r_iclt, ax_r_icge, ax_r_icgt, ax_r_icle, ax_r_goto, ax_r_tsw, ax_evt_c, ax_evt_n, ax_r_lsw, ax_evu_c, ax_evu_n, ax_r_getI, ax_r_getR, ax_r_putI, ax_r_putZ, ax_r_iald, ax_r_iast, ax_r_lald, ax_r_last, ax_r_bald, ax_r_aald, ax_r_alen, ax_r_bast, ax_r_min, ax_r_max, ax_r_minl, ax_r_maxl, ax_r_copy, ax_r_slen, ax_r_schr, ax_r_dup, ax_r_dup2, ax_r_pop, ax_r_ret, ax_r_lret, ax_r_vret, ax_r_zret, ax_r_aret, ax_r_call, ax_evo, ax_eva, ax_ar, ax_tk, ax_ex, ax_ld, ax_sto, ax_stl, ly_pm, ly_cd, ly_ln, ly_rf, Option.bind_some, Option.map_some, if_true, if_false, true_and, and_true, List.nil_append, List.cons_append, List.append_nil, List.length_nil, List.length_cons, List.headD_cons, true_or, or_true, false_or, or_false, ne_eq, not_false_eq_true, not_true_eq_false, false_and, and_false, List.set_cons_zero, List.set_cons_succ, Nat.reduceAdd, Nat.reduceSub, Nat.reduceMul, Nat.reduceLeDiff, Nat.reduceLT, Nat.reduceEqDiff, ↓reduceIte, Int.reduceNeg, Int.reduceAdd, Int.reduceSub, Int.reduceMul, Int.reduceEq, Int.reduceNe, Int.reduceLE, Int.reduceLT, Int.reduceToNat, Nat.one_ne_zero, Nat.zero_ne_one, Int.cast_ofNat_Int, lc_lt, lc_ge, lc_gt, lc_le, lc_eq, lc_ne, w32i, w64i, tdv, tmd, ltT, ltF, leT, leF, eqT, eqF, dc_M_goes, dc_M_leads, dc_M_stateOf, dc_M_after, r0, e44, e6, e5, ax_up, x1, x2, x3, x5, x4]
              all_goals
                refine E _ ?_ ?_ ?_ ?_
                · simp [ax_up]
                · simp [ax_up, y4, e6]
                · simp [ax_up, y4, e45]; try omega
                · intro k j a1 a2 a3; simp only [ax_up, a1, a2, a3, if_false]
            · rw [if_neg z] at y4
              rcases (by omega : dy_bu n fed S (S 10) ≤ 2 * nd (S (11 + S 10)) ∨ 2 * nd (S (11 + S 10)) < dy_bu n fed S (S 10)) with k | k
              all_goals rw [ax_ev, dh_M_goes_50]
              all_goals simp (disch := omega) only [ax_ev, ax_kk, ax_ps, ax_r_const, ax_r_lconst, ax_r_str, ax_r_iload, ax_r_lload, ax_r_aload, ax_r_istore, ax_r_astore, ax_r_lstore, ax_r_iinc, ax_r_iadd, ax_r_isub, ax_r_imul, ax_r_idiv, ax_r_irem, ax_r_iand, ax_r_ior, ax_r_ishl, ax_r_ishr, ax_r_iushr, ax_r_i2l, ax_r_l2i, ax_r_i2b, ax_r_ladd, ax_r_lsub, ax_r_lmul, ax_r_ldiv, ax_r_lrem, ax_r_land, ax_r_lor, ax_r_lcmp, ax_r_ifeq, ax_r_ifne, ax_r_iflt, ax_r_ifge, ax_r_ifgt, ax_r_ifle, ax_r_iceq, ax_r_icne, ax_r_iclt, ax_r_icge, ax_r_icgt, ax_r_icle, ax_r_goto, ax_r_tsw, ax_evt_c, ax_evt_n, ax_r_lsw, ax_evu_c, ax_evu_n, ax_r_getI, ax_r_getR, ax_r_putI, ax_r_putZ, ax_r_iald, ax_r_iast, ax_r_lald, ax_r_last, ax_r_bald, ax_r_aald, ax_r_alen, ax_r_bast, ax_r_min, ax_r_max, ax_r_minl, ax_r_maxl, ax_r_copy, ax_r_slen, ax_r_schr, ax_r_dup, ax_r_dup2, ax_r_pop, ax_r_ret, ax_r_lret, ax_r_vret, ax_r_zret, ax_r_aret, ax_r_call, ax_evo, ax_eva, ax_ar, ax_tk, ax_ex, ax_ld, ax_sto, ax_stl, ly_pm, ly_cd, ly_ln, ly_rf, Option.bind_some, Option.map_some, if_true, if_false, true_and, and_true, List.nil_append, List.cons_append, List.append_nil, List.length_nil, List.length_cons, List.headD_cons, true_or, or_true, false_or, or_false, ne_eq, not_false_eq_true, not_true_eq_false, false_and, and_false, List.set_cons_zero, List.set_cons_succ, Nat.reduceAdd, Nat.reduceSub, Nat.reduceMul, Nat.reduceLeDiff, Nat.reduceLT, Nat.reduceEqDiff, ↓reduceIte, Int.reduceNeg, Int.reduceAdd, Int.reduceSub, Int.reduceMul, Int.reduceEq, Int.reduceNe, Int.reduceLE, Int.reduceLT, Int.reduceToNat, Nat.one_ne_zero, Nat.zero_ne_one, Int.cast_ofNat_Int, lc_lt, lc_ge, lc_gt, lc_le, lc_eq, lc_ne, w32i, w64i, tdv, tmd, ltT, ltF, leT, leF, eqT, eqF, dc_M_goes, dc_M_leads, dc_M_stateOf, dc_M_after, r0, e44, e6, e5, ax_up, x1, x2, x3, x5, x4]
              all_goals
                refine E _ ?_ ?_ ?_ ?_
                · simp [ax_up]
                · simp [ax_up, y4, e6]
                · simp [ax_up, y4, e45]; try omega
                · intro k j a1 a2 a3; simp only [ax_up, a1, a2, a3, if_false]
  refine lp (E := fun c => ax_Ev (d + 4) 207 27 [(2, 124), (0, c)] [] (L0, dy_N n fed S h c 0) Q) (a := 0) (n := n) (by omega) ?_ ?_
  · intro c c0 c1 ih
    have w1 := hfW c c0 c1
    have p1 : dy_N n fed S h c 0 129 c = dy_W n fed S c := by simp only [dy_N]; simp; intros; omega
    obtain ⟨q1, q2, q3, q4⟩ := m7 c c0 c1
    have p2 : dy_N n fed S h c 0 126 c = S (11 + c) := by rw [q1]; simp [dy_N]
    have p3 : dy_N n fed S h c 0 127 c = S (20 + c) := by rw [q2]; simp [dy_N]
    have p4 : dy_N n fed S h c 0 128 c = S (29 + c) := by rw [q3]; simp [dy_N]
    have q8 := g8 c c0 (by omega)
    have E : ∀ g : Int → Int → Int, g 127 c = dy_wet n fed S c → g 128 c = dy_bu n fed S c → (∀ k j, ¬ (k = 127 ∧ j = c) → ¬ (k = 128 ∧ j = c) → g k j = dy_N n fed S h c 0 k j) → ax_Ev (d + 4) 207 27 [(2, 124), (0, c + 1)] [] (L0, g) Q := by
      intro g h1 h2 h3; rw [dn_dry n fed S h c c0 h1 h2 h3]; exact ih
    clear ih hq hfW g6 g7 g8 m5 m6 m7 cool hnd
    rcases (by omega : S (11 + c) = -1 ∨ (S (11 + c) ≠ -1 ∧ 0 < S (20 + c) ∧ dy_W n fed S c / 8 < S (20 + c)) ∨ (S (11 + c) ≠ -1 ∧ 0 < S (20 + c) ∧ S (20 + c) ≤ dy_W n fed S c / 8) ∨ (S (11 + c) ≠ -1 ∧ S (20 + c) = 0 ∧ S (29 + c) + dy_W n fed S c / 8 ≤ 200) ∨ (S (11 + c) ≠ -1 ∧ S (20 + c) = 0 ∧ 200 < S (29 + c) + dy_W n fed S c / 8)) with e | e | e | e | e
    all_goals rw [ax_ev, dh_M_goes_27]
    all_goals simp (disch := omega) only [ax_ev, ax_kk, ax_ps, ax_r_const, ax_r_lconst, ax_r_str, ax_r_iload, ax_r_lload, ax_r_aload, ax_r_istore, ax_r_astore, ax_r_lstore, ax_r_iinc, ax_r_iadd, ax_r_isub, ax_r_imul, ax_r_idiv, ax_r_irem, ax_r_iand, ax_r_ior, ax_r_ishl, ax_r_ishr, ax_r_iushr, ax_r_i2l, ax_r_l2i, ax_r_i2b, ax_r_ladd, ax_r_lsub, ax_r_lmul, ax_r_ldiv, ax_r_lrem, ax_r_land, ax_r_lor, ax_r_lcmp, ax_r_ifeq, ax_r_ifne, ax_r_iflt, ax_r_ifge, ax_r_ifgt, ax_r_ifle, ax_r_iceq, ax_r_icne, ax_r_iclt, ax_r_icge, ax_r_icgt, ax_r_icle, ax_r_goto, ax_r_tsw, ax_evt_c, ax_evt_n, ax_r_lsw, ax_evu_c, ax_evu_n, ax_r_getI, ax_r_getR, ax_r_putI, ax_r_putZ, ax_r_iald, ax_r_iast, ax_r_lald, ax_r_last, ax_r_bald, ax_r_aald, ax_r_alen, ax_r_bast, ax_r_min, ax_r_max, ax_r_minl, ax_r_maxl, ax_r_copy, ax_r_slen, ax_r_schr, ax_r_dup, ax_r_dup2, ax_r_pop, ax_r_ret, ax_r_lret, ax_r_vret, ax_r_zret, ax_r_aret, ax_r_call, ax_evo, ax_eva, ax_ar, ax_tk, ax_ex, ax_ld, ax_sto, ax_stl, ly_pm, ly_cd, ly_ln, ly_rf, Option.bind_some, Option.map_some, if_true, if_false, true_and, and_true, List.nil_append, List.cons_append, List.append_nil, List.length_nil, List.length_cons, List.headD_cons, true_or, or_true, false_or, or_false, ne_eq, not_false_eq_true, not_true_eq_false, false_and, and_false, List.set_cons_zero, List.set_cons_succ, Nat.reduceAdd, Nat.reduceSub, Nat.reduceMul, Nat.reduceLeDiff, Nat.reduceLT, Nat.reduceEqDiff, ↓reduceIte, Int.reduceNeg, Int.reduceAdd, Int.reduceSub, Int.reduceMul, Int.reduceEq, Int.reduceNe, Int.reduceLE, Int.reduceLT, Int.reduceToNat, Nat.one_ne_zero, Nat.zero_ne_one, Int.cast_ofNat_Int, lc_lt, lc_ge, lc_gt, lc_le, lc_eq, lc_ne, w32i, w64i, tdv, tmd, ltT, ltF, leT, leF, eqT, eqF, dc_M_goes, dc_M_dries, r0, p1, p2, p3, p4]
    all_goals refine E _ ?_ ?_ ?_
    all_goals clear E
    all_goals first | (intro k j b1 b2; simp only [ax_up, b1, b2, if_false]; done) | skip
    all_goals simp only [ax_up, Int.reduceEq, false_and, true_and, if_false, if_true, p3, p4, dy_wet, dy_bu]
    all_goals repeat' split
    all_goals omega
  · rw [ax_ev, dh_M_goes_27]
    clear hfW g6 g7 g8 m5 m6 m7 hnd
    simp (disch := omega) only [ax_ev, ax_kk, ax_ps, ax_r_const, ax_r_lconst, ax_r_str, ax_r_iload, ax_r_lload, ax_r_aload, ax_r_istore, ax_r_astore, ax_r_lstore, ax_r_iinc, ax_r_iadd, ax_r_isub, ax_r_imul, ax_r_idiv, ax_r_irem, ax_r_iand, ax_r_ior, ax_r_ishl, ax_r_ishr, ax_r_iushr, ax_r_i2l, ax_r_l2i, ax_r_i2b, ax_r_ladd, ax_r_lsub, ax_r_lmul, ax_r_ldiv, ax_r_lrem, ax_r_land, ax_r_lor, ax_r_lcmp, ax_r_ifeq, ax_r_ifne, ax_r_iflt, ax_r_ifge, ax_r_ifgt, ax_r_ifle, ax_r_iceq, ax_r_icne, ax_r_iclt, ax_r_icge, ax_r_icgt, ax_r_icle, ax_r_goto, ax_r_tsw, ax_evt_c, ax_evt_n, ax_r_lsw, ax_evu_c, ax_evu_n, ax_r_getI, ax_r_getR, ax_r_putI, ax_r_putZ, ax_r_iald, ax_r_iast, ax_r_lald, ax_r_last, ax_r_bald, ax_r_aald, ax_r_alen, ax_r_bast, ax_r_min, ax_r_max, ax_r_minl, ax_r_maxl, ax_r_copy, ax_r_slen, ax_r_schr, ax_r_dup, ax_r_dup2, ax_r_pop, ax_r_ret, ax_r_lret, ax_r_vret, ax_r_zret, ax_r_aret, ax_r_call, ax_evo, ax_eva, ax_ar, ax_tk, ax_ex, ax_ld, ax_sto, ax_stl, ly_pm, ly_cd, ly_ln, ly_rf, Option.bind_some, Option.map_some, if_true, if_false, true_and, and_true, List.nil_append, List.cons_append, List.append_nil, List.length_nil, List.length_cons, List.headD_cons, true_or, or_true, false_or, or_false, ne_eq, not_false_eq_true, not_true_eq_false, false_and, and_false, List.set_cons_zero, List.set_cons_succ, Nat.reduceAdd, Nat.reduceSub, Nat.reduceMul, Nat.reduceLeDiff, Nat.reduceLT, Nat.reduceEqDiff, ↓reduceIte, Int.reduceNeg, Int.reduceAdd, Int.reduceSub, Int.reduceMul, Int.reduceEq, Int.reduceNe, Int.reduceLE, Int.reduceLT, Int.reduceToNat, Nat.one_ne_zero, Nat.zero_ne_one, Int.cast_ofNat_Int, lc_lt, lc_ge, lc_gt, lc_le, lc_eq, lc_ne, w32i, w64i, tdv, tmd, ltT, ltF, leT, leF, eqT, eqF, dc_M_goes, r0]
    exact cool
