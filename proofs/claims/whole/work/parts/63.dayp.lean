theorem st_32 : isSt 32 := by unfold isSt; simp only [ly_cd, ly_rf, ly_ln, Int.reduceAdd]; decide
theorem td_25 : isTd 25 := by unfold isTd; simp only [ly_cd, ly_rf, ly_ln, Int.reduceAdd]; decide
/-- the rule in force, by the invariant -/
theorem iv_rule {h : Int → Int → Int} (hi : iv_h h) : ∃ W, h 24 5 = -1 ∨ (0 ≤ h 24 5 ∧ h 24 5 < h 11 3 ∧ iv_rx h (h 24 5) W) := by
  have hi' := hi
  obtain ⟨⟨a1, a2, a3, a4, a5, a6, a7, a8, a9⟩, ⟨b1, b2, b3, b4, b5, b6, b7, b8⟩, c1, c2, c3, c4, c5, c6, c7, c8, c9, c10, ⟨⟨m1, m2, m3, m4, m5, m6, m7⟩, ⟨g1, g2, g3, g4, g5, g6, g7, g8⟩, g9⟩, r1, tp⟩ := iv_get hi
  obtain ⟨-, -, -, ⟨-, -, -, r4⟩, -⟩ := hi'
  by_cases e : h 24 5 = -1
  · exact ⟨fun _ => 0, .inl e⟩
  · obtain ⟨W, hW⟩ := r4 (h 24 5) (by omega) (by omega)
    exact ⟨W, .inr ⟨by omega, by omega, hW⟩⟩
theorem iv_rx_same {h h' : Int → Int → Int} {r : Int} {W : (Int → Int) → Int} (hi : iv_rx h r W) (r0 : 0 ≤ r) (r6 : r < 6) (e : ∀ k j, (12 ≤ k ∧ k ≤ 19) ∨ (148 ≤ k ∧ k ≤ 153) → h' k j = h k j) : iv_rx h' r W :=
  iv_rx_congr hi (fun j => e _ _ (by omega)) (e _ _ (by omega)) (fun j _ _ => ⟨e _ _ (by omega), e _ _ (by omega)⟩) (e _ _ (by omega)) (fun j _ _ => ⟨e _ _ (by omega), e _ _ (by omega), e _ _ (by omega)⟩)
set_option maxRecDepth 100000 in
set_option maxHeartbeats 4000000 in
theorem pr_day : lw_pair Inv 0 124 0 121 204 := by
  refine iv_p0 fun h hi => ?_
  have hI : Inv (L0, h) := ⟨rfl, hi⟩
  obtain ⟨W, hW⟩ := iv_rule hi
  have hi' := hi
  obtain ⟨⟨a1, a2, a3, a4, a5, a6, a7, a8, a9⟩, ⟨b1, b2, b3, b4, b5, b6, b7, b8⟩, c1, c2, c3, c4, c5, c6, c7, c8, c9, c10, ⟨⟨m1, m2, m3, m4, m5, m6, m7⟩, ⟨g1, g2, g3, g4, g5, g6, g7, g8⟩, g9⟩, r1, tp⟩ := iv_get hi
  have h43 : h 124 43 = -1 := hi'.2.2.2.2.2
  have hgd : iv_gd (h 25 0) (h 25 2) (h 33) := ⟨g1, g2, g3, g4, g5, g6, g7, g8⟩
  have hmo : iv_mo (h 25 0) (h 33) (h 126) (h 127) (h 128) (h 129) (h 130) (h 131) (h 125 5) (h 125 6) (h 125 7) (h 125 8) := ⟨m1, m2, m3, m4, m5, m6, m7⟩
  unfold iv_ok
  rcases (by omega : h 25 0 = 0 ∨ (3 ≤ h 25 0 ∧ h 25 0 ≤ 9 ∧ h 33 0 = 999) ∨ (3 ≤ h 25 0 ∧ h 25 0 ≤ 9 ∧ h 33 0 < 999)) with e | e | e
  · clear hi hi' b1 b2 b3 b4 b5 b6 b7 b8 c1 c2 c3 c4 c5 c6 c7 c8 c9 c10 m2 m3 m4 m5 m6 m7 g2 g3 g4 g5 g6 g7 g8 r1 tp hW hgd hmo
    simp (disch := omega) only [ax_ev, ax_kk, ax_ps, ax_r_const, ax_r_lconst, ax_r_str, ax_r_iload, ax_r_lload, ax_r_aload, ax_r_istore, ax_r_astore, ax_r_lstore, ax_r_iinc, ax_r_iadd, ax_r_isub, ax_r_imul, ax_r_idiv, ax_r_irem, ax_r_iand, ax_r_ior, ax_r_ishl, ax_r_ishr, ax_r_iushr, ax_r_i2l, ax_r_l2i, ax_r_i2b, ax_r_ladd, ax_r_lsub, ax_r_lmul, ax_r_ldiv, ax_r_lrem, ax_r_land, ax_r_lor, ax_r_lcmp, ax_r_ifeq, ax_r_ifne, ax_r_iflt, ax_r_ifge, ax_r_ifgt, ax_r_ifle, ax_r_iceq, ax_r_icne, ax_r_iclt, ax_r_icge, ax_r_icgt, ax_r_icle, ax_r_goto, ax_r_tsw, ax_evt_c, ax_evt_n, ax_r_lsw, ax_evu_c, ax_evu_n, ax_r_getI, ax_r_getR, ax_r_putI, ax_r_putZ, ax_r_iald, ax_r_iast, ax_r_lald, ax_r_last, ax_r_bald, ax_r_aald, ax_r_alen, ax_r_bast, ax_r_min, ax_r_max, ax_r_minl, ax_r_maxl, ax_r_copy, ax_r_slen, ax_r_schr, ax_r_dup, ax_r_dup2, ax_r_pop, ax_r_ret, ax_r_lret, ax_r_vret, ax_r_zret, ax_r_aret, ax_r_call, ax_evo, ax_eva, ax_ar, ax_tk, ax_ex, ax_ld, ax_sto, ax_stl, ly_pm, ly_cd, ly_ln, ly_rf, Option.bind_some, Option.map_some, if_true, if_false, true_and, and_true, List.nil_append, List.cons_append, List.append_nil, List.length_nil, List.length_cons, List.headD_cons, true_or, or_true, false_or, or_false, ne_eq, not_false_eq_true, not_true_eq_false, false_and, and_false, List.set_cons_zero, List.set_cons_succ, Nat.reduceAdd, Nat.reduceSub, Nat.reduceMul, Nat.reduceLeDiff, Nat.reduceLT, Nat.reduceEqDiff, ↓reduceIte, Int.reduceNeg, Int.reduceAdd, Int.reduceSub, Int.reduceMul, Int.reduceEq, Int.reduceNe, Int.reduceLE, Int.reduceLT, Int.reduceToNat, Nat.one_ne_zero, Nat.zero_ne_one, Int.cast_ofNat_Int, lc_lt, lc_ge, lc_gt, lc_le, lc_eq, lc_ne, w32i, w64i, tdv, tmd, ltT, ltF, leT, leF, eqT, eqF, dc_RingKiln_day, dc_Works_isBuilt, dc_M_day, dc_M_isKiln, List.map_nil, a1, Prod.mk.injEq, hI]
  · clear hi hi' b1 b2 b3 b4 b5 b6 b7 b8 c1 c2 c3 c4 c5 c6 c7 c8 c9 c10 m2 m3 m4 m5 m6 m7 g2 g3 g4 g5 g6 g7 g8 r1 tp hW hgd hmo
    simp (disch := omega) only [ax_ev, ax_kk, ax_ps, ax_r_const, ax_r_lconst, ax_r_str, ax_r_iload, ax_r_lload, ax_r_aload, ax_r_istore, ax_r_astore, ax_r_lstore, ax_r_iinc, ax_r_iadd, ax_r_isub, ax_r_imul, ax_r_idiv, ax_r_irem, ax_r_iand, ax_r_ior, ax_r_ishl, ax_r_ishr, ax_r_iushr, ax_r_i2l, ax_r_l2i, ax_r_i2b, ax_r_ladd, ax_r_lsub, ax_r_lmul, ax_r_ldiv, ax_r_lrem, ax_r_land, ax_r_lor, ax_r_lcmp, ax_r_ifeq, ax_r_ifne, ax_r_iflt, ax_r_ifge, ax_r_ifgt, ax_r_ifle, ax_r_iceq, ax_r_icne, ax_r_iclt, ax_r_icge, ax_r_icgt, ax_r_icle, ax_r_goto, ax_r_tsw, ax_evt_c, ax_evt_n, ax_r_lsw, ax_evu_c, ax_evu_n, ax_r_getI, ax_r_getR, ax_r_putI, ax_r_putZ, ax_r_iald, ax_r_iast, ax_r_lald, ax_r_last, ax_r_bald, ax_r_aald, ax_r_alen, ax_r_bast, ax_r_min, ax_r_max, ax_r_minl, ax_r_maxl, ax_r_copy, ax_r_slen, ax_r_schr, ax_r_dup, ax_r_dup2, ax_r_pop, ax_r_ret, ax_r_lret, ax_r_vret, ax_r_zret, ax_r_aret, ax_r_call, ax_evo, ax_eva, ax_ar, ax_tk, ax_ex, ax_ld, ax_sto, ax_stl, ly_pm, ly_cd, ly_ln, ly_rf, Option.bind_some, Option.map_some, if_true, if_false, true_and, and_true, List.nil_append, List.cons_append, List.append_nil, List.length_nil, List.length_cons, List.headD_cons, true_or, or_true, false_or, or_false, ne_eq, not_false_eq_true, not_true_eq_false, false_and, and_false, List.set_cons_zero, List.set_cons_succ, Nat.reduceAdd, Nat.reduceSub, Nat.reduceMul, Nat.reduceLeDiff, Nat.reduceLT, Nat.reduceEqDiff, ↓reduceIte, Int.reduceNeg, Int.reduceAdd, Int.reduceSub, Int.reduceMul, Int.reduceEq, Int.reduceNe, Int.reduceLE, Int.reduceLT, Int.reduceToNat, Nat.one_ne_zero, Nat.zero_ne_one, Int.cast_ofNat_Int, lc_lt, lc_ge, lc_gt, lc_le, lc_eq, lc_ne, w32i, w64i, tdv, tmd, ltT, ltF, leT, leF, eqT, eqF, dc_RingKiln_day, dc_Works_isBuilt, dc_M_day, dc_M_isKiln, List.map_nil, a1, Prod.mk.injEq, hI]
  · have hn : 3 ≤ h 25 0 ∧ h 25 0 ≤ 9 := ⟨e.1, e.2.1⟩
    have hnd : ∀ y, 0 ≤ y → y < h 25 2 → 0 ≤ h 27 y ∧ h 27 y ≤ 100000 := fun y y0 y1 => by have := (b6 y y0 y1).2; omega
    have X : ∀ S' k j, k ≠ 33 → k ≠ 24 → k ≠ 34 → ax_rw (ac_r h) 33 S' k j = h k j := fun S' k j a b c => by rw [rwno _ _ _ _ _ a, acr _ _ _ b c]
    have X5 : ∀ S', ax_rw (ac_r h) 33 S' 24 5 = h 24 5 := by intro S'; rw [rwno _ _ _ _ _ (by omega)]; simp [ac_r, ax_up, ax_cp]
    have X27 : ∀ S', ax_rw (ac_r h) 33 S' 27 = h 27 := by intro S'; funext j; exact X _ _ _ (by omega) (by omega) (by omega)
    have X33 : ∀ S', ax_rw (ac_r h) 33 S' 33 = S' := by intro S'; funext j; exact rwrd _ _ _ _
    have hrr : h 24 5 = -1 ∨ (0 ≤ h 24 5 ∧ iv_rx h (h 24 5) W) := by rcases hW with q | q; exact .inl q; exact .inr ⟨q.1, q.2.2⟩
    have hwr := w_r hn hgd (by omega) hnd hrr
    -- the reference, behind the class
    have B : ∀ h1, (∀ k j, k ≠ 20 → k ≠ 23 → k ≠ 33 → h1 k j = ax_rw (ac_r h) 33 (h 33) k j) → (∀ j, h1 33 j = dyF (h 25 0) (h 27) (dy_fed (h 33) (dy_w (h 25 0) (h 27) W (h 24 5) (h 33))) (h 33) j) → ax_Ev (40) 204 0 [(2, 124)] [] (L0, h1) (fun r2 H2 => r2 = (0, dy_fed (h 33) (dy_w (h 25 0) (h 27) W (h 24 5) (h 33))) ∧ Inv H2) := by
      intro h1 k1 k2
      generalize hw' : dy_w (h 25 0) (h 27) W (h 24 5) (h 33) = w at *
      generalize hfd : dy_fed (h 33) w = fed at *
      have hfr : 0 ≤ fed ∧ fed ≤ h 33 1 := by rw [← hfd]; exact fed_r hgd hwr.1
      have Y : ∀ k j, k ≠ 20 → k ≠ 23 → k ≠ 33 → k ≠ 24 → k ≠ 34 → h1 k j = h k j := fun k j a b c d e => by rw [k1 k j a b c, X _ _ _ c d e]
      have y0 := Y 125 0 (by omega) (by omega) (by omega) (by omega) (by omega)
      have y5 := Y 125 5 (by omega) (by omega) (by omega) (by omega) (by omega)
      have y48 := Y 124 48 (by omega) (by omega) (by omega) (by omega) (by omega)
      have G : ax_Ev (39) 206 0 [(2, 124), (9, 0)] [] (L0, h1) (ax_k 40 204 25 [(2, 124)] [] (fun r2 H2 => r2 = (0, fed) ∧ Inv H2)) := by
        refine mk_act (d := 34) (m := h 24 4) (by rw [y48]; exact a9) c5.1 c5.2 ?_
        intro g q1 q2 q3 q4
        have R : ∀ k j, k ≠ 20 → k ≠ 23 → k ≠ 33 → k ≠ 24 → k ≠ 34 → k ≠ 157 → ¬ (k = 124 ∧ (j = 48 ∨ j = 49 ∨ j = 50)) → g k j = h k j := fun k j a b c d e f l => by rw [q1 k j f l, Y k j a b c d e]
        have Rr : ∀ k, 125 ≤ k → k ≤ 139 → g k = h k := fun k a b => by funext j; exact R k j (by omega) (by omega) (by omega) (by omega) (by omega) (by omega) (by omega)
        rw [ax_kk]
        have G2 : ax_Ev (39) 207 0 [(2, 124), (9, 0)] [] (L0, g) (ax_k 40 204 29 [(2, 124)] [] (fun r2 H2 => r2 = (0, fed) ∧ Inv H2)) := by
          rw [← hfd]
          refine md_goes (d := 30) (n := h 25 0) (cy := h 25 2) (S := h 33) (nd := h 27) (w := w) (r := h 24 5) (W := W) hn hgd (by rw [Rr 126 (by omega) (by omega), Rr 127 (by omega) (by omega), Rr 128 (by omega) (by omega), Rr 129 (by omega) (by omega), Rr 130 (by omega) (by omega), Rr 131 (by omega) (by omega), Rr 125 (by omega) (by omega)]; exact hmo) (by rw [Rr 125 (by omega) (by omega)]; exact a1) (fun y y0 y1 => ⟨by rw [Rr 133 (by omega) (by omega)]; exact (c7 y y0 y1).2.symm, hnd y y0 y1⟩) b3.2 (by omega) (.inr ⟨?_, hw'.symm, ?_, ?_⟩) ?_
          · rw [R 124 43 (by omega) (by omega) (by omega) (by omega) (by omega) (by omega) (by omega)]; exact h43
          · rw [Rr 125 (by omega) (by omega)]; exact a8
          · rcases hW with q | q
            · exact .inl q
            · exact .inr ⟨q.1, by omega, iv_rx_same q.2.2 q.1 (by omega) fun k j q => R k j (by omega) (by omega) (by omega) (by omega) (by omega) (by omega) (by omega)⟩
          · rw [hfd]
            intro g' hg'
            rw [ax_kk]
            simp only [ax_ev, ax_kk, ax_ps, ax_r_const, ax_r_lconst, ax_r_str, ax_r_iload, ax_r_lload, ax_r_aload, ax_r_istore, ax_r_astore, ax_r_lstore, ax_r_iinc, ax_r_iadd, ax_r_isub, ax_r_imul, ax_r_idiv, ax_r_irem, ax_r_iand, ax_r_ior, ax_r_ishl, ax_r_ishr, ax_r_iushr, ax_r_i2l, ax_r_l2i, ax_r_i2b, ax_r_ladd, ax_r_lsub, ax_r_lmul, ax_r_ldiv, ax_r_lrem, ax_r_land, ax_r_lor, ax_r_lcmp, ax_r_ifeq, ax_r_ifne, ax_r_iflt, ax_r_ifge, ax_r_ifgt, ax_r_ifle, ax_r_iceq, ax_r_icne, ax_r_iclt, ax_r_icge, ax_r_icgt, ax_r_icle, ax_r_goto, ax_r_tsw, ax_evt_c, ax_evt_n, ax_r_lsw, ax_evu_c, ax_evu_n, ax_r_getI, ax_r_getR, ax_r_putI, ax_r_putZ, ax_r_iald, ax_r_iast, ax_r_lald, ax_r_last, ax_r_bald, ax_r_aald, ax_r_alen, ax_r_bast, ax_r_min, ax_r_max, ax_r_minl, ax_r_maxl, ax_r_copy, ax_r_slen, ax_r_schr, ax_r_dup, ax_r_dup2, ax_r_pop, ax_r_ret, ax_r_lret, ax_r_vret, ax_r_zret, ax_r_aret, ax_r_call, ax_evo, ax_eva, ax_ar, ax_tk, ax_ex, ax_ld, ax_sto, ax_stl, ly_pm, ly_cd, ly_ln, ly_rf, Option.bind_some, Option.map_some, if_true, if_false, true_and, and_true, List.nil_append, List.cons_append, List.append_nil, List.length_nil, List.length_cons, List.headD_cons, true_or, or_true, false_or, or_false, ne_eq, not_false_eq_true, not_true_eq_false, false_and, and_false, List.set_cons_zero, List.set_cons_succ, Nat.reduceAdd, Nat.reduceSub, Nat.reduceMul, Nat.reduceLeDiff, Nat.reduceLT, Nat.reduceEqDiff, ↓reduceIte, Int.reduceNeg, Int.reduceAdd, Int.reduceSub, Int.reduceMul, Int.reduceEq, Int.reduceNe, Int.reduceLE, Int.reduceLT, Int.reduceToNat, Nat.one_ne_zero, Nat.zero_ne_one, Int.cast_ofNat_Int, lc_lt, lc_ge, lc_gt, lc_le, lc_eq, lc_ne, dc_M_day]
            refine iv_mk ?_
            have hmo' : iv_mo (h 25 0) (dyF (h 25 0) (h 27) fed (h 33)) (g' 126) (g' 127) (g' 128) (g' 129) (g' 130) (g' 131) (g' 125 5) (g' 125 6) (g' 125 7) (g' 125 8) := mo_day (h := g) hn (by rw [Rr 126 (by omega) (by omega), Rr 127 (by omega) (by omega), Rr 128 (by omega) (by omega), Rr 129 (by omega) (by omega), Rr 130 (by omega) (by omega), Rr 131 (by omega) (by omega), Rr 125 (by omega) (by omega)]; exact hmo) hg'
            have Z : ∀ k j, k ≠ 20 → k ≠ 23 → h1 k j = ax_rw (ac_r h) 33 (dyF (h 25 0) (h 27) fed (h 33)) k j := by
              intro k j a b
              by_cases c : k = 33
              · subst c; rw [rwrd, k2 j]
              · rw [k1 k j a b c, rwno _ _ _ _ _ c, rwno _ _ _ _ _ c]
            refine iv_act3 (S' := dyF (h 25 0) (h 27) fed (h 33)) hi' (by omega) ?_ q2 ?_ ?_ ?_ (gd_day hn hgd hfr) (by rw [dyF_0]; omega) hmo'
            · intro a j a1 a2 a3 a4; rw [q1 a j a3 a4, Z a j a1 a2]
            · intro j j0 j1; rw [q3 j j0 j1, Z _ _ (by omega) (by omega)]
            · obtain ⟨u1, u2, u3, u4, u5, u6, u7⟩ := q4
              refine ⟨?_, ?_, ?_, ?_, fun c c0 c1 => ⟨?_, ?_, ?_, ?_⟩, fun c c0 c1 => ?_, fun c c0 c1 => ?_⟩
              · rw [u1, Z _ _ (by omega) (by omega)]
              · rw [u2, Z _ _ (by omega) (by omega)]
              · rw [u3, Z _ _ (by omega) (by omega)]
              · rw [u4, Z _ _ (by omega) (by omega)]
              · rw [(u5 c c0 c1).1, Z _ _ (by omega) (by omega)]
              · rw [(u5 c c0 c1).2.1, Z _ _ (by omega) (by omega)]
              · rw [(u5 c c0 c1).2.2.1, Z _ _ (by omega) (by omega)]
              · rw [(u5 c c0 c1).2.2.2, Z _ _ (by omega) (by omega)]
              · rw [u6 c c0 c1, Z _ _ (by omega) (by omega)]
              · rw [u7 c c0 c1, Z _ _ (by omega) (by omega)]
            · intro a j e1 e2 e3 e4 e5
              rw [hg' a j e4 e5]; unfold dy_M
              repeat rw [if_neg (by omega)]
        simp only [ax_ev, ax_kk, ax_ps, ax_r_const, ax_r_lconst, ax_r_str, ax_r_iload, ax_r_lload, ax_r_aload, ax_r_istore, ax_r_astore, ax_r_lstore, ax_r_iinc, ax_r_iadd, ax_r_isub, ax_r_imul, ax_r_idiv, ax_r_irem, ax_r_iand, ax_r_ior, ax_r_ishl, ax_r_ishr, ax_r_iushr, ax_r_i2l, ax_r_l2i, ax_r_i2b, ax_r_ladd, ax_r_lsub, ax_r_lmul, ax_r_ldiv, ax_r_lrem, ax_r_land, ax_r_lor, ax_r_lcmp, ax_r_ifeq, ax_r_ifne, ax_r_iflt, ax_r_ifge, ax_r_ifgt, ax_r_ifle, ax_r_iceq, ax_r_icne, ax_r_iclt, ax_r_icge, ax_r_icgt, ax_r_icle, ax_r_goto, ax_r_tsw, ax_evt_c, ax_evt_n, ax_r_lsw, ax_evu_c, ax_evu_n, ax_r_getI, ax_r_getR, ax_r_putI, ax_r_putZ, ax_r_iald, ax_r_iast, ax_r_lald, ax_r_last, ax_r_bald, ax_r_aald, ax_r_alen, ax_r_bast, ax_r_min, ax_r_max, ax_r_minl, ax_r_maxl, ax_r_copy, ax_r_slen, ax_r_schr, ax_r_dup, ax_r_dup2, ax_r_pop, ax_r_ret, ax_r_lret, ax_r_vret, ax_r_zret, ax_r_aret, ax_r_call, ax_evo, ax_eva, ax_ar, ax_tk, ax_ex, ax_ld, ax_sto, ax_stl, ly_pm, ly_cd, ly_ln, ly_rf, Option.bind_some, Option.map_some, if_true, if_false, true_and, and_true, List.nil_append, List.cons_append, List.append_nil, List.length_nil, List.length_cons, List.headD_cons, true_or, or_true, false_or, or_false, ne_eq, not_false_eq_true, not_true_eq_false, false_and, and_false, List.set_cons_zero, List.set_cons_succ, Nat.reduceAdd, Nat.reduceSub, Nat.reduceMul, Nat.reduceLeDiff, Nat.reduceLT, Nat.reduceEqDiff, ↓reduceIte, Int.reduceNeg, Int.reduceAdd, Int.reduceSub, Int.reduceMul, Int.reduceEq, Int.reduceNe, Int.reduceLE, Int.reduceLT, Int.reduceToNat, Nat.one_ne_zero, Nat.zero_ne_one, Int.cast_ofNat_Int, lc_lt, lc_ge, lc_gt, lc_le, lc_eq, lc_ne, dc_M_day]
        exact G2
      clear k1 k2 Y
      simp (disch := omega) only [ax_ev, ax_kk, ax_ps, ax_r_const, ax_r_lconst, ax_r_str, ax_r_iload, ax_r_lload, ax_r_aload, ax_r_istore, ax_r_astore, ax_r_lstore, ax_r_iinc, ax_r_iadd, ax_r_isub, ax_r_imul, ax_r_idiv, ax_r_irem, ax_r_iand, ax_r_ior, ax_r_ishl, ax_r_ishr, ax_r_iushr, ax_r_i2l, ax_r_l2i, ax_r_i2b, ax_r_ladd, ax_r_lsub, ax_r_lmul, ax_r_ldiv, ax_r_lrem, ax_r_land, ax_r_lor, ax_r_lcmp, ax_r_ifeq, ax_r_ifne, ax_r_iflt, ax_r_ifge, ax_r_ifgt, ax_r_ifle, ax_r_iceq, ax_r_icne, ax_r_iclt, ax_r_icge, ax_r_icgt, ax_r_icle, ax_r_goto, ax_r_tsw, ax_evt_c, ax_evt_n, ax_r_lsw, ax_evu_c, ax_evu_n, ax_r_getI, ax_r_getR, ax_r_putI, ax_r_putZ, ax_r_iald, ax_r_iast, ax_r_lald, ax_r_last, ax_r_bald, ax_r_aald, ax_r_alen, ax_r_bast, ax_r_min, ax_r_max, ax_r_minl, ax_r_maxl, ax_r_copy, ax_r_slen, ax_r_schr, ax_r_dup, ax_r_dup2, ax_r_pop, ax_r_ret, ax_r_lret, ax_r_vret, ax_r_zret, ax_r_aret, ax_r_call, ax_evo, ax_eva, ax_ar, ax_tk, ax_ex, ax_ld, ax_sto, ax_stl, ly_pm, ly_cd, ly_ln, ly_rf, Option.bind_some, Option.map_some, if_true, if_false, true_and, and_true, List.nil_append, List.cons_append, List.append_nil, List.length_nil, List.length_cons, List.headD_cons, true_or, or_true, false_or, or_false, ne_eq, not_false_eq_true, not_true_eq_false, false_and, and_false, List.set_cons_zero, List.set_cons_succ, Nat.reduceAdd, Nat.reduceSub, Nat.reduceMul, Nat.reduceLeDiff, Nat.reduceLT, Nat.reduceEqDiff, ↓reduceIte, Int.reduceNeg, Int.reduceAdd, Int.reduceSub, Int.reduceMul, Int.reduceEq, Int.reduceNe, Int.reduceLE, Int.reduceLT, Int.reduceToNat, Nat.one_ne_zero, Nat.zero_ne_one, Int.cast_ofNat_Int, lc_lt, lc_ge, lc_gt, lc_le, lc_eq, lc_ne, w32i, w64i, tdv, tmd, ltT, ltF, leT, leF, eqT, eqF, dc_M_day, dc_M_isKiln, y0, y5, a1, m1.symm]
      exact G
    have A : ax_Ev (39) 97 0 [(2, 24)] [] (L0, h) (ax_k 40 121 37 [(2, 0)] [] (fun r H1 => ax_Ev 40 204 0 [(2, 124)] [] H1 (fun r2 H2 => r2 = r ∧ r.1 = 0 ∧ Inv H2))) := by
      refine w_rem c5 c6 ?_
      rw [ax_kk]
      have P : ax_Ev (39) 1 0 [(2, 22), (2, 32), (2, 25), (0, h 24 5)] [] (L0, ax_rw (ac_r h) 33 (h 33)) (ax_k 40 121 65 [(2, 0)] [] (fun r H1 => ax_Ev 40 204 0 [(2, 124)] [] H1 (fun r2 H2 => r2 = r ∧ r.1 = 0 ∧ Inv H2))) := by
        refine ps_pass (d := 30) (o := 32) (t := 25) (r := h 24 5) (W := W) (cy := h 25 2) st_32 td_25 (by omega) (by omega) (by omega) ?_ ?_ ?_ b3.2 ?_ ?_ ?_ ?_
        all_goals try simp only [Int.reduceAdd, X33, X27]
        · rw [X _ _ _ (by omega) (by omega) (by omega)]; exact hn
        · rw [X _ _ _ (by omega) (by omega) (by omega)]; exact hgd
        · omega
        · exact hnd
        · rcases hW with q | q
          · exact .inl q
          · refine .inr ⟨q.1, ?_, iv_rx_same q.2.2 q.1 (by omega) fun k j q => X _ _ _ (by omega) (by omega) (by omega)⟩
            rw [X _ _ _ (by omega) (by omega) (by omega)]; exact q.2.1
        · rw [X _ _ _ (by omega) (by omega) (by omega)]; exact r1.2.2
        · intro h' k1 k2
          rw [X _ _ _ (by omega) (by omega) (by omega)] at k2 ⊢
          rw [ax_kk]
          simp only [ax_ev, ax_kk, ax_ps, ax_r_const, ax_r_lconst, ax_r_str, ax_r_iload, ax_r_lload, ax_r_aload, ax_r_istore, ax_r_astore, ax_r_lstore, ax_r_iinc, ax_r_iadd, ax_r_isub, ax_r_imul, ax_r_idiv, ax_r_irem, ax_r_iand, ax_r_ior, ax_r_ishl, ax_r_ishr, ax_r_iushr, ax_r_i2l, ax_r_l2i, ax_r_i2b, ax_r_ladd, ax_r_lsub, ax_r_lmul, ax_r_ldiv, ax_r_lrem, ax_r_land, ax_r_lor, ax_r_lcmp, ax_r_ifeq, ax_r_ifne, ax_r_iflt, ax_r_ifge, ax_r_ifgt, ax_r_ifle, ax_r_iceq, ax_r_icne, ax_r_iclt, ax_r_icge, ax_r_icgt, ax_r_icle, ax_r_goto, ax_r_tsw, ax_evt_c, ax_evt_n, ax_r_lsw, ax_evu_c, ax_evu_n, ax_r_getI, ax_r_getR, ax_r_putI, ax_r_putZ, ax_r_iald, ax_r_iast, ax_r_lald, ax_r_last, ax_r_bald, ax_r_aald, ax_r_alen, ax_r_bast, ax_r_min, ax_r_max, ax_r_minl, ax_r_maxl, ax_r_copy, ax_r_slen, ax_r_schr, ax_r_dup, ax_r_dup2, ax_r_pop, ax_r_ret, ax_r_lret, ax_r_vret, ax_r_zret, ax_r_aret, ax_r_call, ax_evo, ax_eva, ax_ar, ax_tk, ax_ex, ax_ld, ax_sto, ax_stl, ly_pm, ly_cd, ly_ln, ly_rf, Option.bind_some, Option.map_some, if_true, if_false, true_and, and_true, List.nil_append, List.cons_append, List.append_nil, List.length_nil, List.length_cons, List.headD_cons, true_or, or_true, false_or, or_false, ne_eq, not_false_eq_true, not_true_eq_false, false_and, and_false, List.set_cons_zero, List.set_cons_succ, Nat.reduceAdd, Nat.reduceSub, Nat.reduceMul, Nat.reduceLeDiff, Nat.reduceLT, Nat.reduceEqDiff, ↓reduceIte, Int.reduceNeg, Int.reduceAdd, Int.reduceSub, Int.reduceMul, Int.reduceEq, Int.reduceNe, Int.reduceLE, Int.reduceLT, Int.reduceToNat, Nat.one_ne_zero, Nat.zero_ne_one, Int.cast_ofNat_Int, lc_lt, lc_ge, lc_gt, lc_le, lc_eq, lc_ne, dc_RingKiln_day]
          exact B h' k1 k2
      clear B
      simp (disch := omega) only [ax_ev, ax_kk, ax_ps, ax_r_const, ax_r_lconst, ax_r_str, ax_r_iload, ax_r_lload, ax_r_aload, ax_r_istore, ax_r_astore, ax_r_lstore, ax_r_iinc, ax_r_iadd, ax_r_isub, ax_r_imul, ax_r_idiv, ax_r_irem, ax_r_iand, ax_r_ior, ax_r_ishl, ax_r_ishr, ax_r_iushr, ax_r_i2l, ax_r_l2i, ax_r_i2b, ax_r_ladd, ax_r_lsub, ax_r_lmul, ax_r_ldiv, ax_r_lrem, ax_r_land, ax_r_lor, ax_r_lcmp, ax_r_ifeq, ax_r_ifne, ax_r_iflt, ax_r_ifge, ax_r_ifgt, ax_r_ifle, ax_r_iceq, ax_r_icne, ax_r_iclt, ax_r_icge, ax_r_icgt, ax_r_icle, ax_r_goto, ax_r_tsw, ax_evt_c, ax_evt_n, ax_r_lsw, ax_evu_c, ax_evu_n, ax_r_getI, ax_r_getR, ax_r_putI, ax_r_putZ, ax_r_iald, ax_r_iast, ax_r_lald, ax_r_last, ax_r_bald, ax_r_aald, ax_r_alen, ax_r_bast, ax_r_min, ax_r_max, ax_r_minl, ax_r_maxl, ax_r_copy, ax_r_slen, ax_r_schr, ax_r_dup, ax_r_dup2, ax_r_pop, ax_r_ret, ax_r_lret, ax_r_vret, ax_r_zret, ax_r_aret, ax_r_call, ax_evo, ax_eva, ax_ar, ax_tk, ax_ex, ax_ld, ax_sto, ax_stl, ly_pm, ly_cd, ly_ln, ly_rf, Option.bind_some, Option.map_some, if_true, if_false, true_and, and_true, List.nil_append, List.cons_append, List.append_nil, List.length_nil, List.length_cons, List.headD_cons, true_or, or_true, false_or, or_false, ne_eq, not_false_eq_true, not_true_eq_false, false_and, and_false, List.set_cons_zero, List.set_cons_succ, Nat.reduceAdd, Nat.reduceSub, Nat.reduceMul, Nat.reduceLeDiff, Nat.reduceLT, Nat.reduceEqDiff, ↓reduceIte, Int.reduceNeg, Int.reduceAdd, Int.reduceSub, Int.reduceMul, Int.reduceEq, Int.reduceNe, Int.reduceLE, Int.reduceLT, Int.reduceToNat, Nat.one_ne_zero, Nat.zero_ne_one, Int.cast_ofNat_Int, lc_lt, lc_ge, lc_gt, lc_le, lc_eq, lc_ne, w32i, w64i, tdv, tmd, ltT, ltF, leT, leF, eqT, eqF, dc_RingKiln_day, X5]
      exact P
    clear B
    clear hi hi' b1 b2 b3 b4 b5 b6 b7 b8 c1 c2 c3 c4 c5 c6 c7 c8 c9 c10 m2 m3 m4 m5 m6 m7 g2 g3 g4 g5 g6 g7 g8 r1 tp hW hgd hmo
    simp (disch := omega) only [ax_ev, ax_kk, ax_ps, ax_r_const, ax_r_lconst, ax_r_str, ax_r_iload, ax_r_lload, ax_r_aload, ax_r_istore, ax_r_astore, ax_r_lstore, ax_r_iinc, ax_r_iadd, ax_r_isub, ax_r_imul, ax_r_idiv, ax_r_irem, ax_r_iand, ax_r_ior, ax_r_ishl, ax_r_ishr, ax_r_iushr, ax_r_i2l, ax_r_l2i, ax_r_i2b, ax_r_ladd, ax_r_lsub, ax_r_lmul, ax_r_ldiv, ax_r_lrem, ax_r_land, ax_r_lor, ax_r_lcmp, ax_r_ifeq, ax_r_ifne, ax_r_iflt, ax_r_ifge, ax_r_ifgt, ax_r_ifle, ax_r_iceq, ax_r_icne, ax_r_iclt, ax_r_icge, ax_r_icgt, ax_r_icle, ax_r_goto, ax_r_tsw, ax_evt_c, ax_evt_n, ax_r_lsw, ax_evu_c, ax_evu_n, ax_r_getI, ax_r_getR, ax_r_putI, ax_r_putZ, ax_r_iald, ax_r_iast, ax_r_lald, ax_r_last, ax_r_bald, ax_r_aald, ax_r_alen, ax_r_bast, ax_r_min, ax_r_max, ax_r_minl, ax_r_maxl, ax_r_copy, ax_r_slen, ax_r_schr, ax_r_dup, ax_r_dup2, ax_r_pop, ax_r_ret, ax_r_lret, ax_r_vret, ax_r_zret, ax_r_aret, ax_r_call, ax_evo, ax_eva, ax_ar, ax_tk, ax_ex, ax_ld, ax_sto, ax_stl, ly_pm, ly_cd, ly_ln, ly_rf, Option.bind_some, Option.map_some, if_true, if_false, true_and, and_true, List.nil_append, List.cons_append, List.append_nil, List.length_nil, List.length_cons, List.headD_cons, true_or, or_true, false_or, or_false, ne_eq, not_false_eq_true, not_true_eq_false, false_and, and_false, List.set_cons_zero, List.set_cons_succ, Nat.reduceAdd, Nat.reduceSub, Nat.reduceMul, Nat.reduceLeDiff, Nat.reduceLT, Nat.reduceEqDiff, ↓reduceIte, Int.reduceNeg, Int.reduceAdd, Int.reduceSub, Int.reduceMul, Int.reduceEq, Int.reduceNe, Int.reduceLE, Int.reduceLT, Int.reduceToNat, Nat.one_ne_zero, Nat.zero_ne_one, Int.cast_ofNat_Int, lc_lt, lc_ge, lc_gt, lc_le, lc_eq, lc_ne, w32i, w64i, tdv, tmd, ltT, ltF, leT, leF, eqT, eqF, dc_RingKiln_day, dc_Works_isBuilt, List.map_nil]
    exact A
