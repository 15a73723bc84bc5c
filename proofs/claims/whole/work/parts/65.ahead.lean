/-! days ahead, on both sides -/
def it (D : (Int → Int) → Int → Int) : Nat → (Int → Int) → Int → Int
  | 0, S => S
  | k + 1, S => D (it D k S)
/-- the day by what now is told -/
def dD (h : Int → Int → Int) (W : (Int → Int) → Int) (S : Int → Int) : Int → Int := dyF (h 25 0) (h 27) (dy_fed S (dy_w (h 25 0) (h 27) W (h 24 5) S)) S
/-- what a question finds: the invariant, a kiln, and the rule in force -/
def qx (h : Int → Int → Int) (W : (Int → Int) → Int) : Prop := iv_h h ∧ (3 ≤ h 25 0 ∧ h 25 0 ≤ 9) ∧ (h 24 5 = -1 ∨ (0 ≤ h 24 5 ∧ h 24 5 < h 11 3 ∧ iv_rx h (h 24 5) W))
theorem qx_mk {h : Int → Int → Int} (hi : iv_h h) (hb : h 25 0 ≠ 0) : ∃ W, qx h W := by
  obtain ⟨W, hW⟩ := iv_rule hi
  have hi' := hi
  obtain ⟨⟨a1, a2, a3, a4, a5, a6, a7, a8, a9⟩, ⟨b1, b2, b3, b4, b5, b6, b7, b8⟩, c1, c2, c3, c4, c5, c6, c7, c8, c9, c10, ⟨⟨m1, m2, m3, m4, m5, m6, m7⟩, ⟨g1, g2, g3, g4, g5, g6, g7, g8⟩, g9⟩, r1, tp⟩ := iv_get hi
  exact ⟨W, hi', by omega, hW⟩
/-- a good moment, not later than b -/
def gm (h : Int → Int → Int) (b : Int) (S : Int → Int) : Prop := iv_gd (h 25 0) (h 25 2) S ∧ S 0 ≤ b
theorem gm_now {h : Int → Int → Int} {W : (Int → Int) → Int} (q : qx h W) : gm h 999 (h 33) := by
  obtain ⟨hi, -⟩ := q
  obtain ⟨⟨a1, a2, a3, a4, a5, a6, a7, a8, a9⟩, ⟨b1, b2, b3, b4, b5, b6, b7, b8⟩, c1, c2, c3, c4, c5, c6, c7, c8, c9, c10, ⟨⟨m1, m2, m3, m4, m5, m6, m7⟩, ⟨g1, g2, g3, g4, g5, g6, g7, g8⟩, g9⟩, r1, tp⟩ := iv_get hi
  exact ⟨⟨g1, g2, g3, g4, g5, g6, g7, g8⟩, g9⟩
theorem qx_nd {h : Int → Int → Int} {W : (Int → Int) → Int} (q : qx h W) : ∀ y, 0 ≤ y → y < h 25 2 → 0 ≤ h 27 y ∧ h 27 y ≤ 100000 := by
  obtain ⟨hi, -⟩ := q
  obtain ⟨⟨a1, a2, a3, a4, a5, a6, a7, a8, a9⟩, ⟨b1, b2, b3, b4, b5, b6, b7, b8⟩, c1, c2, c3, c4, c5, c6, c7, c8, c9, c10, ⟨⟨m1, m2, m3, m4, m5, m6, m7⟩, ⟨g1, g2, g3, g4, g5, g6, g7, g8⟩, g9⟩, r1, tp⟩ := iv_get hi
  intro y y0 y1; have := (b6 y y0 y1).2; omega
theorem qx_fed {h : Int → Int → Int} {W : (Int → Int) → Int} (q : qx h W) {b : Int} {S : Int → Int} (g : gm h b S) (hb : b < 100000) : 0 ≤ dy_fed S (dy_w (h 25 0) (h 27) W (h 24 5) S) ∧ dy_fed S (dy_w (h 25 0) (h 27) W (h 24 5) S) ≤ S 1 := by
  have hr : h 24 5 = -1 ∨ (0 ≤ h 24 5 ∧ iv_rx h (h 24 5) W) := by rcases q.2.2 with a | a; exact .inl a; exact .inr ⟨a.1, a.2.2⟩
  exact fed_r g.1 (w_r q.2.1 g.1 (by have := g.2; omega) (qx_nd q) hr).1
theorem gm_day {h : Int → Int → Int} {W : (Int → Int) → Int} (q : qx h W) {b : Int} {S : Int → Int} (g : gm h b S) (hb : b < 100000) : gm h (b + 1) (dD h W S) := by
  refine ⟨gd_day q.2.1 g.1 (qx_fed q g hb), ?_⟩
  have := g.2
  unfold dD; rw [dyF_0]; omega
theorem gm_it {h : Int → Int → Int} {W : (Int → Int) → Int} (q : qx h W) {b : Int} {S : Int → Int} (g : gm h b S) : ∀ k : Nat, b + k ≤ 100000 → gm h (b + k) (it (dD h W) k S)
  | 0, _ => by simpa [it] using g
  | k + 1, hb => by
    have := gm_day q (gm_it q g k (by omega)) (by omega)
    rw [show b + ((k + 1 : Nat) : Int) = b + k + 1 by omega]
    exact this
/-- the class's rows that a question only reads -/
def cs (h g : Int → Int → Int) : Prop := ∀ k j, (11 ≤ k ∧ k ≤ 19) ∨ (24 ≤ k ∧ k ≤ 36) ∨ (148 ≤ k ∧ k ≤ 153) → g k j = h k j
set_option maxRecDepth 100000 in
set_option maxHeartbeats 4000000 in
theorem q_pass {h g : Int → Int → Int} {W : (Int → Int) → Int} (q : qx h W) (c : cs h g) {o b : Int} (so : isSt o) (ho : 36 < o) (hg : gm h b (g (o + 1))) (hb : b < 100000) {d : Nat} {Q : ax_V → ax_H → Prop}
    (hq : ∀ g' v, (∀ k j, k ≠ 20 → k ≠ 23 → k ≠ o + 1 → g' k j = g k j) → (∀ j, g' (o + 1) j = dD h W (g (o + 1)) j) → Q (0, v) (L0, g')) : ax_Ev (d + 9) 1 0 [(2, 22), (2, o), (2, 25), (0, h 24 5)] [] (L0, g) Q := by
  have e27 : g 27 = h 27 := by funext j; exact c _ _ (by omega)
  have e25 : ∀ j, g 25 j = h 25 j := fun j => c _ _ (by omega)
  have e11 : g 11 3 = h 11 3 := c _ _ (by omega)
  have hi := q.1
  have h6 : h 11 3 ≤ 6 ∧ h 25 2 ≤ 3 := by obtain ⟨⟨a1, a2, a3, a4, a5, a6, a7, a8, a9⟩, ⟨b1, b2, b3, b4, b5, b6, b7, b8⟩, c1, c2, c3, c4, c5, c6, c7, c8, c9, c10, ⟨⟨m1, m2, m3, m4, m5, m6, m7⟩, ⟨g1, g2, g3, g4, g5, g6, g7, g8⟩, g9⟩, r1, tp⟩ := iv_get hi; omega
  refine ps_pass (t := 25) (r := h 24 5) (W := W) (cy := h 25 2) so td_25 (by omega) (by omega) (by omega) ?_ ?_ (by have := hg.2; omega) h6.2 ?_ ?_ (by rw [e11]; exact h6.1) ?_
  all_goals simp only [Int.reduceAdd, e27, e25, e11]
  · exact q.2.1
  · exact hg.1
  · exact qx_nd q
  · rcases q.2.2 with a | a
    · exact .inl a
    · exact .inr ⟨a.1, a.2.1, iv_rx_same a.2.2 a.1 (by omega) fun k j _ => c k j (by omega)⟩
  · intro h' k1 k2
    exact hq h' _ k1 k2
/-- the reference's rows that a day doesn't change -/
def ms (h g : Int → Int → Int) : Prop := ∀ k j, (148 ≤ k ∧ k ≤ 153) ∨ (132 ≤ k ∧ k ≤ 133 ∧ 0 ≤ j ∧ j < 3) ∨ (134 ≤ k ∧ k ≤ 139 ∧ 0 ≤ j ∧ j < 10) ∨ (k = 125 ∧ ((0 ≤ j ∧ j ≤ 4) ∨ j = 9 ∨ j = 11)) ∨ (k = 124 ∧ (j = 27 ∨ j = 32 ∨ j = 43)) ∨ (11 ≤ k ∧ k ≤ 19) → g k j = h k j
def mo (h : Int → Int → Int) (S : Int → Int) (g : Int → Int → Int) : Prop := iv_mo (h 25 0) S (g 126) (g 127) (g 128) (g 129) (g 130) (g 131) (g 125 5) (g 125 6) (g 125 7) (g 125 8)
set_option maxRecDepth 100000 in
set_option maxHeartbeats 4000000 in
theorem q_goes {h g : Int → Int → Int} {W : (Int → Int) → Int} (q : qx h W) (c : ms h g) {b : Int} {S : Int → Int} (hg : gm h b S) (hb : b < 100000) (hm : mo h S g) {d : Nat} {Q : ax_V → ax_H → Prop}
    (hq : ∀ g' v, (∀ k j, ¬ (k = 124 ∧ (j = 44 ∨ j = 45)) → ¬ (k = 125 ∧ 5 ≤ j ∧ j ≤ 7) → ¬ (127 ≤ k ∧ k ≤ 129) → k ≠ 155 → k ≠ 156 → g' k j = g k j) → g' 124 45 = (if dD h W S 10 = S 10 then -1 else dD h W S 10) → mo h (dD h W S) g' → Q (0, v) (L0, g')) : ax_Ev (d + 9) 207 0 [(2, 124), (9, 0)] [] (L0, g) Q := by
  have hi := q.1
  have hi' := hi
  obtain ⟨a1, a8, b3, c7, r1, h43⟩ : h 125 0 = h 25 0 ∧ h 125 11 = h 24 5 ∧ (0 ≤ h 25 2 ∧ h 25 2 ≤ 3) ∧ (∀ y, 0 ≤ y → y < h 25 2 → h 26 y = h 132 y ∧ h 27 y = h 133 y) ∧ (h 124 27 = h 11 3 ∧ 0 ≤ h 11 3 ∧ h 11 3 ≤ 6) ∧ h 124 43 = -1 := by
    obtain ⟨⟨a1, a2, a3, a4, a5, a6, a7, a8, a9⟩, ⟨b1, b2, b3, b4, b5, b6, b7, b8⟩, c1, c2, c3, c4, c5, c6, c7, c8, c9, c10, ⟨⟨m1, m2, m3, m4, m5, m6, m7⟩, ⟨g1, g2, g3, g4, g5, g6, g7, g8⟩, g9⟩, r1, tp⟩ := iv_get hi
    exact ⟨a1, a8, b3, c7, r1, hi'.2.2.2.2.2⟩
  refine md_goes (n := h 25 0) (cy := h 25 2) (S := S) (nd := h 27) (w := dy_w (h 25 0) (h 27) W (h 24 5) S) (r := h 24 5) (W := W) q.2.1 hg.1 hm (by rw [c 125 0 (by omega)]; exact a1) (fun y y0 y1 => ⟨by rw [c 133 y (by omega)]; exact (c7 y y0 y1).2.symm, qx_nd q y y0 y1⟩) b3.2 (by have := hg.2; omega) (.inr ⟨?_, rfl, ?_, ?_⟩) ?_
  · rw [c 124 43 (by omega)]; exact h43
  · rw [c 125 11 (by omega)]; exact a8
  · rcases q.2.2 with a | a
    · exact .inl a
    · exact .inr ⟨a.1, by omega, iv_rx_same a.2.2 a.1 (by omega) fun k j _ => c k j (by omega)⟩
  · intro g' hg'
    refine hq g' _ ?_ ?_ (mo_day q.2.1 hm hg')
    · intro k j e1 e2 e3 e4 e5
      rw [hg' k j e4 e5]; unfold dy_M
      repeat rw [if_neg (by omega)]
    · rw [hg' _ _ (by omega) (by omega)]; unfold dD; rw [dyF_10]; simp [dy_M]
theorem st_92 : isSt 92 := by unfold isSt; simp only [ly_cd, ly_rf, ly_ln, Int.reduceAdd]; decide
/-- what the class's question leaves -/
def fr (h g : Int → Int → Int) : Prop := ∀ k j, ¬ (k = 20 ∨ k = 23 ∨ (91 ≤ k ∧ k ≤ 123)) → g k j = h k j
theorem fr_cs {h g : Int → Int → Int} (f : fr h g) : cs h g := fun k j q => f k j (by omega)
theorem fr_ms {h g : Int → Int → Int} (f : fr h g) : ms h g := fun k j q => f k j (by omega)
set_option maxRecDepth 100000 in
set_option maxHeartbeats 4000000 in
theorem q_days {h g : Int → Int → Int} {W : (Int → Int) → Int} (q : qx h W) (f : fr h g) {b : Int} {S : Int → Int} (hg : gm h b S) (hS : g 93 = S) {m : Int} (m0 : 0 ≤ m) (hb : b + m < 100000) {d : Nat} {Q : ax_V → ax_H → Prop}
    (hq : ∀ g', fr h g' → (∀ k j, k ≠ 20 → k ≠ 23 → k ≠ 93 → g' k j = g k j) → g' 93 = it (dD h W) m.toNat S → Q (9, 0) (L0, g')) : ax_Ev (d + 10) 9 0 [(2, 91), (0, m), (9, 0)] [] (L0, g) Q := by
  have b0 : 0 ≤ b := by have := hg.1.1; have := hg.2; omega
  have key : ∀ i : Int, 0 ≤ i → i ≤ m → ∀ g', fr h g' → (∀ k j, k ≠ 20 → k ≠ 23 → k ≠ 93 → g' k j = g k j) → g' 93 = it (dD h W) i.toNat S → ax_Ev (d + 10) 9 2 [(2, 91), (0, m), (0, i)] [] (L0, g') Q := by
    intro i i0 i1
    have E := lp (E := fun i => 0 ≤ i → ∀ g', fr h g' → (∀ k j, k ≠ 20 → k ≠ 23 → k ≠ 93 → g' k j = g k j) → g' 93 = it (dD h W) i.toNat S → ax_Ev (d + 10) 9 2 [(2, 91), (0, m), (0, i)] [] (L0, g') Q) (a := i) (n := m) i1 ?_ ?_
    · exact E i0
    · intro k k0 k1 ih k2 g' f1 f2 f3
      have e5 : g' 24 5 = h 24 5 := f1 _ _ (by omega)
      have gi := gm_it q hg k.toNat (by omega)
      have P : ax_Ev (d + 9) 1 0 [(2, 22), (2, 92), (2, 25), (0, h 24 5)] [] (L0, g') (ax_k (d + 10) 9 32 [(2, 91), (0, m), (0, k)] [] Q) := by
        refine q_pass (o := 92) (b := b + k.toNat) q (fr_cs f1) st_92 (by omega) ?_ (by omega) ?_
        · simp only [Int.reduceAdd]; rw [f3]; exact gi
        · simp only [Int.reduceAdd]
          intro g2 v p1 p2
          rw [f3] at p2
          have ih' := ih (by omega) g2 (fun a j e => by rw [p1 a j (by omega) (by omega) (by omega)]; exact f1 a j e) (fun a j e1 e2 e3 => by rw [p1 a j e1 e2 e3]; exact f2 a j e1 e2 e3) (by rw [show (k + 1).toNat = k.toNat + 1 by omega]; exact funext p2)
          clear ih f1 f2 f3 p1 p2 hq
          rw [ax_kk]
          simp (disch := omega) only [ax_ev, ax_kk, ax_ps, ax_r_const, ax_r_lconst, ax_r_str, ax_r_iload, ax_r_lload, ax_r_aload, ax_r_istore, ax_r_astore, ax_r_lstore, ax_r_iinc, ax_r_iadd, ax_r_isub, ax_r_imul, ax_r_idiv, ax_r_irem, ax_r_iand, ax_r_ior, ax_r_ishl, ax_r_ishr, ax_r_iushr, ax_r_i2l, ax_r_l2i, ax_r_i2b, ax_r_ladd, ax_r_lsub, ax_r_lmul, ax_r_ldiv, ax_r_lrem, ax_r_land, ax_r_lor, ax_r_lcmp, ax_r_ifeq, ax_r_ifne, ax_r_iflt, ax_r_ifge, ax_r_ifgt, ax_r_ifle, ax_r_iceq, ax_r_icne, ax_r_iclt, ax_r_icge, ax_r_icgt, ax_r_icle, ax_r_goto, ax_r_tsw, ax_evt_c, ax_evt_n, ax_r_lsw, ax_evu_c, ax_evu_n, ax_r_getI, ax_r_getR, ax_r_putI, ax_r_putZ, ax_r_iald, ax_r_iast, ax_r_lald, ax_r_last, ax_r_bald, ax_r_aald, ax_r_alen, ax_r_bast, ax_r_min, ax_r_max, ax_r_minl, ax_r_maxl, ax_r_copy, ax_r_slen, ax_r_schr, ax_r_dup, ax_r_dup2, ax_r_pop, ax_r_ret, ax_r_lret, ax_r_vret, ax_r_zret, ax_r_aret, ax_r_call, ax_evo, ax_eva, ax_ar, ax_tk, ax_ex, ax_ld, ax_sto, ax_stl, ly_pm, ly_cd, ly_ln, ly_rf, Option.bind_some, Option.map_some, if_true, if_false, true_and, and_true, List.nil_append, List.cons_append, List.append_nil, List.length_nil, List.length_cons, List.headD_cons, true_or, or_true, false_or, or_false, ne_eq, not_false_eq_true, not_true_eq_false, false_and, and_false, List.set_cons_zero, List.set_cons_succ, Nat.reduceAdd, Nat.reduceSub, Nat.reduceMul, Nat.reduceLeDiff, Nat.reduceLT, Nat.reduceEqDiff, ↓reduceIte, Int.reduceNeg, Int.reduceAdd, Int.reduceSub, Int.reduceMul, Int.reduceEq, Int.reduceNe, Int.reduceLE, Int.reduceLT, Int.reduceToNat, Nat.one_ne_zero, Nat.zero_ne_one, Int.cast_ofNat_Int, lc_lt, lc_ge, lc_gt, lc_le, lc_eq, lc_ne, w32i, w64i, tdv, tmd, ltT, ltF, leT, leF, eqT, eqF, dc_Foresight_passDays]
          exact ih'
      clear ih f1 f2 f3 hq
      rw [ax_ev, dh_Foresight_passDays_2]
      simp (disch := omega) only [ax_ev, ax_kk, ax_ps, ax_r_const, ax_r_lconst, ax_r_str, ax_r_iload, ax_r_lload, ax_r_aload, ax_r_istore, ax_r_astore, ax_r_lstore, ax_r_iinc, ax_r_iadd, ax_r_isub, ax_r_imul, ax_r_idiv, ax_r_irem, ax_r_iand, ax_r_ior, ax_r_ishl, ax_r_ishr, ax_r_iushr, ax_r_i2l, ax_r_l2i, ax_r_i2b, ax_r_ladd, ax_r_lsub, ax_r_lmul, ax_r_ldiv, ax_r_lrem, ax_r_land, ax_r_lor, ax_r_lcmp, ax_r_ifeq, ax_r_ifne, ax_r_iflt, ax_r_ifge, ax_r_ifgt, ax_r_ifle, ax_r_iceq, ax_r_icne, ax_r_iclt, ax_r_icge, ax_r_icgt, ax_r_icle, ax_r_goto, ax_r_tsw, ax_evt_c, ax_evt_n, ax_r_lsw, ax_evu_c, ax_evu_n, ax_r_getI, ax_r_getR, ax_r_putI, ax_r_putZ, ax_r_iald, ax_r_iast, ax_r_lald, ax_r_last, ax_r_bald, ax_r_aald, ax_r_alen, ax_r_bast, ax_r_min, ax_r_max, ax_r_minl, ax_r_maxl, ax_r_copy, ax_r_slen, ax_r_schr, ax_r_dup, ax_r_dup2, ax_r_pop, ax_r_ret, ax_r_lret, ax_r_vret, ax_r_zret, ax_r_aret, ax_r_call, ax_evo, ax_eva, ax_ar, ax_tk, ax_ex, ax_ld, ax_sto, ax_stl, ly_pm, ly_cd, ly_ln, ly_rf, Option.bind_some, Option.map_some, if_true, if_false, true_and, and_true, List.nil_append, List.cons_append, List.append_nil, List.length_nil, List.length_cons, List.headD_cons, true_or, or_true, false_or, or_false, ne_eq, not_false_eq_true, not_true_eq_false, false_and, and_false, List.set_cons_zero, List.set_cons_succ, Nat.reduceAdd, Nat.reduceSub, Nat.reduceMul, Nat.reduceLeDiff, Nat.reduceLT, Nat.reduceEqDiff, ↓reduceIte, Int.reduceNeg, Int.reduceAdd, Int.reduceSub, Int.reduceMul, Int.reduceEq, Int.reduceNe, Int.reduceLE, Int.reduceLT, Int.reduceToNat, Nat.one_ne_zero, Nat.zero_ne_one, Int.cast_ofNat_Int, lc_lt, lc_ge, lc_gt, lc_le, lc_eq, lc_ne, w32i, w64i, tdv, tmd, ltT, ltF, leT, leF, eqT, eqF, dc_Foresight_passDays, e5]
      exact P
    · intro _ g' f1 f2 f3
      have := hq g' f1 f2 f3
      clear hq f1 f2 f3
      rw [ax_ev, dh_Foresight_passDays_2]
      simp (disch := omega) only [ax_ev, ax_kk, ax_ps, ax_r_const, ax_r_lconst, ax_r_str, ax_r_iload, ax_r_lload, ax_r_aload, ax_r_istore, ax_r_astore, ax_r_lstore, ax_r_iinc, ax_r_iadd, ax_r_isub, ax_r_imul, ax_r_idiv, ax_r_irem, ax_r_iand, ax_r_ior, ax_r_ishl, ax_r_ishr, ax_r_iushr, ax_r_i2l, ax_r_l2i, ax_r_i2b, ax_r_ladd, ax_r_lsub, ax_r_lmul, ax_r_ldiv, ax_r_lrem, ax_r_land, ax_r_lor, ax_r_lcmp, ax_r_ifeq, ax_r_ifne, ax_r_iflt, ax_r_ifge, ax_r_ifgt, ax_r_ifle, ax_r_iceq, ax_r_icne, ax_r_iclt, ax_r_icge, ax_r_icgt, ax_r_icle, ax_r_goto, ax_r_tsw, ax_evt_c, ax_evt_n, ax_r_lsw, ax_evu_c, ax_evu_n, ax_r_getI, ax_r_getR, ax_r_putI, ax_r_putZ, ax_r_iald, ax_r_iast, ax_r_lald, ax_r_last, ax_r_bald, ax_r_aald, ax_r_alen, ax_r_bast, ax_r_min, ax_r_max, ax_r_minl, ax_r_maxl, ax_r_copy, ax_r_slen, ax_r_schr, ax_r_dup, ax_r_dup2, ax_r_pop, ax_r_ret, ax_r_lret, ax_r_vret, ax_r_zret, ax_r_aret, ax_r_call, ax_evo, ax_eva, ax_ar, ax_tk, ax_ex, ax_ld, ax_sto, ax_stl, ly_pm, ly_cd, ly_ln, ly_rf, Option.bind_some, Option.map_some, if_true, if_false, true_and, and_true, List.nil_append, List.cons_append, List.append_nil, List.length_nil, List.length_cons, List.headD_cons, true_or, or_true, false_or, or_false, ne_eq, not_false_eq_true, not_true_eq_false, false_and, and_false, List.set_cons_zero, List.set_cons_succ, Nat.reduceAdd, Nat.reduceSub, Nat.reduceMul, Nat.reduceLeDiff, Nat.reduceLT, Nat.reduceEqDiff, ↓reduceIte, Int.reduceNeg, Int.reduceAdd, Int.reduceSub, Int.reduceMul, Int.reduceEq, Int.reduceNe, Int.reduceLE, Int.reduceLT, Int.reduceToNat, Nat.one_ne_zero, Nat.zero_ne_one, Int.cast_ofNat_Int, lc_lt, lc_ge, lc_gt, lc_le, lc_eq, lc_ne, w32i, w64i, tdv, tmd, ltT, ltF, leT, leF, eqT, eqF, dc_Foresight_passDays]
      exact this
  have K := key 0 (by omega) m0 g f (fun _ _ _ _ _ => rfl) (by rw [hS]; rfl)
  clear key hq
  simp (disch := omega) only [ax_ev, ax_kk, ax_ps, ax_r_const, ax_r_lconst, ax_r_str, ax_r_iload, ax_r_lload, ax_r_aload, ax_r_istore, ax_r_astore, ax_r_lstore, ax_r_iinc, ax_r_iadd, ax_r_isub, ax_r_imul, ax_r_idiv, ax_r_irem, ax_r_iand, ax_r_ior, ax_r_ishl, ax_r_ishr, ax_r_iushr, ax_r_i2l, ax_r_l2i, ax_r_i2b, ax_r_ladd, ax_r_lsub, ax_r_lmul, ax_r_ldiv, ax_r_lrem, ax_r_land, ax_r_lor, ax_r_lcmp, ax_r_ifeq, ax_r_ifne, ax_r_iflt, ax_r_ifge, ax_r_ifgt, ax_r_ifle, ax_r_iceq, ax_r_icne, ax_r_iclt, ax_r_icge, ax_r_icgt, ax_r_icle, ax_r_goto, ax_r_tsw, ax_evt_c, ax_evt_n, ax_r_lsw, ax_evu_c, ax_evu_n, ax_r_getI, ax_r_getR, ax_r_putI, ax_r_putZ, ax_r_iald, ax_r_iast, ax_r_lald, ax_r_last, ax_r_bald, ax_r_aald, ax_r_alen, ax_r_bast, ax_r_min, ax_r_max, ax_r_minl, ax_r_maxl, ax_r_copy, ax_r_slen, ax_r_schr, ax_r_dup, ax_r_dup2, ax_r_pop, ax_r_ret, ax_r_lret, ax_r_vret, ax_r_zret, ax_r_aret, ax_r_call, ax_evo, ax_eva, ax_ar, ax_tk, ax_ex, ax_ld, ax_sto, ax_stl, ly_pm, ly_cd, ly_ln, ly_rf, Option.bind_some, Option.map_some, if_true, if_false, true_and, and_true, List.nil_append, List.cons_append, List.append_nil, List.length_nil, List.length_cons, List.headD_cons, true_or, or_true, false_or, or_false, ne_eq, not_false_eq_true, not_true_eq_false, false_and, and_false, List.set_cons_zero, List.set_cons_succ, Nat.reduceAdd, Nat.reduceSub, Nat.reduceMul, Nat.reduceLeDiff, Nat.reduceLT, Nat.reduceEqDiff, ↓reduceIte, Int.reduceNeg, Int.reduceAdd, Int.reduceSub, Int.reduceMul, Int.reduceEq, Int.reduceNe, Int.reduceLE, Int.reduceLT, Int.reduceToNat, Nat.one_ne_zero, Nat.zero_ne_one, Int.cast_ofNat_Int, lc_lt, lc_ge, lc_gt, lc_le, lc_eq, lc_ne, w32i, w64i, tdv, tmd, ltT, ltF, leT, leF, eqT, eqF, dc_Foresight_passDays]
  exact K
/-- now's moment laid into the row a -/
def s0 (h g : Int → Int → Int) (a : Int) : Int → Int := fun j => if 0 ≤ j ∧ j < 47 then h 33 j else g a j
theorem s0_e {h g : Int → Int → Int} {a j : Int} (j0 : 0 ≤ j) (j1 : j < 47) : s0 h g a j = h 33 j := if_pos ⟨j0, j1⟩
theorem s0_gm {h : Int → Int → Int} {W : (Int → Int) → Int} (q : qx h W) (g : Int → Int → Int) (a : Int) : gm h 999 (s0 h g a) := by
  have G := gm_now q
  exact ⟨iv_gd_congr q.2.1.2 G.1 fun j j0 j1 => s0_e j0 j1, by rw [s0_e (by omega) (by omega)]; exact G.2⟩
theorem s0_mo {h : Int → Int → Int} {W : (Int → Int) → Int} (q : qx h W) (g : Int → Int → Int) (a : Int) {g' : Int → Int → Int} (e : ∀ k j, 125 ≤ k → k ≤ 131 → 0 ≤ j → j < 12 → g' k j = h k j) : mo h (s0 h g a) g' := by
  have hi := q.1
  have n9 := q.2.1.2
  have M : mo h (h 33) h := by obtain ⟨⟨a1, a2, a3, a4, a5, a6, a7, a8, a9⟩, ⟨b1, b2, b3, b4, b5, b6, b7, b8⟩, c1, c2, c3, c4, c5, c6, c7, c8, c9, c10, ⟨⟨m1, m2, m3, m4, m5, m6, m7⟩, ⟨g1, g2, g3, g4, g5, g6, g7, g8⟩, g9⟩, r1, tp⟩ := iv_get hi; exact ⟨m1, m2, m3, m4, m5, m6, m7⟩
  unfold mo at M ⊢
  rw [e 125 5 (by omega) (by omega) (by omega) (by omega), e 125 6 (by omega) (by omega) (by omega) (by omega), e 125 7 (by omega) (by omega) (by omega) (by omega), e 125 8 (by omega) (by omega) (by omega) (by omega)]
  exact iv_mo_congr n9 M (fun j j0 j1 => s0_e j0 j1) (fun j j0 j1 => e _ _ (by omega) (by omega) j0 (by omega)) (fun j j0 j1 => e _ _ (by omega) (by omega) j0 (by omega)) (fun j j0 j1 => e _ _ (by omega) (by omega) j0 (by omega)) (fun j j0 j1 => e _ _ (by omega) (by omega) j0 (by omega)) (fun j j0 j1 => e _ _ (by omega) (by omega) j0 (by omega)) (fun j j0 j1 => e _ _ (by omega) (by omega) j0 (by omega))
set_option maxRecDepth 100000 in
set_option maxHeartbeats 4000000 in
theorem q_after {h : Int → Int → Int} {W : (Int → Int) → Int} (q : qx h W) {g : Int → Int → Int} (f : fr h g) {m : Int} (m0 : 0 ≤ m) (hb : m < 90000) {d : Nat} {Q : ax_V → ax_H → Prop}
    (hq : ∀ g', fr h g' → g' 93 = it (dD h W) m.toNat (s0 h g 93) → Q (2, 92) (L0, g')) : ax_Ev (d + 11) 8 0 [(2, 91), (0, m)] [] (L0, g) Q := by
  have P : ax_Ev (d + 10) 9 0 [(2, 91), (0, m), (9, 0)] [] (L0, ax_cp g 33 0 93 0 47) (ax_k (d + 11) 8 19 [(2, 91), (0, m)] [] Q) := by
    refine q_days (b := 999) (S := s0 h g 93) q ?_ (s0_gm q g 93) ?_ m0 (by omega) ?_
    · intro k j e; simp only [ax_cp]; rw [if_neg (by omega)]; exact f k j e
    · funext j; simp only [ax_cp, s0, true_and]
      by_cases e : 0 ≤ j ∧ j < 47
      · rw [if_pos (by omega), if_pos e, show 0 + (j - 0) = j by omega]; exact f _ _ (by omega)
      · rw [if_neg (by omega), if_neg e]
    · intro g' f1 f2 f3
      have H := hq g' f1 f3
      clear hq f1 f2 f3
      rw [ax_kk]
      simp (disch := omega) only [ax_ev, ax_kk, ax_ps, ax_r_const, ax_r_lconst, ax_r_str, ax_r_iload, ax_r_lload, ax_r_aload, ax_r_istore, ax_r_astore, ax_r_lstore, ax_r_iinc, ax_r_iadd, ax_r_isub, ax_r_imul, ax_r_idiv, ax_r_irem, ax_r_iand, ax_r_ior, ax_r_ishl, ax_r_ishr, ax_r_iushr, ax_r_i2l, ax_r_l2i, ax_r_i2b, ax_r_ladd, ax_r_lsub, ax_r_lmul, ax_r_ldiv, ax_r_lrem, ax_r_land, ax_r_lor, ax_r_lcmp, ax_r_ifeq, ax_r_ifne, ax_r_iflt, ax_r_ifge, ax_r_ifgt, ax_r_ifle, ax_r_iceq, ax_r_icne, ax_r_iclt, ax_r_icge, ax_r_icgt, ax_r_icle, ax_r_goto, ax_r_tsw, ax_evt_c, ax_evt_n, ax_r_lsw, ax_evu_c, ax_evu_n, ax_r_getI, ax_r_getR, ax_r_putI, ax_r_putZ, ax_r_iald, ax_r_iast, ax_r_lald, ax_r_last, ax_r_bald, ax_r_aald, ax_r_alen, ax_r_bast, ax_r_min, ax_r_max, ax_r_minl, ax_r_maxl, ax_r_copy, ax_r_slen, ax_r_schr, ax_r_dup, ax_r_dup2, ax_r_pop, ax_r_ret, ax_r_lret, ax_r_vret, ax_r_zret, ax_r_aret, ax_r_call, ax_evo, ax_eva, ax_ar, ax_tk, ax_ex, ax_ld, ax_sto, ax_stl, ly_pm, ly_cd, ly_ln, ly_rf, Option.bind_some, Option.map_some, if_true, if_false, true_and, and_true, List.nil_append, List.cons_append, List.append_nil, List.length_nil, List.length_cons, List.headD_cons, true_or, or_true, false_or, or_false, ne_eq, not_false_eq_true, not_true_eq_false, false_and, and_false, List.set_cons_zero, List.set_cons_succ, Nat.reduceAdd, Nat.reduceSub, Nat.reduceMul, Nat.reduceLeDiff, Nat.reduceLT, Nat.reduceEqDiff, ↓reduceIte, Int.reduceNeg, Int.reduceAdd, Int.reduceSub, Int.reduceMul, Int.reduceEq, Int.reduceNe, Int.reduceLE, Int.reduceLT, Int.reduceToNat, Nat.one_ne_zero, Nat.zero_ne_one, Int.cast_ofNat_Int, lc_lt, lc_ge, lc_gt, lc_le, lc_eq, lc_ne, w32i, w64i, tdv, tmd, ltT, ltF, leT, leF, eqT, eqF, dc_Foresight_stateAfter]
      exact H
  clear hq
  simp (disch := omega) only [ax_ev, ax_kk, ax_ps, ax_r_const, ax_r_lconst, ax_r_str, ax_r_iload, ax_r_lload, ax_r_aload, ax_r_istore, ax_r_astore, ax_r_lstore, ax_r_iinc, ax_r_iadd, ax_r_isub, ax_r_imul, ax_r_idiv, ax_r_irem, ax_r_iand, ax_r_ior, ax_r_ishl, ax_r_ishr, ax_r_iushr, ax_r_i2l, ax_r_l2i, ax_r_i2b, ax_r_ladd, ax_r_lsub, ax_r_lmul, ax_r_ldiv, ax_r_lrem, ax_r_land, ax_r_lor, ax_r_lcmp, ax_r_ifeq, ax_r_ifne, ax_r_iflt, ax_r_ifge, ax_r_ifgt, ax_r_ifle, ax_r_iceq, ax_r_icne, ax_r_iclt, ax_r_icge, ax_r_icgt, ax_r_icle, ax_r_goto, ax_r_tsw, ax_evt_c, ax_evt_n, ax_r_lsw, ax_evu_c, ax_evu_n, ax_r_getI, ax_r_getR, ax_r_putI, ax_r_putZ, ax_r_iald, ax_r_iast, ax_r_lald, ax_r_last, ax_r_bald, ax_r_aald, ax_r_alen, ax_r_bast, ax_r_min, ax_r_max, ax_r_minl, ax_r_maxl, ax_r_copy, ax_r_slen, ax_r_schr, ax_r_dup, ax_r_dup2, ax_r_pop, ax_r_ret, ax_r_lret, ax_r_vret, ax_r_zret, ax_r_aret, ax_r_call, ax_evo, ax_eva, ax_ar, ax_tk, ax_ex, ax_ld, ax_sto, ax_stl, ly_pm, ly_cd, ly_ln, ly_rf, Option.bind_some, Option.map_some, if_true, if_false, true_and, and_true, List.nil_append, List.cons_append, List.append_nil, List.length_nil, List.length_cons, List.headD_cons, true_or, or_true, false_or, or_false, ne_eq, not_false_eq_true, not_true_eq_false, false_and, and_false, List.set_cons_zero, List.set_cons_succ, Nat.reduceAdd, Nat.reduceSub, Nat.reduceMul, Nat.reduceLeDiff, Nat.reduceLT, Nat.reduceEqDiff, ↓reduceIte, Int.reduceNeg, Int.reduceAdd, Int.reduceSub, Int.reduceMul, Int.reduceEq, Int.reduceNe, Int.reduceLE, Int.reduceLT, Int.reduceToNat, Nat.one_ne_zero, Nat.zero_ne_one, Int.cast_ofNat_Int, lc_lt, lc_ge, lc_gt, lc_le, lc_eq, lc_ne, w32i, w64i, tdv, tmd, ltT, ltF, leT, leF, eqT, eqF, dc_Foresight_stateAfter, dc_State_copyFrom, ax_cp]
  exact P
/-- what the reference's question may change, before it lays back -/
def fm (h g : Int → Int → Int) : Prop := (∀ k j, ¬ (k = 124 ∧ (j = 44 ∨ j = 45 ∨ j = 58 ∨ j = 59)) → ¬ (125 ≤ k ∧ k ≤ 133) → ¬ (155 ≤ k ∧ k ≤ 156) → ¬ (159 ≤ k ∧ k ≤ 163) → ¬ (k = 164 ∧ 4400 ≤ j) → g k j = h k j) ∧ (∀ j, (0 ≤ j ∧ j ≤ 4) ∨ j = 9 ∨ j = 11 → g 125 j = h 125 j) ∧ (∀ j, 0 ≤ j → j < 3 → g 132 j = h 132 j ∧ g 133 j = h 133 j)
theorem fm_ms {h x g : Int → Int → Int} (f : fr h x) (m : fm x g) : ms h g := fun k j q => by
  by_cases e : k = 125
  · subst e; rw [m.2.1 j (by omega)]; exact f _ _ (by omega)
  · by_cases e2 : k = 132
    · subst e2; rw [(m.2.2 j (by omega) (by omega)).1]; exact f _ _ (by omega)
    · by_cases e3 : k = 133
      · subst e3; rw [(m.2.2 j (by omega) (by omega)).2]; exact f _ _ (by omega)
      · rw [m.1 k j (by omega) (by omega) (by omega) (by omega) (by omega)]; exact f k j (by omega)
theorem fm_step {x g g2 : Int → Int → Int} (m : fm x g) (p : ∀ k j, ¬ (k = 124 ∧ (j = 44 ∨ j = 45)) → ¬ (k = 125 ∧ 5 ≤ j ∧ j ≤ 8) → ¬ (126 ≤ k ∧ k ≤ 131) → k ≠ 155 → k ≠ 156 → g2 k j = g k j) : fm x g2 := by
  refine ⟨fun k j e1 e2 e3 e4 e5 => ?_, fun j e => ?_, fun j j0 j1 => ?_⟩
  · rw [p k j (by omega) (by omega) (by omega) (by omega) (by omega)]; exact m.1 k j e1 e2 e3 e4 e5
  · rw [p 125 j (by omega) (by omega) (by omega) (by omega) (by omega)]; exact m.2.1 j e
  · rw [p 132 j (by omega) (by omega) (by omega) (by omega) (by omega), p 133 j (by omega) (by omega) (by omega) (by omega) (by omega)]; exact m.2.2 j j0 j1
set_option maxRecDepth 100000 in
set_option maxHeartbeats 4000000 in
theorem q_goFor {h x g : Int → Int → Int} {W : (Int → Int) → Int} (q : qx h W) (f : fr h x) (u : fm x g) (kk : kp x g) {b : Int} {S : Int → Int} (hg : gm h b S) (hm : mo h S g) {m : Int} (m0 : 0 ≤ m) (hb : b + m < 100000) {d : Nat} {Q : ax_V → ax_H → Prop}
    (hq : ∀ g', fm x g' → kp x g' → mo h (it (dD h W) m.toNat S) g' → Q (9, 0) (L0, g')) : ax_Ev (d + 10) 231 0 [(2, 124), (0, m), (9, 0)] [] (L0, g) Q := by
  have b0 : 0 ≤ b := by have := hg.1.1; have := hg.2; omega
  have key : ∀ i : Int, 0 ≤ i → i ≤ m → ∀ g', fm x g' → kp x g' → mo h (it (dD h W) i.toNat S) g' → ax_Ev (d + 10) 231 2 [(2, 124), (0, m), (0, i)] [] (L0, g') Q := by
    intro i i0 i1
    have E := lp (E := fun i => 0 ≤ i → ∀ g', fm x g' → kp x g' → mo h (it (dD h W) i.toNat S) g' → ax_Ev (d + 10) 231 2 [(2, 124), (0, m), (0, i)] [] (L0, g') Q) (a := i) (n := m) i1 ?_ ?_
    · exact E i0
    · intro k k0 k1 ih k2 g' f1 f2 f3
      have gi := gm_it q hg k.toNat (by omega)
      have P : ax_Ev (d + 9) 207 0 [(2, 124), (9, 0)] [] (L0, g') (ax_k (d + 10) 231 11 [(2, 124), (0, m), (0, k)] [] Q) := by
        refine q_goes (b := b + k.toNat) q (fm_ms f f1) gi (by omega) f3 ?_
        intro g2 v p1 p2 p3
        have ih' := ih (by omega) g2 (fm_step f1 fun a j e1 e2 e3 e4 e5 => p1 a j e1 (by omega) (by omega) e4 e5) (by
          obtain ⟨k1, k2, k3, k4, k5⟩ := f2
          have V : ∀ j, g2 164 j = g' 164 j := fun j => p1 164 j (by omega) (by omega) (by omega) (by omega) (by omega)
          refine ⟨?_, ?_, ?_, ?_, ?_⟩
          all_goals simp only [V]
          all_goals assumption) (by rw [show (k + 1).toNat = k.toNat + 1 by omega]; exact p3)
        clear ih f1 f2 f3 p1 p2 hq
        rw [ax_kk]
        simp (disch := omega) only [ax_ev, ax_kk, ax_ps, ax_r_const, ax_r_lconst, ax_r_str, ax_r_iload, ax_r_lload, ax_r_aload, ax_r_istore, ax_r_astore, ax_r_lstore, ax_r_iinc, ax_r_iadd, ax_r_isub, ax_r_imul, ax_r_idiv, ax_r_irem, ax_r_iand, ax_r_ior, ax_r_ishl, ax_r_ishr, ax_r_iushr, ax_r_i2l, ax_r_l2i, ax_r_i2b, ax_r_ladd, ax_r_lsub, ax_r_lmul, ax_r_ldiv, ax_r_lrem, ax_r_land, ax_r_lor, ax_r_lcmp, ax_r_ifeq, ax_r_ifne, ax_r_iflt, ax_r_ifge, ax_r_ifgt, ax_r_ifle, ax_r_iceq, ax_r_icne, ax_r_iclt, ax_r_icge, ax_r_icgt, ax_r_icle, ax_r_goto, ax_r_tsw, ax_evt_c, ax_evt_n, ax_r_lsw, ax_evu_c, ax_evu_n, ax_r_getI, ax_r_getR, ax_r_putI, ax_r_putZ, ax_r_iald, ax_r_iast, ax_r_lald, ax_r_last, ax_r_bald, ax_r_aald, ax_r_alen, ax_r_bast, ax_r_min, ax_r_max, ax_r_minl, ax_r_maxl, ax_r_copy, ax_r_slen, ax_r_schr, ax_r_dup, ax_r_dup2, ax_r_pop, ax_r_ret, ax_r_lret, ax_r_vret, ax_r_zret, ax_r_aret, ax_r_call, ax_evo, ax_eva, ax_ar, ax_tk, ax_ex, ax_ld, ax_sto, ax_stl, ly_pm, ly_cd, ly_ln, ly_rf, Option.bind_some, Option.map_some, if_true, if_false, true_and, and_true, List.nil_append, List.cons_append, List.append_nil, List.length_nil, List.length_cons, List.headD_cons, true_or, or_true, false_or, or_false, ne_eq, not_false_eq_true, not_true_eq_false, false_and, and_false, List.set_cons_zero, List.set_cons_succ, Nat.reduceAdd, Nat.reduceSub, Nat.reduceMul, Nat.reduceLeDiff, Nat.reduceLT, Nat.reduceEqDiff, ↓reduceIte, Int.reduceNeg, Int.reduceAdd, Int.reduceSub, Int.reduceMul, Int.reduceEq, Int.reduceNe, Int.reduceLE, Int.reduceLT, Int.reduceToNat, Nat.one_ne_zero, Nat.zero_ne_one, Int.cast_ofNat_Int, lc_lt, lc_ge, lc_gt, lc_le, lc_eq, lc_ne, w32i, w64i, tdv, tmd, ltT, ltF, leT, leF, eqT, eqF, dc_M_goFor]
        exact ih'
      clear ih f1 f2 f3 hq
      rw [ax_ev, dh_M_goFor_2]
      simp (disch := omega) only [ax_ev, ax_kk, ax_ps, ax_r_const, ax_r_lconst, ax_r_str, ax_r_iload, ax_r_lload, ax_r_aload, ax_r_istore, ax_r_astore, ax_r_lstore, ax_r_iinc, ax_r_iadd, ax_r_isub, ax_r_imul, ax_r_idiv, ax_r_irem, ax_r_iand, ax_r_ior, ax_r_ishl, ax_r_ishr, ax_r_iushr, ax_r_i2l, ax_r_l2i, ax_r_i2b, ax_r_ladd, ax_r_lsub, ax_r_lmul, ax_r_ldiv, ax_r_lrem, ax_r_land, ax_r_lor, ax_r_lcmp, ax_r_ifeq, ax_r_ifne, ax_r_iflt, ax_r_ifge, ax_r_ifgt, ax_r_ifle, ax_r_iceq, ax_r_icne, ax_r_iclt, ax_r_icge, ax_r_icgt, ax_r_icle, ax_r_goto, ax_r_tsw, ax_evt_c, ax_evt_n, ax_r_lsw, ax_evu_c, ax_evu_n, ax_r_getI, ax_r_getR, ax_r_putI, ax_r_putZ, ax_r_iald, ax_r_iast, ax_r_lald, ax_r_last, ax_r_bald, ax_r_aald, ax_r_alen, ax_r_bast, ax_r_min, ax_r_max, ax_r_minl, ax_r_maxl, ax_r_copy, ax_r_slen, ax_r_schr, ax_r_dup, ax_r_dup2, ax_r_pop, ax_r_ret, ax_r_lret, ax_r_vret, ax_r_zret, ax_r_aret, ax_r_call, ax_evo, ax_eva, ax_ar, ax_tk, ax_ex, ax_ld, ax_sto, ax_stl, ly_pm, ly_cd, ly_ln, ly_rf, Option.bind_some, Option.map_some, if_true, if_false, true_and, and_true, List.nil_append, List.cons_append, List.append_nil, List.length_nil, List.length_cons, List.headD_cons, true_or, or_true, false_or, or_false, ne_eq, not_false_eq_true, not_true_eq_false, false_and, and_false, List.set_cons_zero, List.set_cons_succ, Nat.reduceAdd, Nat.reduceSub, Nat.reduceMul, Nat.reduceLeDiff, Nat.reduceLT, Nat.reduceEqDiff, ↓reduceIte, Int.reduceNeg, Int.reduceAdd, Int.reduceSub, Int.reduceMul, Int.reduceEq, Int.reduceNe, Int.reduceLE, Int.reduceLT, Int.reduceToNat, Nat.one_ne_zero, Nat.zero_ne_one, Int.cast_ofNat_Int, lc_lt, lc_ge, lc_gt, lc_le, lc_eq, lc_ne, w32i, w64i, tdv, tmd, ltT, ltF, leT, leF, eqT, eqF, dc_M_goFor]
      exact P
    · intro _ g' f1 f2 f3
      have := hq g' f1 f2 f3
      clear hq f1 f2 f3
      rw [ax_ev, dh_M_goFor_2]
      simp (disch := omega) only [ax_ev, ax_kk, ax_ps, ax_r_const, ax_r_lconst, ax_r_str, ax_r_iload, ax_r_lload, ax_r_aload, ax_r_istore, ax_r_astore, ax_r_lstore, ax_r_iinc, ax_r_iadd, ax_r_isub, ax_r_imul, ax_r_idiv, ax_r_irem, ax_r_iand, ax_r_ior, ax_r_ishl, ax_r_ishr, ax_r_iushr, ax_r_i2l, ax_r_l2i, ax_r_i2b, ax_r_ladd, ax_r_lsub, ax_r_lmul, ax_r_ldiv, ax_r_lrem, ax_r_land, ax_r_lor, ax_r_lcmp, ax_r_ifeq, ax_r_ifne, ax_r_iflt, ax_r_ifge, ax_r_ifgt, ax_r_ifle, ax_r_iceq, ax_r_icne, ax_r_iclt, ax_r_icge, ax_r_icgt, ax_r_icle, ax_r_goto, ax_r_tsw, ax_evt_c, ax_evt_n, ax_r_lsw, ax_evu_c, ax_evu_n, ax_r_getI, ax_r_getR, ax_r_putI, ax_r_putZ, ax_r_iald, ax_r_iast, ax_r_lald, ax_r_last, ax_r_bald, ax_r_aald, ax_r_alen, ax_r_bast, ax_r_min, ax_r_max, ax_r_minl, ax_r_maxl, ax_r_copy, ax_r_slen, ax_r_schr, ax_r_dup, ax_r_dup2, ax_r_pop, ax_r_ret, ax_r_lret, ax_r_vret, ax_r_zret, ax_r_aret, ax_r_call, ax_evo, ax_eva, ax_ar, ax_tk, ax_ex, ax_ld, ax_sto, ax_stl, ly_pm, ly_cd, ly_ln, ly_rf, Option.bind_some, Option.map_some, if_true, if_false, true_and, and_true, List.nil_append, List.cons_append, List.append_nil, List.length_nil, List.length_cons, List.headD_cons, true_or, or_true, false_or, or_false, ne_eq, not_false_eq_true, not_true_eq_false, false_and, and_false, List.set_cons_zero, List.set_cons_succ, Nat.reduceAdd, Nat.reduceSub, Nat.reduceMul, Nat.reduceLeDiff, Nat.reduceLT, Nat.reduceEqDiff, ↓reduceIte, Int.reduceNeg, Int.reduceAdd, Int.reduceSub, Int.reduceMul, Int.reduceEq, Int.reduceNe, Int.reduceLE, Int.reduceLT, Int.reduceToNat, Nat.one_ne_zero, Nat.zero_ne_one, Int.cast_ofNat_Int, lc_lt, lc_ge, lc_gt, lc_le, lc_eq, lc_ne, w32i, w64i, tdv, tmd, ltT, ltF, leT, leF, eqT, eqF, dc_M_goFor]
      exact this
  have K := key 0 (by omega) m0 g u kk hm
  clear key hq
  simp (disch := omega) only [ax_ev, ax_kk, ax_ps, ax_r_const, ax_r_lconst, ax_r_str, ax_r_iload, ax_r_lload, ax_r_aload, ax_r_istore, ax_r_astore, ax_r_lstore, ax_r_iinc, ax_r_iadd, ax_r_isub, ax_r_imul, ax_r_idiv, ax_r_irem, ax_r_iand, ax_r_ior, ax_r_ishl, ax_r_ishr, ax_r_iushr, ax_r_i2l, ax_r_l2i, ax_r_i2b, ax_r_ladd, ax_r_lsub, ax_r_lmul, ax_r_ldiv, ax_r_lrem, ax_r_land, ax_r_lor, ax_r_lcmp, ax_r_ifeq, ax_r_ifne, ax_r_iflt, ax_r_ifge, ax_r_ifgt, ax_r_ifle, ax_r_iceq, ax_r_icne, ax_r_iclt, ax_r_icge, ax_r_icgt, ax_r_icle, ax_r_goto, ax_r_tsw, ax_evt_c, ax_evt_n, ax_r_lsw, ax_evu_c, ax_evu_n, ax_r_getI, ax_r_getR, ax_r_putI, ax_r_putZ, ax_r_iald, ax_r_iast, ax_r_lald, ax_r_last, ax_r_bald, ax_r_aald, ax_r_alen, ax_r_bast, ax_r_min, ax_r_max, ax_r_minl, ax_r_maxl, ax_r_copy, ax_r_slen, ax_r_schr, ax_r_dup, ax_r_dup2, ax_r_pop, ax_r_ret, ax_r_lret, ax_r_vret, ax_r_zret, ax_r_aret, ax_r_call, ax_evo, ax_eva, ax_ar, ax_tk, ax_ex, ax_ld, ax_sto, ax_stl, ly_pm, ly_cd, ly_ln, ly_rf, Option.bind_some, Option.map_some, if_true, if_false, true_and, and_true, List.nil_append, List.cons_append, List.append_nil, List.length_nil, List.length_cons, List.headD_cons, true_or, or_true, false_or, or_false, ne_eq, not_false_eq_true, not_true_eq_false, false_and, and_false, List.set_cons_zero, List.set_cons_succ, Nat.reduceAdd, Nat.reduceSub, Nat.reduceMul, Nat.reduceLeDiff, Nat.reduceLT, Nat.reduceEqDiff, ↓reduceIte, Int.reduceNeg, Int.reduceAdd, Int.reduceSub, Int.reduceMul, Int.reduceEq, Int.reduceNe, Int.reduceLE, Int.reduceLT, Int.reduceToNat, Nat.one_ne_zero, Nat.zero_ne_one, Int.cast_ofNat_Int, lc_lt, lc_ge, lc_gt, lc_le, lc_eq, lc_ne, w32i, w64i, tdv, tmd, ltT, ltF, leT, leF, eqT, eqF, dc_M_goFor]
  exact K
/-- the question laid back: all as before -/
theorem q_end {h x g g' : Int → Int → Int} (hi : iv_h h) (f : fr h x) (u : fm x g) (b1 : ∀ a j, ¬ (125 ≤ a ∧ a ≤ 133) → ¬ (a = 124 ∧ (j = 58 ∨ j = 59)) → g' a j = g a j) (b2 : ∀ j, 0 ≤ j → j < 12 → g' 125 j = x 125 j) (b3 : ∀ j, 0 ≤ j → j < 9 → g' 126 j = x 126 j ∧ g' 127 j = x 127 j ∧ g' 128 j = x 128 j ∧ g' 129 j = x 129 j) (b4 : ∀ j, 0 ≤ j → j < 3 → g' 130 j = x 130 j ∧ g' 132 j = x 132 j ∧ g' 133 j = x 133 j) (b5 : ∀ j, 0 ≤ j → j < 4 → g' 131 j = x 131 j) : iv_h g' := by
  refine iv_same hi ?_
  intro k j q
  have X : ∀ k j, ¬ (125 ≤ k ∧ k ≤ 133) → ¬ (k = 124 ∧ (j = 44 ∨ j = 45 ∨ j = 58 ∨ j = 59)) → ¬ (155 ≤ k ∧ k ≤ 156) → ¬ (159 ≤ k ∧ k ≤ 163) → ¬ (k = 164 ∧ 4400 ≤ j) → ¬ (k = 20 ∨ k = 23 ∨ (91 ≤ k ∧ k ≤ 123)) → g' k j = h k j := by
    intro k j e1 e2 e3 e4 e5 e6
    rw [b1 k j e1 (by omega), u.1 k j e2 e1 e3 e4 e5, f k j e6]
  by_cases e : 125 ≤ k ∧ k ≤ 133
  · have f' : x k j = h k j := f k j (by omega)
    rw [← f']
    unfold iv_o iv_n iv_t at q
    rcases (by omega : k = 125 ∨ k = 126 ∨ k = 127 ∨ k = 128 ∨ k = 129 ∨ k = 130 ∨ k = 131 ∨ k = 132 ∨ k = 133) with r | r | r | r | r | r | r | r | r <;> subst r
    · exact b2 j (by omega) (by omega)
    · exact (b3 j (by omega) (by omega)).1
    · exact (b3 j (by omega) (by omega)).2.1
    · exact (b3 j (by omega) (by omega)).2.2.1
    · exact (b3 j (by omega) (by omega)).2.2.2
    · exact (b4 j (by omega) (by omega)).1
    · exact b5 j (by omega) (by omega)
    · exact (b4 j (by omega) (by omega)).2.1
    · exact (b4 j (by omega) (by omega)).2.2
  · unfold iv_o iv_n iv_t at q
    exact X k j e (by omega) (by omega) (by omega) (by omega) (by omega)
