set_option maxRecDepth 100000 in
set_option maxHeartbeats 4000000 in
theorem q_goes2 {h g : Int → Int → Int} {W : (Int → Int) → Int} (q : qx h W) (c : ms h g) {b : Int} {S : Int → Int} (hg : gm h b S) (hb : b < 100000) (hm : mo h S g) {d : Nat} {Q : ax_V → ax_H → Prop}
    (hq : ∀ g' v, (∀ k j, ¬ (k = 124 ∧ (j = 44 ∨ j = 45)) → ¬ (k = 125 ∧ 5 ≤ j ∧ j ≤ 7) → ¬ (127 ≤ k ∧ k ≤ 129 ∧ 0 ≤ j ∧ j < h 25 0) → k ≠ 155 → k ≠ 156 → g' k j = g k j) → mo h (dD h W S) g' → Q (0, v) (L0, g')) : ax_Ev (d + 9) 207 0 [(2, 124), (9, 0)] [] (L0, g) Q := by
  have hi := q.1
  have hi' := hi
  obtain ⟨a1, a8, b3, c7, r1, h43⟩ : h 125 0 = h 25 0 ∧ h 125 11 = h 24 5 ∧ (0 ≤ h 25 2 ∧ h 25 2 ≤ 3) ∧ (∀ y, 0 ≤ y → y < h 25 2 → h 26 y = h 132 y ∧ h 27 y = h 133 y) ∧ (h 124 27 = h 11 3 ∧ 0 ≤ h 11 3 ∧ h 11 3 ≤ 6) ∧ h 124 43 = -1 := by
    obtain ⟨⟨a1, a2, a3, a4, a5, a6, a7, a8, a9⟩, ⟨b1, b2, b3, b4, b5, b6, b7, b8⟩, c1, c2, c3, c4, c5, c6, c7, c8, c9, c10, ⟨⟨m1, m2, m3, m4, m5, m6, m7⟩, ⟨g1, g2, g3, g4, g5, g6, g7, g8⟩, g9⟩, r1, tp⟩ := iv_get hi
    exact ⟨a1, a8, b3, c7, r1, hi'.2.2.2.2.2⟩
  refine md_goes (n := h 25 0) (cy := h 25 2) (S := S) (nd := h 27) (w := dy_w (h 25 0) (h 27) W (h 24 5) S) (r := h 24 5) (W := W) q.2.1 hg.1 hm (by rw [c 125 0 (by omega)]; exact a1) (fun y y0 y1 => ⟨by rw [c 133 y (by omega)]; exact (c7 y y0 y1).2.symm, qx_nd q y y0 y1⟩) b3.2 (by have := hg.2; omega) (.inr ⟨?_, rfl, ?_, ?_⟩) ?_
  · rw [c 124 43 (by omega)]; exact h43
  · rw [c 125 11 (by omega)]; exact a8
  · rcases q.2.2 with a | a
    · exact .inl a
    · exact .inr ⟨a.1, by omega, iv_rx_same a.2.2 a.1 (by omega) fun k j _ => c k j (by omega)⟩
  · intro g' hg'
    refine hq g' _ ?_ (mo_day q.2.1 hm hg')
    intro k j e1 e2 e3 e4 e5
    rw [hg' k j e4 e5]; unfold dy_M
    repeat rw [if_neg (by omega)]
set_option maxRecDepth 100000 in
set_option maxHeartbeats 4000000 in
theorem m_lday {g : Int → Int → Int} {i : Int} (i0 : 0 ≤ i) (i1 : i ≤ 60) {d : Nat} {Q : ax_V → ax_H → Prop} (hq : ∀ g', (∀ k j, k ≠ 161 → g' k j = g k j) → (∀ j, j < 37 * i ∨ 37 * i + 37 ≤ j → g' 161 j = g 161 j) → (∀ c, 0 ≤ c → c < 9 → g' 161 (37 * i + 4 * c) = g 126 c ∧ g' 161 (37 * i + 4 * c + 1) = g 127 c ∧ g' 161 (37 * i + 4 * c + 2) = g 128 c ∧ g' 161 (37 * i + 4 * c + 3) = g 129 c) → g' 161 (37 * i + 36) = g 125 6 → Q (9, 0) (L0, g')) : ax_Ev (d) 257 0 [(2, 124), (0, i), (9, 0)] [] (L0, g) Q := by
  have E := lp (E := fun n => ∀ g' : Int → Int → Int, (∀ k j, k ≠ 161 → g' k j = g k j) → (∀ j, j < 37 * i ∨ 37 * i + 36 ≤ j → g' 161 j = g 161 j) → (∀ c, 0 ≤ c → c < n → g' 161 (37 * i + 4 * c) = g 126 c ∧ g' 161 (37 * i + 4 * c + 1) = g 127 c ∧ g' 161 (37 * i + 4 * c + 2) = g 128 c ∧ g' 161 (37 * i + 4 * c + 3) = g 129 c) → ax_Ev d 257 2 [(2, 124), (0, i), (0, n)] [] (L0, g') Q) (a := 0) (n := 9) (by omega) ?_ ?_
  · have E' := E g (fun _ _ _ => rfl) (fun _ _ => rfl) (fun c a b => by omega)
    clear E hq
    simp (disch := omega) only [ax_ev, ax_kk, ax_ps, ax_r_const, ax_r_lconst, ax_r_str, ax_r_iload, ax_r_lload, ax_r_aload, ax_r_istore, ax_r_astore, ax_r_lstore, ax_r_iinc, ax_r_iadd, ax_r_isub, ax_r_imul, ax_r_idiv, ax_r_irem, ax_r_iand, ax_r_ior, ax_r_ishl, ax_r_ishr, ax_r_iushr, ax_r_i2l, ax_r_l2i, ax_r_i2b, ax_r_ladd, ax_r_lsub, ax_r_lmul, ax_r_ldiv, ax_r_lrem, ax_r_land, ax_r_lor, ax_r_lcmp, ax_r_ifeq, ax_r_ifne, ax_r_iflt, ax_r_ifge, ax_r_ifgt, ax_r_ifle, ax_r_iceq, ax_r_icne, ax_r_iclt, ax_r_icge, ax_r_icgt, ax_r_icle, ax_r_goto, ax_r_tsw, ax_evt_c, ax_evt_n, ax_r_lsw, ax_evu_c, ax_evu_n, ax_r_getI, ax_r_getR, ax_r_putI, ax_r_putZ, ax_r_iald, ax_r_iast, ax_r_lald, ax_r_last, ax_r_bald, ax_r_aald, ax_r_alen, ax_r_bast, ax_r_min, ax_r_max, ax_r_minl, ax_r_maxl, ax_r_copy, ax_r_slen, ax_r_schr, ax_r_dup, ax_r_dup2, ax_r_pop, ax_r_ret, ax_r_lret, ax_r_vret, ax_r_zret, ax_r_aret, ax_r_call, ax_evo, ax_eva, ax_ar, ax_tk, ax_ex, ax_ld, ax_sto, ax_stl, ly_pm, ly_cd, ly_ln, ly_rf, Option.bind_some, Option.map_some, if_true, if_false, true_and, and_true, List.nil_append, List.cons_append, List.append_nil, List.length_nil, List.length_cons, List.headD_cons, true_or, or_true, false_or, or_false, ne_eq, not_false_eq_true, not_true_eq_false, false_and, and_false, List.set_cons_zero, List.set_cons_succ, Nat.reduceAdd, Nat.reduceSub, Nat.reduceMul, Nat.reduceLeDiff, Nat.reduceLT, Nat.reduceEqDiff, ↓reduceIte, Int.reduceNeg, Int.reduceAdd, Int.reduceSub, Int.reduceMul, Int.reduceEq, Int.reduceNe, Int.reduceLE, Int.reduceLT, Int.reduceToNat, Nat.one_ne_zero, Nat.zero_ne_one, Int.cast_ofNat_Int, lc_lt, lc_ge, lc_gt, lc_le, lc_eq, lc_ne, w32i, w64i, tdv, tmd, ltT, ltF, leT, leF, eqT, eqF, dc_M_laysDay]
    exact E'
  · intro n n0 n1 ih g' f1 f2 f3
    have r1 := f1 126 n (by omega)
    have r2 := f1 127 n (by omega)
    have r3 := f1 128 n (by omega)
    have r4 := f1 129 n (by omega)
    have I := ih (ax_up (ax_up (ax_up (ax_up g' 161 (37 * i + 4 * n) (g 126 n)) 161 (37 * i + 4 * n + 1) (g 127 n)) 161 (37 * i + 4 * n + 2) (g 128 n)) 161 (37 * i + 4 * n + 3) (g 129 n)) (fun k j e => by simp only [ax_up, e, false_and, if_false]; exact f1 k j e) (fun j hj => by simp only [ax_up, true_and]; rw [if_neg (by omega), if_neg (by omega), if_neg (by omega), if_neg (by omega)]; exact f2 j hj) (fun c c0 c1 => by
      simp only [ax_up, true_and]
      by_cases e : c = n
      · subst e
        refine ⟨?_, ?_, ?_, ?_⟩
        · rw [if_neg (by omega), if_neg (by omega), if_neg (by omega), if_pos rfl]
        · rw [if_neg (by omega), if_neg (by omega), if_pos rfl]
        · rw [if_neg (by omega), if_pos rfl]
        · rw [if_pos rfl]
      · have := f3 c c0 (by omega)
        refine ⟨?_, ?_, ?_, ?_⟩
        · rw [if_neg (by omega), if_neg (by omega), if_neg (by omega), if_neg (by omega)]; exact this.1
        · rw [if_neg (by omega), if_neg (by omega), if_neg (by omega), if_neg (by omega)]; exact this.2.1
        · rw [if_neg (by omega), if_neg (by omega), if_neg (by omega), if_neg (by omega)]; exact this.2.2.1
        · rw [if_neg (by omega), if_neg (by omega), if_neg (by omega), if_neg (by omega)]; exact this.2.2.2)
    clear ih f1 f2 f3 hq
    rw [ax_ev, dh_M_laysDay_2]
    simp (disch := omega) only [ax_ev, ax_kk, ax_ps, ax_r_const, ax_r_lconst, ax_r_str, ax_r_iload, ax_r_lload, ax_r_aload, ax_r_istore, ax_r_astore, ax_r_lstore, ax_r_iinc, ax_r_iadd, ax_r_isub, ax_r_imul, ax_r_idiv, ax_r_irem, ax_r_iand, ax_r_ior, ax_r_ishl, ax_r_ishr, ax_r_iushr, ax_r_i2l, ax_r_l2i, ax_r_i2b, ax_r_ladd, ax_r_lsub, ax_r_lmul, ax_r_ldiv, ax_r_lrem, ax_r_land, ax_r_lor, ax_r_lcmp, ax_r_ifeq, ax_r_ifne, ax_r_iflt, ax_r_ifge, ax_r_ifgt, ax_r_ifle, ax_r_iceq, ax_r_icne, ax_r_iclt, ax_r_icge, ax_r_icgt, ax_r_icle, ax_r_goto, ax_r_tsw, ax_evt_c, ax_evt_n, ax_r_lsw, ax_evu_c, ax_evu_n, ax_r_getI, ax_r_getR, ax_r_putI, ax_r_putZ, ax_r_iald, ax_r_iast, ax_r_lald, ax_r_last, ax_r_bald, ax_r_aald, ax_r_alen, ax_r_bast, ax_r_min, ax_r_max, ax_r_minl, ax_r_maxl, ax_r_copy, ax_r_slen, ax_r_schr, ax_r_dup, ax_r_dup2, ax_r_pop, ax_r_ret, ax_r_lret, ax_r_vret, ax_r_zret, ax_r_aret, ax_r_call, ax_evo, ax_eva, ax_ar, ax_tk, ax_ex, ax_ld, ax_sto, ax_stl, ly_pm, ly_cd, ly_ln, ly_rf, Option.bind_some, Option.map_some, if_true, if_false, true_and, and_true, List.nil_append, List.cons_append, List.append_nil, List.length_nil, List.length_cons, List.headD_cons, true_or, or_true, false_or, or_false, ne_eq, not_false_eq_true, not_true_eq_false, false_and, and_false, List.set_cons_zero, List.set_cons_succ, Nat.reduceAdd, Nat.reduceSub, Nat.reduceMul, Nat.reduceLeDiff, Nat.reduceLT, Nat.reduceEqDiff, ↓reduceIte, Int.reduceNeg, Int.reduceAdd, Int.reduceSub, Int.reduceMul, Int.reduceEq, Int.reduceNe, Int.reduceLE, Int.reduceLT, Int.reduceToNat, Nat.one_ne_zero, Nat.zero_ne_one, Int.cast_ofNat_Int, lc_lt, lc_ge, lc_gt, lc_le, lc_eq, lc_ne, w32i, w64i, tdv, tmd, ltT, ltF, leT, leF, eqT, eqF, dc_M_laysDay, ax_up, r1, r2, r3, r4]
    exact I
  · intro g' f1 f2 f3
    have r6 := f1 125 6 (by omega)
    have H := hq (ax_up g' 161 (37 * i + 36) (g 125 6)) (fun k j e => by simp only [ax_up, e, false_and, if_false]; exact f1 k j e) (fun j hj => by simp only [ax_up, true_and]; rw [if_neg (by omega)]; exact f2 j (by omega)) (fun c c0 c1 => by
      have := f3 c c0 c1
      simp only [ax_up, true_and]
      rw [if_neg (by omega), if_neg (by omega), if_neg (by omega), if_neg (by omega)]; exact this) (by simp [ax_up])
    clear f1 f2 f3 hq
    rw [ax_ev, dh_M_laysDay_2]
    simp (disch := omega) only [ax_ev, ax_kk, ax_ps, ax_r_const, ax_r_lconst, ax_r_str, ax_r_iload, ax_r_lload, ax_r_aload, ax_r_istore, ax_r_astore, ax_r_lstore, ax_r_iinc, ax_r_iadd, ax_r_isub, ax_r_imul, ax_r_idiv, ax_r_irem, ax_r_iand, ax_r_ior, ax_r_ishl, ax_r_ishr, ax_r_iushr, ax_r_i2l, ax_r_l2i, ax_r_i2b, ax_r_ladd, ax_r_lsub, ax_r_lmul, ax_r_ldiv, ax_r_lrem, ax_r_land, ax_r_lor, ax_r_lcmp, ax_r_ifeq, ax_r_ifne, ax_r_iflt, ax_r_ifge, ax_r_ifgt, ax_r_ifle, ax_r_iceq, ax_r_icne, ax_r_iclt, ax_r_icge, ax_r_icgt, ax_r_icle, ax_r_goto, ax_r_tsw, ax_evt_c, ax_evt_n, ax_r_lsw, ax_evu_c, ax_evu_n, ax_r_getI, ax_r_getR, ax_r_putI, ax_r_putZ, ax_r_iald, ax_r_iast, ax_r_lald, ax_r_last, ax_r_bald, ax_r_aald, ax_r_alen, ax_r_bast, ax_r_min, ax_r_max, ax_r_minl, ax_r_maxl, ax_r_copy, ax_r_slen, ax_r_schr, ax_r_dup, ax_r_dup2, ax_r_pop, ax_r_ret, ax_r_lret, ax_r_vret, ax_r_zret, ax_r_aret, ax_r_call, ax_evo, ax_eva, ax_ar, ax_tk, ax_ex, ax_ld, ax_sto, ax_stl, ly_pm, ly_cd, ly_ln, ly_rf, Option.bind_some, Option.map_some, if_true, if_false, true_and, and_true, List.nil_append, List.cons_append, List.append_nil, List.length_nil, List.length_cons, List.headD_cons, true_or, or_true, false_or, or_false, ne_eq, not_false_eq_true, not_true_eq_false, false_and, and_false, List.set_cons_zero, List.set_cons_succ, Nat.reduceAdd, Nat.reduceSub, Nat.reduceMul, Nat.reduceLeDiff, Nat.reduceLT, Nat.reduceEqDiff, ↓reduceIte, Int.reduceNeg, Int.reduceAdd, Int.reduceSub, Int.reduceMul, Int.reduceEq, Int.reduceNe, Int.reduceLE, Int.reduceLT, Int.reduceToNat, Nat.one_ne_zero, Nat.zero_ne_one, Int.cast_ofNat_Int, lc_lt, lc_ge, lc_gt, lc_le, lc_eq, lc_ne, w32i, w64i, tdv, tmd, ltT, ltF, leT, leF, eqT, eqF, dc_M_laysDay, r6]
    exact H
/-- what days alike have in common, by the chambers that are -/
def alQ (h : Int → Int → Int) (S T : Int → Int) : Prop := S 10 = T 10 ∧ ∀ c, 0 ≤ c → c < h 25 0 → S (11 + c) = T (11 + c) ∧ S (20 + c) = T (20 + c) ∧ S (29 + c) = T (29 + c) ∧ S (38 + c) = T (38 + c)
theorem alP_X {h g : Int → Int → Int} {i j b1 b2 : Int} {S T : Int → Int} (n9 : h 25 0 ≤ 9) (g1 : gm h b1 S) (g2 : gm h b2 T) (hi : ∀ k, 0 ≤ k → k < 37 → g 94 (37 * i + k) = S (10 + k)) (hj : ∀ k, 0 ≤ k → k < 37 → g 94 (37 * j + k) = T (10 + k)) : alP g 94 i j ↔ alQ h S T := by
  constructor
  · intro a
    have a' : ∀ k, 0 ≤ k → k < 37 → S (10 + k) = T (10 + k) := fun k k0 k1 => by rw [← hi k k0 k1, ← hj k k0 k1]; exact a k k0 k1
    refine ⟨a' 0 (by omega) (by omega), fun c c0 c1 => ⟨?_, ?_, ?_, ?_⟩⟩
    · have := a' (1 + c) (by omega) (by omega); rw [show 10 + (1 + c) = 11 + c by omega] at this; exact this
    · have := a' (10 + c) (by omega) (by omega); rw [show 10 + (10 + c) = 20 + c by omega] at this; exact this
    · have := a' (19 + c) (by omega) (by omega); rw [show 10 + (19 + c) = 29 + c by omega] at this; exact this
    · have := a' (28 + c) (by omega) (by omega); rw [show 10 + (28 + c) = 38 + c by omega] at this; exact this
  · rintro ⟨f, a⟩ k k0 k1
    rw [hi k k0 k1, hj k k0 k1]
    have all : ∀ c, 0 ≤ c → c < 9 → S (11 + c) = T (11 + c) ∧ S (20 + c) = T (20 + c) ∧ S (29 + c) = T (29 + c) ∧ S (38 + c) = T (38 + c) := by
      intro c c0 c1
      by_cases e : c < h 25 0
      · exact a c c0 e
      · have p := g1.1.2.2.2.2.2.2.2 c c0 c1
        have r := g2.1.2.2.2.2.2.2.2 c c0 c1
        have p1 := p.2.2.2.2.1 (by omega)
        have r1 := r.2.2.2.2.1 (by omega)
        have p2 := p.2.2.2.2.2 p1.1
        have r2 := r.2.2.2.2.2 r1.1
        omega
    rcases (by omega : k = 0 ∨ (1 ≤ k ∧ k < 10) ∨ (10 ≤ k ∧ k < 19) ∨ (19 ≤ k ∧ k < 28) ∨ (28 ≤ k ∧ k < 37)) with e | e | e | e | e
    · rw [e]; exact f
    · have := (all (k - 1) (by omega) (by omega)).1; rw [show 11 + (k - 1) = 10 + k by omega] at this; exact this
    · have := (all (k - 10) (by omega) (by omega)).2.1; rw [show 20 + (k - 10) = 10 + k by omega] at this; exact this
    · have := (all (k - 19) (by omega) (by omega)).2.2.1; rw [show 29 + (k - 19) = 10 + k by omega] at this; exact this
    · have := (all (k - 28) (by omega) (by omega)).2.2.2; rw [show 38 + (k - 28) = 10 + k by omega] at this; exact this
/-- the reference's lay of one day -/
def lyD (h x g : Int → Int → Int) (i : Int) (S : Int → Int) : Prop := g 161 (37 * i + 36) = S 10 ∧ (∀ c, 0 ≤ c → c < h 25 0 → g 161 (37 * i + 4 * c) = S (11 + c) ∧ g 161 (37 * i + 4 * c + 1) = S (20 + c) ∧ g 161 (37 * i + 4 * c + 2) = S (29 + c) ∧ g 161 (37 * i + 4 * c + 3) = S (38 + c)) ∧ (∀ c, 0 ≤ c → h 25 0 ≤ c → c < 9 → g 161 (37 * i + 4 * c) = x 126 c ∧ g 161 (37 * i + 4 * c + 1) = x 127 c ∧ g 161 (37 * i + 4 * c + 2) = x 128 c ∧ g 161 (37 * i + 4 * c + 3) = x 129 c)
theorem alP_M {h x g : Int → Int → Int} {i j : Int} {S T : Int → Int} (n9 : h 25 0 ≤ 9) (a : lyD h x g i S) (b : lyD h x g j T) : alP g 161 i j ↔ alQ h S T := by
  constructor
  · intro p
    refine ⟨by rw [← a.1, ← b.1]; exact p 36 (by omega) (by omega), fun c c0 c1 => ?_⟩
    have u := a.2.1 c c0 c1
    have v := b.2.1 c c0 c1
    have p0 := p (4 * c) (by omega) (by omega)
    have p1 := p (4 * c + 1) (by omega) (by omega)
    have p2 := p (4 * c + 2) (by omega) (by omega)
    have p3 := p (4 * c + 3) (by omega) (by omega)
    rw [← Int.add_assoc, ← Int.add_assoc] at p1 p2 p3
    rw [← u.1, ← u.2.1, ← u.2.2.1, ← u.2.2.2, ← v.1, ← v.2.1, ← v.2.2.1, ← v.2.2.2]
    exact ⟨p0, p1, p2, p3⟩
  · rintro ⟨f, q⟩ k k0 k1
    have all : ∀ c, 0 ≤ c → c < 9 → g 161 (37 * i + 4 * c) = g 161 (37 * j + 4 * c) ∧ g 161 (37 * i + 4 * c + 1) = g 161 (37 * j + 4 * c + 1) ∧ g 161 (37 * i + 4 * c + 2) = g 161 (37 * j + 4 * c + 2) ∧ g 161 (37 * i + 4 * c + 3) = g 161 (37 * j + 4 * c + 3) := by
      intro c c0 c1
      by_cases e : c < h 25 0
      · have u := a.2.1 c c0 e
        have v := b.2.1 c c0 e
        rw [u.1, u.2.1, u.2.2.1, u.2.2.2, v.1, v.2.1, v.2.2.1, v.2.2.2]
        exact q c c0 e
      · have u := a.2.2 c c0 (by omega) c1
        have v := b.2.2 c c0 (by omega) c1
        rw [u.1, u.2.1, u.2.2.1, u.2.2.2, v.1, v.2.1, v.2.2.1, v.2.2.2]
        exact ⟨rfl, rfl, rfl, rfl⟩
    by_cases e : k = 36
    · rw [e, a.1, b.1]; exact f
    · have A := all (k / 4) (by omega) (by omega)
      rcases (by omega : k = 4 * (k / 4) ∨ k = 4 * (k / 4) + 1 ∨ k = 4 * (k / 4) + 2 ∨ k = 4 * (k / 4) + 3) with z | z | z | z
      · rw [z]; exact A.1
      · rw [z, ← Int.add_assoc, ← Int.add_assoc]; exact A.2.1
      · rw [z, ← Int.add_assoc, ← Int.add_assoc]; exact A.2.2.1
      · rw [z, ← Int.add_assoc, ← Int.add_assoc]; exact A.2.2.2
