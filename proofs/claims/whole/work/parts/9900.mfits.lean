/-! what fits the notes, in the reference -/
def fmw (x g : Int → Int → Int) : Prop := ∀ k j, ¬ (k = 124 ∧ (j = 44 ∨ j = 45 ∨ j = 58 ∨ j = 59)) → ¬ (125 ≤ k ∧ k ≤ 133) → ¬ (155 ≤ k ∧ k ≤ 156) → ¬ (159 ≤ k ∧ k ≤ 163) → ¬ (k = 164 ∧ 4400 ≤ j) → g k j = x k j
theorem fmw_lay {x g g' : Int → Int → Int} (m : fmw x g) (b1 : ∀ a j, ¬ (125 ≤ a ∧ a ≤ 133) → ¬ (a = 124 ∧ (j = 58 ∨ j = 59)) → g' a j = g a j) (b2 : ∀ j, 0 ≤ j → j < 12 → g' 125 j = x 125 j) (b4 : ∀ j, 0 ≤ j → j < 3 → g' 130 j = x 130 j ∧ g' 132 j = x 132 j ∧ g' 133 j = x 133 j) : fm x g' :=
  ⟨fun k j e1 e2 e3 e4 e5 => by rw [b1 k j e2 (by omega)]; exact m k j e1 e2 e3 e4 e5, fun j hj => b2 j (by omega) (by omega), fun j j0 j1 => (b4 j j0 j1).2⟩
def moG (n : Int) (S : Int → Int) (g : Int → Int → Int) : Prop := iv_mo n S (g 126) (g 127) (g 128) (g 129) (g 130) (g 131) (g 125 5) (g 125 6) (g 125 7) (g 125 8)
theorem it_gd {n co fi cy r : Int} {sw cw nd : Int → Int} (t : tf n co fi cy sw cw nd) {W : (Int → Int) → Int} {h : Int → Int → Int} (hr : r = -1 ∨ (0 ≤ r ∧ iv_rx h r W)) (S : Int → Int) : ∀ k : Nat, k ≤ 1000 → iv_gd n cy (it (dG n nd W r) k (bg co fi sw cw S)) ∧ it (dG n nd W r) k (bg co fi sw cw S) 0 ≤ k
  | 0, _ => ⟨bg_gd t S, by simp [it, bg]⟩
  | k + 1, hk => by
    have := dG_gd t hr (it_gd t hr S k (by omega)) (by omega)
    refine ⟨this.1, ?_⟩
    have e := this.2
    rw [show ((k + 1 : Nat) : Int) = (k : Int) + 1 by omega]
    exact e
set_option maxRecDepth 100000 in
set_option maxHeartbeats 4000000 in
theorem m_fits {h x g : Int → Int → Int} {n co fi cy r : Int} {sw cw nd : Int → Int} {W : (Int → Int) → Int} (f : fr h x) (u : fmw x g) (kk : kp x g) (tt : tf n co fi cy sw cw nd) (hr : r = -1 ∨ (0 ≤ r ∧ r < h 11 3 ∧ iv_rx h r W)) (h6 : h 11 3 ≤ 6) (h43 : h 124 43 = -1) (hs : ∀ c, 0 ≤ c → c < 9 → -1 ≤ h 139 c ∧ h 139 c < 3) (hsw : ∀ c, 0 ≤ c → c < n → sw c = h 139 c) (g0 : g 125 0 = n ∧ g 125 3 = fi ∧ g 125 4 = co ∧ g 125 11 = r) (gy : ∀ y, 0 ≤ y → y < cy → g 132 y = cw y ∧ g 133 y = nd y)
    (hN : 0 ≤ h 24 7 ∧ h 24 7 ≤ 10) (hD : ∀ i, 0 ≤ i → i < h 24 7 → h 35 i = h 137 i ∧ h 36 i = h 138 i ∧ 0 ≤ h 35 i ∧ h 35 i ≤ 60) (h9 : h 125 9 = h 24 7) (S : Int → Int) {d : Nat} {Q : ax_V → ax_H → Prop}
    (hq : ∀ g', lb x g' → (∀ k, 0 ≤ k → k ≤ 60 → g' 162 k = pth n co fi sw cw nd W r S k) → (∀ j, g' 163 j = g 163 j) → Q (0, ftI h (pth n co fi sw cw nd W r S)) (L0, g')) : ax_Ev (d + 10) 263 0 [(2, 124), (9, 0)] [] (L0, g) Q := by
  have hr' : r = -1 ∨ (0 ≤ r ∧ iv_rx h r W) := by rcases hr with a | a; exact .inl a; exact .inr ⟨a.1, a.2.2⟩
  have G := it_gd tt hr' S
  have P0 : ∀ k, pth n co fi sw cw nd W r S k = it (dG n nd W r) (k + 1).toNat (bg co fi sw cw S) 10 := fun k => rfl
  generalize hP : pth n co fi sw cw nd W r S = P at *
  simp (disch := omega) only [ax_ev, ax_kk, ax_ps, ax_r_const, ax_r_lconst, ax_r_str, ax_r_iload, ax_r_lload, ax_r_aload, ax_r_istore, ax_r_astore, ax_r_lstore, ax_r_iinc, ax_r_iadd, ax_r_isub, ax_r_imul, ax_r_idiv, ax_r_irem, ax_r_iand, ax_r_ior, ax_r_ishl, ax_r_ishr, ax_r_iushr, ax_r_i2l, ax_r_l2i, ax_r_i2b, ax_r_ladd, ax_r_lsub, ax_r_lmul, ax_r_ldiv, ax_r_lrem, ax_r_land, ax_r_lor, ax_r_lcmp, ax_r_ifeq, ax_r_ifne, ax_r_iflt, ax_r_ifge, ax_r_ifgt, ax_r_ifle, ax_r_iceq, ax_r_icne, ax_r_iclt, ax_r_icge, ax_r_icgt, ax_r_icle, ax_r_goto, ax_r_tsw, ax_evt_c, ax_evt_n, ax_r_lsw, ax_evu_c, ax_evu_n, ax_r_getI, ax_r_getR, ax_r_putI, ax_r_putZ, ax_r_iald, ax_r_iast, ax_r_lald, ax_r_last, ax_r_bald, ax_r_aald, ax_r_alen, ax_r_bast, ax_r_min, ax_r_max, ax_r_minl, ax_r_maxl, ax_r_copy, ax_r_slen, ax_r_schr, ax_r_dup, ax_r_dup2, ax_r_pop, ax_r_ret, ax_r_lret, ax_r_vret, ax_r_zret, ax_r_aret, ax_r_call, ax_evo, ax_eva, ax_ar, ax_tk, ax_ex, ax_ld, ax_sto, ax_stl, ly_pm, ly_cd, ly_ln, ly_rf, Option.bind_some, Option.map_some, if_true, if_false, true_and, and_true, List.nil_append, List.cons_append, List.append_nil, List.length_nil, List.length_cons, List.headD_cons, true_or, or_true, false_or, or_false, ne_eq, not_false_eq_true, not_true_eq_false, false_and, and_false, List.set_cons_zero, List.set_cons_succ, Nat.reduceAdd, Nat.reduceSub, Nat.reduceMul, Nat.reduceLeDiff, Nat.reduceLT, Nat.reduceEqDiff, ↓reduceIte, Int.reduceNeg, Int.reduceAdd, Int.reduceSub, Int.reduceMul, Int.reduceEq, Int.reduceNe, Int.reduceLE, Int.reduceLT, Int.reduceToNat, Nat.one_ne_zero, Nat.zero_ne_one, Int.cast_ofNat_Int, lc_lt, lc_ge, lc_gt, lc_le, lc_eq, lc_ne, w32i, w64i, tdv, tmd, ltT, ltF, leT, leF, eqT, eqF, dc_M_doNotesFit]
  refine m_begins (fun c c0 c1 => by rw [u _ _ (by omega) (by omega) (by omega) (by omega) (by omega), f _ _ (by omega)]; exact hs c c0 c1) ?_
  intro g1 p1 p2 p3 p4 p5
  rw [ax_kk]
  have M1 : moG n (it (dG n nd W r) (0 : Int).toNat (bg co fi sw cw S)) g1 := by
    show iv_mo n (bg co fi sw cw S) _ _ _ _ _ _ _ _ _ _
    obtain ⟨t1, t2, t3, t4, t5, t6⟩ := tt
    refine ⟨?_, ?_, ?_, ?_, fun y y0 y1 => ?_, fun y y0 y1 => ?_, fun c c0 c1 => ?_⟩
    · rw [p5.1]; simp [bg]
    · rw [p5.2.1, g0.2.1]; simp [bg]
    · rw [p5.2.2.1, g0.2.2.1]; simp [bg]
    · rw [p5.2.2.2]; simp [bg]
    · rw [p3 y y0 y1]; unfold bg; rw [if_neg (by omega), if_neg (by omega), if_neg (by omega), if_neg (by omega), if_neg (by omega), if_neg (by omega), if_neg (by omega)]
    · intro _; rw [p4 y y0 y1]; unfold bg; rw [if_neg (by omega), if_neg (by omega), if_neg (by omega), if_pos (by omega)]
    · have e := p2 c c0 (by omega)
      rw [g0.2.1, u 139 c (by omega) (by omega) (by omega) (by omega) (by omega), f _ _ (by omega), ← hsw c c0 c1] at e
      have s := t6 c c0 (by omega)
      rw [e.1, e.2.1, e.2.2.1, e.2.2.2]
      refine ⟨?_, ?_, ?_, ?_⟩
      · unfold bg; rw [if_neg (by omega), if_neg (by omega), if_neg (by omega), if_neg (by omega), if_pos (by omega), show 11 + c - 11 = c by omega]
      · unfold bg; rw [if_neg (by omega), if_neg (by omega), if_neg (by omega), if_neg (by omega), if_neg (by omega), if_pos (by omega), show 20 + c - 20 = c by omega]
        by_cases v : sw c = -1
        · rw [if_pos v, if_pos v]
        · rw [if_neg v, if_neg v, (gy (sw c) (by omega) (by omega)).1]
      · unfold bg; rw [if_neg (by omega), if_neg (by omega), if_neg (by omega), if_neg (by omega), if_neg (by omega), if_neg (by omega), if_neg (by omega)]
      · unfold bg; rw [if_neg (by omega), if_neg (by omega), if_neg (by omega), if_neg (by omega), if_neg (by omega), if_neg (by omega)]
        by_cases v : c = fi
        · rw [if_pos v, if_pos (by omega)]
        · rw [if_neg v, if_neg (by omega)]
  -- the notes
  have N : ∀ (g' : Int → Int → Int), lb x g' → (∀ k, 0 ≤ k → k ≤ 60 → g' 162 k = P k) → (∀ j, g' 163 j = g 163 j) → ax_Ev (d + 10) 263 42 [(2, 124), (0, 0)] [] (L0, g') Q := by
    intro g' l c1 c2
    have V := hq g' l c1 c2
    have X : ∀ i, 0 ≤ i → i < h 24 7 → g' 137 i = h 35 i ∧ g' 138 i = h 36 i := fun i i0 i1 => by
      have a := hD i i0 i1
      rw [l.1.1.1 137 i (by omega) (by omega) (by omega) (by omega) (by omega), l.1.1.1 138 i (by omega) (by omega) (by omega) (by omega) (by omega), f 137 i (by omega), f 138 i (by omega)]
      exact ⟨a.1.symm, a.2.1.symm⟩
    have e9 : g' 125 9 = h 24 7 := by rw [l.2.1 9 (by omega) (by omega), f _ _ (by omega)]; exact h9
    have E := lp (E := fun i => (∀ i', 0 ≤ i' → i' < i → P (h 35 i') = h 36 i') → ax_Ev (d + 10) 263 42 [(2, 124), (0, i)] [] (L0, g') Q) (a := 0) (n := h 24 7) hN.1 ?_ ?_
    · exact E (fun i a b => by omega)
    · intro i i0 i1 ih pre
      have a := hD i i0 i1
      have x1 := X i i0 i1
      have e := c1 (h 35 i) a.2.2.1 a.2.2.2
      rw [ax_ev, dh_M_doNotesFit_42]
      by_cases v : P (h 35 i) = h 36 i
      · have I := ih (fun i' a b => by
          by_cases z : i' = i
          · rw [z]; exact v
          · exact pre i' a (by omega))
        have b35 := a.2.2
        clear ih V pre hq f u kk tt hr hs hsw g0 gy hD G P0 hP p1 p2 p3 p4 p5 M1 l c1 c2 X hr' a
        simp (disch := omega) only [ax_ev, ax_kk, ax_ps, ax_r_const, ax_r_lconst, ax_r_str, ax_r_iload, ax_r_lload, ax_r_aload, ax_r_istore, ax_r_astore, ax_r_lstore, ax_r_iinc, ax_r_iadd, ax_r_isub, ax_r_imul, ax_r_idiv, ax_r_irem, ax_r_iand, ax_r_ior, ax_r_ishl, ax_r_ishr, ax_r_iushr, ax_r_i2l, ax_r_l2i, ax_r_i2b, ax_r_ladd, ax_r_lsub, ax_r_lmul, ax_r_ldiv, ax_r_lrem, ax_r_land, ax_r_lor, ax_r_lcmp, ax_r_ifeq, ax_r_ifne, ax_r_iflt, ax_r_ifge, ax_r_ifgt, ax_r_ifle, ax_r_iceq, ax_r_icne, ax_r_iclt, ax_r_icge, ax_r_icgt, ax_r_icle, ax_r_goto, ax_r_tsw, ax_evt_c, ax_evt_n, ax_r_lsw, ax_evu_c, ax_evu_n, ax_r_getI, ax_r_getR, ax_r_putI, ax_r_putZ, ax_r_iald, ax_r_iast, ax_r_lald, ax_r_last, ax_r_bald, ax_r_aald, ax_r_alen, ax_r_bast, ax_r_min, ax_r_max, ax_r_minl, ax_r_maxl, ax_r_copy, ax_r_slen, ax_r_schr, ax_r_dup, ax_r_dup2, ax_r_pop, ax_r_ret, ax_r_lret, ax_r_vret, ax_r_zret, ax_r_aret, ax_r_call, ax_evo, ax_eva, ax_ar, ax_tk, ax_ex, ax_ld, ax_sto, ax_stl, ly_pm, ly_cd, ly_ln, ly_rf, Option.bind_some, Option.map_some, if_true, if_false, true_and, and_true, List.nil_append, List.cons_append, List.append_nil, List.length_nil, List.length_cons, List.headD_cons, true_or, or_true, false_or, or_false, ne_eq, not_false_eq_true, not_true_eq_false, false_and, and_false, List.set_cons_zero, List.set_cons_succ, Nat.reduceAdd, Nat.reduceSub, Nat.reduceMul, Nat.reduceLeDiff, Nat.reduceLT, Nat.reduceEqDiff, ↓reduceIte, Int.reduceNeg, Int.reduceAdd, Int.reduceSub, Int.reduceMul, Int.reduceEq, Int.reduceNe, Int.reduceLE, Int.reduceLT, Int.reduceToNat, Nat.one_ne_zero, Nat.zero_ne_one, Int.cast_ofNat_Int, lc_lt, lc_ge, lc_gt, lc_le, lc_eq, lc_ne, w32i, w64i, tdv, tmd, ltT, ltF, leT, leF, eqT, eqF, dc_M_doNotesFit, e9, x1.1, x1.2]
        exact I
      · rw [ftI_f (fun c => v (c i i0 i1))] at V
        have b35 := a.2.2
        clear ih pre hq f u kk tt hr hs hsw g0 gy hD G P0 hP p1 p2 p3 p4 p5 M1 l c1 c2 X hr' a
        simp (disch := omega) only [ax_ev, ax_kk, ax_ps, ax_r_const, ax_r_lconst, ax_r_str, ax_r_iload, ax_r_lload, ax_r_aload, ax_r_istore, ax_r_astore, ax_r_lstore, ax_r_iinc, ax_r_iadd, ax_r_isub, ax_r_imul, ax_r_idiv, ax_r_irem, ax_r_iand, ax_r_ior, ax_r_ishl, ax_r_ishr, ax_r_iushr, ax_r_i2l, ax_r_l2i, ax_r_i2b, ax_r_ladd, ax_r_lsub, ax_r_lmul, ax_r_ldiv, ax_r_lrem, ax_r_land, ax_r_lor, ax_r_lcmp, ax_r_ifeq, ax_r_ifne, ax_r_iflt, ax_r_ifge, ax_r_ifgt, ax_r_ifle, ax_r_iceq, ax_r_icne, ax_r_iclt, ax_r_icge, ax_r_icgt, ax_r_icle, ax_r_goto, ax_r_tsw, ax_evt_c, ax_evt_n, ax_r_lsw, ax_evu_c, ax_evu_n, ax_r_getI, ax_r_getR, ax_r_putI, ax_r_putZ, ax_r_iald, ax_r_iast, ax_r_lald, ax_r_last, ax_r_bald, ax_r_aald, ax_r_alen, ax_r_bast, ax_r_min, ax_r_max, ax_r_minl, ax_r_maxl, ax_r_copy, ax_r_slen, ax_r_schr, ax_r_dup, ax_r_dup2, ax_r_pop, ax_r_ret, ax_r_lret, ax_r_vret, ax_r_zret, ax_r_aret, ax_r_call, ax_evo, ax_eva, ax_ar, ax_tk, ax_ex, ax_ld, ax_sto, ax_stl, ly_pm, ly_cd, ly_ln, ly_rf, Option.bind_some, Option.map_some, if_true, if_false, true_and, and_true, List.nil_append, List.cons_append, List.append_nil, List.length_nil, List.length_cons, List.headD_cons, true_or, or_true, false_or, or_false, ne_eq, not_false_eq_true, not_true_eq_false, false_and, and_false, List.set_cons_zero, List.set_cons_succ, Nat.reduceAdd, Nat.reduceSub, Nat.reduceMul, Nat.reduceLeDiff, Nat.reduceLT, Nat.reduceEqDiff, ↓reduceIte, Int.reduceNeg, Int.reduceAdd, Int.reduceSub, Int.reduceMul, Int.reduceEq, Int.reduceNe, Int.reduceLE, Int.reduceLT, Int.reduceToNat, Nat.one_ne_zero, Nat.zero_ne_one, Int.cast_ofNat_Int, lc_lt, lc_ge, lc_gt, lc_le, lc_eq, lc_ne, w32i, w64i, tdv, tmd, ltT, ltF, leT, leF, eqT, eqF, dc_M_doNotesFit, e9, x1.1, x1.2]
        exact V
    · intro pre
      rw [ftI_t (fun i i0 i1 => pre i i0 i1)] at V
      clear pre hq f u kk tt hr hs hsw g0 gy hD G P0 hP p1 p2 p3 p4 p5 M1 l c1 c2 X hr'
      rw [ax_ev, dh_M_doNotesFit_42]
      simp (disch := omega) only [ax_ev, ax_kk, ax_ps, ax_r_const, ax_r_lconst, ax_r_str, ax_r_iload, ax_r_lload, ax_r_aload, ax_r_istore, ax_r_astore, ax_r_lstore, ax_r_iinc, ax_r_iadd, ax_r_isub, ax_r_imul, ax_r_idiv, ax_r_irem, ax_r_iand, ax_r_ior, ax_r_ishl, ax_r_ishr, ax_r_iushr, ax_r_i2l, ax_r_l2i, ax_r_i2b, ax_r_ladd, ax_r_lsub, ax_r_lmul, ax_r_ldiv, ax_r_lrem, ax_r_land, ax_r_lor, ax_r_lcmp, ax_r_ifeq, ax_r_ifne, ax_r_iflt, ax_r_ifge, ax_r_ifgt, ax_r_ifle, ax_r_iceq, ax_r_icne, ax_r_iclt, ax_r_icge, ax_r_icgt, ax_r_icle, ax_r_goto, ax_r_tsw, ax_evt_c, ax_evt_n, ax_r_lsw, ax_evu_c, ax_evu_n, ax_r_getI, ax_r_getR, ax_r_putI, ax_r_putZ, ax_r_iald, ax_r_iast, ax_r_lald, ax_r_last, ax_r_bald, ax_r_aald, ax_r_alen, ax_r_bast, ax_r_min, ax_r_max, ax_r_minl, ax_r_maxl, ax_r_copy, ax_r_slen, ax_r_schr, ax_r_dup, ax_r_dup2, ax_r_pop, ax_r_ret, ax_r_lret, ax_r_vret, ax_r_zret, ax_r_aret, ax_r_call, ax_evo, ax_eva, ax_ar, ax_tk, ax_ex, ax_ld, ax_sto, ax_stl, ly_pm, ly_cd, ly_ln, ly_rf, Option.bind_some, Option.map_some, if_true, if_false, true_and, and_true, List.nil_append, List.cons_append, List.append_nil, List.length_nil, List.length_cons, List.headD_cons, true_or, or_true, false_or, or_false, ne_eq, not_false_eq_true, not_true_eq_false, false_and, and_false, List.set_cons_zero, List.set_cons_succ, Nat.reduceAdd, Nat.reduceSub, Nat.reduceMul, Nat.reduceLeDiff, Nat.reduceLT, Nat.reduceEqDiff, ↓reduceIte, Int.reduceNeg, Int.reduceAdd, Int.reduceSub, Int.reduceMul, Int.reduceEq, Int.reduceNe, Int.reduceLE, Int.reduceLT, Int.reduceToNat, Nat.one_ne_zero, Nat.zero_ne_one, Int.cast_ofNat_Int, lc_lt, lc_ge, lc_gt, lc_le, lc_eq, lc_ne, w32i, w64i, tdv, tmd, ltT, ltF, leT, leF, eqT, eqF, dc_M_doNotesFit, e9]
      exact V
  -- the days
  have K := lp (E := fun k => 0 ≤ k → ∀ g', fmw x g' → kp x g' → g' 125 0 = n ∧ g' 125 11 = r → (∀ y, 0 ≤ y → y < cy → g' 133 y = nd y) → moG n (it (dG n nd W r) k.toNat (bg co fi sw cw S)) g' → (∀ i, 0 ≤ i → i < k → g' 162 i = P i) → (∀ j, g' 163 j = g 163 j) → ax_Ev (d + 10) 263 6 [(2, 124), (0, k)] [] (L0, g') Q) (a := 0) (n := 61) (by omega) ?_ ?_
  · have K' := K (by omega) g1 (fun k j e1 e2 e3 e4 e5 => by rw [p1 k j (by omega) (by omega)]; exact u k j e1 e2 e3 e4 e5) (kp_same kk fun j => p1 164 j (by omega) (by omega)) (by rw [p1 125 0 (by omega) (by omega), p1 125 11 (by omega) (by omega)]; exact ⟨g0.1, g0.2.2.2⟩) (fun y y0 y1 => by rw [p1 133 y (by omega) (by omega)]; exact (gy y y0 y1).2) M1 (fun i a b => by omega) (fun j => p1 163 j (by omega) (by omega))
    clear K N hq f u kk tt hr hs hsw g0 gy hD G P0 hP p1 p2 p3 p4 p5 M1 hr'
    simp (disch := omega) only [ax_ev, ax_kk, ax_ps, ax_r_const, ax_r_lconst, ax_r_str, ax_r_iload, ax_r_lload, ax_r_aload, ax_r_istore, ax_r_astore, ax_r_lstore, ax_r_iinc, ax_r_iadd, ax_r_isub, ax_r_imul, ax_r_idiv, ax_r_irem, ax_r_iand, ax_r_ior, ax_r_ishl, ax_r_ishr, ax_r_iushr, ax_r_i2l, ax_r_l2i, ax_r_i2b, ax_r_ladd, ax_r_lsub, ax_r_lmul, ax_r_ldiv, ax_r_lrem, ax_r_land, ax_r_lor, ax_r_lcmp, ax_r_ifeq, ax_r_ifne, ax_r_iflt, ax_r_ifge, ax_r_ifgt, ax_r_ifle, ax_r_iceq, ax_r_icne, ax_r_iclt, ax_r_icge, ax_r_icgt, ax_r_icle, ax_r_goto, ax_r_tsw, ax_evt_c, ax_evt_n, ax_r_lsw, ax_evu_c, ax_evu_n, ax_r_getI, ax_r_getR, ax_r_putI, ax_r_putZ, ax_r_iald, ax_r_iast, ax_r_lald, ax_r_last, ax_r_bald, ax_r_aald, ax_r_alen, ax_r_bast, ax_r_min, ax_r_max, ax_r_minl, ax_r_maxl, ax_r_copy, ax_r_slen, ax_r_schr, ax_r_dup, ax_r_dup2, ax_r_pop, ax_r_ret, ax_r_lret, ax_r_vret, ax_r_zret, ax_r_aret, ax_r_call, ax_evo, ax_eva, ax_ar, ax_tk, ax_ex, ax_ld, ax_sto, ax_stl, ly_pm, ly_cd, ly_ln, ly_rf, Option.bind_some, Option.map_some, if_true, if_false, true_and, and_true, List.nil_append, List.cons_append, List.append_nil, List.length_nil, List.length_cons, List.headD_cons, true_or, or_true, false_or, or_false, ne_eq, not_false_eq_true, not_true_eq_false, false_and, and_false, List.set_cons_zero, List.set_cons_succ, Nat.reduceAdd, Nat.reduceSub, Nat.reduceMul, Nat.reduceLeDiff, Nat.reduceLT, Nat.reduceEqDiff, ↓reduceIte, Int.reduceNeg, Int.reduceAdd, Int.reduceSub, Int.reduceMul, Int.reduceEq, Int.reduceNe, Int.reduceLE, Int.reduceLT, Int.reduceToNat, Nat.one_ne_zero, Nat.zero_ne_one, Int.cast_ofNat_Int, lc_lt, lc_ge, lc_gt, lc_le, lc_eq, lc_ne, w32i, w64i, tdv, tmd, ltT, ltF, leT, leF, eqT, eqF, dc_M_doNotesFit]
    exact K'
  · intro k k0 k1 ih k2 g' u1 u2 u3 u4 u5 u6 u7
    have Gk := G k.toNat (by omega)
    have X : ∀ k j, (148 ≤ k ∧ k ≤ 153) ∨ (11 ≤ k ∧ k ≤ 19) ∨ (k = 124 ∧ j = 43) → g' k j = h k j := fun k j e => by
      rw [u1 k j (by omega) (by omega) (by omega) (by omega) (by omega)]; exact f k j (by omega)
    have D : ax_Ev (d + 9) 207 0 [(2, 124), (9, 0)] [] (L0, g') (ax_k (d + 10) 263 16 [(2, 124), (0, k)] [] Q) := by
      refine md_goes (n := n) (cy := cy) (S := it (dG n nd W r) k.toNat (bg co fi sw cw S)) (nd := nd) (w := dy_w n nd W r (it (dG n nd W r) k.toNat (bg co fi sw cw S))) (r := r) (W := W) tt.1 Gk.1 u5 u3.1 (fun y y0 y1 => ⟨u4 y y0 y1, (tt.2.2.2.2.1 y y0 y1).2⟩) tt.2.2.1.2 (by have := Gk.2; omega) (.inr ⟨by rw [X _ _ (by omega)]; exact h43, rfl, u3.2, ?_⟩) ?_
      · rcases hr with a | a
        · exact .inl a
        · exact .inr ⟨a.1, by omega, iv_rx_same a.2.2 a.1 (by omega) fun k j _ => X k j (by omega)⟩
      · intro g2 hg2
        have M := mo_day tt.1 u5 hg2
        have Y : ∀ k j, ¬ (k = 124 ∧ (j = 44 ∨ j = 45)) → ¬ (k = 125 ∧ 5 ≤ j ∧ j ≤ 7) → ¬ (127 ≤ k ∧ k ≤ 129) → k ≠ 155 → k ≠ 156 → g2 k j = g' k j := by
          intro k j e1 e2 e3 e4 e5
          rw [hg2 k j e4 e5]; unfold dy_M
          repeat rw [if_neg (by omega)]
        have M' : moG n (it (dG n nd W r) (k + 1).toNat (bg co fi sw cw S)) g2 := by
          rw [show (k + 1).toNat = k.toNat + 1 by omega]; exact M
        have fire : g2 125 6 = P k := by rw [P0 k]; exact M'.2.1.symm
        have I := ih (by omega) (ax_up g2 162 k (P k)) (fun k j e1 e2 e3 e4 e5 => by simp only [ax_up]; rw [if_neg (by omega), Y k j (by omega) (by omega) (by omega) (by omega) (by omega)]; exact u1 k j e1 e2 e3 e4 e5) (kp_same u2 fun j => by simp only [ax_up]; rw [if_neg (by omega)]; exact Y 164 j (by omega) (by omega) (by omega) (by omega) (by omega)) (by simp only [ax_up, Int.reduceEq, false_and, if_false]; rw [Y 125 0 (by omega) (by omega) (by omega) (by omega) (by omega), Y 125 11 (by omega) (by omega) (by omega) (by omega) (by omega)]; exact u3) (fun y y0 y1 => by simp only [ax_up, Int.reduceEq, false_and, if_false]; rw [Y 133 y (by omega) (by omega) (by omega) (by omega) (by omega)]; exact u4 y y0 y1) (by unfold moG; simp only [ax_up, Int.reduceEq, false_and, if_false]; exact M') (fun i i0 i1 => by
          simp only [ax_up, true_and]
          by_cases z : i = k
          · rw [if_pos z, z]
          · rw [if_neg z, Y 162 i (by omega) (by omega) (by omega) (by omega) (by omega)]; exact u6 i i0 (by omega)) (fun j => by simp only [ax_up]; rw [if_neg (by omega), Y 163 j (by omega) (by omega) (by omega) (by omega) (by omega)]; exact u7 j)
        rw [ax_kk]
        clear ih N hq f u kk tt hr hs hsw g0 gy hD G P0 hP p1 p2 p3 p4 p5 M1 hr' Y M M' hg2 X Gk u1 u2 u3 u4 u5 u6 u7
        simp (disch := omega) only [ax_ev, ax_kk, ax_ps, ax_r_const, ax_r_lconst, ax_r_str, ax_r_iload, ax_r_lload, ax_r_aload, ax_r_istore, ax_r_astore, ax_r_lstore, ax_r_iinc, ax_r_iadd, ax_r_isub, ax_r_imul, ax_r_idiv, ax_r_irem, ax_r_iand, ax_r_ior, ax_r_ishl, ax_r_ishr, ax_r_iushr, ax_r_i2l, ax_r_l2i, ax_r_i2b, ax_r_ladd, ax_r_lsub, ax_r_lmul, ax_r_ldiv, ax_r_lrem, ax_r_land, ax_r_lor, ax_r_lcmp, ax_r_ifeq, ax_r_ifne, ax_r_iflt, ax_r_ifge, ax_r_ifgt, ax_r_ifle, ax_r_iceq, ax_r_icne, ax_r_iclt, ax_r_icge, ax_r_icgt, ax_r_icle, ax_r_goto, ax_r_tsw, ax_evt_c, ax_evt_n, ax_r_lsw, ax_evu_c, ax_evu_n, ax_r_getI, ax_r_getR, ax_r_putI, ax_r_putZ, ax_r_iald, ax_r_iast, ax_r_lald, ax_r_last, ax_r_bald, ax_r_aald, ax_r_alen, ax_r_bast, ax_r_min, ax_r_max, ax_r_minl, ax_r_maxl, ax_r_copy, ax_r_slen, ax_r_schr, ax_r_dup, ax_r_dup2, ax_r_pop, ax_r_ret, ax_r_lret, ax_r_vret, ax_r_zret, ax_r_aret, ax_r_call, ax_evo, ax_eva, ax_ar, ax_tk, ax_ex, ax_ld, ax_sto, ax_stl, ly_pm, ly_cd, ly_ln, ly_rf, Option.bind_some, Option.map_some, if_true, if_false, true_and, and_true, List.nil_append, List.cons_append, List.append_nil, List.length_nil, List.length_cons, List.headD_cons, true_or, or_true, false_or, or_false, ne_eq, not_false_eq_true, not_true_eq_false, false_and, and_false, List.set_cons_zero, List.set_cons_succ, Nat.reduceAdd, Nat.reduceSub, Nat.reduceMul, Nat.reduceLeDiff, Nat.reduceLT, Nat.reduceEqDiff, ↓reduceIte, Int.reduceNeg, Int.reduceAdd, Int.reduceSub, Int.reduceMul, Int.reduceEq, Int.reduceNe, Int.reduceLE, Int.reduceLT, Int.reduceToNat, Nat.one_ne_zero, Nat.zero_ne_one, Int.cast_ofNat_Int, lc_lt, lc_ge, lc_gt, lc_le, lc_eq, lc_ne, w32i, w64i, tdv, tmd, ltT, ltF, leT, leF, eqT, eqF, dc_M_doNotesFit, fire]
        exact I
    clear ih N hq f u kk tt hr hs hsw g0 gy hD G P0 hP p1 p2 p3 p4 p5 M1 hr' X Gk u1 u2 u3 u4 u5 u6 u7
    rw [ax_ev, dh_M_doNotesFit_6]
    simp (disch := omega) only [ax_ev, ax_kk, ax_ps, ax_r_const, ax_r_lconst, ax_r_str, ax_r_iload, ax_r_lload, ax_r_aload, ax_r_istore, ax_r_astore, ax_r_lstore, ax_r_iinc, ax_r_iadd, ax_r_isub, ax_r_imul, ax_r_idiv, ax_r_irem, ax_r_iand, ax_r_ior, ax_r_ishl, ax_r_ishr, ax_r_iushr, ax_r_i2l, ax_r_l2i, ax_r_i2b, ax_r_ladd, ax_r_lsub, ax_r_lmul, ax_r_ldiv, ax_r_lrem, ax_r_land, ax_r_lor, ax_r_lcmp, ax_r_ifeq, ax_r_ifne, ax_r_iflt, ax_r_ifge, ax_r_ifgt, ax_r_ifle, ax_r_iceq, ax_r_icne, ax_r_iclt, ax_r_icge, ax_r_icgt, ax_r_icle, ax_r_goto, ax_r_tsw, ax_evt_c, ax_evt_n, ax_r_lsw, ax_evu_c, ax_evu_n, ax_r_getI, ax_r_getR, ax_r_putI, ax_r_putZ, ax_r_iald, ax_r_iast, ax_r_lald, ax_r_last, ax_r_bald, ax_r_aald, ax_r_alen, ax_r_bast, ax_r_min, ax_r_max, ax_r_minl, ax_r_maxl, ax_r_copy, ax_r_slen, ax_r_schr, ax_r_dup, ax_r_dup2, ax_r_pop, ax_r_ret, ax_r_lret, ax_r_vret, ax_r_zret, ax_r_aret, ax_r_call, ax_evo, ax_eva, ax_ar, ax_tk, ax_ex, ax_ld, ax_sto, ax_stl, ly_pm, ly_cd, ly_ln, ly_rf, Option.bind_some, Option.map_some, if_true, if_false, true_and, and_true, List.nil_append, List.cons_append, List.append_nil, List.length_nil, List.length_cons, List.headD_cons, true_or, or_true, false_or, or_false, ne_eq, not_false_eq_true, not_true_eq_false, false_and, and_false, List.set_cons_zero, List.set_cons_succ, Nat.reduceAdd, Nat.reduceSub, Nat.reduceMul, Nat.reduceLeDiff, Nat.reduceLT, Nat.reduceEqDiff, ↓reduceIte, Int.reduceNeg, Int.reduceAdd, Int.reduceSub, Int.reduceMul, Int.reduceEq, Int.reduceNe, Int.reduceLE, Int.reduceLT, Int.reduceToNat, Nat.one_ne_zero, Nat.zero_ne_one, Int.cast_ofNat_Int, lc_lt, lc_ge, lc_gt, lc_le, lc_eq, lc_ne, w32i, w64i, tdv, tmd, ltT, ltF, leT, leF, eqT, eqF, dc_M_doNotesFit]
    exact D
  · intro _ g' u1 u2 u3 u4 u5 u6 u7
    have B : ax_Ev (d + 9) 232 0 [(2, 124)] [] (L0, g') (ax_k (d + 10) 263 40 [(2, 124), (0, 61)] [] Q) := by
      refine ca_back u2 ?_
      intro g4 b1 b2 b3 b4 b5
      rw [ax_kk]
      have N' := N g4 ⟨⟨fmw_lay u1 b1 b2 b4, kp_same u2 fun j => b1 164 j (by omega) (by omega)⟩, b2, b3, b4, b5⟩ (fun k k0 k1 => by rw [b1 162 k (by omega) (by omega)]; exact u6 k k0 (by omega)) (fun j => by rw [b1 163 j (by omega) (by omega)]; exact u7 j)
      clear N hq f u kk tt hr hs hsw g0 gy hD G P0 hP p1 p2 p3 p4 p5 M1 hr' u1 u2 u3 u4 u5 u6 u7 b1 b2 b3 b4 b5
      simp (disch := omega) only [ax_ev, ax_kk, ax_ps, ax_r_const, ax_r_lconst, ax_r_str, ax_r_iload, ax_r_lload, ax_r_aload, ax_r_istore, ax_r_astore, ax_r_lstore, ax_r_iinc, ax_r_iadd, ax_r_isub, ax_r_imul, ax_r_idiv, ax_r_irem, ax_r_iand, ax_r_ior, ax_r_ishl, ax_r_ishr, ax_r_iushr, ax_r_i2l, ax_r_l2i, ax_r_i2b, ax_r_ladd, ax_r_lsub, ax_r_lmul, ax_r_ldiv, ax_r_lrem, ax_r_land, ax_r_lor, ax_r_lcmp, ax_r_ifeq, ax_r_ifne, ax_r_iflt, ax_r_ifge, ax_r_ifgt, ax_r_ifle, ax_r_iceq, ax_r_icne, ax_r_iclt, ax_r_icge, ax_r_icgt, ax_r_icle, ax_r_goto, ax_r_tsw, ax_evt_c, ax_evt_n, ax_r_lsw, ax_evu_c, ax_evu_n, ax_r_getI, ax_r_getR, ax_r_putI, ax_r_putZ, ax_r_iald, ax_r_iast, ax_r_lald, ax_r_last, ax_r_bald, ax_r_aald, ax_r_alen, ax_r_bast, ax_r_min, ax_r_max, ax_r_minl, ax_r_maxl, ax_r_copy, ax_r_slen, ax_r_schr, ax_r_dup, ax_r_dup2, ax_r_pop, ax_r_ret, ax_r_lret, ax_r_vret, ax_r_zret, ax_r_aret, ax_r_call, ax_evo, ax_eva, ax_ar, ax_tk, ax_ex, ax_ld, ax_sto, ax_stl, ly_pm, ly_cd, ly_ln, ly_rf, Option.bind_some, Option.map_some, if_true, if_false, true_and, and_true, List.nil_append, List.cons_append, List.append_nil, List.length_nil, List.length_cons, List.headD_cons, true_or, or_true, false_or, or_false, ne_eq, not_false_eq_true, not_true_eq_false, false_and, and_false, List.set_cons_zero, List.set_cons_succ, Nat.reduceAdd, Nat.reduceSub, Nat.reduceMul, Nat.reduceLeDiff, Nat.reduceLT, Nat.reduceEqDiff, ↓reduceIte, Int.reduceNeg, Int.reduceAdd, Int.reduceSub, Int.reduceMul, Int.reduceEq, Int.reduceNe, Int.reduceLE, Int.reduceLT, Int.reduceToNat, Nat.one_ne_zero, Nat.zero_ne_one, Int.cast_ofNat_Int, lc_lt, lc_ge, lc_gt, lc_le, lc_eq, lc_ne, w32i, w64i, tdv, tmd, ltT, ltF, leT, leF, eqT, eqF, dc_M_doNotesFit]
      exact N'
    clear N hq f u kk tt hr hs hsw g0 gy hD G P0 hP p1 p2 p3 p4 p5 M1 hr' u1 u2 u3 u4 u5 u6 u7
    rw [ax_ev, dh_M_doNotesFit_6]
    simp (disch := omega) only [ax_ev, ax_kk, ax_ps, ax_r_const, ax_r_lconst, ax_r_str, ax_r_iload, ax_r_lload, ax_r_aload, ax_r_istore, ax_r_astore, ax_r_lstore, ax_r_iinc, ax_r_iadd, ax_r_isub, ax_r_imul, ax_r_idiv, ax_r_irem, ax_r_iand, ax_r_ior, ax_r_ishl, ax_r_ishr, ax_r_iushr, ax_r_i2l, ax_r_l2i, ax_r_i2b, ax_r_ladd, ax_r_lsub, ax_r_lmul, ax_r_ldiv, ax_r_lrem, ax_r_land, ax_r_lor, ax_r_lcmp, ax_r_ifeq, ax_r_ifne, ax_r_iflt, ax_r_ifge, ax_r_ifgt, ax_r_ifle, ax_r_iceq, ax_r_icne, ax_r_iclt, ax_r_icge, ax_r_icgt, ax_r_icle, ax_r_goto, ax_r_tsw, ax_evt_c, ax_evt_n, ax_r_lsw, ax_evu_c, ax_evu_n, ax_r_getI, ax_r_getR, ax_r_putI, ax_r_putZ, ax_r_iald, ax_r_iast, ax_r_lald, ax_r_last, ax_r_bald, ax_r_aald, ax_r_alen, ax_r_bast, ax_r_min, ax_r_max, ax_r_minl, ax_r_maxl, ax_r_copy, ax_r_slen, ax_r_schr, ax_r_dup, ax_r_dup2, ax_r_pop, ax_r_ret, ax_r_lret, ax_r_vret, ax_r_zret, ax_r_aret, ax_r_call, ax_evo, ax_eva, ax_ar, ax_tk, ax_ex, ax_ld, ax_sto, ax_stl, ly_pm, ly_cd, ly_ln, ly_rf, Option.bind_some, Option.map_some, if_true, if_false, true_and, and_true, List.nil_append, List.cons_append, List.append_nil, List.length_nil, List.length_cons, List.headD_cons, true_or, or_true, false_or, or_false, ne_eq, not_false_eq_true, not_true_eq_false, false_and, and_false, List.set_cons_zero, List.set_cons_succ, Nat.reduceAdd, Nat.reduceSub, Nat.reduceMul, Nat.reduceLeDiff, Nat.reduceLT, Nat.reduceEqDiff, ↓reduceIte, Int.reduceNeg, Int.reduceAdd, Int.reduceSub, Int.reduceMul, Int.reduceEq, Int.reduceNe, Int.reduceLE, Int.reduceLT, Int.reduceToNat, Nat.one_ne_zero, Nat.zero_ne_one, Int.cast_ofNat_Int, lc_lt, lc_ge, lc_gt, lc_le, lc_eq, lc_ne, w32i, w64i, tdv, tmd, ltT, ltF, leT, leF, eqT, eqF, dc_M_doNotesFit]
    exact B
