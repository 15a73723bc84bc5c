/-! the pair rule -/
section
variable {b : Int → Int} {N : Int}
def nn (N : Int) (R : Int × Int × Int × ((Int → Int) → Int)) : Prop := 0 ≤ R.1 ∧ 0 ≤ R.2.1 ∧ R.2.1 ≤ N
theorem vf_nn {s : Int} (s0 : 0 ≤ s) : 0 ≤ vf b N s := by
  unfold vf; repeat' split
  all_goals omega
theorem pT_nn : ∀ (k : Nat) (s c po : Int) (pv : (Int → Int) → Int), 0 ≤ s → s ≤ N → nn N (pT b N k s c po pv)
  | 0, s, c, po, pv, s0, s1 => ⟨by unfold pT; simp only; omega, s0, s1⟩
  | k + 1, s, c, po, pv, s0, s1 => by
    obtain ⟨n0, n1⟩ := nxT_b (b := b) s0 s1
    obtain ⟨m0, m1⟩ := nxT_b (b := b) n0 n1
    have i := pT_nn k (nxT b N (nxT b N s)) (c + 1) (poS b N (nxT b N s)) (fun F => if po = -1 then vv b N s F else jn po (pv F) (vv b N s F)) m0 m1
    have v := vf_nn (b := b) (N := N) s0
    unfold pT
    split
    · exact ⟨v, s0, s1⟩
    · split
      · exact ⟨by simp only; omega, s0, s1⟩
      · split
        · exact ⟨by simp only; omega, n0, n1⟩
        · exact i
theorem pS_nn : ∀ (k : Nat) (s c so : Int) (sv : (Int → Int) → Int), 0 ≤ s → s ≤ N → nn N (pS b N k s c so sv)
  | 0, s, c, so, sv, s0, s1 => ⟨by unfold pS; simp only; omega, s0, s1⟩
  | k + 1, s, c, so, sv, s0, s1 => by
    have t := pT_nn (b := b) (N := N) (61 - c).toNat s c (-1) (fun _ => 0) s0 s1
    rw [pS_pG]
    unfold pG
    generalize pT b N (61 - c).toNat s c (-1) (fun _ => 0) = R at *
    split
    · exact t
    · split
      · exact ⟨by simp only; omega, t.2⟩
      · obtain ⟨n0, n1⟩ := nxT_b (b := b) t.2.1 t.2.2
        exact pS_nn k _ _ _ _ n0 n1
theorem pSum_nn {s c : Int} (s0 : 0 ≤ s) (s1 : s ≤ N) : nn N (pSum b N s c) := pS_nn _ _ _ _ _ s0 s1
theorem pC_nn {s c : Int} (s0 : 0 ≤ s) (s1 : s ≤ N) : nn N (pC b N s c) := by
  have t := pSum_nn (b := b) (N := N) (c := c) s0 s1
  unfold pC
  generalize pSum b N s c = R at *
  obtain ⟨n0, n1⟩ := nxT_b (b := b) t.2.1 t.2.2
  have t2 := pSum_nn (b := b) (N := N) (c := R.2.2.1 + 1) n0 n1
  generalize pSum b N (nxT b N R.2.1) (R.2.2.1 + 1) = R2 at *
  have h := t.2.1
  split
  · exact t
  · split
    · exact ⟨by simp only; omega, s0, s1⟩
    · split
      · exact ⟨by simp only; omega, s0, s1⟩
      · split
        · exact t2
        · exact ⟨by simp only; omega, t2.2⟩
theorem pN_nn : ∀ (k : Nat) (s i : Int), 0 ≤ s → s ≤ N → 0 ≤ (pN b N k s i).1 ∧ (pN b N k s i).1 ≤ N
  | 0, s, i, s0, s1 => ⟨s0, s1⟩
  | k + 1, s, i, s0, s1 => by
    have PE : pN b N (k + 1) s i = if (tkK b N s = 2 ∧ tkV b N s = 7) ∧ i < 10 then pN b N k (nxT b N s) (i + 1) else (s, i) := rfl
    obtain ⟨n0, n1⟩ := nxT_b (b := b) s0 s1
    have i := pN_nn k (nxT b N s) (i + 1) n0 n1
    rw [PE]
    split
    · exact i
    · exact ⟨s0, s1⟩
theorem pF_nn {tst : Int → Int → Int → Int × Int × Int × ((Int → Int) → Int)} (ht : ∀ d s c, 0 ≤ s → s ≤ N → nn N (tst d s c)) {dep s c : Int} (s0 : 0 ≤ s) (s1 : s ≤ N) : nn N (pF b N tst dep s c) := by
  have p := pN_nn (b := b) (N := N) 10 s dep s0 s1
  unfold pF
  generalize pN b N 10 s dep = P at *
  obtain ⟨sx, inn⟩ := P
  dsimp only at *
  obtain ⟨n0, n1⟩ := nxT_b (b := b) p.1 p.2
  have t := ht (inn + 1) (nxT b N sx) c n0 n1
  have t2 := pC_nn (b := b) (N := N) (c := c) p.1 p.2
  generalize tst (inn + 1) (nxT b N sx) c = R at *
  generalize pC b N sx c = R2 at *
  have h := t.2.1
  have p1 := p.1
  split
  · exact ⟨by simp only; omega, s0, s1⟩
  · split
    · split
      · exact t
      · split
        · obtain ⟨m0, m1⟩ := nxT_b (b := b) t.2.1 t.2.2
          exact ⟨by simp only; omega, m0, m1⟩
        · exact ⟨by simp only; omega, s0, s1⟩
    · split
      · exact t2
      · exact ⟨by simp only; omega, t2.2⟩
theorem pL_nn {fct : Int → Int → Int × Int × Int × ((Int → Int) → Int)} (ht : ∀ s c, 0 ≤ s → s ≤ N → nn N (fct s c)) : ∀ (k : Nat) (s c an : Int) (av : (Int → Int) → Int) (o : Int) (ov : (Int → Int) → Int), 0 ≤ s → s ≤ N → nn N (pL b N fct k s c an av o ov)
  | 0, s, c, an, av, o, ov, s0, s1 => ⟨by unfold pL; simp only; omega, s0, s1⟩
  | k + 1, s, c, an, av, o, ov, s0, s1 => by
    have t := ht s c s0 s1
    obtain ⟨n0, n1⟩ := nxT_b (b := b) t.2.1 t.2.2
    unfold pL
    split
    · exact t
    · split
      · exact pL_nn ht k _ _ _ _ _ _ n0 n1
      · split
        · exact pL_nn ht k _ _ _ _ _ _ n0 n1
        · exact ⟨by simp only; omega, t.2⟩
theorem pTe_nn : ∀ (D : Nat) (dep s c : Int), 0 ≤ s → s ≤ N → nn N (pTe b N D dep s c)
  | 0, dep, s, c, s0, s1 => ⟨by unfold pTe; simp only; omega, s0, s1⟩
  | D + 1, dep, s, c, s0, s1 => pL_nn (fun s c a b => pF_nn (fun d s c a b => pTe_nn D d s c a b) a b) _ _ _ _ _ _ _ s0 s1
theorem pCl_nn {cl s c : Int} (s0 : 0 ≤ s) (s1 : s ≤ N) : 0 ≤ (pCl b N cl s c).1 ∧ 0 ≤ (pCl b N cl s c).2.1 ∧ (pCl b N cl s c).2.1 ≤ N := by
  obtain ⟨n0, n1⟩ := nxT_b (b := b) s0 s1
  have t := pSum_nn (b := b) (N := N) (c := c) n0 n1
  unfold pCl
  generalize pSum b N (nxT b N s) c = R at *
  obtain ⟨m0, m1⟩ := nxT_b (b := b) t.2.1 t.2.2
  have t2 := pTe_nn (b := b) (N := N) 11 0 (nxT b N R.2.1) R.2.2.1 m0 m1
  generalize pTe b N 11 0 (nxT b N R.2.1) R.2.2.1 = R2 at *
  split
  · exact ⟨by simp only; omega, s0, s1⟩
  · split
    · exact ⟨by simp only; omega, s0, s1⟩
    · split
      · exact ⟨t.1, s0, s1⟩
      · split
        · split
          · exact ⟨t2.1, s0, s1⟩
          · exact ⟨by simp only; omega, t2.2⟩
        · exact ⟨by simp only; omega, t.2⟩
theorem pRl_nn : ∀ (k : Nat) (cl s c : Int), 0 ≤ s → s ≤ N → 0 ≤ (pRl b N k cl s c).1
  | 0, cl, s, c, _, _ => by unfold pRl; simp only; omega
  | k + 1, cl, s, c, s0, s1 => by
    have t := pCl_nn (b := b) (N := N) (cl := cl) (c := c) s0 s1
    unfold pRl
    generalize pCl b N cl s c = X at *
    obtain ⟨n0, n1⟩ := nxT_b (b := b) t.2.1 t.2.2
    split
    · exact t.1
    · split
      · simp only; omega
      · split
        · exact pRl_nn k _ _ _ n0 n1
        · have := t.2.1; simp only; omega
end
theorem iv_rules {h g : Int → Int → Int} (hi : iv_h h) {r : Int} (hr : h 11 3 = r) (r6 : r < 6) (hnew : g 11 3 = r ∨ (g 11 3 = r + 1 ∧ ∃ W, iv_rx g r W)) (h27 : g 124 27 = g 11 3) (gf : ∀ k j, ¬ (k = 1 ∧ 1 ≤ j ∧ j ≤ 6) → k ≠ 21 → k ≠ 13 + r → ¬ (k = 19 ∧ j = r) → ¬ (k = 11 ∧ j = 3) → ¬ (k = 124 ∧ 23 ≤ j ∧ j ≤ 31) → ¬ ((k = 148 ∨ k = 149) ∧ 300 * r ≤ j ∧ j < 300 * r + 300) → k ≠ 154 → ¬ ((151 ≤ k ∧ k ≤ 153) ∧ 12 * r ≤ j ∧ j < 12 * r + 12) → ¬ (k = 150 ∧ j = r) → g k j = h k j) (g1 : g 1 1 = 0) (g23 : g 124 23 = 0) : iv_h g := by
  obtain ⟨-, hn, hm, ⟨r1, r2, r3, r4⟩, k1, k2⟩ := hi
  have X : ∀ k j, 22 ≤ k → ¬ (k = 124 ∧ 23 ≤ j ∧ j ≤ 31) → ¬ (148 ≤ k ∧ k ≤ 154) → g k j = h k j := fun k j a b c => gf k j (by omega) (by omega) (by omega) (by omega) (by omega) b (by omega) (by omega) (by omega) (by omega)
  refine ⟨⟨by rw [g1, g23], by omega, by omega, fun j a b => by omega⟩, ?_, ?_, ⟨h27, by omega, by omega, ?_⟩, ?_, ?_⟩
  · refine iv_w_congr hn (by omega) (fun i j c => X _ _ (by have := cr_i c; omega) (by have := cr_i c; omega) (by have := cr_i c; omega)) ?_ ?_ ?_ ?_ ?_ ?_ ?_ ?_ ?_ (X _ _ (by omega) (by omega) (by omega)) ?_ ?_ ?_ ?_ ?_ ?_ ?_
    all_goals exact fun j j0 j1 => X _ _ (by omega) (by omega) (by omega)
  · intro k k0 k4
    rw [X 38 k (by omega) (by omega) (by omega), X 165 k (by omega) (by omega) (by omega)]
    obtain ⟨a, b, c⟩ := hm k k0 k4
    exact ⟨a, b, fun q => iv_im_congr (c q) (by omega) (fun i j i0 i1 j0 => X _ _ (by omega) (by omega) (by omega)) (fun j j0 j1 => X _ _ (by omega) (by omega) (by omega))⟩
  · intro r' r0' r1'
    by_cases e : r' = r
    · subst e
      rcases hnew with h | h
      · omega
      · exact h.2
    · obtain ⟨W, hw⟩ := r4 r' r0' (by omega)
      refine ⟨W, iv_rx_congr hw (fun j => gf _ _ (by omega) (by omega) (by omega) (by omega) (by omega) (by omega) (by omega) (by omega) (by omega) (by omega)) (gf _ _ (by omega) (by omega) (by omega) (by omega) (by omega) (by omega) (by omega) (by omega) (by omega) (by omega)) (fun j _ _ => ⟨gf _ _ (by omega) (by omega) (by omega) (by omega) (by omega) (by omega) (by omega) (by omega) (by omega) (by omega), gf _ _ (by omega) (by omega) (by omega) (by omega) (by omega) (by omega) (by omega) (by omega) (by omega) (by omega)⟩) (gf _ _ (by omega) (by omega) (by omega) (by omega) (by omega) (by omega) (by omega) (by omega) (by omega) (by omega)) (fun j _ _ => ⟨?_, ?_, ?_⟩)⟩
      all_goals exact gf _ _ (by omega) (by omega) (by omega) (by omega) (by omega) (by omega) (by omega) (by omega) (by omega) (by omega)
  · refine ⟨by rw [X 124 32 (by omega) (by omega) (by omega)]; exact k1.1, fun y y0 y1 => ?_, fun c c0 c1 => ?_⟩
    · obtain ⟨s1, s2, s3, s4, s5⟩ := k1.2.1 y y0 y1
      rw [X 132 y (by omega) (by omega) (by omega), X 133 y (by omega) (by omega) (by omega), X 142 y (by omega) (by omega) (by omega), X 143 y (by omega) (by omega) (by omega)]
      refine ⟨s1, s2, s3, s4, fun k k0 k4 => ?_⟩
      rw [X 164 (1100 * k + 55 + y) (by omega) (by omega) (by omega), X 164 (1100 * k + 58 + y) (by omega) (by omega) (by omega)]
      exact s5 k k0 k4
    · obtain ⟨s1, s2⟩ := k1.2.2 c c0 c1
      rw [X 139 c (by omega) (by omega) (by omega)]
      refine ⟨s1, fun k k0 k4 => ?_⟩
      rw [X 164 (1100 * k + 94 + c) (by omega) (by omega) (by omega)]; exact s2 k k0 k4
  · rw [X 124 43 (by omega) (by omega) (by omega)]; exact k2
theorem iv_rx_mk {g : Int → Int → Int} {r : Int} (r0 : 0 ≤ r) (r6 : r < 6) {L M : List Int} (h4 : L.length ≤ 400) (h3 : M.length ≤ 300) {xs : List (Int × ((Int → Int) → Int) × ((Int → Int) → Int))} (l12 : xs.length ≤ 12) (hr : rowC xs L) (h1 : ∀ i : Nat, i < L.length → g (13 + r) i = L.getD i 0) (h2 : g 19 r = L.length) (hn : g 150 r = xs.length) (hc : ∀ i : Nat, i < xs.length → clM g r i (xs.getD i clD) M) (hm : ∀ i : Nat, i < M.length → g 148 (300 * r + i) = msO (M.getD i 0 % 32) ∧ g 149 (300 * r + i) = M.getD i 0 / 32) : iv_rx g r (fun F => wl F xs) := by
  intro F hF
  refine ⟨wl_b F xs, ?_, ?_⟩
  · intro g2 d Q e1 e2 e3 e4 hq
    exact w_wants r0 r6 h4 hr (fun i hi => by rw [e1]; exact h1 i hi) (by rw [e2]; exact h2) e3 e4 hq
  · intro g2 d Q e1 e2 e3 e4 e5 hq
    refine m_wants r0 r6 h3 l12 e4 (by rw [e2]; exact hn) (fun i hi => ?_) (fun i hi => ?_) e5 hq
    · have := clM_more (hc i hi) (g' := g2) (fun k k1 k2 => by
        have a := e3 (12 * r + i) (by omega) (by omega)
        rcases (by omega : k = 151 ∨ k = 152 ∨ k = 153) with h | h | h <;> subst h
        · exact a.1
        · exact a.2.1
        · exact a.2.2) []
      simpa using this
    · have a := e1 (300 * r + i) (by omega) (by omega)
      rw [a.1, a.2]; exact hm i hi
set_option maxRecDepth 100000 in
set_option maxHeartbeats 4000000 in
theorem pr_rule : lw_pair Inv 0 124 0 116 177 := by
  refine iv_p0 fun h hi => ?_
  have hI : Inv (L0, h) := ⟨rfl, hi⟩
  unfold iv_ok
  have tp := hi.1
  obtain ⟨r1, r2, r3, -⟩ := hi.2.2.2.1
  have w32 := hi.2.2.2.2.1.1
  by_cases full : h 11 3 = 6
  · rw [full] at r1
    clear hi tp
    simp (disch := omega) only [ax_ev, ax_kk, ax_ps, ax_r_const, ax_r_lconst, ax_r_str, ax_r_iload, ax_r_lload, ax_r_aload, ax_r_istore, ax_r_astore, ax_r_lstore, ax_r_iinc, ax_r_iadd, ax_r_isub, ax_r_imul, ax_r_idiv, ax_r_irem, ax_r_iand, ax_r_ior, ax_r_ishl, ax_r_ishr, ax_r_iushr, ax_r_i2l, ax_r_l2i, ax_r_i2b, ax_r_ladd, ax_r_lsub, ax_r_lmul, ax_r_ldiv, ax_r_lrem, ax_r_land, ax_r_lor, ax_r_lcmp, ax_r_ifeq, ax_r_ifne, ax_r_iflt, ax_r_ifge, ax_r_ifgt, ax_r_ifle, ax_r_iceq, ax_r_icne, ax_r_iclt, ax_r_icge, ax_r_icgt, ax_r_icle, ax_r_goto, ax_r_tsw, ax_evt_c, ax_evt_n, ax_r_lsw, ax_evu_c, ax_evu_n, ax_r_getI, ax_r_getR, ax_r_putI, ax_r_putZ, ax_r_iald, ax_r_iast, ax_r_lald, ax_r_last, ax_r_bald, ax_r_aald, ax_r_alen, ax_r_bast, ax_r_min, ax_r_max, ax_r_minl, ax_r_maxl, ax_r_copy, ax_r_slen, ax_r_schr, ax_r_dup, ax_r_dup2, ax_r_pop, ax_r_ret, ax_r_lret, ax_r_vret, ax_r_zret, ax_r_aret, ax_r_call, ax_evo, ax_eva, ax_ar, ax_tk, ax_ex, ax_ld, ax_sto, ax_stl, ly_pm, ly_cd, ly_ln, ly_rf, Option.bind_some, Option.map_some, if_true, if_false, true_and, and_true, List.nil_append, List.cons_append, List.append_nil, List.length_nil, List.length_cons, List.headD_cons, true_or, or_true, false_or, or_false, ne_eq, not_false_eq_true, not_true_eq_false, false_and, and_false, List.set_cons_zero, List.set_cons_succ, Nat.reduceAdd, Nat.reduceSub, Nat.reduceMul, Nat.reduceLeDiff, Nat.reduceLT, Nat.reduceEqDiff, ↓reduceIte, Int.reduceNeg, Int.reduceAdd, Int.reduceSub, Int.reduceMul, Int.reduceEq, Int.reduceNe, Int.reduceLE, Int.reduceLT, Int.reduceToNat, Nat.one_ne_zero, Nat.zero_ne_one, Int.cast_ofNat_Int, lc_lt, lc_ge, lc_gt, lc_le, lc_eq, lc_ne, w32i, w64i, tdv, tmd, ltT, ltF, leT, leF, eqT, eqF, dc_RingKiln_rule, dc_M_rule, List.map_nil, full, r1, Prod.mk.injEq, hI]
  · have t : tx (h 2) (h 1 1) := ⟨⟨tp.2.1, tp.2.2.1⟩, fun j j0 j1 => (tp.2.2.2 j j0 j1).2⟩
    have mt : tm (h 2) (h 1 1) h := ⟨tp.1.symm, fun j j0 j1 => (tp.2.2.2 j j0 j1).1⟩
    obtain ⟨r, hr⟩ : ∃ r, h 11 3 = r := ⟨_, rfl⟩
    have r0 : 0 ≤ r := by omega
    have r6 : r < 6 := by omega
    have N4 := t.1
    have s0 := sk_ge (h 2) (h 1 1) 0
    have s1 := sk_le (b := h 2) N4.1
    have NN := pRl_nn (b := h 2) (N := h 1 1) 13 0 (sk (h 2) (h 1 1) 0) 0 s0 s1
    have CR := fun (g : Int → Int → Int) l3 Q (q : cQ (h 2) (h 1 1) r g (sk (h 2) (h 1 1) 0) 0 []) => c_rl t r0 r6 (Q := Q) 13 0 (sk (h 2) (h 1 1) 0) 0 [] g l3 (by omega) (by omega) (by omega) (by omega) (by omega) s0 s1 q (by simp; omega)
    have MR := fun (g : Int → Int → Int) Q (q : mQ (h 2) (h 1 1) r g 0 0 []) gd => m_rl t r0 r6 (Q := Q) 13 0 (sk (h 2) (h 1 1) 0) 0 0 [] g (by omega) (by omega) (by omega) (by omega) (by omega) rfl (by omega) N4.1 q gd (by simp; omega)
    generalize pRl (h 2) (h 1 1) 13 0 (sk (h 2) (h 1 1) 0) 0 = X at *
    obtain ⟨f, xs⟩ := X
    dsimp only at *
    have h27 : h 124 27 = r := by omega
    -- the class's reading
    have READ : ∀ Q, (f ≠ 0 → ∀ g', crs r h g' → Q (0, f) (L0, g')) → (f = 0 → ∀ (g' : Int → Int → Int) (L2 : List Int), crs r h g' → rowC xs L2 → (∀ i : Nat, i < L2.length → g' (13 + r) i = L2.getD i 0) → g' 19 r = L2.length → L2.length ≤ 400 → Q (0, 0) (L0, g')) → ax_Ev (39) 51 0 [(2, 21), (9, 0), (9, 0), (9, 0)] [] (L0, h) Q := by
      intro Q hf hs
      have x0 : crf r h (ax_up (ax_up (ax_up (ax_up h 21 2 0) 21 3 0) 1 2 0) 1 6 0) := crf_up (crf_up (crf_up (crf_up (crf_refl r h) (.inr (.inl ⟨rfl, by omega, by omega⟩))) (.inr (.inl ⟨rfl, by omega, by omega⟩))) (.inl ⟨rfl, by omega, by omega⟩)) (.inl ⟨rfl, by omega, by omega⟩)
      have A := t_adv t (q := 0) (g := ax_up (ax_up (ax_up (ax_up h 21 2 0) 21 3 0) 1 2 0) 1 6 0) (d := 36) (Q := ax_k 38 78 14 [(2, 1)] [] (ax_k 39 51 17 [(2, 21), (9, 0), (9, 0), (9, 0)] [] Q)) (by omega) N4.1 (fun j => by rw [ax_up_no (by omega), ax_up_no (by omega), ax_up_no (by omega), ax_up_no (by omega)]) (by rw [ax_up_no (by omega), ax_up_no (by omega), ax_up_no (by omega), ax_up_no (by omega)]) (by rw [ax_up_no (by omega), ax_up_eq]) (by
        intro g2 f2 k2
        have q2 : cQ (h 2) (h 1 1) r g2 (sk (h 2) (h 1 1) 0) 0 [] := by
          refine ⟨⟨k2, fun j => ?_, ?_, ?_⟩, ⟨?_, ?_, ?_⟩, fun i hi => absurd hi (by simp)⟩
          · rw [f2 _ _ (by omega), ax_up_no (by omega), ax_up_no (by omega), ax_up_no (by omega), ax_up_no (by omega)]
          · rw [f2 _ _ (by omega), ax_up_no (by omega), ax_up_no (by omega), ax_up_no (by omega), ax_up_no (by omega)]
          · rw [f2 _ _ (by omega), ax_up_eq]
          · rw [f2 _ _ (by omega), ax_up_no (by omega), ax_up_no (by omega), ax_up_no (by omega), ax_up_eq]; rfl
          · rw [f2 _ _ (by omega), ax_up_no (by omega), ax_up_no (by omega), ax_up_eq]
          · rw [f2 _ _ (by omega), ax_up_no (by omega), ax_up_no (by omega), ax_up_no (by omega), ax_up_no (by omega)]; exact hr
        have x2 := crf_adv x0 f2
        have K := CR g2 (9, 0) Q q2 (fun z g' y => hf z g' (crs_of x2 y)) (fun z g' L2 y1 y2 y3 y4 y5 => by
          rw [List.nil_append] at y3 y4 y5
          exact hs z g' L2 (crs_of x2 y1) y2 y3 y4 y5)
        rw [ax_kk]
        clear hf hs CR MR t mt hi hI tp q2 x2 x0 f2 k2
        simp (disch := omega) only [ax_ev, ax_kk, ax_ps, ax_r_const, ax_r_lconst, ax_r_str, ax_r_iload, ax_r_lload, ax_r_aload, ax_r_istore, ax_r_astore, ax_r_lstore, ax_r_iinc, ax_r_iadd, ax_r_isub, ax_r_imul, ax_r_idiv, ax_r_irem, ax_r_iand, ax_r_ior, ax_r_ishl, ax_r_ishr, ax_r_iushr, ax_r_i2l, ax_r_l2i, ax_r_i2b, ax_r_ladd, ax_r_lsub, ax_r_lmul, ax_r_ldiv, ax_r_lrem, ax_r_land, ax_r_lor, ax_r_lcmp, ax_r_ifeq, ax_r_ifne, ax_r_iflt, ax_r_ifge, ax_r_ifgt, ax_r_ifle, ax_r_iceq, ax_r_icne, ax_r_iclt, ax_r_icge, ax_r_icgt, ax_r_icle, ax_r_goto, ax_r_tsw, ax_evt_c, ax_evt_n, ax_r_lsw, ax_evu_c, ax_evu_n, ax_r_getI, ax_r_getR, ax_r_putI, ax_r_putZ, ax_r_iald, ax_r_iast, ax_r_lald, ax_r_last, ax_r_bald, ax_r_aald, ax_r_alen, ax_r_bast, ax_r_min, ax_r_max, ax_r_minl, ax_r_maxl, ax_r_copy, ax_r_slen, ax_r_schr, ax_r_dup, ax_r_dup2, ax_r_pop, ax_r_ret, ax_r_lret, ax_r_vret, ax_r_zret, ax_r_aret, ax_r_call, ax_evo, ax_eva, ax_ar, ax_tk, ax_ex, ax_ld, ax_sto, ax_stl, ly_pm, ly_cd, ly_ln, ly_rf, Option.bind_some, Option.map_some, if_true, if_false, true_and, and_true, List.nil_append, List.cons_append, List.append_nil, List.length_nil, List.length_cons, List.headD_cons, true_or, or_true, false_or, or_false, ne_eq, not_false_eq_true, not_true_eq_false, false_and, and_false, List.set_cons_zero, List.set_cons_succ, Nat.reduceAdd, Nat.reduceSub, Nat.reduceMul, Nat.reduceLeDiff, Nat.reduceLT, Nat.reduceEqDiff, ↓reduceIte, Int.reduceNeg, Int.reduceAdd, Int.reduceSub, Int.reduceMul, Int.reduceEq, Int.reduceNe, Int.reduceLE, Int.reduceLT, Int.reduceToNat, Nat.one_ne_zero, Nat.zero_ne_one, Int.cast_ofNat_Int, lc_lt, lc_ge, lc_gt, lc_le, lc_eq, lc_ne, w32i, w64i, tdv, tmd, ltT, ltF, leT, leF, eqT, eqF, dc_Tape_rewind, dc_RuleReader_read]
        exact K)
      clear hf hs CR MR t mt hi hI tp x0
      simp (disch := omega) only [ax_ev, ax_kk, ax_ps, ax_r_const, ax_r_lconst, ax_r_str, ax_r_iload, ax_r_lload, ax_r_aload, ax_r_istore, ax_r_astore, ax_r_lstore, ax_r_iinc, ax_r_iadd, ax_r_isub, ax_r_imul, ax_r_idiv, ax_r_irem, ax_r_iand, ax_r_ior, ax_r_ishl, ax_r_ishr, ax_r_iushr, ax_r_i2l, ax_r_l2i, ax_r_i2b, ax_r_ladd, ax_r_lsub, ax_r_lmul, ax_r_ldiv, ax_r_lrem, ax_r_land, ax_r_lor, ax_r_lcmp, ax_r_ifeq, ax_r_ifne, ax_r_iflt, ax_r_ifge, ax_r_ifgt, ax_r_ifle, ax_r_iceq, ax_r_icne, ax_r_iclt, ax_r_icge, ax_r_icgt, ax_r_icle, ax_r_goto, ax_r_tsw, ax_evt_c, ax_evt_n, ax_r_lsw, ax_evu_c, ax_evu_n, ax_r_getI, ax_r_getR, ax_r_putI, ax_r_putZ, ax_r_iald, ax_r_iast, ax_r_lald, ax_r_last, ax_r_bald, ax_r_aald, ax_r_alen, ax_r_bast, ax_r_min, ax_r_max, ax_r_minl, ax_r_maxl, ax_r_copy, ax_r_slen, ax_r_schr, ax_r_dup, ax_r_dup2, ax_r_pop, ax_r_ret, ax_r_lret, ax_r_vret, ax_r_zret, ax_r_aret, ax_r_call, ax_evo, ax_eva, ax_ar, ax_tk, ax_ex, ax_ld, ax_sto, ax_stl, ly_pm, ly_cd, ly_ln, ly_rf, Option.bind_some, Option.map_some, if_true, if_false, true_and, and_true, List.nil_append, List.cons_append, List.append_nil, List.length_nil, List.length_cons, List.headD_cons, true_or, or_true, false_or, or_false, ne_eq, not_false_eq_true, not_true_eq_false, false_and, and_false, List.set_cons_zero, List.set_cons_succ, Nat.reduceAdd, Nat.reduceSub, Nat.reduceMul, Nat.reduceLeDiff, Nat.reduceLT, Nat.reduceEqDiff, ↓reduceIte, Int.reduceNeg, Int.reduceAdd, Int.reduceSub, Int.reduceMul, Int.reduceEq, Int.reduceNe, Int.reduceLE, Int.reduceLT, Int.reduceToNat, Nat.one_ne_zero, Nat.zero_ne_one, Int.cast_ofNat_Int, lc_lt, lc_ge, lc_gt, lc_le, lc_eq, lc_ne, w32i, w64i, tdv, tmd, ltT, ltF, leT, leF, eqT, eqF, dc_RuleReader_read, dc_Tape_rewind]
      exact A
    -- the reference's reading
    have MREAD : ∀ (x : Int → Int → Int) Q, tm (h 2) (h 1 1) x → x 124 32 = 12 → x 124 27 = r → (f ≠ 0 → ∀ (g' : Int → Int → Int) (n : Int), mrc r 0 (ax_up x 124 26 r) g' → g' 124 25 = f → 0 ≤ n ∧ n ≤ 100 → ax_Ev 40 177 27 [(2, 124), (0, n), (0, 0)] [] (L0, g') Q) → (f = 0 → ∀ (g' : Int → Int → Int) (m' : List Int), mrc r 0 (ax_up x 124 26 r) g' → g' 124 25 = 0 → (∀ i : Nat, i < m'.length → g' 148 (300 * r + i) = msO (m'.getD i 0 % 32) ∧ g' 149 (300 * r + i) = m'.getD i 0 / 32) → m'.length < 300 → (∀ i : Nat, i < xs.length → clM g' r i (xs.getD i clD) m') → xs.length ≤ 12 → ax_Ev 40 177 27 [(2, 124), (0, xs.length), (0, 0)] [] (L0, g') Q) → ax_Ev (40) 177 0 [(2, 124), (9, 0), (9, 0)] [] (L0, x) Q := by
      intro x Q xm x32 x27 hf hs
      obtain ⟨G, hG⟩ : ∃ G, G = ax_up (ax_up (ax_up (ax_up (ax_up (ax_up x 124 26 r) 124 24 0) 124 25 0) 124 28 0) 124 29 0) 124 30 0 := ⟨_, rfl⟩
      have Gn : ∀ k j, ¬ (k = 124 ∧ (j = 24 ∨ j = 25 ∨ j = 26 ∨ (28 ≤ j ∧ j ≤ 30))) → G k j = x k j := fun k j e => by rw [hG]; repeat rw [ax_up_no (by omega)]
      have Gm : mrc r 0 (ax_up x 124 26 r) G := by
        rw [hG]
        exact mrc_up (mrc_up (mrc_up (mrc_up (mrc_up (fun _ _ _ _ _ _ => rfl) (.inl ⟨rfl, by omega⟩)) (.inl ⟨rfl, by omega⟩)) (.inl ⟨rfl, by omega⟩)) (.inl ⟨rfl, by omega⟩)) (.inl ⟨rfl, by omega⟩)
      have qG : mQ (h 2) (h 1 1) r G 0 0 [] := by
        refine ⟨⟨⟨by rw [Gn _ _ (by omega)]; exact xm.1, fun j a b => by rw [Gn _ _ (by omega)]; exact xm.2 j a b⟩, by rw [hG]; simp [ax_up], by rw [hG]; simp [ax_up], by rw [Gn _ _ (by omega)]; exact x32⟩, ⟨by rw [hG]; simp [ax_up], by rw [hG]; simp [ax_up], by rw [hG]; simp [ax_up]⟩, fun i hi => absurd hi (by simp)⟩
      have K := MR G Q qG (by rw [hG]; simp [ax_up]) (fun z g' n y1 y2 y3 => hf z g' n (mrc_trans Gm y1) y2 y3) (fun z g' m' y1 y2 y3 y4 y5 y6 => by
        rw [List.nil_append] at y3 y4 y5
        rw [Int.zero_add] at y6 ⊢
        exact hs z g' m' (mrc_trans Gm y1) y2 y3 y4 (fun i hi => by have := y5 i hi; rw [Int.zero_add] at this; exact this) (by omega))
      rw [hG] at K
      clear hf hs CR MR t mt hi hI tp Gn Gm qG hG READ
      simp (disch := omega) only [ax_ev, ax_kk, ax_ps, ax_r_const, ax_r_lconst, ax_r_str, ax_r_iload, ax_r_lload, ax_r_aload, ax_r_istore, ax_r_astore, ax_r_lstore, ax_r_iinc, ax_r_iadd, ax_r_isub, ax_r_imul, ax_r_idiv, ax_r_irem, ax_r_iand, ax_r_ior, ax_r_ishl, ax_r_ishr, ax_r_iushr, ax_r_i2l, ax_r_l2i, ax_r_i2b, ax_r_ladd, ax_r_lsub, ax_r_lmul, ax_r_ldiv, ax_r_lrem, ax_r_land, ax_r_lor, ax_r_lcmp, ax_r_ifeq, ax_r_ifne, ax_r_iflt, ax_r_ifge, ax_r_ifgt, ax_r_ifle, ax_r_iceq, ax_r_icne, ax_r_iclt, ax_r_icge, ax_r_icgt, ax_r_icle, ax_r_goto, ax_r_tsw, ax_evt_c, ax_evt_n, ax_r_lsw, ax_evu_c, ax_evu_n, ax_r_getI, ax_r_getR, ax_r_putI, ax_r_putZ, ax_r_iald, ax_r_iast, ax_r_lald, ax_r_last, ax_r_bald, ax_r_aald, ax_r_alen, ax_r_bast, ax_r_min, ax_r_max, ax_r_minl, ax_r_maxl, ax_r_copy, ax_r_slen, ax_r_schr, ax_r_dup, ax_r_dup2, ax_r_pop, ax_r_ret, ax_r_lret, ax_r_vret, ax_r_zret, ax_r_aret, ax_r_call, ax_evo, ax_eva, ax_ar, ax_tk, ax_ex, ax_ld, ax_sto, ax_stl, ly_pm, ly_cd, ly_ln, ly_rf, Option.bind_some, Option.map_some, if_true, if_false, true_and, and_true, List.nil_append, List.cons_append, List.append_nil, List.length_nil, List.length_cons, List.headD_cons, true_or, or_true, false_or, or_false, ne_eq, not_false_eq_true, not_true_eq_false, false_and, and_false, List.set_cons_zero, List.set_cons_succ, Nat.reduceAdd, Nat.reduceSub, Nat.reduceMul, Nat.reduceLeDiff, Nat.reduceLT, Nat.reduceEqDiff, ↓reduceIte, Int.reduceNeg, Int.reduceAdd, Int.reduceSub, Int.reduceMul, Int.reduceEq, Int.reduceNe, Int.reduceLE, Int.reduceLT, Int.reduceToNat, Nat.one_ne_zero, Nat.zero_ne_one, Int.cast_ofNat_Int, lc_lt, lc_ge, lc_gt, lc_le, lc_eq, lc_ne, w32i, w64i, tdv, tmd, ltT, ltF, leT, leF, eqT, eqF, dc_M_rule, dc_M_starts, x27]
      exact K
    simp (disch := omega) only [ax_ev, ax_kk, ax_ps, ax_r_const, ax_r_lconst, ax_r_str, ax_r_iload, ax_r_lload, ax_r_aload, ax_r_istore, ax_r_astore, ax_r_lstore, ax_r_iinc, ax_r_iadd, ax_r_isub, ax_r_imul, ax_r_idiv, ax_r_irem, ax_r_iand, ax_r_ior, ax_r_ishl, ax_r_ishr, ax_r_iushr, ax_r_i2l, ax_r_l2i, ax_r_i2b, ax_r_ladd, ax_r_lsub, ax_r_lmul, ax_r_ldiv, ax_r_lrem, ax_r_land, ax_r_lor, ax_r_lcmp, ax_r_ifeq, ax_r_ifne, ax_r_iflt, ax_r_ifge, ax_r_ifgt, ax_r_ifle, ax_r_iceq, ax_r_icne, ax_r_iclt, ax_r_icge, ax_r_icgt, ax_r_icle, ax_r_goto, ax_r_tsw, ax_evt_c, ax_evt_n, ax_r_lsw, ax_evu_c, ax_evu_n, ax_r_getI, ax_r_getR, ax_r_putI, ax_r_putZ, ax_r_iald, ax_r_iast, ax_r_lald, ax_r_last, ax_r_bald, ax_r_aald, ax_r_alen, ax_r_bast, ax_r_min, ax_r_max, ax_r_minl, ax_r_maxl, ax_r_copy, ax_r_slen, ax_r_schr, ax_r_dup, ax_r_dup2, ax_r_pop, ax_r_ret, ax_r_lret, ax_r_vret, ax_r_zret, ax_r_aret, ax_r_call, ax_evo, ax_eva, ax_ar, ax_tk, ax_ex, ax_ld, ax_sto, ax_stl, ly_pm, ly_cd, ly_ln, ly_rf, Option.bind_some, Option.map_some, if_true, if_false, true_and, and_true, List.nil_append, List.cons_append, List.append_nil, List.length_nil, List.length_cons, List.headD_cons, true_or, or_true, false_or, or_false, ne_eq, not_false_eq_true, not_true_eq_false, false_and, and_false, List.set_cons_zero, List.set_cons_succ, Nat.reduceAdd, Nat.reduceSub, Nat.reduceMul, Nat.reduceLeDiff, Nat.reduceLT, Nat.reduceEqDiff, ↓reduceIte, Int.reduceNeg, Int.reduceAdd, Int.reduceSub, Int.reduceMul, Int.reduceEq, Int.reduceNe, Int.reduceLE, Int.reduceLT, Int.reduceToNat, Nat.one_ne_zero, Nat.zero_ne_one, Int.cast_ofNat_Int, lc_lt, lc_ge, lc_gt, lc_le, lc_eq, lc_ne, w32i, w64i, tdv, tmd, ltT, ltF, leT, leF, eqT, eqF, dc_RingKiln_rule, List.map_nil, hr]
    refine READ _ (fun z g1 x1 => ?_) (fun z g1 L2 x1 x2 x3 x4 x5 => ?_)
    · have fp : 0 < f := by omega
      obtain ⟨x, hx⟩ : ∃ x, x = ax_up g1 1 1 0 := ⟨_, rfl⟩
      have xf : ∀ k j, ¬ (k = 1 ∧ 1 ≤ j ∧ j ≤ 6) → k ≠ 21 → k ≠ 13 + r → ¬ (k = 19 ∧ j = r) → x k j = h k j := fun k j e1 e2 e3 e4 => by rw [hx, ax_up_no (by omega)]; exact x1 k j (by omega) (by omega) e3 e4
      rw [ax_kk]
      have MRD := MREAD x (fun r2 H2 => r2 = (0, ax_w32 (-2 - f)) ∧ Inv H2) ⟨by rw [xf _ _ (by omega) (by omega) (by omega) (by omega)]; exact mt.1, fun j a b => by rw [xf _ _ (by omega) (by omega) (by omega) (by omega)]; exact mt.2 j a b⟩ (by rw [xf _ _ (by omega) (by omega) (by omega) (by omega)]; exact w32) (by rw [xf _ _ (by omega) (by omega) (by omega) (by omega)]; exact h27) (fun _ g' n y1 y2 y3 => by
        have e26 : g' 124 26 = r := by rw [y1 _ _ (by omega) (by omega) (by omega) (by omega), ax_up_eq]
        have e27 : g' 124 27 = r := by rw [y1 _ _ (by omega) (by omega) (by omega) (by omega), ax_up_no (by omega), xf _ _ (by omega) (by omega) (by omega) (by omega)]; exact h27
        have F : Inv (L0, ax_up (ax_up (ax_up g' 124 23 0) 150 r n) 124 27 r) := by
          have gx : ∀ k j, k ≤ 123 → ax_up (ax_up (ax_up g' 124 23 0) 150 r n) 124 27 r k j = x k j := fun k j e => by rw [ax_up_no (by omega), ax_up_no (by omega), ax_up_no (by omega), y1 _ _ (by omega) (by omega) (by omega) (by omega), ax_up_no (by omega)]
          have g11 : ax_up (ax_up (ax_up g' 124 23 0) 150 r n) 124 27 r 11 3 = r := by rw [gx _ _ (by omega), xf _ _ (by omega) (by omega) (by omega) (by omega)]; exact hr
          refine iv_mk (iv_rules hi hr r6 (.inl g11) (by rw [g11, ax_up_eq]) (fun k j e1 e2 e3 e4 e5 e6 e7 e8 e9 e10 => ?_) ?_ ?_)
          · rw [ax_up_no (by omega), ax_up_no (by omega), ax_up_no (by omega), y1 k j (by omega) e7 e8 (by omega), ax_up_no (by omega)]
            exact xf k j e1 e2 e3 e4
          · rw [gx _ _ (by omega), hx, ax_up_eq]
          · rw [ax_up_no (by omega), ax_up_no (by omega), ax_up_eq]
        have e26' : ax_up g' 124 23 0 124 26 = r := by rw [ax_up_no (by omega)]; exact e26
        have e27' : ax_up (ax_up g' 124 23 0) 150 r n 124 27 = r := by rw [ax_up_no (by omega), ax_up_no (by omega)]; exact e27
        have e25' : ax_up (ax_up g' 124 23 0) 150 r n 124 25 = f := by rw [ax_up_no (by omega), ax_up_no (by omega)]; exact y2
        have e25'' : ax_up (ax_up (ax_up g' 124 23 0) 150 r n) 124 27 r 124 25 = f := by rw [ax_up_no (by omega)]; exact e25'
        clear CR MR t mt hi hI tp READ MREAD y1 x1 xf
        rw [ax_ev, dh_M_rule_27]
        simp (disch := omega) only [ax_ev, ax_kk, ax_ps, ax_r_const, ax_r_lconst, ax_r_str, ax_r_iload, ax_r_lload, ax_r_aload, ax_r_istore, ax_r_astore, ax_r_lstore, ax_r_iinc, ax_r_iadd, ax_r_isub, ax_r_imul, ax_r_idiv, ax_r_irem, ax_r_iand, ax_r_ior, ax_r_ishl, ax_r_ishr, ax_r_iushr, ax_r_i2l, ax_r_l2i, ax_r_i2b, ax_r_ladd, ax_r_lsub, ax_r_lmul, ax_r_ldiv, ax_r_lrem, ax_r_land, ax_r_lor, ax_r_lcmp, ax_r_ifeq, ax_r_ifne, ax_r_iflt, ax_r_ifge, ax_r_ifgt, ax_r_ifle, ax_r_iceq, ax_r_icne, ax_r_iclt, ax_r_icge, ax_r_icgt, ax_r_icle, ax_r_goto, ax_r_tsw, ax_evt_c, ax_evt_n, ax_r_lsw, ax_evu_c, ax_evu_n, ax_r_getI, ax_r_getR, ax_r_putI, ax_r_putZ, ax_r_iald, ax_r_iast, ax_r_lald, ax_r_last, ax_r_bald, ax_r_aald, ax_r_alen, ax_r_bast, ax_r_min, ax_r_max, ax_r_minl, ax_r_maxl, ax_r_copy, ax_r_slen, ax_r_schr, ax_r_dup, ax_r_dup2, ax_r_pop, ax_r_ret, ax_r_lret, ax_r_vret, ax_r_zret, ax_r_aret, ax_r_call, ax_evo, ax_eva, ax_ar, ax_tk, ax_ex, ax_ld, ax_sto, ax_stl, ly_pm, ly_cd, ly_ln, ly_rf, Option.bind_some, Option.map_some, if_true, if_false, true_and, and_true, List.nil_append, List.cons_append, List.append_nil, List.length_nil, List.length_cons, List.headD_cons, true_or, or_true, false_or, or_false, ne_eq, not_false_eq_true, not_true_eq_false, false_and, and_false, List.set_cons_zero, List.set_cons_succ, Nat.reduceAdd, Nat.reduceSub, Nat.reduceMul, Nat.reduceLeDiff, Nat.reduceLT, Nat.reduceEqDiff, ↓reduceIte, Int.reduceNeg, Int.reduceAdd, Int.reduceSub, Int.reduceMul, Int.reduceEq, Int.reduceNe, Int.reduceLE, Int.reduceLT, Int.reduceToNat, Nat.one_ne_zero, Nat.zero_ne_one, Int.cast_ofNat_Int, lc_lt, lc_ge, lc_gt, lc_le, lc_eq, lc_ne, w32i, w64i, tdv, tmd, ltT, ltF, leT, leF, eqT, eqF, dc_M_rule, e26', e27', e25', e25'', Int.add_zero]
        exact F) (fun y => absurd y z)
      clear CR MR t mt hi hI tp READ MREAD x1 xf
      simp (disch := omega) only [ax_ev, ax_kk, ax_ps, ax_r_const, ax_r_lconst, ax_r_str, ax_r_iload, ax_r_lload, ax_r_aload, ax_r_istore, ax_r_astore, ax_r_lstore, ax_r_iinc, ax_r_iadd, ax_r_isub, ax_r_imul, ax_r_idiv, ax_r_irem, ax_r_iand, ax_r_ior, ax_r_ishl, ax_r_ishr, ax_r_iushr, ax_r_i2l, ax_r_l2i, ax_r_i2b, ax_r_ladd, ax_r_lsub, ax_r_lmul, ax_r_ldiv, ax_r_lrem, ax_r_land, ax_r_lor, ax_r_lcmp, ax_r_ifeq, ax_r_ifne, ax_r_iflt, ax_r_ifge, ax_r_ifgt, ax_r_ifle, ax_r_iceq, ax_r_icne, ax_r_iclt, ax_r_icge, ax_r_icgt, ax_r_icle, ax_r_goto, ax_r_tsw, ax_evt_c, ax_evt_n, ax_r_lsw, ax_evu_c, ax_evu_n, ax_r_getI, ax_r_getR, ax_r_putI, ax_r_putZ, ax_r_iald, ax_r_iast, ax_r_lald, ax_r_last, ax_r_bald, ax_r_aald, ax_r_alen, ax_r_bast, ax_r_min, ax_r_max, ax_r_minl, ax_r_maxl, ax_r_copy, ax_r_slen, ax_r_schr, ax_r_dup, ax_r_dup2, ax_r_pop, ax_r_ret, ax_r_lret, ax_r_vret, ax_r_zret, ax_r_aret, ax_r_call, ax_evo, ax_eva, ax_ar, ax_tk, ax_ex, ax_ld, ax_sto, ax_stl, ly_pm, ly_cd, ly_ln, ly_rf, Option.bind_some, Option.map_some, if_true, if_false, true_and, and_true, List.nil_append, List.cons_append, List.append_nil, List.length_nil, List.length_cons, List.headD_cons, true_or, or_true, false_or, or_false, ne_eq, not_false_eq_true, not_true_eq_false, false_and, and_false, List.set_cons_zero, List.set_cons_succ, Nat.reduceAdd, Nat.reduceSub, Nat.reduceMul, Nat.reduceLeDiff, Nat.reduceLT, Nat.reduceEqDiff, ↓reduceIte, Int.reduceNeg, Int.reduceAdd, Int.reduceSub, Int.reduceMul, Int.reduceEq, Int.reduceNe, Int.reduceLE, Int.reduceLT, Int.reduceToNat, Nat.one_ne_zero, Nat.zero_ne_one, Int.cast_ofNat_Int, lc_lt, lc_ge, lc_gt, lc_le, lc_eq, lc_ne, w32i, w64i, tdv, tmd, ltT, ltF, leT, leF, eqT, eqF, dc_RingKiln_rule, List.map_nil, hx.symm]
      exact MRD
    · subst z
      obtain ⟨x, hx⟩ : ∃ x, x = ax_up (ax_up g1 1 1 0) 11 3 (r + 1) := ⟨_, rfl⟩
      have xf : ∀ k j, ¬ (k = 1 ∧ 1 ≤ j ∧ j ≤ 6) → k ≠ 21 → k ≠ 13 + r → ¬ (k = 19 ∧ j = r) → ¬ (k = 11 ∧ j = 3) → x k j = h k j := fun k j e1 e2 e3 e4 e5 => by rw [hx, ax_up_no (by omega), ax_up_no (by omega)]; exact x1 k j (by omega) (by omega) e3 e4
      have g11 : ax_up g1 1 1 0 11 3 = r := by rw [ax_up_no (by omega), x1 _ _ (by omega) (by omega) (by omega) (by omega)]; exact hr
      have x11 : x 11 3 = r + 1 := by rw [hx, ax_up_eq]
      rw [ax_kk]
      have MRD := MREAD x (fun r2 H2 => r2 = (0, r) ∧ Inv H2) ⟨by rw [xf _ _ (by omega) (by omega) (by omega) (by omega) (by omega)]; exact mt.1, fun j a b => by rw [xf _ _ (by omega) (by omega) (by omega) (by omega) (by omega)]; exact mt.2 j a b⟩ (by rw [xf _ _ (by omega) (by omega) (by omega) (by omega) (by omega)]; exact w32) (by rw [xf _ _ (by omega) (by omega) (by omega) (by omega) (by omega)]; exact h27) (fun y => absurd rfl y) (fun _ g' m' y1 y2 y3 y4 y5 y6 => by
        have e26 : g' 124 26 = r := by rw [y1 _ _ (by omega) (by omega) (by omega) (by omega), ax_up_eq]
        have e27 : g' 124 27 = r := by rw [y1 _ _ (by omega) (by omega) (by omega) (by omega), ax_up_no (by omega), xf _ _ (by omega) (by omega) (by omega) (by omega) (by omega)]; exact h27
        obtain ⟨GF, hGF⟩ : ∃ G, G = ax_up (ax_up (ax_up g' 124 23 0) 150 r xs.length) 124 27 (r + 1) := ⟨_, rfl⟩
        have gx : ∀ k j, k ≤ 123 → GF k j = x k j := fun k j e => by rw [hGF, ax_up_no (by omega), ax_up_no (by omega), ax_up_no (by omega), y1 _ _ (by omega) (by omega) (by omega) (by omega), ax_up_no (by omega)]
        have gy : ∀ k j, 148 ≤ k → k ≤ 153 → k ≠ 150 → GF k j = g' k j := fun k j a b c => by rw [hGF, ax_up_no (by omega), ax_up_no (by omega), ax_up_no (by omega)]
        have F : Inv (L0, GF) := by
          have gg : GF 11 3 = r + 1 := by rw [gx _ _ (by omega)]; exact x11
          have RX : iv_rx GF r (fun F => wl F xs) := by
            refine iv_rx_mk (M := m') (L := L2) r0 r6 x5 (by omega) y6 x2 (fun i hi => ?_) ?_ ?_ (fun i hi => ?_) (fun i hi => ?_)
            · rw [gx _ _ (by omega), hx, ax_up_no (by omega), ax_up_no (by omega)]; exact x3 i hi
            · rw [gx _ _ (by omega), hx, ax_up_no (by omega), ax_up_no (by omega)]; exact x4
            · rw [hGF, ax_up_no (by omega), ax_up_eq]
            · have := clM_more (y5 i hi) (g' := GF) (fun k k1 k2 => gy _ _ (by omega) (by omega) (by omega)) []
              simpa using this
            · rw [gy _ _ (by omega) (by omega) (by omega), gy _ _ (by omega) (by omega) (by omega)]; exact y3 i hi
          refine iv_mk (iv_rules hi hr r6 (.inr ⟨gg, _, RX⟩) (by rw [gg, hGF, ax_up_eq]) (fun k j e1 e2 e3 e4 e5 e6 e7 e8 e9 e10 => ?_) ?_ ?_)
          · rw [hGF, ax_up_no (by omega), ax_up_no (by omega), ax_up_no (by omega), y1 k j (by omega) e7 e8 (by omega), ax_up_no (by omega)]
            exact xf k j e1 e2 e3 e4 e5
          · rw [gx _ _ (by omega), hx, ax_up_no (by omega), ax_up_eq]
          · rw [hGF, ax_up_no (by omega), ax_up_no (by omega), ax_up_eq]
        have e26' : ax_up g' 124 23 0 124 26 = r := by rw [ax_up_no (by omega)]; exact e26
        have e27' : ax_up (ax_up g' 124 23 0) 150 r xs.length 124 27 = r := by rw [ax_up_no (by omega), ax_up_no (by omega)]; exact e27
        have e25' : ax_up (ax_up g' 124 23 0) 150 r xs.length 124 25 = 0 := by rw [ax_up_no (by omega), ax_up_no (by omega)]; exact y2
        have e25'' : GF 124 25 = 0 := by rw [hGF, ax_up_no (by omega)]; exact e25'
        have e27'' : GF 124 27 = r + 1 := by rw [hGF, ax_up_eq]
        have rs : r + 1 - 1 = r := by omega
        have lx : (xs.length : Int) ≤ 12 := by omega
        clear CR MR t mt hi hI tp READ MREAD y1 x1 xf x2 x3 y3 y5 gx gy
        rw [ax_ev, dh_M_rule_27]
        simp (disch := omega) only [ax_ev, ax_kk, ax_ps, ax_r_const, ax_r_lconst, ax_r_str, ax_r_iload, ax_r_lload, ax_r_aload, ax_r_istore, ax_r_astore, ax_r_lstore, ax_r_iinc, ax_r_iadd, ax_r_isub, ax_r_imul, ax_r_idiv, ax_r_irem, ax_r_iand, ax_r_ior, ax_r_ishl, ax_r_ishr, ax_r_iushr, ax_r_i2l, ax_r_l2i, ax_r_i2b, ax_r_ladd, ax_r_lsub, ax_r_lmul, ax_r_ldiv, ax_r_lrem, ax_r_land, ax_r_lor, ax_r_lcmp, ax_r_ifeq, ax_r_ifne, ax_r_iflt, ax_r_ifge, ax_r_ifgt, ax_r_ifle, ax_r_iceq, ax_r_icne, ax_r_iclt, ax_r_icge, ax_r_icgt, ax_r_icle, ax_r_goto, ax_r_tsw, ax_evt_c, ax_evt_n, ax_r_lsw, ax_evu_c, ax_evu_n, ax_r_getI, ax_r_getR, ax_r_putI, ax_r_putZ, ax_r_iald, ax_r_iast, ax_r_lald, ax_r_last, ax_r_bald, ax_r_aald, ax_r_alen, ax_r_bast, ax_r_min, ax_r_max, ax_r_minl, ax_r_maxl, ax_r_copy, ax_r_slen, ax_r_schr, ax_r_dup, ax_r_dup2, ax_r_pop, ax_r_ret, ax_r_lret, ax_r_vret, ax_r_zret, ax_r_aret, ax_r_call, ax_evo, ax_eva, ax_ar, ax_tk, ax_ex, ax_ld, ax_sto, ax_stl, ly_pm, ly_cd, ly_ln, ly_rf, Option.bind_some, Option.map_some, if_true, if_false, true_and, and_true, List.nil_append, List.cons_append, List.append_nil, List.length_nil, List.length_cons, List.headD_cons, true_or, or_true, false_or, or_false, ne_eq, not_false_eq_true, not_true_eq_false, false_and, and_false, List.set_cons_zero, List.set_cons_succ, Nat.reduceAdd, Nat.reduceSub, Nat.reduceMul, Nat.reduceLeDiff, Nat.reduceLT, Nat.reduceEqDiff, ↓reduceIte, Int.reduceNeg, Int.reduceAdd, Int.reduceSub, Int.reduceMul, Int.reduceEq, Int.reduceNe, Int.reduceLE, Int.reduceLT, Int.reduceToNat, Nat.one_ne_zero, Nat.zero_ne_one, Int.cast_ofNat_Int, lc_lt, lc_ge, lc_gt, lc_le, lc_eq, lc_ne, w32i, w64i, tdv, tmd, ltT, ltF, leT, leF, eqT, eqF, dc_M_rule, e26', e27', e25', hGF.symm, e25'', e27'', rs]
        exact F) 
      have rs : r + 1 - 1 = r := by omega
      clear CR MR t mt hi hI tp READ MREAD x1 xf x2 x3
      simp (disch := omega) only [ax_ev, ax_kk, ax_ps, ax_r_const, ax_r_lconst, ax_r_str, ax_r_iload, ax_r_lload, ax_r_aload, ax_r_istore, ax_r_astore, ax_r_lstore, ax_r_iinc, ax_r_iadd, ax_r_isub, ax_r_imul, ax_r_idiv, ax_r_irem, ax_r_iand, ax_r_ior, ax_r_ishl, ax_r_ishr, ax_r_iushr, ax_r_i2l, ax_r_l2i, ax_r_i2b, ax_r_ladd, ax_r_lsub, ax_r_lmul, ax_r_ldiv, ax_r_lrem, ax_r_land, ax_r_lor, ax_r_lcmp, ax_r_ifeq, ax_r_ifne, ax_r_iflt, ax_r_ifge, ax_r_ifgt, ax_r_ifle, ax_r_iceq, ax_r_icne, ax_r_iclt, ax_r_icge, ax_r_icgt, ax_r_icle, ax_r_goto, ax_r_tsw, ax_evt_c, ax_evt_n, ax_r_lsw, ax_evu_c, ax_evu_n, ax_r_getI, ax_r_getR, ax_r_putI, ax_r_putZ, ax_r_iald, ax_r_iast, ax_r_lald, ax_r_last, ax_r_bald, ax_r_aald, ax_r_alen, ax_r_bast, ax_r_min, ax_r_max, ax_r_minl, ax_r_maxl, ax_r_copy, ax_r_slen, ax_r_schr, ax_r_dup, ax_r_dup2, ax_r_pop, ax_r_ret, ax_r_lret, ax_r_vret, ax_r_zret, ax_r_aret, ax_r_call, ax_evo, ax_eva, ax_ar, ax_tk, ax_ex, ax_ld, ax_sto, ax_stl, ly_pm, ly_cd, ly_ln, ly_rf, Option.bind_some, Option.map_some, if_true, if_false, true_and, and_true, List.nil_append, List.cons_append, List.append_nil, List.length_nil, List.length_cons, List.headD_cons, true_or, or_true, false_or, or_false, ne_eq, not_false_eq_true, not_true_eq_false, false_and, and_false, List.set_cons_zero, List.set_cons_succ, Nat.reduceAdd, Nat.reduceSub, Nat.reduceMul, Nat.reduceLeDiff, Nat.reduceLT, Nat.reduceEqDiff, ↓reduceIte, Int.reduceNeg, Int.reduceAdd, Int.reduceSub, Int.reduceMul, Int.reduceEq, Int.reduceNe, Int.reduceLE, Int.reduceLT, Int.reduceToNat, Nat.one_ne_zero, Nat.zero_ne_one, Int.cast_ofNat_Int, lc_lt, lc_ge, lc_gt, lc_le, lc_eq, lc_ne, w32i, w64i, tdv, tmd, ltT, ltF, leT, leF, eqT, eqF, dc_RingKiln_rule, List.map_nil, g11, hx.symm, x11, rs]
      exact MRD
