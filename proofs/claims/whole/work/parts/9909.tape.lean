/-! the tape: runs of bytes, numbers, words, tokens -/
def run (P : Int → Bool) (b : Int → Int) (N : Int) : Nat → Int → Int
  | 0, q => q
  | k + 1, q => if q < N ∧ P (b q) = true then run P b N k (q + 1) else q
def rnT (P : Int → Bool) (b : Int → Int) (N q : Int) : Int := run P b N (N - q).toNat q
theorem run_s (P : Int → Bool) (b : Int → Int) (N : Int) : ∀ (k : Nat) (q : Int), N - q ≤ k → q ≤ run P b N k q ∧ (∀ j, q ≤ j → j < run P b N k q → j < N ∧ P (b j) = true) ∧ (run P b N k q < N → P (b (run P b N k q)) = false)
  | 0, q, h => by
    refine ⟨Int.le_refl _, fun j a c => ?_, fun c => ?_⟩
    · exact absurd (show j < q from c) (by omega)
    · exact absurd (show q < N from c) (by omega)
  | k + 1, q, h => by
    have i := run_s P b N k (q + 1) (by omega)
    unfold run
    split
    · rename_i c
      refine ⟨by omega, fun j a d => ?_, i.2.2⟩
      by_cases e : j = q
      · rw [e]; exact c
      · exact i.2.1 j (by omega) d
    · rename_i c
      refine ⟨Int.le_refl _, fun j a d => by omega, fun d => ?_⟩
      cases hp : P (b q)
      · rfl
      · exact absurd ⟨d, hp⟩ c
theorem rnT_s (P : Int → Bool) (b : Int → Int) (N q : Int) : q ≤ rnT P b N q ∧ (∀ j, q ≤ j → j < rnT P b N q → j < N ∧ P (b j) = true) ∧ (rnT P b N q < N → P (b (rnT P b N q)) = false) := run_s P b N _ q (by omega)
theorem rnT_u {P : Int → Bool} {b : Int → Int} {N q e : Int} (h0 : q ≤ e) (h1 : ∀ j, q ≤ j → j < e → j < N ∧ P (b j) = true) (h2 : e < N → P (b e) = false) : rnT P b N q = e := by
  obtain ⟨s0, s1, s2⟩ := rnT_s P b N q
  rcases (by omega : rnT P b N q = e ∨ rnT P b N q < e ∨ e < rnT P b N q) with c | c | c
  · exact c
  · have := h1 _ s0 c
    have := s2 this.1
    simp_all
  · have := s1 _ h0 c
    have := h2 this.1
    simp_all
theorem rnT_le {P : Int → Bool} {b : Int → Int} {N q : Int} (h : q ≤ N) : rnT P b N q ≤ N := by
  obtain ⟨s0, s1, s2⟩ := rnT_s P b N q
  rcases (by omega : rnT P b N q ≤ N ∨ N < rnT P b N q) with c | c
  · exact c
  · have := (s1 N (by omega) c).1; omega
theorem rnT_rn (P : Int → Bool) (b : Int → Int) (N q : Int) : rnT P b N (rnT P b N q) = rnT P b N q := rnT_u (Int.le_refl _) (fun j a c => by omega) (rnT_s P b N q).2.2
theorem rnT_mid {P : Int → Bool} {b : Int → Int} {N q j : Int} (h0 : q ≤ j) (h1 : j ≤ rnT P b N q) : rnT P b N j = rnT P b N q := by
  obtain ⟨s0, s1, s2⟩ := rnT_s P b N q
  exact rnT_u h1 (fun i a c => s1 i (by omega) c) s2
def isB (x : Int) : Bool := decide (x = 32)
def isD (x : Int) : Bool := decide (48 ≤ x ∧ x ≤ 57)
def isL (x : Int) : Bool := decide (97 ≤ x ∧ x ≤ 122)
theorem isB_t {x : Int} : isB x = true ↔ x = 32 := by unfold isB; simp
theorem isD_t {x : Int} : isD x = true ↔ (48 ≤ x ∧ x ≤ 57) := by unfold isD; simp
theorem isL_t {x : Int} : isL x = true ↔ (97 ≤ x ∧ x ≤ 122) := by unfold isL; simp
theorem isB_f {x : Int} : isB x = false ↔ ¬ x = 32 := by unfold isB; simp
theorem isD_f {x : Int} : isD x = false ↔ ¬ (48 ≤ x ∧ x ≤ 57) := by unfold isD; simp
theorem isL_f {x : Int} : isL x = false ↔ ¬ (97 ≤ x ∧ x ≤ 122) := by unfold isL; simp
/-- the number of k digits from s on, five at most counted -/
def dv (b : Int → Int) (s : Int) : Nat → Int
  | 0 => 0
  | k + 1 => if (k : Int) < 5 then dv b s k * 10 + b (s + k) - 48 else dv b s k
def wm (b : Int → Int) (N : Int) (w : List Int) (s : Int) : Prop := rnT isL b N s = s + w.length ∧ ∀ j : Nat, j < w.length → b (s + j) = w.getD j 0
noncomputable def wmI (b : Int → Int) (N : Int) (w : List Int) (s : Int) : Int := @ite Int (wm b N w s) (Classical.propDecidable _) 1 0
theorem wmI_t {b : Int → Int} {N : Int} {w : List Int} {s : Int} (p : wm b N w s) : wmI b N w s = 1 := by unfold wmI; exact if_pos p
theorem wmI_f {b : Int → Int} {N : Int} {w : List Int} {s : Int} (p : ¬ wm b N w s) : wmI b N w s = 0 := by unfold wmI; exact if_neg p
noncomputable def wfind (b : Int → Int) (N : Int) (s : Int) : List (List Int) → Int → Int
  | [], _ => -1
  | w :: ws, k => if wmI b N w s = 1 then k else wfind b N s ws (k + 1)
def WL : List (List Int) := [[107, 105, 108, 110], [99, 108, 97, 121], [115, 101, 116], [102, 105, 114, 101], [111, 114, 100, 101, 114], [102, 101, 101, 100], [105, 102], [110, 111, 116], [97, 110, 100], [111, 114], [99, 104, 97, 109, 98, 101, 114], [119, 97, 114, 109], [119, 101, 116], [98, 117, 114, 110, 116], [110, 101, 101, 100, 115], [110, 101, 120, 116], [100, 97, 109, 112], [103, 108, 111, 119], [99, 111, 97, 108], [103, 111, 111, 100], [119, 97, 115, 116, 101], [100, 97, 121]]
/-- a token from s on: its kind, its end, its value -/
def tkK (b : Int → Int) (N s : Int) : Int := if N ≤ s then 0 else if 48 ≤ b s ∧ b s ≤ 57 then 1 else if 97 ≤ b s ∧ b s ≤ 122 then 2 else 3
def sg2 (b : Int → Int) (N s : Int) : Prop := (b s = 60 ∨ b s = 62) ∧ s + 1 < N ∧ b (s + 1) = 61
noncomputable def tkB (b : Int → Int) (N s : Int) : Int := if tkK b N s = 0 then s else if tkK b N s = 1 then rnT isD b N s else if tkK b N s = 2 then rnT isL b N s else @ite Int (sg2 b N s) (Classical.propDecidable _) (s + 2) (s + 1)
noncomputable def tkV (b : Int → Int) (N s : Int) : Int := if tkK b N s = 0 then -1 else if tkK b N s = 1 then (if rnT isD b N s - s ≤ 5 then dv b s (rnT isD b N s - s).toNat else -1) else if tkK b N s = 2 then wfind b N s WL 0 else @ite Int (sg2 b N s) (Classical.propDecidable _) (b s + 256) (b s)
/-- the next token behind q -/
def sk (b : Int → Int) (N q : Int) : Int := rnT isB b N q
/-- a text of N bytes -/
def tx (b : Int → Int) (N : Int) : Prop := (0 ≤ N ∧ N ≤ 400) ∧ ∀ j, 0 ≤ j → j < N → 0 ≤ b j ∧ b j ≤ 255
/-- the class looks at the token at s -/
def tkG (b : Int → Int) (N : Int) (g : Int → Int → Int) (s : Int) : Prop := g 1 2 = tkB b N s ∧ g 1 3 = tkK b N s ∧ g 1 4 = s ∧ g 1 5 = tkV b N s
theorem dv_b {b : Int → Int} {s : Int} : ∀ k : Nat, (∀ j : Nat, j < k → 48 ≤ b (s + j) ∧ b (s + j) ≤ 57) → 0 ≤ dv b s k ∧ dv b s k ≤ 99999 ∧ (k = 0 → dv b s k = 0) ∧ (k = 1 → dv b s k ≤ 9) ∧ (k = 2 → dv b s k ≤ 99) ∧ (k = 3 → dv b s k ≤ 999) ∧ (k = 4 → dv b s k ≤ 9999)
  | 0, _ => by simp [dv]
  | k + 1, h => by
    have i := dv_b k (fun j hj => h j (by omega))
    have d := h k (by omega)
    unfold dv
    split <;> omega
theorem dv_s (b : Int → Int) (s : Int) {k : Int} (k0 : 0 ≤ k) : dv b s (k + 1).toNat = if k < 5 then dv b s k.toNat * 10 + b (s + k) - 48 else dv b s k.toNat := by
  rw [show (k + 1).toNat = k.toNat + 1 by omega]
  show (if ((k.toNat : Nat) : Int) < 5 then dv b s k.toNat * 10 + b (s + (k.toNat : Nat)) - 48 else _) = _
  rw [show ((k.toNat : Nat) : Int) = k by omega]
set_option maxRecDepth 100000 in
set_option maxHeartbeats 4000000 in
theorem t_num {b : Int → Int} {N s : Int} (t : tx b N) (s0 : 0 ≤ s) (s1 : s < N) (hd : 48 ≤ b s ∧ b s ≤ 57) {g : Int → Int → Int} (gb : ∀ j, g 2 j = b j) (gN : g 1 1 = N) (g2 : g 1 2 = s) (g4 : g 1 4 = s) {d : Nat} {Q : ax_V → ax_H → Prop} (hq : ∀ g', (∀ k j, ¬ (k = 1 ∧ (j = 2 ∨ j = 3 ∨ j = 5)) → g' k j = g k j) → g' 1 2 = rnT isD b N s → g' 1 3 = 1 → g' 1 5 = (if rnT isD b N s - s ≤ 5 then dv b s (rnT isD b N s - s).toNat else -1) → Q (9, 0) (L0, g')) : ax_Ev (d) 80 0 [(2, 1), (9, 0)] [] (L0, g) Q := by
  obtain ⟨e0, e1, e2⟩ := rnT_s isD b N s
  have eN : rnT isD b N s ≤ N := rnT_le (by omega)
  generalize rnT isD b N s = e at *
  obtain ⟨⟨t1, t2⟩, t3⟩ := t
  have K := lp (E := fun k => ∀ g', (∀ k j, ¬ (k = 1 ∧ (j = 2 ∨ j = 3 ∨ j = 5)) → g' k j = g k j) → g' 1 2 = k → g' 1 3 = 1 → ax_Ev d 80 7 [(2, 1), (0, dv b s (k - s).toNat)] [] (L0, g') Q) (a := s) (n := e) e0 ?_ ?_
  · have K' := K (ax_up g 1 3 1) (fun k j e => by simp only [ax_up]; rw [if_neg (by omega)]) (by simp [ax_up, g2]) (by simp [ax_up])
    rw [show (s - s).toNat = 0 by omega] at K'
    have K2 : ax_Ev d 80 7 [(2, 1), (0, 0)] [] (L0, ax_up g 1 3 1) Q := K'
    clear K K' hq e1 e2 t3 gb
    simp (disch := omega) only [ax_ev, ax_kk, ax_ps, ax_r_const, ax_r_lconst, ax_r_str, ax_r_iload, ax_r_lload, ax_r_aload, ax_r_istore, ax_r_astore, ax_r_lstore, ax_r_iinc, ax_r_iadd, ax_r_isub, ax_r_imul, ax_r_idiv, ax_r_irem, ax_r_iand, ax_r_ior, ax_r_ishl, ax_r_ishr, ax_r_iushr, ax_r_i2l, ax_r_l2i, ax_r_i2b, ax_r_ladd, ax_r_lsub, ax_r_lmul, ax_r_ldiv, ax_r_lrem, ax_r_land, ax_r_lor, ax_r_lcmp, ax_r_ifeq, ax_r_ifne, ax_r_iflt, ax_r_ifge, ax_r_ifgt, ax_r_ifle, ax_r_iceq, ax_r_icne, ax_r_iclt, ax_r_icge, ax_r_icgt, ax_r_icle, ax_r_goto, ax_r_tsw, ax_evt_c, ax_evt_n, ax_r_lsw, ax_evu_c, ax_evu_n, ax_r_getI, ax_r_getR, ax_r_putI, ax_r_putZ, ax_r_iald, ax_r_iast, ax_r_lald, ax_r_last, ax_r_bald, ax_r_aald, ax_r_alen, ax_r_bast, ax_r_min, ax_r_max, ax_r_minl, ax_r_maxl, ax_r_copy, ax_r_slen, ax_r_schr, ax_r_dup, ax_r_dup2, ax_r_pop, ax_r_ret, ax_r_lret, ax_r_vret, ax_r_zret, ax_r_aret, ax_r_call, ax_evo, ax_eva, ax_ar, ax_tk, ax_ex, ax_ld, ax_sto, ax_stl, ly_pm, ly_cd, ly_ln, ly_rf, Option.bind_some, Option.map_some, if_true, if_false, true_and, and_true, List.nil_append, List.cons_append, List.append_nil, List.length_nil, List.length_cons, List.headD_cons, true_or, or_true, false_or, or_false, ne_eq, not_false_eq_true, not_true_eq_false, false_and, and_false, List.set_cons_zero, List.set_cons_succ, Nat.reduceAdd, Nat.reduceSub, Nat.reduceMul, Nat.reduceLeDiff, Nat.reduceLT, Nat.reduceEqDiff, ↓reduceIte, Int.reduceNeg, Int.reduceAdd, Int.reduceSub, Int.reduceMul, Int.reduceEq, Int.reduceNe, Int.reduceLE, Int.reduceLT, Int.reduceToNat, Nat.one_ne_zero, Nat.zero_ne_one, Int.cast_ofNat_Int, lc_lt, lc_ge, lc_gt, lc_le, lc_eq, lc_ne, w32i, w64i, tdv, tmd, ltT, ltF, leT, leF, eqT, eqF, dc_Tape_scanNumber]
    exact K2
  · intro k k0 k1 ih g' f1 f2 f3
    have c := e1 k k0 k1
    have cd := isD_t.1 c.2
    have bk : g' 2 k = b k := by rw [f1 _ _ (by omega)]; exact gb k
    have gN' : g' 1 1 = N := by rw [f1 _ _ (by omega)]; exact gN
    have g4' : g' 1 4 = s := by rw [f1 _ _ (by omega)]; exact g4
    have vb := dv_b (b := b) (s := s) (k - s).toNat (fun j hj => isD_t.1 (e1 (s + j) (by omega) (by omega)).2)
    have I := ih (ax_up g' 1 2 (k + 1)) (fun a j e => by simp only [ax_up]; rw [if_neg (by omega)]; exact f1 a j e) (by simp [ax_up]) (by simp [ax_up, f3])
    rw [show k + 1 - s = k - s + 1 by omega, dv_s b s (by omega), show s + (k - s) = k by omega] at I
    have kN := c.1
    have vb1 := vb.1
    have vb2 := vb.2.1
    have v5 : k - s < 5 → dv b s (k - s).toNat ≤ 9999 := by omega
    clear ih hq e1 e2 t3 gb f1 vb c
    generalize dv b s (k - s).toNat = v at *
    rw [ax_ev, dh_Tape_scanNumber_7]
    by_cases z : k - s < 5
    · rw [if_pos z] at I
      have v5' := v5 z
      simp (disch := omega) only [ax_ev, ax_kk, ax_ps, ax_r_const, ax_r_lconst, ax_r_str, ax_r_iload, ax_r_lload, ax_r_aload, ax_r_istore, ax_r_astore, ax_r_lstore, ax_r_iinc, ax_r_iadd, ax_r_isub, ax_r_imul, ax_r_idiv, ax_r_irem, ax_r_iand, ax_r_ior, ax_r_ishl, ax_r_ishr, ax_r_iushr, ax_r_i2l, ax_r_l2i, ax_r_i2b, ax_r_ladd, ax_r_lsub, ax_r_lmul, ax_r_ldiv, ax_r_lrem, ax_r_land, ax_r_lor, ax_r_lcmp, ax_r_ifeq, ax_r_ifne, ax_r_iflt, ax_r_ifge, ax_r_ifgt, ax_r_ifle, ax_r_iceq, ax_r_icne, ax_r_iclt, ax_r_icge, ax_r_icgt, ax_r_icle, ax_r_goto, ax_r_tsw, ax_evt_c, ax_evt_n, ax_r_lsw, ax_evu_c, ax_evu_n, ax_r_getI, ax_r_getR, ax_r_putI, ax_r_putZ, ax_r_iald, ax_r_iast, ax_r_lald, ax_r_last, ax_r_bald, ax_r_aald, ax_r_alen, ax_r_bast, ax_r_min, ax_r_max, ax_r_minl, ax_r_maxl, ax_r_copy, ax_r_slen, ax_r_schr, ax_r_dup, ax_r_dup2, ax_r_pop, ax_r_ret, ax_r_lret, ax_r_vret, ax_r_zret, ax_r_aret, ax_r_call, ax_evo, ax_eva, ax_ar, ax_tk, ax_ex, ax_ld, ax_sto, ax_stl, ly_pm, ly_cd, ly_ln, ly_rf, Option.bind_some, Option.map_some, if_true, if_false, true_and, and_true, List.nil_append, List.cons_append, List.append_nil, List.length_nil, List.length_cons, List.headD_cons, true_or, or_true, false_or, or_false, ne_eq, not_false_eq_true, not_true_eq_false, false_and, and_false, List.set_cons_zero, List.set_cons_succ, Nat.reduceAdd, Nat.reduceSub, Nat.reduceMul, Nat.reduceLeDiff, Nat.reduceLT, Nat.reduceEqDiff, ↓reduceIte, Int.reduceNeg, Int.reduceAdd, Int.reduceSub, Int.reduceMul, Int.reduceEq, Int.reduceNe, Int.reduceLE, Int.reduceLT, Int.reduceToNat, Nat.one_ne_zero, Nat.zero_ne_one, Int.cast_ofNat_Int, lc_lt, lc_ge, lc_gt, lc_le, lc_eq, lc_ne, w32i, w64i, tdv, tmd, ltT, ltF, leT, leF, eqT, eqF, dc_Tape_scanNumber, f2, bk, gN', g4']
      exact I
    · rw [if_neg z] at I
      simp (disch := omega) only [ax_ev, ax_kk, ax_ps, ax_r_const, ax_r_lconst, ax_r_str, ax_r_iload, ax_r_lload, ax_r_aload, ax_r_istore, ax_r_astore, ax_r_lstore, ax_r_iinc, ax_r_iadd, ax_r_isub, ax_r_imul, ax_r_idiv, ax_r_irem, ax_r_iand, ax_r_ior, ax_r_ishl, ax_r_ishr, ax_r_iushr, ax_r_i2l, ax_r_l2i, ax_r_i2b, ax_r_ladd, ax_r_lsub, ax_r_lmul, ax_r_ldiv, ax_r_lrem, ax_r_land, ax_r_lor, ax_r_lcmp, ax_r_ifeq, ax_r_ifne, ax_r_iflt, ax_r_ifge, ax_r_ifgt, ax_r_ifle, ax_r_iceq, ax_r_icne, ax_r_iclt, ax_r_icge, ax_r_icgt, ax_r_icle, ax_r_goto, ax_r_tsw, ax_evt_c, ax_evt_n, ax_r_lsw, ax_evu_c, ax_evu_n, ax_r_getI, ax_r_getR, ax_r_putI, ax_r_putZ, ax_r_iald, ax_r_iast, ax_r_lald, ax_r_last, ax_r_bald, ax_r_aald, ax_r_alen, ax_r_bast, ax_r_min, ax_r_max, ax_r_minl, ax_r_maxl, ax_r_copy, ax_r_slen, ax_r_schr, ax_r_dup, ax_r_dup2, ax_r_pop, ax_r_ret, ax_r_lret, ax_r_vret, ax_r_zret, ax_r_aret, ax_r_call, ax_evo, ax_eva, ax_ar, ax_tk, ax_ex, ax_ld, ax_sto, ax_stl, ly_pm, ly_cd, ly_ln, ly_rf, Option.bind_some, Option.map_some, if_true, if_false, true_and, and_true, List.nil_append, List.cons_append, List.append_nil, List.length_nil, List.length_cons, List.headD_cons, true_or, or_true, false_or, or_false, ne_eq, not_false_eq_true, not_true_eq_false, false_and, and_false, List.set_cons_zero, List.set_cons_succ, Nat.reduceAdd, Nat.reduceSub, Nat.reduceMul, Nat.reduceLeDiff, Nat.reduceLT, Nat.reduceEqDiff, ↓reduceIte, Int.reduceNeg, Int.reduceAdd, Int.reduceSub, Int.reduceMul, Int.reduceEq, Int.reduceNe, Int.reduceLE, Int.reduceLT, Int.reduceToNat, Nat.one_ne_zero, Nat.zero_ne_one, Int.cast_ofNat_Int, lc_lt, lc_ge, lc_gt, lc_le, lc_eq, lc_ne, w32i, w64i, tdv, tmd, ltT, ltF, leT, leF, eqT, eqF, dc_Tape_scanNumber, f2, bk, gN', g4']
      exact I
  · intro g' f1 f2 f3
    have be : g' 2 e = b e := by rw [f1 _ _ (by omega)]; exact gb e
    have gN' : g' 1 1 = N := by rw [f1 _ _ (by omega)]; exact gN
    have g4' : g' 1 4 = s := by rw [f1 _ _ (by omega)]; exact g4
    have H := hq (ax_up g' 1 5 (if e - s ≤ 5 then dv b s (e - s).toNat else -1)) (fun a j e => by simp only [ax_up]; rw [if_neg (by omega)]; exact f1 a j e) (by simp [ax_up, f2]) (by simp [ax_up, f3]) (by simp [ax_up])
    have z : e = N ∨ (e < N ∧ ¬ (48 ≤ b e ∧ b e ≤ 57)) := by
      by_cases u : e < N
      · exact .inr ⟨u, isD_f.1 (e2 u)⟩
      · exact .inl (by omega)
    clear hq e1 e2 t3 gb f1
    rw [ax_ev, dh_Tape_scanNumber_7]
    by_cases w : e - s ≤ 5
    · rw [if_pos w] at H
      rcases z with z | z
      · simp (disch := omega) only [ax_ev, ax_kk, ax_ps, ax_r_const, ax_r_lconst, ax_r_str, ax_r_iload, ax_r_lload, ax_r_aload, ax_r_istore, ax_r_astore, ax_r_lstore, ax_r_iinc, ax_r_iadd, ax_r_isub, ax_r_imul, ax_r_idiv, ax_r_irem, ax_r_iand, ax_r_ior, ax_r_ishl, ax_r_ishr, ax_r_iushr, ax_r_i2l, ax_r_l2i, ax_r_i2b, ax_r_ladd, ax_r_lsub, ax_r_lmul, ax_r_ldiv, ax_r_lrem, ax_r_land, ax_r_lor, ax_r_lcmp, ax_r_ifeq, ax_r_ifne, ax_r_iflt, ax_r_ifge, ax_r_ifgt, ax_r_ifle, ax_r_iceq, ax_r_icne, ax_r_iclt, ax_r_icge, ax_r_icgt, ax_r_icle, ax_r_goto, ax_r_tsw, ax_evt_c, ax_evt_n, ax_r_lsw, ax_evu_c, ax_evu_n, ax_r_getI, ax_r_getR, ax_r_putI, ax_r_putZ, ax_r_iald, ax_r_iast, ax_r_lald, ax_r_last, ax_r_bald, ax_r_aald, ax_r_alen, ax_r_bast, ax_r_min, ax_r_max, ax_r_minl, ax_r_maxl, ax_r_copy, ax_r_slen, ax_r_schr, ax_r_dup, ax_r_dup2, ax_r_pop, ax_r_ret, ax_r_lret, ax_r_vret, ax_r_zret, ax_r_aret, ax_r_call, ax_evo, ax_eva, ax_ar, ax_tk, ax_ex, ax_ld, ax_sto, ax_stl, ly_pm, ly_cd, ly_ln, ly_rf, Option.bind_some, Option.map_some, if_true, if_false, true_and, and_true, List.nil_append, List.cons_append, List.append_nil, List.length_nil, List.length_cons, List.headD_cons, true_or, or_true, false_or, or_false, ne_eq, not_false_eq_true, not_true_eq_false, false_and, and_false, List.set_cons_zero, List.set_cons_succ, Nat.reduceAdd, Nat.reduceSub, Nat.reduceMul, Nat.reduceLeDiff, Nat.reduceLT, Nat.reduceEqDiff, ↓reduceIte, Int.reduceNeg, Int.reduceAdd, Int.reduceSub, Int.reduceMul, Int.reduceEq, Int.reduceNe, Int.reduceLE, Int.reduceLT, Int.reduceToNat, Nat.one_ne_zero, Nat.zero_ne_one, Int.cast_ofNat_Int, lc_lt, lc_ge, lc_gt, lc_le, lc_eq, lc_ne, w32i, w64i, tdv, tmd, ltT, ltF, leT, leF, eqT, eqF, dc_Tape_scanNumber, f2, be, gN', g4']
        exact H
      · rcases (by omega : b e < 48 ∨ 57 < b e) with y | y
        · simp (disch := omega) only [ax_ev, ax_kk, ax_ps, ax_r_const, ax_r_lconst, ax_r_str, ax_r_iload, ax_r_lload, ax_r_aload, ax_r_istore, ax_r_astore, ax_r_lstore, ax_r_iinc, ax_r_iadd, ax_r_isub, ax_r_imul, ax_r_idiv, ax_r_irem, ax_r_iand, ax_r_ior, ax_r_ishl, ax_r_ishr, ax_r_iushr, ax_r_i2l, ax_r_l2i, ax_r_i2b, ax_r_ladd, ax_r_lsub, ax_r_lmul, ax_r_ldiv, ax_r_lrem, ax_r_land, ax_r_lor, ax_r_lcmp, ax_r_ifeq, ax_r_ifne, ax_r_iflt, ax_r_ifge, ax_r_ifgt, ax_r_ifle, ax_r_iceq, ax_r_icne, ax_r_iclt, ax_r_icge, ax_r_icgt, ax_r_icle, ax_r_goto, ax_r_tsw, ax_evt_c, ax_evt_n, ax_r_lsw, ax_evu_c, ax_evu_n, ax_r_getI, ax_r_getR, ax_r_putI, ax_r_putZ, ax_r_iald, ax_r_iast, ax_r_lald, ax_r_last, ax_r_bald, ax_r_aald, ax_r_alen, ax_r_bast, ax_r_min, ax_r_max, ax_r_minl, ax_r_maxl, ax_r_copy, ax_r_slen, ax_r_schr, ax_r_dup, ax_r_dup2, ax_r_pop, ax_r_ret, ax_r_lret, ax_r_vret, ax_r_zret, ax_r_aret, ax_r_call, ax_evo, ax_eva, ax_ar, ax_tk, ax_ex, ax_ld, ax_sto, ax_stl, ly_pm, ly_cd, ly_ln, ly_rf, Option.bind_some, Option.map_some, if_true, if_false, true_and, and_true, List.nil_append, List.cons_append, List.append_nil, List.length_nil, List.length_cons, List.headD_cons, true_or, or_true, false_or, or_false, ne_eq, not_false_eq_true, not_true_eq_false, false_and, and_false, List.set_cons_zero, List.set_cons_succ, Nat.reduceAdd, Nat.reduceSub, Nat.reduceMul, Nat.reduceLeDiff, Nat.reduceLT, Nat.reduceEqDiff, ↓reduceIte, Int.reduceNeg, Int.reduceAdd, Int.reduceSub, Int.reduceMul, Int.reduceEq, Int.reduceNe, Int.reduceLE, Int.reduceLT, Int.reduceToNat, Nat.one_ne_zero, Nat.zero_ne_one, Int.cast_ofNat_Int, lc_lt, lc_ge, lc_gt, lc_le, lc_eq, lc_ne, w32i, w64i, tdv, tmd, ltT, ltF, leT, leF, eqT, eqF, dc_Tape_scanNumber, f2, be, gN', g4']
          exact H
        · simp (disch := omega) only [ax_ev, ax_kk, ax_ps, ax_r_const, ax_r_lconst, ax_r_str, ax_r_iload, ax_r_lload, ax_r_aload, ax_r_istore, ax_r_astore, ax_r_lstore, ax_r_iinc, ax_r_iadd, ax_r_isub, ax_r_imul, ax_r_idiv, ax_r_irem, ax_r_iand, ax_r_ior, ax_r_ishl, ax_r_ishr, ax_r_iushr, ax_r_i2l, ax_r_l2i, ax_r_i2b, ax_r_ladd, ax_r_lsub, ax_r_lmul, ax_r_ldiv, ax_r_lrem, ax_r_land, ax_r_lor, ax_r_lcmp, ax_r_ifeq, ax_r_ifne, ax_r_iflt, ax_r_ifge, ax_r_ifgt, ax_r_ifle, ax_r_iceq, ax_r_icne, ax_r_iclt, ax_r_icge, ax_r_icgt, ax_r_icle, ax_r_goto, ax_r_tsw, ax_evt_c, ax_evt_n, ax_r_lsw, ax_evu_c, ax_evu_n, ax_r_getI, ax_r_getR, ax_r_putI, ax_r_putZ, ax_r_iald, ax_r_iast, ax_r_lald, ax_r_last, ax_r_bald, ax_r_aald, ax_r_alen, ax_r_bast, ax_r_min, ax_r_max, ax_r_minl, ax_r_maxl, ax_r_copy, ax_r_slen, ax_r_schr, ax_r_dup, ax_r_dup2, ax_r_pop, ax_r_ret, ax_r_lret, ax_r_vret, ax_r_zret, ax_r_aret, ax_r_call, ax_evo, ax_eva, ax_ar, ax_tk, ax_ex, ax_ld, ax_sto, ax_stl, ly_pm, ly_cd, ly_ln, ly_rf, Option.bind_some, Option.map_some, if_true, if_false, true_and, and_true, List.nil_append, List.cons_append, List.append_nil, List.length_nil, List.length_cons, List.headD_cons, true_or, or_true, false_or, or_false, ne_eq, not_false_eq_true, not_true_eq_false, false_and, and_false, List.set_cons_zero, List.set_cons_succ, Nat.reduceAdd, Nat.reduceSub, Nat.reduceMul, Nat.reduceLeDiff, Nat.reduceLT, Nat.reduceEqDiff, ↓reduceIte, Int.reduceNeg, Int.reduceAdd, Int.reduceSub, Int.reduceMul, Int.reduceEq, Int.reduceNe, Int.reduceLE, Int.reduceLT, Int.reduceToNat, Nat.one_ne_zero, Nat.zero_ne_one, Int.cast_ofNat_Int, lc_lt, lc_ge, lc_gt, lc_le, lc_eq, lc_ne, w32i, w64i, tdv, tmd, ltT, ltF, leT, leF, eqT, eqF, dc_Tape_scanNumber, f2, be, gN', g4']
          exact H
    · rw [if_neg w] at H
      rcases z with z | z
      · simp (disch := omega) only [ax_ev, ax_kk, ax_ps, ax_r_const, ax_r_lconst, ax_r_str, ax_r_iload, ax_r_lload, ax_r_aload, ax_r_istore, ax_r_astore, ax_r_lstore, ax_r_iinc, ax_r_iadd, ax_r_isub, ax_r_imul, ax_r_idiv, ax_r_irem, ax_r_iand, ax_r_ior, ax_r_ishl, ax_r_ishr, ax_r_iushr, ax_r_i2l, ax_r_l2i, ax_r_i2b, ax_r_ladd, ax_r_lsub, ax_r_lmul, ax_r_ldiv, ax_r_lrem, ax_r_land, ax_r_lor, ax_r_lcmp, ax_r_ifeq, ax_r_ifne, ax_r_iflt, ax_r_ifge, ax_r_ifgt, ax_r_ifle, ax_r_iceq, ax_r_icne, ax_r_iclt, ax_r_icge, ax_r_icgt, ax_r_icle, ax_r_goto, ax_r_tsw, ax_evt_c, ax_evt_n, ax_r_lsw, ax_evu_c, ax_evu_n, ax_r_getI, ax_r_getR, ax_r_putI, ax_r_putZ, ax_r_iald, ax_r_iast, ax_r_lald, ax_r_last, ax_r_bald, ax_r_aald, ax_r_alen, ax_r_bast, ax_r_min, ax_r_max, ax_r_minl, ax_r_maxl, ax_r_copy, ax_r_slen, ax_r_schr, ax_r_dup, ax_r_dup2, ax_r_pop, ax_r_ret, ax_r_lret, ax_r_vret, ax_r_zret, ax_r_aret, ax_r_call, ax_evo, ax_eva, ax_ar, ax_tk, ax_ex, ax_ld, ax_sto, ax_stl, ly_pm, ly_cd, ly_ln, ly_rf, Option.bind_some, Option.map_some, if_true, if_false, true_and, and_true, List.nil_append, List.cons_append, List.append_nil, List.length_nil, List.length_cons, List.headD_cons, true_or, or_true, false_or, or_false, ne_eq, not_false_eq_true, not_true_eq_false, false_and, and_false, List.set_cons_zero, List.set_cons_succ, Nat.reduceAdd, Nat.reduceSub, Nat.reduceMul, Nat.reduceLeDiff, Nat.reduceLT, Nat.reduceEqDiff, ↓reduceIte, Int.reduceNeg, Int.reduceAdd, Int.reduceSub, Int.reduceMul, Int.reduceEq, Int.reduceNe, Int.reduceLE, Int.reduceLT, Int.reduceToNat, Nat.one_ne_zero, Nat.zero_ne_one, Int.cast_ofNat_Int, lc_lt, lc_ge, lc_gt, lc_le, lc_eq, lc_ne, w32i, w64i, tdv, tmd, ltT, ltF, leT, leF, eqT, eqF, dc_Tape_scanNumber, f2, be, gN', g4']
        exact H
      · rcases (by omega : b e < 48 ∨ 57 < b e) with y | y
        · simp (disch := omega) only [ax_ev, ax_kk, ax_ps, ax_r_const, ax_r_lconst, ax_r_str, ax_r_iload, ax_r_lload, ax_r_aload, ax_r_istore, ax_r_astore, ax_r_lstore, ax_r_iinc, ax_r_iadd, ax_r_isub, ax_r_imul, ax_r_idiv, ax_r_irem, ax_r_iand, ax_r_ior, ax_r_ishl, ax_r_ishr, ax_r_iushr, ax_r_i2l, ax_r_l2i, ax_r_i2b, ax_r_ladd, ax_r_lsub, ax_r_lmul, ax_r_ldiv, ax_r_lrem, ax_r_land, ax_r_lor, ax_r_lcmp, ax_r_ifeq, ax_r_ifne, ax_r_iflt, ax_r_ifge, ax_r_ifgt, ax_r_ifle, ax_r_iceq, ax_r_icne, ax_r_iclt, ax_r_icge, ax_r_icgt, ax_r_icle, ax_r_goto, ax_r_tsw, ax_evt_c, ax_evt_n, ax_r_lsw, ax_evu_c, ax_evu_n, ax_r_getI, ax_r_getR, ax_r_putI, ax_r_putZ, ax_r_iald, ax_r_iast, ax_r_lald, ax_r_last, ax_r_bald, ax_r_aald, ax_r_alen, ax_r_bast, ax_r_min, ax_r_max, ax_r_minl, ax_r_maxl, ax_r_copy, ax_r_slen, ax_r_schr, ax_r_dup, ax_r_dup2, ax_r_pop, ax_r_ret, ax_r_lret, ax_r_vret, ax_r_zret, ax_r_aret, ax_r_call, ax_evo, ax_eva, ax_ar, ax_tk, ax_ex, ax_ld, ax_sto, ax_stl, ly_pm, ly_cd, ly_ln, ly_rf, Option.bind_some, Option.map_some, if_true, if_false, true_and, and_true, List.nil_append, List.cons_append, List.append_nil, List.length_nil, List.length_cons, List.headD_cons, true_or, or_true, false_or, or_false, ne_eq, not_false_eq_true, not_true_eq_false, false_and, and_false, List.set_cons_zero, List.set_cons_succ, Nat.reduceAdd, Nat.reduceSub, Nat.reduceMul, Nat.reduceLeDiff, Nat.reduceLT, Nat.reduceEqDiff, ↓reduceIte, Int.reduceNeg, Int.reduceAdd, Int.reduceSub, Int.reduceMul, Int.reduceEq, Int.reduceNe, Int.reduceLE, Int.reduceLT, Int.reduceToNat, Nat.one_ne_zero, Nat.zero_ne_one, Int.cast_ofNat_Int, lc_lt, lc_ge, lc_gt, lc_le, lc_eq, lc_ne, w32i, w64i, tdv, tmd, ltT, ltF, leT, leF, eqT, eqF, dc_Tape_scanNumber, f2, be, gN', g4']
          exact H
        · simp (disch := omega) only [ax_ev, ax_kk, ax_ps, ax_r_const, ax_r_lconst, ax_r_str, ax_r_iload, ax_r_lload, ax_r_aload, ax_r_istore, ax_r_astore, ax_r_lstore, ax_r_iinc, ax_r_iadd, ax_r_isub, ax_r_imul, ax_r_idiv, ax_r_irem, ax_r_iand, ax_r_ior, ax_r_ishl, ax_r_ishr, ax_r_iushr, ax_r_i2l, ax_r_l2i, ax_r_i2b, ax_r_ladd, ax_r_lsub, ax_r_lmul, ax_r_ldiv, ax_r_lrem, ax_r_land, ax_r_lor, ax_r_lcmp, ax_r_ifeq, ax_r_ifne, ax_r_iflt, ax_r_ifge, ax_r_ifgt, ax_r_ifle, ax_r_iceq, ax_r_icne, ax_r_iclt, ax_r_icge, ax_r_icgt, ax_r_icle, ax_r_goto, ax_r_tsw, ax_evt_c, ax_evt_n, ax_r_lsw, ax_evu_c, ax_evu_n, ax_r_getI, ax_r_getR, ax_r_putI, ax_r_putZ, ax_r_iald, ax_r_iast, ax_r_lald, ax_r_last, ax_r_bald, ax_r_aald, ax_r_alen, ax_r_bast, ax_r_min, ax_r_max, ax_r_minl, ax_r_maxl, ax_r_copy, ax_r_slen, ax_r_schr, ax_r_dup, ax_r_dup2, ax_r_pop, ax_r_ret, ax_r_lret, ax_r_vret, ax_r_zret, ax_r_aret, ax_r_call, ax_evo, ax_eva, ax_ar, ax_tk, ax_ex, ax_ld, ax_sto, ax_stl, ly_pm, ly_cd, ly_ln, ly_rf, Option.bind_some, Option.map_some, if_true, if_false, true_and, and_true, List.nil_append, List.cons_append, List.append_nil, List.length_nil, List.length_cons, List.headD_cons, true_or, or_true, false_or, or_false, ne_eq, not_false_eq_true, not_true_eq_false, false_and, and_false, List.set_cons_zero, List.set_cons_succ, Nat.reduceAdd, Nat.reduceSub, Nat.reduceMul, Nat.reduceLeDiff, Nat.reduceLT, Nat.reduceEqDiff, ↓reduceIte, Int.reduceNeg, Int.reduceAdd, Int.reduceSub, Int.reduceMul, Int.reduceEq, Int.reduceNe, Int.reduceLE, Int.reduceLT, Int.reduceToNat, Nat.one_ne_zero, Nat.zero_ne_one, Int.cast_ofNat_Int, lc_lt, lc_ge, lc_gt, lc_le, lc_eq, lc_ne, w32i, w64i, tdv, tmd, ltT, ltF, leT, leF, eqT, eqF, dc_Tape_scanNumber, f2, be, gN', g4']
          exact H
