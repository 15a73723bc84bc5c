/-! THE LAW, over any invariant that its 39 pairs of methods keep -/
def lw_q : ax_MT := (x, code, 4, some .boolean, 13, 1, [2], [])
def lw_pair (Inv : ax_H → Prop) (o1 o2 : Int) (n mX mM : Nat) : Prop := ∀ (H : ax_H) (as : List Int), as.length = n → (∀ a ∈ as, ax_r32 a) → Inv H →
  ax_Ev 40 mX 0 (ax_ex ((2, o1) :: as.map fun a => (0, a)) ++ (ax_pm mX).2.2.2) [] H (fun r H1 => ax_Ev 40 mM 0 (ax_ex ((2, o2) :: as.map fun a => (0, a)) ++ (ax_pm mM).2.2.2) [] H1 (fun r2 H2 => r2 = r ∧ r.1 = 0 ∧ Inv H2))
def lw_dk (pc : Nat) (i : Instr) (n : Nat) : Bool := decide (decode code pc = .ok (i, n))
/-- n words of the script are pushed from pc on -/
def lw_pk (pc n : Nat) : Bool := (List.range n).all fun j => lw_dk (pc + 5 * j) (.aload_n 0) 1 && lw_dk (pc + 5 * j + 1) (.iload_n 3) 1 && lw_dk (pc + 5 * j + 2) (.iconst ((j : Int) + 1)) 1 && lw_dk (pc + 5 * j + 3) .iadd 1 && lw_dk (pc + 5 * j + 4) .iaload 1
/-- a case of the law: at pc, of n words, the methods mX and mM by the links kX, kM -/
def lw_ck (pc n mX mM kX kM : Nat) : Bool :=
  lw_dk pc (.aload_n 1) 1 && lw_pk (pc + 1) n && lw_dk (pc + 1 + 5 * n) (.invokevirtual kX) 3 && decide (ax_R 13 1 (some .boolean) (pc + 1 + 5 * n) (.invokevirtual kX) = some (55, [mX, 0], 0)) &&
  lw_dk (pc + 4 + 5 * n) (.aload_n 2) 1 && lw_pk (pc + 5 + 5 * n) n && lw_dk (pc + 5 + 10 * n) (.invokevirtual kM) 3 && decide (ax_R 13 1 (some .boolean) (pc + 5 + 10 * n) (.invokevirtual kM) = some (55, [mM, 0], 0)) &&
  lw_dk (pc + 8 + 10 * n) (.if_icmp .eq (1281 - ((pc + 8 + 10 * n : Nat) : Int))) 3 &&
  decide ((ax_pm mX).1 = 0 ∧ (ax_pm mX).2.1 = 11 ∧ (ax_pm mX).2.2.1 = List.replicate n 0 ++ [2]) && decide ((ax_pm mM).1 = 0 ∧ (ax_pm mM).2.1 = 12 ∧ (ax_pm mM).2.2.1 = List.replicate n 0 ++ [2]) && decide (n ≤ 5)
def lw_sx (xs : Nat → Int32) (i : Int) : Int := (xs i.toNat).toInt
def lw_st (xs : Nat → Int32) (i : Int) (st : List ax_V) : Nat → List ax_V
  | 0 => st
  | n + 1 => (0, lw_sx xs (i + (n : Int) + 1)) :: lw_st xs i st n
def lw_av (xs : Nat → Int32) (i : Int) (n : Nat) : List Int := (List.range n).map fun (j : Nat) => lw_sx xs (i + (j : Int) + 1)
theorem lw_tk (xs : Nat → Int32) (i o : Int) (rest : List ax_V) : ∀ n, ax_tk (List.replicate n 0 ++ [2]) (lw_st xs i ((2, o) :: rest) n) = some ((2, o) :: (lw_av xs i n).map fun a => (0, a), rest)
  | 0 => rfl
  | n + 1 => by
    have h := lw_tk xs i o rest n
    rw [List.replicate_succ, List.cons_append]
    unfold lw_st
    unfold ax_tk
    rw [if_pos rfl, h]
    show some _ = _
    unfold lw_av
    rw [List.range_succ]
    simp
theorem lw_ar {xs : Nat → Int32} {i o : Int} {rest : List ax_V} {n m : Nat} {L : ax_L} (h1 : (ax_pm m).1 = 0) (h3 : (ax_pm m).2.2.1 = List.replicate n 0 ++ [2]) (hr : rest.length ≤ 4) (hc : ax_cd L o = (ax_pm m).2.1) :
    ax_ar (ax_pm m) 0 (lw_st xs i ((2, o) :: rest) n) L = some (ax_ex ((2, o) :: (lw_av xs i n).map fun a => (0, a)) ++ (ax_pm m).2.2.2, rest) := by
  unfold ax_ar
  rw [h3, lw_tk, Option.bind_some, if_pos ⟨h1, hr, Or.inr hc⟩]
theorem lw_tg {pc t : Nat} {off : Int} (h : (pc : Int) + off = (t : Int)) : ax_tg pc off = some t := by
  have e : ((pc : Int) + off).toNat = t := by omega
  unfold ax_tg
  rw [if_pos (by omega), e]
section LWA
variable {p : Program} {l : Launch} {e : Env} {R : Room} {s : State} {mi : MethodId} {args : Array Value} {below : List Frame} {meth : Method} {c : Code} {Q : State → Prop} {D : va_G} {base : Nat} {ad : Int → Nat} {nL n0 s0 : Nat}
theorem as_scr {cc : ByteArray} (hx : p.tables.exec = Jvm.exec) (hb : c.code = cc) {b N : Nat} {xs : Nat → Int32} (hX : va_X b N xs s s.heap) (hbl : b < s.heap.size) (hbA : b < base) (hadS : ad (-1000) = b) {pc : Nat} {ls r : List ax_V} {H : ax_H} {i : Int} (hi0 : 0 ≤ i) (hi1 : i < N) (hd : decode cc pc = .ok (.iaload, 1))
    (kk : ax_G p l e R s mi args below meth c Q D base ad nL n0 s0 (pc + 1) ls ((0, lw_sx xs i) :: r) H) : ax_G p l e R s mi args below meth c Q D base ad nL n0 s0 pc ls ((0, i) :: (2, -1000) :: r) H := by
  intro lsM Hp locs cells slots hr
  have hir := ax_ok0 (ax_okh hr.2.1)
  have K := kk lsM Hp locs cells slots (hr.stk (ax_okc (ax_oki (ax_r32_ti _)) (ax_okt (ax_okt hr.2.1))))
  have hv : ax_tv ad (2, -1000) = .ref b := by
    show va_rf (ax_ro ad (-1000)) = _
    unfold ax_ro
    rw [if_neg (by omega), hadS]
    rfl
  show W p l e R s mi args below meth c Hp locs cells slots Q (F0 mi pc lsM (.int (Int32.ofInt i) :: ax_tv ad (2, -1000) :: r.map (ax_tv ad)))
  rw [hv]
  refine va_sld hx hb hX hbl (by show ¬ base ≤ b; omega) hr.2.2.2.1 (ax_vin hi0 hir hi1) hd ?_
  rw [ax_nc hi0 hir]
  have e1 : Int32.ofInt (lw_sx xs i) = xs i.toNat := ax_oti _
  have K : W p l e R s mi args below meth c Hp locs cells slots Q (F0 mi (pc + 1) lsM (.int (Int32.ofInt (lw_sx xs i)) :: r.map (ax_tv ad))) := K
  rw [e1] at K
  exact K
theorem as_scrlen {cc : ByteArray} (hx : p.tables.exec = Jvm.exec) (hb : c.code = cc) {b N : Nat} {xs : Nat → Int32} (hX : va_X b N xs s s.heap) (hN : N ≤ 3072) (hbl : b < s.heap.size) (hbA : b < base) (hadS : ad (-1000) = b) {pc : Nat} {ls r : List ax_V} {H : ax_H} (hd : decode cc pc = .ok (.arraylength, 1))
    (kk : ax_G p l e R s mi args below meth c Q D base ad nL n0 s0 (pc + 1) ls ((0, (N : Int)) :: r) H) : ax_G p l e R s mi args below meth c Q D base ad nL n0 s0 pc ls ((2, -1000) :: r) H := by
  intro lsM Hp locs cells slots hr
  have K := kk lsM Hp locs cells slots (hr.stk (ax_okc (ax_oki (by unfold ax_r32; omega)) (ax_okt hr.2.1)))
  have hv : ax_tv ad (2, -1000) = .ref b := by
    show va_rf (ax_ro ad (-1000)) = _
    unfold ax_ro
    rw [if_neg (by omega), hadS]
    rfl
  show W p l e R s mi args below meth c Hp locs cells slots Q (F0 mi pc lsM (ax_tv ad (2, -1000) :: r.map (ax_tv ad)))
  rw [hv]
  refine va_slen hx hb hX hbl (by show ¬ base ≤ b; omega) hr.2.2.2.1 hd ?_
  rw [ax_ofn]
  exact K
theorem lw_push (hx : p.tables.exec = Jvm.exec) (hb : c.code = code) {b N : Nat} {xs : Nat → Int32} (hX : va_X b N xs s s.heap) (hN : N ≤ 3072) (hbl : b < s.heap.size) (hbA : b < base) (hadS : ad (-1000) = b) {o1 o2 i : Int} {st : List ax_V} {H : ax_H} (hi0 : 0 ≤ i) :
    ∀ (n pc : Nat), lw_pk pc n = true → i + n < N → n ≤ 5 → ax_G p l e R s mi args below meth c Q D base ad nL n0 s0 (pc + 5 * n) [(2, -1000), (2, o1), (2, o2), (0, i)] (lw_st xs i st n) H → ax_G p l e R s mi args below meth c Q D base ad nL n0 s0 pc [(2, -1000), (2, o1), (2, o2), (0, i)] st H
  | 0, pc, _, _, _, kk => kk
  | n + 1, pc, hk, hin, hn5, kk => by
    unfold lw_pk at hk
    rw [List.range_succ, List.all_append, Bool.and_eq_true] at hk
    obtain ⟨hk1, hk2⟩ := hk
    simp only [List.all_cons, List.all_nil, Bool.and_true, Bool.and_eq_true] at hk2
    obtain ⟨⟨⟨⟨d0, d1⟩, d2⟩, d3⟩, d4⟩ := hk2
    refine lw_push hx hb hX hN hbl hbA hadS hi0 n pc hk1 (by omega) (by omega) ?_
    have e1 : ax_w32 (i + ax_w32 ((n : Int) + 1)) = i + (n : Int) + 1 := by unfold ax_w32; omega
    refine as_aload_n hx hb (k := 0) (x := -1000) rfl (of_decide_eq_true d0) ?_
    refine as_iload_n hx hb (k := 3) (x := i) rfl (of_decide_eq_true d1) ?_
    refine as_const hx hb (ax_w32_r _) (ax_oi _).symm (of_decide_eq_true d2) ?_
    refine as_iadd hx hb (of_decide_eq_true d3) ?_
    rw [e1]
    refine as_scr hx hb hX hbl hbA hadS (by omega) (by omega) (of_decide_eq_true d4) ?_
    rw [show pc + 5 * n + 4 + 1 = pc + 5 * (n + 1) by omega]
    exact kk
/-- one case of the law -/
theorem lw_case (C : ax_CX p R s mi args meth c base ad lw_q 4 n0 41) {b N : Nat} {xs : Nat → Int32} (hX : va_X b N xs s s.heap) (hN : N ≤ 3072) (hbl : b < s.heap.size) (hbA : b < base) (hadS : ad (-1000) = b) {Inv : ax_H → Prop} {o1 o2 i : Int} {H : ax_H} (hi0 : 0 ≤ i) (hi6 : i + 6 ≤ N)
    {pc n mX mM kX kM : Nat} (hck : lw_ck pc n mX mM kX kM = true) (hp : lw_pair Inv o1 o2 n mX mM) (hI : Inv H) (hlay : ∀ H, Inv H → H.1.length ≤ n0 + R.cells ∧ ax_sl H.1 ≤ s0 + R.slots ∧ ax_cd H.1 o1 = 11) (hlay2 : ∀ H H1, Inv H → ax_gr H H1 → ax_cd H1.1 o2 = 12)
    (kk : ∀ H2, Inv H2 → ax_G p l e R s mi args below meth c Q D base ad 4 n0 s0 1281 [(2, -1000), (2, o1), (2, o2), (0, i)] [] H2) : ax_G p l e R s mi args below meth c Q D base ad 4 n0 s0 pc [(2, -1000), (2, o1), (2, o2), (0, i)] [] H := by
  have hx := C.1
  have hb : c.code = code := C.2.1
  unfold lw_ck at hck
  simp only [Bool.and_eq_true] at hck
  obtain ⟨⟨⟨⟨⟨⟨⟨⟨⟨⟨⟨c0, c1⟩, c2⟩, c3⟩, c4⟩, c5⟩, c6⟩, c7⟩, c8⟩, c10⟩, c11⟩, c12⟩ := hck
  have c12 := of_decide_eq_true c12
  obtain ⟨x1, x2, x3⟩ := of_decide_eq_true c10
  obtain ⟨m1, m2, m3⟩ := of_decide_eq_true c11
  have has : (lw_av xs i n).length = n := by unfold lw_av; simp
  have har : ∀ a ∈ lw_av xs i n, ax_r32 a := fun a ha => by
    unfold lw_av at ha
    obtain ⟨j, -, rfl⟩ := List.mem_map.mp ha
    exact ax_r32_ti _
  obtain ⟨nX, r, H1, hgX, nM, r2, H2, hgM, hr2, hr0, hI2⟩ := hp H (lw_av xs i n) has har hI
  have gX : ax_gr H H1 := ax_go_gr _ _ _ _ _ _ _ _ _ hgX
  have gM : ax_gr H1 H2 := ax_go_gr _ _ _ _ _ _ _ _ _ hgM
  obtain ⟨l1, l2, l3⟩ := hlay H hI
  obtain ⟨k1, k2, -⟩ := hlay H2 hI2
  subst hr2
  obtain ⟨rt, rv⟩ := r2
  cases hr0
  refine as_aload_n hx hb (k := 1) (x := o1) rfl (of_decide_eq_true c0) ?_
  refine lw_push hx hb hX hN hbl hbA hadS hi0 n (pc + 1) c1 (by omega) c12 ?_
  refine ax_calls (ax_body nX) C (i := .invokevirtual kX) (len := 3) (ops := [mX, 0]) (v := 0) (of_decide_eq_true c2) (by show ¬ ((3 : Nat) ≠ 0 ∧ (3 : Nat) ≠ 3); omega) (of_decide_eq_true c3) (Or.inl ⟨kX, rfl⟩) (rest := []) ?_ hgX ⟨by have := gM.1; omega, by have := gM.2.1; omega⟩ ?_
  · exact lw_ar (m := mX) x1 x3 (by simp) (l3.trans x2.symm)
  show ax_G p l e R s mi args below meth c Q D base ad 4 n0 s0 (pc + 1 + 5 * n + 3) [(2, -1000), (2, o1), (2, o2), (0, i)] [(0, rv)] H1
  rw [show pc + 1 + 5 * n + 3 = pc + 4 + 5 * n by omega]
  refine as_aload_n hx hb (k := 2) (x := o2) rfl (of_decide_eq_true c4) ?_
  rw [show pc + 4 + 5 * n + 1 = pc + 5 + 5 * n by omega]
  refine lw_push hx hb hX hN hbl hbA hadS hi0 n (pc + 5 + 5 * n) c5 (by omega) c12 ?_
  rw [show pc + 5 + 5 * n + 5 * n = pc + 5 + 10 * n by omega]
  refine ax_calls (ax_body nM) C (i := .invokevirtual kM) (len := 3) (ops := [mM, 0]) (v := 0) (of_decide_eq_true c6) (by show ¬ ((3 : Nat) ≠ 0 ∧ (3 : Nat) ≠ 3); omega) (of_decide_eq_true c7) (Or.inl ⟨kM, rfl⟩) (rest := [(0, rv)]) ?_ hgM ⟨by omega, by omega⟩ ?_
  · exact lw_ar (m := mM) m1 m3 (by simp) ((hlay2 H H1 hI gX).trans m2.symm)
  show ax_G p l e R s mi args below meth c Q D base ad 4 n0 s0 (pc + 5 + 10 * n + 3) [(2, -1000), (2, o1), (2, o2), (0, i)] [(0, rv), (0, rv)] H2
  rw [show pc + 5 + 10 * n + 3 = pc + 8 + 10 * n by omega]
  unfold lw_dk at c8
  have c8 := of_decide_eq_true c8
  refine as_icmp_eq hx hb (t := 1281) (off := 1281 - ((pc + 8 + 10 * n : Nat) : Int)) (lw_tg (by omega)) c8 ?_
  rw [if_pos (by simp [ax_cb])]
  exact kk H2 hI2
end LWA
