/-! THE LAW'S CASES, ITS LOOP, ITS START: open in the invariant; written by wip/whole/gen_law.py -/
/-- (pc, how many words, method of the class, of the reference, their links) -/
def lw_cases : List (Nat × Nat × Nat × Nat × Nat × Nat) := [(204, 5, 113, 153, 13, 17), (267, 1, 114, 155, 18, 22), (290, 0, 115, 156, 23, 27), (303, 0, 116, 177, 28, 31), (316, 1, 117, 192, 32, 35), (339, 2, 118, 193, 36, 40), (372, 2, 119, 196, 41, 44), (405, 2, 120, 198, 45, 48), (438, 0, 121, 204, 49, 52), (451, 2, 122, 219, 53, 56), (484, 1, 123, 222, 57, 60), (507, 1, 124, 224, 61, 64), (530, 1, 125, 225, 65, 68), (553, 1, 126, 226, 69, 72), (576, 0, 127, 200, 73, 76), (589, 3, 128, 227, 77, 81), (632, 0, 129, 233, 82, 85), (645, 1, 130, 236, 86, 89), (668, 1, 131, 237, 90, 93), (691, 1, 132, 238, 94, 97), (714, 1, 133, 239, 98, 101), (737, 1, 134, 240, 102, 105), (760, 3, 135, 242, 106, 109), (803, 3, 136, 245, 110, 113), (846, 1, 137, 247, 114, 117), (869, 0, 138, 251, 118, 121), (882, 2, 139, 264, 122, 125), (915, 2, 140, 266, 126, 129), (948, 4, 141, 252, 130, 134), (1001, 1, 142, 256, 135, 138), (1024, 2, 143, 259, 139, 142), (1057, 2, 144, 260, 143, 146), (1090, 1, 145, 261, 147, 150), (1113, 1, 146, 267, 151, 154), (1136, 1, 147, 269, 155, 158), (1159, 4, 148, 270, 159, 162), (1212, 1, 149, 274, 163, 166), (1235, 1, 150, 276, 167, 170), (1258, 1, 151, 277, 171, 174)]
theorem lw_cases_ok : ∀ q ∈ lw_cases, lw_ck q.1 q.2.1 q.2.2.1 q.2.2.2.1 q.2.2.2.2.1 q.2.2.2.2.2 = true := List.forall_mem_cons.mpr ⟨lw_ck_0, List.forall_mem_cons.mpr ⟨lw_ck_1, List.forall_mem_cons.mpr ⟨lw_ck_2, List.forall_mem_cons.mpr ⟨lw_ck_3, List.forall_mem_cons.mpr ⟨lw_ck_4, List.forall_mem_cons.mpr ⟨lw_ck_5, List.forall_mem_cons.mpr ⟨lw_ck_6, List.forall_mem_cons.mpr ⟨lw_ck_7, List.forall_mem_cons.mpr ⟨lw_ck_8, List.forall_mem_cons.mpr ⟨lw_ck_9, List.forall_mem_cons.mpr ⟨lw_ck_10, List.forall_mem_cons.mpr ⟨lw_ck_11, List.forall_mem_cons.mpr ⟨lw_ck_12, List.forall_mem_cons.mpr ⟨lw_ck_13, List.forall_mem_cons.mpr ⟨lw_ck_14, List.forall_mem_cons.mpr ⟨lw_ck_15, List.forall_mem_cons.mpr ⟨lw_ck_16, List.forall_mem_cons.mpr ⟨lw_ck_17, List.forall_mem_cons.mpr ⟨lw_ck_18, List.forall_mem_cons.mpr ⟨lw_ck_19, List.forall_mem_cons.mpr ⟨lw_ck_20, List.forall_mem_cons.mpr ⟨lw_ck_21, List.forall_mem_cons.mpr ⟨lw_ck_22, List.forall_mem_cons.mpr ⟨lw_ck_23, List.forall_mem_cons.mpr ⟨lw_ck_24, List.forall_mem_cons.mpr ⟨lw_ck_25, List.forall_mem_cons.mpr ⟨lw_ck_26, List.forall_mem_cons.mpr ⟨lw_ck_27, List.forall_mem_cons.mpr ⟨lw_ck_28, List.forall_mem_cons.mpr ⟨lw_ck_29, List.forall_mem_cons.mpr ⟨lw_ck_30, List.forall_mem_cons.mpr ⟨lw_ck_31, List.forall_mem_cons.mpr ⟨lw_ck_32, List.forall_mem_cons.mpr ⟨lw_ck_33, List.forall_mem_cons.mpr ⟨lw_ck_34, List.forall_mem_cons.mpr ⟨lw_ck_35, List.forall_mem_cons.mpr ⟨lw_ck_36, List.forall_mem_cons.mpr ⟨lw_ck_37, List.forall_mem_cons.mpr ⟨lw_ck_38, fun _ h => absurd h List.not_mem_nil⟩⟩⟩⟩⟩⟩⟩⟩⟩⟩⟩⟩⟩⟩⟩⟩⟩⟩⟩⟩⟩⟩⟩⟩⟩⟩⟩⟩⟩⟩⟩⟩⟩⟩⟩⟩⟩⟩⟩
theorem lw_d33 : decode code 33 = .ok (.tableswitch 1248 0 38 #[171, 234, 257, 270, 283, 306, 339, 372, 405, 418, 451, 474, 497, 520, 543, 556, 599, 612, 635, 658, 681, 704, 727, 770, 813, 836, 849, 882, 915, 968, 991, 1024, 1057, 1080, 1103, 1126, 1179, 1202, 1225], 171) := by decide +kernel
theorem lw_d0 : decode code 0 = .ok (.new 7, 3) := by decide +kernel
theorem lw_d3 : decode code 3 = .ok (.dup, 1) := by decide +kernel
theorem lw_d4 : decode code 4 = .ok (.invokespecial 9, 3) := by decide +kernel
theorem lw_d7 : decode code 7 = .ok (.astore_n 1, 1) := by decide +kernel
theorem lw_d8 : decode code 8 = .ok (.new 10, 3) := by decide +kernel
theorem lw_d11 : decode code 11 = .ok (.dup, 1) := by decide +kernel
theorem lw_d12 : decode code 12 = .ok (.invokespecial 12, 3) := by decide +kernel
theorem lw_d15 : decode code 15 = .ok (.astore_n 2, 1) := by decide +kernel
theorem lw_d16 : decode code 16 = .ok (.iconst 0, 1) := by decide +kernel
theorem lw_d17 : decode code 17 = .ok (.istore_n 3, 1) := by decide +kernel
theorem lw_d18 : decode code 18 = .ok (.iload_n 3, 1) := by decide +kernel
theorem lw_d19 : decode code 19 = .ok (.aload_n 0, 1) := by decide +kernel
theorem lw_d20 : decode code 20 = .ok (.arraylength, 1) := by decide +kernel
theorem lw_d21 : decode code 21 = .ok (.bipush 6, 2) := by decide +kernel
theorem lw_d23 : decode code 23 = .ok (.isub, 1) := by decide +kernel
theorem lw_d24 : decode code 24 = .ok (.if_icmp .gt 1263, 3) := by decide +kernel
theorem lw_d27 : decode code 27 = .ok (.aload_n 0, 1) := by decide +kernel
theorem lw_d28 : decode code 28 = .ok (.iload_n 3, 1) := by decide +kernel
theorem lw_d29 : decode code 29 = .ok (.iaload, 1) := by decide +kernel
theorem lw_d30 : decode code 30 = .ok (.bipush 63, 2) := by decide +kernel
theorem lw_d32 : decode code 32 = .ok (.iand, 1) := by decide +kernel
theorem lw_d1281 : decode code 1281 = .ok (.iinc 3 6, 3) := by decide +kernel
theorem lw_d1284 : decode code 1284 = .ok (.goto (-1266), 3) := by decide +kernel
theorem lw_d1287 : decode code 1287 = .ok (.iconst 1, 1) := by decide +kernel
theorem lw_d1288 : decode code 1288 = .ok (.ireturn, 1) := by decide +kernel
theorem lw_tgs33 : ax_tgs 33 (#[171, 234, 257, 270, 283, 306, 339, 372, 405, 418, 451, 474, 497, 520, 543, 556, 599, 612, 635, 658, 681, 704, 727, 770, 813, 836, 849, 882, 915, 968, 991, 1024, 1057, 1080, 1103, 1126, 1179, 1202, 1225] : Array Int).toList = some (lw_cases.map (·.1)) := by decide +kernel
theorem lw_tsw_mem (t : Nat) : ∀ (us : List Nat) (lo x : Int), ax_tsw t us lo x = t ∨ ax_tsw t us lo x ∈ us
  | [], lo, x => Or.inl rfl
  | u :: us, lo, x => by
    unfold ax_tsw
    split
    · exact Or.inr List.mem_cons_self
    · rcases lw_tsw_mem t us (lo + 1) x with h | h
      · exact Or.inl h
      · exact Or.inr (List.mem_cons_of_mem _ h)
/-- the two objects are made -/
def lw_init (Inv : ax_H → Prop) (o2 : Int) : Prop :=
  ax_Ev 40 112 0 (ax_ex [(2, 0)] ++ (ax_pm 112).2.2.2) [] ([(11, ax_nf 11, List.replicate (ax_nf 11) (-1))], ax_zr (fun _ _ => 0) 0) (fun r H2 => r = (9, 0) ∧ ax_cd H2.1 0 = 11 ∧ (H2.1.length : Int) = o2 ∧
    ax_Ev 40 152 0 (ax_ex [(2, o2)] ++ (ax_pm 152).2.2.2) [] (H2.1 ++ [(12, ax_nf 12, List.replicate (ax_nf 12) (-1))], ax_zr H2.2 H2.1.length) (fun r2 H4 => r2 = (9, 0) ∧ Inv H4))
section LWB
variable {p : Program} {l : Launch} {e : Env} {R : Room} {s : State} {mi : MethodId} {args : Array Value} {below : List Frame} {meth : Method} {c : Code} {Q : State → Prop} {D : va_G} {base : Nat} {ad : Int → Nat} {n0 s0 : Nat}
theorem lw_loop (C : ax_CX p R s mi args meth c base ad lw_q 4 n0 41) {b N : Nat} {xs : Nat → Int32} (hX : va_X b N xs s s.heap) (hN : N ≤ 3072) (hbl : b < s.heap.size) (hbA : b < base) (hadS : ad (-1000) = b) {Inv : ax_H → Prop} {o1 o2 : Int} (hp : ∀ q ∈ lw_cases, lw_pair Inv o1 o2 q.2.1 q.2.2.1 q.2.2.2.1) (hlay : ∀ H, Inv H → H.1.length ≤ n0 + R.cells ∧ ax_sl H.1 ≤ s0 + R.slots ∧ ax_cd H.1 o1 = 11) (hlay2 : ∀ H H1, Inv H → ax_gr H H1 → ax_cd H1.1 o2 = 12)
    (hfin : ∀ (i : Int) (H : ax_H), Inv H → ax_G p l e R s mi args below meth c Q D base ad 4 n0 s0 1287 [(2, -1000), (2, o1), (2, o2), (0, i)] [] H) :
    ∀ (k : Nat) (i : Int) (H : ax_H), 0 ≤ i → i ≤ N + 6 → (N : Int) - i ≤ 6 * k → Inv H → ax_G p l e R s mi args below meth c Q D base ad 4 n0 s0 18 [(2, -1000), (2, o1), (2, o2), (0, i)] [] H := by
  have hx := C.1
  have hb : c.code = code := C.2.1
  intro k
  induction k with
  | zero =>
    intro i H h0 h1 h2 hI
    refine as_iload_n hx hb (k := 3) (x := i) rfl lw_d18 ?_
    refine as_aload_n hx hb (k := 0) (x := -1000) rfl lw_d19 ?_
    refine as_scrlen hx hb hX hN hbl hbA hadS lw_d20 ?_
    refine as_bipush hx hb lw_d21 ?_
    refine as_isub hx hb lw_d23 ?_
    refine as_icmp_gt hx hb (t := 1287) rfl lw_d24 ?_
    have e1 : ax_cb 4 i (ax_w32 ((N : Int) - ax_w8 6)) = true := by
      simp only [ax_cb, decide_eq_true_eq]
      unfold ax_w32 ax_w8
      omega
    rw [if_pos e1]
    exact hfin i H hI
  | succ k ih =>
    intro i H h0 h1 h2 hI
    refine as_iload_n hx hb (k := 3) (x := i) rfl lw_d18 ?_
    refine as_aload_n hx hb (k := 0) (x := -1000) rfl lw_d19 ?_
    refine as_scrlen hx hb hX hN hbl hbA hadS lw_d20 ?_
    refine as_bipush hx hb lw_d21 ?_
    refine as_isub hx hb lw_d23 ?_
    refine as_icmp_gt hx hb (t := 1287) rfl lw_d24 ?_
    have e0 : ax_w32 ((N : Int) - ax_w8 6) = N - 6 := by unfold ax_w32 ax_w8; omega
    rw [e0]
    by_cases hend : (N : Int) - 6 < i
    · have e1 : ax_cb 4 i ((N : Int) - 6) = true := by
        simp only [ax_cb, decide_eq_true_eq]
        exact hend
      rw [if_pos e1]
      exact hfin i H hI
    · have e1 : ¬ ax_cb 4 i ((N : Int) - 6) = true := by
        simp only [ax_cb, decide_eq_true_eq]
        exact hend
      rw [if_neg e1]
      have hnext : ∀ H2, Inv H2 → ax_G p l e R s mi args below meth c Q D base ad 4 n0 s0 1281 [(2, -1000), (2, o1), (2, o2), (0, i)] [] H2 := fun H2 hI2 => by
        have e6 : ax_w32 (i + 6) = i + 6 := by unfold ax_w32; omega
        refine as_iinc hx hb (k := 3) (x := i) (n := 6) (ls' := [(2, -1000), (2, o1), (2, o2), (0, i + 6)]) rfl (by rw [e6]; rfl) lw_d1281 ?_
        refine as_goto hx hb (t := 18) rfl lw_d1284 ?_
        exact ih (i + 6) H2 (by omega) (by omega) (by omega) hI2
      refine as_aload_n hx hb (k := 0) (x := -1000) rfl lw_d27 ?_
      refine as_iload_n hx hb (k := 3) (x := i) rfl lw_d28 ?_
      refine as_scr hx hb hX hbl hbA hadS h0 (by omega) lw_d29 ?_
      refine as_bipush hx hb lw_d30 ?_
      refine as_iand hx hb lw_d32 ?_
      refine as_tsw hx hb (by decide) (t := 1281) rfl lw_tgs33 lw_d33 ?_
      rcases lw_tsw_mem 1281 (lw_cases.map (·.1)) 0 (ax_and (lw_sx xs i) (ax_w8 63)) with h | h
      · rw [h]
        exact hnext H hI
      · obtain ⟨q, hq, hqe⟩ := List.mem_map.mp h
        rw [← hqe]
        exact lw_case C hX hN hbl hbA hadS h0 (by omega) (lw_cases_ok q hq) (hp q hq) hI hlay hlay2 hnext
theorem lw_entry (C : ax_CX p R s mi args meth c base ad lw_q 4 0 41) {b N : Nat} {xs : Nat → Int32} (hX : va_X b N xs s s.heap) (hN : N ≤ 3072) (hbl : b < s.heap.size) (hbA : b < base) (hadS : ad (-1000) = b) {Inv : ax_H → Prop} {o2 : Int} (hi : lw_init Inv o2) (hp : ∀ q ∈ lw_cases, lw_pair Inv 0 o2 q.2.1 q.2.2.1 q.2.2.2.1) (hlay : ∀ H, Inv H → H.1.length ≤ R.cells ∧ ax_sl H.1 ≤ R.slots ∧ ax_cd H.1 0 = 11) (hlay2 : ∀ H H1, Inv H → ax_gr H H1 → ax_cd H1.1 o2 = 12)
    (hfin : ∀ (i : Int) (H : ax_H), Inv H → ax_G p l e R s mi args below meth c Q D base ad 4 0 0 1287 [(2, -1000), (2, 0), (2, o2), (0, i)] [] H) : ax_G p l e R s mi args below meth c Q D base ad 4 0 0 0 [(2, -1000), (9, 0), (9, 0), (9, 0)] [] ([], fun _ _ => 0) := by
  have hx := C.1
  have hb : c.code = code := C.2.1
  have hts := C.2.2.2.2.2.2.2.1
  have hsz := C.2.2.2.2.2.2.2.2.2.1
  have had := C.2.2.2.2.2.2.2.2.2.2.1
  have hown : s.vm.findClass (ax_ow 13) = some mi.cls := C.2.2.2.1
  obtain ⟨nX, r, H2, hgX, hr9, hc0, ho2, nM, r2, H4, hgM, hr92, hI⟩ := hi
  subst hr9
  subst hr92
  have gM : ax_gr _ H4 := ax_go_gr _ _ _ _ _ _ _ _ _ hgM
  have gX : ax_gr _ H2 := ax_go_gr _ _ _ _ _ _ _ _ _ hgX
  obtain ⟨k1, k2, -⟩ := hlay H4 hI
  have gM1 : H2.1.length + 1 ≤ H4.1.length := by have := gM.1; simpa using this
  have gM2 : ax_sl H2.1 + ax_nf 12 ≤ ax_sl H4.1 := by
    have h := gM.2.1
    have e1 : ax_sl (H2.1 ++ [(12, ax_nf 12, List.replicate (ax_nf 12) (-1))]) = ax_sl H2.1 + ax_nf 12 := ax_sl_app _ _
    have h : ax_sl (H2.1 ++ [(12, ax_nf 12, List.replicate (ax_nf 12) (-1))]) ≤ ax_sl H4.1 := h
    omega
  have gX1 : 1 ≤ H2.1.length := gX.1
  have gX2 : ax_nf 11 ≤ ax_sl H2.1 := gX.2.1
  refine as_new hx hb hts had hsz hown (ci := 11) (by decide +kernel) lw_d0 (by show 0 + 1 ≤ 0 + R.cells; omega) (by show 0 + ax_nf 11 ≤ 0 + R.slots; omega) ?_
  refine as_dup hx hb (Or.inr rfl) lw_d3 ?_
  refine ax_calls (ax_body nX) C (i := .invokespecial 9) (len := 3) (ops := [112, 2]) (v := 0) lw_d4 (by show ¬ ((3 : Nat) ≠ 0 ∧ (3 : Nat) ≠ 3); omega) (by decide +kernel) (Or.inr (Or.inr ⟨9, rfl⟩)) (rest := [(2, 0)]) (by decide +kernel) hgX ⟨by omega, by omega⟩ ?_
  refine as_astore_n hx hb (k := 1) (x := 0) (ls' := [(2, -1000), (2, 0), (9, 0), (9, 0)]) rfl lw_d7 ?_
  refine as_new hx hb hts had hsz hown (ci := 12) (by decide +kernel) lw_d8 (by omega) (by omega) ?_
  rw [ho2] at hgM ⊢
  refine as_dup hx hb (Or.inr rfl) lw_d11 ?_
  refine ax_calls (ax_body nM) C (i := .invokespecial 12) (len := 3) (ops := [152, 2]) (v := 0) lw_d12 (by show ¬ ((3 : Nat) ≠ 0 ∧ (3 : Nat) ≠ 3); omega) (by decide +kernel) (Or.inr (Or.inr ⟨12, rfl⟩)) (rest := [(2, o2)]) ?_ hgM ⟨by omega, by omega⟩ ?_
  · have e1 : ax_pm 152 = (2, 12, [2], []) := by decide +kernel
    show ax_ar (ax_pm 152) 2 [(2, o2), (2, o2)] (H2.1 ++ [(12, ax_nf 12, List.replicate (ax_nf 12) (-1))]) = some (ax_ex [(2, o2)] ++ (ax_pm 152).2.2.2, [(2, o2)])
    rw [e1]
    have e2 : ax_cd (H2.1 ++ [(12, ax_nf 12, List.replicate (ax_nf 12) (-1))]) o2 = 12 := by
      unfold ax_cd ax_at
      rw [if_neg (by omega), ← ho2, Int.toNat_natCast, List.getElem?_append_right (Nat.le_refl _), Nat.sub_self]
      rfl
    unfold ax_ar
    show (if (2 : Nat) = 2 ∧ _ ∧ _ then _ else _) = _
    rw [if_pos ⟨rfl, by show (1 : Nat) ≤ 4; omega, Or.inr e2⟩]
    rfl
  refine as_astore_n hx hb (k := 2) (x := o2) (ls' := [(2, -1000), (2, 0), (2, o2), (9, 0)]) rfl lw_d15 ?_
  refine as_const hx hb (v := 0) ax_r32_0 rfl lw_d16 ?_
  refine as_istore_n hx hb (k := 3) (x := 0) (ls' := [(2, -1000), (2, 0), (2, o2), (0, 0)]) rfl lw_d17 ?_
  exact lw_loop C hX hN hbl hbA hadS hp (fun H h => by have := hlay H h; exact ⟨by omega, by omega, this.2.2⟩) hlay2 hfin (N + 1) 0 H4 (Int.le_refl _) (by omega) (by omega) hI
end LWB
