/-! NUMBERS: the machine's Int32 and Int64 against Int -/
def ax_r32 (x : Int) : Prop := -2147483648 ≤ x ∧ x < 2147483648
def ax_r64 (x : Int) : Prop := -9223372036854775808 ≤ x ∧ x < 9223372036854775808
theorem ax_w32_r (x : Int) : ax_r32 (ax_w32 x) := by unfold ax_r32 ax_w32; omega
theorem ax_w64_r (x : Int) : ax_r64 (ax_w64 x) := by unfold ax_r64 ax_w64; omega
theorem ax_w8_r (x : Int) : -128 ≤ ax_w8 x ∧ ax_w8 x < 128 := by unfold ax_w8; omega
theorem ax_w16_r (x : Int) : -32768 ≤ ax_w16 x ∧ ax_w16 x < 32768 := by unfold ax_w16; omega
theorem ax_w32_id {x : Int} (h : ax_r32 x) : ax_w32 x = x := by unfold ax_r32 at h; unfold ax_w32; omega
theorem ax_w64_id {x : Int} (h : ax_r64 x) : ax_w64 x = x := by unfold ax_r64 at h; unfold ax_w64; omega
theorem ax_bmod32 (x : Int) : Int.bmod x 4294967296 = ax_w32 x := by unfold Int.bmod ax_w32; simp only []; split <;> omega
theorem ax_bmod64 (x : Int) : Int.bmod x 18446744073709551616 = ax_w64 x := by unfold Int.bmod ax_w64; simp only []; split <;> omega
theorem ax_bmod8 (x : Int) : Int.bmod x 256 = ax_w8 x := by unfold Int.bmod ax_w8; simp only []; split <;> omega
theorem ax_bmod16 (x : Int) : Int.bmod x 65536 = ax_w16 x := by unfold Int.bmod ax_w16; simp only []; split <;> omega
theorem ax_ti (x : Int) : (Int32.ofInt x).toInt = ax_w32 x := by rw [← ax_bmod32]; exact Int32.toInt_ofInt
theorem ax_tl (x : Int) : (Int64.ofInt x).toInt = ax_w64 x := by rw [← ax_bmod64]; exact Int64.toInt_ofInt
theorem ax_tii {x : Int} (h : ax_r32 x) : (Int32.ofInt x).toInt = x := by rw [ax_ti, ax_w32_id h]
theorem ax_tll {x : Int} (h : ax_r64 x) : (Int64.ofInt x).toInt = x := by rw [ax_tl, ax_w64_id h]
theorem ax_r32_ti (z : Int32) : ax_r32 z.toInt := ⟨Int32.le_toInt z, Int32.toInt_lt z⟩
theorem ax_r64_ti (z : Int64) : ax_r64 z.toInt := ⟨Int64.le_toInt z, Int64.toInt_lt z⟩
theorem ax_oi (x : Int) : Int32.ofInt (ax_w32 x) = Int32.ofInt x := by apply Int32.toInt_inj.mp; rw [ax_ti, ax_ti, ax_w32_id (ax_w32_r x)]
theorem ax_ol (x : Int) : Int64.ofInt (ax_w64 x) = Int64.ofInt x := by apply Int64.toInt_inj.mp; rw [ax_tl, ax_tl, ax_w64_id (ax_w64_r x)]
theorem ax_oti (z : Int32) : Int32.ofInt z.toInt = z := Int32.ofInt_toInt z
theorem ax_otl (z : Int64) : Int64.ofInt z.toInt = z := Int64.ofInt_toInt z
theorem ax_add (x y : Int) : Int32.ofInt x + Int32.ofInt y = Int32.ofInt (ax_w32 (x + y)) := by rw [ax_oi]; exact (Int32.ofInt_add x y).symm
theorem ax_sub (x y : Int) : Int32.ofInt x - Int32.ofInt y = Int32.ofInt (ax_w32 (x - y)) := by rw [ax_oi]; exact (Int32.ofInt_sub x y).symm
theorem ax_mul (x y : Int) : Int32.ofInt x * Int32.ofInt y = Int32.ofInt (ax_w32 (x * y)) := by rw [ax_oi]; exact (Int32.ofInt_mul x y).symm
theorem ax_addl (x y : Int) : Int64.ofInt x + Int64.ofInt y = Int64.ofInt (ax_w64 (x + y)) := by rw [ax_ol]; exact (Int64.ofInt_add x y).symm
theorem ax_subl (x y : Int) : Int64.ofInt x - Int64.ofInt y = Int64.ofInt (ax_w64 (x - y)) := by rw [ax_ol]; exact (Int64.ofInt_sub x y).symm
theorem ax_mull (x y : Int) : Int64.ofInt x * Int64.ofInt y = Int64.ofInt (ax_w64 (x * y)) := by rw [ax_ol]; exact (Int64.ofInt_mul x y).symm
theorem ax_lt {x y : Int} (hx : ax_r32 x) (hy : ax_r32 y) : Int32.ofInt x < Int32.ofInt y ↔ x < y := by rw [Int32.lt_iff_toInt_lt, ax_tii hx, ax_tii hy]
theorem ax_lei {x y : Int} (hx : ax_r32 x) (hy : ax_r32 y) : Int32.ofInt x ≤ Int32.ofInt y ↔ x ≤ y := by rw [Int32.le_iff_toInt_le, ax_tii hx, ax_tii hy]
theorem ax_eq {x y : Int} (hx : ax_r32 x) (hy : ax_r32 y) : Int32.ofInt x = Int32.ofInt y ↔ x = y := by rw [← Int32.toInt_inj, ax_tii hx, ax_tii hy]
theorem ax_ltl {x y : Int} (hx : ax_r64 x) (hy : ax_r64 y) : Int64.ofInt x < Int64.ofInt y ↔ x < y := by rw [Int64.lt_iff_toInt_lt, ax_tll hx, ax_tll hy]
theorem ax_eql {x y : Int} (hx : ax_r64 x) (hy : ax_r64 y) : Int64.ofInt x = Int64.ofInt y ↔ x = y := by rw [← Int64.toInt_inj, ax_tll hx, ax_tll hy]
theorem ax_r32_0 : ax_r32 0 := by unfold ax_r32; omega
theorem ax_ofz : Int32.ofInt 0 = 0 := rfl
theorem ax_ofzl : Int64.ofInt 0 = 0 := rfl
theorem ax_lt0 {x : Int} (hx : ax_r32 x) : Int32.ofInt x < 0 ↔ x < 0 := by rw [← ax_ofz]; exact ax_lt hx ax_r32_0
theorem ax_div {x y : Int} (hx : ax_r32 x) (hy : ax_r32 y) : Int32.ofInt x / Int32.ofInt y = Int32.ofInt (ax_w32 (x.tdiv y)) := by
  apply Int32.toInt_inj.mp
  rw [Int32.toInt_div, ax_tii hx, ax_tii hy, ax_ti, ax_w32_id (ax_w32_r _)]
  exact ax_bmod32 _
theorem ax_divl {x y : Int} (hx : ax_r64 x) (hy : ax_r64 y) : Int64.ofInt x / Int64.ofInt y = Int64.ofInt (ax_w64 (x.tdiv y)) := by
  apply Int64.toInt_inj.mp
  rw [Int64.toInt_div, ax_tll hx, ax_tll hy, ax_tl, ax_w64_id (ax_w64_r _)]
  exact ax_bmod64 _
theorem ax_rem {x y : Int} (hx : ax_r32 x) (hy : ax_r32 y) : Int32.ofInt x - Int32.ofInt x / Int32.ofInt y * Int32.ofInt y = Int32.ofInt (x.tmod y) := by
  rw [ax_div hx hy, ax_oi, ← Int32.ofInt_mul, ← Int32.ofInt_sub]
  congr 1
  rw [Int.tmod_def, Int.mul_comm]
theorem ax_reml {x y : Int} (hx : ax_r64 x) (hy : ax_r64 y) : Int64.ofInt x - Int64.ofInt x / Int64.ofInt y * Int64.ofInt y = Int64.ofInt (x.tmod y) := by
  rw [ax_divl hx hy, ax_ol, ← Int64.ofInt_mul, ← Int64.ofInt_sub]
  congr 1
  rw [Int.tmod_def, Int.mul_comm]
theorem ax_tmod_r (x y : Int) : (0 ≤ x → 0 ≤ x.tmod y ∧ x.tmod y ≤ x) ∧ (x ≤ 0 → x ≤ x.tmod y ∧ x.tmod y ≤ 0) := by
  have h1 : ∀ a : Int, 0 ≤ a → 0 ≤ a.tmod y ∧ a.tmod y ≤ a := by
    intro a ha
    obtain ⟨n, rfl⟩ := Int.eq_ofNat_of_zero_le ha
    rcases Int.natAbs_eq y with e | e
    · rw [e]
      show 0 ≤ ((n % y.natAbs : Nat) : Int) ∧ ((n % y.natAbs : Nat) : Int) ≤ (n : Int)
      have := Nat.mod_le n y.natAbs
      omega
    · rw [e, Int.tmod_neg]
      show 0 ≤ ((n % y.natAbs : Nat) : Int) ∧ ((n % y.natAbs : Nat) : Int) ≤ (n : Int)
      have := Nat.mod_le n y.natAbs
      omega
  refine ⟨h1 x, fun hx => ?_⟩
  have := h1 (-x) (by omega)
  rw [Int.neg_tmod] at this
  omega
theorem ax_tmod_r32 {x y : Int} (hx : ax_r32 x) : ax_r32 (x.tmod y) := by
  have := ax_tmod_r x y
  unfold ax_r32 at *
  rcases Int.le_total 0 x with h | h
  · have := this.1 h; omega
  · have := this.2 h; omega
theorem ax_tmod_r64 {x y : Int} (hx : ax_r64 x) : ax_r64 (x.tmod y) := by
  have := ax_tmod_r x y
  unfold ax_r64 at *
  rcases Int.le_total 0 x with h | h
  · have := this.1 h; omega
  · have := this.2 h; omega
theorem ax_i2l {x : Int} (hx : ax_r32 x) : (Int32.ofInt x).toInt64 = Int64.ofInt x := by
  apply Int64.toInt_inj.mp
  rw [Int32.toInt_toInt64, ax_tii hx, ax_tll (by unfold ax_r32 at hx; unfold ax_r64; omega)]
theorem ax_l2i {x : Int} (hx : ax_r64 x) : (Int64.ofInt x).toInt32 = Int32.ofInt (ax_w32 x) := by
  apply Int32.toInt_inj.mp
  rw [Int64.toInt_toInt32, ax_tll hx, ax_ti, ax_w32_id (ax_w32_r _)]
  exact ax_bmod32 x
theorem ax_i2b {x : Int} (hx : ax_r32 x) : (Int32.ofInt x).toInt8.toInt32 = Int32.ofInt (ax_w8 x) := by
  apply Int32.toInt_inj.mp
  rw [Int8.toInt_toInt32, Int32.toInt_toInt8, ax_tii hx, ax_tii (by have := ax_w8_r x; unfold ax_r32; omega)]
  exact ax_bmod8 x
theorem ax_bip (n : Int) : (Int8.ofInt n).toInt32 = Int32.ofInt (ax_w8 n) := by
  apply Int32.toInt_inj.mp
  rw [Int8.toInt_toInt32, ax_tii (by have := ax_w8_r n; unfold ax_r32; omega), ← ax_bmod8]
  exact Int8.toInt_ofInt
theorem ax_sip (n : Int) : (Int16.ofInt n).toInt32 = Int32.ofInt (ax_w16 n) := by
  apply Int32.toInt_inj.mp
  rw [Int16.toInt_toInt32, ax_tii (by have := ax_w16_r n; unfold ax_r32; omega), ← ax_bmod16]
  exact Int16.toInt_ofInt
theorem ax_nc {i : Int} (h0 : 0 ≤ i) (hi : ax_r32 i) : (Int32.ofInt i).toNatClampNeg = i.toNat := by
  show (Int32.ofInt i).toInt.toNat = i.toNat
  rw [ax_tii hi]
theorem ax_vin {i : Int} {n : Nat} (h0 : 0 ≤ i) (hi : ax_r32 i) (hn : i < n) : vp_in (Int32.ofInt i) n := by
  unfold vp_in
  rw [ax_nc h0 hi, ax_lt0 hi]
  omega
theorem ax_ofn (n : Nat) : Int32.ofNat n = Int32.ofInt n := (Int32.ofInt_eq_ofNat).symm
theorem ax_ofnl (n : Nat) : Int64.ofNat n = Int64.ofInt n := (Int64.ofInt_eq_ofNat).symm
theorem ax_lcmp_eq {x y : Int} (hx : ax_r64 x) (hy : ax_r64 y) : lg_cmp (Int64.ofInt x) (Int64.ofInt y) = Int32.ofInt (ax_lcmp x y) := by
  unfold lg_cmp ax_lcmp
  by_cases h1 : y < x
  · rw [if_pos ((ax_ltl hy hx).mpr h1), if_pos h1]; rfl
  · rw [if_neg (fun q => h1 ((ax_ltl hy hx).mp q)), if_neg h1]
    by_cases h2 : x = y
    · rw [if_pos ((ax_eql hx hy).mpr h2), if_pos h2]; rfl
    · rw [if_neg (fun q => h2 ((ax_eql hx hy).mp q)), if_neg h2]; rfl
theorem ax_lcmp_r (x y : Int) : ax_r32 (ax_lcmp x y) := by unfold ax_lcmp ax_r32; split <;> (try split) <;> omega
theorem ax_nar8 {x : Int} (hx : ax_r32 x) : vp_nar .byte (Int32.ofInt x) = Int32.ofInt (ax_w8 x) := by
  rw [← ax_i2b hx]; rfl
theorem ax_nar1 {x : Int} (hx : x = 0 ∨ x = 1) : vp_nar .boolean (Int32.ofInt x) = Int32.ofInt x := by
  rcases hx with rfl | rfl <;> rfl
