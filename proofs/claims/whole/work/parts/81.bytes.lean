/-! bytes -/
theorem and255 (z : Int32) : (z &&& 255).toInt = z.toInt % 256 := by
  have h1 : (z &&& 255).toBitVec.toNat = z.toBitVec.toNat % 256 := by
    show (z.toBitVec &&& 255#32).toNat = _
    rw [BitVec.toNat_and]
    show z.toBitVec.toNat &&& 255 = _
    exact Nat.and_two_pow_sub_one_eq_mod z.toBitVec.toNat 8
  have h2 : (z &&& 255).toInt = ((z &&& 255).toBitVec.toNat : Int) := by
    show (z &&& 255).toBitVec.toInt = _
    rw [BitVec.toInt_eq_toNat_of_lt]
    rw [h1]; omega
  have h3 : z.toInt % 256 = (z.toBitVec.toNat : Int) % 256 := by
    show z.toBitVec.toInt % 256 = _
    rw [BitVec.toInt_eq_toNat_cond]
    split <;> omega
  rw [h2, h1, h3]; omega
theorem ax_and255 {y : Int} (h : ax_r32 y) : ax_and y 255 = y % 256 := by
  unfold ax_and
  have := and255 (Int32.ofInt y)
  rw [ax_tii h] at this
  exact this
theorem w8_mod (y : Int) : ax_w8 (y % 256) = ax_w8 y := by unfold ax_w8; omega
theorem shr_num (z : Int32) : (z >>> 24).toInt = z.toInt / 16777216 ∧ (z >>> 16).toInt = z.toInt / 65536 ∧ (z >>> 8).toInt = z.toInt / 256 := by
  refine ⟨?_, ?_, ?_⟩
  · show (z.toBitVec.sshiftRight 24).toInt = z.toBitVec.toInt / 16777216
    rw [BitVec.toInt_sshiftRight, Int.shiftRight_eq_div_pow]; rfl
  · show (z.toBitVec.sshiftRight 16).toInt = z.toBitVec.toInt / 65536
    rw [BitVec.toInt_sshiftRight, Int.shiftRight_eq_div_pow]; rfl
  · show (z.toBitVec.sshiftRight 8).toInt = z.toBitVec.toInt / 256
    rw [BitVec.toInt_sshiftRight, Int.shiftRight_eq_div_pow]; rfl
theorem ushr_num (z : Int32) : (z.toUInt32 >>> 24).toInt32.toInt = (z.toInt % 4294967296) / 16777216 ∧ (z.toUInt32 >>> 16).toInt32.toInt = (z.toInt % 4294967296) / 65536 ∧ (z.toUInt32 >>> 8).toInt32.toInt = (z.toInt % 4294967296) / 256 := by
  have h3 : z.toInt % 4294967296 = (z.toBitVec.toNat : Int) := by
    show z.toBitVec.toInt % 4294967296 = _
    have := z.toBitVec.isLt
    rw [BitVec.toInt_eq_toNat_cond]
    split <;> omega
  have hl := z.toBitVec.isLt
  rw [h3]
  refine ⟨?_, ?_, ?_⟩
  · show (z.toBitVec >>> 24).toInt = _
    rw [BitVec.toInt_eq_toNat_of_lt (by rw [BitVec.toNat_ushiftRight, Nat.shiftRight_eq_div_pow]; omega), BitVec.toNat_ushiftRight, Nat.shiftRight_eq_div_pow]; omega
  · show (z.toBitVec >>> 16).toInt = _
    rw [BitVec.toInt_eq_toNat_of_lt (by rw [BitVec.toNat_ushiftRight, Nat.shiftRight_eq_div_pow]; omega), BitVec.toNat_ushiftRight, Nat.shiftRight_eq_div_pow]; omega
  · show (z.toBitVec >>> 8).toInt = _
    rw [BitVec.toInt_eq_toNat_of_lt (by rw [BitVec.toNat_ushiftRight, Nat.shiftRight_eq_div_pow]; omega), BitVec.toNat_ushiftRight, Nat.shiftRight_eq_div_pow]; omega
theorem shr_v {x : Int} (h : ax_r32 x) : ax_shr x 24 = x / 16777216 ∧ ax_shr x 16 = x / 65536 ∧ ax_shr x 8 = x / 256 ∧ ax_shr x 0 = x := by
  have := shr_num (Int32.ofInt x)
  rw [ax_tii h] at this
  refine ⟨this.1, this.2.1, this.2.2, ?_⟩
  unfold ax_shr
  have e : Int32.ofInt x >>> (Int32.ofInt 0 &&& 31) = Int32.ofInt x := by
    apply Int32.toBitVec_inj.mp
    show (Int32.ofInt x).toBitVec.sshiftRight 0 = _
    simp
  rw [e]; exact ax_tii h
theorem ushr_v {x : Int} (h : ax_r32 x) : ax_ushr x 24 = (x % 4294967296) / 16777216 ∧ ax_ushr x 16 = (x % 4294967296) / 65536 ∧ ax_ushr x 8 = (x % 4294967296) / 256 ∧ ax_ushr x 0 = x := by
  have := ushr_num (Int32.ofInt x)
  rw [ax_tii h] at this
  refine ⟨this.1, this.2.1, this.2.2, ?_⟩
  unfold ax_ushr
  have e : ((Int32.ofInt x).toUInt32 >>> ((Int32.ofInt 0).toUInt32 &&& Int32.toUInt32 31)).toInt32 = Int32.ofInt x := by
    apply Int32.toBitVec_inj.mp
    show (Int32.ofInt x).toBitVec >>> 0 = _
    simp
  rw [e]; exact ax_tii h
/-- a byte of the class, and the reference's -/
theorem byte_eq {x : Int} (h : ax_r32 x) {s : Int} (hs : s = 24 ∨ s = 16 ∨ s = 8 ∨ s = 0) : ax_w8 (ax_shr x s) = ax_w8 (ax_and (ax_ushr x s) 255) ∧ 0 ≤ ax_and (ax_ushr x s) 255 ∧ ax_and (ax_ushr x s) 255 ≤ 255 := by
  have a := shr_v h
  have b := ushr_v h
  unfold ax_r32 at h
  rcases hs with e | e | e | e <;> subst e
  · rw [a.1, b.1, ax_and255 (by unfold ax_r32; omega), w8_mod]; unfold ax_w8; omega
  · rw [a.2.1, b.2.1, ax_and255 (by unfold ax_r32; omega), w8_mod]; unfold ax_w8; omega
  · rw [a.2.2.1, b.2.2.1, ax_and255 (by unfold ax_r32; omega), w8_mod]; unfold ax_w8; omega
  · rw [a.2.2.2, b.2.2.2, ax_and255 (by unfold ax_r32; omega), w8_mod]; unfold ax_w8; omega
