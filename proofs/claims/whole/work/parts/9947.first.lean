/-! the first moment keeps what is kept -/
def Z0 : Int → Int → Int := hp C0 124 mdF
theorem Z_now (i j : Int) (a : 0 ≤ i) (b : i < 13) : Z0 (24 + i) j = wkF i j := by
  simp only [Z0, C0, hp]
  rw [if_pos (by omega), if_pos (by omega), if_pos (by omega), if_pos (by omega), if_pos (by omega), if_pos (by omega), if_neg (by omega)]
  congr 1; omega
theorem Z_m (i j : Int) (a : 0 ≤ i) : Z0 (124 + i) j = mdF i j := by
  simp only [Z0, hp]
  rw [if_neg (by omega)]; congr 1; omega
theorem md_0 (i j : Int) (a : 2 ≤ i) : mdF i j = 0 := by unfold mdF; rw [if_neg (by omega), if_neg (by omega), if_neg (by omega)]
theorem Z_0 (i j : Int) (a : 126 ≤ i) : Z0 i j = 0 := by
  have := Z_m (i - 124) j (by omega)
  rw [show 124 + (i - 124) = i by omega] at this
  rw [this]; exact md_0 _ _ (by omega)
set_option maxRecDepth 100000 in
set_option maxHeartbeats 4000000 in
theorem Z_iv : iv_h Z0 := by
  have w : ∀ k, 0 ≤ k → k < 4 → Z0 38 k = 0 := fun k _ _ => rfl
  refine ⟨⟨rfl, by decide, by decide, fun j a b => ?_⟩, ?_, fun k a b => ⟨.inl rfl, ?_, fun e => ?_⟩, ⟨rfl, by decide, by decide, fun r a b => ?_⟩, ⟨rfl, ?_, ?_⟩, rfl⟩
  · have : Z0 1 1 = 0 := rfl
    omega
  · unfold iv_now
    have E : (fun i j => Z0 (24 + i) j) = (fun i j => Z0 (24 + i) j) := rfl
    have e : ∀ i, 0 ≤ i → i < 13 → ∀ j, Z0 (24 + i) j = wkF i j := fun i a b j => Z_now i j a b
    have z : ∀ i j, 126 ≤ i → Z0 i j = 0 := Z_0
    have q3 : Z0 11 3 = 0 := rfl
    have p : Z0 124 48 = 0 := rfl
    have s9 : ∀ j, wkF 9 j = if (6 ≤ j ∧ j ≤ 9) ∨ j = 10 ∨ (11 ≤ j ∧ j ≤ 19) then -1 else 0 := fun j => by unfold wkF; simp only [Int.reduceEq, false_and, if_false, true_and]
    have s4 : ∀ j, 0 ≤ j → j < 9 → wkF 4 j = -1 := fun j a b => by unfold wkF; rw [if_neg (by omega), if_neg (by omega), if_pos ⟨rfl, a, b⟩]
    have n : ∀ j, Z0 (24 + 1) j = wkF 1 j := e 1 (by omega) (by omega)
    have n0 : ∀ j, Z0 (24 + 0) j = wkF 0 j := e 0 (by omega) (by omega)
    have v0 : Z0 (24 + 1) 0 = 0 := rfl
    have v1 : Z0 (24 + 1) 1 = 0 := rfl
    have v2 : Z0 (24 + 1) 2 = 0 := rfl
    have v3 : Z0 (24 + 1) 3 = 0 := rfl
    have v4 : Z0 (24 + 1) 4 = -1 := rfl
    have x3 : Z0 (24 + 0) 3 = 0 := rfl
    have x4 : Z0 (24 + 0) 4 = 0 := rfl
    have x5 : Z0 (24 + 0) 5 = -1 := rfl
    have x6 : Z0 (24 + 0) 6 = 0 := rfl
    have x7 : Z0 (24 + 0) 7 = 0 := rfl
    have f9 : ∀ j, Z0 (24 + 9) j = if (6 ≤ j ∧ j ≤ 9) ∨ j = 10 ∨ (11 ≤ j ∧ j ≤ 19) then -1 else 0 := fun j => by rw [e 9 (by omega) (by omega), s9]
    refine ⟨⟨rfl, rfl, rfl, rfl, rfl, rfl, rfl, rfl, rfl⟩, ?_, fun _ => ⟨x7, x4⟩, ?_, ?_, ?_, ?_, ?_, fun y a b => ?_, fun c a b => ?_, fun r a b => ?_, fun i a b => ?_, ⟨?_, ?_, ?_⟩, fun i a b => ?_⟩
    · refine ⟨.inl ⟨rfl, rfl, rfl⟩, by decide, by decide, by decide, .inl rfl, fun y a b => ?_, fun c a b => ?_, fun r a b => ?_⟩
      · change y < Z0 (24 + 1) 2 at b; omega
      · have : Z0 (24 + (1 + 3)) c = -1 := by rw [show (1 + 3 : Int) = 4 by omega, e 4 (by omega) (by omega), s4 c a b]
        change -1 ≤ Z0 (24 + (1 + 3)) c ∧ Z0 (24 + (1 + 3)) c < Z0 (24 + 1) 2 ∧ (_ → Z0 (24 + (1 + 3)) c = -1)
        omega
      · change r < Z0 (24 + 1) 3 at b; omega
    · change -1 ≤ Z0 (24 + 0) 5 ∧ Z0 (24 + 0) 5 < Z0 11 3; omega
    · change 0 ≤ Z0 (24 + 0) 6 ∧ Z0 (24 + 0) 6 < 2147483648; omega
    · change 0 ≤ Z0 (24 + 0) 7 ∧ Z0 (24 + 0) 7 ≤ 10; omega
    · change 0 ≤ Z0 (24 + 0) 4 ∧ Z0 (24 + 0) 4 ≤ 20; omega
    · change 0 ≤ Z0 (24 + 0) 3 ∧ Z0 (24 + 0) 3 < 20; omega
    · change y < Z0 (24 + 1) 2 at b; omega
    · change c < Z0 (24 + 1) 0 at b; omega
    · change r < Z0 (24 + 1) 3 at b; omega
    · change i < Z0 (24 + 0) 7 at b; omega
    · refine ⟨rfl, rfl, rfl, rfl, fun y a b => ?_, fun r a b u => absurd v0 u, fun c a b => ?_⟩
      · change Z0 (24 + 9) (3 + y) = Z0 130 y
        rw [z 130 y (by omega), f9, if_neg (by omega)]
      · change c < Z0 (24 + 1) 0 at b; omega
    · have g : ∀ j, ¬ ((6 ≤ j ∧ j ≤ 9) ∨ j = 10 ∨ (11 ≤ j ∧ j ≤ 19)) → Z0 (24 + 9) j = 0 := fun j u => by rw [f9, if_neg u]
      have g1 : ∀ j, ((6 ≤ j ∧ j ≤ 9) ∨ j = 10 ∨ (11 ≤ j ∧ j ≤ 19)) → Z0 (24 + 9) j = -1 := fun j u => by rw [f9, if_pos u]
      refine ⟨by decide, by decide, by decide, by decide, by decide, fun y a b => ?_, .inl rfl, fun c a b => ?_⟩
      · change 0 ≤ Z0 (24 + 9) (3 + y) ∧ Z0 (24 + 9) (3 + y) ≤ 99
        rw [g _ (by omega)]; omega
      · have h1 := g1 (11 + c) (by omega)
        have h2 := g (20 + c) (by omega)
        have h3 := g (29 + c) (by omega)
        have h4 := g (38 + c) (by omega)
        simp only [h1, h2, h3, h4, v0, v2]
        exact ⟨by decide, by decide, by decide, by decide, fun _ => by decide, fun _ => by decide⟩
    · decide
    · change i < Z0 (24 + 0) 4 at b; omega
  · rw [Z_0 _ _ (by omega)]; rfl
  · exact absurd (w k a b) (by omega)
  · have : Z0 11 3 = 0 := rfl
    omega
  · intro y a b
    have z : ∀ i j, 126 ≤ i → Z0 i j = 0 := Z_0
    simp only [z 132 _ (by omega), z 133 _ (by omega), z 142 _ (by omega), z 143 _ (by omega), z 164 _ (by omega)]
    exact ⟨by decide, by decide, by decide, by decide, fun k _ _ => by decide⟩
  · intro c a b
    have z : ∀ i j, 126 ≤ i → Z0 i j = 0 := Z_0
    simp only [z 139 _ (by omega), z 164 _ (by omega)]
    exact ⟨by decide, fun k _ _ => by decide⟩
theorem Z_zr (k j : Int) (hk : 124 ≤ k) : C0 k j = 0 := by unfold C0; exact td_z3 _ _ 124 (by omega) k j hk
set_option maxRecDepth 100000 in
set_option maxHeartbeats 4000000 in
theorem Z_init : ax_Ev 40 112 0 (ax_ex [(2, 0)] ++ (ax_pm 112).2.2.2) [] ([(11, ax_nf 11, List.replicate (ax_nf 11) (-1))], ax_zr (fun _ _ => 0) 0) (fun r H2 => r = (9, 0) ∧ ax_cd H2.1 0 = 11 ∧ (H2.1.length : Int) = 124 ∧
    ax_Ev 40 152 0 (ax_ex [(2, 124)] ++ (ax_pm 152).2.2.2) [] (H2.1 ++ [(12, ax_nf 12, List.replicate (ax_nf 12) (-1))], ax_zr H2.2 H2.1.length) (fun r2 H4 => r2 = (9, 0) ∧ Inv H4)) := by
  have e1 : ax_ex [(2, 0)] ++ (ax_pm 112).2.2.2 = [(2, 0), (9, 0)] := by simp only [ly_pm]; rfl
  have e2 : ax_ex [(2, 124)] ++ (ax_pm 152).2.2.2 = [(2, 124)] := by simp only [ly_pm]; rfl
  have e3 : ax_zr (fun _ _ => 0) 0 = z0 := zr0 0
  rw [e1, e2, e3]
  refine i_class (d := 35) ⟨rfl, rfl, rfl, ?_⟩
  have e4 : ax_zr C0 (L1.length : Int) = C0 := td_z2 _ _ _ (by decide)
  rw [e4]
  refine i_model (L := L1) (o := 124) (h := C0) rfl Z_zr ⟨rfl, ?_, ?_⟩
  · show L1 ++ mdB 124 = L0
    rw [md_L2]; rfl
  · exact Z_iv
