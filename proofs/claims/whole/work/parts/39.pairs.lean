/-- one call on both sides -/
def iv_ok (mX mM : Nat) (as : List Int) (h : Int → Int → Int) : Prop := ax_Ev 40 mX 0 (ax_ex ((2, 0) :: as.map fun a => (0, a)) ++ (ax_pm mX).2.2.2) [] (L0, h) (fun r H1 => ax_Ev 40 mM 0 (ax_ex ((2, 124) :: as.map fun a => (0, a)) ++ (ax_pm mM).2.2.2) [] H1 (fun r2 H2 => r2 = r ∧ r.1 = 0 ∧ Inv H2))
theorem iv_p0 {mX mM : Nat} (k : ∀ h, iv_h h → iv_ok mX mM [] h) : lw_pair Inv 0 124 0 mX mM := by
  rintro ⟨L, g⟩ as h1 h2 ⟨h3, h4⟩
  cases h3
  match as, h1 with
  | [], _ => exact k g h4
theorem iv_p1 {mX mM : Nat} (k : ∀ h x, ax_r32 x → iv_h h → iv_ok mX mM [x] h) : lw_pair Inv 0 124 1 mX mM := by
  rintro ⟨L, g⟩ as h1 h2 ⟨h3, h4⟩
  cases h3
  match as, h1 with
  | [x], _ => exact k g x (h2 x (by simp)) h4
theorem iv_p2 {mX mM : Nat} (k : ∀ h x y, ax_r32 x → ax_r32 y → iv_h h → iv_ok mX mM [x, y] h) : lw_pair Inv 0 124 2 mX mM := by
  rintro ⟨L, g⟩ as h1 h2 ⟨h3, h4⟩
  cases h3
  match as, h1 with
  | [x, y], _ => exact k g x y (h2 x (by simp)) (h2 y (by simp)) h4
theorem iv_p3 {mX mM : Nat} (k : ∀ h x y z, ax_r32 x → ax_r32 y → ax_r32 z → iv_h h → iv_ok mX mM [x, y, z] h) : lw_pair Inv 0 124 3 mX mM := by
  rintro ⟨L, g⟩ as h1 h2 ⟨h3, h4⟩
  cases h3
  match as, h1 with
  | [x, y, z], _ => exact k g x y z (h2 x (by simp)) (h2 y (by simp)) (h2 z (by simp)) h4
theorem iv_p4 {mX mM : Nat} (k : ∀ h x y z u, ax_r32 x → ax_r32 y → ax_r32 z → ax_r32 u → iv_h h → iv_ok mX mM [x, y, z, u] h) : lw_pair Inv 0 124 4 mX mM := by
  rintro ⟨L, g⟩ as h1 h2 ⟨h3, h4⟩
  cases h3
  match as, h1 with
  | [x, y, z, u], _ => exact k g x y z u (h2 x (by simp)) (h2 y (by simp)) (h2 z (by simp)) (h2 u (by simp)) h4
theorem iv_p5 {mX mM : Nat} (k : ∀ h x y z u v, ax_r32 x → ax_r32 y → ax_r32 z → ax_r32 u → ax_r32 v → iv_h h → iv_ok mX mM [x, y, z, u, v] h) : lw_pair Inv 0 124 5 mX mM := by
  rintro ⟨L, g⟩ as h1 h2 ⟨h3, h4⟩
  cases h3
  match as, h1 with
  | [x, y, z, u, v], _ => exact k g x y z u v (h2 x (by simp)) (h2 y (by simp)) (h2 z (by simp)) (h2 u (by simp)) (h2 v (by simp)) h4
