/-! WALKING BY REWRITING: ax_Ev d m pc ls st H Q: from this frame the method comes to its end, with an answer and a heap that Q holds of. Its rules are equations. -/
def ax_EvI (o : Option ax_I) (d m pc : Nat) (ls st : List ax_V) (H : ax_H) (Q : ax_V → ax_H → Prop) : Prop := ∃ (n : Nat) (r : ax_V) (H' : ax_H), ax_go n d m o pc ls st H = some (r, H') ∧ Q r H'
def ax_Ev (d m pc : Nat) (ls st : List ax_V) (H : ax_H) (Q : ax_V → ax_H → Prop) : Prop := ax_EvI (ax_C m pc) d m pc ls st H Q
/-- what comes behind a call -/
def ax_k (d m pc : Nat) (ls st : List ax_V) (Q : ax_V → ax_H → Prop) : ax_V → ax_H → Prop := fun r H => ax_Ev d m pc ls (ax_ps r st) H Q
theorem ax_go_mono : ∀ (n d m : Nat) (o : Option ax_I) (pc : Nat) (ls st : List ax_V) (H : ax_H) (q : ax_V × ax_H), ax_go n d m o pc ls st H = some q → ax_go (n + 1) d m o pc ls st H = some q := by
  intro n
  induction n with
  | zero => intro d m o pc ls st H q h; simp [ax_go] at h
  | succ n ih =>
    intro d m o pc ls st H q h
    match o, h with
    | none, h => simp [ax_go] at h
    | some (op, ops, v, len), h =>
      unfold ax_go at h ⊢
      by_cases h1 : op = 55
      · rw [if_pos h1] at h ⊢
        by_cases h2 : d = 0
        · rw [if_pos h2] at h; cases h
        · rw [if_neg h2] at h ⊢
          obtain ⟨a, ha, h⟩ := Option.bind_eq_some_iff.mp h
          obtain ⟨b, hb, h⟩ := Option.bind_eq_some_iff.mp h
          rw [ha, Option.bind_some, ih _ _ _ _ _ _ _ _ hb, Option.bind_some]
          exact ih _ _ _ _ _ _ _ _ h
      · rw [if_neg h1] at h ⊢
        by_cases h2 : 50 ≤ op ∧ op ≤ 54
        · rw [if_pos h2] at h ⊢; exact h
        · rw [if_neg h2] at h ⊢
          obtain ⟨a, ha, h⟩ := Option.bind_eq_some_iff.mp h
          rw [ha, Option.bind_some]
          exact ih _ _ _ _ _ _ _ _ h
theorem ax_go_le {n k d m : Nat} {o : Option ax_I} {pc : Nat} {ls st : List ax_V} {H : ax_H} {q : ax_V × ax_H} (hk : n ≤ k) (h : ax_go n d m o pc ls st H = some q) : ax_go k d m o pc ls st H = some q := by
  induction k with
  | zero => rw [show n = 0 by omega] at h; exact h
  | succ k ih =>
    by_cases e : n = k + 1
    · rw [← e]; exact h
    · exact ax_go_mono _ _ _ _ _ _ _ _ _ (ih (by omega))
theorem ax_ev (d m pc : Nat) (ls st : List ax_V) (H : ax_H) (Q : ax_V → ax_H → Prop) : ax_Ev d m pc ls st H Q = ax_EvI (ax_C m pc) d m pc ls st H Q := rfl
theorem ax_kk (d m pc : Nat) (ls st : List ax_V) (Q : ax_V → ax_H → Prop) (r : ax_V) (H : ax_H) : ax_k d m pc ls st Q r H = ax_Ev d m pc ls (ax_ps r st) H Q := rfl
theorem ax_step {op : Nat} {ops : List Nat} {v : Int} {len d m pc : Nat} {ls st : List ax_V} {H : ax_H} {Q : ax_V → ax_H → Prop} {pc' : Nat} {ls' st' : List ax_V} {H' : ax_H}
    (hs : op < 50 ∨ 55 < op) (h : ax_st op ops v len pc ls st H = some (pc', ls', st', H')) : ax_EvI (some (op, ops, v, len)) d m pc ls st H Q = ax_Ev d m pc' ls' st' H' Q := by
  apply propext
  constructor
  · rintro ⟨n, r, H1, hg, hq⟩
    match n, hg with
    | 0, hg => simp [ax_go] at hg
    | n + 1, hg =>
      unfold ax_go at hg
      rw [if_neg (by omega), if_neg (by omega), h] at hg
      exact ⟨n, r, H1, hg, hq⟩
  · rintro ⟨n, r, H1, hg, hq⟩
    refine ⟨n + 1, r, H1, ?_, hq⟩
    unfold ax_go
    rw [if_neg (by omega), if_neg (by omega), h]
    exact hg
theorem ax_retn {op : Nat} {ops : List Nat} {v : Int} {len d m pc : Nat} {ls st : List ax_V} {H : ax_H} {Q : ax_V → ax_H → Prop} {r : ax_V} (hs : 50 ≤ op ∧ op ≤ 54) (h : ax_rt op st = some r) :
    ax_EvI (some (op, ops, v, len)) d m pc ls st H Q = Q r H := by
  apply propext
  constructor
  · rintro ⟨n, r1, H1, hg, hq⟩
    match n, hg with
    | 0, hg => simp [ax_go] at hg
    | n + 1, hg =>
      unfold ax_go at hg
      rw [if_neg (by omega), if_pos hs, h] at hg
      cases hg
      exact hq
  · intro hq
    refine ⟨1, r, H, ?_, hq⟩
    unfold ax_go
    rw [if_neg (by omega), if_pos hs, h]
    rfl
theorem ax_call (mm kind : Nat) (v : Int) (len d m pc : Nat) (ls st : List ax_V) (H : ax_H) (Q : ax_V → ax_H → Prop) {ls' rest : List ax_V} (h : ax_ar (ax_pm mm) kind st H.1 = some (ls', rest)) :
    ax_EvI (some (55, [mm, kind], v, len)) (d + 1) m pc ls st H Q = ax_Ev d mm 0 ls' [] H (ax_k (d + 1) m (pc + len) ls rest Q) := by
  apply propext
  constructor
  · rintro ⟨n, r, H1, hg, hq⟩
    match n, hg with
    | 0, hg => simp [ax_go] at hg
    | n + 1, hg =>
      unfold ax_go at hg
      rw [if_pos rfl, if_neg (by omega)] at hg
      have h' : ax_ar (ax_pm ([mm, kind].headD 0)) ([mm, kind].getD 1 0) st H.1 = some (ls', rest) := h
      rw [h'] at hg
      change Option.bind (ax_go n d mm (ax_C mm 0) 0 ls' [] H) (fun r => ax_go n (d + 1) m (ax_C m (pc + len)) (pc + len) ls (ax_ps r.1 rest) r.2) = _ at hg
      obtain ⟨b, hb, hg⟩ := Option.bind_eq_some_iff.mp hg
      exact ⟨n, b.1, b.2, hb, ⟨n, r, H1, hg, hq⟩⟩
  · rintro ⟨n, r, H1, hg, k, r2, H2, hg2, hq⟩
    refine ⟨max n k + 1, r2, H2, ?_, hq⟩
    unfold ax_go
    rw [if_pos rfl, if_neg (by omega)]
    have h' : ax_ar (ax_pm ([mm, kind].headD 0)) ([mm, kind].getD 1 0) st H.1 = some (ls', rest) := h
    rw [h']
    change Option.bind (ax_go (max n k) d mm (ax_C mm 0) 0 ls' [] H) (fun r => ax_go (max n k) (d + 1) m (ax_C m (pc + len)) (pc + len) ls (ax_ps r.1 rest) r.2) = _
    rw [ax_go_le (Nat.le_max_left n k) hg]
    exact ax_go_le (Nat.le_max_right n k) hg2
theorem ax_r_const (v : Int) (l : Nat) (d m pc : Nat) (ls r : List ax_V) (H : ax_H) (Q : ax_V → ax_H → Prop) : ax_EvI (some (0, [], v, l)) d m pc ls (r) H Q = ax_Ev d m (pc + l) ls ((0, v) :: r) H Q := ax_step (by decide) rfl
theorem ax_r_lconst (v : Int) (l : Nat) (d m pc : Nat) (ls r : List ax_V) (H : ax_H) (Q : ax_V → ax_H → Prop) : ax_EvI (some (8, [], v, l)) d m pc ls (r) H Q = ax_Ev d m (pc + l) ls ((1, v) :: r) H Q := ax_step (by decide) rfl
theorem ax_r_str (v : Int) (l : Nat) (d m pc : Nat) (ls r : List ax_V) (H : ax_H) (Q : ax_V → ax_H → Prop) : ax_EvI (some (9, [], v, l)) d m pc ls (r) H Q = ax_Ev d m (pc + l) ls ((2, v) :: r) H Q := ax_step (by decide) rfl
theorem ax_r_iadd (v : Int) (l : Nat) (x y : Int) (d m pc : Nat) (ls r : List ax_V) (H : ax_H) (Q : ax_V → ax_H → Prop) : ax_EvI (some (24, [], v, l)) d m pc ls ((0, y) :: (0, x) :: r) H Q = ax_Ev d m (pc + l) ls ((0, ax_w32 (x + y)) :: r) H Q := ax_step (by decide) rfl
theorem ax_r_isub (v : Int) (l : Nat) (x y : Int) (d m pc : Nat) (ls r : List ax_V) (H : ax_H) (Q : ax_V → ax_H → Prop) : ax_EvI (some (25, [], v, l)) d m pc ls ((0, y) :: (0, x) :: r) H Q = ax_Ev d m (pc + l) ls ((0, ax_w32 (x - y)) :: r) H Q := ax_step (by decide) rfl
theorem ax_r_imul (v : Int) (l : Nat) (x y : Int) (d m pc : Nat) (ls r : List ax_V) (H : ax_H) (Q : ax_V → ax_H → Prop) : ax_EvI (some (26, [], v, l)) d m pc ls ((0, y) :: (0, x) :: r) H Q = ax_Ev d m (pc + l) ls ((0, ax_w32 (x * y)) :: r) H Q := ax_step (by decide) rfl
theorem ax_r_iand (v : Int) (l : Nat) (x y : Int) (d m pc : Nat) (ls r : List ax_V) (H : ax_H) (Q : ax_V → ax_H → Prop) : ax_EvI (some (29, [], v, l)) d m pc ls ((0, y) :: (0, x) :: r) H Q = ax_Ev d m (pc + l) ls ((0, ax_and x y) :: r) H Q := ax_step (by decide) rfl
theorem ax_r_ior (v : Int) (l : Nat) (x y : Int) (d m pc : Nat) (ls r : List ax_V) (H : ax_H) (Q : ax_V → ax_H → Prop) : ax_EvI (some (30, [], v, l)) d m pc ls ((0, y) :: (0, x) :: r) H Q = ax_Ev d m (pc + l) ls ((0, ax_or x y) :: r) H Q := ax_step (by decide) rfl
theorem ax_r_ishl (v : Int) (l : Nat) (x y : Int) (d m pc : Nat) (ls r : List ax_V) (H : ax_H) (Q : ax_V → ax_H → Prop) : ax_EvI (some (31, [], v, l)) d m pc ls ((0, y) :: (0, x) :: r) H Q = ax_Ev d m (pc + l) ls ((0, ax_shl x y) :: r) H Q := ax_step (by decide) rfl
theorem ax_r_ishr (v : Int) (l : Nat) (x y : Int) (d m pc : Nat) (ls r : List ax_V) (H : ax_H) (Q : ax_V → ax_H → Prop) : ax_EvI (some (32, [], v, l)) d m pc ls ((0, y) :: (0, x) :: r) H Q = ax_Ev d m (pc + l) ls ((0, ax_shr x y) :: r) H Q := ax_step (by decide) rfl
theorem ax_r_iushr (v : Int) (l : Nat) (x y : Int) (d m pc : Nat) (ls r : List ax_V) (H : ax_H) (Q : ax_V → ax_H → Prop) : ax_EvI (some (33, [], v, l)) d m pc ls ((0, y) :: (0, x) :: r) H Q = ax_Ev d m (pc + l) ls ((0, ax_ushr x y) :: r) H Q := ax_step (by decide) rfl
theorem ax_r_idiv (v : Int) (l : Nat) (x y : Int) (d m pc : Nat) (ls r : List ax_V) (H : ax_H) (Q : ax_V → ax_H → Prop) : ax_EvI (some (27, [], v, l)) d m pc ls ((0, y) :: (0, x) :: r) H Q = (y ≠ 0 ∧ ax_Ev d m (pc + l) ls ((0, ax_w32 (x.tdiv y)) :: r) H Q) := by
  by_cases h : y = 0
  · subst h; apply propext; constructor
    · rintro ⟨n, q, H1, hg, -⟩; match n, hg with
      | 0, hg => simp [ax_go] at hg
      | n + 1, hg => simp [ax_go, ax_st, ax_pp, ax_b32] at hg
    · rintro ⟨h, -⟩; exact absurd rfl h
  · rw [ax_step (by decide) (show ax_st 27 [] v l pc ls ((0, y) :: (0, x) :: r) H = some (pc + l, ls, (0, ax_w32 (x.tdiv y)) :: r, H) by simp [ax_st, ax_pp, ax_b32, h])]; simp [h]
theorem ax_r_irem (v : Int) (l : Nat) (x y : Int) (d m pc : Nat) (ls r : List ax_V) (H : ax_H) (Q : ax_V → ax_H → Prop) : ax_EvI (some (28, [], v, l)) d m pc ls ((0, y) :: (0, x) :: r) H Q = (y ≠ 0 ∧ ax_Ev d m (pc + l) ls ((0, x.tmod y) :: r) H Q) := by
  by_cases h : y = 0
  · subst h; apply propext; constructor
    · rintro ⟨n, q, H1, hg, -⟩; match n, hg with
      | 0, hg => simp [ax_go] at hg
      | n + 1, hg => simp [ax_go, ax_st, ax_pp, ax_b32] at hg
    · rintro ⟨h, -⟩; exact absurd rfl h
  · rw [ax_step (by decide) (show ax_st 28 [] v l pc ls ((0, y) :: (0, x) :: r) H = some (pc + l, ls, (0, x.tmod y) :: r, H) by simp [ax_st, ax_pp, ax_b32, h])]; simp [h]
theorem ax_r_i2l (v : Int) (l : Nat) (x : Int) (d m pc : Nat) (ls r : List ax_V) (H : ax_H) (Q : ax_V → ax_H → Prop) : ax_EvI (some (34, [], v, l)) d m pc ls ((0, x) :: r) H Q = ax_Ev d m (pc + l) ls ((1, x) :: r) H Q := ax_step (by decide) rfl
theorem ax_r_l2i (v : Int) (l : Nat) (x : Int) (d m pc : Nat) (ls r : List ax_V) (H : ax_H) (Q : ax_V → ax_H → Prop) : ax_EvI (some (35, [], v, l)) d m pc ls ((1, x) :: r) H Q = ax_Ev d m (pc + l) ls ((0, ax_w32 x) :: r) H Q := ax_step (by decide) rfl
theorem ax_r_i2b (v : Int) (l : Nat) (x : Int) (d m pc : Nat) (ls r : List ax_V) (H : ax_H) (Q : ax_V → ax_H → Prop) : ax_EvI (some (36, [], v, l)) d m pc ls ((0, x) :: r) H Q = ax_Ev d m (pc + l) ls ((0, ax_w8 x) :: r) H Q := ax_step (by decide) rfl
theorem ax_r_ladd (v : Int) (l : Nat) (x y : Int) (d m pc : Nat) (ls r : List ax_V) (H : ax_H) (Q : ax_V → ax_H → Prop) : ax_EvI (some (37, [], v, l)) d m pc ls ((1, y) :: (1, x) :: r) H Q = ax_Ev d m (pc + l) ls ((1, ax_w64 (x + y)) :: r) H Q := ax_step (by decide) rfl
theorem ax_r_lsub (v : Int) (l : Nat) (x y : Int) (d m pc : Nat) (ls r : List ax_V) (H : ax_H) (Q : ax_V → ax_H → Prop) : ax_EvI (some (38, [], v, l)) d m pc ls ((1, y) :: (1, x) :: r) H Q = ax_Ev d m (pc + l) ls ((1, ax_w64 (x - y)) :: r) H Q := ax_step (by decide) rfl
theorem ax_r_lmul (v : Int) (l : Nat) (x y : Int) (d m pc : Nat) (ls r : List ax_V) (H : ax_H) (Q : ax_V → ax_H → Prop) : ax_EvI (some (39, [], v, l)) d m pc ls ((1, y) :: (1, x) :: r) H Q = ax_Ev d m (pc + l) ls ((1, ax_w64 (x * y)) :: r) H Q := ax_step (by decide) rfl
theorem ax_r_land (v : Int) (l : Nat) (x y : Int) (d m pc : Nat) (ls r : List ax_V) (H : ax_H) (Q : ax_V → ax_H → Prop) : ax_EvI (some (42, [], v, l)) d m pc ls ((1, y) :: (1, x) :: r) H Q = ax_Ev d m (pc + l) ls ((1, ax_landl x y) :: r) H Q := ax_step (by decide) rfl
theorem ax_r_lor (v : Int) (l : Nat) (x y : Int) (d m pc : Nat) (ls r : List ax_V) (H : ax_H) (Q : ax_V → ax_H → Prop) : ax_EvI (some (43, [], v, l)) d m pc ls ((1, y) :: (1, x) :: r) H Q = ax_Ev d m (pc + l) ls ((1, ax_lorl x y) :: r) H Q := ax_step (by decide) rfl
theorem ax_r_ldiv (v : Int) (l : Nat) (x y : Int) (d m pc : Nat) (ls r : List ax_V) (H : ax_H) (Q : ax_V → ax_H → Prop) (h : y ≠ 0) : ax_EvI (some (40, [], v, l)) d m pc ls ((1, y) :: (1, x) :: r) H Q = ax_Ev d m (pc + l) ls ((1, ax_w64 (x.tdiv y)) :: r) H Q := ax_step (by decide) (by simp [ax_st, ax_pp, ax_b64, h])
theorem ax_r_lrem (v : Int) (l : Nat) (x y : Int) (d m pc : Nat) (ls r : List ax_V) (H : ax_H) (Q : ax_V → ax_H → Prop) (h : y ≠ 0) : ax_EvI (some (41, [], v, l)) d m pc ls ((1, y) :: (1, x) :: r) H Q = ax_Ev d m (pc + l) ls ((1, x.tmod y) :: r) H Q := ax_step (by decide) (by simp [ax_st, ax_pp, ax_b64, h])
theorem ax_r_lcmp (v : Int) (l : Nat) (x y : Int) (d m pc : Nat) (ls r : List ax_V) (H : ax_H) (Q : ax_V → ax_H → Prop) : ax_EvI (some (44, [], v, l)) d m pc ls ((1, y) :: (1, x) :: r) H Q = ax_Ev d m (pc + l) ls ((0, ax_lcmp x y) :: r) H Q := ax_step (by decide) rfl
theorem ax_r_ifeq (t : Nat) (v : Int) (l : Nat) (x : Int) (d m pc : Nat) (ls r : List ax_V) (H : ax_H) (Q : ax_V → ax_H → Prop) : ax_EvI (some (45, [0, t], v, l)) d m pc ls ((0, x) :: r) H Q = if x = 0 then ax_Ev d m t ls r H Q else ax_Ev d m (pc + l) ls r H Q := by
  by_cases h : x = 0
  · rw [if_pos h]; exact ax_step (by decide) (by simp [ax_st, ax_pp, ax_cb, h])
  · rw [if_neg h]; exact ax_step (by decide) (by simp [ax_st, ax_pp, ax_cb, h])
theorem ax_r_iceq (t : Nat) (v : Int) (l : Nat) (x y : Int) (d m pc : Nat) (ls r : List ax_V) (H : ax_H) (Q : ax_V → ax_H → Prop) : ax_EvI (some (46, [0, t], v, l)) d m pc ls ((0, y) :: (0, x) :: r) H Q = if x = y then ax_Ev d m t ls r H Q else ax_Ev d m (pc + l) ls r H Q := by
  by_cases h : x = y
  · rw [if_pos h]; exact ax_step (by decide) (by simp [ax_st, ax_pp, ax_cb, h])
  · rw [if_neg h]; exact ax_step (by decide) (by simp [ax_st, ax_pp, ax_cb, h])
theorem ax_r_ifne (t : Nat) (v : Int) (l : Nat) (x : Int) (d m pc : Nat) (ls r : List ax_V) (H : ax_H) (Q : ax_V → ax_H → Prop) : ax_EvI (some (45, [1, t], v, l)) d m pc ls ((0, x) :: r) H Q = if x ≠ 0 then ax_Ev d m t ls r H Q else ax_Ev d m (pc + l) ls r H Q := by
  by_cases h : x ≠ 0
  · rw [if_pos h]; exact ax_step (by decide) (by simp [ax_st, ax_pp, ax_cb, h])
  · rw [if_neg h]; exact ax_step (by decide) (by simp [ax_st, ax_pp, ax_cb, h])
theorem ax_r_icne (t : Nat) (v : Int) (l : Nat) (x y : Int) (d m pc : Nat) (ls r : List ax_V) (H : ax_H) (Q : ax_V → ax_H → Prop) : ax_EvI (some (46, [1, t], v, l)) d m pc ls ((0, y) :: (0, x) :: r) H Q = if x ≠ y then ax_Ev d m t ls r H Q else ax_Ev d m (pc + l) ls r H Q := by
  by_cases h : x ≠ y
  · rw [if_pos h]; exact ax_step (by decide) (by simp [ax_st, ax_pp, ax_cb, h])
  · rw [if_neg h]; exact ax_step (by decide) (by simp [ax_st, ax_pp, ax_cb, h])
theorem ax_r_iflt (t : Nat) (v : Int) (l : Nat) (x : Int) (d m pc : Nat) (ls r : List ax_V) (H : ax_H) (Q : ax_V → ax_H → Prop) : ax_EvI (some (45, [2, t], v, l)) d m pc ls ((0, x) :: r) H Q = if x < 0 then ax_Ev d m t ls r H Q else ax_Ev d m (pc + l) ls r H Q := by
  by_cases h : x < 0
  · rw [if_pos h]; exact ax_step (by decide) (by simp [ax_st, ax_pp, ax_cb, h])
  · rw [if_neg h]; exact ax_step (by decide) (by simp [ax_st, ax_pp, ax_cb, h])
theorem ax_r_iclt (t : Nat) (v : Int) (l : Nat) (x y : Int) (d m pc : Nat) (ls r : List ax_V) (H : ax_H) (Q : ax_V → ax_H → Prop) : ax_EvI (some (46, [2, t], v, l)) d m pc ls ((0, y) :: (0, x) :: r) H Q = if x < y then ax_Ev d m t ls r H Q else ax_Ev d m (pc + l) ls r H Q := by
  by_cases h : x < y
  · rw [if_pos h]; exact ax_step (by decide) (by simp [ax_st, ax_pp, ax_cb, h])
  · rw [if_neg h]; exact ax_step (by decide) (by simp [ax_st, ax_pp, ax_cb, h])
theorem ax_r_ifge (t : Nat) (v : Int) (l : Nat) (x : Int) (d m pc : Nat) (ls r : List ax_V) (H : ax_H) (Q : ax_V → ax_H → Prop) : ax_EvI (some (45, [3, t], v, l)) d m pc ls ((0, x) :: r) H Q = if 0 ≤ x then ax_Ev d m t ls r H Q else ax_Ev d m (pc + l) ls r H Q := by
  by_cases h : 0 ≤ x
  · rw [if_pos h]; exact ax_step (by decide) (by simp [ax_st, ax_pp, ax_cb, h])
  · rw [if_neg h]; exact ax_step (by decide) (by simp [ax_st, ax_pp, ax_cb, h])
theorem ax_r_icge (t : Nat) (v : Int) (l : Nat) (x y : Int) (d m pc : Nat) (ls r : List ax_V) (H : ax_H) (Q : ax_V → ax_H → Prop) : ax_EvI (some (46, [3, t], v, l)) d m pc ls ((0, y) :: (0, x) :: r) H Q = if y ≤ x then ax_Ev d m t ls r H Q else ax_Ev d m (pc + l) ls r H Q := by
  by_cases h : y ≤ x
  · rw [if_pos h]; exact ax_step (by decide) (by simp [ax_st, ax_pp, ax_cb, h])
  · rw [if_neg h]; exact ax_step (by decide) (by simp [ax_st, ax_pp, ax_cb, h])
theorem ax_r_ifgt (t : Nat) (v : Int) (l : Nat) (x : Int) (d m pc : Nat) (ls r : List ax_V) (H : ax_H) (Q : ax_V → ax_H → Prop) : ax_EvI (some (45, [4, t], v, l)) d m pc ls ((0, x) :: r) H Q = if 0 < x then ax_Ev d m t ls r H Q else ax_Ev d m (pc + l) ls r H Q := by
  by_cases h : 0 < x
  · rw [if_pos h]; exact ax_step (by decide) (by simp [ax_st, ax_pp, ax_cb, h])
  · rw [if_neg h]; exact ax_step (by decide) (by simp [ax_st, ax_pp, ax_cb, h])
theorem ax_r_icgt (t : Nat) (v : Int) (l : Nat) (x y : Int) (d m pc : Nat) (ls r : List ax_V) (H : ax_H) (Q : ax_V → ax_H → Prop) : ax_EvI (some (46, [4, t], v, l)) d m pc ls ((0, y) :: (0, x) :: r) H Q = if y < x then ax_Ev d m t ls r H Q else ax_Ev d m (pc + l) ls r H Q := by
  by_cases h : y < x
  · rw [if_pos h]; exact ax_step (by decide) (by simp [ax_st, ax_pp, ax_cb, h])
  · rw [if_neg h]; exact ax_step (by decide) (by simp [ax_st, ax_pp, ax_cb, h])
theorem ax_r_ifle (t : Nat) (v : Int) (l : Nat) (x : Int) (d m pc : Nat) (ls r : List ax_V) (H : ax_H) (Q : ax_V → ax_H → Prop) : ax_EvI (some (45, [5, t], v, l)) d m pc ls ((0, x) :: r) H Q = if x ≤ 0 then ax_Ev d m t ls r H Q else ax_Ev d m (pc + l) ls r H Q := by
  by_cases h : x ≤ 0
  · rw [if_pos h]; exact ax_step (by decide) (by simp [ax_st, ax_pp, ax_cb, h])
  · rw [if_neg h]; exact ax_step (by decide) (by simp [ax_st, ax_pp, ax_cb, h])
theorem ax_r_icle (t : Nat) (v : Int) (l : Nat) (x y : Int) (d m pc : Nat) (ls r : List ax_V) (H : ax_H) (Q : ax_V → ax_H → Prop) : ax_EvI (some (46, [5, t], v, l)) d m pc ls ((0, y) :: (0, x) :: r) H Q = if x ≤ y then ax_Ev d m t ls r H Q else ax_Ev d m (pc + l) ls r H Q := by
  by_cases h : x ≤ y
  · rw [if_pos h]; exact ax_step (by decide) (by simp [ax_st, ax_pp, ax_cb, h])
  · rw [if_neg h]; exact ax_step (by decide) (by simp [ax_st, ax_pp, ax_cb, h])
theorem ax_r_goto (t : Nat) (v : Int) (l : Nat) (d m pc : Nat) (ls r : List ax_V) (H : ax_H) (Q : ax_V → ax_H → Prop) : ax_EvI (some (47, [t], v, l)) d m pc ls (r) H Q = ax_Ev d m (t) ls (r) H Q := ax_step (by decide) rfl
/-- the places of a switch, one after the other -/
def ax_EvT (t : Nat) (us : List Nat) (lo x : Int) (d m : Nat) (ls r : List ax_V) (H : ax_H) (Q : ax_V → ax_H → Prop) : Prop := ax_Ev d m (ax_tsw t us lo x) ls r H Q
theorem ax_evt_n (t : Nat) (lo x : Int) (d m : Nat) (ls r : List ax_V) (H : ax_H) (Q : ax_V → ax_H → Prop) : ax_EvT t [] lo x d m ls r H Q = ax_Ev d m t ls r H Q := rfl
theorem ax_evt_c (t u : Nat) (us : List Nat) (lo x : Int) (d m : Nat) (ls r : List ax_V) (H : ax_H) (Q : ax_V → ax_H → Prop) : ax_EvT t (u :: us) lo x d m ls r H Q = if x = lo then ax_Ev d m u ls r H Q else ax_EvT t us (lo + 1) x d m ls r H Q := by
  unfold ax_EvT; rw [ax_tsw]; split <;> rfl
theorem ax_r_tsw (t : Nat) (us : List Nat) (v : Int) (l : Nat) (x : Int) (d m pc : Nat) (ls r : List ax_V) (H : ax_H) (Q : ax_V → ax_H → Prop) : ax_EvI (some (48, t :: us, v, l)) d m pc ls ((0, x) :: r) H Q = ax_EvT t us v x d m ls r H Q := ax_step (by decide) rfl
def ax_EvU (t : Nat) (us : List Nat) (x : Int) (d m : Nat) (ls r : List ax_V) (H : ax_H) (Q : ax_V → ax_H → Prop) : Prop := ax_Ev d m (ax_lsw t us x) ls r H Q
theorem ax_evu_n (t : Nat) (x : Int) (d m : Nat) (ls r : List ax_V) (H : ax_H) (Q : ax_V → ax_H → Prop) : ax_EvU t [] x d m ls r H Q = ax_Ev d m t ls r H Q := rfl
theorem ax_evu_c (t k u : Nat) (us : List Nat) (x : Int) (d m : Nat) (ls r : List ax_V) (H : ax_H) (Q : ax_V → ax_H → Prop) : ax_EvU t (k :: u :: us) x d m ls r H Q = if x = (k : Int) then ax_Ev d m u ls r H Q else ax_EvU t us x d m ls r H Q := by
  unfold ax_EvU; rw [ax_lsw]; split <;> rfl
theorem ax_r_lsw (t : Nat) (us : List Nat) (v : Int) (l : Nat) (x : Int) (d m pc : Nat) (ls r : List ax_V) (H : ax_H) (Q : ax_V → ax_H → Prop) : ax_EvI (some (49, t :: us, v, l)) d m pc ls ((0, x) :: r) H Q = ax_EvU t us x d m ls r H Q := ax_step (by decide) rfl
theorem ax_stepc {P : Prop} {op : Nat} {ops : List Nat} {v : Int} {len d m pc : Nat} {ls st : List ax_V} {H : ax_H} {Q : ax_V → ax_H → Prop} {pc' : Nat} {ls' st' : List ax_V} {H' : ax_H}
    (hs : op < 50 ∨ 55 < op) (h : P → ax_st op ops v len pc ls st H = some (pc', ls', st', H')) (hn : ¬ P → ax_st op ops v len pc ls st H = none) : ax_EvI (some (op, ops, v, len)) d m pc ls st H Q = (P ∧ ax_Ev d m pc' ls' st' H' Q) := by
  by_cases hp : P
  · rw [ax_step hs (h hp)]; simp [hp]
  · apply propext
    constructor
    · rintro ⟨n, r, H1, hg, -⟩
      match n, hg with
      | 0, hg => simp [ax_go] at hg
      | n + 1, hg =>
        unfold ax_go at hg
        rw [if_neg (by omega), if_neg (by omega), hn hp] at hg
        cases hg
    · rintro ⟨h, -⟩; exact absurd h hp
theorem ax_r_getI (c : Nat) (v : Int) (l : Nat) (o : Int) (d m pc : Nat) (ls r : List ax_V) (L : ax_L) (h : Int → Int → Int) (Q : ax_V → ax_H → Prop) : ax_EvI (some (10, [c], v, l)) d m pc ls ((2, o) :: r) (L, h) Q = (ax_cd L o = c ∧ ax_Ev d m (pc + l) ls ((0, h o v) :: r) (L, h) Q) := ax_stepc (by decide) (fun q => by simp [ax_st, ax_pp, ax_mem, ax_in, q]) (fun q => by simp [ax_st, ax_pp, ax_mem, ax_in]; try (simpa using q))
theorem ax_r_getR (c : Nat) (v : Int) (l : Nat) (o : Int) (d m pc : Nat) (ls r : List ax_V) (L : ax_L) (h : Int → Int → Int) (Q : ax_V → ax_H → Prop) : ax_EvI (some (11, [c], v, l)) d m pc ls ((2, o) :: r) (L, h) Q = (ax_cd L o = c ∧ ax_Ev d m (pc + l) ls ((2, ax_rf L o v) :: r) (L, h) Q) := ax_stepc (by decide) (fun q => by simp [ax_st, ax_pp, ax_mem, ax_in, q]) (fun q => by simp [ax_st, ax_pp, ax_mem, ax_in]; try (simpa using q))
theorem ax_r_putI (c : Nat) (v : Int) (l : Nat) (o x : Int) (d m pc : Nat) (ls r : List ax_V) (L : ax_L) (h : Int → Int → Int) (Q : ax_V → ax_H → Prop) : ax_EvI (some (12, [c], v, l)) d m pc ls ((0, x) :: (2, o) :: r) (L, h) Q = (ax_cd L o = c ∧ ax_Ev d m (pc + l) ls (r) (L, ax_up h o v x) Q) := ax_stepc (by decide) (fun q => by simp [ax_st, ax_pp, ax_mem, ax_in, q]) (fun q => by simp [ax_st, ax_pp, ax_mem, ax_in]; try (simpa using q))
theorem ax_r_putZ (c : Nat) (v : Int) (l : Nat) (o x : Int) (d m pc : Nat) (ls r : List ax_V) (L : ax_L) (h : Int → Int → Int) (Q : ax_V → ax_H → Prop) : ax_EvI (some (13, [c], v, l)) d m pc ls ((0, x) :: (2, o) :: r) (L, h) Q = ((ax_cd L o = c ∧ (x = 0 ∨ x = 1)) ∧ ax_Ev d m (pc + l) ls (r) (L, ax_up h o v x) Q) := ax_stepc (by decide) (fun q => by simp [ax_st, ax_pp, ax_mem, ax_in, q]) (fun q => by simp [ax_st, ax_pp, ax_mem, ax_in]; try (simpa using q))
theorem ax_r_iald (v : Int) (l : Nat) (a i : Int) (d m pc : Nat) (ls r : List ax_V) (L : ax_L) (h : Int → Int → Int) (Q : ax_V → ax_H → Prop) : ax_EvI (some (15, [], v, l)) d m pc ls ((0, i) :: (2, a) :: r) (L, h) Q = ((ax_cd L a = 100 ∧ 0 ≤ i ∧ i < ax_ln L a) ∧ ax_Ev d m (pc + l) ls ((0, h a i) :: r) (L, h) Q) := ax_stepc (by decide) (fun q => by simp [ax_st, ax_pp, ax_mem, ax_in, q]) (fun q => by simp [ax_st, ax_pp, ax_mem, ax_in]; try (simpa using q))
theorem ax_r_iast (v : Int) (l : Nat) (a i x : Int) (d m pc : Nat) (ls r : List ax_V) (L : ax_L) (h : Int → Int → Int) (Q : ax_V → ax_H → Prop) : ax_EvI (some (16, [], v, l)) d m pc ls ((0, x) :: (0, i) :: (2, a) :: r) (L, h) Q = ((ax_cd L a = 100 ∧ 0 ≤ i ∧ i < ax_ln L a) ∧ ax_Ev d m (pc + l) ls (r) (L, ax_up h a i x) Q) := ax_stepc (by decide) (fun q => by simp [ax_st, ax_pp, ax_mem, ax_in, q]) (fun q => by simp [ax_st, ax_pp, ax_mem, ax_in]; try (simpa using q))
theorem ax_r_lald (v : Int) (l : Nat) (a i : Int) (d m pc : Nat) (ls r : List ax_V) (L : ax_L) (h : Int → Int → Int) (Q : ax_V → ax_H → Prop) : ax_EvI (some (17, [], v, l)) d m pc ls ((0, i) :: (2, a) :: r) (L, h) Q = ((ax_cd L a = 101 ∧ 0 ≤ i ∧ i < ax_ln L a) ∧ ax_Ev d m (pc + l) ls ((1, h a i) :: r) (L, h) Q) := ax_stepc (by decide) (fun q => by simp [ax_st, ax_pp, ax_mem, ax_in, q]) (fun q => by simp [ax_st, ax_pp, ax_mem, ax_in]; try (simpa using q))
theorem ax_r_last (v : Int) (l : Nat) (a i x : Int) (d m pc : Nat) (ls r : List ax_V) (L : ax_L) (h : Int → Int → Int) (Q : ax_V → ax_H → Prop) : ax_EvI (some (18, [], v, l)) d m pc ls ((1, x) :: (0, i) :: (2, a) :: r) (L, h) Q = ((ax_cd L a = 101 ∧ 0 ≤ i ∧ i < ax_ln L a) ∧ ax_Ev d m (pc + l) ls (r) (L, ax_up h a i x) Q) := ax_stepc (by decide) (fun q => by simp [ax_st, ax_pp, ax_mem, ax_in, q]) (fun q => by simp [ax_st, ax_pp, ax_mem, ax_in]; try (simpa using q))
theorem ax_r_bald (v : Int) (l : Nat) (a i : Int) (d m pc : Nat) (ls r : List ax_V) (L : ax_L) (h : Int → Int → Int) (Q : ax_V → ax_H → Prop) : ax_EvI (some (19, [], v, l)) d m pc ls ((0, i) :: (2, a) :: r) (L, h) Q = (((ax_cd L a = 102 ∨ ax_cd L a = 103) ∧ 0 ≤ i ∧ i < ax_ln L a) ∧ ax_Ev d m (pc + l) ls ((0, h a i) :: r) (L, h) Q) := ax_stepc (by decide) (fun q => by simp [ax_st, ax_pp, ax_mem, ax_in, q]) (fun q => by simp [ax_st, ax_pp, ax_mem, ax_in]; try (simpa using q))
theorem ax_r_aald (v : Int) (l : Nat) (a i : Int) (d m pc : Nat) (ls r : List ax_V) (L : ax_L) (h : Int → Int → Int) (Q : ax_V → ax_H → Prop) : ax_EvI (some (21, [], v, l)) d m pc ls ((0, i) :: (2, a) :: r) (L, h) Q = (((110 ≤ ax_cd L a ∧ ax_cd L a ≤ 112) ∧ 0 ≤ i ∧ i < ax_ln L a) ∧ ax_Ev d m (pc + l) ls ((2, ax_rf L a i) :: r) (L, h) Q) := ax_stepc (by decide) (fun q => by simp [ax_st, ax_pp, ax_mem, ax_in, q]) (fun q => by simp [ax_st, ax_pp, ax_mem, ax_in]; try (simpa using q))
theorem ax_r_alen (v : Int) (l : Nat) (a : Int) (d m pc : Nat) (ls r : List ax_V) (L : ax_L) (h : Int → Int → Int) (Q : ax_V → ax_H → Prop) : ax_EvI (some (23, [], v, l)) d m pc ls ((2, a) :: r) (L, h) Q = ((100 ≤ ax_cd L a ∧ ax_cd L a ≤ 112) ∧ ax_Ev d m (pc + l) ls ((0, ax_ln L a) :: r) (L, h) Q) := ax_stepc (by decide) (fun q => by simp [ax_st, ax_pp, ax_mem, ax_in, q]) (fun q => by simp [ax_st, ax_pp, ax_mem, ax_in]; try (simpa using q))
theorem ax_r_bast (v : Int) (l : Nat) (a i x : Int) (d m pc : Nat) (ls r : List ax_V) (L : ax_L) (h : Int → Int → Int) (Q : ax_V → ax_H → Prop) : ax_EvI (some (20, [], v, l)) d m pc ls ((0, x) :: (0, i) :: (2, a) :: r) (L, h) Q = (((0 ≤ i ∧ i < ax_ln L a) ∧ (ax_cd L a = 102 ∨ (ax_cd L a = 103 ∧ (x = 0 ∨ x = 1)))) ∧ ax_Ev d m (pc + l) ls (r) (L, ax_up h a i (if ax_cd L a = 102 then ax_w8 x else x)) Q) := ax_stepc (by decide) (fun q => by
  obtain ⟨q1, q2⟩ := q
  simp only [ax_st, ax_pp, ax_mem, q1]
  rcases q2 with q2 | ⟨q2, q3⟩
  · simp [q1, q2]
  · simp [q1, q2, q3]) (fun q => by
  simp only [ax_st, ax_pp, ax_mem]
  by_cases h1 : 0 ≤ i ∧ i < ax_ln L a
  · have q2 : ¬ (ax_cd L a = 102 ∨ (ax_cd L a = 103 ∧ (x = 0 ∨ x = 1))) := fun e => q ⟨h1, e⟩
    have q3 : ¬ ax_cd L a = 102 := fun e => q2 (Or.inl e)
    have q4 : ¬ (ax_cd L a = 103 ∧ (x = 0 ∨ x = 1)) := fun e => q2 (Or.inr e)
    simp [h1, q3, q4]
  · simp [h1])
theorem ax_r_min (v : Int) (l : Nat) (x y : Int) (d m pc : Nat) (ls r : List ax_V) (L : ax_L) (h : Int → Int → Int) (Q : ax_V → ax_H → Prop) : ax_EvI (some (56, [0], v, l)) d m pc ls ((0, y) :: (0, x) :: r) (L, h) Q = (r.length ≤ 4 ∧ ax_Ev d m (pc + l) ls ((0, if y < x then y else x) :: r) (L, h) Q) := ax_stepc (by decide) (fun q => by simp [ax_st, ax_pp, ax_mem, ax_in, q]) (fun q => by simp [ax_st, ax_pp, ax_mem, ax_in]; try omega)
theorem ax_r_max (v : Int) (l : Nat) (x y : Int) (d m pc : Nat) (ls r : List ax_V) (L : ax_L) (h : Int → Int → Int) (Q : ax_V → ax_H → Prop) : ax_EvI (some (56, [1], v, l)) d m pc ls ((0, y) :: (0, x) :: r) (L, h) Q = (r.length ≤ 4 ∧ ax_Ev d m (pc + l) ls ((0, if x < y then y else x) :: r) (L, h) Q) := ax_stepc (by decide) (fun q => by simp [ax_st, ax_pp, ax_mem, ax_in, q]) (fun q => by simp [ax_st, ax_pp, ax_mem, ax_in]; try omega)
theorem ax_r_minl (v : Int) (l : Nat) (x y : Int) (d m pc : Nat) (ls r : List ax_V) (L : ax_L) (h : Int → Int → Int) (Q : ax_V → ax_H → Prop) : ax_EvI (some (56, [2], v, l)) d m pc ls ((1, y) :: (1, x) :: r) (L, h) Q = (r.length ≤ 4 ∧ ax_Ev d m (pc + l) ls ((1, if y < x then y else x) :: r) (L, h) Q) := ax_stepc (by decide) (fun q => by simp [ax_st, ax_pp, ax_mem, ax_in, q]) (fun q => by simp [ax_st, ax_pp, ax_mem, ax_in]; try omega)
theorem ax_r_maxl (v : Int) (l : Nat) (x y : Int) (d m pc : Nat) (ls r : List ax_V) (L : ax_L) (h : Int → Int → Int) (Q : ax_V → ax_H → Prop) : ax_EvI (some (56, [3], v, l)) d m pc ls ((1, y) :: (1, x) :: r) (L, h) Q = (r.length ≤ 4 ∧ ax_Ev d m (pc + l) ls ((1, if x < y then y else x) :: r) (L, h) Q) := ax_stepc (by decide) (fun q => by simp [ax_st, ax_pp, ax_mem, ax_in, q]) (fun q => by simp [ax_st, ax_pp, ax_mem, ax_in]; try omega)
theorem ax_r_copy (v : Int) (l : Nat) (n tp t sp s : Int) (d m pc : Nat) (ls r : List ax_V) (L : ax_L) (h : Int → Int → Int) (Q : ax_V → ax_H → Prop) : ax_EvI (some (56, [4], v, l)) d m pc ls ((0, n) :: (0, tp) :: (2, t) :: (0, sp) :: (2, s) :: r) (L, h) Q = ((r.length ≤ 1 ∧ ax_cd L s = 100 ∧ ax_cd L t = 100 ∧ 0 ≤ sp ∧ 0 ≤ tp ∧ 0 ≤ n ∧ sp + n ≤ ax_ln L s ∧ tp + n ≤ ax_ln L t) ∧ ax_Ev d m (pc + l) ls (r) (L, ax_cp h s sp t tp n) Q) := ax_stepc (by decide) (fun q => by simp [ax_st, ax_pp, ax_mem, ax_in, q]) (fun q => by
  simp only [ax_st, ax_pp, ax_in, List.length_cons]
  simp
  intro h1
  try simp
  intros
  first | omega | (exact absurd ⟨by omega, by assumption, by assumption, by assumption, by assumption, by assumption, by assumption, by assumption⟩ q))
theorem ax_r_slen (v : Int) (l : Nat) (s : Int) (d m pc : Nat) (ls r : List ax_V) (L : ax_L) (h : Int → Int → Int) (Q : ax_V → ax_H → Prop) : ax_EvI (some (56, [5], v, l)) d m pc ls ((2, s) :: r) (L, h) Q = ((r.length ≤ 4 ∧ s ≤ -2 ∧ -2 - s < ax_Sb.length) ∧ ax_Ev d m (pc + l) ls ((0, ax_slen s) :: r) (L, h) Q) := ax_stepc (by decide) (fun q => by
  have q5 : r.length ≤ 5 := Nat.le_trans q.1 (by omega)
  simp [ax_st, ax_pp, ax_mem, ax_in, q, q5]) (fun q => by
  simp only [ax_st, ax_pp, ax_in, List.length_cons]
  simp
  intro h1
  try simp
  intros
  first | omega | (exact absurd ⟨by omega, by assumption, by assumption, by assumption, by assumption, by assumption, by assumption, by assumption⟩ q))
theorem ax_r_schr (v : Int) (l : Nat) (s j : Int) (d m pc : Nat) (ls r : List ax_V) (L : ax_L) (h : Int → Int → Int) (Q : ax_V → ax_H → Prop) : ax_EvI (some (56, [6], v, l)) d m pc ls ((0, j) :: (2, s) :: r) (L, h) Q = ((r.length ≤ 4 ∧ s ≤ -2 ∧ -2 - s < ax_Sb.length ∧ 0 ≤ j ∧ j < ax_slen s) ∧ ax_Ev d m (pc + l) ls ((0, ax_schr s j) :: r) (L, h) Q) := ax_stepc (by decide) (fun q => by simp [ax_st, ax_pp, ax_mem, ax_in, q]) (fun q => by
  simp only [ax_st, ax_pp, ax_in, List.length_cons]
  simp
  intro h1
  try simp
  intros
  first | omega | (exact absurd ⟨by omega, by assumption, by assumption, by assumption, by assumption, by assumption, by assumption, by assumption⟩ q))
theorem ax_r_dup (v : Int) (l : Nat) (t : Nat) (x : Int) (d m pc : Nat) (ls r : List ax_V) (H : ax_H) (Q : ax_V → ax_H → Prop) : ax_EvI (some (61, [], v, l)) d m pc ls ((t, x) :: r) H Q = ((t = 0 ∨ t = 2) ∧ ax_Ev d m (pc + l) ls ((t, x) :: (t, x) :: r) H Q) := ax_stepc (by decide) (fun q => by simp [ax_st, q]) (fun q => by simp [ax_st, q])
theorem ax_r_dup2 (v : Int) (l : Nat) (t u : Nat) (x y : Int) (d m pc : Nat) (ls r : List ax_V) (H : ax_H) (Q : ax_V → ax_H → Prop) : ax_EvI (some (62, [], v, l)) d m pc ls ((t, x) :: (u, y) :: r) H Q = (((t = 0 ∨ t = 2) ∧ (u = 0 ∨ u = 2)) ∧ ax_Ev d m (pc + l) ls ((t, x) :: (u, y) :: (t, x) :: (u, y) :: r) H Q) := ax_stepc (by decide) (fun q => by simp [ax_st, q]) (fun q => by simp [ax_st, q])
theorem ax_r_pop (v : Int) (l : Nat) (t : Nat) (x : Int) (d m pc : Nat) (ls r : List ax_V) (H : ax_H) (Q : ax_V → ax_H → Prop) : ax_EvI (some (63, [], v, l)) d m pc ls ((t, x) :: r) H Q = ((t = 0 ∨ t = 2) ∧ ax_Ev d m (pc + l) ls (r) H Q) := ax_stepc (by decide) (fun q => by simp [ax_st, q]) (fun q => by simp [ax_st, q])
theorem ax_r_ret (v : Int) (l : Nat) (x : Int) (d m pc : Nat) (ls : List ax_V) (H : ax_H) (Q : ax_V → ax_H → Prop) : ax_EvI (some (50, [], v, l)) d m pc ls [(0, x)] H Q = Q (0, x) H := ax_retn (by decide) rfl
theorem ax_r_lret (v : Int) (l : Nat) (x : Int) (d m pc : Nat) (ls : List ax_V) (H : ax_H) (Q : ax_V → ax_H → Prop) : ax_EvI (some (52, [], v, l)) d m pc ls [(1, x)] H Q = Q (1, x) H := ax_retn (by decide) rfl
theorem ax_r_vret (v : Int) (l : Nat) (d m pc : Nat) (ls : List ax_V) (H : ax_H) (Q : ax_V → ax_H → Prop) : ax_EvI (some (54, [], v, l)) d m pc ls [] H Q = Q (9, 0) H := ax_retn (by decide) rfl
theorem ax_retc {P : Prop} {op : Nat} {ops : List Nat} {v : Int} {len d m pc : Nat} {ls st : List ax_V} {H : ax_H} {Q : ax_V → ax_H → Prop} {r : ax_V} (hs : 50 ≤ op ∧ op ≤ 54) (h : P → ax_rt op st = some r) (hn : ¬ P → ax_rt op st = none) :
    ax_EvI (some (op, ops, v, len)) d m pc ls st H Q = (P ∧ Q r H) := by
  by_cases hp : P
  · rw [ax_retn hs (h hp)]; simp [hp]
  · apply propext
    constructor
    · rintro ⟨n, r1, H1, hg, -⟩
      match n, hg with
      | 0, hg => simp [ax_go] at hg
      | n + 1, hg =>
        unfold ax_go at hg
        rw [if_neg (by omega), if_pos hs, hn hp] at hg
        cases hg
    · rintro ⟨h, -⟩; exact absurd h hp
theorem ax_r_zret (v : Int) (l : Nat) (x : Int) (d m pc : Nat) (ls : List ax_V) (H : ax_H) (Q : ax_V → ax_H → Prop) : ax_EvI (some (51, [], v, l)) d m pc ls [(0, x)] H Q = ((x = 0 ∨ x = 1) ∧ Q (0, x) H) := ax_retc (by decide) (fun q => by simp [ax_rt, q]) (fun q => by simp [ax_rt, q])
theorem ax_r_aret (v : Int) (l : Nat) (x : Int) (d m pc : Nat) (ls : List ax_V) (H : ax_H) (Q : ax_V → ax_H → Prop) : ax_EvI (some (53, [], v, l)) d m pc ls [(2, x)] H Q = (x ≠ -1 ∧ Q (2, x) H) := ax_retc (by decide) (fun q => by simp [ax_rt, q]) (fun q => by simp [ax_rt]; simpa using q)
/-- goes on with variables that may be none -/
def ax_EvO (o : Option (List ax_V)) (d m pc : Nat) (st : List ax_V) (H : ax_H) (Q : ax_V → ax_H → Prop) : Prop := ∃ ls, o = some ls ∧ ax_Ev d m pc ls st H Q
theorem ax_evo (ls : List ax_V) (d m pc : Nat) (st : List ax_V) (H : ax_H) (Q : ax_V → ax_H → Prop) : ax_EvO (some ls) d m pc st H Q = ax_Ev d m pc ls st H Q := by
  apply propext; constructor
  · rintro ⟨_, h, k⟩; cases h; exact k
  · intro k; exact ⟨_, rfl, k⟩
theorem ax_stepo {o : Option (List ax_V)} {op : Nat} {ops : List Nat} {v : Int} {len d m pc : Nat} {ls st : List ax_V} {H : ax_H} {Q : ax_V → ax_H → Prop} {pc' : Nat} {st' : List ax_V} {H' : ax_H}
    (hs : op < 50 ∨ 55 < op) (h : ax_st op ops v len pc ls st H = o.map fun l1 => (pc', l1, st', H')) : ax_EvI (some (op, ops, v, len)) d m pc ls st H Q = ax_EvO o d m pc' st' H' Q := by
  cases o with
  | some l1 => rw [ax_evo]; exact ax_step hs h
  | none =>
    apply propext
    constructor
    · rintro ⟨n, r, H1, hg, -⟩
      match n, hg with
      | 0, hg => simp [ax_go] at hg
      | n + 1, hg =>
        unfold ax_go at hg
        rw [if_neg (by omega), if_neg (by omega), h] at hg
        cases hg
    · rintro ⟨_, h, -⟩; cases h
theorem ax_r_iload (k : Nat) (v : Int) (l : Nat) (d m pc : Nat) (ls r : List ax_V) (H : ax_H) (Q : ax_V → ax_H → Prop) : ax_EvI (some (1, [k], v, l)) d m pc ls r H Q = ((ax_ld ls k).1 = 0 ∧ ax_Ev d m (pc + l) ls ((0, (ax_ld ls k).2) :: r) H Q) := ax_stepc (by decide) (fun q => by simp [ax_st, ax_ldt, q]) (fun q => by simp [ax_st, ax_ldt, q])
theorem ax_r_lload (k : Nat) (v : Int) (l : Nat) (d m pc : Nat) (ls r : List ax_V) (H : ax_H) (Q : ax_V → ax_H → Prop) : ax_EvI (some (2, [k], v, l)) d m pc ls r H Q = ((ax_ld ls k).1 = 1 ∧ ax_Ev d m (pc + l) ls ((1, (ax_ld ls k).2) :: r) H Q) := ax_stepc (by decide) (fun q => by simp [ax_st, ax_ldt, q]) (fun q => by simp [ax_st, ax_ldt, q])
theorem ax_r_aload (k : Nat) (v : Int) (l : Nat) (d m pc : Nat) (ls r : List ax_V) (H : ax_H) (Q : ax_V → ax_H → Prop) : ax_EvI (some (3, [k], v, l)) d m pc ls r H Q = ((ax_ld ls k).1 = 2 ∧ ax_Ev d m (pc + l) ls ((2, (ax_ld ls k).2) :: r) H Q) := ax_stepc (by decide) (fun q => by simp [ax_st, ax_ldt, q]) (fun q => by simp [ax_st, ax_ldt, q])
theorem ax_r_istore (k : Nat) (v : Int) (l : Nat) (x : Int) (d m pc : Nat) (ls r : List ax_V) (H : ax_H) (Q : ax_V → ax_H → Prop) : ax_EvI (some (4, [k], v, l)) d m pc ls ((0, x) :: r) H Q = ax_EvO (ax_sto ls k (0, x)) d m (pc + l) r H Q := ax_stepo (by decide) (by simp [ax_st, ax_pp])
theorem ax_r_astore (k : Nat) (v : Int) (l : Nat) (x : Int) (d m pc : Nat) (ls r : List ax_V) (H : ax_H) (Q : ax_V → ax_H → Prop) : ax_EvI (some (6, [k], v, l)) d m pc ls ((2, x) :: r) H Q = ax_EvO (ax_sto ls k (2, x)) d m (pc + l) r H Q := ax_stepo (by decide) (by simp [ax_st, ax_pp])
theorem ax_r_lstore (k : Nat) (v : Int) (l : Nat) (x : Int) (d m pc : Nat) (ls r : List ax_V) (H : ax_H) (Q : ax_V → ax_H → Prop) : ax_EvI (some (5, [k], v, l)) d m pc ls ((1, x) :: r) H Q = ax_EvO (ax_stl ls k (1, x)) d m (pc + l) r H Q := ax_stepo (by decide) (by simp [ax_st, ax_pp])
theorem ax_r_iinc (k : Nat) (v : Int) (l : Nat) (d m pc : Nat) (ls r : List ax_V) (H : ax_H) (Q : ax_V → ax_H → Prop) : ax_EvI (some (7, [k], v, l)) d m pc ls r H Q = ((ax_ld ls k).1 = 0 ∧ ax_EvO (ax_sto ls k (0, ax_w32 ((ax_ld ls k).2 + v))) d m (pc + l) r H Q) := by
  by_cases h : (ax_ld ls k).1 = 0
  · rw [ax_stepo (o := ax_sto ls k (0, ax_w32 ((ax_ld ls k).2 + v))) (pc' := pc + l) (st' := r) (H' := H) (by decide) (by simp [ax_st, ax_ldt, h])]; simp [h]
  · rw [ax_stepo (o := none) (pc' := pc + l) (st' := r) (H' := H) (by decide) (by simp [ax_st, ax_ldt, h])]; simp [h, ax_EvO]
/-- a call, with what the stack gives it -/
def ax_EvA (o : Option (List ax_V × List ax_V)) (mm d m pc : Nat) (ls : List ax_V) (H : ax_H) (Q : ax_V → ax_H → Prop) : Prop := ∃ q, o = some q ∧ ax_Ev d mm 0 q.1 [] H (ax_k (d + 1) m pc ls q.2 Q)
theorem ax_eva (a b : List ax_V) (mm d m pc : Nat) (ls : List ax_V) (H : ax_H) (Q : ax_V → ax_H → Prop) : ax_EvA (some (a, b)) mm d m pc ls H Q = ax_Ev d mm 0 a [] H (ax_k (d + 1) m pc ls b Q) := by
  apply propext; constructor
  · rintro ⟨_, h, k⟩; cases h; exact k
  · intro k; exact ⟨_, rfl, k⟩
theorem ax_r_call (mm kind : Nat) (v : Int) (len d m pc : Nat) (ls st : List ax_V) (H : ax_H) (Q : ax_V → ax_H → Prop) :
    ax_EvI (some (55, [mm, kind], v, len)) (d + 1) m pc ls st H Q = ax_EvA (ax_ar (ax_pm mm) kind st H.1) mm d m (pc + len) ls H Q := by
  cases h : ax_ar (ax_pm mm) kind st H.1 with
  | some q => obtain ⟨a, b⟩ := q; rw [ax_eva]; exact ax_call mm kind v len d m pc ls st H Q h
  | none =>
    apply propext
    constructor
    · rintro ⟨n, r, H1, hg, -⟩
      match n, hg with
      | 0, hg => simp [ax_go] at hg
      | n + 1, hg =>
        unfold ax_go at hg
        have h' : ax_ar (ax_pm ([mm, kind].headD 0)) ([mm, kind].getD 1 0) st H.1 = none := h
        rw [if_pos rfl, if_neg (by omega), h'] at hg
        cases hg
    · rintro ⟨_, h, -⟩; cases h
