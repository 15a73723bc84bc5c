/-! THE LAYOUT ONLY GROWS -/
def ax_gr (H H' : ax_H) : Prop := H.1.length ≤ H'.1.length ∧ ax_sl H.1 ≤ ax_sl H'.1 ∧ ∀ o : Int, 0 ≤ o → o < H.1.length → ax_cd H'.1 o = ax_cd H.1 o
theorem ax_gr_rf (H : ax_H) : ax_gr H H := ⟨Nat.le_refl _, Nat.le_refl _, fun _ _ _ => rfl⟩
theorem ax_gr_tr {A B C : ax_H} (h1 : ax_gr A B) (h2 : ax_gr B C) : ax_gr A C := ⟨Nat.le_trans h1.1 h2.1, Nat.le_trans h1.2.1 h2.2.1, fun o a b => (h2.2.2 o a (by have := h1.1; omega)).trans (h1.2.2 o a b)⟩
theorem ax_sl_app2 (A B : ax_L) : ax_sl (A ++ B) = ax_sl A + ax_sl B := by unfold ax_sl; simp
theorem ax_cd_app2 (A B : ax_L) {o : Int} (h0 : 0 ≤ o) (h : o < A.length) : ax_cd (A ++ B) o = ax_cd A o := by
  unfold ax_cd ax_at; rw [if_neg (by omega), if_neg (by omega), List.getElem?_append_left (by omega)]
theorem ax_cd_sr2 (L : ax_L) (a j v : Int) (o : Int) : ax_cd (ax_sr L a j v) o = ax_cd L o := by
  unfold ax_sr
  split
  · rename_i q hq
    unfold ax_at at hq
    split at hq
    · cases hq
    · have hl := (List.getElem?_eq_some_iff.mp hq).1
      unfold ax_cd ax_at
      by_cases z : o < 0
      · rw [if_pos z, if_pos z]
      · rw [if_neg z, if_neg z, List.getElem?_set]
        by_cases e : a.toNat = o.toNat
        · rw [if_pos e, if_pos hl, ← e, hq]
        · rw [if_neg e]
  · rfl
theorem ax_gr_app (H : ax_H) (B : ax_L) (h : Int → Int → Int) : ax_gr H (H.1 ++ B, h) := ⟨by simp, by rw [ax_sl_app2]; omega, fun o a b => ax_cd_app2 _ _ a b⟩
theorem ax_gr_sr (H : ax_H) (a j v : Int) (h : Int → Int → Int) : ax_gr H (ax_sr H.1 a j v, h) := ⟨by show _ ≤ (ax_sr H.1 a j v).length; rw [ax_sr_len]; exact Nat.le_refl _, by show _ ≤ ax_sl (ax_sr H.1 a j v); rw [ax_sr_sl]; exact Nat.le_refl _, fun o _ _ => ax_cd_sr2 _ _ _ _ o⟩
theorem ax_gr_h (H : ax_H) (h : Int → Int → Int) : ax_gr H (H.1, h) := ⟨Nat.le_refl _, Nat.le_refl _, fun _ _ _ => rfl⟩
theorem ax_mem_gr {op : Nat} {ops : List Nat} {v : Int} {st : List ax_V} {H : ax_H} {q : List ax_V × ax_H} (h : ax_mem op ops v st H = some q) : ax_gr H q.2 := by
  unfold ax_mem at h
  split at h
  · obtain ⟨x0, -, h⟩ := Option.bind_eq_some_iff.mp h
    split at h
    · cases h; exact ax_gr_rf _
    · cases h
  · obtain ⟨x0, -, h⟩ := Option.bind_eq_some_iff.mp h
    split at h
    · cases h; exact ax_gr_rf _
    · cases h
  · obtain ⟨x0, -, h⟩ := Option.bind_eq_some_iff.mp h
    obtain ⟨x1, -, h⟩ := Option.bind_eq_some_iff.mp h
    split at h
    · cases h; exact ax_gr_h _ _
    · cases h
  · obtain ⟨x0, -, h⟩ := Option.bind_eq_some_iff.mp h
    obtain ⟨x1, -, h⟩ := Option.bind_eq_some_iff.mp h
    split at h
    · cases h; exact ax_gr_h _ _
    · cases h
  · obtain ⟨x0, -, h⟩ := Option.bind_eq_some_iff.mp h
    obtain ⟨x1, -, h⟩ := Option.bind_eq_some_iff.mp h
    split at h
    · cases h; exact ax_gr_sr _ _ _ _ _
    · cases h
  · obtain ⟨x0, -, h⟩ := Option.bind_eq_some_iff.mp h
    obtain ⟨x1, -, h⟩ := Option.bind_eq_some_iff.mp h
    split at h
    · cases h; exact ax_gr_rf _
    · cases h
  · obtain ⟨x0, -, h⟩ := Option.bind_eq_some_iff.mp h
    obtain ⟨x1, -, h⟩ := Option.bind_eq_some_iff.mp h
    obtain ⟨x2, -, h⟩ := Option.bind_eq_some_iff.mp h
    split at h
    · cases h; exact ax_gr_h _ _
    · cases h
  · obtain ⟨x0, -, h⟩ := Option.bind_eq_some_iff.mp h
    obtain ⟨x1, -, h⟩ := Option.bind_eq_some_iff.mp h
    split at h
    · cases h; exact ax_gr_rf _
    · cases h
  · obtain ⟨x0, -, h⟩ := Option.bind_eq_some_iff.mp h
    obtain ⟨x1, -, h⟩ := Option.bind_eq_some_iff.mp h
    obtain ⟨x2, -, h⟩ := Option.bind_eq_some_iff.mp h
    split at h
    · cases h; exact ax_gr_h _ _
    · cases h
  · obtain ⟨x0, -, h⟩ := Option.bind_eq_some_iff.mp h
    obtain ⟨x1, -, h⟩ := Option.bind_eq_some_iff.mp h
    split at h
    · cases h; exact ax_gr_rf _
    · cases h
  · obtain ⟨x0, -, h⟩ := Option.bind_eq_some_iff.mp h
    obtain ⟨x1, -, h⟩ := Option.bind_eq_some_iff.mp h
    obtain ⟨x2, -, h⟩ := Option.bind_eq_some_iff.mp h
    split at h
    · split at h
      · cases h; exact ax_gr_h _ _
      · split at h
        · cases h; exact ax_gr_h _ _
        · cases h
    · cases h
  · obtain ⟨x0, -, h⟩ := Option.bind_eq_some_iff.mp h
    obtain ⟨x1, -, h⟩ := Option.bind_eq_some_iff.mp h
    split at h
    · cases h; exact ax_gr_rf _
    · cases h
  · obtain ⟨x0, -, h⟩ := Option.bind_eq_some_iff.mp h
    obtain ⟨x1, -, h⟩ := Option.bind_eq_some_iff.mp h
    obtain ⟨x2, -, h⟩ := Option.bind_eq_some_iff.mp h
    split at h
    · cases h; exact ax_gr_sr _ _ _ _ _
    · cases h
  · obtain ⟨x0, -, h⟩ := Option.bind_eq_some_iff.mp h
    split at h
    · cases h; exact ax_gr_rf _
    · cases h
  · split at h
    · cases h; exact ax_gr_app _ _ _
    · cases h
  · obtain ⟨x0, -, h⟩ := Option.bind_eq_some_iff.mp h
    split at h
    · cases h; exact ax_gr_app _ _ _
    · cases h
  · obtain ⟨x0, -, h⟩ := Option.bind_eq_some_iff.mp h
    split at h
    · cases h; exact ax_gr_app _ _ _
    · cases h
  · obtain ⟨x0, -, h⟩ := Option.bind_eq_some_iff.mp h
    obtain ⟨x1, -, h⟩ := Option.bind_eq_some_iff.mp h
    split at h
    · cases h; exact ax_gr_app _ _ _
    · cases h
  · cases h
theorem ax_in_gr {x : Nat} {st : List ax_V} {H : ax_H} {q : List ax_V × ax_H} (h : ax_in x st H = some q) : ax_gr H q.2 := by
  unfold ax_in at h
  split at h
  · obtain ⟨x0, -, h⟩ := Option.bind_eq_some_iff.mp h
    obtain ⟨x1, -, h⟩ := Option.bind_eq_some_iff.mp h
    cases h
    exact ax_gr_rf _
  · obtain ⟨x0, -, h⟩ := Option.bind_eq_some_iff.mp h
    obtain ⟨x1, -, h⟩ := Option.bind_eq_some_iff.mp h
    cases h
    exact ax_gr_rf _
  · obtain ⟨x0, -, h⟩ := Option.bind_eq_some_iff.mp h
    obtain ⟨x1, -, h⟩ := Option.bind_eq_some_iff.mp h
    cases h
    exact ax_gr_rf _
  · obtain ⟨x0, -, h⟩ := Option.bind_eq_some_iff.mp h
    obtain ⟨x1, -, h⟩ := Option.bind_eq_some_iff.mp h
    cases h
    exact ax_gr_rf _
  · obtain ⟨x0, -, h⟩ := Option.bind_eq_some_iff.mp h
    obtain ⟨x1, -, h⟩ := Option.bind_eq_some_iff.mp h
    obtain ⟨x2, -, h⟩ := Option.bind_eq_some_iff.mp h
    obtain ⟨x3, -, h⟩ := Option.bind_eq_some_iff.mp h
    obtain ⟨x4, -, h⟩ := Option.bind_eq_some_iff.mp h
    split at h
    · cases h; exact ax_gr_h _ _
    · cases h
  · obtain ⟨x0, -, h⟩ := Option.bind_eq_some_iff.mp h
    split at h
    · cases h; exact ax_gr_rf _
    · cases h
  · obtain ⟨x0, -, h⟩ := Option.bind_eq_some_iff.mp h
    obtain ⟨x1, -, h⟩ := Option.bind_eq_some_iff.mp h
    split at h
    · cases h; exact ax_gr_rf _
    · cases h
  · obtain ⟨x0, -, h⟩ := Option.bind_eq_some_iff.mp h
    split at h
    · cases h; exact ax_gr_rf _
    · cases h
theorem ax_st_gr {op : Nat} {ops : List Nat} {v : Int} {len pc : Nat} {ls st : List ax_V} {H : ax_H} {q : Nat × List ax_V × List ax_V × ax_H} (h : ax_st op ops v len pc ls st H = some q) : ax_gr H q.2.2.2 := by
  unfold ax_st at h
  by_cases e0 : op = 0
  · rw [if_pos e0] at h
    cases h; exact ax_gr_rf _
  rw [if_neg e0] at h
  by_cases e1 : op ≤ 3
  · rw [if_pos e1] at h
    obtain ⟨y, hy, h⟩ := Option.map_eq_some_iff.mp h
    cases h; exact ax_gr_rf _
  rw [if_neg e1] at h
  by_cases e2 : op = 4
  · rw [if_pos e2] at h
    obtain ⟨z, hz, h⟩ := Option.bind_eq_some_iff.mp h
    obtain ⟨y, hy, h⟩ := Option.map_eq_some_iff.mp h
    cases h; exact ax_gr_rf _
  rw [if_neg e2] at h
  by_cases e3 : op = 5
  · rw [if_pos e3] at h
    obtain ⟨z, hz, h⟩ := Option.bind_eq_some_iff.mp h
    obtain ⟨y, hy, h⟩ := Option.map_eq_some_iff.mp h
    cases h; exact ax_gr_rf _
  rw [if_neg e3] at h
  by_cases e4 : op = 6
  · rw [if_pos e4] at h
    obtain ⟨z, hz, h⟩ := Option.bind_eq_some_iff.mp h
    obtain ⟨y, hy, h⟩ := Option.map_eq_some_iff.mp h
    cases h; exact ax_gr_rf _
  rw [if_neg e4] at h
  by_cases e5 : op = 7
  · rw [if_pos e5] at h
    obtain ⟨z, hz, h⟩ := Option.bind_eq_some_iff.mp h
    obtain ⟨y, hy, h⟩ := Option.map_eq_some_iff.mp h
    cases h; exact ax_gr_rf _
  rw [if_neg e5] at h
  by_cases e6 : op = 8
  · rw [if_pos e6] at h
    cases h; exact ax_gr_rf _
  rw [if_neg e6] at h
  by_cases e7 : op = 9
  · rw [if_pos e7] at h
    cases h; exact ax_gr_rf _
  rw [if_neg e7] at h
  by_cases e8 : op ≤ 23
  · rw [if_pos e8] at h
    obtain ⟨y, hy, h⟩ := Option.map_eq_some_iff.mp h
    cases h; exact ax_mem_gr hy
  rw [if_neg e8] at h
  by_cases e9 : op ≤ 33
  · rw [if_pos e9] at h
    obtain ⟨z, hz, h⟩ := Option.bind_eq_some_iff.mp h
    obtain ⟨z, hz, h⟩ := Option.bind_eq_some_iff.mp h
    obtain ⟨y, hy, h⟩ := Option.map_eq_some_iff.mp h
    cases h; exact ax_gr_rf _
  rw [if_neg e9] at h
  by_cases e10 : op = 34
  · rw [if_pos e10] at h
    obtain ⟨y, hy, h⟩ := Option.map_eq_some_iff.mp h
    cases h; exact ax_gr_rf _
  rw [if_neg e10] at h
  by_cases e11 : op = 35
  · rw [if_pos e11] at h
    obtain ⟨y, hy, h⟩ := Option.map_eq_some_iff.mp h
    cases h; exact ax_gr_rf _
  rw [if_neg e11] at h
  by_cases e12 : op = 36
  · rw [if_pos e12] at h
    obtain ⟨y, hy, h⟩ := Option.map_eq_some_iff.mp h
    cases h; exact ax_gr_rf _
  rw [if_neg e12] at h
  by_cases e13 : op ≤ 44
  · rw [if_pos e13] at h
    obtain ⟨z, hz, h⟩ := Option.bind_eq_some_iff.mp h
    obtain ⟨z, hz, h⟩ := Option.bind_eq_some_iff.mp h
    obtain ⟨y, hy, h⟩ := Option.map_eq_some_iff.mp h
    cases h; exact ax_gr_rf _
  rw [if_neg e13] at h
  by_cases e14 : op = 45
  · rw [if_pos e14] at h
    obtain ⟨y, hy, h⟩ := Option.map_eq_some_iff.mp h
    cases h; exact ax_gr_rf _
  rw [if_neg e14] at h
  by_cases e15 : op = 46
  · rw [if_pos e15] at h
    obtain ⟨z, hz, h⟩ := Option.bind_eq_some_iff.mp h
    obtain ⟨y, hy, h⟩ := Option.map_eq_some_iff.mp h
    cases h; exact ax_gr_rf _
  rw [if_neg e15] at h
  by_cases e16 : op = 47
  · rw [if_pos e16] at h
    cases h; exact ax_gr_rf _
  rw [if_neg e16] at h
  by_cases e17 : op = 48
  · rw [if_pos e17] at h
    obtain ⟨y, hy, h⟩ := Option.map_eq_some_iff.mp h
    cases h; exact ax_gr_rf _
  rw [if_neg e17] at h
  by_cases e18 : op = 49
  · rw [if_pos e18] at h
    obtain ⟨y, hy, h⟩ := Option.map_eq_some_iff.mp h
    cases h; exact ax_gr_rf _
  rw [if_neg e18] at h
  by_cases e19 : op = 56
  · rw [if_pos e19] at h
    split at h
    · cases h
    · obtain ⟨y, hy, h⟩ := Option.map_eq_some_iff.mp h
      cases h; exact ax_in_gr hy
  rw [if_neg e19] at h
  by_cases e20 : op ≤ 60
  · rw [if_pos e20] at h
    obtain ⟨y, hy, h⟩ := Option.map_eq_some_iff.mp h
    cases h; exact ax_mem_gr hy
  rw [if_neg e20] at h
  by_cases e21 : op = 61
  · rw [if_pos e21] at h
    split at h
    · split at h
      · cases h; exact ax_gr_rf _
      · cases h
    · cases h
  rw [if_neg e21] at h
  by_cases e22 : op = 62
  · rw [if_pos e22] at h
    split at h
    · split at h
      · cases h; exact ax_gr_rf _
      · cases h
    · cases h
  rw [if_neg e22] at h
  by_cases e23 : op = 63
  · rw [if_pos e23] at h
    split at h
    · split at h
      · cases h; exact ax_gr_rf _
      · cases h
    · cases h
  rw [if_neg e23] at h
  cases h
theorem ax_go_gr : ∀ (n d m : Nat) (o : Option ax_I) (pc : Nat) (ls st : List ax_V) (H : ax_H) (q : ax_V × ax_H), ax_go n d m o pc ls st H = some q → ax_gr H q.2 := by
  intro n
  induction n with
  | zero => intro d m o pc ls st H q h; simp [ax_go] at h
  | succ n ih =>
    intro d m o pc ls st H q h
    match o, h with
    | none, h => simp [ax_go] at h
    | some (op, ops, v, len), h =>
      unfold ax_go at h
      by_cases h1 : op = 55
      · rw [if_pos h1] at h
        by_cases h2 : d = 0
        · rw [if_pos h2] at h; cases h
        · rw [if_neg h2] at h
          obtain ⟨a, ha, h⟩ := Option.bind_eq_some_iff.mp h
          obtain ⟨b, hb, h⟩ := Option.bind_eq_some_iff.mp h
          exact ax_gr_tr (ih _ _ _ _ _ _ _ _ hb) (ih _ _ _ _ _ _ _ _ h)
      · rw [if_neg h1] at h
        by_cases h2 : 50 ≤ op ∧ op ≤ 54
        · rw [if_pos h2] at h
          obtain ⟨r, -, h⟩ := Option.map_eq_some_iff.mp h
          cases h
          exact ax_gr_rf _
        · rw [if_neg h2] at h
          obtain ⟨a, ha, h⟩ := Option.bind_eq_some_iff.mp h
          exact ax_gr_tr (ax_st_gr ha) (ih _ _ _ _ _ _ _ _ h)
