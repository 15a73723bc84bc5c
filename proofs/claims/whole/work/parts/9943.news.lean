/-! the constructors -/
/-- a new object of class c -/
def nw (c : Nat) : Nat × Nat × List Int := (c, ax_nf c, List.replicate (ax_nf c) (-1))
theorem nw_0 : nw 0 = (0, 2, [-1, -1]) := by decide +kernel
theorem nw_1 : nw 1 = (1, 7, [-1, -1, -1, -1, -1, -1, -1]) := by decide +kernel
theorem nw_2 : nw 2 = (2, 5, [-1, -1, -1, -1, -1]) := by decide +kernel
theorem nw_3 : nw 3 = (3, 2, [-1, -1]) := by decide +kernel
theorem nw_4 : nw 4 = (4, 6, [-1, -1, -1, -1, -1, -1]) := by decide +kernel
theorem nw_5 : nw 5 = (5, 4, [-1, -1, -1, -1]) := by decide +kernel
theorem nw_6 : nw 6 = (6, 4, [-1, -1, -1, -1]) := by decide +kernel
theorem nw_7 : nw 7 = (7, 1, [-1]) := by decide +kernel
theorem nw_8 : nw 8 = (8, 7, [-1, -1, -1, -1, -1, -1, -1]) := by decide +kernel
theorem nw_9 : nw 9 = (9, 11, [-1, -1, -1, -1, -1, -1, -1, -1, -1, -1, -1]) := by decide +kernel
theorem nw_10 : nw 10 = (10, 10, [-1, -1, -1, -1, -1, -1, -1, -1, -1, -1]) := by decide +kernel
theorem nw_11 : nw 11 = (11, 10, [-1, -1, -1, -1, -1, -1, -1, -1, -1, -1]) := by decide +kernel
theorem ax_r_new (c : Nat) (v : Int) (l : Nat) (d m pc : Nat) (ls r : List ax_V) (L : ax_L) (h : Int → Int → Int) (Q : ax_V → ax_H → Prop) : ax_EvI (some (57, [c], v, l)) d m pc ls r (L, h) Q = (c < 13 ∧ ax_Ev d m (pc + l) ls ((2, (L.length : Int)) :: r) (L ++ [nw c], ax_zr h L.length) Q) := ax_stepc (by decide) (fun q => by simp [ax_st, ax_mem, q, nw]) (fun q => by simp [ax_st, ax_mem, q])
theorem ax_r_newa (c : Nat) (v : Int) (l : Nat) (n : Int) (d m pc : Nat) (ls r : List ax_V) (L : ax_L) (h : Int → Int → Int) (Q : ax_V → ax_H → Prop) : ax_EvI (some (58, [c], v, l)) d m pc ls ((0, n) :: r) (L, h) Q = ((0 ≤ n ∧ n ≤ 60000 ∧ c ≤ 103 ∧ 100 ≤ c) ∧ ax_Ev d m (pc + l) ls ((2, (L.length : Int)) :: r) (L ++ [(c, n.toNat, [])], ax_zr h L.length) Q) := ax_stepc (by decide) (fun q => by simp [ax_st, ax_pp, ax_mem, q]) (fun q => by simp [ax_st, ax_pp, ax_mem]; intros; omega)
theorem ax_r_newr (c : Nat) (v : Int) (l : Nat) (n : Int) (d m pc : Nat) (ls r : List ax_V) (L : ax_L) (h : Int → Int → Int) (Q : ax_V → ax_H → Prop) : ax_EvI (some (59, [c], v, l)) d m pc ls ((0, n) :: r) (L, h) Q = ((0 ≤ n ∧ n ≤ 60000 ∧ (c = 110 ∨ c = 111)) ∧ ax_Ev d m (pc + l) ls ((2, (L.length : Int)) :: r) (L ++ [(c, n.toNat, List.replicate n.toNat (-1))], ax_zr h L.length) Q) := ax_stepc (by decide) (fun q => by simp [ax_st, ax_pp, ax_mem, q]) (fun q => by simp [ax_st, ax_pp, ax_mem]; intros; omega)
theorem ax_r_newm (v : Int) (l : Nat) (n k : Int) (d m pc : Nat) (ls r : List ax_V) (L : ax_L) (h : Int → Int → Int) (Q : ax_V → ax_H → Prop) : ax_EvI (some (60, [112, 100], v, l)) d m pc ls ((0, k) :: (0, n) :: r) (L, h) Q = ((0 ≤ k ∧ k ≤ 60000 ∧ 0 ≤ n ∧ n ≤ 1000) ∧ ax_Ev d m (pc + l) ls ((2, (L.length : Int)) :: r) (L ++ (112, n.toNat, (List.range n.toNat).map fun i => ((L.length + 1 + i : Nat) : Int)) :: List.replicate n.toNat (100, k.toNat, []), ax_zr h L.length) Q) := ax_stepc (by decide) (fun q => by simp [ax_st, ax_pp, ax_mem, q]) (fun q => by simp [ax_st, ax_pp, ax_mem]; intros; omega)
theorem ax_r_putR (c : Nat) (v : Int) (l : Nat) (o x : Int) (d m pc : Nat) (ls r : List ax_V) (L : ax_L) (h : Int → Int → Int) (Q : ax_V → ax_H → Prop) : ax_EvI (some (14, [c], v, l)) d m pc ls ((2, x) :: (2, o) :: r) (L, h) Q = (ax_cd L o = c ∧ ax_Ev d m (pc + l) ls r (ax_sr L o v x, h) Q) := ax_stepc (by decide) (fun q => by simp [ax_st, ax_pp, ax_mem, q]) (fun q => by simp [ax_st, ax_pp, ax_mem]; try (simpa using q))
theorem ax_r_aast (v : Int) (l : Nat) (a i x : Int) (d m pc : Nat) (ls r : List ax_V) (L : ax_L) (h : Int → Int → Int) (Q : ax_V → ax_H → Prop) : ax_EvI (some (22, [], v, l)) d m pc ls ((2, x) :: (0, i) :: (2, a) :: r) (L, h) Q = ((((ax_cd L a = 110 ∧ ax_cd L x = 7) ∨ (ax_cd L a = 111 ∧ ax_cd L x = 10)) ∧ 0 ≤ i ∧ i < ax_ln L a) ∧ ax_Ev d m (pc + l) ls r (ax_sr L a i x, h) Q) := ax_stepc (by decide) (fun q => by simp [ax_st, ax_pp, ax_mem, q]) (fun q => by simp [ax_st, ax_pp, ax_mem]; try (simpa using q))
theorem ax_r_oi (v : Int) (l : Nat) (o : Int) (d m pc : Nat) (ls r : List ax_V) (L : ax_L) (h : Int → Int → Int) (Q : ax_V → ax_H → Prop) : ax_EvI (some (56, [7], v, l)) d m pc ls ((2, o) :: r) (L, h) Q = ((r.length ≤ 5 ∧ 0 ≤ o ∧ ax_cd L o < 100) ∧ ax_Ev d m (pc + l) ls r (L, h) Q) := ax_stepc (by decide) (fun q => by simp [ax_st, ax_pp, ax_in, q]) (fun q => by
  simp only [ax_st, ax_pp, ax_in, List.length_cons]
  simp
  intro h1 h2
  exact Nat.le_of_not_lt fun h3 => q ⟨by omega, h2, h3⟩)
/-- layouts one behind the other -/
theorem ap_at (L B : ax_L) {o : Int} (ho : (L.length : Int) = o) (i : Int) (hi : 0 ≤ i) : ax_at (L ++ B) (o + i) = ax_at B i := by
  unfold ax_at
  rw [if_neg (by omega), if_neg (by omega), List.getElem?_append_right (by omega)]
  congr 1; omega
theorem ap_cd (L B : ax_L) {o : Int} (ho : (L.length : Int) = o) (i : Int) (hi : 0 ≤ i) : ax_cd (L ++ B) (o + i) = ax_cd B i := by unfold ax_cd; rw [ap_at L B ho i hi]
theorem ap_ln (L B : ax_L) {o : Int} (ho : (L.length : Int) = o) (i : Int) (hi : 0 ≤ i) : ax_ln (L ++ B) (o + i) = ax_ln B i := by unfold ax_ln; rw [ap_at L B ho i hi]
theorem ap_rf (L B : ax_L) {o : Int} (ho : (L.length : Int) = o) (i : Int) (hi : 0 ≤ i) (j : Int) : ax_rf (L ++ B) (o + i) j = ax_rf B i j := by unfold ax_rf; rw [ap_at L B ho i hi]
theorem ap_sr (L B : ax_L) {o : Int} (ho : (L.length : Int) = o) (i : Int) (hi : 0 ≤ i) (j v : Int) : ax_sr (L ++ B) (o + i) j v = L ++ ax_sr B i j v := by
  unfold ax_sr; rw [ap_at L B ho i hi]
  split
  · rename_i q _
    have e : (o + i).toNat = L.length + i.toNat := by omega
    have f : ∀ (L B : ax_L) (n : Nat) (x : Nat × Nat × List Int), List.set (L ++ B) (L.length + n) x = L ++ List.set B n x := by
      intro L B n x
      induction L with
      | nil => simp
      | cons a L ih => rw [List.cons_append, List.length_cons, show L.length + 1 + n = (L.length + n) + 1 by omega, List.set_cons_succ, ih, List.cons_append]
    rw [e]; exact f _ _ _ _
  · rfl
theorem ap_cd0 (L B : ax_L) {o : Int} (ho : (L.length : Int) = o) : ax_cd (L ++ B) o = ax_cd B 0 := by have := ap_cd L B ho 0 (by omega); rwa [Int.add_zero] at this
theorem ap_ln0 (L B : ax_L) {o : Int} (ho : (L.length : Int) = o) : ax_ln (L ++ B) o = ax_ln B 0 := by have := ap_ln L B ho 0 (by omega); rwa [Int.add_zero] at this
theorem ap_rf0 (L B : ax_L) {o : Int} (ho : (L.length : Int) = o) (j : Int) : ax_rf (L ++ B) o j = ax_rf B 0 j := by have := ap_rf L B ho 0 (by omega) j; rwa [Int.add_zero] at this
theorem ap_sr0 (L B : ax_L) {o : Int} (ho : (L.length : Int) = o) (j v : Int) : ax_sr (L ++ B) o j v = L ++ ax_sr B 0 j v := by have := ap_sr L B ho 0 (by omega) j v; rwa [Int.add_zero] at this
theorem co_at (q : Nat × Nat × List Int) (B : ax_L) (i : Int) (hi : 0 < i) : ax_at (q :: B) i = ax_at B (i - 1) := by
  unfold ax_at
  rw [if_neg (by omega), if_neg (by omega), show i.toNat = (i - 1).toNat + 1 by omega, List.getElem?_cons_succ]
theorem co_cd (q : Nat × Nat × List Int) (B : ax_L) (i : Int) (hi : 0 < i) : ax_cd (q :: B) i = ax_cd B (i - 1) := by unfold ax_cd; rw [co_at q B i hi]
theorem co_ln (q : Nat × Nat × List Int) (B : ax_L) (i : Int) (hi : 0 < i) : ax_ln (q :: B) i = ax_ln B (i - 1) := by unfold ax_ln; rw [co_at q B i hi]
theorem co_rf (q : Nat × Nat × List Int) (B : ax_L) (i : Int) (hi : 0 < i) (j : Int) : ax_rf (q :: B) i j = ax_rf B (i - 1) j := by unfold ax_rf; rw [co_at q B i hi]
theorem co_sr (q : Nat × Nat × List Int) (B : ax_L) (i : Int) (hi : 0 < i) (j v : Int) : ax_sr (q :: B) i j v = q :: ax_sr B (i - 1) j v := by
  unfold ax_sr; rw [co_at q B i hi]
  split
  · rw [show i.toNat = (i - 1).toNat + 1 by omega, List.set_cons_succ]
  · rfl
theorem co_cd0 (c n : Nat) (r : List Int) (B : ax_L) : ax_cd ((c, n, r) :: B) 0 = c := rfl
theorem co_ln0 (c n : Nat) (r : List Int) (B : ax_L) : ax_ln ((c, n, r) :: B) 0 = n := rfl
theorem co_rf0 (c n : Nat) (r : List Int) (B : ax_L) (j : Int) : ax_rf ((c, n, r) :: B) 0 j = r.getD j.toNat (-1) := rfl
theorem co_sr0 (c n : Nat) (r : List Int) (B : ax_L) (j v : Int) : ax_sr ((c, n, r) :: B) 0 j v = (c, n, r.set j.toNat v) :: B := rfl
/-- a heap: h below o, F from there -/
def hp (h : Int → Int → Int) (o : Int) (F : Int → Int → Int) : Int → Int → Int := fun k j => if k < o then h k j else F (k - o) j
def z0 : Int → Int → Int := fun _ _ => 0
theorem zr0 (a : Int) : ax_zr z0 a = z0 := by funext k j; unfold ax_zr z0; split <;> rfl
theorem zr_up (h : Int → Int → Int) (k j v a : Int) (hk : k < a) : ax_zr (ax_up h k j v) a = ax_up (ax_zr h a) k j v := by
  funext x y; simp only [ax_zr, ax_up]
  by_cases e : a ≤ x
  · rw [if_pos e, if_neg (by omega), if_pos e]
  · rw [if_neg e, if_neg e]
theorem hp_up (h : Int → Int → Int) (o : Int) (F : Int → Int → Int) (i j v : Int) (hi : 0 ≤ i) : ax_up (hp h o F) (o + i) j v = hp h o (ax_up F i j v) := by
  funext x y; simp only [hp, ax_up]
  by_cases e : x < o
  · rw [if_pos e, if_pos e, if_neg (by omega)]
  · rw [if_neg e, if_neg e]
    by_cases f : x = o + i ∧ y = j
    · rw [if_pos f, if_pos (by omega)]
    · rw [if_neg f, if_neg (by omega)]
theorem hp_up0 (h : Int → Int → Int) (o : Int) (F : Int → Int → Int) (j v : Int) : ax_up (hp h o F) o j v = hp h o (ax_up F 0 j v) := by have := hp_up h o F 0 j v (by omega); rwa [Int.add_zero] at this
theorem hp_zr (h : Int → Int → Int) (o : Int) (F : Int → Int → Int) (i : Int) (hi : 0 ≤ i) : ax_zr (hp h o F) (o + i) = hp h o (ax_zr F i) := by
  funext x y; simp only [hp, ax_zr]
  by_cases e : x < o
  · rw [if_pos e, if_pos e, if_neg (by omega)]
  · rw [if_neg e, if_neg e]
    by_cases f : o + i ≤ x
    · rw [if_pos f, if_pos (by omega)]
    · rw [if_neg f, if_neg (by omega)]
theorem hp_hp (h : Int → Int → Int) (o : Int) (F : Int → Int → Int) (i : Int) (G : Int → Int → Int) (hi : 0 ≤ i) : hp (hp h o F) (o + i) G = hp h o (hp F i G) := by
  funext x y; simp only [hp]
  by_cases e : x < o
  · rw [if_pos (by omega), if_pos e, if_pos e]
  · by_cases f : x < o + i
    · rw [if_pos f, if_neg e, if_neg e, if_pos (by omega)]
    · rw [if_neg f, if_neg e, if_neg (by omega)]; congr 1; omega
theorem hp_rd (h : Int → Int → Int) (o : Int) (F : Int → Int → Int) (i j : Int) (hi : 0 ≤ i) : hp h o F (o + i) j = F i j := by
  unfold hp; rw [if_neg (by omega)]; congr 1; omega
theorem hp_self (h : Int → Int → Int) (o : Int) (hz : ∀ k j, o ≤ k → h k j = 0) : h = hp h o z0 := by
  funext x y; simp only [hp, z0]
  by_cases e : x < o
  · rw [if_pos e]
  · rw [if_neg e]; exact hz x y (by omega)
theorem hp_zrF (F G : Int → Int → Int) (i a : Int) (hz : ∀ k j, a - i ≤ k → G k j = 0) (hi : i ≤ a) : ax_zr (hp F i G) a = hp F i G := by
  funext x y; simp only [hp, ax_zr]
  by_cases e : a ≤ x
  · rw [if_pos e, if_neg (by omega)]; exact (hz _ _ (by omega)).symm
  · rw [if_neg e]
