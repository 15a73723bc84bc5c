/-! THE MACHINE AGAINST THE ABSTRACT MACHINE: what a frame and a heap of the one are in the other -/
def ax_tt : List Cond := lw_tbl.filter goodWord
theorem ax_tti {w : Cond} (h : w ∈ lw_tbl) (hg : goodWord w = true) : w ∈ ax_tt := List.mem_filter.mpr ⟨h, hg⟩
theorem ax_tt_good : GoodIn ax_tt ax_tt := fun w h => ⟨h, good_of_word (List.mem_filter.mp h).2⟩
def ax_A (base : Nat) : Nat → Prop := fun q => base ≤ q
def ax_ro (ad : Int → Nat) (r : Int) : Option Nat := if r = -1 then none else some (ad r)
def ax_tv (ad : Int → Nat) (v : ax_V) : Value := match v.1 with
  | 0 => .int (Int32.ofInt v.2)
  | 1 => .long (Int64.ofInt v.2)
  | _ => va_rf (ax_ro ad v.2)
def ax_ok (v : ax_V) : Prop := (v.1 = 0 ∧ ax_r32 v.2) ∨ (v.1 = 1 ∧ ax_r64 v.2) ∨ v.1 = 2
theorem ax_tv_cat (ad : Int → Nat) (v : ax_V) (h : v.1 ≠ 1) : (ax_tv ad v).category = 1 := by
  obtain ⟨t, x⟩ := v
  match t, h with
  | 0, _ => rfl
  | 1, h => exact absurd rfl h
  | t + 2, _ =>
    show (va_rf (ax_ro ad x)).category = 1
    cases ax_ro ad x <;> rfl
theorem ax_tv_cat2 (ad : Int → Nat) (v : ax_V) : (ax_tv ad v).category ≤ 2 := by
  by_cases h : v.1 = 1
  · obtain ⟨t, x⟩ := v
    cases h
    exact Nat.le_refl 2
  · rw [ax_tv_cat ad v h]; omega
/-! variables -/
theorem ax_ld_lt : ∀ (ls : List ax_V) (k : Nat), (ax_ld ls k).1 ≤ 2 → k < ls.length
  | [], k, h => by simp [ax_ld] at h
  | _ :: r, 0, _ => by simp
  | _ :: r, k + 1, h => by
    have := ax_ld_lt r k (by simpa [ax_ld] using h)
    simp; omega
theorem ax_sto_spec : ∀ (ls : List ax_V) (i : Nat) (v : ax_V) (ls' : List ax_V), ax_sto ls i v = some ls' →
    i < ls.length ∧ ls'.length = ls.length ∧ ax_ld ls' i = v ∧ (∀ k, k ≠ i → ax_ld ls' k = ax_ld ls k) ∧ ∀ k, k + 1 = i → (ax_ld ls k).1 ≠ 1
  | [], i, v, ls', h => by simp [ax_sto] at h
  | u :: r, 0, v, ls', h => by
    simp [ax_sto] at h
    subst h
    refine ⟨by simp, by simp, rfl, ?_, ?_⟩
    · intro k hk
      cases k with
      | zero => exact absurd rfl hk
      | succ k => rfl
    · intro k hk; omega
  | u :: r, i + 1, v, ls', h => by
    unfold ax_sto at h
    split at h
    · cases h
    · rename_i hc
      obtain ⟨l1, h1, h2⟩ := Option.map_eq_some_iff.mp h
      subst h2
      obtain ⟨a1, a2, a3, a4, a5⟩ := ax_sto_spec r i v l1 h1
      refine ⟨by simp; omega, by simp [a2], a3, ?_, ?_⟩
      · intro k hk
        cases k with
        | zero => rfl
        | succ k => exact a4 k (by omega)
      · intro k hk
        cases k with
        | zero =>
          show u.1 ≠ 1
          intro q
          exact hc ⟨q, by omega⟩
        | succ k => exact a5 k (by omega)
def ax_LR (ad : Int → Nat) (nL : Nat) (ls : List ax_V) (lsM : Array Slot) : Prop := lsM.size = nL ∧ ls.length = nL ∧ lv_wf lsM ∧ ∀ k, (ax_ld ls k).1 ≤ 2 → ax_ok (ax_ld ls k) ∧ lsM[k]? = some (.val (ax_tv ad (ax_ld ls k)))
def ax_lvl (ad : Int → Nat) (ls : List ax_V) (nL : Nat) : List (Nat × Value) := (List.range nL).filterMap fun k => if (ax_ld ls k).1 ≤ 2 then some (k, ax_tv ad (ax_ld ls k)) else none
theorem ax_lvl_mem {ad : Int → Nat} {ls : List ax_V} {nL : Nat} {q : Nat × Value} : q ∈ ax_lvl ad ls nL ↔ q.1 < nL ∧ (ax_ld ls q.1).1 ≤ 2 ∧ q.2 = ax_tv ad (ax_ld ls q.1) := by
  unfold ax_lvl
  rw [List.mem_filterMap]
  constructor
  · rintro ⟨k, hk, h⟩
    split at h
    · rename_i h1
      cases h
      exact ⟨List.mem_range.mp hk, h1, rfl⟩
    · cases h
  · rintro ⟨h1, h2, h3⟩
    refine ⟨q.1, List.mem_range.mpr h1, ?_⟩
    rw [if_pos h2, ← h3]
theorem ax_lr_has {ad : Int → Nat} {nL : Nat} {ls : List ax_V} {lsM : Array Slot} (h : ax_LR ad nL ls lsM) : lv_has lsM nL (ax_lvl ad ls nL) := by
  refine ⟨h.1, h.2.2.1, fun q hq => ?_⟩
  obtain ⟨-, h2, h3⟩ := ax_lvl_mem.mp hq
  rw [h3]
  exact (h.2.2.2 q.1 h2).2
theorem ax_lr_set {ad : Int → Nat} {nL i : Nat} {ls ls' : List ax_V} {v : ax_V} {lsM lsM' : Array Slot} (hv : ax_ok v) (hs : ax_sto ls i v = some ls') (h : ax_LR ad nL ls lsM)
    (h2 : lv_has lsM' nL ((i, ax_tv ad v) :: (ax_lvl ad ls nL).filter (fun q => !(q.1 == i) && !(q.1 + 1 == i && q.2.category == 2)))) : ax_LR ad nL ls' lsM' := by
  obtain ⟨a1, a2, a3, a4, a5⟩ := ax_sto_spec _ _ _ _ hs
  refine ⟨h2.1, a2.trans h.2.1, h2.2.1, fun k hk => ?_⟩
  by_cases e : k = i
  · subst e
    rw [a3]
    exact ⟨hv, h2.2.2 (k, ax_tv ad v) List.mem_cons_self⟩
  · rw [a4 k e] at hk ⊢
    refine ⟨(h.2.2.2 k hk).1, h2.2.2 (k, ax_tv ad (ax_ld ls k)) (List.mem_cons_of_mem _ (List.mem_filter.mpr ⟨ax_lvl_mem.mpr ⟨?_, hk, rfl⟩, ?_⟩))⟩
    · have := ax_ld_lt _ _ hk
      have := h.2.1
      show k < nL
      omega
    · by_cases e2 : k + 1 = i
      · have := ax_tv_cat ad (ax_ld ls k) (a5 k e2)
        simp [e, this]
      · simp [e, e2]
theorem ax_lr_setl {ad : Int → Nat} {nL i : Nat} {ls ls' : List ax_V} {v : ax_V} {lsM lsM' : Array Slot} (hv : ax_ok v) (hs : ax_stl ls i v = some ls') (h : ax_LR ad nL ls lsM)
    (h2 : lv_has lsM' nL ((i, ax_tv ad v) :: (ax_lvl ad ls nL).filter (fun q => !(q.1 == i) && (!(q.1 == i + 1) && !(q.1 + 1 == i && q.2.category == 2))))) : ax_LR ad nL ls' lsM' ∧ i + 1 < nL := by
  unfold ax_stl at hs
  obtain ⟨l1, hs1, hs2⟩ := Option.bind_eq_some_iff.mp hs
  split at hs2
  · rename_i hlt
    cases hs2
    obtain ⟨a1, a2, a3, a4, a5⟩ := ax_sto_spec _ _ _ _ hs1
    have hl : l1.length = nL := a2.trans h.2.1
    have hld : ∀ (l : List ax_V) (j k : Nat) (w : ax_V), j < l.length → ax_ld (l.set j w) k = if k = j then w else ax_ld l k := by
      intro l
      induction l with
      | nil => intro j k w hj; simp at hj
      | cons u r ih =>
        intro j k w hj
        cases j with
        | zero => cases k <;> simp [ax_ld]
        | succ j =>
          cases k with
          | zero => simp [ax_ld]
          | succ k => simp [ax_ld, ih j k w (by simpa using hj)]
    refine ⟨⟨h2.1, by simp [hl], h2.2.1, fun k hk => ?_⟩, by omega⟩
    rw [hld _ _ _ _ hlt] at hk ⊢
    by_cases e1 : k = i + 1
    · rw [if_pos e1] at hk; exact absurd hk (by decide)
    · rw [if_neg e1] at hk ⊢
      by_cases e : k = i
      · subst e
        rw [a3]
        exact ⟨hv, h2.2.2 (k, ax_tv ad v) List.mem_cons_self⟩
      · rw [a4 k e] at hk ⊢
        refine ⟨(h.2.2.2 k hk).1, h2.2.2 (k, ax_tv ad (ax_ld ls k)) (List.mem_cons_of_mem _ (List.mem_filter.mpr ⟨ax_lvl_mem.mpr ⟨?_, hk, rfl⟩, ?_⟩))⟩
        · have := ax_ld_lt _ _ hk
          have := h.2.1
          show k < nL
          omega
        · by_cases e2 : k + 1 = i
          · have := ax_tv_cat ad (ax_ld ls k) (a5 k e2)
            simp [e, e1, this]
          · simp [e, e1, e2]
  · cases hs2
/-! the heap -/
def ax_ity (q : Nat) : Option FieldType := if q = 100 then some .int else if q = 102 then some .byte else if q = 103 then some .boolean else none
def ax_rty (q : Nat) : Option FieldType := if q = 110 then some (.object RX7) else if q = 111 then some (.object RX10) else if q = 112 then some (.array .int) else none
def ax_fv (ad : Int → Nat) (ci : Nat) (refs : List Int) (hk : Int → Int) (j : Nat) : Value := if ax_fk (ax_ty ci j) = 2 then va_rf (ax_ro ad (refs.getD j (-1))) else .int (Int32.ofInt (hk j))
def ax_E (ad : Int → Nat) (tys : List (ClassId × FieldType)) (q : Nat × Nat × List Int) (hk : Int → Int) (E : va_E) : Prop :=
  q.2.1 ≤ 60000 ∧
  ((q.1 < 13 ∧ q.2.1 = ax_nf q.1 ∧ q.2.2.length = ax_nf q.1 ∧ (∀ j, ax_r32 (hk j)) ∧ E = .inr (q.1, (List.range q.2.1).map (ax_fv ad q.1 q.2.2 hk))) ∨
  (∃ (ty : FieldType) (cA : ClassId) (t0 : Nat), ax_ity q.1 = some ty ∧ tys[t0]? = some (cA, ty) ∧ (∀ j, ax_r32 (hk j)) ∧ E = .inl (cA, q.2.1, .inl fun j => Int32.ofInt (hk j))) ∨
  (q.1 = 101 ∧ ∃ (cA : ClassId) (t0 : Nat), tys[t0]? = some (cA, .long) ∧ (∀ j, ax_r64 (hk j)) ∧ E = .inl (cA, q.2.1, .inr (.inl fun j => Int64.ofInt (hk j)))) ∨
  (∃ (ty : FieldType) (cA : ClassId) (t0 : Nat), ax_rty q.1 = some ty ∧ tys[t0]? = some (cA, ty) ∧ q.2.2.length = q.2.1 ∧ E = .inl (cA, q.2.1, .inr (.inr (.inr (.inr (fun j => ax_ro ad (q.2.2.getD j (-1)))))))))
def ax_ws (base n : Nat) (ent : Nat → va_E) : va_W := (List.range n).map fun k => (base + k, ent k)
theorem ax_ws_get {base n k : Nat} {ent : Nat → va_E} (h : k < n) : (ax_ws base n ent)[k]? = some (base + k, ent k) := by
  unfold ax_ws; rw [List.getElem?_map, List.getElem?_range h]; rfl
theorem ax_ws_some {base n k : Nat} {ent : Nat → va_E} {q : Nat × va_E} (h : (ax_ws base n ent)[k]? = some q) : k < n ∧ q = (base + k, ent k) := by
  have hk : k < n := by
    have := (List.getElem?_eq_some_iff.mp h).1
    simpa [ax_ws] using this
  rw [ax_ws_get hk] at h
  exact ⟨hk, (Option.some.inj h).symm⟩
theorem ax_ws_D (base n : Nat) (ent : Nat → va_E) : va_D (ax_A base) (ax_ws base n ent) := by
  refine ⟨fun i j p q hi hj e => ?_, fun k q hk => ?_⟩
  · obtain ⟨-, rfl⟩ := ax_ws_some hi
    obtain ⟨-, rfl⟩ := ax_ws_some hj
    have e : base + i = base + j := e
    omega
  · obtain ⟨-, rfl⟩ := ax_ws_some hk
    show base ≤ base + k
    omega
theorem ax_ws_set {base n k : Nat} {ent : Nat → va_E} {E : va_E} (h : k < n) : (ax_ws base n ent).set k (base + k, E) = ax_ws base n (va_up ent k E) := by
  apply List.ext_getElem?
  intro i
  by_cases hi : i < n
  · rw [ax_ws_get hi, List.getElem?_set]
    by_cases e : k = i
    · subst e
      rw [if_pos rfl, if_pos (by simpa [ax_ws] using hi)]
      simp [va_up]
    · rw [if_neg e, ax_ws_get hi]
      simp [va_up, Ne.symm e]
  · rw [List.getElem?_eq_none (by simp [ax_ws]; omega), List.getElem?_eq_none (by simp [ax_ws]; omega)]
theorem ax_ws_push {base n : Nat} {ent : Nat → va_E} {E : va_E} : ax_ws base n ent ++ [(base + n, E)] = ax_ws base (n + 1) (va_up ent n E) := by
  unfold ax_ws
  rw [List.range_succ, List.map_append]
  congr 1
  · apply List.map_congr_left
    intro k hk
    have := List.mem_range.mp hk
    simp [va_up, show k ≠ n by omega]
  · simp [va_up]
def ax_HR (D : va_G) (base : Nat) (ad : Int → Nat) (s : State) (L : ax_L) (h : Int → Int → Int) (H : Heap) : Prop :=
  ∃ (ent : Nat → va_E) (tys : List (ClassId × FieldType)), va_P D vwCl (ax_ws base L.length ent) H ∧ va_K D vwCl tys s ∧ ∀ (k : Nat) (q : Nat × Nat × List Int), L[k]? = some q → ax_E ad tys q (h k) (ent k)
def ax_sl (L : ax_L) : Nat := (L.map fun q => q.2.1).sum
def ax_Rel (D : va_G) (base : Nat) (ad : Int → Nat) (s : State) (nL n0 s0 : Nat) (ls st : List ax_V) (H : ax_H) (lsM : Array Slot) (Hp : Heap) (locs : List Loc) (cells slots : Nat) : Prop :=
  ax_LR ad nL ls lsM ∧ (∀ v ∈ st, ax_ok v) ∧ ax_HR D base ad s H.1 H.2 Hp ∧ va_S (ax_A base) s.heap Hp locs ∧ H.1.length = n0 + cells ∧ ax_sl H.1 = s0 + slots
theorem ax_size {p : Program} {l : Launch} {e : Env} {R : Room} {s : State} {m : MethodId} {args : Array Value} {below : List Frame} {meth : Method} {c : Code} {H : Heap} {locs : List Loc} {cells slots : Nat} {Q : State → Prop} {g : JFrame}
    (k : H.size ≤ s.heap.size + cells → W p l e R s m args below meth c H locs cells slots Q g) : W p l e R s m args below meth c H locs cells slots Q g := fun T hT X => k (by
  have := X.same.2.2.1
  rw [← hT]; exact this) T hT X
