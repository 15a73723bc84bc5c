/-! THE ABSTRACT MACHINE SPEAKS TRUE: contracts -/
def ax_Wd (D : va_G) (base : Nat) (ad : Int → Nat) (H : ax_H) (U : State) : Prop := U.heap.size = base + H.1.length ∧ ax_HR D base ad U H.1 H.2 U.heap
def ax_Qc (D : va_G) (base : Nat) (ad : Int → Nat) (r : ax_V) (H : ax_H) : Array Value → State → Outcome → State → Prop := match r.1 with
  | 0 => va_Qi (fun (z : Int32) (_ : Unit) => z = Int32.ofInt r.2 ∧ ax_r32 r.2) (fun _ t => ax_Wd D base ad H t) (ax_A base)
  | 1 => va_Ql (fun (z : Int64) (_ : Unit) => z = Int64.ofInt r.2 ∧ ax_r64 r.2) (fun _ t => ax_Wd D base ad H t) (ax_A base)
  | 2 => va_Qr (fun (_ : Unit) => r.2 ≠ -1) (fun _ a t => a = ad r.2 ∧ ax_Wd D base ad H t) (ax_A base)
  | _ => va_Qv (fun (_ : Unit) => True) (fun _ t => ax_Wd D base ad H t) (ax_A base)
def ax_Pc (D : va_G) (base : Nat) (ad : Int → Nat) (av : List ax_V) (H : ax_H) : Array Value → State → Prop := va_Pc (av.map (ax_tv ad)) (fun U => ax_Wd D base ad H U ∧ ax_SP base ad U U.heap)
def ax_rm (d : Nat) (H H' : ax_H) : Room := { frames := d + 8, cells := H'.1.length - H.1.length, slots := ax_sl H'.1 - ax_sl H.1, locals := 64 * d + 512 }
theorem ax_HR.moved {D : va_G} {base : Nat} {ad : Int → Nat} {s U : State} {L : ax_L} {h : Int → Int → Int} {H : Heap} (hvm : s.vm.Alike U.vm) (hh : ax_HR D base ad s L h H) : ax_HR D base ad U L h H := by
  obtain ⟨ent, tys, h1, h2, h3⟩ := hh
  exact ⟨ent, tys, h1, va_K.moved hvm h2, h3⟩
theorem ax_blind (D : va_G) (base : Nat) (ad : Int → Nat) (av : List ax_V) (H : ax_H) : FrameBlind (ax_Pc D base ad av H) := by
  intro a U g mk q
  obtain ⟨q1, ⟨q2, q3⟩, q4⟩ := q
  refine ⟨q1, ⟨q2, ax_HR.moved (s := U) (U := U.calling g mk a) (Vm.Alike.refl U.vm) q3⟩, ?_⟩
  exact ax_SP.go (s := U) (U := U.calling g mk a) (H := U.heap) (locs := []) q4 (State.WarmedH.refl U) va_S.rf
/-! entry -/
theorem ax_ex_len : ∀ av : List ax_V, (ax_ex av).length = (av.map fun v => if v.1 = 1 then 2 else 1).sum
  | [] => rfl
  | v :: r => by
    have := ax_ex_len r
    unfold ax_ex
    split <;> rename_i h <;> simp [h, this] <;> omega
theorem ax_ld_app : ∀ (a b : List ax_V) (k : Nat), ax_ld (a ++ b) k = if k < a.length then ax_ld a k else ax_ld b (k - a.length)
  | [], b, k => by simp
  | u :: a, b, 0 => by simp [ax_ld]
  | u :: a, b, k + 1 => by
    have := ax_ld_app a b k
    simp only [List.cons_append, ax_ld, this, List.length_cons]
    by_cases h : k < a.length
    · rw [if_pos h, if_pos (by omega)]
    · rw [if_neg h, if_neg (by omega), show k + 1 - (a.length + 1) = k - a.length by omega]
theorem ax_ld_rep : ∀ (n k : Nat), ax_ld (List.replicate n (9, 0)) k = (9, 0)
  | 0, k => by simp [ax_ld]
  | n + 1, 0 => by simp [List.replicate_succ, ax_ld]
  | n + 1, k + 1 => by simp [List.replicate_succ, ax_ld, ax_ld_rep n k]
theorem ax_ex_args (ad : Int → Nat) : ∀ (av : List ax_V) (i k : Nat), (ax_ld (ax_ex av) k).1 ≤ 2 → (i + k, ax_tv ad (ax_ld (ax_ex av) k)) ∈ lv_args i (av.map (ax_tv ad)) ∧ ax_ld (ax_ex av) k ∈ av
  | [], i, k, h => by simp [ax_ex, ax_ld] at h
  | v :: r, i, k, h => by
    by_cases h1 : v.1 = 1
    · have e : ax_ex (v :: r) = v :: (9, 0) :: ax_ex r := by rw [ax_ex, if_pos h1]
      rw [e] at h ⊢
      match k, h with
      | 0, h => exact ⟨List.mem_cons_self, List.mem_cons_self⟩
      | 1, h => exact absurd h (by show ¬ (9 : Nat) ≤ 2; omega)
      | k + 2, h =>
        have hc : (ax_tv ad v).category = 2 := by
          obtain ⟨t, x⟩ := v
          cases h1
          rfl
        obtain ⟨i1, i2⟩ := ax_ex_args ad r (i + 2) k h
        refine ⟨?_, List.mem_cons_of_mem _ i2⟩
        show (i + (k + 2), ax_tv ad (ax_ld (ax_ex r) k)) ∈ (i, ax_tv ad v) :: lv_args (if (ax_tv ad v).category = 2 then i + 2 else i + 1) (r.map (ax_tv ad))
        rw [if_pos hc, show i + (k + 2) = i + 2 + k by omega]
        exact List.mem_cons_of_mem _ i1
    · have e : ax_ex (v :: r) = v :: ax_ex r := by rw [ax_ex, if_neg h1]
      rw [e] at h ⊢
      match k, h with
      | 0, h => exact ⟨List.mem_cons_self, List.mem_cons_self⟩
      | k + 1, h =>
        have hc : ¬ (ax_tv ad v).category = 2 := by rw [ax_tv_cat ad v h1]; omega
        obtain ⟨i1, i2⟩ := ax_ex_args ad r (i + 1) k h
        refine ⟨?_, List.mem_cons_of_mem _ i2⟩
        show (i + (k + 1), ax_tv ad (ax_ld (ax_ex r) k)) ∈ (i, ax_tv ad v) :: lv_args (if (ax_tv ad v).category = 2 then i + 2 else i + 1) (r.map (ax_tv ad))
        rw [if_neg hc, show i + (k + 1) = i + 1 + k by omega]
        exact List.mem_cons_of_mem _ i1
theorem ax_sl_len (ad : Int → Nat) : ∀ av : List ax_V, (lg_sl (av.map (ax_tv ad))).length = (ax_ex av).length
  | [] => rfl
  | v :: r => by
    have := ax_sl_len ad r
    by_cases h1 : v.1 = 1
    · have hc : (ax_tv ad v).category = 2 := by
        obtain ⟨t, x⟩ := v
        cases h1
        rfl
      rw [ax_ex, if_pos h1, List.map_cons]
      have e : lg_sl (ax_tv ad v :: r.map (ax_tv ad)) = (if (ax_tv ad v).category = 2 then [Slot.val (ax_tv ad v), .second] else [Slot.val (ax_tv ad v)]) ++ lg_sl (r.map (ax_tv ad)) := by simp [lg_sl]
      rw [e, if_pos hc, List.length_append, this]
      simp; omega
    · have hc := ax_tv_cat ad v h1
      rw [ax_ex, if_neg h1, List.map_cons]
      have e : lg_sl (ax_tv ad v :: r.map (ax_tv ad)) = (if (ax_tv ad v).category = 2 then [Slot.val (ax_tv ad v), .second] else [Slot.val (ax_tv ad v)]) ++ lg_sl (r.map (ax_tv ad)) := by simp [lg_sl]
      rw [e, if_neg (by omega), List.length_append, this]
      simp; omega
theorem ax_entry {ad : Int → Nat} {av : List ax_V} {n k : Nat} (hok : ∀ v ∈ av, ax_ok v) (hn : (ax_ex av).length + k = n) :
    ax_LR ad n (ax_ex av ++ List.replicate k (9, 0)) ((lg_sl (av.map (ax_tv ad)) ++ List.replicate (n - (lg_sl (av.map (ax_tv ad))).length) Slot.unset).toArray) := by
  have hl := lv_entry (av.map (ax_tv ad)) (n := n) (by rw [ax_sl_len]; omega)
  refine ⟨hl.1, by simp; omega, hl.2.1, fun j hj => ?_⟩
  rw [ax_ld_app] at hj ⊢
  by_cases h : j < (ax_ex av).length
  · rw [if_pos h] at hj ⊢
    obtain ⟨i1, i2⟩ := ax_ex_args ad av 0 j hj
    rw [Nat.zero_add] at i1
    exact ⟨hok _ i2, hl.2.2 _ i1⟩
  · rw [if_neg h, ax_ld_rep] at hj
    exact absurd hj (by show ¬ (9 : Nat) ≤ 2; omega)
theorem ax_tk_spec : ∀ (ts : List Nat) (st as rest : List ax_V), ax_tk ts st = some (as, rest) → st = as.reverse ++ rest ∧ as.reverse.map (·.1) = ts
  | [], st, as, rest, h => by cases h; exact ⟨rfl, rfl⟩
  | t :: ts, [], as, rest, h => by simp [ax_tk] at h
  | t :: ts, v :: st, as, rest, h => by
    unfold ax_tk at h
    split at h
    · rename_i hv
      obtain ⟨q, hq, h2⟩ := Option.map_eq_some_iff.mp h
      obtain ⟨q1, q2⟩ := q
      cases h2
      obtain ⟨i1, i2⟩ := ax_tk_spec ts st q1 q2 hq
      refine ⟨by rw [i1]; simp, by simp [i2, hv]⟩
    · cases h
theorem ax_hsz {D : va_G} {base : Nat} {ad : Int → Nat} {s : State} {nL n0 s0 : Nat} {ls st : List ax_V} {H : ax_H} {lsM : Array Slot} {Hp : Heap} {locs : List Loc} {cells slots : Nat} (hsz : s.heap.size = base + n0) (hr : ax_Rel D base ad s nL n0 s0 ls st H lsM Hp locs cells slots) (hz : Hp.size ≤ s.heap.size + cells) : Hp.size = base + H.1.length := by
  obtain ⟨ent, tys, hP, hK, hE⟩ := hr.2.2.1
  have hS := hr.2.2.2.1.1
  have hl := hr.2.2.2.2.1
  have h1 : base + H.1.length ≤ Hp.size := by
    by_cases h0 : H.1.length = 0
    · omega
    · have := (hP (H.1.length - 1) _ (ax_ws_get (by omega))).lt
      have : base + (H.1.length - 1) < Hp.size := this
      omega
  omega
theorem ax_go_tag : ∀ (n d m : Nat) (o : Option ax_I) (pc : Nat) (ls st : List ax_V) (H : ax_H) (q : ax_V × ax_H), ax_go n d m o pc ls st H = some q → q.1.1 = 0 ∨ q.1.1 = 1 ∨ q.1.1 = 2 ∨ q.1.1 = 9 := by
  intro n
  induction n with
  | zero => intro d m o pc ls st H q h; simp [ax_go] at h
  | succ n ih =>
    intro d m o pc ls st H q h
    match o, h with
    | none, h => simp [ax_go] at h
    | some (op, ops, v, len), h =>
      unfold ax_go at h
      by_cases h1 : op = 55
      · rw [if_pos h1] at h
        by_cases h2 : d = 0
        · rw [if_pos h2] at h; cases h
        · rw [if_neg h2] at h
          obtain ⟨a, ha, h⟩ := Option.bind_eq_some_iff.mp h
          obtain ⟨b, hb, h⟩ := Option.bind_eq_some_iff.mp h
          exact ih _ _ _ _ _ _ _ _ h
      · rw [if_neg h1] at h
        by_cases h2 : 50 ≤ op ∧ op ≤ 54
        · rw [if_pos h2] at h
          obtain ⟨r, hr, h⟩ := Option.map_eq_some_iff.mp h
          cases h
          unfold ax_rt at hr
          split at hr
          · split at hr
            · rename_i e; cases hr; exact Or.inl e
            · cases hr
          · split at hr
            · rename_i e; cases hr; exact Or.inl e.1
            · cases hr
          · split at hr
            · rename_i e; cases hr; exact Or.inr (Or.inl e)
            · cases hr
          · split at hr
            · rename_i e; cases hr; exact Or.inr (Or.inr (Or.inl e.1))
            · cases hr
          · cases hr; exact Or.inr (Or.inr (Or.inr rfl))
          · cases hr
        · rw [if_neg h2] at h
          obtain ⟨a, ha, h⟩ := Option.bind_eq_some_iff.mp h
          exact ih _ _ _ _ _ _ _ _ h
/-- what the tables say of a method -/
theorem ax_mfacts {m : Nat} {q : ax_MT} (hq : ax_Ml[m]? = some q) : Cond.code q.1 q.2.1 q.2.2.1 q.2.2.2.1 ∈ ax_tt ∧ Cond.initialized q.1.cls ∈ ax_tt ∧
    (q.2.2.2.2.2.1 = 0 → Cond.instanceMethod q.1 ∈ ax_tt ∧ Cond.selects q.1.cls q.1 q.1 ∈ ax_tt ∧ q.2.2.2.2.2.2.1.head? = some 2 ∧ ax_Cn q.2.2.2.2.1 = q.1.cls ∧ q.2.2.2.2.1 < 13) ∧
    (q.2.2.2.2.2.1 = 1 → Cond.static q.1 ∈ ax_tt) ∧
    (q.2.2.2.2.2.1 = 2 → Cond.instanceMethod q.1 ∈ ax_tt ∧ q.1.name = "<init>" ∧ q.2.2.2.1 = none ∧ q.2.2.2.2.2.2.1.head? = some 2 ∧ ax_Cn q.2.2.2.2.1 = q.1.cls ∧ q.2.2.2.2.1 < 13) ∧
    ax_ow q.2.2.2.2.1 = q.1.cls ∧ plainName q.1.cls = true ∧ (q.1.cls ≠ "java/lang/invoke/MethodHandle" ∧ q.1.cls ≠ "java/lang/invoke/VarHandle") ∧
    (parseMethodDescriptor q.1.desc).map (fun d => d.parameters.length) = some (if q.2.2.2.2.2.1 = 1 then q.2.2.2.2.2.2.1.length else q.2.2.2.2.2.2.1.length - 1) ∧
    (q.2.2.2.2.2.2.1.map fun t => if t = 1 then 2 else 1).sum ≤ q.2.2.1 ∧ q.2.2.1 ≤ 20 ∧ q.2.2.2.2.2.1 ≤ 2 := by
  have hm := List.mem_of_getElem? hq
  have h1 := List.all_eq_true.mp ax_Ml_ok q hm
  have h2 := ax_cwl q hm
  unfold ax_okM at h1
  simp only [Bool.and_eq_true, decide_eq_true_eq] at h1
  obtain ⟨⟨⟨⟨⟨⟨⟨⟨a1, a2⟩, a3⟩, a4⟩, a5⟩, a6⟩, a7⟩, a8⟩, a9⟩ := h1
  refine ⟨ax_tti h2 rfl, ax_tti (ax_lw a1) rfl, fun hk => ?_, fun hk => ?_, fun hk => ?_, a3, a4, a5, a6, a7, a8, ?_⟩
  · rw [hk] at a2
    simp only [Bool.and_eq_true, decide_eq_true_eq] at a2
    exact ⟨ax_tti (ax_lw a2.1.1.1.1) rfl, ax_tti (ax_lw a2.1.1.1.2) rfl, a2.1.1.2, a2.1.2, a2.2⟩
  · rw [hk] at a2
    exact ax_tti (ax_lw a2) rfl
  · rw [hk] at a2
    simp only [Bool.and_eq_true, decide_eq_true_eq] at a2
    exact ⟨ax_tti (ax_lw a2.1.1.1.1.1) rfl, a2.1.1.1.1.2, a2.1.1.1.2, a2.1.1.2, a2.1.2, a2.2⟩
  · split at a2
    · omega
    · omega
    · omega
    · cases a2
