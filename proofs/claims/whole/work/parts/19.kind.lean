/-! which instructions are returns and calls; the returns -/
set_option maxHeartbeats 2000000 in
theorem ax_R_kind {o kind : Nat} {ret : Option FieldType} {pc : Nat} {i : Instr} {op : Nat} {ops : List Nat} {v : Int} (hR : ax_R o kind ret pc i = some (op, ops, v)) :
    (op < 50 ∨ 55 < op) ∨ (op = 55 ∧ ((∃ k, i = .invokevirtual k) ∨ (∃ k, i = .invokestatic k) ∨ ∃ k, i = .invokespecial k)) ∨ (i = .ireturn ∨ i = .lreturn ∨ i = .areturn ∨ i = .return_) := by
  cases i with
  | ireturn => exact Or.inr (Or.inr (Or.inl rfl))
  | lreturn => exact Or.inr (Or.inr (Or.inr (Or.inl rfl)))
  | areturn => exact Or.inr (Or.inr (Or.inr (Or.inr (Or.inl rfl))))
  | return_ => exact Or.inr (Or.inr (Or.inr (Or.inr (Or.inr rfl))))
  | ldc k =>
    simp only [ax_R] at hR
    split at hR
    · cases hR; exact Or.inl (by omega)
    · obtain ⟨w, -, h2⟩ := Option.map_eq_some_iff.mp hR; cases h2; exact Or.inl (by omega)
  | ldc_w k =>
    simp only [ax_R] at hR
    split at hR
    · cases hR; exact Or.inl (by omega)
    · obtain ⟨w, -, h2⟩ := Option.map_eq_some_iff.mp hR; cases h2; exact Or.inl (by omega)
  | ldc2_w k => obtain ⟨w, -, h2⟩ := Option.map_eq_some_iff.mp hR; cases h2; exact Or.inl (by omega)
  | getfield k =>
    obtain ⟨w, -, h2⟩ := Option.bind_eq_some_iff.mp hR
    unfold ax_getop at h2
    split at h2
    · cases h2
    · split at h2
      · cases h2; exact Or.inl (by omega)
      · cases h2; exact Or.inl (by omega)
      · cases h2; exact Or.inl (by omega)
      · cases h2
  | putfield k =>
    obtain ⟨w, -, h2⟩ := Option.bind_eq_some_iff.mp hR
    unfold ax_putop at h2
    split at h2
    · cases h2
    · split at h2
      · cases h2
      · split at h2
        · cases h2; exact Or.inl (by omega)
        · cases h2; exact Or.inl (by omega)
        · cases h2; exact Or.inl (by omega)
        · cases h2
  | ifCond cd off => obtain ⟨w, -, h2⟩ := Option.map_eq_some_iff.mp hR; cases h2; exact Or.inl (by omega)
  | if_icmp cd off => obtain ⟨w, -, h2⟩ := Option.map_eq_some_iff.mp hR; cases h2; exact Or.inl (by omega)
  | goto off => obtain ⟨w, -, h2⟩ := Option.map_eq_some_iff.mp hR; cases h2; exact Or.inl (by omega)
  | tableswitch a b c d =>
    simp only [ax_R] at hR
    split at hR
    · obtain ⟨t, -, h2⟩ := Option.bind_eq_some_iff.mp hR
      obtain ⟨ts, -, h2⟩ := Option.map_eq_some_iff.mp h2
      cases h2; exact Or.inl (by omega)
    · cases hR
  | lookupswitch a b =>
    simp only [ax_R] at hR
    split at hR
    · obtain ⟨t, -, h2⟩ := Option.bind_eq_some_iff.mp hR
      obtain ⟨ts, -, h2⟩ := Option.map_eq_some_iff.mp h2
      cases h2; exact Or.inl (by omega)
    · cases hR
  | invokevirtual k =>
    simp only [ax_R] at hR
    split at hR
    · split at hR
      · cases hR; exact Or.inr (Or.inl ⟨rfl, Or.inl ⟨k, rfl⟩⟩)
      · cases hR
    · obtain ⟨x, -, h2⟩ := Option.bind_eq_some_iff.mp hR
      split at h2
      · cases h2; exact Or.inl (by omega)
      · cases h2
  | invokestatic k =>
    simp only [ax_R] at hR
    split at hR
    · split at hR
      · cases hR; exact Or.inr (Or.inl ⟨rfl, Or.inr (Or.inl ⟨k, rfl⟩)⟩)
      · cases hR
    · obtain ⟨x, -, h2⟩ := Option.bind_eq_some_iff.mp hR
      split at h2
      · cases h2; exact Or.inl (by omega)
      · cases h2
  | invokespecial k =>
    simp only [ax_R] at hR
    split at hR
    · cases hR; exact Or.inr (Or.inl ⟨rfl, Or.inr (Or.inr ⟨k, rfl⟩)⟩)
    · obtain ⟨x, -, h2⟩ := Option.bind_eq_some_iff.mp hR
      split at h2
      · cases h2; exact Or.inl (by omega)
      · cases h2
  | new k => obtain ⟨w, -, h2⟩ := Option.map_eq_some_iff.mp hR; cases h2; exact Or.inl (by omega)
  | newarray t => obtain ⟨w, -, h2⟩ := Option.map_eq_some_iff.mp hR; cases h2; exact Or.inl (by omega)
  | anewarray k => obtain ⟨w, -, h2⟩ := Option.map_eq_some_iff.mp hR; cases h2; exact Or.inl (by omega)
  | multianewarray k n =>
    simp only [ax_R] at hR
    split at hR
    · cases hR; exact Or.inl (by omega)
    · cases hR
  | _ => first | (cases hR; exact Or.inl (by omega)) | (cases hR; done)
section AXR
variable {p : Program} {l : Launch} {e : Env} {R : Room} {s : State} {mi : MethodId} {args : Array Value} {below : List Frame} {meth : Method} {c : Code} {D : va_G} {base : Nat} {ad : Int → Nat} {nL n0 s0 : Nat}
theorem ax_rets {q : ax_MT} {d : Nat} (C : ax_CX p R s mi args meth c base ad q nL n0 d) {pc len : Nat} {i : Instr} {op : Nat} {ops : List Nat} {v : Int} {ls st : List ax_V} {H : ax_H} {r : ax_V}
    (hd : decode q.2.1 pc = .ok (i, len)) (hle : ¬ (ax_le i ≠ 0 ∧ ax_le i ≠ len)) (hR : ax_R q.2.2.2.2.1 q.2.2.2.2.2.1 q.2.2.2.1 pc i = some (op, ops, v)) (hi : i = .ireturn ∨ i = .lreturn ∨ i = .areturn ∨ i = .return_) (hrt : ax_rt op st = some r)
    (hL : H.1.length = n0 + R.cells) (hS : ax_sl H.1 = s0 + R.slots) : ax_G p l e R s mi args below meth c (MQ below (ax_Qc D base ad r H) args s R.cells R.slots (ax_A base)) D base ad nL n0 s0 pc ls st H := by
  obtain ⟨hx, hb, hml, hown, hret, hlocks, hname, hts, hSP, hsz, had, hRf, hRl⟩ := C
  intro lsM Hp locs cells slots hr
  refine ax_size (fun hz => ?_)
  have hpz := ax_hsz hsz hr hz
  have hc : R.cells = cells := by have := hr.2.2.2.2.1; omega
  have hs : R.slots = slots := by have := hr.2.2.2.2.2; omega
  rw [hc, hs]
  have hSS := hr.2.2.2.1
  have hfree : ∀ z ∈ locs, ax_A base z.base := hSS.2.2
  have hwd : ∀ t : State, t.heap = Hp → s.WarmedH t.vm → ax_Wd D base ad H t := fun t ht hW => ⟨by rw [ht]; exact hpz, by rw [ht]; exact ax_HR.moved hW.alike hr.2.2.1⟩
  rcases hi with rfl | rfl | rfl | rfl
  · have hlen : len = 1 := by simp [ax_le] at hle; omega
    subst hlen
    simp only [ax_R] at hR
    split at hR
    · rename_i hq
      cases hR
      match st, hrt with
      | [], hrt => cases hrt
      | [u], hrt =>
        have h1 : (if u.1 = 0 then some u else none) = some r := hrt
        split at h1
        · rename_i hu
          obtain ⟨t, x⟩ := u
          cases h1
          cases hu
          have hxr := ax_ok0 (ax_okh hr.2.1)
          exact W.iret hx hb (by rw [hret, hq]) (fun t ht hW => ⟨⟨Int32.ofInt x, (), rfl, ⟨rfl, hxr⟩, hwd t ht hW⟩, hSS.F ht⟩) hfree hd
        · cases h1
      | u :: w :: z, hrt => cases hrt
    · rename_i hq
      cases hR
      match st, hrt with
      | [], hrt => cases hrt
      | [u], hrt =>
        have h1 : (if u.1 = 0 ∧ (u.2 = 0 ∨ u.2 = 1) then some u else none) = some r := hrt
        split at h1
        · rename_i hu
          obtain ⟨t, x⟩ := u
          cases h1
          obtain ⟨hu, hz⟩ := hu
          cases hu
          have hxr := ax_ok0 (ax_okh hr.2.1)
          have hnar : narrow .boolean (.int (Int32.ofInt x)) = .int (Int32.ofInt x) := by
            have hz : x = 0 ∨ x = 1 := hz
            rcases hz with rfl | rfl <;> rfl
          exact W.zret hx hb (by rw [hret, hq]) hnar (fun t ht hW => ⟨⟨Int32.ofInt x, (), rfl, ⟨rfl, hxr⟩, hwd t ht hW⟩, hSS.F ht⟩) hfree hd
        · cases h1
      | u :: w :: z, hrt => cases hrt
    · cases hR
  · have hlen : len = 1 := by simp [ax_le] at hle; omega
    subst hlen
    simp only [ax_R] at hR
    split at hR
    · rename_i hq
      cases hR
      match st, hrt with
      | [], hrt => cases hrt
      | [u], hrt =>
        have h1 : (if u.1 = 1 then some u else none) = some r := hrt
        split at h1
        · rename_i hu
          obtain ⟨t, x⟩ := u
          cases h1
          cases hu
          have hxr := ax_ok1 (ax_okh hr.2.1)
          exact W.lret hx hb (by rw [hret, hq]) (fun t ht hW => ⟨⟨Int64.ofInt x, (), rfl, ⟨rfl, hxr⟩, hwd t ht hW⟩, hSS.F ht⟩) hfree hd
        · cases h1
      | u :: w :: z, hrt => cases hrt
    · cases hR
  · have hlen : len = 1 := by simp [ax_le] at hle; omega
    subst hlen
    simp only [ax_R] at hR
    split at hR
    · rename_i nm hq
      cases hR
      match st, hrt with
      | [], hrt => cases hrt
      | [u], hrt =>
        have h1 : (if u.1 = 2 ∧ u.2 ≠ -1 then some u else none) = some r := hrt
        split at h1
        · rename_i hu
          obtain ⟨t, x⟩ := u
          cases h1
          obtain ⟨hu, hz⟩ := hu
          cases hu
          have hv : ax_tv ad (2, x) = .ref (ad x) := by
            show va_rf (ax_ro ad x) = _
            unfold ax_ro
            rw [if_neg hz]
            rfl
          show W p l e R s mi args below meth c Hp locs cells slots _ (F0 mi pc lsM [ax_tv ad (2, x)])
          rw [hv]
          exact W.aret hx hb (by rw [hret, hq]) (Or.inl ⟨_, rfl⟩) (Or.inr ⟨_, rfl⟩) (fun t ht hW => ⟨⟨(), ad x, rfl, hz, rfl, hwd t ht hW⟩, hSS.F ht⟩) hfree hd
        · cases h1
      | u :: w :: z, hrt => cases hrt
    · cases hR
  · have hlen : len = 1 := by simp [ax_le] at hle; omega
    subst hlen
    simp only [ax_R] at hR
    split at hR
    · rename_i hq
      cases hR
      match st, hrt with
      | [], hrt =>
        cases hrt
        exact W.vret hx hb (by rw [hret, hq]) (fun t ht hW => ⟨⟨(), rfl, trivial, hwd t ht hW⟩, hSS.F ht⟩) hfree hd
      | u :: w, hrt => cases hrt
    · cases hR
end AXR
