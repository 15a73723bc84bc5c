/-! ANY STEP; written by wip/whole/gen_main.py -/
theorem ax_pp_inv {t : Nat} {st : List ax_V} {q : Int × List ax_V} (h : ax_pp t st = some q) : st = (t, q.1) :: q.2 := by
  unfold ax_pp at h
  split at h
  · cases h
  · rename_i v r
    split at h
    · rename_i e
      cases h
      obtain ⟨a, b⟩ := v
      cases e
      rfl
    · cases h
theorem ax_ldt_inv {t : Nat} {ls : List ax_V} {k : Nat} {x : Int} (h : ax_ldt t ls k = some x) : ax_ld ls k = (t, x) := by
  unfold ax_ldt at h
  split at h
  · rename_i e
    cases h
    rw [← e]
  · cases h
/-- what a method's body stands on -/
def ax_CX (p : Program) (R : Room) (s : State) (mi : MethodId) (args : Array Value) (meth : Method) (c : Code) (base : Nat) (ad : Int → Nat) (q : ax_MT) (nL n0 d : Nat) : Prop :=
  p.tables.exec = Jvm.exec ∧ c.code = q.2.1 ∧ c.maxLocals = nL ∧ s.vm.findClass (ax_ow q.2.2.2.2.1) = some mi.cls ∧ meth.sig.returnType = q.2.2.2.1 ∧ meth.locks = false ∧ (q.2.2.2.2.2.1 = 2 → meth.name = "<init>") ∧ (∀ w ∈ ax_tt, w.before args s = true) ∧ ax_SP base ad s s.heap ∧ s.heap.size = base + n0 ∧ (∀ i : Int, 0 ≤ i → ad i = base + i.toNat) ∧ d + 8 ≤ R.frames ∧ 64 * d + 512 ≤ R.locals
theorem ax_cilink {o k : Nat} {v : Int} (h : ax_Ci o k = some v) : Cond.constant (ax_ow o) k (Int32.ofInt v) ∈ ax_tt ∧ ax_r32 v := by
  unfold ax_Ci at h
  obtain ⟨e, he, h2⟩ := Option.map_eq_some_iff.mp h
  have hm := List.mem_of_find?_eq_some he
  have hp := List.find?_some he
  simp only [Bool.and_eq_true, beq_iff_eq] at hp
  have h1 := List.all_eq_true.mp ax_Kc_ok e hm
  simp only [Bool.and_eq_true, decide_eq_true_eq] at h1
  obtain ⟨a1, a2, a3, a4⟩ := e
  cases h2
  obtain ⟨rfl, rfl⟩ := hp
  exact ⟨ax_tti (ax_lw h1.1) rfl, h1.2⟩
theorem ax_cllink {o k : Nat} {v : Int} (h : ax_Cl o k = some v) : Cond.constantLong (ax_ow o) k (Int64.ofInt v) ∈ ax_tt ∧ ax_r64 v := by
  unfold ax_Cl at h
  obtain ⟨e, he, h2⟩ := Option.map_eq_some_iff.mp h
  have hm := List.mem_of_find?_eq_some he
  have hp := List.find?_some he
  simp only [Bool.and_eq_true, beq_iff_eq] at hp
  have h1 := List.all_eq_true.mp ax_Kl_ok e hm
  simp only [Bool.and_eq_true, decide_eq_true_eq] at h1
  obtain ⟨a1, a2, a3, a4⟩ := e
  cases h2
  obtain ⟨rfl, rfl⟩ := hp
  exact ⟨ax_tti (ax_lw h1.1) rfl, h1.2⟩
section AXM
variable {p : Program} {l : Launch} {e : Env} {R : Room} {s : State} {mi : MethodId} {args : Array Value} {below : List Frame} {meth : Method} {c : Code} {Q : State → Prop} {D : va_G} {base : Nat} {ad : Int → Nat} {nL n0 s0 : Nat}
set_option maxHeartbeats 4000000 in
theorem ax_sim {q : ax_MT} {d : Nat} (C : ax_CX p R s mi args meth c base ad q nL n0 d) {pc len : Nat} {i : Instr} {op : Nat} {ops : List Nat} {v : Int} {ls st : List ax_V} {H : ax_H} {pc' : Nat} {ls' st' : List ax_V} {H' : ax_H}
    (hd : decode q.2.1 pc = .ok (i, len)) (hle : ¬ (ax_le i ≠ 0 ∧ ax_le i ≠ len)) (hR : ax_R q.2.2.2.2.1 q.2.2.2.2.2.1 q.2.2.2.1 pc i = some (op, ops, v)) (hop : op < 50 ∨ 55 < op) (hst : ax_st op ops v len pc ls st H = some (pc', ls', st', H'))
    (hrc : H.1.length ≤ n0 + R.cells ∧ ax_sl H.1 ≤ s0 + R.slots) (hrm : H'.1.length ≤ n0 + R.cells ∧ ax_sl H'.1 ≤ s0 + R.slots) (kk : ax_G p l e R s mi args below meth c Q D base ad nL n0 s0 pc' ls' st' H') : ax_G p l e R s mi args below meth c Q D base ad nL n0 s0 pc ls st H := by
  obtain ⟨hx, hb, hml, hown, hret, hlocks, hname, hts, hSP, hsz, had, hRf, hRl⟩ := C
  have hRf1 : 1 ≤ R.frames := by omega
  have hRl1 : 200 ≤ R.locals := by omega
  cases i with
  | iadd =>
    have hlen : len = 1 := by simp [ax_le] at hle; omega
    subst hlen
    cases hR
    have h1 : (ax_pp 0 st).bind (fun y => (ax_pp 0 y.2).bind fun x => (ax_b32 24 x.1 y.1).map fun z => (pc + 1, ls, (0, z) :: x.2, H)) = some (pc', ls', st', H') := hst
    obtain ⟨y, hy, h1⟩ := Option.bind_eq_some_iff.mp h1
    obtain ⟨x, hx1, h1⟩ := Option.bind_eq_some_iff.mp h1
    obtain ⟨z, hz, h1⟩ := Option.map_eq_some_iff.mp h1
    cases h1
    cases hz
    rw [ax_pp_inv hy, ax_pp_inv hx1]
    exact as_iadd hx hb hd kk
  | isub =>
    have hlen : len = 1 := by simp [ax_le] at hle; omega
    subst hlen
    cases hR
    have h1 : (ax_pp 0 st).bind (fun y => (ax_pp 0 y.2).bind fun x => (ax_b32 25 x.1 y.1).map fun z => (pc + 1, ls, (0, z) :: x.2, H)) = some (pc', ls', st', H') := hst
    obtain ⟨y, hy, h1⟩ := Option.bind_eq_some_iff.mp h1
    obtain ⟨x, hx1, h1⟩ := Option.bind_eq_some_iff.mp h1
    obtain ⟨z, hz, h1⟩ := Option.map_eq_some_iff.mp h1
    cases h1
    cases hz
    rw [ax_pp_inv hy, ax_pp_inv hx1]
    exact as_isub hx hb hd kk
  | imul =>
    have hlen : len = 1 := by simp [ax_le] at hle; omega
    subst hlen
    cases hR
    have h1 : (ax_pp 0 st).bind (fun y => (ax_pp 0 y.2).bind fun x => (ax_b32 26 x.1 y.1).map fun z => (pc + 1, ls, (0, z) :: x.2, H)) = some (pc', ls', st', H') := hst
    obtain ⟨y, hy, h1⟩ := Option.bind_eq_some_iff.mp h1
    obtain ⟨x, hx1, h1⟩ := Option.bind_eq_some_iff.mp h1
    obtain ⟨z, hz, h1⟩ := Option.map_eq_some_iff.mp h1
    cases h1
    cases hz
    rw [ax_pp_inv hy, ax_pp_inv hx1]
    exact as_imul hx hb hd kk
  | iand =>
    have hlen : len = 1 := by simp [ax_le] at hle; omega
    subst hlen
    cases hR
    have h1 : (ax_pp 0 st).bind (fun y => (ax_pp 0 y.2).bind fun x => (ax_b32 29 x.1 y.1).map fun z => (pc + 1, ls, (0, z) :: x.2, H)) = some (pc', ls', st', H') := hst
    obtain ⟨y, hy, h1⟩ := Option.bind_eq_some_iff.mp h1
    obtain ⟨x, hx1, h1⟩ := Option.bind_eq_some_iff.mp h1
    obtain ⟨z, hz, h1⟩ := Option.map_eq_some_iff.mp h1
    cases h1
    cases hz
    rw [ax_pp_inv hy, ax_pp_inv hx1]
    exact as_iand hx hb hd kk
  | ior =>
    have hlen : len = 1 := by simp [ax_le] at hle; omega
    subst hlen
    cases hR
    have h1 : (ax_pp 0 st).bind (fun y => (ax_pp 0 y.2).bind fun x => (ax_b32 30 x.1 y.1).map fun z => (pc + 1, ls, (0, z) :: x.2, H)) = some (pc', ls', st', H') := hst
    obtain ⟨y, hy, h1⟩ := Option.bind_eq_some_iff.mp h1
    obtain ⟨x, hx1, h1⟩ := Option.bind_eq_some_iff.mp h1
    obtain ⟨z, hz, h1⟩ := Option.map_eq_some_iff.mp h1
    cases h1
    cases hz
    rw [ax_pp_inv hy, ax_pp_inv hx1]
    exact as_ior hx hb hd kk
  | ishl =>
    have hlen : len = 1 := by simp [ax_le] at hle; omega
    subst hlen
    cases hR
    have h1 : (ax_pp 0 st).bind (fun y => (ax_pp 0 y.2).bind fun x => (ax_b32 31 x.1 y.1).map fun z => (pc + 1, ls, (0, z) :: x.2, H)) = some (pc', ls', st', H') := hst
    obtain ⟨y, hy, h1⟩ := Option.bind_eq_some_iff.mp h1
    obtain ⟨x, hx1, h1⟩ := Option.bind_eq_some_iff.mp h1
    obtain ⟨z, hz, h1⟩ := Option.map_eq_some_iff.mp h1
    cases h1
    cases hz
    rw [ax_pp_inv hy, ax_pp_inv hx1]
    exact as_ishl hx hb hd kk
  | ishr =>
    have hlen : len = 1 := by simp [ax_le] at hle; omega
    subst hlen
    cases hR
    have h1 : (ax_pp 0 st).bind (fun y => (ax_pp 0 y.2).bind fun x => (ax_b32 32 x.1 y.1).map fun z => (pc + 1, ls, (0, z) :: x.2, H)) = some (pc', ls', st', H') := hst
    obtain ⟨y, hy, h1⟩ := Option.bind_eq_some_iff.mp h1
    obtain ⟨x, hx1, h1⟩ := Option.bind_eq_some_iff.mp h1
    obtain ⟨z, hz, h1⟩ := Option.map_eq_some_iff.mp h1
    cases h1
    cases hz
    rw [ax_pp_inv hy, ax_pp_inv hx1]
    exact as_ishr hx hb hd kk
  | iushr =>
    have hlen : len = 1 := by simp [ax_le] at hle; omega
    subst hlen
    cases hR
    have h1 : (ax_pp 0 st).bind (fun y => (ax_pp 0 y.2).bind fun x => (ax_b32 33 x.1 y.1).map fun z => (pc + 1, ls, (0, z) :: x.2, H)) = some (pc', ls', st', H') := hst
    obtain ⟨y, hy, h1⟩ := Option.bind_eq_some_iff.mp h1
    obtain ⟨x, hx1, h1⟩ := Option.bind_eq_some_iff.mp h1
    obtain ⟨z, hz, h1⟩ := Option.map_eq_some_iff.mp h1
    cases h1
    cases hz
    rw [ax_pp_inv hy, ax_pp_inv hx1]
    exact as_iushr hx hb hd kk
  | idiv =>
    have hlen : len = 1 := by simp [ax_le] at hle; omega
    subst hlen
    cases hR
    have h1 : (ax_pp 0 st).bind (fun y => (ax_pp 0 y.2).bind fun x => (ax_b32 27 x.1 y.1).map fun z => (pc + 1, ls, (0, z) :: x.2, H)) = some (pc', ls', st', H') := hst
    obtain ⟨y, hy, h1⟩ := Option.bind_eq_some_iff.mp h1
    obtain ⟨x, hx1, h1⟩ := Option.bind_eq_some_iff.mp h1
    obtain ⟨z, hz, h1⟩ := Option.map_eq_some_iff.mp h1
    cases h1
    simp only [ax_b32] at hz
    split at hz
    · cases hz
    · rename_i h0
      cases hz
      rw [ax_pp_inv hy, ax_pp_inv hx1]
      exact as_idiv hx hb h0 hd kk
  | irem =>
    have hlen : len = 1 := by simp [ax_le] at hle; omega
    subst hlen
    cases hR
    have h1 : (ax_pp 0 st).bind (fun y => (ax_pp 0 y.2).bind fun x => (ax_b32 28 x.1 y.1).map fun z => (pc + 1, ls, (0, z) :: x.2, H)) = some (pc', ls', st', H') := hst
    obtain ⟨y, hy, h1⟩ := Option.bind_eq_some_iff.mp h1
    obtain ⟨x, hx1, h1⟩ := Option.bind_eq_some_iff.mp h1
    obtain ⟨z, hz, h1⟩ := Option.map_eq_some_iff.mp h1
    cases h1
    simp only [ax_b32] at hz
    split at hz
    · cases hz
    · rename_i h0
      cases hz
      rw [ax_pp_inv hy, ax_pp_inv hx1]
      exact as_irem hx hb h0 hd kk
  | ladd =>
    have hlen : len = 1 := by simp [ax_le] at hle; omega
    subst hlen
    cases hR
    have h1 : (ax_pp 1 st).bind (fun y => (ax_pp 1 y.2).bind fun x => (ax_b64 37 x.1 y.1).map fun z => (pc + 1, ls, z :: x.2, H)) = some (pc', ls', st', H') := hst
    obtain ⟨y, hy, h1⟩ := Option.bind_eq_some_iff.mp h1
    obtain ⟨x, hx1, h1⟩ := Option.bind_eq_some_iff.mp h1
    obtain ⟨z, hz, h1⟩ := Option.map_eq_some_iff.mp h1
    cases h1
    cases hz
    rw [ax_pp_inv hy, ax_pp_inv hx1]
    exact as_ladd hx hb hd kk
  | lsub =>
    have hlen : len = 1 := by simp [ax_le] at hle; omega
    subst hlen
    cases hR
    have h1 : (ax_pp 1 st).bind (fun y => (ax_pp 1 y.2).bind fun x => (ax_b64 38 x.1 y.1).map fun z => (pc + 1, ls, z :: x.2, H)) = some (pc', ls', st', H') := hst
    obtain ⟨y, hy, h1⟩ := Option.bind_eq_some_iff.mp h1
    obtain ⟨x, hx1, h1⟩ := Option.bind_eq_some_iff.mp h1
    obtain ⟨z, hz, h1⟩ := Option.map_eq_some_iff.mp h1
    cases h1
    cases hz
    rw [ax_pp_inv hy, ax_pp_inv hx1]
    exact as_lsub hx hb hd kk
  | lmul =>
    have hlen : len = 1 := by simp [ax_le] at hle; omega
    subst hlen
    cases hR
    have h1 : (ax_pp 1 st).bind (fun y => (ax_pp 1 y.2).bind fun x => (ax_b64 39 x.1 y.1).map fun z => (pc + 1, ls, z :: x.2, H)) = some (pc', ls', st', H') := hst
    obtain ⟨y, hy, h1⟩ := Option.bind_eq_some_iff.mp h1
    obtain ⟨x, hx1, h1⟩ := Option.bind_eq_some_iff.mp h1
    obtain ⟨z, hz, h1⟩ := Option.map_eq_some_iff.mp h1
    cases h1
    cases hz
    rw [ax_pp_inv hy, ax_pp_inv hx1]
    exact as_lmul hx hb hd kk
  | land =>
    have hlen : len = 1 := by simp [ax_le] at hle; omega
    subst hlen
    cases hR
    have h1 : (ax_pp 1 st).bind (fun y => (ax_pp 1 y.2).bind fun x => (ax_b64 42 x.1 y.1).map fun z => (pc + 1, ls, z :: x.2, H)) = some (pc', ls', st', H') := hst
    obtain ⟨y, hy, h1⟩ := Option.bind_eq_some_iff.mp h1
    obtain ⟨x, hx1, h1⟩ := Option.bind_eq_some_iff.mp h1
    obtain ⟨z, hz, h1⟩ := Option.map_eq_some_iff.mp h1
    cases h1
    cases hz
    rw [ax_pp_inv hy, ax_pp_inv hx1]
    exact as_land hx hb hd kk
  | lor =>
    have hlen : len = 1 := by simp [ax_le] at hle; omega
    subst hlen
    cases hR
    have h1 : (ax_pp 1 st).bind (fun y => (ax_pp 1 y.2).bind fun x => (ax_b64 43 x.1 y.1).map fun z => (pc + 1, ls, z :: x.2, H)) = some (pc', ls', st', H') := hst
    obtain ⟨y, hy, h1⟩ := Option.bind_eq_some_iff.mp h1
    obtain ⟨x, hx1, h1⟩ := Option.bind_eq_some_iff.mp h1
    obtain ⟨z, hz, h1⟩ := Option.map_eq_some_iff.mp h1
    cases h1
    cases hz
    rw [ax_pp_inv hy, ax_pp_inv hx1]
    exact as_lor hx hb hd kk
  | lcmp =>
    have hlen : len = 1 := by simp [ax_le] at hle; omega
    subst hlen
    cases hR
    have h1 : (ax_pp 1 st).bind (fun y => (ax_pp 1 y.2).bind fun x => (ax_b64 44 x.1 y.1).map fun z => (pc + 1, ls, z :: x.2, H)) = some (pc', ls', st', H') := hst
    obtain ⟨y, hy, h1⟩ := Option.bind_eq_some_iff.mp h1
    obtain ⟨x, hx1, h1⟩ := Option.bind_eq_some_iff.mp h1
    obtain ⟨z, hz, h1⟩ := Option.map_eq_some_iff.mp h1
    cases h1
    cases hz
    rw [ax_pp_inv hy, ax_pp_inv hx1]
    exact as_lcmp hx hb hd kk
  | ldiv =>
    have hlen : len = 1 := by simp [ax_le] at hle; omega
    subst hlen
    cases hR
    have h1 : (ax_pp 1 st).bind (fun y => (ax_pp 1 y.2).bind fun x => (ax_b64 40 x.1 y.1).map fun z => (pc + 1, ls, z :: x.2, H)) = some (pc', ls', st', H') := hst
    obtain ⟨y, hy, h1⟩ := Option.bind_eq_some_iff.mp h1
    obtain ⟨x, hx1, h1⟩ := Option.bind_eq_some_iff.mp h1
    obtain ⟨z, hz, h1⟩ := Option.map_eq_some_iff.mp h1
    cases h1
    simp only [ax_b64] at hz
    split at hz
    · cases hz
    · rename_i h0
      cases hz
      rw [ax_pp_inv hy, ax_pp_inv hx1]
      exact as_ldiv hx hb h0 hd kk
  | lrem =>
    have hlen : len = 1 := by simp [ax_le] at hle; omega
    subst hlen
    cases hR
    have h1 : (ax_pp 1 st).bind (fun y => (ax_pp 1 y.2).bind fun x => (ax_b64 41 x.1 y.1).map fun z => (pc + 1, ls, z :: x.2, H)) = some (pc', ls', st', H') := hst
    obtain ⟨y, hy, h1⟩ := Option.bind_eq_some_iff.mp h1
    obtain ⟨x, hx1, h1⟩ := Option.bind_eq_some_iff.mp h1
    obtain ⟨z, hz, h1⟩ := Option.map_eq_some_iff.mp h1
    cases h1
    simp only [ax_b64] at hz
    split at hz
    · cases hz
    · rename_i h0
      cases hz
      rw [ax_pp_inv hy, ax_pp_inv hx1]
      exact as_lrem hx hb h0 hd kk
  | i2l =>
    have hlen : len = 1 := by simp [ax_le] at hle; omega
    subst hlen
    cases hR
    have h1 : (ax_pp 0 st).map (fun x => (pc + 1, ls, (1, x.1) :: x.2, H)) = some (pc', ls', st', H') := hst
    obtain ⟨x, hx1, h1⟩ := Option.map_eq_some_iff.mp h1
    cases h1
    rw [ax_pp_inv hx1]
    exact as_i2l hx hb hd kk
  | l2i =>
    have hlen : len = 1 := by simp [ax_le] at hle; omega
    subst hlen
    cases hR
    have h1 : (ax_pp 1 st).map (fun x => (pc + 1, ls, (0, ax_w32 x.1) :: x.2, H)) = some (pc', ls', st', H') := hst
    obtain ⟨x, hx1, h1⟩ := Option.map_eq_some_iff.mp h1
    cases h1
    rw [ax_pp_inv hx1]
    exact as_l2i hx hb hd kk
  | i2b =>
    have hlen : len = 1 := by simp [ax_le] at hle; omega
    subst hlen
    cases hR
    have h1 : (ax_pp 0 st).map (fun x => (pc + 1, ls, (0, ax_w8 x.1) :: x.2, H)) = some (pc', ls', st', H') := hst
    obtain ⟨x, hx1, h1⟩ := Option.map_eq_some_iff.mp h1
    cases h1
    rw [ax_pp_inv hx1]
    exact as_i2b hx hb hd kk
  | iconst n =>
    have hlen : len = 1 := by simp [ax_le] at hle; omega
    subst hlen
    cases hR
    cases hst
    exact as_const hx hb (ax_w32_r n) (ax_oi n).symm hd kk
  | bipush n =>
    have hlen : len = 2 := by simp [ax_le] at hle; omega
    subst hlen
    cases hR
    cases hst
    exact as_bipush hx hb hd kk
  | sipush n =>
    have hlen : len = 3 := by simp [ax_le] at hle; omega
    subst hlen
    cases hR
    cases hst
    exact as_sipush hx hb hd kk
  | lconst n =>
    have hlen : len = 1 := by simp [ax_le] at hle; omega
    subst hlen
    cases hR
    cases hst
    exact as_lconst hx hb hd kk
  | ldc k =>
    have hlen : len = 2 := by simp [ax_le] at hle; omega
    subst hlen
    simp only [ax_R] at hR
    split at hR
    · rename_i w hw
      cases hR
      cases hst
      obtain ⟨g1, g2⟩ := ax_cilink hw
      exact as_ldc hx hb hown g2 (hts _ g1) hd kk
    · obtain ⟨w, hw, h2⟩ := Option.map_eq_some_iff.mp hR
      cases h2
      cases hst
      exact as_ldcS hx hb hSP hown hw hd kk
  | ldc_w k =>
    have hlen : len = 3 := by simp [ax_le] at hle; omega
    subst hlen
    simp only [ax_R] at hR
    split at hR
    · rename_i w hw
      cases hR
      cases hst
      obtain ⟨g1, g2⟩ := ax_cilink hw
      exact as_ldcw hx hb hown g2 (hts _ g1) hd kk
    · obtain ⟨w, hw, h2⟩ := Option.map_eq_some_iff.mp hR
      cases h2
      cases hst
      exact as_ldcwS hx hb hSP hown hw hd kk
  | ldc2_w k =>
    have hlen : len = 3 := by simp [ax_le] at hle; omega
    subst hlen
    obtain ⟨w, hw, h2⟩ := Option.map_eq_some_iff.mp hR
    cases h2
    cases hst
    obtain ⟨g1, g2⟩ := ax_cllink hw
    exact as_ldc2 hx hb hown g2 (hts _ g1) hd kk
  | iload_n k =>
    have hlen : len = 1 := by simp [ax_le] at hle; omega
    subst hlen
    cases hR
    have h1 : (ax_ldt 0 ls k.val).map (fun x => (pc + 1, ls, (0, x) :: st, H)) = some (pc', ls', st', H') := hst
    obtain ⟨x, hx1, h1⟩ := Option.map_eq_some_iff.mp h1
    cases h1
    exact as_iload_n hx hb (ax_ldt_inv hx1) hd kk
  | iload k =>
    have hlen : len = 2 := by simp [ax_le] at hle; omega
    subst hlen
    cases hR
    have h1 : (ax_ldt 0 ls k).map (fun x => (pc + 2, ls, (0, x) :: st, H)) = some (pc', ls', st', H') := hst
    obtain ⟨x, hx1, h1⟩ := Option.map_eq_some_iff.mp h1
    cases h1
    exact as_iload hx hb (ax_ldt_inv hx1) hd kk
  | lload_n k =>
    have hlen : len = 1 := by simp [ax_le] at hle; omega
    subst hlen
    cases hR
    have h1 : (ax_ldt 1 ls k.val).map (fun x => (pc + 1, ls, (1, x) :: st, H)) = some (pc', ls', st', H') := hst
    obtain ⟨x, hx1, h1⟩ := Option.map_eq_some_iff.mp h1
    cases h1
    exact as_lload_n hx hb (ax_ldt_inv hx1) hd kk
  | lload k =>
    have hlen : len = 2 := by simp [ax_le] at hle; omega
    subst hlen
    cases hR
    have h1 : (ax_ldt 1 ls k).map (fun x => (pc + 2, ls, (1, x) :: st, H)) = some (pc', ls', st', H') := hst
    obtain ⟨x, hx1, h1⟩ := Option.map_eq_some_iff.mp h1
    cases h1
    exact as_lload hx hb (ax_ldt_inv hx1) hd kk
  | aload_n k =>
    have hlen : len = 1 := by simp [ax_le] at hle; omega
    subst hlen
    cases hR
    have h1 : (ax_ldt 2 ls k.val).map (fun x => (pc + 1, ls, (2, x) :: st, H)) = some (pc', ls', st', H') := hst
    obtain ⟨x, hx1, h1⟩ := Option.map_eq_some_iff.mp h1
    cases h1
    exact as_aload_n hx hb (ax_ldt_inv hx1) hd kk
  | aload k =>
    have hlen : len = 2 := by simp [ax_le] at hle; omega
    subst hlen
    cases hR
    have h1 : (ax_ldt 2 ls k).map (fun x => (pc + 2, ls, (2, x) :: st, H)) = some (pc', ls', st', H') := hst
    obtain ⟨x, hx1, h1⟩ := Option.map_eq_some_iff.mp h1
    cases h1
    exact as_aload hx hb (ax_ldt_inv hx1) hd kk
  | istore_n k =>
    have hlen : len = 1 := by simp [ax_le] at hle; omega
    subst hlen
    cases hR
    have h1 : (ax_pp 0 st).bind (fun x => (ax_sto ls k.val (0, x.1)).map fun l1 => (pc + 1, l1, x.2, H)) = some (pc', ls', st', H') := hst
    obtain ⟨x, hx1, h1⟩ := Option.bind_eq_some_iff.mp h1
    obtain ⟨l1, hl1, h1⟩ := Option.map_eq_some_iff.mp h1
    cases h1
    rw [ax_pp_inv hx1]
    exact as_istore_n hx hb hl1 hd kk
  | istore k =>
    have hlen : len = 2 := by simp [ax_le] at hle; omega
    subst hlen
    cases hR
    have h1 : (ax_pp 0 st).bind (fun x => (ax_sto ls k (0, x.1)).map fun l1 => (pc + 2, l1, x.2, H)) = some (pc', ls', st', H') := hst
    obtain ⟨x, hx1, h1⟩ := Option.bind_eq_some_iff.mp h1
    obtain ⟨l1, hl1, h1⟩ := Option.map_eq_some_iff.mp h1
    cases h1
    rw [ax_pp_inv hx1]
    exact as_istore hx hb hl1 hd kk
  | lstore_n k =>
    have hlen : len = 1 := by simp [ax_le] at hle; omega
    subst hlen
    cases hR
    have h1 : (ax_pp 1 st).bind (fun x => (ax_stl ls k.val (1, x.1)).map fun l1 => (pc + 1, l1, x.2, H)) = some (pc', ls', st', H') := hst
    obtain ⟨x, hx1, h1⟩ := Option.bind_eq_some_iff.mp h1
    obtain ⟨l1, hl1, h1⟩ := Option.map_eq_some_iff.mp h1
    cases h1
    rw [ax_pp_inv hx1]
    exact as_lstore_n hx hb hl1 hd kk
  | lstore k =>
    have hlen : len = 2 := by simp [ax_le] at hle; omega
    subst hlen
    cases hR
    have h1 : (ax_pp 1 st).bind (fun x => (ax_stl ls k (1, x.1)).map fun l1 => (pc + 2, l1, x.2, H)) = some (pc', ls', st', H') := hst
    obtain ⟨x, hx1, h1⟩ := Option.bind_eq_some_iff.mp h1
    obtain ⟨l1, hl1, h1⟩ := Option.map_eq_some_iff.mp h1
    cases h1
    rw [ax_pp_inv hx1]
    exact as_lstore hx hb hl1 hd kk
  | astore_n k =>
    have hlen : len = 1 := by simp [ax_le] at hle; omega
    subst hlen
    cases hR
    have h1 : (ax_pp 2 st).bind (fun x => (ax_sto ls k.val (2, x.1)).map fun l1 => (pc + 1, l1, x.2, H)) = some (pc', ls', st', H') := hst
    obtain ⟨x, hx1, h1⟩ := Option.bind_eq_some_iff.mp h1
    obtain ⟨l1, hl1, h1⟩ := Option.map_eq_some_iff.mp h1
    cases h1
    rw [ax_pp_inv hx1]
    exact as_astore_n hx hb hl1 hd kk
  | astore k =>
    have hlen : len = 2 := by simp [ax_le] at hle; omega
    subst hlen
    cases hR
    have h1 : (ax_pp 2 st).bind (fun x => (ax_sto ls k (2, x.1)).map fun l1 => (pc + 2, l1, x.2, H)) = some (pc', ls', st', H') := hst
    obtain ⟨x, hx1, h1⟩ := Option.bind_eq_some_iff.mp h1
    obtain ⟨l1, hl1, h1⟩ := Option.map_eq_some_iff.mp h1
    cases h1
    rw [ax_pp_inv hx1]
    exact as_astore hx hb hl1 hd kk
  | iinc k n =>
    have hlen : len = 3 := by simp [ax_le] at hle; omega
    subst hlen
    cases hR
    have h1 : (ax_ldt 0 ls k).bind (fun x => (ax_sto ls k (0, ax_w32 (x + v))).map fun l1 => (pc + 3, l1, st, H)) = some (pc', ls', st', H') := hst
    obtain ⟨x, hx1, h1⟩ := Option.bind_eq_some_iff.mp h1
    obtain ⟨l1, hl1, h1⟩ := Option.map_eq_some_iff.mp h1
    cases h1
    exact as_iinc hx hb (ax_ldt_inv hx1) hl1 hd kk
  | getfield k =>
    have hlen : len = 3 := by simp [ax_le] at hle; omega
    subst hlen
    obtain ⟨w, hw, h2⟩ := Option.bind_eq_some_iff.mp hR
    obtain ⟨ci, j⟩ := w
    unfold ax_getop at h2
    split at h2
    · cases h2
    · rename_i hj
      have hj : j < ax_nf ci := by have : ¬ ax_nf ci ≤ j := hj; omega
      split at h2
      · rename_i hfk
        cases h2
        have h1 : (ax_pp 2 st).bind (fun a => if ax_cd H.1 a.1 = ci then some ((0, H.2 a.1 (j : Int)) :: a.2, H) else none) = some (st', H') ∧ pc' = pc + 3 ∧ ls' = ls := by
          have h0 : ((ax_pp 2 st).bind (fun a => if ax_cd H.1 a.1 = ci then some (((0, H.2 a.1 (j : Int)) :: a.2 : List ax_V), H) else none)).map (fun z => (pc + 3, ls, z.1, z.2)) = some (pc', ls', st', H') := hst
          obtain ⟨z, hz, h0⟩ := Option.map_eq_some_iff.mp h0
          cases h0
          exact ⟨hz, rfl, rfl⟩
        obtain ⟨h1, rfl, rfl⟩ := h1
        obtain ⟨a, ha, h1⟩ := Option.bind_eq_some_iff.mp h1
        split at h1
        · rename_i hcd
          cases h1
          rw [ax_pp_inv ha]
          exact as_getI hx hb hts had hown hw hj (by have : ax_fk (ax_ty ci j) = 0 := hfk; omega) hcd hd kk
        · cases h1
      · rename_i hfk
        cases h2
        have h1 : (ax_pp 2 st).bind (fun a => if ax_cd H.1 a.1 = ci then some ((0, H.2 a.1 (j : Int)) :: a.2, H) else none) = some (st', H') ∧ pc' = pc + 3 ∧ ls' = ls := by
          have h0 : ((ax_pp 2 st).bind (fun a => if ax_cd H.1 a.1 = ci then some (((0, H.2 a.1 (j : Int)) :: a.2 : List ax_V), H) else none)).map (fun z => (pc + 3, ls, z.1, z.2)) = some (pc', ls', st', H') := hst
          obtain ⟨z, hz, h0⟩ := Option.map_eq_some_iff.mp h0
          cases h0
          exact ⟨hz, rfl, rfl⟩
        obtain ⟨h1, rfl, rfl⟩ := h1
        obtain ⟨a, ha, h1⟩ := Option.bind_eq_some_iff.mp h1
        split at h1
        · rename_i hcd
          cases h1
          rw [ax_pp_inv ha]
          exact as_getI hx hb hts had hown hw hj (by have : ax_fk (ax_ty ci j) = 1 := hfk; omega) hcd hd kk
        · cases h1
      · rename_i hfk
        cases h2
        have h1 : (ax_pp 2 st).bind (fun a => if ax_cd H.1 a.1 = ci then some ((2, ax_rf H.1 a.1 (j : Int)) :: a.2, H) else none) = some (st', H') ∧ pc' = pc + 3 ∧ ls' = ls := by
          have h0 : ((ax_pp 2 st).bind (fun a => if ax_cd H.1 a.1 = ci then some (((2, ax_rf H.1 a.1 (j : Int)) :: a.2 : List ax_V), H) else none)).map (fun z => (pc + 3, ls, z.1, z.2)) = some (pc', ls', st', H') := hst
          obtain ⟨z, hz, h0⟩ := Option.map_eq_some_iff.mp h0
          cases h0
          exact ⟨hz, rfl, rfl⟩
        obtain ⟨h1, rfl, rfl⟩ := h1
        obtain ⟨a, ha, h1⟩ := Option.bind_eq_some_iff.mp h1
        split at h1
        · rename_i hcd
          cases h1
          rw [ax_pp_inv ha]
          exact as_getR hx hb hts had hown hw hj hfk hcd hd kk
        · cases h1
      · cases h2
  | putfield k =>
    have hlen : len = 3 := by simp [ax_le] at hle; omega
    subst hlen
    obtain ⟨w, hw, h2⟩ := Option.bind_eq_some_iff.mp hR
    obtain ⟨ci, j⟩ := w
    unfold ax_putop at h2
    split at h2
    · cases h2
    rename_i hfin
    have hput : ax_fin ci j = false ∨ (ax_fin ci j = true ∧ meth.name = "<init>" ∧ q.2.2.2.2.1 = ci) := by
      have hfin : ¬ (ax_fin ci j = true ∧ ¬ (q.2.2.2.2.2.1 = 2 ∧ q.2.2.2.2.1 = ci)) := hfin
      cases hf : ax_fin ci j with
      | false => exact Or.inl rfl
      | true =>
        rw [hf] at hfin
        have : q.2.2.2.2.2.1 = 2 ∧ q.2.2.2.2.1 = ci := Classical.byContradiction fun z => hfin ⟨rfl, z⟩
        exact Or.inr ⟨rfl, hname this.1, this.2⟩
    split at h2
    · cases h2
    · rename_i hj
      have hj : j < ax_nf ci := by have : ¬ ax_nf ci ≤ j := hj; omega
      split at h2
      · rename_i hfk
        cases h2
        have h1 : (ax_pp 0 st).bind (fun x => (ax_pp 2 x.2).bind fun a => if ax_cd H.1 a.1 = ci then some (a.2, (H.1, ax_up H.2 a.1 (j : Int) x.1)) else none) = some (st', H') ∧ pc' = pc + 3 ∧ ls' = ls := by
          have h0 : ((ax_pp 0 st).bind (fun x => (ax_pp 2 x.2).bind fun a => if ax_cd H.1 a.1 = ci then some (a.2, ((H.1, ax_up H.2 a.1 (j : Int) x.1) : ax_H)) else none)).map (fun z => (pc + 3, ls, z.1, z.2)) = some (pc', ls', st', H') := hst
          obtain ⟨z, hz, h0⟩ := Option.map_eq_some_iff.mp h0
          cases h0
          exact ⟨hz, rfl, rfl⟩
        obtain ⟨h1, rfl, rfl⟩ := h1
        obtain ⟨x, hx1, h1⟩ := Option.bind_eq_some_iff.mp h1
        obtain ⟨a, ha, h1⟩ := Option.bind_eq_some_iff.mp h1
        split at h1
        · rename_i hcd
          cases h1
          rw [ax_pp_inv hx1, ax_pp_inv ha]
          exact as_putI hx hb hts had hown hw hj hput hfk hcd hd kk
        · cases h1
      · rename_i hfk
        cases h2
        have h1 : (ax_pp 0 st).bind (fun x => (ax_pp 2 x.2).bind fun a => if ax_cd H.1 a.1 = ci ∧ (x.1 = 0 ∨ x.1 = 1) then some (a.2, (H.1, ax_up H.2 a.1 (j : Int) x.1)) else none) = some (st', H') ∧ pc' = pc + 3 ∧ ls' = ls := by
          have h0 : ((ax_pp 0 st).bind (fun x => (ax_pp 2 x.2).bind fun a => if ax_cd H.1 a.1 = ci ∧ (x.1 = 0 ∨ x.1 = 1) then some (a.2, ((H.1, ax_up H.2 a.1 (j : Int) x.1) : ax_H)) else none)).map (fun z => (pc + 3, ls, z.1, z.2)) = some (pc', ls', st', H') := hst
          obtain ⟨z, hz, h0⟩ := Option.map_eq_some_iff.mp h0
          cases h0
          exact ⟨hz, rfl, rfl⟩
        obtain ⟨h1, rfl, rfl⟩ := h1
        obtain ⟨x, hx1, h1⟩ := Option.bind_eq_some_iff.mp h1
        obtain ⟨a, ha, h1⟩ := Option.bind_eq_some_iff.mp h1
        split at h1
        · rename_i hcd
          cases h1
          rw [ax_pp_inv hx1, ax_pp_inv ha]
          exact as_putZ hx hb hts had hown hw hj hput hfk hcd.2 hcd.1 hd kk
        · cases h1
      · rename_i hfk
        cases h2
        have h1 : (ax_pp 2 st).bind (fun x => (ax_pp 2 x.2).bind fun a => if ax_cd H.1 a.1 = ci then some (a.2, (ax_sr H.1 a.1 (j : Int) x.1, H.2)) else none) = some (st', H') ∧ pc' = pc + 3 ∧ ls' = ls := by
          have h0 : ((ax_pp 2 st).bind (fun x => (ax_pp 2 x.2).bind fun a => if ax_cd H.1 a.1 = ci then some (a.2, ((ax_sr H.1 a.1 (j : Int) x.1, H.2) : ax_H)) else none)).map (fun z => (pc + 3, ls, z.1, z.2)) = some (pc', ls', st', H') := hst
          obtain ⟨z, hz, h0⟩ := Option.map_eq_some_iff.mp h0
          cases h0
          exact ⟨hz, rfl, rfl⟩
        obtain ⟨h1, rfl, rfl⟩ := h1
        obtain ⟨x, hx1, h1⟩ := Option.bind_eq_some_iff.mp h1
        obtain ⟨a, ha, h1⟩ := Option.bind_eq_some_iff.mp h1
        split at h1
        · rename_i hcd
          cases h1
          rw [ax_pp_inv hx1, ax_pp_inv ha]
          exact as_putR hx hb hts had hown hw hj hput hfk hcd hd kk
        · cases h1
      · cases h2
  | iaload =>
    have hlen : len = 1 := by simp [ax_le] at hle; omega
    subst hlen
    cases hR
    have h1 : ((ax_pp 0 st).bind fun i => (ax_pp 2 i.2).bind fun a => if ax_cd H.1 a.1 = 100 ∧ 0 ≤ i.1 ∧ i.1 < ax_ln H.1 a.1 then some ((0, H.2 a.1 i.1) :: a.2, H) else none) = some (st', H') ∧ pc' = pc + 1 ∧ ls' = ls := by
      have h0 : ((ax_pp 0 st).bind fun i => (ax_pp 2 i.2).bind fun a => if ax_cd H.1 a.1 = 100 ∧ 0 ≤ i.1 ∧ i.1 < ax_ln H.1 a.1 then some (((0, H.2 a.1 i.1) :: a.2 : List ax_V), (H : ax_H)) else none).map (fun z => (pc + 1, ls, z.1, z.2)) = some (pc', ls', st', H') := hst
      obtain ⟨z, hz, h0⟩ := Option.map_eq_some_iff.mp h0
      cases h0
      exact ⟨hz, rfl, rfl⟩
    obtain ⟨h1, rfl, rfl⟩ := h1
    obtain ⟨i, hpi, h1⟩ := Option.bind_eq_some_iff.mp h1
    obtain ⟨a, hpa, h1⟩ := Option.bind_eq_some_iff.mp h1
    split at h1
    · rename_i hc
      cases h1
      rw [ax_pp_inv hpi, ax_pp_inv hpa]
      exact as_iald hx hb had hc.1 hc.2.1 hc.2.2 hd kk
    · cases h1
  | iastore =>
    have hlen : len = 1 := by simp [ax_le] at hle; omega
    subst hlen
    cases hR
    have h1 : ((ax_pp 0 st).bind fun x => (ax_pp 0 x.2).bind fun i => (ax_pp 2 i.2).bind fun a => if ax_cd H.1 a.1 = 100 ∧ 0 ≤ i.1 ∧ i.1 < ax_ln H.1 a.1 then some (a.2, (H.1, ax_up H.2 a.1 i.1 x.1)) else none) = some (st', H') ∧ pc' = pc + 1 ∧ ls' = ls := by
      have h0 : ((ax_pp 0 st).bind fun x => (ax_pp 0 x.2).bind fun i => (ax_pp 2 i.2).bind fun a => if ax_cd H.1 a.1 = 100 ∧ 0 ≤ i.1 ∧ i.1 < ax_ln H.1 a.1 then some ((a.2 : List ax_V), ((H.1, ax_up H.2 a.1 i.1 x.1) : ax_H)) else none).map (fun z => (pc + 1, ls, z.1, z.2)) = some (pc', ls', st', H') := hst
      obtain ⟨z, hz, h0⟩ := Option.map_eq_some_iff.mp h0
      cases h0
      exact ⟨hz, rfl, rfl⟩
    obtain ⟨h1, rfl, rfl⟩ := h1
    obtain ⟨x, hpx, h1⟩ := Option.bind_eq_some_iff.mp h1
    obtain ⟨i, hpi, h1⟩ := Option.bind_eq_some_iff.mp h1
    obtain ⟨a, hpa, h1⟩ := Option.bind_eq_some_iff.mp h1
    split at h1
    · rename_i hc
      cases h1
      rw [ax_pp_inv hpx, ax_pp_inv hpi, ax_pp_inv hpa]
      exact as_iast hx hb had hc.1 hc.2.1 hc.2.2 hd kk
    · cases h1
  | laload =>
    have hlen : len = 1 := by simp [ax_le] at hle; omega
    subst hlen
    cases hR
    have h1 : ((ax_pp 0 st).bind fun i => (ax_pp 2 i.2).bind fun a => if ax_cd H.1 a.1 = 101 ∧ 0 ≤ i.1 ∧ i.1 < ax_ln H.1 a.1 then some ((1, H.2 a.1 i.1) :: a.2, H) else none) = some (st', H') ∧ pc' = pc + 1 ∧ ls' = ls := by
      have h0 : ((ax_pp 0 st).bind fun i => (ax_pp 2 i.2).bind fun a => if ax_cd H.1 a.1 = 101 ∧ 0 ≤ i.1 ∧ i.1 < ax_ln H.1 a.1 then some (((1, H.2 a.1 i.1) :: a.2 : List ax_V), (H : ax_H)) else none).map (fun z => (pc + 1, ls, z.1, z.2)) = some (pc', ls', st', H') := hst
      obtain ⟨z, hz, h0⟩ := Option.map_eq_some_iff.mp h0
      cases h0
      exact ⟨hz, rfl, rfl⟩
    obtain ⟨h1, rfl, rfl⟩ := h1
    obtain ⟨i, hpi, h1⟩ := Option.bind_eq_some_iff.mp h1
    obtain ⟨a, hpa, h1⟩ := Option.bind_eq_some_iff.mp h1
    split at h1
    · rename_i hc
      cases h1
      rw [ax_pp_inv hpi, ax_pp_inv hpa]
      exact as_lald hx hb had hc.1 hc.2.1 hc.2.2 hd kk
    · cases h1
  | lastore =>
    have hlen : len = 1 := by simp [ax_le] at hle; omega
    subst hlen
    cases hR
    have h1 : ((ax_pp 1 st).bind fun x => (ax_pp 0 x.2).bind fun i => (ax_pp 2 i.2).bind fun a => if ax_cd H.1 a.1 = 101 ∧ 0 ≤ i.1 ∧ i.1 < ax_ln H.1 a.1 then some (a.2, (H.1, ax_up H.2 a.1 i.1 x.1)) else none) = some (st', H') ∧ pc' = pc + 1 ∧ ls' = ls := by
      have h0 : ((ax_pp 1 st).bind fun x => (ax_pp 0 x.2).bind fun i => (ax_pp 2 i.2).bind fun a => if ax_cd H.1 a.1 = 101 ∧ 0 ≤ i.1 ∧ i.1 < ax_ln H.1 a.1 then some ((a.2 : List ax_V), ((H.1, ax_up H.2 a.1 i.1 x.1) : ax_H)) else none).map (fun z => (pc + 1, ls, z.1, z.2)) = some (pc', ls', st', H') := hst
      obtain ⟨z, hz, h0⟩ := Option.map_eq_some_iff.mp h0
      cases h0
      exact ⟨hz, rfl, rfl⟩
    obtain ⟨h1, rfl, rfl⟩ := h1
    obtain ⟨x, hpx, h1⟩ := Option.bind_eq_some_iff.mp h1
    obtain ⟨i, hpi, h1⟩ := Option.bind_eq_some_iff.mp h1
    obtain ⟨a, hpa, h1⟩ := Option.bind_eq_some_iff.mp h1
    split at h1
    · rename_i hc
      cases h1
      rw [ax_pp_inv hpx, ax_pp_inv hpi, ax_pp_inv hpa]
      exact as_last hx hb had hc.1 hc.2.1 hc.2.2 hd kk
    · cases h1
  | baload =>
    have hlen : len = 1 := by simp [ax_le] at hle; omega
    subst hlen
    cases hR
    have h1 : ((ax_pp 0 st).bind fun i => (ax_pp 2 i.2).bind fun a => if (ax_cd H.1 a.1 = 102 ∨ ax_cd H.1 a.1 = 103) ∧ 0 ≤ i.1 ∧ i.1 < ax_ln H.1 a.1 then some ((0, H.2 a.1 i.1) :: a.2, H) else none) = some (st', H') ∧ pc' = pc + 1 ∧ ls' = ls := by
      have h0 : ((ax_pp 0 st).bind fun i => (ax_pp 2 i.2).bind fun a => if (ax_cd H.1 a.1 = 102 ∨ ax_cd H.1 a.1 = 103) ∧ 0 ≤ i.1 ∧ i.1 < ax_ln H.1 a.1 then some (((0, H.2 a.1 i.1) :: a.2 : List ax_V), (H : ax_H)) else none).map (fun z => (pc + 1, ls, z.1, z.2)) = some (pc', ls', st', H') := hst
      obtain ⟨z, hz, h0⟩ := Option.map_eq_some_iff.mp h0
      cases h0
      exact ⟨hz, rfl, rfl⟩
    obtain ⟨h1, rfl, rfl⟩ := h1
    obtain ⟨i, hpi, h1⟩ := Option.bind_eq_some_iff.mp h1
    obtain ⟨a, hpa, h1⟩ := Option.bind_eq_some_iff.mp h1
    split at h1
    · rename_i hc
      cases h1
      rw [ax_pp_inv hpi, ax_pp_inv hpa]
      rcases hc.1 with hq | hq
      · exact as_bald hx hb had hq hc.2.1 hc.2.2 hd kk
      · exact as_zald hx hb had hq hc.2.1 hc.2.2 hd kk
    · cases h1
  | aaload =>
    have hlen : len = 1 := by simp [ax_le] at hle; omega
    subst hlen
    cases hR
    have h1 : ((ax_pp 0 st).bind fun i => (ax_pp 2 i.2).bind fun a => if (110 ≤ ax_cd H.1 a.1 ∧ ax_cd H.1 a.1 ≤ 112) ∧ 0 ≤ i.1 ∧ i.1 < ax_ln H.1 a.1 then some ((2, ax_rf H.1 a.1 i.1) :: a.2, H) else none) = some (st', H') ∧ pc' = pc + 1 ∧ ls' = ls := by
      have h0 : ((ax_pp 0 st).bind fun i => (ax_pp 2 i.2).bind fun a => if (110 ≤ ax_cd H.1 a.1 ∧ ax_cd H.1 a.1 ≤ 112) ∧ 0 ≤ i.1 ∧ i.1 < ax_ln H.1 a.1 then some (((2, ax_rf H.1 a.1 i.1) :: a.2 : List ax_V), (H : ax_H)) else none).map (fun z => (pc + 1, ls, z.1, z.2)) = some (pc', ls', st', H') := hst
      obtain ⟨z, hz, h0⟩ := Option.map_eq_some_iff.mp h0
      cases h0
      exact ⟨hz, rfl, rfl⟩
    obtain ⟨h1, rfl, rfl⟩ := h1
    obtain ⟨i, hpi, h1⟩ := Option.bind_eq_some_iff.mp h1
    obtain ⟨a, hpa, h1⟩ := Option.bind_eq_some_iff.mp h1
    split at h1
    · rename_i hc
      cases h1
      rw [ax_pp_inv hpi, ax_pp_inv hpa]
      have h3 : ax_cd H.1 a.1 = 110 ∨ ax_cd H.1 a.1 = 111 ∨ ax_cd H.1 a.1 = 112 := by omega
      rcases h3 with hq | hq | hq
      · exact as_aald7 hx hb had hq hc.2.1 hc.2.2 hd kk
      · exact as_aald10 hx hb had hq hc.2.1 hc.2.2 hd kk
      · exact as_aald12 hx hb had hq hc.2.1 hc.2.2 hd kk
    · cases h1
  | aastore =>
    have hlen : len = 1 := by simp [ax_le] at hle; omega
    subst hlen
    cases hR
    have h1 : ((ax_pp 2 st).bind fun x => (ax_pp 0 x.2).bind fun i => (ax_pp 2 i.2).bind fun a => if ((ax_cd H.1 a.1 = 110 ∧ ax_cd H.1 x.1 = 7) ∨ (ax_cd H.1 a.1 = 111 ∧ ax_cd H.1 x.1 = 10)) ∧ 0 ≤ i.1 ∧ i.1 < ax_ln H.1 a.1 then some (a.2, (ax_sr H.1 a.1 i.1 x.1, H.2)) else none) = some (st', H') ∧ pc' = pc + 1 ∧ ls' = ls := by
      have h0 : ((ax_pp 2 st).bind fun x => (ax_pp 0 x.2).bind fun i => (ax_pp 2 i.2).bind fun a => if ((ax_cd H.1 a.1 = 110 ∧ ax_cd H.1 x.1 = 7) ∨ (ax_cd H.1 a.1 = 111 ∧ ax_cd H.1 x.1 = 10)) ∧ 0 ≤ i.1 ∧ i.1 < ax_ln H.1 a.1 then some ((a.2 : List ax_V), ((ax_sr H.1 a.1 i.1 x.1, H.2) : ax_H)) else none).map (fun z => (pc + 1, ls, z.1, z.2)) = some (pc', ls', st', H') := hst
      obtain ⟨z, hz, h0⟩ := Option.map_eq_some_iff.mp h0
      cases h0
      exact ⟨hz, rfl, rfl⟩
    obtain ⟨h1, rfl, rfl⟩ := h1
    obtain ⟨x, hpx, h1⟩ := Option.bind_eq_some_iff.mp h1
    obtain ⟨i, hpi, h1⟩ := Option.bind_eq_some_iff.mp h1
    obtain ⟨a, hpa, h1⟩ := Option.bind_eq_some_iff.mp h1
    split at h1
    · rename_i hc
      cases h1
      rw [ax_pp_inv hpx, ax_pp_inv hpi, ax_pp_inv hpa]
      rcases hc.1 with hq | hq
      · exact as_aast7 hx hb had hq.1 hq.2 hc.2.1 hc.2.2 hd kk
      · exact as_aast10 hx hb had hq.1 hq.2 hc.2.1 hc.2.2 hd kk
    · cases h1
  | arraylength =>
    have hlen : len = 1 := by simp [ax_le] at hle; omega
    subst hlen
    cases hR
    have h1 : ((ax_pp 2 st).bind fun a => if 100 ≤ ax_cd H.1 a.1 ∧ ax_cd H.1 a.1 ≤ 112 then some ((0, ax_ln H.1 a.1) :: a.2, H) else none) = some (st', H') ∧ pc' = pc + 1 ∧ ls' = ls := by
      have h0 : ((ax_pp 2 st).bind fun a => if 100 ≤ ax_cd H.1 a.1 ∧ ax_cd H.1 a.1 ≤ 112 then some (((0, ax_ln H.1 a.1) :: a.2 : List ax_V), (H : ax_H)) else none).map (fun z => (pc + 1, ls, z.1, z.2)) = some (pc', ls', st', H') := hst
      obtain ⟨z, hz, h0⟩ := Option.map_eq_some_iff.mp h0
      cases h0
      exact ⟨hz, rfl, rfl⟩
    obtain ⟨h1, rfl, rfl⟩ := h1
    obtain ⟨a, hpa, h1⟩ := Option.bind_eq_some_iff.mp h1
    split at h1
    · rename_i hc
      cases h1
      rw [ax_pp_inv hpa]
      exact as_alen hx hb had hc hd kk
    · cases h1
  | bastore =>
    have hlen : len = 1 := by simp [ax_le] at hle; omega
    subst hlen
    cases hR
    have h1 : ((ax_pp 0 st).bind fun x => (ax_pp 0 x.2).bind fun i => (ax_pp 2 i.2).bind fun a => if 0 ≤ i.1 ∧ i.1 < ax_ln H.1 a.1 then
        (if ax_cd H.1 a.1 = 102 then some (a.2, (H.1, ax_up H.2 a.1 i.1 (ax_w8 x.1))) else if ax_cd H.1 a.1 = 103 ∧ (x.1 = 0 ∨ x.1 = 1) then some (a.2, (H.1, ax_up H.2 a.1 i.1 x.1)) else none) else none) = some (st', H') ∧ pc' = pc + 1 ∧ ls' = ls := by
      have h0 : ((ax_pp 0 st).bind fun x => (ax_pp 0 x.2).bind fun i => (ax_pp 2 i.2).bind fun a => if 0 ≤ i.1 ∧ i.1 < ax_ln H.1 a.1 then
        (if ax_cd H.1 a.1 = 102 then some (a.2, ((H.1, ax_up H.2 a.1 i.1 (ax_w8 x.1)) : ax_H)) else if ax_cd H.1 a.1 = 103 ∧ (x.1 = 0 ∨ x.1 = 1) then some (a.2, (H.1, ax_up H.2 a.1 i.1 x.1)) else none) else none).map (fun z => (pc + 1, ls, z.1, z.2)) = some (pc', ls', st', H') := hst
      obtain ⟨z, hz, h0⟩ := Option.map_eq_some_iff.mp h0
      cases h0
      exact ⟨hz, rfl, rfl⟩
    obtain ⟨h1, rfl, rfl⟩ := h1
    obtain ⟨x, hx1, h1⟩ := Option.bind_eq_some_iff.mp h1
    obtain ⟨i, hi, h1⟩ := Option.bind_eq_some_iff.mp h1
    obtain ⟨a, ha, h1⟩ := Option.bind_eq_some_iff.mp h1
    split at h1
    · rename_i hc
      split at h1
      · rename_i hq
        cases h1
        rw [ax_pp_inv hx1, ax_pp_inv hi, ax_pp_inv ha]
        exact as_bast hx hb had hq hc.1 hc.2 hd kk
      · split at h1
        · rename_i hq
          cases h1
          rw [ax_pp_inv hx1, ax_pp_inv hi, ax_pp_inv ha]
          exact as_zast hx hb had hq.1 hc.1 hc.2 hq.2 hd kk
        · cases h1
    · cases h1
  | ifCond cd off =>
    have hlen : len = 3 := by simp [ax_le] at hle; omega
    subst hlen
    obtain ⟨t, ht, h2⟩ := Option.map_eq_some_iff.mp hR
    cases h2
    have h1 : (ax_pp 0 st).map (fun x => (if ax_cb (ax_cc cd) x.1 0 then t else pc + 3, ls, x.2, H)) = some (pc', ls', st', H') := hst
    obtain ⟨x, hx1, h1⟩ := Option.map_eq_some_iff.mp h1
    cases h1
    rw [ax_pp_inv hx1]
    cases cd with
    | eq => exact as_if_eq hx hb ht hd kk
    | ne => exact as_if_ne hx hb ht hd kk
    | lt => exact as_if_lt hx hb ht hd kk
    | ge => exact as_if_ge hx hb ht hd kk
    | gt => exact as_if_gt hx hb ht hd kk
    | le => exact as_if_le hx hb ht hd kk
  | if_icmp cd off =>
    have hlen : len = 3 := by simp [ax_le] at hle; omega
    subst hlen
    obtain ⟨t, ht, h2⟩ := Option.map_eq_some_iff.mp hR
    cases h2
    have h1 : (ax_pp 0 st).bind (fun y => (ax_pp 0 y.2).map fun x => (if ax_cb (ax_cc cd) x.1 y.1 then t else pc + 3, ls, x.2, H)) = some (pc', ls', st', H') := hst
    obtain ⟨y, hy, h1⟩ := Option.bind_eq_some_iff.mp h1
    obtain ⟨x, hx1, h1⟩ := Option.map_eq_some_iff.mp h1
    cases h1
    rw [ax_pp_inv hy, ax_pp_inv hx1]
    cases cd with
    | eq => exact as_icmp_eq hx hb ht hd kk
    | ne => exact as_icmp_ne hx hb ht hd kk
    | lt => exact as_icmp_lt hx hb ht hd kk
    | ge => exact as_icmp_ge hx hb ht hd kk
    | gt => exact as_icmp_gt hx hb ht hd kk
    | le => exact as_icmp_le hx hb ht hd kk
  | goto off =>
    have hlen : len = 3 := by simp [ax_le] at hle; omega
    subst hlen
    obtain ⟨t, ht, h2⟩ := Option.map_eq_some_iff.mp hR
    cases h2
    cases hst
    exact as_goto hx hb ht hd kk
  | tableswitch dflt lo hi offs =>
    simp only [ax_R] at hR
    split at hR
    · rename_i hsz2
      obtain ⟨t, ht, h2⟩ := Option.bind_eq_some_iff.mp hR
      obtain ⟨ts, hts2, h2⟩ := Option.map_eq_some_iff.mp h2
      cases h2
      have h1 : (ax_pp 0 st).map (fun x => (ax_tsw t ts v x.1, ls, x.2, H)) = some (pc', ls', st', H') := hst
      obtain ⟨x, hx1, h1⟩ := Option.map_eq_some_iff.mp h1
      cases h1
      rw [ax_pp_inv hx1]
      exact as_tsw hx hb hsz2 ht hts2 hd kk
    · cases hR
  | lookupswitch dflt ps =>
    simp only [ax_R] at hR
    split at hR
    · rename_i hsz2
      obtain ⟨t, ht, h2⟩ := Option.bind_eq_some_iff.mp hR
      obtain ⟨ts, hts2, h2⟩ := Option.map_eq_some_iff.mp h2
      cases h2
      have h1 : (ax_pp 0 st).map (fun x => (ax_lsw t ts x.1, ls, x.2, H)) = some (pc', ls', st', H') := hst
      obtain ⟨x, hx1, h1⟩ := Option.map_eq_some_iff.mp h1
      cases h1
      rw [ax_pp_inv hx1]
      exact as_lsw hx hb hsz2 ht hts2 hd kk
    · cases hR
  | invokevirtual k =>
    have hlen : len = 3 := by simp [ax_le] at hle; omega
    subst hlen
    simp only [ax_R] at hR
    split at hR
    · split at hR
      · cases hR; exact absurd hop (by decide)
      · cases hR
    · obtain ⟨x, hX, h2⟩ := Option.bind_eq_some_iff.mp hR
      split at h2
      · rename_i hx56
        cases h2
        rcases hx56 with rfl | rfl
        · have h1 : (if 6 < st.length then none else (ax_in 5 st H).map fun z => (pc + 3, ls, z.1, z.2)) = some (pc', ls', st', H') := hst
          split at h1
          · cases h1
          rename_i hsl
          obtain ⟨z, hz, h1⟩ := Option.map_eq_some_iff.mp h1
          cases h1
          simp only [ax_in] at hz
          obtain ⟨a, ha, hz⟩ := Option.bind_eq_some_iff.mp hz
          split at hz
          · rename_i hc
            cases hz
            rw [ax_pp_inv ha] at hsl ⊢
            exact as_slen hx hb hts hml hRf1 hRl1 (by omega) hSP hown hX hc.2.2 hc.1 hc.2.1 hrc.1 hrc.2 hd kk
          · cases hz
        · have h1 : (if 6 < st.length then none else (ax_in 6 st H).map fun z => (pc + 3, ls, z.1, z.2)) = some (pc', ls', st', H') := hst
          split at h1
          · cases h1
          rename_i hsl
          obtain ⟨z, hz, h1⟩ := Option.map_eq_some_iff.mp h1
          cases h1
          simp only [ax_in] at hz
          obtain ⟨j, hj, hz⟩ := Option.bind_eq_some_iff.mp hz
          obtain ⟨a, ha, hz⟩ := Option.bind_eq_some_iff.mp hz
          split at hz
          · rename_i hc
            cases hz
            rw [ax_pp_inv hj, ax_pp_inv ha] at hsl ⊢
            exact as_schr hx hb hts hml hRf1 hRl1 (by omega) hSP hown hX (by simp at hsl; omega) hc.1 hc.2.1 hc.2.2.1 hc.2.2.2 hrc.1 hrc.2 hd kk
          · cases hz
      · cases h2
  | invokestatic k =>
    have hlen : len = 3 := by simp [ax_le] at hle; omega
    subst hlen
    simp only [ax_R] at hR
    split at hR
    · split at hR
      · cases hR; exact absurd hop (by decide)
      · cases hR
    · obtain ⟨x, hX, h2⟩ := Option.bind_eq_some_iff.mp hR
      split at h2
      · rename_i hx4
        cases h2
        have h5 : x = 0 ∨ x = 1 ∨ x = 2 ∨ x = 3 ∨ x = 4 := by omega
        rcases h5 with rfl | rfl | rfl | rfl | rfl
        · have h1 : (if 6 < st.length then none else (ax_in 0 st H).map fun z => (pc + 3, ls, z.1, z.2)) = some (pc', ls', st', H') := hst
          split at h1
          · cases h1
          rename_i hsl
          obtain ⟨z, hz, h1⟩ := Option.map_eq_some_iff.mp h1
          cases h1
          simp only [ax_in] at hz
          obtain ⟨a, ha, hz⟩ := Option.bind_eq_some_iff.mp hz
          obtain ⟨b, hb1, hz⟩ := Option.bind_eq_some_iff.mp hz
          cases hz
          rw [ax_pp_inv ha, ax_pp_inv hb1] at hsl ⊢
          exact as_min hx hb hts hml hRf1 hRl1 hown hX (by simp at hsl; omega) hrc.1 hrc.2 hd kk
        · have h1 : (if 6 < st.length then none else (ax_in 1 st H).map fun z => (pc + 3, ls, z.1, z.2)) = some (pc', ls', st', H') := hst
          split at h1
          · cases h1
          rename_i hsl
          obtain ⟨z, hz, h1⟩ := Option.map_eq_some_iff.mp h1
          cases h1
          simp only [ax_in] at hz
          obtain ⟨a, ha, hz⟩ := Option.bind_eq_some_iff.mp hz
          obtain ⟨b, hb1, hz⟩ := Option.bind_eq_some_iff.mp hz
          cases hz
          rw [ax_pp_inv ha, ax_pp_inv hb1] at hsl ⊢
          exact as_max hx hb hts hml hRf1 hRl1 hown hX (by simp at hsl; omega) hrc.1 hrc.2 hd kk
        · have h1 : (if 6 < st.length then none else (ax_in 2 st H).map fun z => (pc + 3, ls, z.1, z.2)) = some (pc', ls', st', H') := hst
          split at h1
          · cases h1
          rename_i hsl
          obtain ⟨z, hz, h1⟩ := Option.map_eq_some_iff.mp h1
          cases h1
          simp only [ax_in] at hz
          obtain ⟨a, ha, hz⟩ := Option.bind_eq_some_iff.mp hz
          obtain ⟨b, hb1, hz⟩ := Option.bind_eq_some_iff.mp hz
          cases hz
          rw [ax_pp_inv ha, ax_pp_inv hb1] at hsl ⊢
          exact as_minl hx hb hts hml hRf1 hRl1 hown hX (by simp at hsl; omega) hrc.1 hrc.2 hd kk
        · have h1 : (if 6 < st.length then none else (ax_in 3 st H).map fun z => (pc + 3, ls, z.1, z.2)) = some (pc', ls', st', H') := hst
          split at h1
          · cases h1
          rename_i hsl
          obtain ⟨z, hz, h1⟩ := Option.map_eq_some_iff.mp h1
          cases h1
          simp only [ax_in] at hz
          obtain ⟨a, ha, hz⟩ := Option.bind_eq_some_iff.mp hz
          obtain ⟨b, hb1, hz⟩ := Option.bind_eq_some_iff.mp hz
          cases hz
          rw [ax_pp_inv ha, ax_pp_inv hb1] at hsl ⊢
          exact as_maxl hx hb hts hml hRf1 hRl1 hown hX (by simp at hsl; omega) hrc.1 hrc.2 hd kk
        · have h1 : (if 6 < st.length then none else (ax_in 4 st H).map fun z => (pc + 3, ls, z.1, z.2)) = some (pc', ls', st', H') := hst
          split at h1
          · cases h1
          rename_i hsl
          obtain ⟨z, hz, h1⟩ := Option.map_eq_some_iff.mp h1
          cases h1
          simp only [ax_in] at hz
          obtain ⟨n, hn, hz⟩ := Option.bind_eq_some_iff.mp hz
          obtain ⟨tp, htp, hz⟩ := Option.bind_eq_some_iff.mp hz
          obtain ⟨t, ht, hz⟩ := Option.bind_eq_some_iff.mp hz
          obtain ⟨sp, hsp, hz⟩ := Option.bind_eq_some_iff.mp hz
          obtain ⟨u, hu, hz⟩ := Option.bind_eq_some_iff.mp hz
          split at hz
          · rename_i hc
            cases hz
            rw [ax_pp_inv hn, ax_pp_inv htp, ax_pp_inv ht, ax_pp_inv hsp, ax_pp_inv hu] at hsl ⊢
            exact as_copy hx hb hts had hml hRf1 hRl1 hown hX (by simp at hsl; omega) hc.1 hc.2.1 hc.2.2.1 hc.2.2.2.1 hc.2.2.2.2.1 hc.2.2.2.2.2.1 hc.2.2.2.2.2.2 hd kk
          · cases hz
      · cases h2
  | invokespecial k =>
    have hlen : len = 3 := by simp [ax_le] at hle; omega
    subst hlen
    simp only [ax_R] at hR
    split at hR
    · cases hR; exact absurd hop (by decide)
    · obtain ⟨x, hX, h2⟩ := Option.bind_eq_some_iff.mp hR
      split at h2
      · rename_i hx7
        subst hx7
        cases h2
        have h1 : (if 6 < st.length then none else (ax_in 7 st H).map fun z => (pc + 3, ls, z.1, z.2)) = some (pc', ls', st', H') := hst
        split at h1
        · cases h1
        rename_i hsl
        obtain ⟨z, hz, h1⟩ := Option.map_eq_some_iff.mp h1
        cases h1
        simp only [ax_in] at hz
        obtain ⟨a, ha, hz⟩ := Option.bind_eq_some_iff.mp hz
        split at hz
        · rename_i hc
          cases hz
          rw [ax_pp_inv ha] at hsl ⊢
          exact as_oinit hx hb hts had hml hRf1 hRl1 hown hX (by simp at hsl; omega) hc.1 hd kk
        · cases hz
      · cases h2
  | new k =>
    have hlen : len = 3 := by simp [ax_le] at hle; omega
    subst hlen
    obtain ⟨ci, hci, h2⟩ := Option.map_eq_some_iff.mp hR
    cases h2
    have h1 : (if ci < 13 then some ((2, (H.1.length : Int)) :: st, (H.1 ++ [(ci, ax_nf ci, List.replicate (ax_nf ci) (-1))], ax_zr H.2 H.1.length)) else none) = some (st', H') ∧ pc' = pc + 3 ∧ ls' = ls := by
      have h0 : (if ci < 13 then some (((2, (H.1.length : Int)) :: st : List ax_V), ((H.1 ++ [(ci, ax_nf ci, List.replicate (ax_nf ci) (-1))], ax_zr H.2 H.1.length) : ax_H)) else none).map (fun z => (pc + 3, ls, z.1, z.2)) = some (pc', ls', st', H') := hst
      obtain ⟨z, hz, h0⟩ := Option.map_eq_some_iff.mp h0
      cases h0
      exact ⟨hz, rfl, rfl⟩
    obtain ⟨h1, rfl, rfl⟩ := h1
    split at h1
    · cases h1
      have e1 := hrm.1
      have e2 := hrm.2
      rw [ax_sl_app] at e2
      simp only [List.length_append, List.length_cons, List.length_nil] at e1
      exact as_new hx hb hts had hsz hown hci hd (by omega) e2 kk
    · cases h1
  | newarray t =>
    have hlen : len = 2 := by simp [ax_le] at hle; omega
    subst hlen
    obtain ⟨w, hw, h2⟩ := Option.map_eq_some_iff.mp hR
    cases t with
    | int =>
      cases hw; cases h2
      have h1 : ((ax_pp 0 st).bind fun n => if 0 ≤ n.1 ∧ n.1 ≤ 60000 ∧ 100 ≤ 103 ∧ 100 ≤ 100 then some ((2, (H.1.length : Int)) :: n.2, (H.1 ++ [(100, n.1.toNat, [])], ax_zr H.2 H.1.length)) else none) = some (st', H') ∧ pc' = pc + 2 ∧ ls' = ls := by
        have h0 : ((ax_pp 0 st).bind fun n => if 0 ≤ n.1 ∧ n.1 ≤ 60000 ∧ 100 ≤ 103 ∧ 100 ≤ 100 then some (((2, (H.1.length : Int)) :: n.2 : List ax_V), ((H.1 ++ [(100, n.1.toNat, [])], ax_zr H.2 H.1.length) : ax_H)) else none).map (fun z => (pc + 2, ls, z.1, z.2)) = some (pc', ls', st', H') := hst
        obtain ⟨z, hz, h0⟩ := Option.map_eq_some_iff.mp h0
        cases h0
        exact ⟨hz, rfl, rfl⟩
      obtain ⟨h1, rfl, rfl⟩ := h1
      obtain ⟨n, hn, h1⟩ := Option.bind_eq_some_iff.mp h1
      split at h1
      · rename_i hc
        cases h1
        rw [ax_pp_inv hn]
        have e1 := hrm.1
        have e2 := hrm.2
        rw [ax_sl_app] at e2
        simp only [List.length_append, List.length_cons, List.length_nil] at e1
        exact as_newa_int hx hb hts had hsz hc.1 hc.2.1 hd (by omega) e2 kk
      · cases h1
    | long =>
      cases hw; cases h2
      have h1 : ((ax_pp 0 st).bind fun n => if 0 ≤ n.1 ∧ n.1 ≤ 60000 ∧ 101 ≤ 103 ∧ 100 ≤ 101 then some ((2, (H.1.length : Int)) :: n.2, (H.1 ++ [(101, n.1.toNat, [])], ax_zr H.2 H.1.length)) else none) = some (st', H') ∧ pc' = pc + 2 ∧ ls' = ls := by
        have h0 : ((ax_pp 0 st).bind fun n => if 0 ≤ n.1 ∧ n.1 ≤ 60000 ∧ 101 ≤ 103 ∧ 100 ≤ 101 then some (((2, (H.1.length : Int)) :: n.2 : List ax_V), ((H.1 ++ [(101, n.1.toNat, [])], ax_zr H.2 H.1.length) : ax_H)) else none).map (fun z => (pc + 2, ls, z.1, z.2)) = some (pc', ls', st', H') := hst
        obtain ⟨z, hz, h0⟩ := Option.map_eq_some_iff.mp h0
        cases h0
        exact ⟨hz, rfl, rfl⟩
      obtain ⟨h1, rfl, rfl⟩ := h1
      obtain ⟨n, hn, h1⟩ := Option.bind_eq_some_iff.mp h1
      split at h1
      · rename_i hc
        cases h1
        rw [ax_pp_inv hn]
        have e1 := hrm.1
        have e2 := hrm.2
        rw [ax_sl_app] at e2
        simp only [List.length_append, List.length_cons, List.length_nil] at e1
        exact as_newa_long hx hb hts had hsz hc.1 hc.2.1 hd (by omega) e2 kk
      · cases h1
    | byte =>
      cases hw; cases h2
      have h1 : ((ax_pp 0 st).bind fun n => if 0 ≤ n.1 ∧ n.1 ≤ 60000 ∧ 102 ≤ 103 ∧ 100 ≤ 102 then some ((2, (H.1.length : Int)) :: n.2, (H.1 ++ [(102, n.1.toNat, [])], ax_zr H.2 H.1.length)) else none) = some (st', H') ∧ pc' = pc + 2 ∧ ls' = ls := by
        have h0 : ((ax_pp 0 st).bind fun n => if 0 ≤ n.1 ∧ n.1 ≤ 60000 ∧ 102 ≤ 103 ∧ 100 ≤ 102 then some (((2, (H.1.length : Int)) :: n.2 : List ax_V), ((H.1 ++ [(102, n.1.toNat, [])], ax_zr H.2 H.1.length) : ax_H)) else none).map (fun z => (pc + 2, ls, z.1, z.2)) = some (pc', ls', st', H') := hst
        obtain ⟨z, hz, h0⟩ := Option.map_eq_some_iff.mp h0
        cases h0
        exact ⟨hz, rfl, rfl⟩
      obtain ⟨h1, rfl, rfl⟩ := h1
      obtain ⟨n, hn, h1⟩ := Option.bind_eq_some_iff.mp h1
      split at h1
      · rename_i hc
        cases h1
        rw [ax_pp_inv hn]
        have e1 := hrm.1
        have e2 := hrm.2
        rw [ax_sl_app] at e2
        simp only [List.length_append, List.length_cons, List.length_nil] at e1
        exact as_newa_byte hx hb hts had hsz hc.1 hc.2.1 hd (by omega) e2 kk
      · cases h1
    | boolean =>
      cases hw; cases h2
      have h1 : ((ax_pp 0 st).bind fun n => if 0 ≤ n.1 ∧ n.1 ≤ 60000 ∧ 103 ≤ 103 ∧ 100 ≤ 103 then some ((2, (H.1.length : Int)) :: n.2, (H.1 ++ [(103, n.1.toNat, [])], ax_zr H.2 H.1.length)) else none) = some (st', H') ∧ pc' = pc + 2 ∧ ls' = ls := by
        have h0 : ((ax_pp 0 st).bind fun n => if 0 ≤ n.1 ∧ n.1 ≤ 60000 ∧ 103 ≤ 103 ∧ 100 ≤ 103 then some (((2, (H.1.length : Int)) :: n.2 : List ax_V), ((H.1 ++ [(103, n.1.toNat, [])], ax_zr H.2 H.1.length) : ax_H)) else none).map (fun z => (pc + 2, ls, z.1, z.2)) = some (pc', ls', st', H') := hst
        obtain ⟨z, hz, h0⟩ := Option.map_eq_some_iff.mp h0
        cases h0
        exact ⟨hz, rfl, rfl⟩
      obtain ⟨h1, rfl, rfl⟩ := h1
      obtain ⟨n, hn, h1⟩ := Option.bind_eq_some_iff.mp h1
      split at h1
      · rename_i hc
        cases h1
        rw [ax_pp_inv hn]
        have e1 := hrm.1
        have e2 := hrm.2
        rw [ax_sl_app] at e2
        simp only [List.length_append, List.length_cons, List.length_nil] at e1
        exact as_newa_boolean hx hb hts had hsz hc.1 hc.2.1 hd (by omega) e2 kk
      · cases h1
    | _ => cases hw
  | anewarray k =>
    have hlen : len = 3 := by simp [ax_le] at hle; omega
    subst hlen
    obtain ⟨w, hw, h2⟩ := Option.map_eq_some_iff.mp hR
    obtain ⟨ci, hci, hw⟩ := Option.bind_eq_some_iff.mp hw
    have hcc : (ci = 7 ∧ w = 110) ∨ (ci = 10 ∧ w = 111) := by
      unfold ax_refcode at hw
      split at hw
      · rename_i e1; cases hw; exact Or.inl ⟨e1, rfl⟩
      · split at hw
        · rename_i e1; cases hw; exact Or.inr ⟨e1, rfl⟩
        · cases hw
    rcases hcc with ⟨rfl, rfl⟩ | ⟨rfl, rfl⟩
    · cases h2
      have h1 : ((ax_pp 0 st).bind fun n => if 0 ≤ n.1 ∧ n.1 ≤ 60000 ∧ (110 = 110 ∨ 110 = 111) then some ((2, (H.1.length : Int)) :: n.2, (H.1 ++ [(110, n.1.toNat, List.replicate n.1.toNat (-1))], ax_zr H.2 H.1.length)) else none) = some (st', H') ∧ pc' = pc + 3 ∧ ls' = ls := by
        have h0 : ((ax_pp 0 st).bind fun n => if 0 ≤ n.1 ∧ n.1 ≤ 60000 ∧ (110 = 110 ∨ 110 = 111) then some (((2, (H.1.length : Int)) :: n.2 : List ax_V), ((H.1 ++ [(110, n.1.toNat, List.replicate n.1.toNat (-1))], ax_zr H.2 H.1.length) : ax_H)) else none).map (fun z => (pc + 3, ls, z.1, z.2)) = some (pc', ls', st', H') := hst
        obtain ⟨z, hz, h0⟩ := Option.map_eq_some_iff.mp h0
        cases h0
        exact ⟨hz, rfl, rfl⟩
      obtain ⟨h1, rfl, rfl⟩ := h1
      obtain ⟨n, hn, h1⟩ := Option.bind_eq_some_iff.mp h1
      split at h1
      · rename_i hc
        cases h1
        rw [ax_pp_inv hn]
        have e1 := hrm.1
        have e2 := hrm.2
        rw [ax_sl_app] at e2
        simp only [List.length_append, List.length_cons, List.length_nil] at e1
        exact as_newq7 hx hb hts had hsz hSP.1 hown hci hc.1 hc.2.1 hd (by omega) e2 kk
      · cases h1
    · cases h2
      have h1 : ((ax_pp 0 st).bind fun n => if 0 ≤ n.1 ∧ n.1 ≤ 60000 ∧ (111 = 110 ∨ 111 = 111) then some ((2, (H.1.length : Int)) :: n.2, (H.1 ++ [(111, n.1.toNat, List.replicate n.1.toNat (-1))], ax_zr H.2 H.1.length)) else none) = some (st', H') ∧ pc' = pc + 3 ∧ ls' = ls := by
        have h0 : ((ax_pp 0 st).bind fun n => if 0 ≤ n.1 ∧ n.1 ≤ 60000 ∧ (111 = 110 ∨ 111 = 111) then some (((2, (H.1.length : Int)) :: n.2 : List ax_V), ((H.1 ++ [(111, n.1.toNat, List.replicate n.1.toNat (-1))], ax_zr H.2 H.1.length) : ax_H)) else none).map (fun z => (pc + 3, ls, z.1, z.2)) = some (pc', ls', st', H') := hst
        obtain ⟨z, hz, h0⟩ := Option.map_eq_some_iff.mp h0
        cases h0
        exact ⟨hz, rfl, rfl⟩
      obtain ⟨h1, rfl, rfl⟩ := h1
      obtain ⟨n, hn, h1⟩ := Option.bind_eq_some_iff.mp h1
      split at h1
      · rename_i hc
        cases h1
        rw [ax_pp_inv hn]
        have e1 := hrm.1
        have e2 := hrm.2
        rw [ax_sl_app] at e2
        simp only [List.length_append, List.length_cons, List.length_nil] at e1
        exact as_newq10 hx hb hts had hsz hSP.2.1 hown hci hc.1 hc.2.1 hd (by omega) e2 kk
      · cases h1
  | multianewarray k n =>
    have hlen : len = 4 := by simp [ax_le] at hle; omega
    subst hlen
    simp only [ax_R] at hR
    split at hR
    · rename_i hc0
      cases hR
      obtain ⟨ho, hk9, hn2⟩ := hc0
      subst hk9
      subst hn2
      rw [ho] at hown
      have h1 : ((ax_pp 0 st).bind fun k => (ax_pp 0 k.2).bind fun n => if 0 ≤ k.1 ∧ k.1 ≤ 60000 ∧ 0 ≤ n.1 ∧ n.1 ≤ 1000 then
          some ((2, (H.1.length : Int)) :: n.2, (H.1 ++ (112, n.1.toNat, (List.range n.1.toNat).map fun i => ((H.1.length + 1 + i : Nat) : Int)) :: List.replicate n.1.toNat (100, k.1.toNat, []), ax_zr H.2 H.1.length)) else none) = some (st', H') ∧ pc' = pc + 4 ∧ ls' = ls := by
        have h0 : ((ax_pp 0 st).bind fun k => (ax_pp 0 k.2).bind fun n => if 0 ≤ k.1 ∧ k.1 ≤ 60000 ∧ 0 ≤ n.1 ∧ n.1 ≤ 1000 then
          some (((2, (H.1.length : Int)) :: n.2 : List ax_V), ((H.1 ++ (112, n.1.toNat, (List.range n.1.toNat).map fun i => ((H.1.length + 1 + i : Nat) : Int)) :: List.replicate n.1.toNat (100, k.1.toNat, []), ax_zr H.2 H.1.length) : ax_H)) else none).map (fun z => (pc + 4, ls, z.1, z.2)) = some (pc', ls', st', H') := hst
        obtain ⟨z, hz, h0⟩ := Option.map_eq_some_iff.mp h0
        cases h0
        exact ⟨hz, rfl, rfl⟩
      obtain ⟨h1, rfl, rfl⟩ := h1
      obtain ⟨k, hk, h1⟩ := Option.bind_eq_some_iff.mp h1
      obtain ⟨n, hn, h1⟩ := Option.bind_eq_some_iff.mp h1
      split at h1
      · rename_i hc
        cases h1
        rw [ax_pp_inv hk, ax_pp_inv hn]
        have e1 := hrm.1
        have e2 := hrm.2
        have g1 : ∀ (A B : ax_L), ax_sl (A ++ B) = ax_sl A + ax_sl B := fun A B => by unfold ax_sl; simp
        have g2 : ∀ (q : Nat × Nat × List Int) (B : ax_L), ax_sl (q :: B) = q.2.1 + ax_sl B := fun q B => by unfold ax_sl; simp
        rw [g1, g2, ax_sl_rep] at e2
        simp only [List.length_append, List.length_cons, List.length_replicate] at e1
        have e3 : ax_sl H.1 + (n.1.toNat + n.1.toNat * k.1.toNat) ≤ s0 + R.slots := e2
        rw [← Nat.add_assoc] at e3
        exact as_mna hx hb hts had hsz hSP.2.2.1 hown hc.2.2.1 hc.2.2.2 hc.1 hc.2.1 hd (by omega) e3 kk
      · cases h1
    · cases hR
  | dup =>
    have hlen : len = 1 := by simp [ax_le] at hle; omega
    subst hlen
    cases hR
    match st, hst with
    | [], hst => cases hst
    | u :: r, hst =>
      have h1 : (if u.1 = 0 ∨ u.1 = 2 then some (pc + 1, ls, u :: u :: r, H) else none) = some (pc', ls', st', H') := hst
      split at h1
      · rename_i hc
        cases h1
        exact as_dup hx hb hc hd kk
      · cases h1
  | pop =>
    have hlen : len = 1 := by simp [ax_le] at hle; omega
    subst hlen
    cases hR
    match st, hst with
    | [], hst => cases hst
    | u :: r, hst =>
      have h1 : (if u.1 = 0 ∨ u.1 = 2 then some (pc + 1, ls, r, H) else none) = some (pc', ls', st', H') := hst
      split at h1
      · rename_i hc
        cases h1
        exact as_pop hx hb hc hd kk
      · cases h1
  | dup2 =>
    have hlen : len = 1 := by simp [ax_le] at hle; omega
    subst hlen
    cases hR
    match st, hst with
    | [], hst => cases hst
    | [_], hst => cases hst
    | u :: w :: r, hst =>
      have h1 : (if (u.1 = 0 ∨ u.1 = 2) ∧ (w.1 = 0 ∨ w.1 = 2) then some (pc + 1, ls, u :: w :: u :: w :: r, H) else none) = some (pc', ls', st', H') := hst
      split at h1
      · rename_i hc
        cases h1
        exact as_dup2 hx hb hc.1 hc.2 hd kk
      · cases h1
  | ireturn =>
    exfalso
    simp only [ax_R] at hR
    split at hR <;> first | (cases hR; exact absurd hop (by decide)) | cases hR
  | lreturn =>
    exfalso
    simp only [ax_R] at hR
    split at hR <;> first | (cases hR; exact absurd hop (by decide)) | cases hR
  | areturn =>
    exfalso
    simp only [ax_R] at hR
    split at hR <;> first | (cases hR; exact absurd hop (by decide)) | cases hR
  | return_ =>
    exfalso
    simp only [ax_R] at hR
    split at hR <;> first | (cases hR; exact absurd hop (by decide)) | cases hR
  | _ => simp [ax_R] at hR
end AXM
