/-! STEPS WITHOUT THE HEAP; written by wip/whole/gen_sim.py -/
section AXA
variable {p : Program} {l : Launch} {e : Env} {R : Room} {s : State} {mi : MethodId} {args : Array Value} {below : List Frame} {meth : Method} {c : Code} {Q : State → Prop} {cc : ByteArray} {D : va_G} {base : Nat} {ad : Int → Nat} {nL n0 s0 : Nat}
/-- from this frame of the abstract machine the machine comes to Q -/
def ax_G (p : Program) (l : Launch) (e : Env) (R : Room) (s : State) (mi : MethodId) (args : Array Value) (below : List Frame) (meth : Method) (c : Code) (Q : State → Prop) (D : va_G) (base : Nat) (ad : Int → Nat) (nL n0 s0 : Nat) (pc : Nat) (ls st : List ax_V) (H : ax_H) : Prop :=
  ∀ (lsM : Array Slot) (Hp : Heap) (locs : List Loc) (cells slots : Nat), ax_Rel D base ad s nL n0 s0 ls st H lsM Hp locs cells slots → W p l e R s mi args below meth c Hp locs cells slots Q (F0 mi pc lsM (st.map (ax_tv ad)))
theorem ax_Rel.stk {ls st st' : List ax_V} {H : ax_H} {lsM : Array Slot} {Hp : Heap} {locs : List Loc} {cells slots : Nat} (h : ax_Rel D base ad s nL n0 s0 ls st H lsM Hp locs cells slots) (h' : ∀ v ∈ st', ax_ok v) : ax_Rel D base ad s nL n0 s0 ls st' H lsM Hp locs cells slots := ⟨h.1, h', h.2.2⟩
theorem ax_Rel.lcl {ls ls' st st' : List ax_V} {H : ax_H} {lsM lsM' : Array Slot} {Hp : Heap} {locs : List Loc} {cells slots : Nat} (h : ax_Rel D base ad s nL n0 s0 ls st H lsM Hp locs cells slots) (h' : ax_LR ad nL ls' lsM') (h2 : ∀ v ∈ st', ax_ok v) : ax_Rel D base ad s nL n0 s0 ls' st' H lsM' Hp locs cells slots := ⟨h', h2, h.2.2⟩
theorem ax_okc {v : ax_V} {r : List ax_V} (hv : ax_ok v) (hr : ∀ u ∈ r, ax_ok u) : ∀ u ∈ v :: r, ax_ok u := List.forall_mem_cons.mpr ⟨hv, hr⟩
theorem ax_oki {x : Int} (h : ax_r32 x) : ax_ok (0, x) := Or.inl ⟨rfl, h⟩
theorem ax_okl {x : Int} (h : ax_r64 x) : ax_ok (1, x) := Or.inr (Or.inl ⟨rfl, h⟩)
theorem ax_okr (x : Int) : ax_ok (2, x) := Or.inr (Or.inr rfl)
theorem ax_ok0 {x : Int} (h : ax_ok (0, x)) : ax_r32 x := by
  rcases h with h | h | h
  · exact h.2
  · exact absurd h.1 (by show ¬ (0 : Nat) = 1; omega)
  · exact absurd h (by show ¬ (0 : Nat) = 2; omega)
theorem ax_ok1 {x : Int} (h : ax_ok (1, x)) : ax_r64 x := by
  rcases h with h | h | h
  · exact absurd h.1 (by show ¬ (1 : Nat) = 0; omega)
  · exact h.2
  · exact absurd h (by show ¬ (1 : Nat) = 2; omega)
theorem ax_okh {v : ax_V} {r : List ax_V} (h : ∀ u ∈ v :: r, ax_ok u) : ax_ok v := h v List.mem_cons_self
theorem ax_okt {v : ax_V} {r : List ax_V} (h : ∀ u ∈ v :: r, ax_ok u) : ∀ u ∈ r, ax_ok u := fun u hu => h u (List.mem_cons_of_mem _ hu)

theorem as_const (hx : p.tables.exec = Jvm.exec) (hb : c.code = cc) {pc : Nat} {ls r : List ax_V} {H : ax_H} {v : Int} (hv : ax_r32 v) {n : Int} (hw : Int32.ofInt n = Int32.ofInt v) (hd : decode cc pc = .ok (.iconst n, 1)) (kk : ax_G p l e R s mi args below meth c Q D base ad nL n0 s0 (pc + 1) ls ((0, v) :: r) H) : ax_G p l e R s mi args below meth c Q D base ad nL n0 s0 pc ls r H := by
  intro lsM Hp locs cells slots hr
  exact lv_iconst hx hb hd hw (kk lsM Hp locs cells slots (hr.stk (ax_okc (ax_oki hv) hr.2.1)))
theorem as_bipush (hx : p.tables.exec = Jvm.exec) (hb : c.code = cc) {pc : Nat} {ls r : List ax_V} {H : ax_H} {n : Int} (hd : decode cc pc = .ok (.bipush n, 2)) (kk : ax_G p l e R s mi args below meth c Q D base ad nL n0 s0 (pc + 2) ls ((0, ax_w8 n) :: r) H) : ax_G p l e R s mi args below meth c Q D base ad nL n0 s0 pc ls r H := by
  intro lsM Hp locs cells slots hr
  exact lv_bipush hx hb hd (ax_bip n) (kk lsM Hp locs cells slots (hr.stk (ax_okc (ax_oki (by have := ax_w8_r n; unfold ax_r32; omega)) hr.2.1)))
theorem as_sipush (hx : p.tables.exec = Jvm.exec) (hb : c.code = cc) {pc : Nat} {ls r : List ax_V} {H : ax_H} {n : Int} (hd : decode cc pc = .ok (.sipush n, 3)) (kk : ax_G p l e R s mi args below meth c Q D base ad nL n0 s0 (pc + 3) ls ((0, ax_w16 n) :: r) H) : ax_G p l e R s mi args below meth c Q D base ad nL n0 s0 pc ls r H := by
  intro lsM Hp locs cells slots hr
  exact lv_sipush hx hb hd (ax_sip n) (kk lsM Hp locs cells slots (hr.stk (ax_okc (ax_oki (by have := ax_w16_r n; unfold ax_r32; omega)) hr.2.1)))
theorem as_lconst (hx : p.tables.exec = Jvm.exec) (hb : c.code = cc) {pc : Nat} {ls r : List ax_V} {H : ax_H} {n : Fin 2} (hd : decode cc pc = .ok (.lconst n, 1)) (kk : ax_G p l e R s mi args below meth c Q D base ad nL n0 s0 (pc + 1) ls ((1, (n.val : Int)) :: r) H) : ax_G p l e R s mi args below meth c Q D base ad nL n0 s0 pc ls r H := by
  intro lsM Hp locs cells slots hr
  exact lv_lconst hx hb hd (ax_ofnl n.val) (kk lsM Hp locs cells slots (hr.stk (ax_okc (ax_okl (by have := n.isLt; unfold ax_r64; omega)) hr.2.1)))
theorem as_ldc (hx : p.tables.exec = Jvm.exec) (hb : c.code = cc) {pc : Nat} {ls r : List ax_V} {H : ax_H} {own : String} (hown : s.vm.findClass own = some mi.cls) {k : Nat} {v : Int} (hv : ax_r32 v) (hc : (Jvm.Cond.constant own k (Int32.ofInt v)).before args s = true) (hd : decode cc pc = .ok (.ldc k, 2)) (kk : ax_G p l e R s mi args below meth c Q D base ad nL n0 s0 (pc + 2) ls ((0, v) :: r) H) : ax_G p l e R s mi args below meth c Q D base ad nL n0 s0 pc ls r H := by
  intro lsM Hp locs cells slots hr
  exact lv_ldc hx hb hown hc hd (kk lsM Hp locs cells slots (hr.stk (ax_okc (ax_oki hv) hr.2.1)))
theorem as_ldcw (hx : p.tables.exec = Jvm.exec) (hb : c.code = cc) {pc : Nat} {ls r : List ax_V} {H : ax_H} {own : String} (hown : s.vm.findClass own = some mi.cls) {k : Nat} {v : Int} (hv : ax_r32 v) (hc : (Jvm.Cond.constant own k (Int32.ofInt v)).before args s = true) (hd : decode cc pc = .ok (.ldc_w k, 3)) (kk : ax_G p l e R s mi args below meth c Q D base ad nL n0 s0 (pc + 3) ls ((0, v) :: r) H) : ax_G p l e R s mi args below meth c Q D base ad nL n0 s0 pc ls r H := by
  intro lsM Hp locs cells slots hr
  exact lv_ldcw hx hb hown hc hd (kk lsM Hp locs cells slots (hr.stk (ax_okc (ax_oki hv) hr.2.1)))
theorem as_ldc2 (hx : p.tables.exec = Jvm.exec) (hb : c.code = cc) {pc : Nat} {ls r : List ax_V} {H : ax_H} {own : String} (hown : s.vm.findClass own = some mi.cls) {k : Nat} {v : Int} (hv : ax_r64 v) (hc : (Jvm.Cond.constantLong own k (Int64.ofInt v)).before args s = true) (hd : decode cc pc = .ok (.ldc2_w k, 3)) (kk : ax_G p l e R s mi args below meth c Q D base ad nL n0 s0 (pc + 3) ls ((1, v) :: r) H) : ax_G p l e R s mi args below meth c Q D base ad nL n0 s0 pc ls r H := by
  intro lsM Hp locs cells slots hr
  exact W.ldc2 hx hb hown hc (g := F0 mi pc lsM (r.map (ax_tv ad))) rfl hd (kk lsM Hp locs cells slots (hr.stk (ax_okc (ax_okl hv) hr.2.1)))
theorem as_iload_n (hx : p.tables.exec = Jvm.exec) (hb : c.code = cc) {pc : Nat} {ls r : List ax_V} {H : ax_H} {k : Fin 4} {x : Int} (hl : ax_ld ls k.val = (0, x)) (hd : decode cc pc = .ok (.iload_n k, 1)) (kk : ax_G p l e R s mi args below meth c Q D base ad nL n0 s0 (pc + 1) ls ((0, x) :: r) H) : ax_G p l e R s mi args below meth c Q D base ad nL n0 s0 pc ls r H := by
  intro lsM Hp locs cells slots hr
  obtain ⟨q1, q2⟩ := hr.1.2.2.2 k.val (by rw [hl]; show (0 : Nat) ≤ 2; omega)
  have q3 := q2
  rw [hl] at q3
  exact lv_iload_n hx hb hd rfl q3 (kk lsM Hp locs cells slots (hr.stk (ax_okc (ax_oki (ax_ok0 (by rw [← hl]; exact q1))) hr.2.1)))
theorem as_iload (hx : p.tables.exec = Jvm.exec) (hb : c.code = cc) {pc : Nat} {ls r : List ax_V} {H : ax_H} {k : Nat} {x : Int} (hl : ax_ld ls k = (0, x)) (hd : decode cc pc = .ok (.iload k, 2)) (kk : ax_G p l e R s mi args below meth c Q D base ad nL n0 s0 (pc + 2) ls ((0, x) :: r) H) : ax_G p l e R s mi args below meth c Q D base ad nL n0 s0 pc ls r H := by
  intro lsM Hp locs cells slots hr
  obtain ⟨q1, q2⟩ := hr.1.2.2.2 k (by rw [hl]; show (0 : Nat) ≤ 2; omega)
  have q3 := q2
  rw [hl] at q3
  exact lv_iload hx hb hd q3 (kk lsM Hp locs cells slots (hr.stk (ax_okc (ax_oki (ax_ok0 (by rw [← hl]; exact q1))) hr.2.1)))
theorem as_lload_n (hx : p.tables.exec = Jvm.exec) (hb : c.code = cc) {pc : Nat} {ls r : List ax_V} {H : ax_H} {k : Fin 4} {x : Int} (hl : ax_ld ls k.val = (1, x)) (hd : decode cc pc = .ok (.lload_n k, 1)) (kk : ax_G p l e R s mi args below meth c Q D base ad nL n0 s0 (pc + 1) ls ((1, x) :: r) H) : ax_G p l e R s mi args below meth c Q D base ad nL n0 s0 pc ls r H := by
  intro lsM Hp locs cells slots hr
  obtain ⟨q1, q2⟩ := hr.1.2.2.2 k.val (by rw [hl]; show (1 : Nat) ≤ 2; omega)
  have q3 := q2
  rw [hl] at q3
  exact lv_lload_n hx hb hd rfl q3 (kk lsM Hp locs cells slots (hr.stk (ax_okc (ax_okl (ax_ok1 (by rw [← hl]; exact q1))) hr.2.1)))
theorem as_lload (hx : p.tables.exec = Jvm.exec) (hb : c.code = cc) {pc : Nat} {ls r : List ax_V} {H : ax_H} {k : Nat} {x : Int} (hl : ax_ld ls k = (1, x)) (hd : decode cc pc = .ok (.lload k, 2)) (kk : ax_G p l e R s mi args below meth c Q D base ad nL n0 s0 (pc + 2) ls ((1, x) :: r) H) : ax_G p l e R s mi args below meth c Q D base ad nL n0 s0 pc ls r H := by
  intro lsM Hp locs cells slots hr
  obtain ⟨q1, q2⟩ := hr.1.2.2.2 k (by rw [hl]; show (1 : Nat) ≤ 2; omega)
  have q3 := q2
  rw [hl] at q3
  exact lv_lload hx hb hd q3 (kk lsM Hp locs cells slots (hr.stk (ax_okc (ax_okl (ax_ok1 (by rw [← hl]; exact q1))) hr.2.1)))
theorem as_aload_n (hx : p.tables.exec = Jvm.exec) (hb : c.code = cc) {pc : Nat} {ls r : List ax_V} {H : ax_H} {k : Fin 4} {x : Int} (hl : ax_ld ls k.val = (2, x)) (hd : decode cc pc = .ok (.aload_n k, 1)) (kk : ax_G p l e R s mi args below meth c Q D base ad nL n0 s0 (pc + 1) ls ((2, x) :: r) H) : ax_G p l e R s mi args below meth c Q D base ad nL n0 s0 pc ls r H := by
  intro lsM Hp locs cells slots hr
  obtain ⟨q1, q2⟩ := hr.1.2.2.2 k.val (by rw [hl]; show (2 : Nat) ≤ 2; omega)
  have q3 : lsM[k.val]? = some (.val (va_rf (ax_ro ad x))) := by rw [q2, hl]; rfl
  have K := kk lsM Hp locs cells slots (hr.stk (ax_okc (ax_okr x) hr.2.1))
  have K : W p l e R s mi args below meth c Hp locs cells slots Q (F0 mi (pc + 1) lsM (va_rf (ax_ro ad x) :: r.map (ax_tv ad))) := K
  cases hq : ax_ro ad x with
  | none => rw [hq] at q3 K; exact lv_aload_nN hx hb hd rfl q3 K
  | some a => rw [hq] at q3 K; exact lv_aload_n hx hb hd rfl q3 K
theorem as_aload (hx : p.tables.exec = Jvm.exec) (hb : c.code = cc) {pc : Nat} {ls r : List ax_V} {H : ax_H} {k : Nat} {x : Int} (hl : ax_ld ls k = (2, x)) (hd : decode cc pc = .ok (.aload k, 2)) (kk : ax_G p l e R s mi args below meth c Q D base ad nL n0 s0 (pc + 2) ls ((2, x) :: r) H) : ax_G p l e R s mi args below meth c Q D base ad nL n0 s0 pc ls r H := by
  intro lsM Hp locs cells slots hr
  obtain ⟨q1, q2⟩ := hr.1.2.2.2 k (by rw [hl]; show (2 : Nat) ≤ 2; omega)
  have q3 : lsM[k]? = some (.val (va_rf (ax_ro ad x))) := by rw [q2, hl]; rfl
  have K := kk lsM Hp locs cells slots (hr.stk (ax_okc (ax_okr x) hr.2.1))
  have K : W p l e R s mi args below meth c Hp locs cells slots Q (F0 mi (pc + 2) lsM (va_rf (ax_ro ad x) :: r.map (ax_tv ad))) := K
  cases hq : ax_ro ad x with
  | none => rw [hq] at q3 K; exact lv_aloadN hx hb hd q3 K
  | some a => rw [hq] at q3 K; exact lv_aload hx hb hd q3 K
theorem as_istore_n (hx : p.tables.exec = Jvm.exec) (hb : c.code = cc) {pc : Nat} {ls r : List ax_V} {H : ax_H} {k : Fin 4} {x : Int} {ls' : List ax_V} (hs : ax_sto ls k.val (0, x) = some ls') (hd : decode cc pc = .ok (.istore_n k, 1)) (kk : ax_G p l e R s mi args below meth c Q D base ad nL n0 s0 (pc + 1) ls' r H) : ax_G p l e R s mi args below meth c Q D base ad nL n0 s0 pc ls ((0, x) :: r) H := by
  intro lsM Hp locs cells slots hr
  refine lv_istore_n hx hb hd rfl (ax_lr_has hr.1) (by have := (ax_sto_spec _ _ _ _ hs).1; have := hr.1.2.1; omega) rfl (fun lsM' h' => ?_)
  exact kk lsM' Hp locs cells slots (hr.lcl (ax_lr_set (v := (0, x)) (ax_okh hr.2.1) hs hr.1 h') (ax_okt hr.2.1))
theorem as_astore_n (hx : p.tables.exec = Jvm.exec) (hb : c.code = cc) {pc : Nat} {ls r : List ax_V} {H : ax_H} {k : Fin 4} {x : Int} {ls' : List ax_V} (hs : ax_sto ls k.val (2, x) = some ls') (hd : decode cc pc = .ok (.astore_n k, 1)) (kk : ax_G p l e R s mi args below meth c Q D base ad nL n0 s0 (pc + 1) ls' r H) : ax_G p l e R s mi args below meth c Q D base ad nL n0 s0 pc ls ((2, x) :: r) H := by
  intro lsM Hp locs cells slots hr
  have hn : k.val < nL := by have := (ax_sto_spec _ _ _ _ hs).1; have := hr.1.2.1; omega
  show W p l e R s mi args below meth c Hp locs cells slots Q (F0 mi pc lsM (va_rf (ax_ro ad x) :: r.map (ax_tv ad)))
  have hset : ∀ lsM', lv_has lsM' nL ((k.val, va_rf (ax_ro ad x)) :: (ax_lvl ad ls nL).filter (fun q => !(q.1 == k.val) && !(q.1 + 1 == k.val && q.2.category == 2))) → ax_LR ad nL ls' lsM' := fun lsM' h' => ax_lr_set (v := (2, x)) (ax_okr x) hs hr.1 h'
  cases hq : ax_ro ad x with
  | none => exact lv_astore_nN hx hb hd rfl (ax_lr_has hr.1) hn rfl (fun lsM' h' => kk lsM' Hp locs cells slots (hr.lcl (hset lsM' (by rw [hq]; exact h')) (ax_okt hr.2.1)))
  | some a => exact lv_astore_n hx hb hd rfl (ax_lr_has hr.1) hn rfl (fun lsM' h' => kk lsM' Hp locs cells slots (hr.lcl (hset lsM' (by rw [hq]; exact h')) (ax_okt hr.2.1)))
theorem as_lstore_n (hx : p.tables.exec = Jvm.exec) (hb : c.code = cc) {pc : Nat} {ls r : List ax_V} {H : ax_H} {k : Fin 4} {x : Int} {ls' : List ax_V} (hs : ax_stl ls k.val (1, x) = some ls') (hd : decode cc pc = .ok (.lstore_n k, 1)) (kk : ax_G p l e R s mi args below meth c Q D base ad nL n0 s0 (pc + 1) ls' r H) : ax_G p l e R s mi args below meth c Q D base ad nL n0 s0 pc ls ((1, x) :: r) H := by
  intro lsM Hp locs cells slots hr
  have hn : k.val + 1 < nL := by
    unfold ax_stl at hs
    obtain ⟨l1, hs1, hs2⟩ := Option.bind_eq_some_iff.mp hs
    have := (ax_sto_spec _ _ _ _ hs1).2.1
    have := hr.1.2.1
    split at hs2
    · omega
    · cases hs2
  refine lv_lstore_n hx hb hd rfl (ax_lr_has hr.1) hn rfl (fun lsM' h' => ?_)
  exact kk lsM' Hp locs cells slots (hr.lcl (ax_lr_setl (v := (1, x)) (ax_okh hr.2.1) hs hr.1 h').1 (ax_okt hr.2.1))
theorem as_istore (hx : p.tables.exec = Jvm.exec) (hb : c.code = cc) {pc : Nat} {ls r : List ax_V} {H : ax_H} {k : Nat} {x : Int} {ls' : List ax_V} (hs : ax_sto ls k (0, x) = some ls') (hd : decode cc pc = .ok (.istore k, 2)) (kk : ax_G p l e R s mi args below meth c Q D base ad nL n0 s0 (pc + 2) ls' r H) : ax_G p l e R s mi args below meth c Q D base ad nL n0 s0 pc ls ((0, x) :: r) H := by
  intro lsM Hp locs cells slots hr
  refine lv_istore hx hb hd (ax_lr_has hr.1) (by have := (ax_sto_spec _ _ _ _ hs).1; have := hr.1.2.1; omega) rfl (fun lsM' h' => ?_)
  exact kk lsM' Hp locs cells slots (hr.lcl (ax_lr_set (v := (0, x)) (ax_okh hr.2.1) hs hr.1 h') (ax_okt hr.2.1))
theorem as_astore (hx : p.tables.exec = Jvm.exec) (hb : c.code = cc) {pc : Nat} {ls r : List ax_V} {H : ax_H} {k : Nat} {x : Int} {ls' : List ax_V} (hs : ax_sto ls k (2, x) = some ls') (hd : decode cc pc = .ok (.astore k, 2)) (kk : ax_G p l e R s mi args below meth c Q D base ad nL n0 s0 (pc + 2) ls' r H) : ax_G p l e R s mi args below meth c Q D base ad nL n0 s0 pc ls ((2, x) :: r) H := by
  intro lsM Hp locs cells slots hr
  have hn : k < nL := by have := (ax_sto_spec _ _ _ _ hs).1; have := hr.1.2.1; omega
  show W p l e R s mi args below meth c Hp locs cells slots Q (F0 mi pc lsM (va_rf (ax_ro ad x) :: r.map (ax_tv ad)))
  have hset : ∀ lsM', lv_has lsM' nL ((k, va_rf (ax_ro ad x)) :: (ax_lvl ad ls nL).filter (fun q => !(q.1 == k) && !(q.1 + 1 == k && q.2.category == 2))) → ax_LR ad nL ls' lsM' := fun lsM' h' => ax_lr_set (v := (2, x)) (ax_okr x) hs hr.1 h'
  cases hq : ax_ro ad x with
  | none => exact lv_astoreN hx hb hd (ax_lr_has hr.1) hn rfl (fun lsM' h' => kk lsM' Hp locs cells slots (hr.lcl (hset lsM' (by rw [hq]; exact h')) (ax_okt hr.2.1)))
  | some a => exact lv_astore hx hb hd (ax_lr_has hr.1) hn rfl (fun lsM' h' => kk lsM' Hp locs cells slots (hr.lcl (hset lsM' (by rw [hq]; exact h')) (ax_okt hr.2.1)))
theorem as_lstore (hx : p.tables.exec = Jvm.exec) (hb : c.code = cc) {pc : Nat} {ls r : List ax_V} {H : ax_H} {k : Nat} {x : Int} {ls' : List ax_V} (hs : ax_stl ls k (1, x) = some ls') (hd : decode cc pc = .ok (.lstore k, 2)) (kk : ax_G p l e R s mi args below meth c Q D base ad nL n0 s0 (pc + 2) ls' r H) : ax_G p l e R s mi args below meth c Q D base ad nL n0 s0 pc ls ((1, x) :: r) H := by
  intro lsM Hp locs cells slots hr
  have hn : k + 1 < nL := by
    unfold ax_stl at hs
    obtain ⟨l1, hs1, hs2⟩ := Option.bind_eq_some_iff.mp hs
    have := (ax_sto_spec _ _ _ _ hs1).2.1
    have := hr.1.2.1
    split at hs2
    · omega
    · cases hs2
  refine lv_lstore hx hb hd (ax_lr_has hr.1) hn rfl (fun lsM' h' => ?_)
  exact kk lsM' Hp locs cells slots (hr.lcl (ax_lr_setl (v := (1, x)) (ax_okh hr.2.1) hs hr.1 h').1 (ax_okt hr.2.1))
theorem as_iinc (hx : p.tables.exec = Jvm.exec) (hb : c.code = cc) {pc : Nat} {ls r : List ax_V} {H : ax_H} {k : Nat} {n x : Int} {ls' : List ax_V} (hl : ax_ld ls k = (0, x)) (hs : ax_sto ls k (0, ax_w32 (x + n)) = some ls') (hd : decode cc pc = .ok (.iinc k n, 3)) (kk : ax_G p l e R s mi args below meth c Q D base ad nL n0 s0 (pc + 3) ls' r H) : ax_G p l e R s mi args below meth c Q D base ad nL n0 s0 pc ls r H := by
  intro lsM Hp locs cells slots hr
  have hn : k < nL := by have := (ax_sto_spec _ _ _ _ hs).1; have := hr.1.2.1; omega
  have hm : (k, ax_tv ad (ax_ld ls k)) ∈ ax_lvl ad ls nL := ax_lvl_mem.mpr ⟨hn, by rw [hl]; show (0 : Nat) ≤ 2; omega, rfl⟩
  rw [hl] at hm
  obtain ⟨j, hj⟩ := List.getElem?_of_mem hm
  refine lv_iinc hx hb hd (ax_lr_has hr.1) (k := j) hj (ax_add x n) hn rfl (fun lsM' h' => ?_)
  exact kk lsM' Hp locs cells slots (hr.lcl (ax_lr_set (v := (0, ax_w32 (x + n))) (ax_oki (ax_w32_r _)) hs hr.1 h') hr.2.1)
theorem as_iadd (hx : p.tables.exec = Jvm.exec) (hb : c.code = cc) {pc : Nat} {ls r : List ax_V} {H : ax_H} {x y : Int} (hd : decode cc pc = .ok (.iadd, 1)) (kk : ax_G p l e R s mi args below meth c Q D base ad nL n0 s0 (pc + 1) ls ((0, ax_w32 (x + y)) :: r) H) : ax_G p l e R s mi args below meth c Q D base ad nL n0 s0 pc ls ((0, y) :: (0, x) :: r) H := by
  intro lsM Hp locs cells slots hr
  have K := kk lsM Hp locs cells slots (hr.stk (ax_okc (ax_oki (ax_w32_r _)) (ax_okt (ax_okt hr.2.1))))
  have e1 : Int32.ofInt (ax_w32 (x + y)) = Int32.ofInt x + Int32.ofInt y := (ax_add x y).symm
  refine lv_iadd hx hb hd ?_
  rw [← e1]
  exact K
theorem as_isub (hx : p.tables.exec = Jvm.exec) (hb : c.code = cc) {pc : Nat} {ls r : List ax_V} {H : ax_H} {x y : Int} (hd : decode cc pc = .ok (.isub, 1)) (kk : ax_G p l e R s mi args below meth c Q D base ad nL n0 s0 (pc + 1) ls ((0, ax_w32 (x - y)) :: r) H) : ax_G p l e R s mi args below meth c Q D base ad nL n0 s0 pc ls ((0, y) :: (0, x) :: r) H := by
  intro lsM Hp locs cells slots hr
  have K := kk lsM Hp locs cells slots (hr.stk (ax_okc (ax_oki (ax_w32_r _)) (ax_okt (ax_okt hr.2.1))))
  have e1 : Int32.ofInt (ax_w32 (x - y)) = Int32.ofInt x - Int32.ofInt y := (ax_sub x y).symm
  refine lv_isub hx hb hd ?_
  rw [← e1]
  exact K
theorem as_imul (hx : p.tables.exec = Jvm.exec) (hb : c.code = cc) {pc : Nat} {ls r : List ax_V} {H : ax_H} {x y : Int} (hd : decode cc pc = .ok (.imul, 1)) (kk : ax_G p l e R s mi args below meth c Q D base ad nL n0 s0 (pc + 1) ls ((0, ax_w32 (x * y)) :: r) H) : ax_G p l e R s mi args below meth c Q D base ad nL n0 s0 pc ls ((0, y) :: (0, x) :: r) H := by
  intro lsM Hp locs cells slots hr
  have K := kk lsM Hp locs cells slots (hr.stk (ax_okc (ax_oki (ax_w32_r _)) (ax_okt (ax_okt hr.2.1))))
  have e1 : Int32.ofInt (ax_w32 (x * y)) = Int32.ofInt x * Int32.ofInt y := (ax_mul x y).symm
  refine lv_imul hx hb hd ?_
  rw [← e1]
  exact K
theorem as_iand (hx : p.tables.exec = Jvm.exec) (hb : c.code = cc) {pc : Nat} {ls r : List ax_V} {H : ax_H} {x y : Int} (hd : decode cc pc = .ok (.iand, 1)) (kk : ax_G p l e R s mi args below meth c Q D base ad nL n0 s0 (pc + 1) ls ((0, ax_and x y) :: r) H) : ax_G p l e R s mi args below meth c Q D base ad nL n0 s0 pc ls ((0, y) :: (0, x) :: r) H := by
  intro lsM Hp locs cells slots hr
  have K := kk lsM Hp locs cells slots (hr.stk (ax_okc (ax_oki (ax_r32_ti _)) (ax_okt (ax_okt hr.2.1))))
  have e1 : Int32.ofInt (ax_and x y) = Int32.ofInt x &&& Int32.ofInt y := ((ax_oti _).symm).symm
  refine lv_iand hx hb hd ?_
  rw [← e1]
  exact K
theorem as_ior (hx : p.tables.exec = Jvm.exec) (hb : c.code = cc) {pc : Nat} {ls r : List ax_V} {H : ax_H} {x y : Int} (hd : decode cc pc = .ok (.ior, 1)) (kk : ax_G p l e R s mi args below meth c Q D base ad nL n0 s0 (pc + 1) ls ((0, ax_or x y) :: r) H) : ax_G p l e R s mi args below meth c Q D base ad nL n0 s0 pc ls ((0, y) :: (0, x) :: r) H := by
  intro lsM Hp locs cells slots hr
  have K := kk lsM Hp locs cells slots (hr.stk (ax_okc (ax_oki (ax_r32_ti _)) (ax_okt (ax_okt hr.2.1))))
  have e1 : Int32.ofInt (ax_or x y) = Int32.ofInt x ||| Int32.ofInt y := ((ax_oti _).symm).symm
  refine lv_ior hx hb hd ?_
  rw [← e1]
  exact K
theorem as_ishl (hx : p.tables.exec = Jvm.exec) (hb : c.code = cc) {pc : Nat} {ls r : List ax_V} {H : ax_H} {x y : Int} (hd : decode cc pc = .ok (.ishl, 1)) (kk : ax_G p l e R s mi args below meth c Q D base ad nL n0 s0 (pc + 1) ls ((0, ax_shl x y) :: r) H) : ax_G p l e R s mi args below meth c Q D base ad nL n0 s0 pc ls ((0, y) :: (0, x) :: r) H := by
  intro lsM Hp locs cells slots hr
  have K := kk lsM Hp locs cells slots (hr.stk (ax_okc (ax_oki (ax_r32_ti _)) (ax_okt (ax_okt hr.2.1))))
  have e1 : Int32.ofInt (ax_shl x y) = Int32.ofInt x <<< (Int32.ofInt y &&& 31) := ((ax_oti _).symm).symm
  refine lv_ishl hx hb hd ?_
  rw [← e1]
  exact K
theorem as_ishr (hx : p.tables.exec = Jvm.exec) (hb : c.code = cc) {pc : Nat} {ls r : List ax_V} {H : ax_H} {x y : Int} (hd : decode cc pc = .ok (.ishr, 1)) (kk : ax_G p l e R s mi args below meth c Q D base ad nL n0 s0 (pc + 1) ls ((0, ax_shr x y) :: r) H) : ax_G p l e R s mi args below meth c Q D base ad nL n0 s0 pc ls ((0, y) :: (0, x) :: r) H := by
  intro lsM Hp locs cells slots hr
  have K := kk lsM Hp locs cells slots (hr.stk (ax_okc (ax_oki (ax_r32_ti _)) (ax_okt (ax_okt hr.2.1))))
  have e1 : Int32.ofInt (ax_shr x y) = Int32.ofInt x >>> (Int32.ofInt y &&& 31) := ((ax_oti _).symm).symm
  refine lv_ishr hx hb hd ?_
  rw [← e1]
  exact K
theorem as_iushr (hx : p.tables.exec = Jvm.exec) (hb : c.code = cc) {pc : Nat} {ls r : List ax_V} {H : ax_H} {x y : Int} (hd : decode cc pc = .ok (.iushr, 1)) (kk : ax_G p l e R s mi args below meth c Q D base ad nL n0 s0 (pc + 1) ls ((0, ax_ushr x y) :: r) H) : ax_G p l e R s mi args below meth c Q D base ad nL n0 s0 pc ls ((0, y) :: (0, x) :: r) H := by
  intro lsM Hp locs cells slots hr
  exact lv_iushr hx hb hd (ax_oti _).symm (kk lsM Hp locs cells slots (hr.stk (ax_okc (ax_oki (ax_r32_ti _)) (ax_okt (ax_okt hr.2.1)))))
theorem as_idiv (hx : p.tables.exec = Jvm.exec) (hb : c.code = cc) {pc : Nat} {ls r : List ax_V} {H : ax_H} {x y : Int} (h0 : y ≠ 0) (hd : decode cc pc = .ok (.idiv, 1)) (kk : ax_G p l e R s mi args below meth c Q D base ad nL n0 s0 (pc + 1) ls ((0, ax_w32 (x.tdiv y)) :: r) H) : ax_G p l e R s mi args below meth c Q D base ad nL n0 s0 pc ls ((0, y) :: (0, x) :: r) H := by
  intro lsM Hp locs cells slots hr
  have hY := ax_ok0 (ax_okh hr.2.1)
  have hX := ax_ok0 (ax_okh (ax_okt hr.2.1))
  have K := kk lsM Hp locs cells slots (hr.stk (ax_okc (ax_oki (ax_w32_r _)) (ax_okt (ax_okt hr.2.1))))
  have e1 : Int32.ofInt (ax_w32 (x.tdiv y)) = Int32.ofInt x / Int32.ofInt y := (ax_div hX hY).symm
  refine lv_idiv hx hb hd (fun q => h0 ((ax_eq hY ax_r32_0).mp q)) ?_
  rw [← e1]
  exact K
theorem as_irem (hx : p.tables.exec = Jvm.exec) (hb : c.code = cc) {pc : Nat} {ls r : List ax_V} {H : ax_H} {x y : Int} (h0 : y ≠ 0) (hd : decode cc pc = .ok (.irem, 1)) (kk : ax_G p l e R s mi args below meth c Q D base ad nL n0 s0 (pc + 1) ls ((0, x.tmod y) :: r) H) : ax_G p l e R s mi args below meth c Q D base ad nL n0 s0 pc ls ((0, y) :: (0, x) :: r) H := by
  intro lsM Hp locs cells slots hr
  have hY := ax_ok0 (ax_okh hr.2.1)
  have hX := ax_ok0 (ax_okh (ax_okt hr.2.1))
  have K := kk lsM Hp locs cells slots (hr.stk (ax_okc (ax_oki (ax_tmod_r32 hX)) (ax_okt (ax_okt hr.2.1))))
  have e1 : Int32.ofInt (x.tmod y) = Int32.ofInt x - Int32.ofInt x / Int32.ofInt y * Int32.ofInt y := (ax_rem hX hY).symm
  refine lv_irem hx hb hd (fun q => h0 ((ax_eq hY ax_r32_0).mp q)) ?_
  rw [← e1]
  exact K
theorem as_ladd (hx : p.tables.exec = Jvm.exec) (hb : c.code = cc) {pc : Nat} {ls r : List ax_V} {H : ax_H} {x y : Int} (hd : decode cc pc = .ok (.ladd, 1)) (kk : ax_G p l e R s mi args below meth c Q D base ad nL n0 s0 (pc + 1) ls ((1, ax_w64 (x + y)) :: r) H) : ax_G p l e R s mi args below meth c Q D base ad nL n0 s0 pc ls ((1, y) :: (1, x) :: r) H := by
  intro lsM Hp locs cells slots hr
  have K := kk lsM Hp locs cells slots (hr.stk (ax_okc (ax_okl (ax_w64_r _)) (ax_okt (ax_okt hr.2.1))))
  have e1 : Int64.ofInt (ax_w64 (x + y)) = Int64.ofInt x + Int64.ofInt y := (ax_addl x y).symm
  refine lv_ladd hx hb hd ?_
  rw [← e1]
  exact K
theorem as_lsub (hx : p.tables.exec = Jvm.exec) (hb : c.code = cc) {pc : Nat} {ls r : List ax_V} {H : ax_H} {x y : Int} (hd : decode cc pc = .ok (.lsub, 1)) (kk : ax_G p l e R s mi args below meth c Q D base ad nL n0 s0 (pc + 1) ls ((1, ax_w64 (x - y)) :: r) H) : ax_G p l e R s mi args below meth c Q D base ad nL n0 s0 pc ls ((1, y) :: (1, x) :: r) H := by
  intro lsM Hp locs cells slots hr
  have K := kk lsM Hp locs cells slots (hr.stk (ax_okc (ax_okl (ax_w64_r _)) (ax_okt (ax_okt hr.2.1))))
  have e1 : Int64.ofInt (ax_w64 (x - y)) = Int64.ofInt x - Int64.ofInt y := (ax_subl x y).symm
  refine lv_lsub hx hb hd ?_
  rw [← e1]
  exact K
theorem as_lmul (hx : p.tables.exec = Jvm.exec) (hb : c.code = cc) {pc : Nat} {ls r : List ax_V} {H : ax_H} {x y : Int} (hd : decode cc pc = .ok (.lmul, 1)) (kk : ax_G p l e R s mi args below meth c Q D base ad nL n0 s0 (pc + 1) ls ((1, ax_w64 (x * y)) :: r) H) : ax_G p l e R s mi args below meth c Q D base ad nL n0 s0 pc ls ((1, y) :: (1, x) :: r) H := by
  intro lsM Hp locs cells slots hr
  have K := kk lsM Hp locs cells slots (hr.stk (ax_okc (ax_okl (ax_w64_r _)) (ax_okt (ax_okt hr.2.1))))
  have e1 : Int64.ofInt (ax_w64 (x * y)) = Int64.ofInt x * Int64.ofInt y := (ax_mull x y).symm
  refine lv_lmul hx hb hd ?_
  rw [← e1]
  exact K
theorem as_land (hx : p.tables.exec = Jvm.exec) (hb : c.code = cc) {pc : Nat} {ls r : List ax_V} {H : ax_H} {x y : Int} (hd : decode cc pc = .ok (.land, 1)) (kk : ax_G p l e R s mi args below meth c Q D base ad nL n0 s0 (pc + 1) ls ((1, ax_landl x y) :: r) H) : ax_G p l e R s mi args below meth c Q D base ad nL n0 s0 pc ls ((1, y) :: (1, x) :: r) H := by
  intro lsM Hp locs cells slots hr
  have K := kk lsM Hp locs cells slots (hr.stk (ax_okc (ax_okl (ax_r64_ti _)) (ax_okt (ax_okt hr.2.1))))
  have e1 : Int64.ofInt (ax_landl x y) = Int64.ofInt x &&& Int64.ofInt y := ((ax_otl _).symm).symm
  refine lv_land hx hb hd ?_
  rw [← e1]
  exact K
theorem as_lor (hx : p.tables.exec = Jvm.exec) (hb : c.code = cc) {pc : Nat} {ls r : List ax_V} {H : ax_H} {x y : Int} (hd : decode cc pc = .ok (.lor, 1)) (kk : ax_G p l e R s mi args below meth c Q D base ad nL n0 s0 (pc + 1) ls ((1, ax_lorl x y) :: r) H) : ax_G p l e R s mi args below meth c Q D base ad nL n0 s0 pc ls ((1, y) :: (1, x) :: r) H := by
  intro lsM Hp locs cells slots hr
  have K := kk lsM Hp locs cells slots (hr.stk (ax_okc (ax_okl (ax_r64_ti _)) (ax_okt (ax_okt hr.2.1))))
  have e1 : Int64.ofInt (ax_lorl x y) = Int64.ofInt x ||| Int64.ofInt y := ((ax_otl _).symm).symm
  refine lv_lor hx hb hd ?_
  rw [← e1]
  exact K
theorem as_ldiv (hx : p.tables.exec = Jvm.exec) (hb : c.code = cc) {pc : Nat} {ls r : List ax_V} {H : ax_H} {x y : Int} (h0 : y ≠ 0) (hd : decode cc pc = .ok (.ldiv, 1)) (kk : ax_G p l e R s mi args below meth c Q D base ad nL n0 s0 (pc + 1) ls ((1, ax_w64 (x.tdiv y)) :: r) H) : ax_G p l e R s mi args below meth c Q D base ad nL n0 s0 pc ls ((1, y) :: (1, x) :: r) H := by
  intro lsM Hp locs cells slots hr
  have hY := ax_ok1 (ax_okh hr.2.1)
  have hX := ax_ok1 (ax_okh (ax_okt hr.2.1))
  have K := kk lsM Hp locs cells slots (hr.stk (ax_okc (ax_okl (ax_w64_r _)) (ax_okt (ax_okt hr.2.1))))
  have e1 : Int64.ofInt (ax_w64 (x.tdiv y)) = Int64.ofInt x / Int64.ofInt y := (ax_divl hX hY).symm
  refine lv_ldiv hx hb hd (fun q => h0 ((ax_eql hY (by unfold ax_r64; omega)).mp q)) ?_
  rw [← e1]
  exact K
theorem as_lrem (hx : p.tables.exec = Jvm.exec) (hb : c.code = cc) {pc : Nat} {ls r : List ax_V} {H : ax_H} {x y : Int} (h0 : y ≠ 0) (hd : decode cc pc = .ok (.lrem, 1)) (kk : ax_G p l e R s mi args below meth c Q D base ad nL n0 s0 (pc + 1) ls ((1, x.tmod y) :: r) H) : ax_G p l e R s mi args below meth c Q D base ad nL n0 s0 pc ls ((1, y) :: (1, x) :: r) H := by
  intro lsM Hp locs cells slots hr
  have hY := ax_ok1 (ax_okh hr.2.1)
  have hX := ax_ok1 (ax_okh (ax_okt hr.2.1))
  have K := kk lsM Hp locs cells slots (hr.stk (ax_okc (ax_okl (ax_tmod_r64 hX)) (ax_okt (ax_okt hr.2.1))))
  have e1 : Int64.ofInt (x.tmod y) = Int64.ofInt x - Int64.ofInt x / Int64.ofInt y * Int64.ofInt y := (ax_reml hX hY).symm
  refine lv_lrem hx hb hd (fun q => h0 ((ax_eql hY (by unfold ax_r64; omega)).mp q)) ?_
  rw [← e1]
  exact K
theorem as_lcmp (hx : p.tables.exec = Jvm.exec) (hb : c.code = cc) {pc : Nat} {ls r : List ax_V} {H : ax_H} {x y : Int} (hd : decode cc pc = .ok (.lcmp, 1)) (kk : ax_G p l e R s mi args below meth c Q D base ad nL n0 s0 (pc + 1) ls ((0, ax_lcmp x y) :: r) H) : ax_G p l e R s mi args below meth c Q D base ad nL n0 s0 pc ls ((1, y) :: (1, x) :: r) H := by
  intro lsM Hp locs cells slots hr
  have K := kk lsM Hp locs cells slots (hr.stk (ax_okc (ax_oki (ax_lcmp_r x y)) (ax_okt (ax_okt hr.2.1))))
  refine W.lcmp hx hb hd ?_
  have e1 := ax_lcmp_eq (ax_ok1 (ax_okh (ax_okt hr.2.1))) (ax_ok1 (ax_okh hr.2.1))
  rw [e1]
  exact K
theorem as_i2l (hx : p.tables.exec = Jvm.exec) (hb : c.code = cc) {pc : Nat} {ls r : List ax_V} {H : ax_H} {x : Int} (hd : decode cc pc = .ok (.i2l, 1)) (kk : ax_G p l e R s mi args below meth c Q D base ad nL n0 s0 (pc + 1) ls ((1, x) :: r) H) : ax_G p l e R s mi args below meth c Q D base ad nL n0 s0 pc ls ((0, x) :: r) H := by
  intro lsM Hp locs cells slots hr
  have hX := ax_ok0 (ax_okh hr.2.1)
  exact lv_i2l hx hb hd (ax_i2l hX) (kk lsM Hp locs cells slots (hr.stk (ax_okc (ax_okl (by unfold ax_r32 at hX; unfold ax_r64; omega)) (ax_okt hr.2.1))))
theorem as_l2i (hx : p.tables.exec = Jvm.exec) (hb : c.code = cc) {pc : Nat} {ls r : List ax_V} {H : ax_H} {x : Int} (hd : decode cc pc = .ok (.l2i, 1)) (kk : ax_G p l e R s mi args below meth c Q D base ad nL n0 s0 (pc + 1) ls ((0, ax_w32 x) :: r) H) : ax_G p l e R s mi args below meth c Q D base ad nL n0 s0 pc ls ((1, x) :: r) H := by
  intro lsM Hp locs cells slots hr
  exact lv_l2i hx hb hd (ax_l2i (ax_ok1 (ax_okh hr.2.1))) (kk lsM Hp locs cells slots (hr.stk (ax_okc (ax_oki (ax_w32_r _)) (ax_okt hr.2.1))))
theorem as_i2b (hx : p.tables.exec = Jvm.exec) (hb : c.code = cc) {pc : Nat} {ls r : List ax_V} {H : ax_H} {x : Int} (hd : decode cc pc = .ok (.i2b, 1)) (kk : ax_G p l e R s mi args below meth c Q D base ad nL n0 s0 (pc + 1) ls ((0, ax_w8 x) :: r) H) : ax_G p l e R s mi args below meth c Q D base ad nL n0 s0 pc ls ((0, x) :: r) H := by
  intro lsM Hp locs cells slots hr
  exact lv_i2b hx hb hd (ax_i2b (ax_ok0 (ax_okh hr.2.1))) (kk lsM Hp locs cells slots (hr.stk (ax_okc (ax_oki (by have := ax_w8_r x; unfold ax_r32; omega)) (ax_okt hr.2.1))))
theorem ax_tg_ok {pc t : Nat} {off : Int} (h : ax_tg pc off = some t) : (pc : Int) + off = (t : Int) := by
  unfold ax_tg at h
  split at h
  · cases h; omega
  · cases h
theorem as_icmp_eq (hx : p.tables.exec = Jvm.exec) (hb : c.code = cc) {pc : Nat} {ls r : List ax_V} {H : ax_H} {x y off : Int} {t : Nat} (ht : ax_tg pc off = some t) (hd : decode cc pc = .ok (.if_icmp .eq off, 3)) (kk : ax_G p l e R s mi args below meth c Q D base ad nL n0 s0 (if ax_cb 0 x y then t else pc + 3) ls r H) : ax_G p l e R s mi args below meth c Q D base ad nL n0 s0 pc ls ((0, y) :: (0, x) :: r) H := by
  intro lsM Hp locs cells slots hr
  have hY := ax_ok0 (ax_okh hr.2.1)
  have hX := ax_ok0 (ax_okh (ax_okt hr.2.1))
  have K := kk lsM Hp locs cells slots (hr.stk (ax_okt (ax_okt hr.2.1)))
  refine lv_icmp_eq (tgt := t) hx hb hd (ax_tg_ok ht) (fun q => ?_) (fun q => ?_)
  · have q1 : x = y := (ax_eq hX hY).mp q
    have e1 : (ax_cb 0 x y) = true := by simp [ax_cb, q1]
    rw [if_pos e1] at K
    exact K
  · have q1 : ¬ (x = y) := fun z => q ((ax_eq hX hY).mpr z)
    have e1 : ¬ ((ax_cb 0 x y) = true) := by simp [ax_cb]; omega
    rw [if_neg e1] at K
    exact K
theorem as_if_eq (hx : p.tables.exec = Jvm.exec) (hb : c.code = cc) {pc : Nat} {ls r : List ax_V} {H : ax_H} {x off : Int} {t : Nat} (ht : ax_tg pc off = some t) (hd : decode cc pc = .ok (.ifCond .eq off, 3)) (kk : ax_G p l e R s mi args below meth c Q D base ad nL n0 s0 (if ax_cb 0 x 0 then t else pc + 3) ls r H) : ax_G p l e R s mi args below meth c Q D base ad nL n0 s0 pc ls ((0, x) :: r) H := by
  intro lsM Hp locs cells slots hr
  have hX := ax_ok0 (ax_okh hr.2.1)
  have hY := ax_r32_0
  have K := kk lsM Hp locs cells slots (hr.stk (ax_okt hr.2.1))
  refine lv_if_eq (tgt := t) hx hb hd (ax_tg_ok ht) (fun q => ?_) (fun q => ?_)
  · have q1 : x = 0 := (ax_eq hX hY).mp q
    have e1 : (ax_cb 0 x 0) = true := by simp [ax_cb, q1]
    rw [if_pos e1] at K
    exact K
  · have q1 : ¬ (x = 0) := fun z => q ((ax_eq hX hY).mpr z)
    have e1 : ¬ ((ax_cb 0 x 0) = true) := by simp [ax_cb]; omega
    rw [if_neg e1] at K
    exact K
theorem as_icmp_ne (hx : p.tables.exec = Jvm.exec) (hb : c.code = cc) {pc : Nat} {ls r : List ax_V} {H : ax_H} {x y off : Int} {t : Nat} (ht : ax_tg pc off = some t) (hd : decode cc pc = .ok (.if_icmp .ne off, 3)) (kk : ax_G p l e R s mi args below meth c Q D base ad nL n0 s0 (if ax_cb 1 x y then t else pc + 3) ls r H) : ax_G p l e R s mi args below meth c Q D base ad nL n0 s0 pc ls ((0, y) :: (0, x) :: r) H := by
  intro lsM Hp locs cells slots hr
  have hY := ax_ok0 (ax_okh hr.2.1)
  have hX := ax_ok0 (ax_okh (ax_okt hr.2.1))
  have K := kk lsM Hp locs cells slots (hr.stk (ax_okt (ax_okt hr.2.1)))
  refine lv_icmp_ne (tgt := t) hx hb hd (ax_tg_ok ht) (fun q => ?_) (fun q => ?_)
  · have q1 : x ≠ y := (not_congr (ax_eq hX hY)).mp q
    have e1 : (ax_cb 1 x y) = true := by simp [ax_cb, q1]
    rw [if_pos e1] at K
    exact K
  · have q1 : ¬ (x ≠ y) := fun z => z ((ax_eq hX hY).mp q)
    have e1 : ¬ ((ax_cb 1 x y) = true) := by simp [ax_cb]; omega
    rw [if_neg e1] at K
    exact K
theorem as_if_ne (hx : p.tables.exec = Jvm.exec) (hb : c.code = cc) {pc : Nat} {ls r : List ax_V} {H : ax_H} {x off : Int} {t : Nat} (ht : ax_tg pc off = some t) (hd : decode cc pc = .ok (.ifCond .ne off, 3)) (kk : ax_G p l e R s mi args below meth c Q D base ad nL n0 s0 (if ax_cb 1 x 0 then t else pc + 3) ls r H) : ax_G p l e R s mi args below meth c Q D base ad nL n0 s0 pc ls ((0, x) :: r) H := by
  intro lsM Hp locs cells slots hr
  have hX := ax_ok0 (ax_okh hr.2.1)
  have hY := ax_r32_0
  have K := kk lsM Hp locs cells slots (hr.stk (ax_okt hr.2.1))
  refine lv_if_ne (tgt := t) hx hb hd (ax_tg_ok ht) (fun q => ?_) (fun q => ?_)
  · have q1 : x ≠ 0 := (not_congr (ax_eq hX hY)).mp q
    have e1 : (ax_cb 1 x 0) = true := by simp [ax_cb, q1]
    rw [if_pos e1] at K
    exact K
  · have q1 : ¬ (x ≠ 0) := fun z => z ((ax_eq hX hY).mp q)
    have e1 : ¬ ((ax_cb 1 x 0) = true) := by simp [ax_cb]; omega
    rw [if_neg e1] at K
    exact K
theorem as_icmp_lt (hx : p.tables.exec = Jvm.exec) (hb : c.code = cc) {pc : Nat} {ls r : List ax_V} {H : ax_H} {x y off : Int} {t : Nat} (ht : ax_tg pc off = some t) (hd : decode cc pc = .ok (.if_icmp .lt off, 3)) (kk : ax_G p l e R s mi args below meth c Q D base ad nL n0 s0 (if ax_cb 2 x y then t else pc + 3) ls r H) : ax_G p l e R s mi args below meth c Q D base ad nL n0 s0 pc ls ((0, y) :: (0, x) :: r) H := by
  intro lsM Hp locs cells slots hr
  have hY := ax_ok0 (ax_okh hr.2.1)
  have hX := ax_ok0 (ax_okh (ax_okt hr.2.1))
  have K := kk lsM Hp locs cells slots (hr.stk (ax_okt (ax_okt hr.2.1)))
  refine lv_icmp_lt (tgt := t) hx hb hd (ax_tg_ok ht) (fun q => ?_) (fun q => ?_)
  · have q1 : x < y := (ax_lt hX hY).mp q
    have e1 : (ax_cb 2 x y) = true := by simp [ax_cb, q1]
    rw [if_pos e1] at K
    exact K
  · have q1 : ¬ (x < y) := fun z => q ((ax_lt hX hY).mpr z)
    have e1 : ¬ ((ax_cb 2 x y) = true) := by simp [ax_cb]; omega
    rw [if_neg e1] at K
    exact K
theorem as_if_lt (hx : p.tables.exec = Jvm.exec) (hb : c.code = cc) {pc : Nat} {ls r : List ax_V} {H : ax_H} {x off : Int} {t : Nat} (ht : ax_tg pc off = some t) (hd : decode cc pc = .ok (.ifCond .lt off, 3)) (kk : ax_G p l e R s mi args below meth c Q D base ad nL n0 s0 (if ax_cb 2 x 0 then t else pc + 3) ls r H) : ax_G p l e R s mi args below meth c Q D base ad nL n0 s0 pc ls ((0, x) :: r) H := by
  intro lsM Hp locs cells slots hr
  have hX := ax_ok0 (ax_okh hr.2.1)
  have hY := ax_r32_0
  have K := kk lsM Hp locs cells slots (hr.stk (ax_okt hr.2.1))
  refine lv_if_lt (tgt := t) hx hb hd (ax_tg_ok ht) (fun q => ?_) (fun q => ?_)
  · have q1 : x < 0 := (ax_lt hX hY).mp q
    have e1 : (ax_cb 2 x 0) = true := by simp [ax_cb, q1]
    rw [if_pos e1] at K
    exact K
  · have q1 : ¬ (x < 0) := fun z => q ((ax_lt hX hY).mpr z)
    have e1 : ¬ ((ax_cb 2 x 0) = true) := by simp [ax_cb]; omega
    rw [if_neg e1] at K
    exact K
theorem as_icmp_ge (hx : p.tables.exec = Jvm.exec) (hb : c.code = cc) {pc : Nat} {ls r : List ax_V} {H : ax_H} {x y off : Int} {t : Nat} (ht : ax_tg pc off = some t) (hd : decode cc pc = .ok (.if_icmp .ge off, 3)) (kk : ax_G p l e R s mi args below meth c Q D base ad nL n0 s0 (if ax_cb 3 x y then t else pc + 3) ls r H) : ax_G p l e R s mi args below meth c Q D base ad nL n0 s0 pc ls ((0, y) :: (0, x) :: r) H := by
  intro lsM Hp locs cells slots hr
  have hY := ax_ok0 (ax_okh hr.2.1)
  have hX := ax_ok0 (ax_okh (ax_okt hr.2.1))
  have K := kk lsM Hp locs cells slots (hr.stk (ax_okt (ax_okt hr.2.1)))
  refine lv_icmp_ge (tgt := t) hx hb hd (ax_tg_ok ht) (fun q => ?_) (fun q => ?_)
  · have q1 : y ≤ x := (ax_lei hY hX).mp q
    have e1 : (ax_cb 3 x y) = true := by simp [ax_cb, q1]
    rw [if_pos e1] at K
    exact K
  · have q1 : ¬ (y ≤ x) := fun z => q ((ax_lei hY hX).mpr z)
    have e1 : ¬ ((ax_cb 3 x y) = true) := by simp [ax_cb]; omega
    rw [if_neg e1] at K
    exact K
theorem as_if_ge (hx : p.tables.exec = Jvm.exec) (hb : c.code = cc) {pc : Nat} {ls r : List ax_V} {H : ax_H} {x off : Int} {t : Nat} (ht : ax_tg pc off = some t) (hd : decode cc pc = .ok (.ifCond .ge off, 3)) (kk : ax_G p l e R s mi args below meth c Q D base ad nL n0 s0 (if ax_cb 3 x 0 then t else pc + 3) ls r H) : ax_G p l e R s mi args below meth c Q D base ad nL n0 s0 pc ls ((0, x) :: r) H := by
  intro lsM Hp locs cells slots hr
  have hX := ax_ok0 (ax_okh hr.2.1)
  have hY := ax_r32_0
  have K := kk lsM Hp locs cells slots (hr.stk (ax_okt hr.2.1))
  refine lv_if_ge (tgt := t) hx hb hd (ax_tg_ok ht) (fun q => ?_) (fun q => ?_)
  · have q1 : 0 ≤ x := (ax_lei hY hX).mp q
    have e1 : (ax_cb 3 x 0) = true := by simp [ax_cb, q1]
    rw [if_pos e1] at K
    exact K
  · have q1 : ¬ (0 ≤ x) := fun z => q ((ax_lei hY hX).mpr z)
    have e1 : ¬ ((ax_cb 3 x 0) = true) := by simp [ax_cb]; omega
    rw [if_neg e1] at K
    exact K
theorem as_icmp_gt (hx : p.tables.exec = Jvm.exec) (hb : c.code = cc) {pc : Nat} {ls r : List ax_V} {H : ax_H} {x y off : Int} {t : Nat} (ht : ax_tg pc off = some t) (hd : decode cc pc = .ok (.if_icmp .gt off, 3)) (kk : ax_G p l e R s mi args below meth c Q D base ad nL n0 s0 (if ax_cb 4 x y then t else pc + 3) ls r H) : ax_G p l e R s mi args below meth c Q D base ad nL n0 s0 pc ls ((0, y) :: (0, x) :: r) H := by
  intro lsM Hp locs cells slots hr
  have hY := ax_ok0 (ax_okh hr.2.1)
  have hX := ax_ok0 (ax_okh (ax_okt hr.2.1))
  have K := kk lsM Hp locs cells slots (hr.stk (ax_okt (ax_okt hr.2.1)))
  refine lv_icmp_gt (tgt := t) hx hb hd (ax_tg_ok ht) (fun q => ?_) (fun q => ?_)
  · have q1 : y < x := (ax_lt hY hX).mp q
    have e1 : (ax_cb 4 x y) = true := by simp [ax_cb, q1]
    rw [if_pos e1] at K
    exact K
  · have q1 : ¬ (y < x) := fun z => q ((ax_lt hY hX).mpr z)
    have e1 : ¬ ((ax_cb 4 x y) = true) := by simp [ax_cb]; omega
    rw [if_neg e1] at K
    exact K
theorem as_if_gt (hx : p.tables.exec = Jvm.exec) (hb : c.code = cc) {pc : Nat} {ls r : List ax_V} {H : ax_H} {x off : Int} {t : Nat} (ht : ax_tg pc off = some t) (hd : decode cc pc = .ok (.ifCond .gt off, 3)) (kk : ax_G p l e R s mi args below meth c Q D base ad nL n0 s0 (if ax_cb 4 x 0 then t else pc + 3) ls r H) : ax_G p l e R s mi args below meth c Q D base ad nL n0 s0 pc ls ((0, x) :: r) H := by
  intro lsM Hp locs cells slots hr
  have hX := ax_ok0 (ax_okh hr.2.1)
  have hY := ax_r32_0
  have K := kk lsM Hp locs cells slots (hr.stk (ax_okt hr.2.1))
  refine lv_if_gt (tgt := t) hx hb hd (ax_tg_ok ht) (fun q => ?_) (fun q => ?_)
  · have q1 : 0 < x := (ax_lt hY hX).mp q
    have e1 : (ax_cb 4 x 0) = true := by simp [ax_cb, q1]
    rw [if_pos e1] at K
    exact K
  · have q1 : ¬ (0 < x) := fun z => q ((ax_lt hY hX).mpr z)
    have e1 : ¬ ((ax_cb 4 x 0) = true) := by simp [ax_cb]; omega
    rw [if_neg e1] at K
    exact K
theorem as_icmp_le (hx : p.tables.exec = Jvm.exec) (hb : c.code = cc) {pc : Nat} {ls r : List ax_V} {H : ax_H} {x y off : Int} {t : Nat} (ht : ax_tg pc off = some t) (hd : decode cc pc = .ok (.if_icmp .le off, 3)) (kk : ax_G p l e R s mi args below meth c Q D base ad nL n0 s0 (if ax_cb 5 x y then t else pc + 3) ls r H) : ax_G p l e R s mi args below meth c Q D base ad nL n0 s0 pc ls ((0, y) :: (0, x) :: r) H := by
  intro lsM Hp locs cells slots hr
  have hY := ax_ok0 (ax_okh hr.2.1)
  have hX := ax_ok0 (ax_okh (ax_okt hr.2.1))
  have K := kk lsM Hp locs cells slots (hr.stk (ax_okt (ax_okt hr.2.1)))
  refine lv_icmp_le (tgt := t) hx hb hd (ax_tg_ok ht) (fun q => ?_) (fun q => ?_)
  · have q1 : x ≤ y := (ax_lei hX hY).mp q
    have e1 : (ax_cb 5 x y) = true := by simp [ax_cb, q1]
    rw [if_pos e1] at K
    exact K
  · have q1 : ¬ (x ≤ y) := fun z => q ((ax_lei hX hY).mpr z)
    have e1 : ¬ ((ax_cb 5 x y) = true) := by simp [ax_cb]; omega
    rw [if_neg e1] at K
    exact K
theorem as_if_le (hx : p.tables.exec = Jvm.exec) (hb : c.code = cc) {pc : Nat} {ls r : List ax_V} {H : ax_H} {x off : Int} {t : Nat} (ht : ax_tg pc off = some t) (hd : decode cc pc = .ok (.ifCond .le off, 3)) (kk : ax_G p l e R s mi args below meth c Q D base ad nL n0 s0 (if ax_cb 5 x 0 then t else pc + 3) ls r H) : ax_G p l e R s mi args below meth c Q D base ad nL n0 s0 pc ls ((0, x) :: r) H := by
  intro lsM Hp locs cells slots hr
  have hX := ax_ok0 (ax_okh hr.2.1)
  have hY := ax_r32_0
  have K := kk lsM Hp locs cells slots (hr.stk (ax_okt hr.2.1))
  refine lv_if_le (tgt := t) hx hb hd (ax_tg_ok ht) (fun q => ?_) (fun q => ?_)
  · have q1 : x ≤ 0 := (ax_lei hX hY).mp q
    have e1 : (ax_cb 5 x 0) = true := by simp [ax_cb, q1]
    rw [if_pos e1] at K
    exact K
  · have q1 : ¬ (x ≤ 0) := fun z => q ((ax_lei hX hY).mpr z)
    have e1 : ¬ ((ax_cb 5 x 0) = true) := by simp [ax_cb]; omega
    rw [if_neg e1] at K
    exact K
theorem as_goto (hx : p.tables.exec = Jvm.exec) (hb : c.code = cc) {pc : Nat} {ls r : List ax_V} {H : ax_H} {off : Int} {t : Nat} (ht : ax_tg pc off = some t) (hd : decode cc pc = .ok (.goto off, 3)) (kk : ax_G p l e R s mi args below meth c Q D base ad nL n0 s0 t ls r H) : ax_G p l e R s mi args below meth c Q D base ad nL n0 s0 pc ls r H := by
  intro lsM Hp locs cells slots hr
  exact lv_goto (tgt := t) hx hb hd (ax_tg_ok ht) (kk lsM Hp locs cells slots hr)
theorem ax_tgs_get {pc : Nat} : ∀ (os : List Int) (ts : List Nat), ax_tgs pc os = some ts → ts.length = os.length ∧ ∀ (k : Nat) (t : Nat), ts[k]? = some t → ∃ off, os[k]? = some off ∧ (pc : Int) + off = (t : Int)
  | [], ts, h => by cases h; exact ⟨rfl, fun k t h => by simp at h⟩
  | x :: os, ts, h => by
    unfold ax_tgs at h
    obtain ⟨t0, h1, h2⟩ := Option.bind_eq_some_iff.mp h
    obtain ⟨ts0, h3, h4⟩ := Option.map_eq_some_iff.mp h2
    subst h4
    obtain ⟨a1, a2⟩ := ax_tgs_get os ts0 h3
    refine ⟨by simp [a1], fun k t hk => ?_⟩
    cases k with
    | zero =>
      simp at hk
      subst hk
      exact ⟨x, rfl, ax_tg_ok h1⟩
    | succ k => exact a2 k t (by simpa using hk)
theorem ax_tsw_in (t : Nat) : ∀ (us : List Nat) (lo x : Int), (¬ (x < lo) ∧ x < lo + us.length → ∃ u, us[(x - lo).toNat]? = some u ∧ ax_tsw t us lo x = u) ∧ (x < lo ∨ lo + us.length ≤ x → ax_tsw t us lo x = t)
  | [], lo, x => by
    refine ⟨fun h => ?_, fun _ => rfl⟩
    simp at h; omega
  | u :: us, lo, x => by
    obtain ⟨i1, i2⟩ := ax_tsw_in t us (lo + 1) x
    refine ⟨fun h => ?_, fun h => ?_⟩
    · by_cases e : x = lo
      · subst e
        exact ⟨u, by simp, by simp [ax_tsw]⟩
      · obtain ⟨w, h1, h2⟩ := i1 ⟨by omega, by have := h.2; simp at this; omega⟩
        refine ⟨w, ?_, by simp [ax_tsw, e, h2]⟩
        rw [show (x - lo).toNat = (x - (lo + 1)).toNat + 1 by omega]
        simpa using h1
    · have e : ¬ x = lo := by simp at h; omega
      simp only [ax_tsw, e, if_false]
      exact i2 (by simp at h; omega)
theorem as_tsw (hx : p.tables.exec = Jvm.exec) (hb : c.code = cc) {pc : Nat} {ls r : List ax_V} {H : ax_H} {dflt lo hi x : Int} {offs : Array Int} {len : Nat} {t : Nat} {ts : List Nat} (hsz : (offs.size : Int) = hi - lo + 1) (ht : ax_tg pc dflt = some t) (hts : ax_tgs pc offs.toList = some ts) (hd : decode cc pc = .ok (.tableswitch dflt lo hi offs, len)) (kk : ax_G p l e R s mi args below meth c Q D base ad nL n0 s0 (ax_tsw t ts lo x) ls r H) : ax_G p l e R s mi args below meth c Q D base ad nL n0 s0 pc ls ((0, x) :: r) H := by
  intro lsM Hp locs cells slots hr
  have hX := ax_ok0 (ax_okh hr.2.1)
  have K := kk lsM Hp locs cells slots (hr.stk (ax_okt hr.2.1))
  obtain ⟨a1, a2⟩ := ax_tgs_get _ _ hts
  have a1 : ts.length = offs.size := by rw [a1]; simp
  obtain ⟨i1, i2⟩ := ax_tsw_in t ts lo x
  have ex := ax_tii hX
  by_cases h : x < lo ∨ hi < x
  · rw [i2 (by omega)] at K
    exact lv_tableOut (tgt := t) hx hb hd (by rw [ex]; exact h) (ax_tg_ok ht) K
  · obtain ⟨u, h1, h2⟩ := i1 ⟨by omega, by omega⟩
    rw [h2] at K
    obtain ⟨off, h3, h4⟩ := a2 _ _ h1
    exact lv_tableIn (tgt := u) hx hb hd (by rw [ex]; omega) (by rw [ex]; omega) (off := off) (by rw [ex, ← Array.getElem?_toList]; exact h3) h4 K
theorem as_dup (hx : p.tables.exec = Jvm.exec) (hb : c.code = cc) {pc : Nat} {ls r : List ax_V} {H : ax_H} {v : ax_V} (hv : v.1 = 0 ∨ v.1 = 2) (hd : decode cc pc = .ok (.dup, 1)) (kk : ax_G p l e R s mi args below meth c Q D base ad nL n0 s0 (pc + 1) ls (v :: v :: r) H) : ax_G p l e R s mi args below meth c Q D base ad nL n0 s0 pc ls (v :: r) H := by
  intro lsM Hp locs cells slots hr
  exact lv_dup hx hb hd (ax_tv_cat ad v (by omega)) (kk lsM Hp locs cells slots (hr.stk (ax_okc (ax_okh hr.2.1) hr.2.1)))
theorem as_dup2 (hx : p.tables.exec = Jvm.exec) (hb : c.code = cc) {pc : Nat} {ls r : List ax_V} {H : ax_H} {v w : ax_V} (hv : v.1 = 0 ∨ v.1 = 2) (hw : w.1 = 0 ∨ w.1 = 2) (hd : decode cc pc = .ok (.dup2, 1)) (kk : ax_G p l e R s mi args below meth c Q D base ad nL n0 s0 (pc + 1) ls (v :: w :: v :: w :: r) H) : ax_G p l e R s mi args below meth c Q D base ad nL n0 s0 pc ls (v :: w :: r) H := by
  intro lsM Hp locs cells slots hr
  exact lv_dup2_11 hx hb hd (ax_tv_cat ad v (by omega)) (ax_tv_cat ad w (by omega)) (kk lsM Hp locs cells slots (hr.stk (ax_okc (ax_okh hr.2.1) (ax_okc (ax_okh (ax_okt hr.2.1)) hr.2.1))))
theorem as_pop (hx : p.tables.exec = Jvm.exec) (hb : c.code = cc) {pc : Nat} {ls r : List ax_V} {H : ax_H} {v : ax_V} (hv : v.1 = 0 ∨ v.1 = 2) (hd : decode cc pc = .ok (.pop, 1)) (kk : ax_G p l e R s mi args below meth c Q D base ad nL n0 s0 (pc + 1) ls r H) : ax_G p l e R s mi args below meth c Q D base ad nL n0 s0 pc ls (v :: r) H := by
  intro lsM Hp locs cells slots hr
  exact lv_pop hx hb hd (ax_tv_cat ad v (by omega)) (kk lsM Hp locs cells slots (hr.stk (ax_okt hr.2.1)))
end AXA
