/-! STORES INTO FIELDS, ARRAYS; written by wip/whole/gen_heap.py -/
theorem ax_decl : ∀ ci, ci < 13 → ∀ j, j < ax_nf ci → (ax_T ci j).1 = ax_ow ci := by decide +kernel
theorem ax_fin_T {ci : Nat} (h : ci < 13) (j : Nat) : ax_fin ci j = (ax_T ci j).2.2.2 := by
  unfold ax_fin ax_T
  rw [ax_vw h]
theorem ax_map_set {N j : Nat} {f g : Nat → Value} {v : Value} (hj : j < N) (hv : g j = v) (ho : ∀ i, i ≠ j → g i = f i) : ((List.range N).map f).set j v = (List.range N).map g := by
  apply List.ext_getElem?
  intro i
  rw [List.getElem?_set]
  by_cases hi : i < N
  · rw [List.getElem?_map, List.getElem?_map, List.getElem?_range hi]
    by_cases e : j = i
    · subst e
      rw [if_pos rfl, if_pos (by simpa using hj), ← hv]; rfl
    · rw [if_neg e]
      show some (f i) = some (g i)
      rw [ho i (Ne.symm e)]
  · rw [List.getElem?_eq_none (l := (List.range N).map g) (by simp; omega)]
    split
    · split
      · rename_i e h1; simp at h1; omega
      · rfl
    · exact List.getElem?_eq_none (by simp; omega)
theorem ax_up_at {h : Int → Int → Int} {a j v i : Int} : ax_up h a j v a i = if i = j then v else h a i := by
  unfold ax_up; by_cases e : i = j <;> simp [e]
theorem ax_sr_len {L : ax_L} {a j v : Int} : (ax_sr L a j v).length = L.length := by
  unfold ax_sr; split <;> simp
theorem ax_sr_sl {L : ax_L} {a j v : Int} : ax_sl (ax_sr L a j v) = ax_sl L := by
  unfold ax_sr
  split
  · rename_i q hq
    unfold ax_at at hq
    split at hq
    · cases hq
    · unfold ax_sl
      congr 1
      apply List.ext_getElem?
      intro i
      rw [List.getElem?_map, List.getElem?_map, List.getElem?_set]
      by_cases e : a.toNat = i
      · subst e
        have hl := (List.getElem?_eq_some_iff.mp hq).1
        rw [if_pos rfl, if_pos hl, hq]; rfl
      · rw [if_neg e]
  · rfl
theorem ax_sr_get {L : ax_L} {a j v : Int} {q : Nat × Nat × List Int} (h0 : 0 ≤ a) (hq : L[a.toNat]? = some q) : (ax_sr L a j v)[a.toNat]? = some (q.1, q.2.1, q.2.2.set j.toNat v) ∧ ∀ k : Nat, k ≠ a.toNat → (ax_sr L a j v)[k]? = L[k]? := by
  have hl := (List.getElem?_eq_some_iff.mp hq).1
  unfold ax_sr ax_at
  rw [if_neg (by omega), hq]
  refine ⟨?_, fun k hk => ?_⟩
  · rw [List.getElem?_set, if_pos rfl, if_pos hl]
  · rw [List.getElem?_set, if_neg (Ne.symm hk)]
section AXC
variable {p : Program} {l : Launch} {e : Env} {R : Room} {s : State} {mi : MethodId} {args : Array Value} {below : List Frame} {meth : Method} {c : Code} {Q : State → Prop} {cc : ByteArray} {D : va_G} {base : Nat} {ad : Int → Nat} {nL n0 s0 : Nat}
theorem as_putI (hx : p.tables.exec = Jvm.exec) (hb : c.code = cc) (hts : ∀ w ∈ ax_tt, w.before args s = true) (had : ∀ i : Int, 0 ≤ i → ad i = base + i.toNat) {o idx ci j : Nat} (hown : s.vm.findClass (ax_ow o) = some mi.cls) (hF : ax_F o idx = some (ci, j)) (hj : j < ax_nf ci) (hput : ax_fin ci j = false ∨ (ax_fin ci j = true ∧ meth.name = "<init>" ∧ o = ci)) (hfk : ax_fk (ax_ty ci j) = 0) 
    {pc : Nat} {ls r : List ax_V} {H : ax_H} {a x : Int}  (hcd : ax_cd H.1 a = ci) (hd : decode cc pc = .ok (.putfield idx, 3)) (kk : ax_G p l e R s mi args below meth c Q D base ad nL n0 s0 (pc + 3) ls r (H.1, ax_up H.2 a j x)) : ax_G p l e R s mi args below meth c Q D base ad nL n0 s0 pc ls ((0, x) :: (2, a) :: r) H := by
  intro lsM Hp locs cells slots hr
  obtain ⟨hl, hci⟩ := ax_flink hF
  obtain ⟨h0, h1, n, refs, h2, -, -⟩ := ax_cd_get hcd (by omega)
  obtain ⟨ent, tys, hP, hK, hE⟩ := hr.2.2.1
  have hlt : a.toNat < H.1.length := (List.getElem?_eq_some_iff.mp h2).1
  have hE1 := hE _ _ h2
  obtain ⟨b1, b2, b3, b4⟩ := ax_E_obj hE1 hci
  rw [h1] at b3 b4
  have he : (ax_ws base H.1.length ent)[a.toNat]? = some (base + a.toNat, .inr (ci, (List.range (ax_nf ci)).map (ax_fv ad ci refs (H.2 a)))) := by rw [ax_ws_get hlt, b4]
  show W p l e R s mi args below meth c Hp locs cells slots Q (F0 mi pc lsM (ax_tv ad (0, x) :: ax_tv ad (2, a) :: r.map (ax_tv ad)))
  rw [ax_tvr had h0]
  have hnar : narrow (ax_ty ci j) (ax_tv ad (0, x)) = ax_tv ad (0, x) ∧ fits (ax_ty ci j) (ax_tv ad (0, x)) = true := by
    have ht : ax_ty ci j = .int := by
      cases h : ax_ty ci j <;> rw [h] at hfk <;> simp [ax_fk] at hfk <;> rfl
    rw [ht]
    exact ⟨rfl, rfl⟩
  have hfs : j < ((List.range (ax_nf ci)).map (ax_fv ad ci refs (H.2 a))).length := by simpa using hj
  have hxr := ax_ok0 (ax_okh hr.2.1)
  have hset : ((List.range (ax_nf ci)).map (ax_fv ad ci refs (H.2 a))).set j (ax_tv ad (0, x)) = (List.range (ax_nf ci)).map (ax_fv ad ci refs (ax_up H.2 a j x a)) := by
    refine ax_map_set hj ?_ (fun i hi => ?_)
    · simp [ax_fv, hfk, ax_up_at, ax_tv]
    · have e1 : ax_up H.2 a j x a i = H.2 a i := by rw [ax_up_at, if_neg (by omega)]
      unfold ax_fv
      rw [e1]
  have go : ∀ (H1 : Heap) (locs1 : List Loc), va_P D vwCl ((ax_ws base H.1.length ent).set a.toNat (base + a.toNat, .inr (ci, ((List.range (ax_nf ci)).map (ax_fv ad ci refs (H.2 a))).set j (ax_tv ad (0, x))))) H1 → va_S (ax_A base) s.heap H1 locs1 → W p l e R s mi args below meth c H1 locs1 cells slots Q (F0 mi (pc + 3) lsM (r.map (ax_tv ad))) := fun H1 locs1 hP1 hS1 => by
    refine kk lsM H1 locs1 cells slots ⟨hr.1, ax_okt (ax_okt hr.2.1), ?_, hS1, hr.2.2.2.2⟩
    rw [hset] at hP1
    refine ax_HR_upd hK hE hlt rfl (fun k' hk' => ⟨rfl, ax_up_ne (by omega)⟩) (fun q hq => ?_) hP1
    have hq : H.1[a.toNat]? = some q := hq
    rw [h2] at hq
    cases hq
    rw [h1]
    refine ⟨hE1.1, Or.inl ⟨hci, b1, b2, fun i => ?_, by rw [b1]⟩⟩
    show ax_r32 (ax_up H.2 a j x a i)
    rw [ax_up_at]
    split
    · exact hxr
    · exact b3 i
  rcases hput with hf | ⟨hf, hin, ho⟩
  · rw [ax_fin_T hci] at hf
    exact va_put hx hb hts (ax_hin hci) (ax_ty ci) (ax_hty hci) (ax_hnm hci) hown hK hP (ax_ws_D base _ ent) hr.2.2.2.1 a.toNat he (ax_vw hci) j hj (hts _ hl) (fun _ h => h) hf (ax_hty hci j hj) hnar.1 hnar.2 hfs hd (fun H1 locs1 hP1 _ hS1 => go H1 locs1 hP1 hS1)
  · rw [ax_fin_T hci] at hf
    exact va_putF hx hb hts (ax_hin hci) (ax_ty ci) (ax_hty hci) (ax_hnm hci) hown hK hP (ax_ws_D base _ ent) hr.2.2.2.1 a.toNat he (ax_vw hci) j hj (hts _ hl) (fun _ h => h) hf hin (by rw [ho]; exact ax_decl ci hci j hj) (ax_hty hci j hj) hnar.1 hnar.2 hfs hd (fun H1 locs1 hP1 _ hS1 => go H1 locs1 hP1 hS1)
theorem as_putZ (hx : p.tables.exec = Jvm.exec) (hb : c.code = cc) (hts : ∀ w ∈ ax_tt, w.before args s = true) (had : ∀ i : Int, 0 ≤ i → ad i = base + i.toNat) {o idx ci j : Nat} (hown : s.vm.findClass (ax_ow o) = some mi.cls) (hF : ax_F o idx = some (ci, j)) (hj : j < ax_nf ci) (hput : ax_fin ci j = false ∨ (ax_fin ci j = true ∧ meth.name = "<init>" ∧ o = ci)) (hfk : ax_fk (ax_ty ci j) = 1) 
    {pc : Nat} {ls r : List ax_V} {H : ax_H} {a x : Int}  (hz : x = 0 ∨ x = 1) (hcd : ax_cd H.1 a = ci) (hd : decode cc pc = .ok (.putfield idx, 3)) (kk : ax_G p l e R s mi args below meth c Q D base ad nL n0 s0 (pc + 3) ls r (H.1, ax_up H.2 a j x)) : ax_G p l e R s mi args below meth c Q D base ad nL n0 s0 pc ls ((0, x) :: (2, a) :: r) H := by
  intro lsM Hp locs cells slots hr
  obtain ⟨hl, hci⟩ := ax_flink hF
  obtain ⟨h0, h1, n, refs, h2, -, -⟩ := ax_cd_get hcd (by omega)
  obtain ⟨ent, tys, hP, hK, hE⟩ := hr.2.2.1
  have hlt : a.toNat < H.1.length := (List.getElem?_eq_some_iff.mp h2).1
  have hE1 := hE _ _ h2
  obtain ⟨b1, b2, b3, b4⟩ := ax_E_obj hE1 hci
  rw [h1] at b3 b4
  have he : (ax_ws base H.1.length ent)[a.toNat]? = some (base + a.toNat, .inr (ci, (List.range (ax_nf ci)).map (ax_fv ad ci refs (H.2 a)))) := by rw [ax_ws_get hlt, b4]
  show W p l e R s mi args below meth c Hp locs cells slots Q (F0 mi pc lsM (ax_tv ad (0, x) :: ax_tv ad (2, a) :: r.map (ax_tv ad)))
  rw [ax_tvr had h0]
  have hnar : narrow (ax_ty ci j) (ax_tv ad (0, x)) = ax_tv ad (0, x) ∧ fits (ax_ty ci j) (ax_tv ad (0, x)) = true := by
    have ht : ax_ty ci j = .boolean := by
      cases h : ax_ty ci j <;> rw [h] at hfk <;> simp [ax_fk] at hfk <;> rfl
    rw [ht]
    rcases hz with rfl | rfl
    · exact ⟨rfl, rfl⟩
    · exact ⟨rfl, rfl⟩
  have hfs : j < ((List.range (ax_nf ci)).map (ax_fv ad ci refs (H.2 a))).length := by simpa using hj
  have hxr := ax_ok0 (ax_okh hr.2.1)
  have hset : ((List.range (ax_nf ci)).map (ax_fv ad ci refs (H.2 a))).set j (ax_tv ad (0, x)) = (List.range (ax_nf ci)).map (ax_fv ad ci refs (ax_up H.2 a j x a)) := by
    refine ax_map_set hj ?_ (fun i hi => ?_)
    · simp [ax_fv, hfk, ax_up_at, ax_tv]
    · have e1 : ax_up H.2 a j x a i = H.2 a i := by rw [ax_up_at, if_neg (by omega)]
      unfold ax_fv
      rw [e1]
  have go : ∀ (H1 : Heap) (locs1 : List Loc), va_P D vwCl ((ax_ws base H.1.length ent).set a.toNat (base + a.toNat, .inr (ci, ((List.range (ax_nf ci)).map (ax_fv ad ci refs (H.2 a))).set j (ax_tv ad (0, x))))) H1 → va_S (ax_A base) s.heap H1 locs1 → W p l e R s mi args below meth c H1 locs1 cells slots Q (F0 mi (pc + 3) lsM (r.map (ax_tv ad))) := fun H1 locs1 hP1 hS1 => by
    refine kk lsM H1 locs1 cells slots ⟨hr.1, ax_okt (ax_okt hr.2.1), ?_, hS1, hr.2.2.2.2⟩
    rw [hset] at hP1
    refine ax_HR_upd hK hE hlt rfl (fun k' hk' => ⟨rfl, ax_up_ne (by omega)⟩) (fun q hq => ?_) hP1
    have hq : H.1[a.toNat]? = some q := hq
    rw [h2] at hq
    cases hq
    rw [h1]
    refine ⟨hE1.1, Or.inl ⟨hci, b1, b2, fun i => ?_, by rw [b1]⟩⟩
    show ax_r32 (ax_up H.2 a j x a i)
    rw [ax_up_at]
    split
    · exact hxr
    · exact b3 i
  rcases hput with hf | ⟨hf, hin, ho⟩
  · rw [ax_fin_T hci] at hf
    exact va_put hx hb hts (ax_hin hci) (ax_ty ci) (ax_hty hci) (ax_hnm hci) hown hK hP (ax_ws_D base _ ent) hr.2.2.2.1 a.toNat he (ax_vw hci) j hj (hts _ hl) (fun _ h => h) hf (ax_hty hci j hj) hnar.1 hnar.2 hfs hd (fun H1 locs1 hP1 _ hS1 => go H1 locs1 hP1 hS1)
  · rw [ax_fin_T hci] at hf
    exact va_putF hx hb hts (ax_hin hci) (ax_ty ci) (ax_hty hci) (ax_hnm hci) hown hK hP (ax_ws_D base _ ent) hr.2.2.2.1 a.toNat he (ax_vw hci) j hj (hts _ hl) (fun _ h => h) hf hin (by rw [ho]; exact ax_decl ci hci j hj) (ax_hty hci j hj) hnar.1 hnar.2 hfs hd (fun H1 locs1 hP1 _ hS1 => go H1 locs1 hP1 hS1)
theorem as_putR (hx : p.tables.exec = Jvm.exec) (hb : c.code = cc) (hts : ∀ w ∈ ax_tt, w.before args s = true) (had : ∀ i : Int, 0 ≤ i → ad i = base + i.toNat) {o idx ci j : Nat} (hown : s.vm.findClass (ax_ow o) = some mi.cls) (hF : ax_F o idx = some (ci, j)) (hj : j < ax_nf ci) (hput : ax_fin ci j = false ∨ (ax_fin ci j = true ∧ meth.name = "<init>" ∧ o = ci)) (hfk : ax_fk (ax_ty ci j) = 2) 
    {pc : Nat} {ls r : List ax_V} {H : ax_H} {a x : Int}  (hcd : ax_cd H.1 a = ci) (hd : decode cc pc = .ok (.putfield idx, 3)) (kk : ax_G p l e R s mi args below meth c Q D base ad nL n0 s0 (pc + 3) ls r (ax_sr H.1 a j x, H.2)) : ax_G p l e R s mi args below meth c Q D base ad nL n0 s0 pc ls ((2, x) :: (2, a) :: r) H := by
  intro lsM Hp locs cells slots hr
  obtain ⟨hl, hci⟩ := ax_flink hF
  obtain ⟨h0, h1, n, refs, h2, -, -⟩ := ax_cd_get hcd (by omega)
  obtain ⟨ent, tys, hP, hK, hE⟩ := hr.2.2.1
  have hlt : a.toNat < H.1.length := (List.getElem?_eq_some_iff.mp h2).1
  have hE1 := hE _ _ h2
  obtain ⟨b1, b2, b3, b4⟩ := ax_E_obj hE1 hci
  rw [h1] at b3 b4
  have he : (ax_ws base H.1.length ent)[a.toNat]? = some (base + a.toNat, .inr (ci, (List.range (ax_nf ci)).map (ax_fv ad ci refs (H.2 a)))) := by rw [ax_ws_get hlt, b4]
  show W p l e R s mi args below meth c Hp locs cells slots Q (F0 mi pc lsM (ax_tv ad (2, x) :: ax_tv ad (2, a) :: r.map (ax_tv ad)))
  rw [ax_tvr had h0]
  have hnar : narrow (ax_ty ci j) (ax_tv ad (2, x)) = ax_tv ad (2, x) ∧ fits (ax_ty ci j) (ax_tv ad (2, x)) = true := by
    have hv : ax_tv ad (2, x) = va_rf (ax_ro ad x) := rfl
    rw [hv]
    cases h : ax_ty ci j <;> rw [h] at hfk <;> simp [ax_fk] at hfk <;> cases ax_ro ad x <;> exact ⟨rfl, rfl⟩
  have hfs : j < ((List.range (ax_nf ci)).map (ax_fv ad ci refs (H.2 a))).length := by simpa using hj
  have hset : ((List.range (ax_nf ci)).map (ax_fv ad ci refs (H.2 a))).set j (ax_tv ad (2, x)) = (List.range (ax_nf ci)).map (ax_fv ad ci (refs.set j x) (H.2 a)) := by
    refine ax_map_set hj ?_ (fun i hi => ?_)
    · have : (refs.set j x).getD j (-1) = x := by simp [List.getD, List.getElem?_set, show j < refs.length by omega]
      simp only [ax_fv, hfk, if_true, this]
      rfl
    · unfold ax_fv
      have : (refs.set j x).getD i (-1) = refs.getD i (-1) := by simp [List.getD, List.getElem?_set, Ne.symm hi]
      rw [this]
  have go : ∀ (H1 : Heap) (locs1 : List Loc), va_P D vwCl ((ax_ws base H.1.length ent).set a.toNat (base + a.toNat, .inr (ci, ((List.range (ax_nf ci)).map (ax_fv ad ci refs (H.2 a))).set j (ax_tv ad (2, x))))) H1 → va_S (ax_A base) s.heap H1 locs1 → W p l e R s mi args below meth c H1 locs1 cells slots Q (F0 mi (pc + 3) lsM (r.map (ax_tv ad))) := fun H1 locs1 hP1 hS1 => by
    refine kk lsM H1 locs1 cells slots ⟨hr.1, ax_okt (ax_okt hr.2.1), ?_, hS1, by rw [ax_sr_len]; exact hr.2.2.2.2.1, by rw [ax_sr_sl]; exact hr.2.2.2.2.2⟩
    rw [hset] at hP1
    obtain ⟨g1, g2⟩ := ax_sr_get (j := j) (v := x) h0 h2
    refine ax_HR_upd hK hE hlt ax_sr_len (fun k' hk' => ⟨g2 k' hk', rfl⟩) (fun q hq => ?_) hP1
    have hq : (ax_sr H.1 a j x)[a.toNat]? = some q := hq
    rw [g1] at hq
    cases hq
    rw [h1]
    refine ⟨hE1.1, Or.inl ⟨hci, b1, by show (refs.set (j : Int).toNat x).length = _; simp [b2], b3, by rw [b1]; simp⟩⟩
  rcases hput with hf | ⟨hf, hin, ho⟩
  · rw [ax_fin_T hci] at hf
    exact va_put hx hb hts (ax_hin hci) (ax_ty ci) (ax_hty hci) (ax_hnm hci) hown hK hP (ax_ws_D base _ ent) hr.2.2.2.1 a.toNat he (ax_vw hci) j hj (hts _ hl) (fun _ h => h) hf (ax_hty hci j hj) hnar.1 hnar.2 hfs hd (fun H1 locs1 hP1 _ hS1 => go H1 locs1 hP1 hS1)
  · rw [ax_fin_T hci] at hf
    exact va_putF hx hb hts (ax_hin hci) (ax_ty ci) (ax_hty hci) (ax_hnm hci) hown hK hP (ax_ws_D base _ ent) hr.2.2.2.1 a.toNat he (ax_vw hci) j hj (hts _ hl) (fun _ h => h) hf hin (by rw [ho]; exact ax_decl ci hci j hj) (ax_hty hci j hj) hnar.1 hnar.2 hfs hd (fun H1 locs1 hP1 _ hS1 => go H1 locs1 hP1 hS1)
theorem as_iald (hx : p.tables.exec = Jvm.exec) (hb : c.code = cc) (had : ∀ i : Int, 0 ≤ i → ad i = base + i.toNat) {pc : Nat} {ls r : List ax_V} {H : ax_H} {a i : Int} (hcd : ax_cd H.1 a = 100) (hi0 : 0 ≤ i) (hi1 : i < ax_ln H.1 a) (hd : decode cc pc = .ok (.iaload, 1)) (kk : ax_G p l e R s mi args below meth c Q D base ad nL n0 s0 (pc + 1) ls ((0, H.2 a i) :: r) H) : ax_G p l e R s mi args below meth c Q D base ad nL n0 s0 pc ls ((0, i) :: (2, a) :: r) H := by
  intro lsM Hp locs cells slots hr
  obtain ⟨h0, h1, n, refs, h2, h3, h4⟩ := ax_cd_get hcd (by omega)
  obtain ⟨ent, tys, hP, hK, hE⟩ := hr.2.2.1
  have hlt : a.toNat < H.1.length := (List.getElem?_eq_some_iff.mp h2).1
  obtain ⟨cA, t0, b1, b2, b3⟩ := ax_E_int (ty := .int) (hE _ _ h2) rfl
  rw [h1] at b3
  have hir := ax_ok0 (ax_okh hr.2.1)
  have he := ax_ws_get (base := base) (ent := ent) hlt
  rw [b3] at he
  show W p l e R s mi args below meth c Hp locs cells slots Q (F0 mi pc lsM (.int (Int32.ofInt i) :: ax_tv ad (2, a) :: r.map (ax_tv ad)))
  rw [ax_tvr had h0]
  refine va_iald hx hb hK hP a.toNat t0 he b1 (ax_vin hi0 hir (by rw [h3] at hi1; exact hi1)) hd ?_
  rw [ax_nc hi0 hir]
  have ei : ((i.toNat : Nat) : Int) = i := by omega
  show W p l e R s mi args below meth c Hp locs cells slots Q (F0 mi (pc + 1) lsM (.int (Int32.ofInt (H.2 a (i.toNat : Int))) :: r.map (ax_tv ad)))
  rw [ei]
  exact kk lsM Hp locs cells slots (hr.stk (ax_okc (ax_oki (by rw [h1] at b2; exact b2 i)) (ax_okt (ax_okt hr.2.1))))
theorem as_bald (hx : p.tables.exec = Jvm.exec) (hb : c.code = cc) (had : ∀ i : Int, 0 ≤ i → ad i = base + i.toNat) {pc : Nat} {ls r : List ax_V} {H : ax_H} {a i : Int} (hcd : ax_cd H.1 a = 102) (hi0 : 0 ≤ i) (hi1 : i < ax_ln H.1 a) (hd : decode cc pc = .ok (.baload, 1)) (kk : ax_G p l e R s mi args below meth c Q D base ad nL n0 s0 (pc + 1) ls ((0, H.2 a i) :: r) H) : ax_G p l e R s mi args below meth c Q D base ad nL n0 s0 pc ls ((0, i) :: (2, a) :: r) H := by
  intro lsM Hp locs cells slots hr
  obtain ⟨h0, h1, n, refs, h2, h3, h4⟩ := ax_cd_get hcd (by omega)
  obtain ⟨ent, tys, hP, hK, hE⟩ := hr.2.2.1
  have hlt : a.toNat < H.1.length := (List.getElem?_eq_some_iff.mp h2).1
  obtain ⟨cA, t0, b1, b2, b3⟩ := ax_E_int (ty := .byte) (hE _ _ h2) rfl
  rw [h1] at b3
  have hir := ax_ok0 (ax_okh hr.2.1)
  have he := ax_ws_get (base := base) (ent := ent) hlt
  rw [b3] at he
  show W p l e R s mi args below meth c Hp locs cells slots Q (F0 mi pc lsM (.int (Int32.ofInt i) :: ax_tv ad (2, a) :: r.map (ax_tv ad)))
  rw [ax_tvr had h0]
  refine va_bald hx hb hK hP a.toNat t0 he b1 (ax_vin hi0 hir (by rw [h3] at hi1; exact hi1)) hd ?_
  rw [ax_nc hi0 hir]
  have ei : ((i.toNat : Nat) : Int) = i := by omega
  show W p l e R s mi args below meth c Hp locs cells slots Q (F0 mi (pc + 1) lsM (.int (Int32.ofInt (H.2 a (i.toNat : Int))) :: r.map (ax_tv ad)))
  rw [ei]
  exact kk lsM Hp locs cells slots (hr.stk (ax_okc (ax_oki (by rw [h1] at b2; exact b2 i)) (ax_okt (ax_okt hr.2.1))))
theorem as_zald (hx : p.tables.exec = Jvm.exec) (hb : c.code = cc) (had : ∀ i : Int, 0 ≤ i → ad i = base + i.toNat) {pc : Nat} {ls r : List ax_V} {H : ax_H} {a i : Int} (hcd : ax_cd H.1 a = 103) (hi0 : 0 ≤ i) (hi1 : i < ax_ln H.1 a) (hd : decode cc pc = .ok (.baload, 1)) (kk : ax_G p l e R s mi args below meth c Q D base ad nL n0 s0 (pc + 1) ls ((0, H.2 a i) :: r) H) : ax_G p l e R s mi args below meth c Q D base ad nL n0 s0 pc ls ((0, i) :: (2, a) :: r) H := by
  intro lsM Hp locs cells slots hr
  obtain ⟨h0, h1, n, refs, h2, h3, h4⟩ := ax_cd_get hcd (by omega)
  obtain ⟨ent, tys, hP, hK, hE⟩ := hr.2.2.1
  have hlt : a.toNat < H.1.length := (List.getElem?_eq_some_iff.mp h2).1
  obtain ⟨cA, t0, b1, b2, b3⟩ := ax_E_int (ty := .boolean) (hE _ _ h2) rfl
  rw [h1] at b3
  have hir := ax_ok0 (ax_okh hr.2.1)
  have he := ax_ws_get (base := base) (ent := ent) hlt
  rw [b3] at he
  show W p l e R s mi args below meth c Hp locs cells slots Q (F0 mi pc lsM (.int (Int32.ofInt i) :: ax_tv ad (2, a) :: r.map (ax_tv ad)))
  rw [ax_tvr had h0]
  refine va_zald hx hb hK hP a.toNat t0 he b1 (ax_vin hi0 hir (by rw [h3] at hi1; exact hi1)) hd ?_
  rw [ax_nc hi0 hir]
  have ei : ((i.toNat : Nat) : Int) = i := by omega
  show W p l e R s mi args below meth c Hp locs cells slots Q (F0 mi (pc + 1) lsM (.int (Int32.ofInt (H.2 a (i.toNat : Int))) :: r.map (ax_tv ad)))
  rw [ei]
  exact kk lsM Hp locs cells slots (hr.stk (ax_okc (ax_oki (by rw [h1] at b2; exact b2 i)) (ax_okt (ax_okt hr.2.1))))
theorem as_lald (hx : p.tables.exec = Jvm.exec) (hb : c.code = cc) (had : ∀ i : Int, 0 ≤ i → ad i = base + i.toNat) {pc : Nat} {ls r : List ax_V} {H : ax_H} {a i : Int} (hcd : ax_cd H.1 a = 101) (hi0 : 0 ≤ i) (hi1 : i < ax_ln H.1 a) (hd : decode cc pc = .ok (.laload, 1)) (kk : ax_G p l e R s mi args below meth c Q D base ad nL n0 s0 (pc + 1) ls ((1, H.2 a i) :: r) H) : ax_G p l e R s mi args below meth c Q D base ad nL n0 s0 pc ls ((0, i) :: (2, a) :: r) H := by
  intro lsM Hp locs cells slots hr
  obtain ⟨h0, h1, n, refs, h2, h3, h4⟩ := ax_cd_get hcd (by omega)
  obtain ⟨ent, tys, hP, hK, hE⟩ := hr.2.2.1
  have hlt : a.toNat < H.1.length := (List.getElem?_eq_some_iff.mp h2).1
  obtain ⟨cA, t0, b1, b2, b3⟩ := ax_E_long (hE _ _ h2)
  rw [h1] at b3
  have hir := ax_ok0 (ax_okh hr.2.1)
  have he := ax_ws_get (base := base) (ent := ent) hlt
  rw [b3] at he
  show W p l e R s mi args below meth c Hp locs cells slots Q (F0 mi pc lsM (.int (Int32.ofInt i) :: ax_tv ad (2, a) :: r.map (ax_tv ad)))
  rw [ax_tvr had h0]
  refine va_lald hx hb hK hP a.toNat t0 he b1 (ax_vin hi0 hir (by rw [h3] at hi1; exact hi1)) hd ?_
  rw [ax_nc hi0 hir]
  have ei : ((i.toNat : Nat) : Int) = i := by omega
  show W p l e R s mi args below meth c Hp locs cells slots Q (F0 mi (pc + 1) lsM (.long (Int64.ofInt (H.2 a (i.toNat : Int))) :: r.map (ax_tv ad)))
  rw [ei]
  exact kk lsM Hp locs cells slots (hr.stk (ax_okc (ax_okl (by rw [h1] at b2; exact b2 i)) (ax_okt (ax_okt hr.2.1))))
theorem as_aald7 (hx : p.tables.exec = Jvm.exec) (hb : c.code = cc) (had : ∀ i : Int, 0 ≤ i → ad i = base + i.toNat) {pc : Nat} {ls r : List ax_V} {H : ax_H} {a i : Int} (hcd : ax_cd H.1 a = 110) (hi0 : 0 ≤ i) (hi1 : i < ax_ln H.1 a) (hd : decode cc pc = .ok (.aaload, 1)) (kk : ax_G p l e R s mi args below meth c Q D base ad nL n0 s0 (pc + 1) ls ((2, ax_rf H.1 a i) :: r) H) : ax_G p l e R s mi args below meth c Q D base ad nL n0 s0 pc ls ((0, i) :: (2, a) :: r) H := by
  intro lsM Hp locs cells slots hr
  obtain ⟨h0, h1, n, refs, h2, h3, h4⟩ := ax_cd_get hcd (by omega)
  obtain ⟨ent, tys, hP, hK, hE⟩ := hr.2.2.1
  have hlt : a.toNat < H.1.length := (List.getElem?_eq_some_iff.mp h2).1
  obtain ⟨cA, t0, b1, b2, b3⟩ := ax_E_ref (ty := .object RX7) (hE _ _ h2) rfl
  have hir := ax_ok0 (ax_okh hr.2.1)
  have he := ax_ws_get (base := base) (ent := ent) hlt
  rw [b3] at he
  show W p l e R s mi args below meth c Hp locs cells slots Q (F0 mi pc lsM (.int (Int32.ofInt i) :: ax_tv ad (2, a) :: r.map (ax_tv ad)))
  rw [ax_tvr had h0]
  refine va_aldq hx hb hK hP a.toNat t0 he b1 (ax_vin hi0 hir (by rw [h3] at hi1; exact hi1)) hd ?_
  rw [ax_nc hi0 hir]
  show W p l e R s mi args below meth c Hp locs cells slots Q (F0 mi (pc + 1) lsM (va_rf (ax_ro ad (refs.getD i.toNat (-1))) :: r.map (ax_tv ad)))
  rw [← h4 i]
  exact kk lsM Hp locs cells slots (hr.stk (ax_okc (ax_okr _) (ax_okt (ax_okt hr.2.1))))
theorem as_aald10 (hx : p.tables.exec = Jvm.exec) (hb : c.code = cc) (had : ∀ i : Int, 0 ≤ i → ad i = base + i.toNat) {pc : Nat} {ls r : List ax_V} {H : ax_H} {a i : Int} (hcd : ax_cd H.1 a = 111) (hi0 : 0 ≤ i) (hi1 : i < ax_ln H.1 a) (hd : decode cc pc = .ok (.aaload, 1)) (kk : ax_G p l e R s mi args below meth c Q D base ad nL n0 s0 (pc + 1) ls ((2, ax_rf H.1 a i) :: r) H) : ax_G p l e R s mi args below meth c Q D base ad nL n0 s0 pc ls ((0, i) :: (2, a) :: r) H := by
  intro lsM Hp locs cells slots hr
  obtain ⟨h0, h1, n, refs, h2, h3, h4⟩ := ax_cd_get hcd (by omega)
  obtain ⟨ent, tys, hP, hK, hE⟩ := hr.2.2.1
  have hlt : a.toNat < H.1.length := (List.getElem?_eq_some_iff.mp h2).1
  obtain ⟨cA, t0, b1, b2, b3⟩ := ax_E_ref (ty := .object RX10) (hE _ _ h2) rfl
  have hir := ax_ok0 (ax_okh hr.2.1)
  have he := ax_ws_get (base := base) (ent := ent) hlt
  rw [b3] at he
  show W p l e R s mi args below meth c Hp locs cells slots Q (F0 mi pc lsM (.int (Int32.ofInt i) :: ax_tv ad (2, a) :: r.map (ax_tv ad)))
  rw [ax_tvr had h0]
  refine va_aldq hx hb hK hP a.toNat t0 he b1 (ax_vin hi0 hir (by rw [h3] at hi1; exact hi1)) hd ?_
  rw [ax_nc hi0 hir]
  show W p l e R s mi args below meth c Hp locs cells slots Q (F0 mi (pc + 1) lsM (va_rf (ax_ro ad (refs.getD i.toNat (-1))) :: r.map (ax_tv ad)))
  rw [← h4 i]
  exact kk lsM Hp locs cells slots (hr.stk (ax_okc (ax_okr _) (ax_okt (ax_okt hr.2.1))))
theorem as_iast (hx : p.tables.exec = Jvm.exec) (hb : c.code = cc) (had : ∀ i : Int, 0 ≤ i → ad i = base + i.toNat) {pc : Nat} {ls r : List ax_V} {H : ax_H} {a i x : Int} (hcd : ax_cd H.1 a = 100) (hi0 : 0 ≤ i) (hi1 : i < ax_ln H.1 a) (hd : decode cc pc = .ok (.iastore, 1)) (kk : ax_G p l e R s mi args below meth c Q D base ad nL n0 s0 (pc + 1) ls r (H.1, ax_up H.2 a i (x))) : ax_G p l e R s mi args below meth c Q D base ad nL n0 s0 pc ls ((0, x) :: (0, i) :: (2, a) :: r) H := by
  intro lsM Hp locs cells slots hr
  obtain ⟨h0, h1, n, refs, h2, h3, h4⟩ := ax_cd_get hcd (by omega)
  obtain ⟨ent, tys, hP, hK, hE⟩ := hr.2.2.1
  have hlt : a.toNat < H.1.length := (List.getElem?_eq_some_iff.mp h2).1
  have hE1 := hE _ _ h2
  obtain ⟨cA, t0, b1, b2, b3⟩ := ax_E_int (ty := .int) hE1 rfl
  rw [h1] at b2 b3
  have hxr := ax_ok0 (ax_okh hr.2.1)
  have hir := ax_ok0 (ax_okh (ax_okt hr.2.1))
  have he := ax_ws_get (base := base) (ent := ent) hlt
  rw [b3] at he
  show W p l e R s mi args below meth c Hp locs cells slots Q (F0 mi pc lsM (ax_tv ad (0, x) :: .int (Int32.ofInt i) :: ax_tv ad (2, a) :: r.map (ax_tv ad)))
  rw [ax_tvr had h0]
  refine va_iast hx hb hK hP (ax_ws_D base _ ent) hr.2.2.2.1 a.toNat t0 he b1 (ax_vin hi0 hir (by rw [h3] at hi1; exact hi1)) hd (fun H1 locs1 hP1 _ hS1 => ?_)
  rw [ax_nc hi0 hir] at hP1
  refine kk lsM H1 locs1 cells slots ⟨hr.1, ax_okt (ax_okt (ax_okt hr.2.1)), ?_, hS1, hr.2.2.2.2⟩
  refine ax_HR_upd hK hE hlt rfl (fun k' hk' => ⟨rfl, ax_up_ne (by omega)⟩) (fun q hq => ?_) hP1
  have hq : H.1[a.toNat]? = some q := hq
  rw [h2] at hq
  cases hq
  rw [h1]
  have hfn : upd (fun j : Nat => Int32.ofInt (H.2 a j)) i.toNat (Int32.ofInt x) = fun j : Nat => Int32.ofInt (ax_up H.2 a i (x) a j) := by
    funext j
    rw [ax_up_at]
    by_cases ej : j = i.toNat
    · subst ej
      rw [if_pos (by omega)]
      simp [upd]
    · rw [if_neg (by omega)]
      simp [upd, ej]
  have hrg : ∀ j, ax_r32 (ax_up H.2 a i (x) a j) := fun j => by
    rw [ax_up_at]
    split
    · exact hxr
    · exact b2 j
  refine ⟨hE1.1, Or.inr (Or.inl ⟨.int, cA, t0, rfl, b1, hrg, by rw [← hfn]⟩)⟩
theorem as_bast (hx : p.tables.exec = Jvm.exec) (hb : c.code = cc) (had : ∀ i : Int, 0 ≤ i → ad i = base + i.toNat) {pc : Nat} {ls r : List ax_V} {H : ax_H} {a i x : Int} (hcd : ax_cd H.1 a = 102) (hi0 : 0 ≤ i) (hi1 : i < ax_ln H.1 a) (hd : decode cc pc = .ok (.bastore, 1)) (kk : ax_G p l e R s mi args below meth c Q D base ad nL n0 s0 (pc + 1) ls r (H.1, ax_up H.2 a i (ax_w8 x))) : ax_G p l e R s mi args below meth c Q D base ad nL n0 s0 pc ls ((0, x) :: (0, i) :: (2, a) :: r) H := by
  intro lsM Hp locs cells slots hr
  obtain ⟨h0, h1, n, refs, h2, h3, h4⟩ := ax_cd_get hcd (by omega)
  obtain ⟨ent, tys, hP, hK, hE⟩ := hr.2.2.1
  have hlt : a.toNat < H.1.length := (List.getElem?_eq_some_iff.mp h2).1
  have hE1 := hE _ _ h2
  obtain ⟨cA, t0, b1, b2, b3⟩ := ax_E_int (ty := .byte) hE1 rfl
  rw [h1] at b2 b3
  have hxr := ax_ok0 (ax_okh hr.2.1)
  have hir := ax_ok0 (ax_okh (ax_okt hr.2.1))
  have he := ax_ws_get (base := base) (ent := ent) hlt
  rw [b3] at he
  show W p l e R s mi args below meth c Hp locs cells slots Q (F0 mi pc lsM (ax_tv ad (0, x) :: .int (Int32.ofInt i) :: ax_tv ad (2, a) :: r.map (ax_tv ad)))
  rw [ax_tvr had h0]
  refine va_bast hx hb hK hP (ax_ws_D base _ ent) hr.2.2.2.1 a.toNat t0 he b1 (ax_vin hi0 hir (by rw [h3] at hi1; exact hi1)) hd (fun H1 locs1 hP1 _ hS1 => ?_)
  rw [ax_nc hi0 hir] at hP1
  refine kk lsM H1 locs1 cells slots ⟨hr.1, ax_okt (ax_okt (ax_okt hr.2.1)), ?_, hS1, hr.2.2.2.2⟩
  refine ax_HR_upd hK hE hlt rfl (fun k' hk' => ⟨rfl, ax_up_ne (by omega)⟩) (fun q hq => ?_) hP1
  have hq : H.1[a.toNat]? = some q := hq
  rw [h2] at hq
  cases hq
  rw [h1]
  have hfn : upd (fun j : Nat => Int32.ofInt (H.2 a j)) i.toNat (vp_nar .byte (Int32.ofInt x)) = fun j : Nat => Int32.ofInt (ax_up H.2 a i (ax_w8 x) a j) := by
    funext j
    rw [ax_up_at]
    by_cases ej : j = i.toNat
    · subst ej
      rw [if_pos (by omega)]
      simp [upd, ax_nar8 hxr]
    · rw [if_neg (by omega)]
      simp [upd, ej]
  have hrg : ∀ j, ax_r32 (ax_up H.2 a i (ax_w8 x) a j) := fun j => by
    rw [ax_up_at]
    split
    · exact (by have := ax_w8_r x; unfold ax_r32; omega)
    · exact b2 j
  refine ⟨hE1.1, Or.inr (Or.inl ⟨.byte, cA, t0, rfl, b1, hrg, by rw [← hfn]⟩)⟩
theorem as_zast (hx : p.tables.exec = Jvm.exec) (hb : c.code = cc) (had : ∀ i : Int, 0 ≤ i → ad i = base + i.toNat) {pc : Nat} {ls r : List ax_V} {H : ax_H} {a i x : Int} (hcd : ax_cd H.1 a = 103) (hi0 : 0 ≤ i) (hi1 : i < ax_ln H.1 a) (hz : x = 0 ∨ x = 1) (hd : decode cc pc = .ok (.bastore, 1)) (kk : ax_G p l e R s mi args below meth c Q D base ad nL n0 s0 (pc + 1) ls r (H.1, ax_up H.2 a i (x))) : ax_G p l e R s mi args below meth c Q D base ad nL n0 s0 pc ls ((0, x) :: (0, i) :: (2, a) :: r) H := by
  intro lsM Hp locs cells slots hr
  obtain ⟨h0, h1, n, refs, h2, h3, h4⟩ := ax_cd_get hcd (by omega)
  obtain ⟨ent, tys, hP, hK, hE⟩ := hr.2.2.1
  have hlt : a.toNat < H.1.length := (List.getElem?_eq_some_iff.mp h2).1
  have hE1 := hE _ _ h2
  obtain ⟨cA, t0, b1, b2, b3⟩ := ax_E_int (ty := .boolean) hE1 rfl
  rw [h1] at b2 b3
  have hxr := ax_ok0 (ax_okh hr.2.1)
  have hir := ax_ok0 (ax_okh (ax_okt hr.2.1))
  have he := ax_ws_get (base := base) (ent := ent) hlt
  rw [b3] at he
  show W p l e R s mi args below meth c Hp locs cells slots Q (F0 mi pc lsM (ax_tv ad (0, x) :: .int (Int32.ofInt i) :: ax_tv ad (2, a) :: r.map (ax_tv ad)))
  rw [ax_tvr had h0]
  refine va_zast hx hb hK hP (ax_ws_D base _ ent) hr.2.2.2.1 a.toNat t0 he b1 (ax_vin hi0 hir (by rw [h3] at hi1; exact hi1)) hd (fun H1 locs1 hP1 _ hS1 => ?_)
  rw [ax_nc hi0 hir] at hP1
  refine kk lsM H1 locs1 cells slots ⟨hr.1, ax_okt (ax_okt (ax_okt hr.2.1)), ?_, hS1, hr.2.2.2.2⟩
  refine ax_HR_upd hK hE hlt rfl (fun k' hk' => ⟨rfl, ax_up_ne (by omega)⟩) (fun q hq => ?_) hP1
  have hq : H.1[a.toNat]? = some q := hq
  rw [h2] at hq
  cases hq
  rw [h1]
  have hfn : upd (fun j : Nat => Int32.ofInt (H.2 a j)) i.toNat (vp_nar .boolean (Int32.ofInt x)) = fun j : Nat => Int32.ofInt (ax_up H.2 a i (x) a j) := by
    funext j
    rw [ax_up_at]
    by_cases ej : j = i.toNat
    · subst ej
      rw [if_pos (by omega)]
      simp [upd, ax_nar1 hz]
    · rw [if_neg (by omega)]
      simp [upd, ej]
  have hrg : ∀ j, ax_r32 (ax_up H.2 a i (x) a j) := fun j => by
    rw [ax_up_at]
    split
    · exact hxr
    · exact b2 j
  refine ⟨hE1.1, Or.inr (Or.inl ⟨.boolean, cA, t0, rfl, b1, hrg, by rw [← hfn]⟩)⟩
theorem as_last (hx : p.tables.exec = Jvm.exec) (hb : c.code = cc) (had : ∀ i : Int, 0 ≤ i → ad i = base + i.toNat) {pc : Nat} {ls r : List ax_V} {H : ax_H} {a i x : Int} (hcd : ax_cd H.1 a = 101) (hi0 : 0 ≤ i) (hi1 : i < ax_ln H.1 a) (hd : decode cc pc = .ok (.lastore, 1)) (kk : ax_G p l e R s mi args below meth c Q D base ad nL n0 s0 (pc + 1) ls r (H.1, ax_up H.2 a i (x))) : ax_G p l e R s mi args below meth c Q D base ad nL n0 s0 pc ls ((1, x) :: (0, i) :: (2, a) :: r) H := by
  intro lsM Hp locs cells slots hr
  obtain ⟨h0, h1, n, refs, h2, h3, h4⟩ := ax_cd_get hcd (by omega)
  obtain ⟨ent, tys, hP, hK, hE⟩ := hr.2.2.1
  have hlt : a.toNat < H.1.length := (List.getElem?_eq_some_iff.mp h2).1
  have hE1 := hE _ _ h2
  obtain ⟨cA, t0, b1, b2, b3⟩ := ax_E_long hE1
  rw [h1] at b2 b3
  have hxr := ax_ok1 (ax_okh hr.2.1)
  have hir := ax_ok0 (ax_okh (ax_okt hr.2.1))
  have he := ax_ws_get (base := base) (ent := ent) hlt
  rw [b3] at he
  show W p l e R s mi args below meth c Hp locs cells slots Q (F0 mi pc lsM (ax_tv ad (1, x) :: .int (Int32.ofInt i) :: ax_tv ad (2, a) :: r.map (ax_tv ad)))
  rw [ax_tvr had h0]
  refine va_last hx hb hK hP (ax_ws_D base _ ent) hr.2.2.2.1 a.toNat t0 he b1 (ax_vin hi0 hir (by rw [h3] at hi1; exact hi1)) hd (fun H1 locs1 hP1 _ hS1 => ?_)
  rw [ax_nc hi0 hir] at hP1
  refine kk lsM H1 locs1 cells slots ⟨hr.1, ax_okt (ax_okt (ax_okt hr.2.1)), ?_, hS1, hr.2.2.2.2⟩
  refine ax_HR_upd hK hE hlt rfl (fun k' hk' => ⟨rfl, ax_up_ne (by omega)⟩) (fun q hq => ?_) hP1
  have hq : H.1[a.toNat]? = some q := hq
  rw [h2] at hq
  cases hq
  rw [h1]
  have hfn : vp_updL (fun j : Nat => Int64.ofInt (H.2 a j)) i.toNat (Int64.ofInt x) = fun j : Nat => Int64.ofInt (ax_up H.2 a i (x) a j) := by
    funext j
    rw [ax_up_at]
    by_cases ej : j = i.toNat
    · subst ej
      rw [if_pos (by omega)]
      simp [vp_updL]
    · rw [if_neg (by omega)]
      simp [vp_updL, ej]
  have hrg : ∀ j, ax_r64 (ax_up H.2 a i (x) a j) := fun j => by
    rw [ax_up_at]
    split
    · exact hxr
    · exact b2 j
  refine ⟨hE1.1, Or.inr (Or.inr (Or.inl ⟨rfl, cA, t0, b1, hrg, by rw [← hfn]⟩))⟩
theorem as_aast7 (hx : p.tables.exec = Jvm.exec) (hb : c.code = cc) (had : ∀ i : Int, 0 ≤ i → ad i = base + i.toNat) {pc : Nat} {ls r : List ax_V} {H : ax_H} {a i x : Int} (hcd : ax_cd H.1 a = 110) (hxc : ax_cd H.1 x = 7) (hi0 : 0 ≤ i) (hi1 : i < ax_ln H.1 a) (hd : decode cc pc = .ok (.aastore, 1)) (kk : ax_G p l e R s mi args below meth c Q D base ad nL n0 s0 (pc + 1) ls r (ax_sr H.1 a i x, H.2)) : ax_G p l e R s mi args below meth c Q D base ad nL n0 s0 pc ls ((2, x) :: (0, i) :: (2, a) :: r) H := by
  intro lsM Hp locs cells slots hr
  obtain ⟨h0, h1, n, refs, h2, h3, h4⟩ := ax_cd_get hcd (by omega)
  obtain ⟨x0, x1, xn, xrefs, x2, -, -⟩ := ax_cd_get hxc (by omega)
  obtain ⟨ent, tys, hP, hK, hE⟩ := hr.2.2.1
  have hlt : a.toNat < H.1.length := (List.getElem?_eq_some_iff.mp h2).1
  have hltx : x.toNat < H.1.length := (List.getElem?_eq_some_iff.mp x2).1
  have hE1 := hE _ _ h2
  obtain ⟨cA, t0, b1, b2, b3⟩ := ax_E_ref (ty := .object RX7) hE1 rfl
  obtain ⟨-, -, -, x4⟩ := ax_E_obj (hE _ _ x2) (by omega)
  have hir := ax_ok0 (ax_okh (ax_okt hr.2.1))
  have he := ax_ws_get (base := base) (ent := ent) hlt
  rw [b3] at he
  have hex := ax_ws_get (base := base) (ent := ent) hltx
  rw [x4] at hex
  show W p l e R s mi args below meth c Hp locs cells slots Q (F0 mi pc lsM (ax_tv ad (2, x) :: .int (Int32.ofInt i) :: ax_tv ad (2, a) :: r.map (ax_tv ad)))
  rw [ax_tvr had h0, ax_tvr had x0]
  refine va_astq hx hb hK hP (ax_ws_D base _ ent) hr.2.2.2.1 a.toNat t0 x.toNat 7 (r := (RX7, TX7, 1)) he b1 hex rfl (ax_vin hi0 hir (by rw [h3] at hi1; exact hi1)) hd (fun H1 locs1 hP1 _ hS1 => ?_)
  rw [ax_nc hi0 hir] at hP1
  refine kk lsM H1 locs1 cells slots ⟨hr.1, ax_okt (ax_okt (ax_okt hr.2.1)), ?_, hS1, by rw [ax_sr_len]; exact hr.2.2.2.2.1, by rw [ax_sr_sl]; exact hr.2.2.2.2.2⟩
  obtain ⟨g1, g2⟩ := ax_sr_get (j := i) (v := x) h0 h2
  refine ax_HR_upd hK hE hlt ax_sr_len (fun k' hk' => ⟨g2 k' hk', rfl⟩) (fun q hq => ?_) hP1
  have hq : (ax_sr H.1 a i x)[a.toNat]? = some q := hq
  rw [g1] at hq
  cases hq
  have hin : i.toNat < refs.length := by rw [b2]; omega
  have hfn : va_up (fun j : Nat => ax_ro ad (refs.getD j (-1))) i.toNat (some (base + x.toNat)) = fun j : Nat => ax_ro ad ((refs.set i.toNat x).getD j (-1)) := by
    funext j
    by_cases ej : j = i.toNat
    · subst ej
      have : (refs.set i.toNat x).getD i.toNat (-1) = x := by simp [List.getD, List.getElem?_set, hin]
      rw [this]
      simp [va_up, ax_ro, show x ≠ -1 by omega, had x x0]
    · have : (refs.set i.toNat x).getD j (-1) = refs.getD j (-1) := by simp [List.getD, List.getElem?_set, Ne.symm ej]
      rw [this]
      simp [va_up, ej]
  refine ⟨hE1.1, Or.inr (Or.inr (Or.inr ⟨.object RX7, cA, t0, rfl, b1, by show (refs.set i.toNat x).length = n; simp [b2], by rw [← hfn]⟩))⟩
theorem as_aast10 (hx : p.tables.exec = Jvm.exec) (hb : c.code = cc) (had : ∀ i : Int, 0 ≤ i → ad i = base + i.toNat) {pc : Nat} {ls r : List ax_V} {H : ax_H} {a i x : Int} (hcd : ax_cd H.1 a = 111) (hxc : ax_cd H.1 x = 10) (hi0 : 0 ≤ i) (hi1 : i < ax_ln H.1 a) (hd : decode cc pc = .ok (.aastore, 1)) (kk : ax_G p l e R s mi args below meth c Q D base ad nL n0 s0 (pc + 1) ls r (ax_sr H.1 a i x, H.2)) : ax_G p l e R s mi args below meth c Q D base ad nL n0 s0 pc ls ((2, x) :: (0, i) :: (2, a) :: r) H := by
  intro lsM Hp locs cells slots hr
  obtain ⟨h0, h1, n, refs, h2, h3, h4⟩ := ax_cd_get hcd (by omega)
  obtain ⟨x0, x1, xn, xrefs, x2, -, -⟩ := ax_cd_get hxc (by omega)
  obtain ⟨ent, tys, hP, hK, hE⟩ := hr.2.2.1
  have hlt : a.toNat < H.1.length := (List.getElem?_eq_some_iff.mp h2).1
  have hltx : x.toNat < H.1.length := (List.getElem?_eq_some_iff.mp x2).1
  have hE1 := hE _ _ h2
  obtain ⟨cA, t0, b1, b2, b3⟩ := ax_E_ref (ty := .object RX10) hE1 rfl
  obtain ⟨-, -, -, x4⟩ := ax_E_obj (hE _ _ x2) (by omega)
  have hir := ax_ok0 (ax_okh (ax_okt hr.2.1))
  have he := ax_ws_get (base := base) (ent := ent) hlt
  rw [b3] at he
  have hex := ax_ws_get (base := base) (ent := ent) hltx
  rw [x4] at hex
  show W p l e R s mi args below meth c Hp locs cells slots Q (F0 mi pc lsM (ax_tv ad (2, x) :: .int (Int32.ofInt i) :: ax_tv ad (2, a) :: r.map (ax_tv ad)))
  rw [ax_tvr had h0, ax_tvr had x0]
  refine va_astq hx hb hK hP (ax_ws_D base _ ent) hr.2.2.2.1 a.toNat t0 x.toNat 10 (r := (RX10, TX10, 10)) he b1 hex rfl (ax_vin hi0 hir (by rw [h3] at hi1; exact hi1)) hd (fun H1 locs1 hP1 _ hS1 => ?_)
  rw [ax_nc hi0 hir] at hP1
  refine kk lsM H1 locs1 cells slots ⟨hr.1, ax_okt (ax_okt (ax_okt hr.2.1)), ?_, hS1, by rw [ax_sr_len]; exact hr.2.2.2.2.1, by rw [ax_sr_sl]; exact hr.2.2.2.2.2⟩
  obtain ⟨g1, g2⟩ := ax_sr_get (j := i) (v := x) h0 h2
  refine ax_HR_upd hK hE hlt ax_sr_len (fun k' hk' => ⟨g2 k' hk', rfl⟩) (fun q hq => ?_) hP1
  have hq : (ax_sr H.1 a i x)[a.toNat]? = some q := hq
  rw [g1] at hq
  cases hq
  have hin : i.toNat < refs.length := by rw [b2]; omega
  have hfn : va_up (fun j : Nat => ax_ro ad (refs.getD j (-1))) i.toNat (some (base + x.toNat)) = fun j : Nat => ax_ro ad ((refs.set i.toNat x).getD j (-1)) := by
    funext j
    by_cases ej : j = i.toNat
    · subst ej
      have : (refs.set i.toNat x).getD i.toNat (-1) = x := by simp [List.getD, List.getElem?_set, hin]
      rw [this]
      simp [va_up, ax_ro, show x ≠ -1 by omega, had x x0]
    · have : (refs.set i.toNat x).getD j (-1) = refs.getD j (-1) := by simp [List.getD, List.getElem?_set, Ne.symm ej]
      rw [this]
      simp [va_up, ej]
  refine ⟨hE1.1, Or.inr (Or.inr (Or.inr ⟨.object RX10, cA, t0, rfl, b1, by show (refs.set i.toNat x).length = n; simp [b2], by rw [← hfn]⟩))⟩
end AXC
