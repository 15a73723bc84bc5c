/-! new int[n][k] -/
theorem ax_outer (c : ClassId) (N h0 : Nat) : ∀ i : Nat, Jvm.Free.Multi.outerC c N h0 i = arrV c N (fun j => va_rf (if j < i then some (h0 + 1 + j) else none))
  | 0 => by
    show ({ cls := c, slots := Array.replicate N .null, vm := .none } : Cell) = _
    rw [arrV_new]
    refine congrArg (arrV c N) (funext fun j => ?_)
    simp [va_rf]
  | i + 1 => by
    show (Jvm.Free.Multi.outerC c N h0 i).setSlot i (.ref (h0 + 1 + i)) = _
    rw [ax_outer c N h0 i, arrV_store]
    refine congrArg (arrV c N) (funext fun j => ?_)
    by_cases e : j = i
    · subst e
      simp [updV, va_rf]
    · by_cases h : j < i
      · simp [updV, e, h, Nat.lt_succ_of_lt h]
      · simp [updV, e, h, show ¬ j < i + 1 by omega]
theorem ax_sl_rep (k N : Nat) : ax_sl (List.replicate N (100, k, [])) = N * k := by
  induction N with
  | zero => simp [ax_sl]
  | succ N ih =>
    unfold ax_sl at ih ⊢
    rw [List.replicate_succ, List.map_cons, List.sum_cons, ih, Nat.add_one_mul]
    show k + N * k = N * k + k
    omega
section AXF
variable {p : Program} {l : Launch} {e : Env} {R : Room} {s : State} {mi : MethodId} {args : Array Value} {below : List Frame} {meth : Method} {c : Code} {Q : State → Prop} {cc : ByteArray} {D : va_G} {base : Nat} {ad : Int → Nat} {nL n0 s0 : Nat}
theorem as_mna (hx : p.tables.exec = Jvm.exec) (hb : c.code = cc) (hts : ∀ w ∈ ax_tt, w.before args s = true) (had : ∀ i : Int, 0 ≤ i → ad i = base + i.toNat) (hsz : s.heap.size = base + n0) (hao : (Cond.arrayOver (.array .int)).before #[] s = true) (hown : s.vm.findClass (ax_ow 5) = some mi.cls)
    {pc : Nat} {ls r : List ax_V} {H : ax_H} {n k : Int} (hn0 : 0 ≤ n) (hn1 : n ≤ 1000) (hk0 : 0 ≤ k) (hk1 : k ≤ 60000) (hd : decode cc pc = .ok (.multianewarray 9 2, 4)) (hr1 : H.1.length + 1 + n.toNat ≤ n0 + R.cells) (hr2 : ax_sl H.1 + n.toNat + n.toNat * k.toNat ≤ s0 + R.slots)
    (kk : ax_G p l e R s mi args below meth c Q D base ad nL n0 s0 (pc + 4) ls ((2, (H.1.length : Int)) :: r) (H.1 ++ (112, n.toNat, (List.range n.toNat).map fun i => ((H.1.length + 1 + i : Nat) : Int)) :: List.replicate n.toNat (100, k.toNat, []), ax_zr H.2 H.1.length)) : ax_G p l e R s mi args below meth c Q D base ad nL n0 s0 pc ls ((0, k) :: (0, n) :: r) H := by
  intro lsM Hp locs cells slots hr
  obtain ⟨ent, tys, hP, hK, hE⟩ := hr.2.2.1
  have hS := hr.2.2.2.1
  have hl := hr.2.2.2.2.1
  have hsl := hr.2.2.2.2.2
  have hkr := ax_ok0 (ax_okh hr.2.1)
  have hnr := ax_ok0 (ax_okh (ax_okt hr.2.1))
  have en := ax_nc hn0 hnr
  have ek := ax_nc hk0 hkr
  refine ax_size (fun hz0 => ?_)
  intro T hT X
  have hpz : Hp.size = base + H.1.length := by
    have h1 : base + H.1.length ≤ Hp.size := by
      by_cases h0 : H.1.length = 0
      · have := hS.1; omega
      · have := (hP (H.1.length - 1) _ (ax_ws_get (by omega))).lt
        have : base + (H.1.length - 1) < Hp.size := this
        omega
    omega
  obtain ⟨vm₁, cA, comp, -, fA, fC, hO, hI, X', step⟩ := X.multianewarray2F hx hown (hts _ ax_wd_cl_mna) hao (hts _ ax_ac_int) (g := F0 mi pc lsM (((0, k) :: (0, n) :: r).map (ax_tv ad))) rfl (by rw [hb]; exact hd) (n := Int32.ofInt n) (k := Int32.ofInt k) (rest := r.map (ax_tv ad)) rfl
    (fun q => by have := (ax_lt0 hnr).mp q; omega) (fun q => by have := (ax_lt0 hkr).mp q; omega) (by rw [en]; omega) (by rw [ek]; show k.toNat * 4 ≤ _; omega) (by rw [ek]; omega) rfl rfl (by rw [en]; omega) (by rw [en, ek]; omega)
  rw [en, ek] at X' step
  generalize hF : Jvm.Free.Multi.fill (T.setVm vm₁) cA comp n.toNat k.toNat (defaultValue .int) n.toNat = F at X' step
  have hTh : (T.setVm vm₁).heap = Hp := hT
  obtain ⟨f1, f2, -, -⟩ := Jvm.Free.Multi.fill_facts (T.setVm vm₁) cA comp n.toNat k.toNat (defaultValue .int) n.toNat
  rw [hF, hTh] at f1 f2
  have hold : ∀ x : Nat, x < Hp.size → F.heap[x]? = Hp[x]? := fun x hx => by
    have := Jvm.Free.Multi.fill_old (T.setVm vm₁) cA comp n.toNat k.toNat (defaultValue .int) (a := x) (by rw [hTh]; exact hx) n.toNat
    rw [hF, hTh] at this
    exact this
  have hrow : ∀ j : Nat, j < n.toNat → F.heap[Hp.size + 1 + j]? = some (vp_cell comp (k.toNat, .inl fun _ => 0)) := fun j hj => by
    have := Jvm.Free.Multi.fill_inner (T.setVm vm₁) cA comp n.toNat k.toNat (defaultValue .int) n.toNat j hj
    rw [hF, hTh] at this
    rw [this]
    congr 1
    show ({ cls := comp, slots := Array.replicate k.toNat (defaultValue .int), vm := .none } : Cell) = _
    rw [arrV_new]
    rfl
  rw [ax_outer] at f2
  have hKA : ArrOfT s cA (.array .int) := fun N9 z9 => by
    obtain ⟨-, k9, hk9, cm9, hkk9⟩ := (hO 0 0 0).1
    exact ⟨(fun q hq => by cases hq), k9, hk9, cm9, hkk9⟩
  have hKI : ArrOfT s comp .int := fun N9 z9 => by
    obtain ⟨-, k9, hk9, cm9, hkk9⟩ := (hI 0 (defaultValue .int)).1
    exact ⟨(fun q hq => by cases hq), k9, hk9, cm9, hkk9⟩
  have hK1 : va_K D vwCl (tys ++ [(cA, .array .int), (comp, .int)]) s := hK.app ⟨hK.1, fun k9 x hx => by
    match k9, hx with
    | 0, hx => cases hx; exact ⟨hKA, fA⟩
    | 1, hx => cases hx; exact ⟨hKI, fC⟩
    | k9 + 2, hx => simp at hx⟩
  have hg : ∀ (t0 : Nat) (z : ClassId × FieldType), tys[t0]? = some z → (tys ++ [(cA, .array .int), (comp, .int)])[t0]? = some z := fun t0 z hz => by rw [List.getElem?_append_left (List.getElem?_eq_some_iff.mp hz).1]; exact hz
  have K := kk lsM F.heap locs (cells + 1 + n.toNat) (slots + n.toNat + n.toNat * k.toNat) ⟨hr.1, ax_okc (ax_okr _) (ax_okt (ax_okt hr.2.1)), ?_, ?_, ?_, ?_⟩
  · obtain ⟨t, a1, b1⟩ := K F rfl X'
    refine ⟨t, step t ?_, b1⟩
    rw [List.map_cons, ax_tvr had (by omega)] at a1
    have e1 : T.heap.size = base + ((H.1.length : Nat) : Int).toNat := by rw [hT, hpz]; simp
    rw [e1]
    exact a1
  · refine ⟨fun j => if j < H.1.length then ent j else if j = H.1.length then .inl (cA, n.toNat, .inr (.inr (.inr (.inr (fun j => if j < n.toNat then some (Hp.size + 1 + j) else none))))) else .inl (comp, k.toNat, .inl fun _ => 0), _, ?_, hK1, ?_⟩
    · intro j q hq
      obtain ⟨hj, rfl⟩ := ax_ws_some hq
      have hj : j < (H.1 ++ (112, n.toNat, (List.range n.toNat).map fun i => ((H.1.length + 1 + i : Nat) : Int)) :: List.replicate n.toNat (100, k.toNat, [])).length := hj
      simp only [List.length_append, List.length_cons, List.length_replicate] at hj
      by_cases h1 : j < H.1.length
      · have e1 := hP j _ (ax_ws_get h1)
        have e2 : (if j < H.1.length then ent j else if j = H.1.length then (.inl (cA, n.toNat, .inr (.inr (.inr (.inr (fun j => if j < n.toNat then some (Hp.size + 1 + j) else none))))) : va_E) else .inl (comp, k.toNat, .inl fun _ => 0)) = ent j := if_pos h1
        show va_at D vwCl (base + j, if j < H.1.length then ent j else _) F.heap
        rw [e2]
        exact e1.kept (hold _ e1.lt)
      · by_cases h2 : j = H.1.length
        · subst h2
          show va_at D vwCl (base + H.1.length, if H.1.length < H.1.length then ent H.1.length else if H.1.length = H.1.length then _ else _) F.heap
          rw [if_neg (by omega), if_pos rfl]
          show F.heap[base + H.1.length]? = some (vp_cell _ _)
          rw [← hpz, vp_cell_q]
          exact f2
        · show va_at D vwCl (base + j, if j < H.1.length then ent j else if j = H.1.length then _ else _) F.heap
          rw [if_neg h1, if_neg h2]
          show F.heap[base + j]? = some (vp_cell _ _)
          have := hrow (j - H.1.length - 1) (by omega)
          rw [show Hp.size + 1 + (j - H.1.length - 1) = base + j by omega] at this
          exact this
    · intro j q hq
      have hq : (H.1 ++ (112, n.toNat, (List.range n.toNat).map fun i => ((H.1.length + 1 + i : Nat) : Int)) :: List.replicate n.toNat (100, k.toNat, []))[j]? = some q := hq
      by_cases h1 : j < H.1.length
      · rw [List.getElem?_append_left h1] at hq
        have hh := hE j q hq
        have e2 : ax_zr H.2 H.1.length (j : Nat) = H.2 j := by funext i; unfold ax_zr; rw [if_neg (by omega)]
        show ax_E ad _ q (ax_zr H.2 H.1.length (j : Nat)) (if j < H.1.length then ent j else _)
        rw [e2, if_pos h1]
        refine ⟨hh.1, ?_⟩
        rcases hh.2 with x | ⟨ty, cA, t0, x1, x2, x3⟩ | ⟨x0, cA, t0, x2, x3⟩ | ⟨ty, cA, t0, x1, x2, x3⟩
        · exact Or.inl x
        · exact Or.inr (Or.inl ⟨ty, cA, t0, x1, hg _ _ x2, x3⟩)
        · exact Or.inr (Or.inr (Or.inl ⟨x0, cA, t0, hg _ _ x2, x3⟩))
        · exact Or.inr (Or.inr (Or.inr ⟨ty, cA, t0, x1, hg _ _ x2, x3⟩))
      · have e2 : ax_zr H.2 H.1.length (j : Nat) = fun _ => 0 := by funext i; unfold ax_zr; rw [if_pos (by omega)]
        rw [List.getElem?_append_right (by omega)] at hq
        show ax_E ad _ q (ax_zr H.2 H.1.length (j : Nat)) (if j < H.1.length then ent j else if j = H.1.length then _ else _)
        rw [e2, if_neg h1]
        by_cases h2 : j = H.1.length
        · rw [if_pos h2]
          rw [h2, Nat.sub_self] at hq
          cases hq
          have hfn : (fun j : Nat => if j < n.toNat then some (Hp.size + 1 + j) else none) = fun j : Nat => ax_ro ad (((List.range n.toNat).map fun i => ((H.1.length + 1 + i : Nat) : Int)).getD j (-1)) := by
            funext j
            by_cases hj : j < n.toNat
            · have e3 : ((List.range n.toNat).map fun i => ((H.1.length + 1 + i : Nat) : Int)).getD j (-1) = ((H.1.length + 1 + j : Nat) : Int) := by
                rw [List.getD_eq_getElem?_getD, List.getElem?_map, List.getElem?_range hj]
                rfl
              rw [e3, if_pos hj]
              unfold ax_ro
              rw [if_neg (by omega), had _ (by omega)]
              congr 1
              omega
            · have e3 : ((List.range n.toNat).map fun i => ((H.1.length + 1 + i : Nat) : Int)).getD j (-1) = -1 := by
                rw [List.getD_eq_getElem?_getD, List.getElem?_eq_none (by simp; omega)]
                rfl
              rw [e3, if_neg hj]
              rfl
          exact ⟨by show n.toNat ≤ 60000; omega, Or.inr (Or.inr (Or.inr ⟨.array .int, cA, tys.length, rfl, by simp, by simp, by rw [← hfn]⟩))⟩
        · rw [if_neg h2]
          have hq2 : (List.replicate n.toNat ((100, k.toNat, []) : Nat × Nat × List Int))[j - H.1.length - 1]? = some q := by
            rw [show j - H.1.length = (j - H.1.length - 1) + 1 by omega] at hq
            simpa using hq
          have hq3 := List.mem_of_getElem? hq2
          have hq4 := List.eq_of_mem_replicate hq3
          subst hq4
          exact ⟨by show k.toNat ≤ 60000; omega, Or.inr (Or.inl ⟨.int, comp, tys.length + 1, rfl, by simp, fun _ => ax_r32_0, rfl⟩)⟩
  · exact ⟨by rw [f1]; have := hS.1; omega, fun q h1 h2 => (hold q (by have := hS.1; omega)).trans (hS.2.1 q h1 h2), hS.2.2⟩
  · simp; omega
  · have e1 : ∀ (A B : ax_L), ax_sl (A ++ B) = ax_sl A + ax_sl B := fun A B => by unfold ax_sl; simp
    have e2 : ∀ (q : Nat × Nat × List Int) (B : ax_L), ax_sl (q :: B) = q.2.1 + ax_sl B := fun q B => by unfold ax_sl; simp
    show ax_sl (H.1 ++ _ :: _) = _
    rw [e1, e2, ax_sl_rep]
    show ax_sl H.1 + (n.toNat + n.toNat * k.toNat) = _
    omega
end AXF
