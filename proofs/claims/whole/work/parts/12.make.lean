/-! WHAT LIES OUTSIDE THE WORLD (Strings, words of nest mates, classes of arrays), LENGTHS, CELLS THAT ARE MADE -/
def ax_SP (base : Nat) (ad : Int → Nat) (U : State) (H : Heap) : Prop :=
  va_AO RX7 U ∧ va_AO RX10 U ∧ (Cond.arrayOver (.array .int)).before #[] U = true ∧
  (∀ e ∈ ax_Il, e.2.2.2.2 ≠ 0 → va_Nw (.methodLinkNest (ax_ow e.1) e.2.1 (ax_mq e.2.2.1).1 "RingKiln") U) ∧
  (∀ (i : Nat) (q : Nat × Nat × String × Nat), ax_Sl[i]? = some q → vk_R (ax_ow q.1) q.2.1 q.2.2.1 (ad (-2 - (i : Int))) U) ∧
  (∃ adV : Nat → Nat, vk_S 23 (ax_Sb.map List.length) (ax_Sb.map (List.map Int32.ofNat)) (fun i => ad (-2 - (i : Int))) adV (ax_A base) U H) ∧
  va_Z "java/lang/String" "COMPACT_STRINGS" "Z" (.int 1) (ax_A base) U H ∧ va_Zq "jdk/internal/util/Preconditions" "SIOOBE_FORMATTER" "Ljava/util/function/BiFunction;" (ax_A base) U H
theorem ax_aoa_spec {U : State} (h : (Cond.arrayOver (.array .int)).before #[] U = true) :
    ∃ comp c k, U.vm.findClass (FieldType.array .int).toString = some comp ∧ (U.vm.classes.findIdx? fun x => match x.kind with | .array component _ => component == comp | _ => false) = some c ∧ U.vm.classes[c]? = some k ∧ k.kind = .array comp (.array .int) ∧
      U.vm.findClass ("[" ++ (FieldType.array .int).toString) = some c := by
  simp only [Cond.before, Cond.holds, Cond.value, beq_iff_eq] at h
  cases hc : U.vm.findClass (FieldType.array .int).toString with
  | none => simp [hc] at h
  | some comp =>
    simp only [hc, Option.bind_some, Option.bind_eq_some_iff, Option.map_eq_some_iff] at h
    obtain ⟨c, hi, k, hk, hb⟩ := h
    obtain ⟨hlt, hp, -⟩ := Array.findIdx?_eq_some_iff_getElem.mp hi
    have hkk : U.vm.classes[c] = k := (Array.getElem?_eq_some_iff.mp hk).2
    rw [hkk] at hp
    cases hkind : k.kind with
    | array component ty =>
      rw [hkind] at hb hp
      simp at hb hp
      exact ⟨comp, c, k, rfl, hi, hk, by rw [hkind, hp, hb.1], hb.2⟩
    | _ => rw [hkind] at hb; simp at hb
theorem ax_aoa_moved {u U : State} (hvm : u.vm.Alike U.vm) (h : (Cond.arrayOver (.array .int)).before #[] u = true) : (Cond.arrayOver (.array .int)).before #[] U = true := by
  obtain ⟨comp, c, k, h1, h2, h3, h4, h5⟩ := ax_aoa_spec h
  obtain ⟨k', hk', he⟩ := hvm.2.2 _ _ h3
  have hi : (U.vm.classes.findIdx? fun (x : Class) => match x.kind with | .array component _ => component == comp | _ => false) = some c := by
    have e2 : U.vm.bare = u.vm.bare := by first | exact hvm.bare_eq | exact hvm.bare_eq.symm
    refine Eq.trans (va_idx_bare U.vm comp).symm ?_
    rw [e2]
    exact (va_idx_bare u.vm comp).trans h2
  have hkind : k'.kind = .array comp (.array .int) := by rw [he]; exact h4
  have f1 : U.vm.findClass (FieldType.array .int).toString = some comp := by rw [hvm.findClass]; exact h1
  have f2 : U.vm.findClass ("[" ++ (FieldType.array .int).toString) = some c := by rw [hvm.findClass]; exact h5
  unfold Cond.before Cond.holds
  simp only [Cond.value]
  rw [f1, Option.bind_some]
  refine (congrArg (fun o : Option Nat => (o.bind (fun c => (U.vm.classes[c]?).map fun (k : Class) => match k.kind with | .array _ ty => decide (ty = FieldType.array .int) && decide (U.vm.findClass ("[" ++ (FieldType.array .int).toString) = some c) | _ => false) == some true)) hi).trans ?_
  simp [hk', hkind, f2]
theorem ax_SP.go {base : Nat} {ad : Int → Nat} {s U : State} {H : Heap} {locs : List Loc} (h : ax_SP base ad s s.heap) (hW : s.WarmedH U.vm) (hS : va_S (ax_A base) s.heap H locs) : ax_SP base ad U H := by
  obtain ⟨h1, h2, h3, h4, h5, ⟨adV, h6⟩, h7, h8⟩ := h
  have hv := hW.alike
  exact ⟨h1.moved hv, h2.moved hv, ax_aoa_moved hv h3, fun e he hn => va_Nw.warmM hW (h4 e he hn), fun i q hq => vk_R.warm hW (h5 i q hq), ⟨adV, (h6.moved hv).kept hS.2.1⟩, (h7.moved hv).kept hS.2.1, (h8.moved hv).kept hS.2.1⟩
theorem ax_E_arr {ad : Int → Nat} {tys : List (ClassId × FieldType)} {q n : Nat} {refs : List Int} {hk : Int → Int} {E : va_E} (h : ax_E ad tys (q, n, refs) hk E) (hq : 100 ≤ q) : ∃ (cA : ClassId) (t0 : Nat) (ty : FieldType) (x : vp_A), tys[t0]? = some (cA, ty) ∧ E = .inl (cA, x) ∧ x.1 = n ∧ n ≤ 60000 := by
  have hn := h.1
  rcases h.2 with h | ⟨ty, cA, t0, h, h2, -, h3⟩ | ⟨h, cA, t0, h2, -, h3⟩ | ⟨ty, cA, t0, h, h2, -, h3⟩
  · have h1 : q < 13 := h.1
    omega
  · exact ⟨cA, t0, ty, _, h2, h3, rfl, hn⟩
  · exact ⟨cA, t0, .long, _, h2, h3, rfl, hn⟩
  · exact ⟨cA, t0, ty, _, h2, h3, rfl, hn⟩
section AXD
variable {p : Program} {l : Launch} {e : Env} {R : Room} {s : State} {mi : MethodId} {args : Array Value} {below : List Frame} {meth : Method} {c : Code} {Q : State → Prop} {cc : ByteArray} {D : va_G} {base : Nat} {ad : Int → Nat} {nL n0 s0 : Nat}
theorem as_alen (hx : p.tables.exec = Jvm.exec) (hb : c.code = cc) (had : ∀ i : Int, 0 ≤ i → ad i = base + i.toNat) {pc : Nat} {ls r : List ax_V} {H : ax_H} {a : Int} (hcd : 100 ≤ ax_cd H.1 a ∧ ax_cd H.1 a ≤ 112) (hd : decode cc pc = .ok (.arraylength, 1)) (kk : ax_G p l e R s mi args below meth c Q D base ad nL n0 s0 (pc + 1) ls ((0, ax_ln H.1 a) :: r) H) : ax_G p l e R s mi args below meth c Q D base ad nL n0 s0 pc ls ((2, a) :: r) H := by
  intro lsM Hp locs cells slots hr
  obtain ⟨h0, h1, n, refs, h2, h3, h4⟩ := ax_cd_get (q := ax_cd H.1 a) rfl (by omega)
  obtain ⟨ent, tys, hP, hK, hE⟩ := hr.2.2.1
  have hlt : a.toNat < H.1.length := (List.getElem?_eq_some_iff.mp h2).1
  obtain ⟨cA, t0, ty, x, b1, b2, b3, b4⟩ := ax_E_arr (hE _ _ h2) hcd.1
  have he := ax_ws_get (base := base) (ent := ent) hlt
  rw [b2] at he
  show W p l e R s mi args below meth c Hp locs cells slots Q (F0 mi pc lsM (ax_tv ad (2, a) :: r.map (ax_tv ad)))
  rw [ax_tvr had h0]
  refine va_alen hx hb hK hP a.toNat t0 he b1 (v := Int32.ofInt (ax_ln H.1 a)) (by rw [b3, h3]; exact ax_ofn n) hd ?_
  exact kk lsM Hp locs cells slots (hr.stk (ax_okc (ax_oki (by rw [h3]; unfold ax_r32; omega)) (ax_okt hr.2.1)))
theorem as_aald12 (hx : p.tables.exec = Jvm.exec) (hb : c.code = cc) (had : ∀ i : Int, 0 ≤ i → ad i = base + i.toNat) {pc : Nat} {ls r : List ax_V} {H : ax_H} {a i : Int} (hcd : ax_cd H.1 a = 112) (hi0 : 0 ≤ i) (hi1 : i < ax_ln H.1 a) (hd : decode cc pc = .ok (.aaload, 1)) (kk : ax_G p l e R s mi args below meth c Q D base ad nL n0 s0 (pc + 1) ls ((2, ax_rf H.1 a i) :: r) H) : ax_G p l e R s mi args below meth c Q D base ad nL n0 s0 pc ls ((0, i) :: (2, a) :: r) H := by
  intro lsM Hp locs cells slots hr
  obtain ⟨h0, h1, n, refs, h2, h3, h4⟩ := ax_cd_get hcd (by omega)
  obtain ⟨ent, tys, hP, hK, hE⟩ := hr.2.2.1
  have hlt : a.toNat < H.1.length := (List.getElem?_eq_some_iff.mp h2).1
  obtain ⟨cA, t0, b1, b2, b3⟩ := ax_E_ref (ty := .array .int) (hE _ _ h2) rfl
  have hir := ax_ok0 (ax_okh hr.2.1)
  have he := ax_ws_get (base := base) (ent := ent) hlt
  rw [b3] at he
  show W p l e R s mi args below meth c Hp locs cells slots Q (F0 mi pc lsM (.int (Int32.ofInt i) :: ax_tv ad (2, a) :: r.map (ax_tv ad)))
  rw [ax_tvr had h0]
  have hin : vp_in (Int32.ofInt i) n := ax_vin hi0 hir (by rw [h3] at hi1; exact hi1)
  have hlt2 : (Int32.ofInt i).toNatClampNeg < n := Nat.not_le.mp fun q => hin (Or.inr q)
  refine W.aald (v := va_rf (ax_ro ad (refs.getD i.toNat (-1)))) (ty := .array .int) hx hb (hP a.toNat _ he) ((hK.2 t0 _ b1).1 n (fun j => va_rf (ax_ro ad (refs.getD j (-1))))) rfl (fun q => by cases q) (by show ¬ ((Int32.ofInt i) < 0 ∨ (arrV _ _ _).slots.size ≤ _); rw [arrV_size]; exact hin) (by show (arrV _ _ _).slots[_]? = _; rw [arrV_read _ _ hlt2, ax_nc hi0 hir]) rfl rfl hd ?_
  rw [← h4 i]
  exact kk lsM Hp locs cells slots (hr.stk (ax_okc (ax_okr _) (ax_okt (ax_okt hr.2.1))))
theorem ax_fresh {n q : Nat} {ent : Nat → va_E} {E : va_E} {H1 : Heap} (hD : va_D (ax_A base) (ax_ws base n ent ++ [(q, E)])) (hP : va_P D vwCl (ax_ws base n ent ++ [(q, E)]) H1) (hz : H1.size ≤ base + n + 1) : q = base + n := by
  have hlen : (ax_ws base n ent).length = n := by simp [ax_ws]
  have hl : (ax_ws base n ent ++ [(q, E)])[n]? = some (q, E) := by rw [List.getElem?_append_right (by omega), hlen]; simp
  have h1 : base ≤ q := hD.2 n _ hl
  have h2 : q < H1.size := (hP n _ hl).lt
  have h3 : ¬ q < base + n := fun hlt => by
    have hk : (ax_ws base n ent ++ [(q, E)])[q - base]? = some (base + (q - base), ent (q - base)) := by
      rw [List.getElem?_append_left (by omega)]
      exact ax_ws_get (by omega)
    have := hD.1 _ _ _ _ hl hk (by show q = base + (q - base); omega)
    omega
  omega
/-- a new cell -/
theorem ax_HR_new {L : ax_L} {h : Int → Int → Int} {H1 : Heap} {ent : Nat → va_E} {tys tys' : List (ClassId × FieldType)} {E : va_E} {q : Nat × Nat × List Int} (hK : va_K D vwCl (tys ++ tys') s)
    (hE : ∀ (k : Nat) (q : Nat × Nat × List Int), L[k]? = some q → ax_E ad tys q (h k) (ent k)) (hq : ax_E ad (tys ++ tys') q (fun _ => 0) E) (hP : va_P D vwCl (ax_ws base L.length ent ++ [(base + L.length, E)]) H1) : ax_HR D base ad s (L ++ [q]) (ax_zr h L.length) H1 := by
  rw [ax_ws_push] at hP
  refine ⟨va_up ent L.length E, tys ++ tys', by simpa using hP, hK, fun k q' hk => ?_⟩
  by_cases e : k = L.length
  · subst e
    rw [List.getElem?_append_right (Nat.le_refl _)] at hk
    simp at hk
    subst hk
    have e1 : va_up ent L.length E L.length = E := by simp [va_up]
    have e2 : ax_zr h L.length (L.length : Nat) = fun _ => 0 := by funext j; unfold ax_zr; rw [if_pos (by omega)]
    rw [e1, e2]
    exact hq
  · have hlt : k < L.length := by
      have := (List.getElem?_eq_some_iff.mp hk).1
      simp at this; omega
    rw [List.getElem?_append_left hlt] at hk
    have e1 : va_up ent L.length E k = ent k := by simp [va_up, e]
    have e2 : ax_zr h L.length (k : Nat) = h k := by funext j; unfold ax_zr; rw [if_neg (by omega)]
    rw [e1, e2]
    have hh := hE k q' hk
    refine ⟨hh.1, ?_⟩
    have hg : ∀ (t0 : Nat) (z : ClassId × FieldType), tys[t0]? = some z → (tys ++ tys')[t0]? = some z := fun t0 z hz => by rw [List.getElem?_append_left (List.getElem?_eq_some_iff.mp hz).1]; exact hz
    rcases hh.2 with x | ⟨ty, cA, t0, x1, x2, x3⟩ | ⟨x0, cA, t0, x2, x3⟩ | ⟨ty, cA, t0, x1, x2, x3⟩
    · exact Or.inl x
    · exact Or.inr (Or.inl ⟨ty, cA, t0, x1, hg _ _ x2, x3⟩)
    · exact Or.inr (Or.inr (Or.inl ⟨x0, cA, t0, hg _ _ x2, x3⟩))
    · exact Or.inr (Or.inr (Or.inr ⟨ty, cA, t0, x1, hg _ _ x2, x3⟩))
theorem ax_sl_app (L : ax_L) (q : Nat × Nat × List Int) : ax_sl (L ++ [q]) = ax_sl L + q.2.1 := by unfold ax_sl; simp
theorem ax_dfl {ci : Nat} (hci : ci < 13) : ∀ j, j < ax_nf ci → defaultValue (ax_ty ci j) = vp_V ((List.range (ax_nf ci)).map (ax_fv ad ci (List.replicate (ax_nf ci) (-1)) (fun _ => 0))) j := by
  intro j hj
  have hk := ax_fkl ci hci j hj
  unfold vp_V
  rw [List.getD_eq_getElem?_getD, List.getElem?_map, List.getElem?_range hj]
  show defaultValue (ax_ty ci j) = ax_fv ad ci (List.replicate (ax_nf ci) (-1)) (fun _ => 0) j
  have hr : (List.replicate (ax_nf ci) (-1 : Int)).getD j (-1) = -1 := by simp [List.getD, List.getElem?_replicate, hj]
  unfold ax_fv
  rw [hr]
  cases h : ax_ty ci j <;> rw [h] at hk <;> simp [ax_fk] at hk ⊢ <;> first | rfl | (simp [defaultValue, va_rf, ax_ro])
theorem ax_nlink {o i ci : Nat} (h : ax_N o i = some ci) : Cond.classLink (ax_ow o) i (ax_Cn ci) ∈ ax_tt ∧ Cond.instantiable (ax_Cn ci) (ax_nf ci) ∈ ax_tt ∧ ci < 13 := by
  unfold ax_N at h
  obtain ⟨e, he, h2⟩ := Option.map_eq_some_iff.mp h
  have hm := List.mem_of_find?_eq_some he
  have hp := List.find?_some he
  simp only [Bool.and_eq_true, beq_iff_eq] at hp
  have h1 := List.all_eq_true.mp ax_Nl_ok e hm
  simp only [Bool.and_eq_true, decide_eq_true_eq] at h1
  obtain ⟨a1, a2, a3, a4, a5⟩ := e
  cases h2
  obtain ⟨rfl, rfl⟩ := hp
  exact ⟨ax_tti (ax_lw h1.1.1) rfl, ax_tti (ax_lw h1.1.2) rfl, h1.2⟩
theorem as_new (hx : p.tables.exec = Jvm.exec) (hb : c.code = cc) (hts : ∀ w ∈ ax_tt, w.before args s = true) (had : ∀ i : Int, 0 ≤ i → ad i = base + i.toNat) (hsz : s.heap.size = base + n0) {o idx ci : Nat} (hown : s.vm.findClass (ax_ow o) = some mi.cls) (hN : ax_N o idx = some ci)
    {pc : Nat} {ls r : List ax_V} {H : ax_H} (hd : decode cc pc = .ok (.new idx, 3)) (hr1 : H.1.length + 1 ≤ n0 + R.cells) (hr2 : ax_sl H.1 + ax_nf ci ≤ s0 + R.slots)
    (kk : ax_G p l e R s mi args below meth c Q D base ad nL n0 s0 (pc + 3) ls ((2, (H.1.length : Int)) :: r) (H.1 ++ [(ci, ax_nf ci, List.replicate (ax_nf ci) (-1))], ax_zr H.2 H.1.length)) : ax_G p l e R s mi args below meth c Q D base ad nL n0 s0 pc ls r H := by
  intro lsM Hp locs cells slots hr
  obtain ⟨g1, g2, hci⟩ := ax_nlink hN
  obtain ⟨ent, tys, hP, hK, hE⟩ := hr.2.2.1
  have hS := hr.2.2.2.1
  have hl := hr.2.2.2.2.1
  have hsl := hr.2.2.2.2.2
  refine va_new hx hb hts (ax_hin hci) (ax_ty ci) (ax_hty hci) hown (hts _ g1) (hts _ g2) (hts _ (ax_hini hci)) hK hP (ax_ws_D base _ ent) hS (fun q h => by show base ≤ q; omega) (ax_vw hci) (ax_dfl (ad := ad) hci) (by omega) (by omega) hd (fun q H1 hP1 hD1 hS1 => ?_)
  refine ax_size (fun hz => ?_)
  have hq := ax_fresh hD1 hP1 (by omega)
  subst hq
  have K := kk lsM H1 locs (cells + 1) (slots + ax_nf ci) ⟨hr.1, ax_okc (ax_okr _) hr.2.1, ?_, hS1, by simp; omega, by show ax_sl (H.1 ++ [_]) = _; rw [ax_sl_app]; show ax_sl H.1 + ax_nf ci = _; omega⟩
  · rw [List.map_cons, ax_tvr had (by omega)] at K
    exact K
  · have hK' : va_K D vwCl (tys ++ []) s := by simpa using hK
    refine ax_HR_new hK' hE ⟨?_, Or.inl ⟨hci, rfl, by simp, fun _ => ax_r32_0, rfl⟩⟩ hP1
    show ax_nf ci ≤ 60000
    have : ∀ ci, ci < 13 → ax_nf ci ≤ 60000 := by decide +kernel
    exact this ci hci
end AXD
