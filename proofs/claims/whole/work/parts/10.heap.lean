/-! STEPS THAT TOUCH THE HEAP -/
def ax_Pl : List (List Nat) := [[328, 330], [458, 460, 462, 464, 466, 468, 470], [488, 490, 492, 494, 496], [270, 272], [436, 438, 440, 442, 444, 446], [291, 293, 295, 297], [311, 313, 315, 317], [354], [165, 167, 169, 171, 173, 175, 177], [244, 246, 248, 250, 252, 254, 256, 258, 260, 262, 264], [391, 393, 395, 397, 399, 401, 403, 405, 407, 409], [509, 511, 513, 515, 517, 519, 521, 523, 525, 527], [1253, 1255, 1257, 1259, 1261, 1263, 1265, 1267, 1269, 1271, 1273, 1275, 1277, 1279, 1281, 1283, 1285, 1287, 1289, 1291, 1293, 1295, 1297, 1299, 1301, 1303, 1305, 1307, 1309, 1311, 1313, 1315, 1317, 1319, 1321, 1323, 1325, 1327, 1329, 1331, 1333, 1335, 1337, 1339, 1341, 1343, 1345, 1347, 1349, 1351, 1353, 1355, 1357, 1359, 1361, 1363, 1365, 1367, 1369, 1371]]
def ax_Pi : List Nat := [123, 126, 128, 119, 127, 121, 122, 125, 118, 120, 124, 117, 129]
set_option maxRecDepth 100000 in
theorem ax_Pl_ok : ((List.range 13).all fun ci => (List.range (ax_nf ci)).all fun k => ax_Lw (u_lay (ax_Cn ci) (ax_T ci) k) ((ax_Pl.getD ci []).getD k 0)) = true := by decide +kernel
set_option maxRecDepth 100000 in
theorem ax_Pi_ok : ((List.range 13).all fun ci => ax_Lw (.initialized (ax_Cn ci)) (ax_Pi.getD ci 0)) = true := by decide +kernel
theorem ax_vw {ci : Nat} (h : ci < 13) : vwCl[ci]? = some (ax_Cn ci, ax_T ci, ax_nf ci) := by
  have hl : ci < vwCl.length := h
  obtain ⟨r, hr⟩ : ∃ r, vwCl[ci]? = some r := ⟨_, List.getElem?_eq_getElem hl⟩
  unfold ax_Cn ax_T ax_nf
  rw [hr]
theorem ax_hin {ci : Nat} (h : ci < 13) : ∀ w ∈ u_ws (ax_Cn ci) (ax_T ci) (ax_nf ci), w ∈ ax_tt := by
  intro w hw
  obtain ⟨k, hk, rfl⟩ := List.mem_map.mp hw
  have h1 := List.all_eq_true.mp (List.all_eq_true.mp ax_Pl_ok ci (List.mem_range.mpr h)) k hk
  refine ax_tti (ax_lw h1) ?_
  unfold u_lay
  split <;> rfl
theorem ax_hini {ci : Nat} (h : ci < 13) : Cond.initialized (ax_Cn ci) ∈ ax_tt := ax_tti (ax_lw (List.all_eq_true.mp ax_Pi_ok ci (List.mem_range.mpr h))) rfl
theorem ax_hty {ci : Nat} (h : ci < 13) : ∀ k, k < ax_nf ci → parseFieldDescriptor (ax_T ci k).2.2.1 = some (ax_ty ci k) := by
  match ci, h with
  | 0, _ => exact tyX0_ok
  | 1, _ => exact tyX1_ok
  | 2, _ => exact tyX2_ok
  | 3, _ => exact tyX3_ok
  | 4, _ => exact tyX4_ok
  | 5, _ => exact tyX5_ok
  | 6, _ => exact tyX6_ok
  | 7, _ => exact tyX7_ok
  | 8, _ => exact tyX8_ok
  | 9, _ => exact tyX9_ok
  | 10, _ => exact tyX10_ok
  | 11, _ => exact tyX11_ok
  | 12, _ => exact tyX12_ok
  | n + 13, h => exact absurd h (by omega)
theorem ax_hnm {ci : Nat} (h : ci < 13) : ∀ a, a < ax_nf ci → ∀ b, b < ax_nf ci → a ≠ b → (ax_T ci a).2.1 ≠ (ax_T ci b).2.1 := by
  match ci, h with
  | 0, _ => exact nmX0
  | 1, _ => exact nmX1
  | 2, _ => exact nmX2
  | 3, _ => exact nmX3
  | 4, _ => exact nmX4
  | 5, _ => exact nmX5
  | 6, _ => exact nmX6
  | 7, _ => exact nmX7
  | 8, _ => exact nmX8
  | 9, _ => exact nmX9
  | 10, _ => exact nmX10
  | 11, _ => exact nmX11
  | 12, _ => exact nmX12
  | n + 13, h => exact absurd h (by omega)
theorem ax_flink {o i ci j : Nat} (h : ax_F o i = some (ci, j)) : Cond.fieldLink (ax_ow o) i (ax_T ci j).1 (ax_T ci j).2.1 (ax_T ci j).2.2.1 ∈ ax_tt ∧ ci < 13 := by
  unfold ax_F at h
  obtain ⟨e, he, h2⟩ := Option.map_eq_some_iff.mp h
  have hm := List.mem_of_find?_eq_some he
  have hp := List.find?_some he
  simp only [Bool.and_eq_true, beq_iff_eq] at hp
  have h1 := List.all_eq_true.mp ax_Fl_ok e hm
  simp only [Bool.and_eq_true, decide_eq_true_eq] at h1
  obtain ⟨a1, a2, a3, a4, a5⟩ := e
  cases h2
  obtain ⟨rfl, rfl⟩ := hp
  exact ⟨ax_tti (ax_lw h1.1) rfl, h1.2⟩
theorem ax_cd_get {L : ax_L} {a : Int} {q : Nat} (h : ax_cd L a = q) (hq : q ≠ 999) : 0 ≤ a ∧ ((a.toNat : Nat) : Int) = a ∧ ∃ (n : Nat) (refs : List Int), L[a.toNat]? = some (q, n, refs) ∧ ax_ln L a = (n : Int) ∧ ∀ j : Int, ax_rf L a j = refs.getD j.toNat (-1) := by
  unfold ax_cd ax_at at h
  by_cases h0 : a < 0
  · rw [if_pos h0] at h; exact absurd h.symm hq
  · rw [if_neg h0] at h
    cases hc : L[a.toNat]? with
    | none => rw [hc] at h; exact absurd h.symm hq
    | some z =>
      rw [hc] at h
      obtain ⟨z1, z2, z3⟩ := z
      cases h
      refine ⟨by omega, by omega, z2, z3, rfl, ?_, fun j => ?_⟩
      · unfold ax_ln ax_at; rw [if_neg h0, hc]
      · unfold ax_rf ax_at; rw [if_neg h0, hc]
theorem ax_E_obj {ad : Int → Nat} {tys : List (ClassId × FieldType)} {ci n : Nat} {refs : List Int} {hk : Int → Int} {E : va_E} (h : ax_E ad tys (ci, n, refs) hk E) (hc : ci < 13) : n = ax_nf ci ∧ refs.length = ax_nf ci ∧ (∀ j, ax_r32 (hk j)) ∧ E = .inr (ci, (List.range (ax_nf ci)).map (ax_fv ad ci refs hk)) := by
  rcases h.2 with h | ⟨ty, cA, t0, h, -⟩ | ⟨h, -⟩ | ⟨ty, cA, t0, h, -⟩
  · obtain ⟨-, h2, h3, h4, h5⟩ := h
    have h2 : n = ax_nf ci := h2
    subst h2
    exact ⟨rfl, h3, h4, h5⟩
  · unfold ax_ity at h
    rw [if_neg (by show ¬ ci = 100; omega), if_neg (by show ¬ ci = 102; omega), if_neg (by show ¬ ci = 103; omega)] at h
    cases h
  · have h : ci = 101 := h
    omega
  · unfold ax_rty at h
    rw [if_neg (by show ¬ ci = 110; omega), if_neg (by show ¬ ci = 111; omega), if_neg (by show ¬ ci = 112; omega)] at h
    cases h
theorem ax_E_int {ad : Int → Nat} {tys : List (ClassId × FieldType)} {q n : Nat} {refs : List Int} {hk : Int → Int} {E : va_E} (h : ax_E ad tys (q, n, refs) hk E) {ty : FieldType} (hc : ax_ity q = some ty) : ∃ (cA : ClassId) (t0 : Nat), tys[t0]? = some (cA, ty) ∧ (∀ j, ax_r32 (hk j)) ∧ E = .inl (cA, n, .inl fun j => Int32.ofInt (hk j)) := by
  have hq : q = 100 ∨ q = 102 ∨ q = 103 := by
    unfold ax_ity at hc
    split at hc
    · exact Or.inl (by assumption)
    · split at hc
      · exact Or.inr (Or.inl (by assumption))
      · split at hc
        · exact Or.inr (Or.inr (by assumption))
        · cases hc
  rcases h.2 with h | ⟨ty', cA, t0, h, h2⟩ | ⟨h, -⟩ | ⟨ty', cA, t0, h, -⟩
  · have h1 : q < 13 := h.1
    omega
  · have h : ax_ity q = some ty' := h
    rw [hc] at h
    cases h
    exact ⟨cA, t0, h2⟩
  · have h1 : q = 101 := h
    omega
  · unfold ax_rty at h
    rw [if_neg (by show ¬ q = 110; omega), if_neg (by show ¬ q = 111; omega), if_neg (by show ¬ q = 112; omega)] at h
    cases h
theorem ax_E_long {ad : Int → Nat} {tys : List (ClassId × FieldType)} {n : Nat} {refs : List Int} {hk : Int → Int} {E : va_E} (h : ax_E ad tys (101, n, refs) hk E) : ∃ (cA : ClassId) (t0 : Nat), tys[t0]? = some (cA, .long) ∧ (∀ j, ax_r64 (hk j)) ∧ E = .inl (cA, n, .inr (.inl fun j => Int64.ofInt (hk j))) := by
  rcases h.2 with h | ⟨ty', cA, t0, h, h2⟩ | ⟨-, h⟩ | ⟨ty', cA, t0, h, -⟩
  · have h1 : (101 : Nat) < 13 := h.1
    omega
  · cases h
  · exact h
  · cases h
theorem ax_E_ref {ad : Int → Nat} {tys : List (ClassId × FieldType)} {q n : Nat} {refs : List Int} {hk : Int → Int} {E : va_E} (h : ax_E ad tys (q, n, refs) hk E) {ty : FieldType} (hc : ax_rty q = some ty) : ∃ (cA : ClassId) (t0 : Nat), tys[t0]? = some (cA, ty) ∧ refs.length = n ∧ E = .inl (cA, n, .inr (.inr (.inr (.inr (fun j => ax_ro ad (refs.getD j (-1))))))) := by
  have hq : q = 110 ∨ q = 111 ∨ q = 112 := by
    unfold ax_rty at hc
    split at hc
    · exact Or.inl (by assumption)
    · split at hc
      · exact Or.inr (Or.inl (by assumption))
      · split at hc
        · exact Or.inr (Or.inr (by assumption))
        · cases hc
  rcases h.2 with h | ⟨ty', cA, t0, h, h2⟩ | ⟨h, -⟩ | ⟨ty', cA, t0, h, h2⟩
  · have h1 : q < 13 := h.1
    omega
  · unfold ax_ity at h
    rw [if_neg (by show ¬ q = 100; omega), if_neg (by show ¬ q = 102; omega), if_neg (by show ¬ q = 103; omega)] at h
    cases h
  · have h1 : q = 101 := h
    omega
  · have h : ax_rty q = some ty' := h
    rw [hc] at h
    cases h
    exact ⟨cA, t0, h2⟩
theorem ax_up_ne {h : Int → Int → Int} {a j v k : Int} (hk : k ≠ a) : ax_up h a j v k = h k := by
  funext i; unfold ax_up; rw [if_neg (fun q => hk q.1)]
/-- one cell of the heap is another now -/
theorem ax_HR_upd {D : va_G} {base : Nat} {ad : Int → Nat} {s : State} {L L' : ax_L} {h h' : Int → Int → Int} {H1 : Heap} {ent : Nat → va_E} {tys : List (ClassId × FieldType)} {k : Nat} {E' : va_E} (hK : va_K D vwCl tys s)
    (hE : ∀ (k : Nat) (q : Nat × Nat × List Int), L[k]? = some q → ax_E ad tys q (h k) (ent k)) (hk : k < L.length) (hl : L'.length = L.length) (ho : ∀ k' : Nat, k' ≠ k → L'[k']? = L[k']? ∧ h' k' = h k')
    (hE' : ∀ q, L'[k]? = some q → ax_E ad tys q (h' k) E') (hP : va_P D vwCl ((ax_ws base L.length ent).set k (base + k, E')) H1) : ax_HR D base ad s L' h' H1 := by
  rw [ax_ws_set hk, ← hl] at hP
  refine ⟨va_up ent k E', tys, hP, hK, fun k' q hq => ?_⟩
  by_cases e : k' = k
  · subst e
    have : va_up ent k' E' k' = E' := by simp [va_up]
    rw [this]
    exact hE' q hq
  · have : va_up ent k E' k' = ent k' := by simp [va_up, e]
    rw [this, (ho k' e).2]
    exact hE k' q (by rw [← (ho k' e).1]; exact hq)
section AXB
variable {p : Program} {l : Launch} {e : Env} {R : Room} {s : State} {mi : MethodId} {args : Array Value} {below : List Frame} {meth : Method} {c : Code} {Q : State → Prop} {cc : ByteArray} {D : va_G} {base : Nat} {ad : Int → Nat} {nL n0 s0 : Nat}
theorem ax_tvr (had : ∀ i : Int, 0 ≤ i → ad i = base + i.toNat) {a : Int} (h : 0 ≤ a) : ax_tv ad (2, a) = .ref (base + a.toNat) := by
  show va_rf (ax_ro ad a) = _
  unfold ax_ro
  rw [if_neg (by omega), had a h]
  rfl
theorem as_getI (hx : p.tables.exec = Jvm.exec) (hb : c.code = cc) (hts : ∀ w ∈ ax_tt, w.before args s = true) (had : ∀ i : Int, 0 ≤ i → ad i = base + i.toNat) {o idx ci j : Nat} (hown : s.vm.findClass (ax_ow o) = some mi.cls) (hF : ax_F o idx = some (ci, j)) (hj : j < ax_nf ci) (hfk : ax_fk (ax_ty ci j) ≠ 2)
    {pc : Nat} {ls r : List ax_V} {H : ax_H} {a : Int} (hcd : ax_cd H.1 a = ci) (hd : decode cc pc = .ok (.getfield idx, 3)) (kk : ax_G p l e R s mi args below meth c Q D base ad nL n0 s0 (pc + 3) ls ((0, H.2 a j) :: r) H) : ax_G p l e R s mi args below meth c Q D base ad nL n0 s0 pc ls ((2, a) :: r) H := by
  intro lsM Hp locs cells slots hr
  obtain ⟨hl, hci⟩ := ax_flink hF
  obtain ⟨h0, h1, n, refs, h2, -, -⟩ := ax_cd_get hcd (by omega)
  obtain ⟨ent, tys, hP, hK, hE⟩ := hr.2.2.1
  have hlt : a.toNat < H.1.length := (List.getElem?_eq_some_iff.mp h2).1
  obtain ⟨-, -, b3, b4⟩ := ax_E_obj (hE _ _ h2) hci
  rw [h1] at b3 b4
  have K := kk lsM Hp locs cells slots (hr.stk (ax_okc (ax_oki (b3 j)) (ax_okt hr.2.1)))
  have he : (ax_ws base H.1.length ent)[a.toNat]? = some (base + a.toNat, .inr (ci, (List.range (ax_nf ci)).map (ax_fv ad ci refs (H.2 a)))) := by rw [ax_ws_get hlt, b4]
  show W p l e R s mi args below meth c Hp locs cells slots Q (F0 mi pc lsM (ax_tv ad (2, a) :: r.map (ax_tv ad)))
  rw [ax_tvr had h0]
  refine va_get hx hb hts (ax_hin hci) hown hK hP a.toNat he (ax_vw hci) j hj (hts _ hl) (fun _ h => h) (v := .int (Int32.ofInt (H.2 a j))) ?_ hd K
  rw [List.getElem?_map, List.getElem?_range hj]
  simp [ax_fv, hfk]
theorem as_getR (hx : p.tables.exec = Jvm.exec) (hb : c.code = cc) (hts : ∀ w ∈ ax_tt, w.before args s = true) (had : ∀ i : Int, 0 ≤ i → ad i = base + i.toNat) {o idx ci j : Nat} (hown : s.vm.findClass (ax_ow o) = some mi.cls) (hF : ax_F o idx = some (ci, j)) (hj : j < ax_nf ci) (hfk : ax_fk (ax_ty ci j) = 2)
    {pc : Nat} {ls r : List ax_V} {H : ax_H} {a : Int} (hcd : ax_cd H.1 a = ci) (hd : decode cc pc = .ok (.getfield idx, 3)) (kk : ax_G p l e R s mi args below meth c Q D base ad nL n0 s0 (pc + 3) ls ((2, ax_rf H.1 a j) :: r) H) : ax_G p l e R s mi args below meth c Q D base ad nL n0 s0 pc ls ((2, a) :: r) H := by
  intro lsM Hp locs cells slots hr
  obtain ⟨hl, hci⟩ := ax_flink hF
  obtain ⟨h0, h1, n, refs, h2, -, h3⟩ := ax_cd_get hcd (by omega)
  obtain ⟨ent, tys, hP, hK, hE⟩ := hr.2.2.1
  have hlt : a.toNat < H.1.length := (List.getElem?_eq_some_iff.mp h2).1
  obtain ⟨-, -, b3, b4⟩ := ax_E_obj (hE _ _ h2) hci
  rw [h1] at b3 b4
  have K := kk lsM Hp locs cells slots (hr.stk (ax_okc (ax_okr _) (ax_okt hr.2.1)))
  have he : (ax_ws base H.1.length ent)[a.toNat]? = some (base + a.toNat, .inr (ci, (List.range (ax_nf ci)).map (ax_fv ad ci refs (H.2 a)))) := by rw [ax_ws_get hlt, b4]
  show W p l e R s mi args below meth c Hp locs cells slots Q (F0 mi pc lsM (ax_tv ad (2, a) :: r.map (ax_tv ad)))
  rw [ax_tvr had h0]
  refine va_get hx hb hts (ax_hin hci) hown hK hP a.toNat he (ax_vw hci) j hj (hts _ hl) (fun _ h => h) (v := va_rf (ax_ro ad (ax_rf H.1 a j))) ?_ hd K
  rw [List.getElem?_map, List.getElem?_range hj, h3]
  simp [ax_fv, hfk]
end AXB
