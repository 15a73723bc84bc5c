/-! ARRAYS THAT ARE MADE, arraycopy, Math, Object.<init>, lookupswitch, Strings; written by wip/whole/gen_make2.py -/
set_option maxRecDepth 100000 in
theorem ax_ac_int : Cond.arrayClass .int ∈ ax_tt := ax_tti (List.mem_of_getElem? (i := 180) (by rfl)) rfl
set_option maxRecDepth 100000 in
theorem ax_ac_long : Cond.arrayClass .long ∈ ax_tt := ax_tti (List.mem_of_getElem? (i := 300) (by rfl)) rfl
set_option maxRecDepth 100000 in
theorem ax_ac_boolean : Cond.arrayClass .boolean ∈ ax_tt := ax_tti (List.mem_of_getElem? (i := 449) (by rfl)) rfl
set_option maxRecDepth 100000 in
theorem ax_ac_byte : Cond.arrayClass .byte ∈ ax_tt := ax_tti (List.mem_of_getElem? (i := 681) (by rfl)) rfl
set_option maxRecDepth 100000 in
theorem ax_wd_s_min : Cond.static Lib.Math.min.name ∈ ax_tt := ax_tti (List.mem_of_getElem? (i := 793) (by rfl)) rfl
set_option maxRecDepth 100000 in
theorem ax_wd_c_min : Cond.code Lib.Math.min.name Lib.Math.min.code 2 (some .int) ∈ ax_tt := ax_tti (List.mem_of_getElem? (i := 794) (by decide +kernel)) rfl
set_option maxRecDepth 100000 in
theorem ax_wd_s_max : Cond.static Lib.Math.max.name ∈ ax_tt := ax_tti (List.mem_of_getElem? (i := 854) (by rfl)) rfl
set_option maxRecDepth 100000 in
theorem ax_wd_c_max : Cond.code Lib.Math.max.name Lib.Math.max.code 2 (some .int) ∈ ax_tt := ax_tti (List.mem_of_getElem? (i := 855) (by decide +kernel)) rfl
set_option maxRecDepth 100000 in
theorem ax_wd_s_minl : Cond.static Lib.MathLoose.min_long.x ∈ ax_tt := ax_tti (List.mem_of_getElem? (i := 835) (by rfl)) rfl
set_option maxRecDepth 100000 in
theorem ax_wd_c_minl : Cond.code Lib.MathLoose.min_long.x Lib.MathLoose.min_long.code 4 (some .long) ∈ ax_tt := ax_tti (List.mem_of_getElem? (i := 836) (by decide +kernel)) rfl
set_option maxRecDepth 100000 in
theorem ax_wd_s_maxl : Cond.static Lib.MathLoose.max_long.x ∈ ax_tt := ax_tti (List.mem_of_getElem? (i := 838) (by rfl)) rfl
set_option maxRecDepth 100000 in
theorem ax_wd_c_maxl : Cond.code Lib.MathLoose.max_long.x Lib.MathLoose.max_long.code 4 (some .long) ∈ ax_tt := ax_tti (List.mem_of_getElem? (i := 839) (by decide +kernel)) rfl
set_option maxRecDepth 100000 in
theorem ax_wd_i_math : Cond.initialized "java/lang/Math" ∈ ax_tt := ax_tti (List.mem_of_getElem? (i := 135) (by rfl)) rfl
set_option maxRecDepth 100000 in
theorem ax_wd_i_sys : Cond.initialized "java/lang/System" ∈ ax_tt := ax_tti (List.mem_of_getElem? (i := 134) (by rfl)) rfl
set_option maxRecDepth 100000 in
theorem ax_wd_n_copy : Cond.native arraycopyName ∈ ax_tt := ax_tti (List.mem_of_getElem? (i := 680) (by decide +kernel)) rfl
set_option maxRecDepth 100000 in
theorem ax_wd_s_copy : Cond.static arraycopyName ∈ ax_tt := ax_tti (List.mem_of_getElem? (i := 679) (by decide +kernel)) rfl
set_option maxRecDepth 100000 in
theorem ax_wd_im_obj : Cond.instanceMethod objectInit ∈ ax_tt := ax_tti (List.mem_of_getElem? (i := 143) (by decide +kernel)) rfl
set_option maxRecDepth 100000 in
theorem ax_wd_c_obj : Cond.code objectInit ⟨#[0xb1]⟩ 1 none ∈ ax_tt := ax_tti (List.mem_of_getElem? (i := 144) (by decide +kernel)) rfl
set_option maxRecDepth 100000 in
theorem ax_wd_cl_mna : Cond.classLink "RingKiln$RuleBook" 9 ("[" ++ (FieldType.array .int).toString) ∈ ax_tt := ax_tti (List.mem_of_getElem? (i := 281) (by decide +kernel)) rfl
theorem ax_xlink {o i x : Nat} (h : ax_X o i = some x) : Cond.methodLink (ax_ow o) i (ax_xn x) ∈ ax_tt := by
  unfold ax_X at h
  obtain ⟨e, he, h2⟩ := Option.map_eq_some_iff.mp h
  have hm := List.mem_of_find?_eq_some he
  have hp := List.find?_some he
  simp only [Bool.and_eq_true, beq_iff_eq] at hp
  have h1 := List.all_eq_true.mp ax_Xl_ok e hm
  obtain ⟨a1, a2, a3, a4⟩ := e
  cases h2
  obtain ⟨rfl, rfl⟩ := hp
  exact ax_tti (ax_lw h1) rfl
theorem ax_cats (ad : Int → Nat) : ∀ (r : List ax_V), ((r.map (ax_tv ad)).map fun v => v.category).sum ≤ 2 * r.length
  | [] => by simp
  | v :: r => by
    have := ax_cats ad r
    have := ax_tv_cat2 ad v
    simp only [List.map_cons, List.sum_cons, List.length_cons]
    omega
section AXE
variable {p : Program} {l : Launch} {e : Env} {R : Room} {s : State} {mi : MethodId} {args : Array Value} {below : List Frame} {meth : Method} {c : Code} {Q : State → Prop} {cc : ByteArray} {D : va_G} {base : Nat} {ad : Int → Nat} {nL n0 s0 : Nat}
theorem as_newa_int (hx : p.tables.exec = Jvm.exec) (hb : c.code = cc) (hts : ∀ w ∈ ax_tt, w.before args s = true) (had : ∀ i : Int, 0 ≤ i → ad i = base + i.toNat) (hsz : s.heap.size = base + n0) {pc : Nat} {ls r : List ax_V} {H : ax_H} {n : Int} (hn0 : 0 ≤ n) (hn1 : n ≤ 60000) (hd : decode cc pc = .ok (.newarray .int, 2)) (hr1 : H.1.length + 1 ≤ n0 + R.cells) (hr2 : ax_sl H.1 + n.toNat ≤ s0 + R.slots)
    (kk : ax_G p l e R s mi args below meth c Q D base ad nL n0 s0 (pc + 2) ls ((2, (H.1.length : Int)) :: r) (H.1 ++ [(100, n.toNat, [])], ax_zr H.2 H.1.length)) : ax_G p l e R s mi args below meth c Q D base ad nL n0 s0 pc ls ((0, n) :: r) H := by
  intro lsM Hp locs cells slots hr
  obtain ⟨ent, tys, hP, hK, hE⟩ := hr.2.2.1
  have hS := hr.2.2.2.1
  have hl := hr.2.2.2.2.1
  have hsl := hr.2.2.2.2.2
  have hnr := ax_ok0 (ax_okh hr.2.1)
  refine va_newa (atype := .int) hx hb (hts _ ax_ac_int) (ty := .int) rfl hK hP (ax_ws_D base _ ent) hS (fun q h => by show base ≤ q; omega) (n := Int32.ofInt n) (N' := n.toNat) (a0 := (n.toNat, .inl fun _ => 0)) (fun _ => rfl) (fun q => by have := (ax_lt0 hnr).mp q; omega) (ax_nc hn0 hnr) (by show n.toNat * 4 ≤ _; omega) (by omega) (by omega) hd (fun q cA H1 hK1 hP1 hD1 hS1 => ?_)
  refine ax_size (fun hz => ?_)
  have hq := ax_fresh hD1 hP1 (by omega)
  subst hq
  have K := kk lsM H1 locs (cells + 1) (slots + n.toNat) ⟨hr.1, ax_okc (ax_okr _) (ax_okt hr.2.1), ?_, hS1, by simp; omega, by show ax_sl (H.1 ++ [_]) = _; rw [ax_sl_app]; show ax_sl H.1 + n.toNat = _; omega⟩
  · rw [List.map_cons, ax_tvr had (by omega)] at K
    exact K
  · exact ax_HR_new hK1 hE ⟨by show n.toNat ≤ 60000; omega, Or.inr (Or.inl ⟨.int, cA, tys.length, rfl, by simp, fun _ => ax_r32_0, rfl⟩)⟩ hP1
theorem as_newa_byte (hx : p.tables.exec = Jvm.exec) (hb : c.code = cc) (hts : ∀ w ∈ ax_tt, w.before args s = true) (had : ∀ i : Int, 0 ≤ i → ad i = base + i.toNat) (hsz : s.heap.size = base + n0) {pc : Nat} {ls r : List ax_V} {H : ax_H} {n : Int} (hn0 : 0 ≤ n) (hn1 : n ≤ 60000) (hd : decode cc pc = .ok (.newarray .byte, 2)) (hr1 : H.1.length + 1 ≤ n0 + R.cells) (hr2 : ax_sl H.1 + n.toNat ≤ s0 + R.slots)
    (kk : ax_G p l e R s mi args below meth c Q D base ad nL n0 s0 (pc + 2) ls ((2, (H.1.length : Int)) :: r) (H.1 ++ [(102, n.toNat, [])], ax_zr H.2 H.1.length)) : ax_G p l e R s mi args below meth c Q D base ad nL n0 s0 pc ls ((0, n) :: r) H := by
  intro lsM Hp locs cells slots hr
  obtain ⟨ent, tys, hP, hK, hE⟩ := hr.2.2.1
  have hS := hr.2.2.2.1
  have hl := hr.2.2.2.2.1
  have hsl := hr.2.2.2.2.2
  have hnr := ax_ok0 (ax_okh hr.2.1)
  refine va_newa (atype := .byte) hx hb (hts _ ax_ac_byte) (ty := .byte) rfl hK hP (ax_ws_D base _ ent) hS (fun q h => by show base ≤ q; omega) (n := Int32.ofInt n) (N' := n.toNat) (a0 := (n.toNat, .inl fun _ => 0)) (fun _ => rfl) (fun q => by have := (ax_lt0 hnr).mp q; omega) (ax_nc hn0 hnr) (by show n.toNat * 1 ≤ _; omega) (by omega) (by omega) hd (fun q cA H1 hK1 hP1 hD1 hS1 => ?_)
  refine ax_size (fun hz => ?_)
  have hq := ax_fresh hD1 hP1 (by omega)
  subst hq
  have K := kk lsM H1 locs (cells + 1) (slots + n.toNat) ⟨hr.1, ax_okc (ax_okr _) (ax_okt hr.2.1), ?_, hS1, by simp; omega, by show ax_sl (H.1 ++ [_]) = _; rw [ax_sl_app]; show ax_sl H.1 + n.toNat = _; omega⟩
  · rw [List.map_cons, ax_tvr had (by omega)] at K
    exact K
  · exact ax_HR_new hK1 hE ⟨by show n.toNat ≤ 60000; omega, Or.inr (Or.inl ⟨.byte, cA, tys.length, rfl, by simp, fun _ => ax_r32_0, rfl⟩)⟩ hP1
theorem as_newa_boolean (hx : p.tables.exec = Jvm.exec) (hb : c.code = cc) (hts : ∀ w ∈ ax_tt, w.before args s = true) (had : ∀ i : Int, 0 ≤ i → ad i = base + i.toNat) (hsz : s.heap.size = base + n0) {pc : Nat} {ls r : List ax_V} {H : ax_H} {n : Int} (hn0 : 0 ≤ n) (hn1 : n ≤ 60000) (hd : decode cc pc = .ok (.newarray .boolean, 2)) (hr1 : H.1.length + 1 ≤ n0 + R.cells) (hr2 : ax_sl H.1 + n.toNat ≤ s0 + R.slots)
    (kk : ax_G p l e R s mi args below meth c Q D base ad nL n0 s0 (pc + 2) ls ((2, (H.1.length : Int)) :: r) (H.1 ++ [(103, n.toNat, [])], ax_zr H.2 H.1.length)) : ax_G p l e R s mi args below meth c Q D base ad nL n0 s0 pc ls ((0, n) :: r) H := by
  intro lsM Hp locs cells slots hr
  obtain ⟨ent, tys, hP, hK, hE⟩ := hr.2.2.1
  have hS := hr.2.2.2.1
  have hl := hr.2.2.2.2.1
  have hsl := hr.2.2.2.2.2
  have hnr := ax_ok0 (ax_okh hr.2.1)
  refine va_newa (atype := .boolean) hx hb (hts _ ax_ac_boolean) (ty := .boolean) rfl hK hP (ax_ws_D base _ ent) hS (fun q h => by show base ≤ q; omega) (n := Int32.ofInt n) (N' := n.toNat) (a0 := (n.toNat, .inl fun _ => 0)) (fun _ => rfl) (fun q => by have := (ax_lt0 hnr).mp q; omega) (ax_nc hn0 hnr) (by show n.toNat * 1 ≤ _; omega) (by omega) (by omega) hd (fun q cA H1 hK1 hP1 hD1 hS1 => ?_)
  refine ax_size (fun hz => ?_)
  have hq := ax_fresh hD1 hP1 (by omega)
  subst hq
  have K := kk lsM H1 locs (cells + 1) (slots + n.toNat) ⟨hr.1, ax_okc (ax_okr _) (ax_okt hr.2.1), ?_, hS1, by simp; omega, by show ax_sl (H.1 ++ [_]) = _; rw [ax_sl_app]; show ax_sl H.1 + n.toNat = _; omega⟩
  · rw [List.map_cons, ax_tvr had (by omega)] at K
    exact K
  · exact ax_HR_new hK1 hE ⟨by show n.toNat ≤ 60000; omega, Or.inr (Or.inl ⟨.boolean, cA, tys.length, rfl, by simp, fun _ => ax_r32_0, rfl⟩)⟩ hP1
theorem as_newa_long (hx : p.tables.exec = Jvm.exec) (hb : c.code = cc) (hts : ∀ w ∈ ax_tt, w.before args s = true) (had : ∀ i : Int, 0 ≤ i → ad i = base + i.toNat) (hsz : s.heap.size = base + n0) {pc : Nat} {ls r : List ax_V} {H : ax_H} {n : Int} (hn0 : 0 ≤ n) (hn1 : n ≤ 60000) (hd : decode cc pc = .ok (.newarray .long, 2)) (hr1 : H.1.length + 1 ≤ n0 + R.cells) (hr2 : ax_sl H.1 + n.toNat ≤ s0 + R.slots)
    (kk : ax_G p l e R s mi args below meth c Q D base ad nL n0 s0 (pc + 2) ls ((2, (H.1.length : Int)) :: r) (H.1 ++ [(101, n.toNat, [])], ax_zr H.2 H.1.length)) : ax_G p l e R s mi args below meth c Q D base ad nL n0 s0 pc ls ((0, n) :: r) H := by
  intro lsM Hp locs cells slots hr
  obtain ⟨ent, tys, hP, hK, hE⟩ := hr.2.2.1
  have hS := hr.2.2.2.1
  have hl := hr.2.2.2.2.1
  have hsl := hr.2.2.2.2.2
  have hnr := ax_ok0 (ax_okh hr.2.1)
  refine va_newa (atype := .long) hx hb (hts _ ax_ac_long) (ty := .long) rfl hK hP (ax_ws_D base _ ent) hS (fun q h => by show base ≤ q; omega) (n := Int32.ofInt n) (N' := n.toNat) (a0 := (n.toNat, .inr (.inl fun _ => 0))) (fun _ => rfl) (fun q => by have := (ax_lt0 hnr).mp q; omega) (ax_nc hn0 hnr) (by show n.toNat * 8 ≤ _; omega) (by omega) (by omega) hd (fun q cA H1 hK1 hP1 hD1 hS1 => ?_)
  refine ax_size (fun hz => ?_)
  have hq := ax_fresh hD1 hP1 (by omega)
  subst hq
  have K := kk lsM H1 locs (cells + 1) (slots + n.toNat) ⟨hr.1, ax_okc (ax_okr _) (ax_okt hr.2.1), ?_, hS1, by simp; omega, by show ax_sl (H.1 ++ [_]) = _; rw [ax_sl_app]; show ax_sl H.1 + n.toNat = _; omega⟩
  · rw [List.map_cons, ax_tvr had (by omega)] at K
    exact K
  · exact ax_HR_new hK1 hE ⟨by show n.toNat ≤ 60000; omega, Or.inr (Or.inr (Or.inl ⟨rfl, cA, tys.length, by simp, fun _ => (by show ax_r64 0; unfold ax_r64; omega), rfl⟩))⟩ hP1
theorem as_newq7 (hx : p.tables.exec = Jvm.exec) (hb : c.code = cc) (hts : ∀ w ∈ ax_tt, w.before args s = true) (had : ∀ i : Int, 0 ≤ i → ad i = base + i.toNat) (hsz : s.heap.size = base + n0) (hao : va_AO RX7 s) {o idx : Nat} (hown : s.vm.findClass (ax_ow o) = some mi.cls) (hN : ax_N o idx = some 7) {pc : Nat} {ls r : List ax_V} {H : ax_H} {n : Int} (hn0 : 0 ≤ n) (hn1 : n ≤ 60000) (hd : decode cc pc = .ok (.anewarray idx, 3)) (hr1 : H.1.length + 1 ≤ n0 + R.cells) (hr2 : ax_sl H.1 + n.toNat ≤ s0 + R.slots)
    (kk : ax_G p l e R s mi args below meth c Q D base ad nL n0 s0 (pc + 3) ls ((2, (H.1.length : Int)) :: r) (H.1 ++ [(110, n.toNat, List.replicate n.toNat (-1))], ax_zr H.2 H.1.length)) : ax_G p l e R s mi args below meth c Q D base ad nL n0 s0 pc ls ((0, n) :: r) H := by
  intro lsM Hp locs cells slots hr
  obtain ⟨g1, -, -⟩ := ax_nlink hN
  obtain ⟨ent, tys, hP, hK, hE⟩ := hr.2.2.1
  have hS := hr.2.2.2.1
  have hl := hr.2.2.2.2.1
  have hsl := hr.2.2.2.2.2
  have hnr := ax_ok0 (ax_okh hr.2.1)
  refine va_newq (C := RX7) hx hb hown (hts _ g1) hao hK hP (ax_ws_D base _ ent) hS (fun q h => by show base ≤ q; omega) (n := Int32.ofInt n) (N' := n.toNat) (fun q => by have := (ax_lt0 hnr).mp q; omega) (ax_nc hn0 hnr) (by omega) (by omega) (by omega) hd (fun q cA H1 hK1 hP1 hD1 hS1 => ?_)
  refine ax_size (fun hz => ?_)
  have hq := ax_fresh hD1 hP1 (by omega)
  subst hq
  have K := kk lsM H1 locs (cells + 1) (slots + n.toNat) ⟨hr.1, ax_okc (ax_okr _) (ax_okt hr.2.1), ?_, hS1, by simp; omega, by show ax_sl (H.1 ++ [_]) = _; rw [ax_sl_app]; show ax_sl H.1 + n.toNat = _; omega⟩
  · rw [List.map_cons, ax_tvr had (by omega)] at K
    exact K
  · have hfn : (fun _ : Nat => (none : Option Nat)) = fun j : Nat => ax_ro ad ((List.replicate n.toNat (-1 : Int)).getD j (-1)) := by
      funext j
      have : (List.replicate n.toNat (-1 : Int)).getD j (-1) = -1 := by
        by_cases hj : j < n.toNat <;> simp [List.getD, List.getElem?_replicate, hj]
      rw [this]
      rfl
    exact ax_HR_new hK1 hE ⟨by show n.toNat ≤ 60000; omega, Or.inr (Or.inr (Or.inr ⟨.object RX7, cA, tys.length, rfl, by simp, by simp, by rw [← hfn]⟩))⟩ hP1
theorem as_newq10 (hx : p.tables.exec = Jvm.exec) (hb : c.code = cc) (hts : ∀ w ∈ ax_tt, w.before args s = true) (had : ∀ i : Int, 0 ≤ i → ad i = base + i.toNat) (hsz : s.heap.size = base + n0) (hao : va_AO RX10 s) {o idx : Nat} (hown : s.vm.findClass (ax_ow o) = some mi.cls) (hN : ax_N o idx = some 10) {pc : Nat} {ls r : List ax_V} {H : ax_H} {n : Int} (hn0 : 0 ≤ n) (hn1 : n ≤ 60000) (hd : decode cc pc = .ok (.anewarray idx, 3)) (hr1 : H.1.length + 1 ≤ n0 + R.cells) (hr2 : ax_sl H.1 + n.toNat ≤ s0 + R.slots)
    (kk : ax_G p l e R s mi args below meth c Q D base ad nL n0 s0 (pc + 3) ls ((2, (H.1.length : Int)) :: r) (H.1 ++ [(111, n.toNat, List.replicate n.toNat (-1))], ax_zr H.2 H.1.length)) : ax_G p l e R s mi args below meth c Q D base ad nL n0 s0 pc ls ((0, n) :: r) H := by
  intro lsM Hp locs cells slots hr
  obtain ⟨g1, -, -⟩ := ax_nlink hN
  obtain ⟨ent, tys, hP, hK, hE⟩ := hr.2.2.1
  have hS := hr.2.2.2.1
  have hl := hr.2.2.2.2.1
  have hsl := hr.2.2.2.2.2
  have hnr := ax_ok0 (ax_okh hr.2.1)
  refine va_newq (C := RX10) hx hb hown (hts _ g1) hao hK hP (ax_ws_D base _ ent) hS (fun q h => by show base ≤ q; omega) (n := Int32.ofInt n) (N' := n.toNat) (fun q => by have := (ax_lt0 hnr).mp q; omega) (ax_nc hn0 hnr) (by omega) (by omega) (by omega) hd (fun q cA H1 hK1 hP1 hD1 hS1 => ?_)
  refine ax_size (fun hz => ?_)
  have hq := ax_fresh hD1 hP1 (by omega)
  subst hq
  have K := kk lsM H1 locs (cells + 1) (slots + n.toNat) ⟨hr.1, ax_okc (ax_okr _) (ax_okt hr.2.1), ?_, hS1, by simp; omega, by show ax_sl (H.1 ++ [_]) = _; rw [ax_sl_app]; show ax_sl H.1 + n.toNat = _; omega⟩
  · rw [List.map_cons, ax_tvr had (by omega)] at K
    exact K
  · have hfn : (fun _ : Nat => (none : Option Nat)) = fun j : Nat => ax_ro ad ((List.replicate n.toNat (-1 : Int)).getD j (-1)) := by
      funext j
      have : (List.replicate n.toNat (-1 : Int)).getD j (-1) = -1 := by
        by_cases hj : j < n.toNat <;> simp [List.getD, List.getElem?_replicate, hj]
      rw [this]
      rfl
    exact ax_HR_new hK1 hE ⟨by show n.toNat ≤ 60000; omega, Or.inr (Or.inr (Or.inr ⟨.object RX10, cA, tys.length, rfl, by simp, by simp, by rw [← hfn]⟩))⟩ hP1
theorem as_copy (hx : p.tables.exec = Jvm.exec) (hb : c.code = cc) (hts : ∀ w ∈ ax_tt, w.before args s = true) (had : ∀ i : Int, 0 ≤ i → ad i = base + i.toNat) (hml : c.maxLocals = nL) (hRf : 1 ≤ R.frames) (hRl : 200 ≤ R.locals) {o idx : Nat} (hown : s.vm.findClass (ax_ow o) = some mi.cls) (hX : ax_X o idx = some 4) {pc : Nat} {ls r : List ax_V} {H : ax_H} {n tp t sp q : Int} (hlen : r.length ≤ 1) (hcs : ax_cd H.1 q = 100) (hct : ax_cd H.1 t = 100) (h1 : 0 ≤ sp) (h2 : 0 ≤ tp) (h3 : 0 ≤ n) (h4 : sp + n ≤ ax_ln H.1 q) (h5 : tp + n ≤ ax_ln H.1 t) (hd : decode cc pc = .ok (.invokestatic idx, 3))
    (kk : ax_G p l e R s mi args below meth c Q D base ad nL n0 s0 (pc + 3) ls r (H.1, ax_cp H.2 q sp t tp n)) : ax_G p l e R s mi args below meth c Q D base ad nL n0 s0 pc ls ((0, n) :: (0, tp) :: (2, t) :: (0, sp) :: (2, q) :: r) H := by
  intro lsM Hp locs cells slots hr
  obtain ⟨q0, q1, qn, qrefs, q2, q3, -⟩ := ax_cd_get hcs (by omega)
  obtain ⟨t0, t1, tn, trefs, t2, t3, -⟩ := ax_cd_get hct (by omega)
  obtain ⟨ent, tys, hP, hK, hE⟩ := hr.2.2.1
  have hltq : q.toNat < H.1.length := (List.getElem?_eq_some_iff.mp q2).1
  have hltt : t.toNat < H.1.length := (List.getElem?_eq_some_iff.mp t2).1
  have hE1 := hE _ _ t2
  obtain ⟨cq, tq, bq1, bq2, bq3⟩ := ax_E_int (ty := .int) (hE _ _ q2) rfl
  obtain ⟨ct, tt, bt1, bt2, bt3⟩ := ax_E_int (ty := .int) hE1 rfl
  rw [q1] at bq2 bq3
  rw [t1] at bt2 bt3
  have heq := ax_ws_get (base := base) (ent := ent) hltq
  rw [bq3] at heq
  have het := ax_ws_get (base := base) (ent := ent) hltt
  rw [bt3] at het
  have rn := ax_ok0 (ax_okh hr.2.1)
  have rtp := ax_ok0 (ax_okh (ax_okt hr.2.1))
  have rsp := ax_ok0 (ax_okh (ax_okt (ax_okt (ax_okt hr.2.1))))
  have okr := ax_okt (ax_okt (ax_okt (ax_okt (ax_okt hr.2.1))))
  show W p l e R s mi args below meth c Hp locs cells slots Q (F0 mi pc lsM (.int (Int32.ofInt n) :: .int (Int32.ofInt tp) :: ax_tv ad (2, t) :: .int (Int32.ofInt sp) :: ax_tv ad (2, q) :: r.map (ax_tv ad)))
  rw [ax_tvr had q0, ax_tvr had t0]
  have e1 := ax_nc h1 rsp
  have e2 := ax_nc h2 rtp
  have e3 := ax_nc h3 rn
  have hcat := ax_cats ad r
  refine va_copyi hx hb (by rw [hml]; exact hr.1.1.symm) hown (hts _ (ax_xlink hX)) (hts _ ax_wd_n_copy) (hts _ ax_wd_s_copy) (hts _ ax_wd_i_sys) hK hP (ax_ws_D base _ ent) hr.2.2.2.1 q.toNat t.toNat tq tt heq het bq1 bt1 rfl (sp := Int32.ofInt sp) (dp := Int32.ofInt tp) (n := Int32.ofInt n)
    (fun z => by have := (ax_lt0 rsp).mp z; omega) (fun z => by have := (ax_lt0 rtp).mp z; omega) (fun z => by have := (ax_lt0 rn).mp z; omega) (by rw [e1, e3]; omega) (by rw [e2, e3]; omega) (fun _ _ => rfl) hRf (by show _ + (7 + 11) ≤ _; omega) hd (fun H1 locs1 hP1 _ hS1 => ?_)
  rw [e1, e2, e3] at hP1
  refine kk lsM H1 locs1 cells slots ⟨hr.1, okr, ?_, hS1, hr.2.2.2.2⟩
  refine ax_HR_upd hK hE hltt rfl (fun k' hk' => ⟨rfl, by funext j; show ax_cp H.2 q sp t tp n k' j = H.2 k' j; unfold ax_cp; rw [if_neg (by omega)]⟩) (fun z hz => ?_) hP1
  have hz : H.1[t.toNat]? = some z := hz
  rw [t2] at hz
  cases hz
  rw [t1]
  have hfn : va_cpy (fun j : Nat => Int32.ofInt (H.2 q j)) (fun j : Nat => Int32.ofInt (H.2 t j)) sp.toNat tp.toNat n.toNat = fun j : Nat => Int32.ofInt (ax_cp H.2 q sp t tp n t j) := by
    funext j
    unfold va_cpy ax_cp
    by_cases hj : tp.toNat ≤ j ∧ j < tp.toNat + n.toNat
    · have ej : ((sp.toNat + (j - tp.toNat) : Nat) : Int) = sp + ((j : Int) - tp) := by omega
      rw [if_pos hj, if_pos (by omega), ← ej]
    · rw [if_neg hj, if_neg (by omega)]
  refine ⟨hE1.1, Or.inr (Or.inl ⟨.int, ct, tt, rfl, bt1, fun j => ?_, by rw [← hfn]⟩)⟩
  show ax_r32 (ax_cp H.2 q sp t tp n t j)
  unfold ax_cp
  split
  · exact bq2 _
  · exact bt2 j
theorem as_min (hx : p.tables.exec = Jvm.exec) (hb : c.code = cc) (hts : ∀ w ∈ ax_tt, w.before args s = true) (hml : c.maxLocals = nL) (hRf : 1 ≤ R.frames) (hRl : 200 ≤ R.locals) {o idx : Nat} (hown : s.vm.findClass (ax_ow o) = some mi.cls) (hX : ax_X o idx = some 0) {pc : Nat} {ls r : List ax_V} {H : ax_H} {x y : Int} (hlen : r.length ≤ 4) (hrc : H.1.length ≤ n0 + R.cells) (hrs : ax_sl H.1 ≤ s0 + R.slots) (hd : decode cc pc = .ok (.invokestatic idx, 3))
    (kk : ax_G p l e R s mi args below meth c Q D base ad nL n0 s0 (pc + 3) ls ((0, if y < x then y else x) :: r) H) : ax_G p l e R s mi args below meth c Q D base ad nL n0 s0 pc ls ((0, y) :: (0, x) :: r) H := by
  intro lsM Hp locs cells slots hr
  have hY := ax_ok0 (ax_okh hr.2.1)
  have hXr := ax_ok0 (ax_okh (ax_okt hr.2.1))
  have hcat := ax_cats ad r
  have h1 := hr.2.2.2.2.1
  have h2 := hr.2.2.2.2.2
  refine va_mmin hx hb (by rw [hml]; exact hr.1.1.symm) hown (hts _ (ax_xlink hX)) (hts _ ax_wd_s_min) (hts _ ax_wd_i_math) (hts _ ax_wd_c_min) hRf (by omega) (by omega) (by omega) (x := Int32.ofInt x) (y := Int32.ofInt y) hd ?_
  have K := kk lsM Hp locs cells slots (hr.stk (ax_okc (by split <;> first | exact ax_oki hY | exact ax_oki hXr) (ax_okt (ax_okt hr.2.1))))
  by_cases h : y < x
  · rw [if_pos h] at K
    rw [if_pos ((ax_lt hY hXr).mpr h)]
    exact K
  · rw [if_neg h] at K
    rw [if_neg (fun z => h ((ax_lt hY hXr).mp z))]
    exact K
theorem as_max (hx : p.tables.exec = Jvm.exec) (hb : c.code = cc) (hts : ∀ w ∈ ax_tt, w.before args s = true) (hml : c.maxLocals = nL) (hRf : 1 ≤ R.frames) (hRl : 200 ≤ R.locals) {o idx : Nat} (hown : s.vm.findClass (ax_ow o) = some mi.cls) (hX : ax_X o idx = some 1) {pc : Nat} {ls r : List ax_V} {H : ax_H} {x y : Int} (hlen : r.length ≤ 4) (hrc : H.1.length ≤ n0 + R.cells) (hrs : ax_sl H.1 ≤ s0 + R.slots) (hd : decode cc pc = .ok (.invokestatic idx, 3))
    (kk : ax_G p l e R s mi args below meth c Q D base ad nL n0 s0 (pc + 3) ls ((0, if x < y then y else x) :: r) H) : ax_G p l e R s mi args below meth c Q D base ad nL n0 s0 pc ls ((0, y) :: (0, x) :: r) H := by
  intro lsM Hp locs cells slots hr
  have hY := ax_ok0 (ax_okh hr.2.1)
  have hXr := ax_ok0 (ax_okh (ax_okt hr.2.1))
  have hcat := ax_cats ad r
  have h1 := hr.2.2.2.2.1
  have h2 := hr.2.2.2.2.2
  refine va_mmax hx hb (by rw [hml]; exact hr.1.1.symm) hown (hts _ (ax_xlink hX)) (hts _ ax_wd_s_max) (hts _ ax_wd_i_math) (hts _ ax_wd_c_max) hRf (by omega) (by omega) (by omega) (x := Int32.ofInt x) (y := Int32.ofInt y) hd ?_
  have K := kk lsM Hp locs cells slots (hr.stk (ax_okc (by split <;> first | exact ax_oki hY | exact ax_oki hXr) (ax_okt (ax_okt hr.2.1))))
  by_cases h : x < y
  · rw [if_pos h] at K
    rw [if_pos ((ax_lt hXr hY).mpr h)]
    exact K
  · rw [if_neg h] at K
    rw [if_neg (fun z => h ((ax_lt hXr hY).mp z))]
    exact K
theorem as_minl (hx : p.tables.exec = Jvm.exec) (hb : c.code = cc) (hts : ∀ w ∈ ax_tt, w.before args s = true) (hml : c.maxLocals = nL) (hRf : 1 ≤ R.frames) (hRl : 200 ≤ R.locals) {o idx : Nat} (hown : s.vm.findClass (ax_ow o) = some mi.cls) (hX : ax_X o idx = some 2) {pc : Nat} {ls r : List ax_V} {H : ax_H} {x y : Int} (hlen : r.length ≤ 4) (hrc : H.1.length ≤ n0 + R.cells) (hrs : ax_sl H.1 ≤ s0 + R.slots) (hd : decode cc pc = .ok (.invokestatic idx, 3))
    (kk : ax_G p l e R s mi args below meth c Q D base ad nL n0 s0 (pc + 3) ls ((1, if y < x then y else x) :: r) H) : ax_G p l e R s mi args below meth c Q D base ad nL n0 s0 pc ls ((1, y) :: (1, x) :: r) H := by
  intro lsM Hp locs cells slots hr
  have hY := ax_ok1 (ax_okh hr.2.1)
  have hXr := ax_ok1 (ax_okh (ax_okt hr.2.1))
  have hcat := ax_cats ad r
  have h1 := hr.2.2.2.2.1
  have h2 := hr.2.2.2.2.2
  refine va_mmin_long hx hb (by rw [hml]; exact hr.1.1.symm) hown (hts _ (ax_xlink hX)) (hts _ ax_wd_s_minl) (hts _ ax_wd_i_math) (hts _ ax_wd_c_minl) hRf (by omega) (by omega) (by omega) (x := Int64.ofInt x) (y := Int64.ofInt y) hd ?_
  have K := kk lsM Hp locs cells slots (hr.stk (ax_okc (by split <;> first | exact ax_okl hY | exact ax_okl hXr) (ax_okt (ax_okt hr.2.1))))
  by_cases h : y < x
  · rw [if_pos h] at K
    rw [if_pos ((ax_ltl hY hXr).mpr h)]
    exact K
  · rw [if_neg h] at K
    rw [if_neg (fun z => h ((ax_ltl hY hXr).mp z))]
    exact K
theorem as_maxl (hx : p.tables.exec = Jvm.exec) (hb : c.code = cc) (hts : ∀ w ∈ ax_tt, w.before args s = true) (hml : c.maxLocals = nL) (hRf : 1 ≤ R.frames) (hRl : 200 ≤ R.locals) {o idx : Nat} (hown : s.vm.findClass (ax_ow o) = some mi.cls) (hX : ax_X o idx = some 3) {pc : Nat} {ls r : List ax_V} {H : ax_H} {x y : Int} (hlen : r.length ≤ 4) (hrc : H.1.length ≤ n0 + R.cells) (hrs : ax_sl H.1 ≤ s0 + R.slots) (hd : decode cc pc = .ok (.invokestatic idx, 3))
    (kk : ax_G p l e R s mi args below meth c Q D base ad nL n0 s0 (pc + 3) ls ((1, if x < y then y else x) :: r) H) : ax_G p l e R s mi args below meth c Q D base ad nL n0 s0 pc ls ((1, y) :: (1, x) :: r) H := by
  intro lsM Hp locs cells slots hr
  have hY := ax_ok1 (ax_okh hr.2.1)
  have hXr := ax_ok1 (ax_okh (ax_okt hr.2.1))
  have hcat := ax_cats ad r
  have h1 := hr.2.2.2.2.1
  have h2 := hr.2.2.2.2.2
  refine va_mmax_long hx hb (by rw [hml]; exact hr.1.1.symm) hown (hts _ (ax_xlink hX)) (hts _ ax_wd_s_maxl) (hts _ ax_wd_i_math) (hts _ ax_wd_c_maxl) hRf (by omega) (by omega) (by omega) (x := Int64.ofInt x) (y := Int64.ofInt y) hd ?_
  have K := kk lsM Hp locs cells slots (hr.stk (ax_okc (by split <;> first | exact ax_okl hY | exact ax_okl hXr) (ax_okt (ax_okt hr.2.1))))
  have e1 : (if Int64.ofInt y < Int64.ofInt x then Int64.ofInt x else Int64.ofInt y) = Int64.ofInt (if x < y then y else x) := by
    by_cases h : x < y
    · rw [if_pos h, if_neg (fun z => by have := (ax_ltl hY hXr).mp z; omega)]
    · rw [if_neg h]
      by_cases h2 : y < x
      · rw [if_pos ((ax_ltl hY hXr).mpr h2)]
      · rw [if_neg (fun z => h2 ((ax_ltl hY hXr).mp z)), show y = x by omega]
  rw [e1]
  exact K
theorem as_oinit (hx : p.tables.exec = Jvm.exec) (hb : c.code = cc) (hts : ∀ w ∈ ax_tt, w.before args s = true) (had : ∀ i : Int, 0 ≤ i → ad i = base + i.toNat) (hml : c.maxLocals = nL) (hRf : 1 ≤ R.frames) (hRl : 200 ≤ R.locals) {o idx : Nat} (hown : s.vm.findClass (ax_ow o) = some mi.cls) (hX : ax_X o idx = some 7) {pc : Nat} {ls r : List ax_V} {H : ax_H} {a : Int} (hlen : r.length ≤ 5) (ha : 0 ≤ a) (hd : decode cc pc = .ok (.invokespecial idx, 3))
    (kk : ax_G p l e R s mi args below meth c Q D base ad nL n0 s0 (pc + 3) ls r H) : ax_G p l e R s mi args below meth c Q D base ad nL n0 s0 pc ls ((2, a) :: r) H := by
  intro lsM Hp locs cells slots hr
  have hcat := ax_cats ad r
  show W p l e R s mi args below meth c Hp locs cells slots Q (F0 mi pc lsM (ax_tv ad (2, a) :: r.map (ax_tv ad)))
  rw [ax_tvr had ha]
  refine W.objInit hx hb hown (hts _ (ax_xlink hX)) (hts _ ax_wd_im_obj) (hts _ ax_wd_c_obj) rfl (by rw [hml]; exact hr.1.1) rfl hd hRf (by show 2 * 0 + _ + 12 ≤ _; omega) ?_
  exact kk lsM Hp locs cells slots (hr.stk (ax_okt hr.2.1))
theorem ax_lsw_ok {pc t : Nat} {dflt : Int} (ht : ax_tg pc dflt = some t) : ∀ (ps : List (Int × Int)) (ts : List Nat), ax_kts pc ps = some ts → ∀ x : Int, (pc : Int) + Op.lookupswitch.offset ps dflt x = (ax_lsw t ts x : Int)
  | [], ts, h, x => by
    cases h
    show (pc : Int) + dflt = (t : Int)
    exact ax_tg_ok ht
  | (k, f) :: ps, ts, h, x => by
    unfold ax_kts at h
    split at h
    · cases h
    · obtain ⟨u, h1, h2⟩ := Option.bind_eq_some_iff.mp h
      obtain ⟨us, h3, h4⟩ := Option.map_eq_some_iff.mp h2
      subst h4
      rw [Op.lookupswitch.offset_cons, ax_lsw]
      by_cases e : k = x
      · rw [if_pos e, if_pos (by omega)]
        exact ax_tg_ok h1
      · rw [if_neg e, if_neg (by omega)]
        exact ax_lsw_ok ht ps us h3 x
theorem as_lsw (hx : p.tables.exec = Jvm.exec) (hb : c.code = cc) {pc : Nat} {ls r : List ax_V} {H : ax_H} {dflt x : Int} {ps : Array (Int × Int)} {len t : Nat} {ts : List Nat} (hp : (ps.toList.zip (ps.toList.drop 1)).all (fun (a, next) => a.1 < next.1) = true) (ht : ax_tg pc dflt = some t) (hts : ax_kts pc ps.toList = some ts) (hd : decode cc pc = .ok (.lookupswitch dflt ps, len)) (kk : ax_G p l e R s mi args below meth c Q D base ad nL n0 s0 (ax_lsw t ts x) ls r H) : ax_G p l e R s mi args below meth c Q D base ad nL n0 s0 pc ls ((0, x) :: r) H := by
  intro lsM Hp locs cells slots hr
  have hX := ax_ok0 (ax_okh hr.2.1)
  exact lv_lookup (tgt := ax_lsw t ts x) hx hb hd hp rfl (by rw [ax_tii hX]; exact ax_lsw_ok ht ps.toList ts hts x) (kk lsM Hp locs cells slots (hr.stk (ax_okt hr.2.1)))
theorem ax_cs_get {o k i : Nat} (h : ax_Cs o k = some i) : ∃ q, ax_Sl[i]? = some q ∧ q.1 = o ∧ q.2.1 = k := by
  unfold ax_Cs at h
  obtain ⟨hlt, hp, -⟩ := List.findIdx?_eq_some_iff_getElem.mp h
  simp only [Bool.and_eq_true, beq_iff_eq] at hp
  exact ⟨ax_Sl[i], List.getElem?_eq_getElem hlt, hp.1, hp.2⟩
theorem ax_tvs (i : Nat) : ax_tv ad (2, -2 - (i : Int)) = .ref (ad (-2 - (i : Int))) := by
  show va_rf (ax_ro ad _) = _
  unfold ax_ro
  rw [if_neg (by omega)]
  rfl
theorem as_ldcS (hx : p.tables.exec = Jvm.exec) (hb : c.code = cc) (hSP : ax_SP base ad s s.heap) {o k i : Nat} (hown : s.vm.findClass (ax_ow o) = some mi.cls) (hC : ax_Cs o k = some i) {pc : Nat} {ls r : List ax_V} {H : ax_H} (hd : decode cc pc = .ok (.ldc k, 2)) (kk : ax_G p l e R s mi args below meth c Q D base ad nL n0 s0 (pc + 2) ls ((2, -2 - (i : Int)) :: r) H) : ax_G p l e R s mi args below meth c Q D base ad nL n0 s0 pc ls r H := by
  intro lsM Hp locs cells slots hr
  obtain ⟨q, h1, h2, h3⟩ := ax_cs_get hC
  have hR := hSP.2.2.2.2.1 i q h1
  rw [h2, h3] at hR
  have K := kk lsM Hp locs cells slots (hr.stk (ax_okc (ax_okr _) hr.2.1))
  rw [List.map_cons, ax_tvs] at K
  exact va_ldcS hx hb hown hR hd K
theorem as_ldcwS (hx : p.tables.exec = Jvm.exec) (hb : c.code = cc) (hSP : ax_SP base ad s s.heap) {o k i : Nat} (hown : s.vm.findClass (ax_ow o) = some mi.cls) (hC : ax_Cs o k = some i) {pc : Nat} {ls r : List ax_V} {H : ax_H} (hd : decode cc pc = .ok (.ldc_w k, 3)) (kk : ax_G p l e R s mi args below meth c Q D base ad nL n0 s0 (pc + 3) ls ((2, -2 - (i : Int)) :: r) H) : ax_G p l e R s mi args below meth c Q D base ad nL n0 s0 pc ls r H := by
  intro lsM Hp locs cells slots hr
  obtain ⟨q, h1, h2, h3⟩ := ax_cs_get hC
  have hR := hSP.2.2.2.2.1 i q h1
  rw [h2, h3] at hR
  have K := kk lsM Hp locs cells slots (hr.stk (ax_okc (ax_okr _) hr.2.1))
  rw [List.map_cons, ax_tvs] at K
  intro T hT X
  obtain ⟨t, a1, b1⟩ := K T hT X
  refine ⟨t, ?_, b1⟩
  obtain ⟨kC, cf, j, a', hk, hcf, hcp, -, hr', hev'⟩ := Cond.stringRef_spec hown hR.1
  cases hR.2.symm.trans hev'
  obtain ⟨k', hk', he⟩ := X.warmed.alike.2.2 _ _ hk
  have hr2 : k'.resolved[k]? = some (some (.string (ad (-2 - (i : Int))))) := by
    rcases X.warmed.entry hk hk' k with h | ⟨h, -⟩
    · rw [h]; exact hr'
    · rw [hr'] at h; cases h
  jvm_step X.here [hx, hb, hd, ldc_w.wp_string (e := e) (s := T) (f := F0 mi pc lsM (r.map (ax_tv ad))) X.here.top hk' (by rw [he]; exact hcf) hcp hr2]
  exact a1
end AXE
