/-! SOUNDNESS: what the abstract machine comes to, the machine comes to -/
def ax_Body (n : Nat) : Prop := ∀ (d m pc : Nat) (ls st : List ax_V) (H : ax_H) (r : ax_V) (H' : ax_H), ax_go n d m (ax_C m pc) pc ls st H = some (r, H') → ∀ q : ax_MT, ax_Ml[m]? = some q →
  ∀ (p : Program) (l : Launch) (e : Env) (R : Room) (s : State) (mi : MethodId) (args : Array Value) (below : List Frame) (meth : Method) (c : Code) (D : va_G) (base : Nat) (ad : Int → Nat) (n0 s0 : Nat),
  ax_CX p R s mi args meth c base ad q q.2.2.1 n0 d → H'.1.length = n0 + R.cells → ax_sl H'.1 = s0 + R.slots →
  ax_G p l e R s mi args below meth c (MQ below (ax_Qc D base ad r H') args s R.cells R.slots (ax_A base)) D base ad q.2.2.1 n0 s0 pc ls st H
theorem ax_met {n d m : Nat} {q : ax_MT} (hB : ax_Body n) (hq : ax_Ml[m]? = some q) {av : List ax_V} {H H' : ax_H} {r : ax_V} (hok : ∀ v ∈ av, ax_ok v) (hlen : (ax_ex av).length ≤ q.2.2.1)
    (hgo : ax_go n d m (ax_C m 0) 0 (ax_ex av ++ List.replicate (q.2.2.1 - (ax_ex av).length) (9, 0)) [] H = some (r, H')) (l : Launch) (D : va_G) (base : Nat) (ad : Int → Nat) (had : ∀ i : Int, 0 ≤ i → ad i = base + i.toNat) :
    Met l q.1 (Cond.code q.1 q.2.1 q.2.2.1 q.2.2.2.1 :: ax_tt) (ax_rm d H H') (ax_Pc D base ad av H) (ax_Qc D base ad r H') (H'.1.length - H.1.length) (ax_sl H'.1 - ax_sl H.1) (ax_A base) := by
  obtain ⟨f1, f2, f3, f4, f5, f6, f7, f8, f9, f10, f11, f12⟩ := ax_mfacts hq
  have hgr : ax_gr H H' := ax_go_gr _ _ _ _ _ _ _ _ _ hgo
  refine Met.ofW (cc := q.2.1) (maxL := q.2.2.1) (ret := q.2.2.2.1) f7 rfl ?_
  intro p e s m args below meth c s₁ B hml hv
  obtain ⟨rfl, ⟨hsz, hHR⟩, hSP⟩ := hv
  have hts0 := atoms_spec (ws := Cond.code q.1 q.2.1 q.2.2.1 q.2.2.2.1 :: ax_tt) B.pre
  have hname := (name_of_methodNamed B.named B.method).1
  have hG := hB d _ 0 _ [] H r H' hgo q hq p l e (ax_rm d H H') s m (av.map (ax_tv ad)).toArray below meth c D base ad H.1.length (ax_sl H.1)
    ⟨B.exec, B.bytes, hml, by rw [f6]; exact findClass_of_methodNamed B.named, B.returns, B.notSynchronized, fun hk => by rw [hname]; exact (f5 hk).2.1, fun w hw => hts0 w (List.mem_cons_of_mem _ hw), hSP, hsz, had, Nat.le_refl _, Nat.le_refl _⟩
    (by have := hgr.1; show H'.1.length = H.1.length + (H'.1.length - H.1.length); omega) (by have := hgr.2.1; show ax_sl H'.1 = ax_sl H.1 + (ax_sl H'.1 - ax_sl H.1); omega)
  rw [lg_entry_eq]
  exact hG _ s.heap [] 0 0 ⟨ax_entry (k := q.2.2.1 - (ax_ex av).length) hok (by omega), fun v hv => absurd hv List.not_mem_nil, hHR, va_S.rf, rfl, rfl⟩
theorem ax_jlink {o k mm nest : Nat} (h : ax_J o k = some (mm, nest)) : (nest = 0 → Cond.methodLink (ax_ow o) k (ax_mq mm).1 ∈ ax_tt) ∧ (nest ≠ 0 → ∃ e ∈ ax_Il, e.1 = o ∧ e.2.1 = k ∧ e.2.2.1 = mm ∧ e.2.2.2.2 ≠ 0) := by
  unfold ax_J at h
  obtain ⟨e, he, h2⟩ := Option.map_eq_some_iff.mp h
  have hm := List.mem_of_find?_eq_some he
  have hp := List.find?_some he
  simp only [Bool.and_eq_true, beq_iff_eq] at hp
  have h1 := List.all_eq_true.mp ax_Il_ok e hm
  obtain ⟨a1, a2, a3, a4, a5⟩ := e
  cases h2
  obtain ⟨rfl, rfl⟩ := hp
  refine ⟨fun h0 => ?_, fun h0 => ⟨_, hm, rfl, rfl, rfl, h0⟩⟩
  rw [if_pos h0] at h1
  exact ax_tti (ax_lw h1) rfl
theorem ax_mq_eq {m : Nat} {q : ax_MT} (hq : ax_Ml[m]? = some q) : ax_mq m = q := by unfold ax_mq; rw [hq]; rfl
theorem ax_ar_inv {mm kind : Nat} {st : List ax_V} {L : ax_L} {ls' rest : List ax_V} (h : ax_ar (ax_pm mm) kind st L = some (ls', rest)) (hk : kind ≤ 2) :
    ∃ (q : ax_MT) (av : List ax_V), ax_Ml[mm]? = some q ∧ q.2.2.2.2.2.1 = kind ∧ st = av.reverse ++ rest ∧ av.map (·.1) = q.2.2.2.2.2.2.1 ∧ rest.length ≤ 4 ∧ (kind = 1 ∨ ax_cd L (av.headD (9, -1)).2 = q.2.2.2.2.1) ∧ (ax_ex av).length = (q.2.2.2.2.2.2.1.map fun t => if t = 1 then 2 else 1).sum ∧ ls' = ax_ex av ++ List.replicate (q.2.2.1 - (ax_ex av).length) (9, 0) := by
  unfold ax_ar at h
  obtain ⟨z, hz, h⟩ := Option.bind_eq_some_iff.mp h
  obtain ⟨av, rs⟩ := z
  split at h
  · rename_i hc
    cases h
    unfold ax_pm at hc hz
    cases hq : ax_Ml[mm]? with
    | none =>
      rw [hq] at hc
      have : 9 = kind := hc.1
      omega
    | some q =>
      rw [hq] at hc hz
      obtain ⟨i1, i2⟩ := ax_tk_spec _ _ _ _ hz
      have i3 : av.map (·.1) = q.2.2.2.2.2.2.1 := by
        have : (av.reverse.map (·.1)).reverse = (q.2.2.2.2.2.2.1.reverse).reverse := by rw [i2]
        rw [List.reverse_reverse, ← List.map_reverse, List.reverse_reverse] at this
        exact this
      have i4 : (ax_ex av).length = (q.2.2.2.2.2.2.1.map fun t => if t = 1 then 2 else 1).sum := by
        rw [ax_ex_len, ← i3, List.map_map]
        rfl
      refine ⟨q, av, rfl, hc.1, i1, i3, hc.2.1, hc.2.2, i4, ?_⟩
      show ax_ex av ++ (ax_pm mm).2.2.2 = _
      unfold ax_pm
      rw [hq, i4]
  · cases h
section AXZ
variable {p : Program} {l : Launch} {e : Env} {R : Room} {s : State} {mi : MethodId} {args : Array Value} {below : List Frame} {meth : Method} {c : Code} {Q : State → Prop} {D : va_G} {base : Nat} {ad : Int → Nat} {nL n0 s0 : Nat}
theorem ax_after {pc : Nat} {lsM : Array Slot} {st0 : List Value} {Hp : Heap} {locs : List Loc} {cells slots : Nat} {a : Array Value} {r : ax_V} {ls st rest : List ax_V} {H H1 : ax_H}
    (hrun : va_Run p l e R s mi args below meth c Hp locs cells slots (H1.1.length - H.1.length) (ax_sl H1.1 - ax_sl H.1) (F0 mi pc lsM st0) (rest.map (ax_tv ad)) (ax_Qc D base ad r H1 a) (ax_A base)) (htag : r.1 = 0 ∨ r.1 = 1 ∨ r.1 = 2 ∨ r.1 = 9) (hgr : ax_gr H H1)
    (hr : ax_Rel D base ad s nL n0 s0 ls st H lsM Hp locs cells slots) (hok : ∀ v ∈ rest, ax_ok v) (kk : ax_G p l e R s mi args below meth c Q D base ad nL n0 s0 (pc + 3) ls (ax_ps r rest) H1) : W p l e R s mi args below meth c Hp locs cells slots Q (F0 mi pc lsM st0) := by
  have g1 := hgr.1
  have g2 := hgr.2.1
  have l1 := hr.2.2.2.2.1
  have l2 := hr.2.2.2.2.2
  have hrel : ∀ (t : State) (Hq : Heap) (locs1 : List Loc) (st' : List ax_V), t.heap = Hq → s.vm.Alike t.vm → ax_Wd D base ad H1 t → va_S (ax_A base) s.heap Hq locs1 → (∀ v ∈ st', ax_ok v) →
      ax_Rel D base ad s nL n0 s0 ls st' H1 lsM Hq locs1 (cells + (H1.1.length - H.1.length)) (slots + (ax_sl H1.1 - ax_sl H.1)) := fun t Hq locs1 st' ht hvm hB hS hk => by
    have h2 := hB.2
    rw [ht] at h2
    exact ⟨hr.1, hk, ax_HR.moved hvm.symm h2, hS, by omega, by omega⟩
  obtain ⟨t, x⟩ := r
  rcases htag with h | h | h | h
  · cases h
    have hrun : va_Run p l e R s mi args below meth c Hp locs cells slots (H1.1.length - H.1.length) (ax_sl H1.1 - ax_sl H.1) (F0 mi pc lsM st0) (rest.map (ax_tv ad)) (va_Qi (fun (z : Int32) (_ : Unit) => z = Int32.ofInt x ∧ ax_r32 x) (fun _ t => ax_Wd D base ad H1 t) (ax_A base) a) (ax_A base) := hrun
    refine va_calli hrun hr.2.2.2.1 (fun q _ h => h) (fun q h => h) (fun z u tS Hq locs1 ht hvm hpost hB hz hk hS => ?_)
    obtain ⟨rfl, hxr⟩ := hpost
    exact kk lsM Hq locs1 _ _ (hrel tS Hq locs1 _ ht hvm hB hS (ax_okc (ax_oki hxr) hok))
  · cases h
    have hrun : va_Run p l e R s mi args below meth c Hp locs cells slots (H1.1.length - H.1.length) (ax_sl H1.1 - ax_sl H.1) (F0 mi pc lsM st0) (rest.map (ax_tv ad)) (va_Ql (fun (z : Int64) (_ : Unit) => z = Int64.ofInt x ∧ ax_r64 x) (fun _ t => ax_Wd D base ad H1 t) (ax_A base) a) (ax_A base) := hrun
    refine va_calll hrun hr.2.2.2.1 (fun q _ h => h) (fun q h => h) (fun z u tS Hq locs1 ht hvm hpost hB hz hk hS => ?_)
    obtain ⟨rfl, hxr⟩ := hpost
    exact kk lsM Hq locs1 _ _ (hrel tS Hq locs1 _ ht hvm hB hS (ax_okc (ax_okl hxr) hok))
  · cases h
    have hrun : va_Run p l e R s mi args below meth c Hp locs cells slots (H1.1.length - H.1.length) (ax_sl H1.1 - ax_sl H.1) (F0 mi pc lsM st0) (rest.map (ax_tv ad)) (va_Qr (fun (_ : Unit) => x ≠ -1) (fun _ a t => a = ad x ∧ ax_Wd D base ad H1 t) (ax_A base) a) (ax_A base) := hrun
    refine va_callr hrun hr.2.2.2.1 (fun q _ h => h) (fun q h => h) (fun u ra tS Hq locs1 ht hvm hpost hB hz hk hS => ?_)
    obtain ⟨rfl, hB⟩ := hB
    have K := kk lsM Hq locs1 _ _ (hrel tS Hq locs1 _ ht hvm hB hS (ax_okc (ax_okr x) hok))
    have hv : ax_tv ad (2, x) = .ref (ad x) := by
      show va_rf (ax_ro ad x) = _
      unfold ax_ro
      rw [if_neg hpost]
      rfl
    have K : W p l e R s mi args below meth c Hq locs1 _ _ Q (F0 mi (pc + 3) lsM (ax_tv ad (2, x) :: rest.map (ax_tv ad))) := K
    rw [hv] at K
    exact K
  · cases h
    have hrun : va_Run p l e R s mi args below meth c Hp locs cells slots (H1.1.length - H.1.length) (ax_sl H1.1 - ax_sl H.1) (F0 mi pc lsM st0) (rest.map (ax_tv ad)) (va_Qv (fun (_ : Unit) => True) (fun _ t => ax_Wd D base ad H1 t) (ax_A base) a) (ax_A base) := hrun
    refine va_callv hrun hr.2.2.2.1 (fun q _ h => h) (fun q h => h) (fun u tS Hq locs1 ht hvm hpost hB hz hk hS => ?_)
    exact kk lsM Hq locs1 _ _ (hrel tS Hq locs1 _ ht hvm hB hS hok)
theorem ax_calls {n : Nat} (hB : ax_Body n) {q : ax_MT} {d : Nat} (C : ax_CX p R s mi args meth c base ad q nL n0 (d + 1)) {pc len : Nat} {i : Instr} {ops : List Nat} {v : Int} {ls st ls' rest : List ax_V} {H H1 : ax_H} {r : ax_V}
    (hd : decode q.2.1 pc = .ok (i, len)) (hle : ¬ (ax_le i ≠ 0 ∧ ax_le i ≠ len)) (hR : ax_R q.2.2.2.2.1 q.2.2.2.2.2.1 q.2.2.2.1 pc i = some (55, ops, v)) (hi : (∃ k, i = .invokevirtual k) ∨ (∃ k, i = .invokestatic k) ∨ ∃ k, i = .invokespecial k)
    (har : ax_ar (ax_pm (ops.headD 0)) (ops.getD 1 0) st H.1 = some (ls', rest)) (hgo : ax_go n d (ops.headD 0) (ax_C (ops.headD 0) 0) 0 ls' [] H = some (r, H1)) (hrm : H1.1.length ≤ n0 + R.cells ∧ ax_sl H1.1 ≤ s0 + R.slots)
    (kk : ax_G p l e R s mi args below meth c Q D base ad nL n0 s0 (pc + len) ls (ax_ps r rest) H1) : ax_G p l e R s mi args below meth c Q D base ad nL n0 s0 pc ls st H := by
  obtain ⟨hx, hb, hml, hown, hret, hlocks, hname, hts, hSP, hsz, had, hRf, hRl⟩ := C
  intro lsM Hp locs cells slots hr
  refine ax_size (fun hz => ?_)
  have hpz := ax_hsz hsz hr hz
  have hgr : ax_gr H H1 := ax_go_gr _ _ _ _ _ _ _ _ _ hgo
  have htag : r.1 = 0 ∨ r.1 = 1 ∨ r.1 = 2 ∨ r.1 = 9 := ax_go_tag _ _ _ _ _ _ _ _ _ hgo
  have g1 := hgr.1
  have g2 := hgr.2.1
  have l1 := hr.2.2.2.2.1
  have l2 := hr.2.2.2.2.2
  have hrc : cells + (H1.1.length - H.1.length) ≤ R.cells ∧ slots + (ax_sl H1.1 - ax_sl H.1) ≤ R.slots := by
    have := hrm.1; have := hrm.2
    constructor <;> omega
  have hpre : ∀ av : List ax_V, ∀ U : State, U.heap = Hp → s.WarmedH U.vm → ax_Pc D base ad av H (av.map (ax_tv ad)).toArray U := fun av U hU hW => by
    refine ⟨rfl, ⟨by rw [hU]; exact hpz, by rw [hU]; exact ax_HR.moved hW.alike hr.2.2.1⟩, by rw [hU]; exact hSP.go hW hr.2.2.2.1⟩
  have S : CallFix p mi c q.2.1 nL s args ax_tt (ax_ow q.2.2.2.2.1) := ⟨hx, hb, hml, hown, hts⟩
  have hRR : ∀ mL, mL ≤ 20 → (ax_rm d H H1).frames + 1 ≤ R.frames ∧ 8 + (mL + 11) + (ax_rm d H H1).locals ≤ R.locals := fun mL hm => by
    show d + 8 + 1 ≤ R.frames ∧ 8 + (mL + 11) + (64 * d + 512) ≤ R.locals
    omega
  rcases hi with ⟨k, rfl⟩ | ⟨k, rfl⟩ | ⟨k, rfl⟩
  · have hlen : len = 3 := by simp [ax_le] at hle; omega
    subst hlen
    simp only [ax_R] at hR
    split at hR
    · rename_i jm hj
      obtain ⟨mm, nest⟩ := jm
      split at hR
      · rename_i hn
        cases hR
        obtain ⟨q1, av, hq1, hk1, hst, hav, hrl, hrcv, hxl, hls⟩ := ax_ar_inv har (by show (0 : Nat) ≤ 2; omega)
        have hq1 : ax_Ml[mm]? = some q1 := hq1
        have hk1 : q1.2.2.2.2.2.1 = 0 := hk1
        obtain ⟨f1, f2, f3, f4, f5, f6, f7, f8, f9, f10, f11, f12⟩ := ax_mfacts hq1
        obtain ⟨e1, e2, e3, e4, e5⟩ := f3 hk1
        have hml2 := (ax_jlink hj).1 hn
        rw [ax_mq_eq hq1] at hml2
        rw [← hav] at e3
        match av, hst, hav, hrcv, hxl, hls, e3 with
        | [], _, _, _, _, _, e3 => cases e3
        | (t, b) :: as, hst, hav, hrcv, hxl, hls, e3 =>
          have ht : t = 2 := Option.some.inj e3
          subst ht
          have hok : ∀ z ∈ ((2, b) :: as).reverse ++ rest, ax_ok z := by rw [← hst]; exact hr.2.1
          have hok1 : ∀ z ∈ (2, b) :: as, ax_ok z := fun z hz => hok z (List.mem_append_left _ (List.mem_reverse.mpr hz))
          have hok2 : ∀ z ∈ rest, ax_ok z := fun z hz => hok z (List.mem_append_right _ hz)
          have hcd : ax_cd H.1 b = q1.2.2.2.2.1 := by
            rcases hrcv with h | h
            · exact absurd h (by show ¬ (0 : Nat) = 1; omega)
            · exact h
          obtain ⟨b0, b1, bn, brefs, b2, -, -⟩ := ax_cd_get hcd (by omega)
          obtain ⟨ent, tys, hP, hK, hE⟩ := hr.2.2.1
          have hlt : b.toNat < H.1.length := (List.getElem?_eq_some_iff.mp b2).1
          obtain ⟨-, -, -, x4⟩ := ax_E_obj (hE _ _ b2) e5
          have hex := ax_ws_get (base := base) (ent := ent) hlt
          rw [x4] at hex
          have hM := ax_met hB hq1 hok1 (by rw [hxl]; exact f10) (by rw [← hls]; exact hgo) l D base ad had
          have hrecv := va_recv hK hP (ax_vw e5) hex
          have hargs : ((2, b) :: as).map (ax_tv ad) = .ref (base + b.toNat) :: as.map (ax_tv ad) := by rw [List.map_cons, ax_tvr had b0]
          have hstk : st.map (ax_tv ad) = (as.map (ax_tv ad)).reverse ++ .ref (base + b.toNat) :: rest.map (ax_tv ad) := by
            rw [hst, List.map_append, List.map_reverse, hargs]
            simp
          rw [hstk]
          refine ax_after (va_runV (As := as.map (ax_tv ad)) (rest := rest.map (ax_tv ad)) (b := base + b.toNat) (C := q1.1.cls) S hM
            (cwV (as.map (ax_tv ad)).length hts (fun w hw => ?_) rfl rfl rfl ⟨rfl, f8.1, f8.2, ?_⟩ (hRR _ f11)) ⟨ax_blind D base ad _ H, by rw [← e4]; exact hrecv, fun U hU hW => ?_⟩ rfl rfl hr.1.1 rfl (lv_room ?_) hd hrc) htag hgr hr hok2 kk
          · rcases List.mem_append.mp hw with hw | hw
            · have hmem : w ∈ ax_tt := by
                simp only [List.mem_cons, List.not_mem_nil, or_false] at hw
                rcases hw with rfl | rfl | rfl | rfl
                · exact hml2
                · exact e1
                · exact e2
                · exact f2
              exact ax_tt_good w hmem
            · rcases List.mem_cons.mp hw with rfl | hw
              · exact ax_tt_good _ f1
              · exact ax_tt_good w hw
          · rw [f9, hk1, if_neg (by omega)]
            have : q1.2.2.2.2.2.2.1.length = as.length + 1 := by rw [← hav]; simp
            simp [this]
          · have := hpre ((2, b) :: as) U hU hW
            rw [hargs] at this
            exact this
          · have := ax_cats ad rest
            omega
      · cases hR
    · obtain ⟨x, -, h2⟩ := Option.bind_eq_some_iff.mp hR
      split at h2
      · cases h2
      · cases h2
  · have hlen : len = 3 := by simp [ax_le] at hle; omega
    subst hlen
    simp only [ax_R] at hR
    split at hR
    · rename_i jm hj
      obtain ⟨mm, nest⟩ := jm
      split at hR
      · rename_i hn
        cases hR
        obtain ⟨q1, av, hq1, hk1, hst, hav, hrl, hrcv, hxl, hls⟩ := ax_ar_inv har (by show (1 : Nat) ≤ 2; omega)
        have hq1 : ax_Ml[mm]? = some q1 := hq1
        have hk1 : q1.2.2.2.2.2.1 = 1 := hk1
        obtain ⟨f1, f2, f3, f4, f5, f6, f7, f8, f9, f10, f11, f12⟩ := ax_mfacts hq1
        have e1 := f4 hk1
        have hml2 := (ax_jlink hj).1 hn
        rw [ax_mq_eq hq1] at hml2
        have hok : ∀ z ∈ av.reverse ++ rest, ax_ok z := by rw [← hst]; exact hr.2.1
        have hok1 : ∀ z ∈ av, ax_ok z := fun z hz => hok z (List.mem_append_left _ (List.mem_reverse.mpr hz))
        have hok2 : ∀ z ∈ rest, ax_ok z := fun z hz => hok z (List.mem_append_right _ hz)
        have hM := ax_met hB hq1 hok1 (by rw [hxl]; exact f10) (by rw [← hls]; exact hgo) l D base ad had
        have hstk : st.map (ax_tv ad) = (av.map (ax_tv ad)).reverse ++ rest.map (ax_tv ad) := by rw [hst, List.map_append, List.map_reverse]
        rw [hstk]
        refine ax_after (va_runS (As := av.map (ax_tv ad)) (rest := rest.map (ax_tv ad)) S hM
          ⟨callB_of (av.map (ax_tv ad)).length hts (fun w hw => ?_) rfl rfl rfl (hts _ f2) (hts _ hml2) ⟨f8.1, f8.2, ?_⟩ (hRR _ f11), hts _ e1⟩ ⟨ax_blind D base ad _ H, fun U hU hW => hpre av U hU hW⟩ rfl rfl hr.1.1 rfl (lv_room ?_) hd hrc) htag hgr hr hok2 kk
        · rcases List.mem_cons.mp hw with rfl | hw
          · exact ax_tt_good _ f1
          · exact ax_tt_good w hw
        · rw [f9, hk1, if_pos rfl, ← hav]
          simp
        · have := ax_cats ad rest
          omega
      · cases hR
    · obtain ⟨x, -, h2⟩ := Option.bind_eq_some_iff.mp hR
      split at h2
      · cases h2
      · cases h2
  · have hlen : len = 3 := by simp [ax_le] at hle; omega
    subst hlen
    simp only [ax_R] at hR
    split at hR
    · rename_i jm hj
      obtain ⟨mm, nest⟩ := jm
      cases hR
      obtain ⟨q1, av, hq1, hk1, hst, hav, hrl, hrcv, hxl, hls⟩ := ax_ar_inv har (by show (2 : Nat) ≤ 2; omega)
      have hq1 : ax_Ml[mm]? = some q1 := hq1
      have hk1 : q1.2.2.2.2.2.1 = 2 := hk1
      obtain ⟨f1, f2, f3, f4, f5, f6, f7, f8, f9, f10, f11, f12⟩ := ax_mfacts hq1
      obtain ⟨e1, e2, e2b, e3, e4, e5⟩ := f5 hk1
      rw [← hav] at e3
      match av, hst, hav, hrcv, hxl, hls, e3 with
      | [], _, _, _, _, _, e3 => cases e3
      | (t, b) :: as, hst, hav, hrcv, hxl, hls, e3 =>
        have ht : t = 2 := Option.some.inj e3
        subst ht
        have hok : ∀ z ∈ ((2, b) :: as).reverse ++ rest, ax_ok z := by rw [← hst]; exact hr.2.1
        have hok1 : ∀ z ∈ (2, b) :: as, ax_ok z := fun z hz => hok z (List.mem_append_left _ (List.mem_reverse.mpr hz))
        have hok2 : ∀ z ∈ rest, ax_ok z := fun z hz => hok z (List.mem_append_right _ hz)
        have hcd : ax_cd H.1 b = q1.2.2.2.2.1 := by
          rcases hrcv with h | h
          · exact absurd h (by show ¬ (2 : Nat) = 1; omega)
          · exact h
        obtain ⟨b0, -, -⟩ := ax_cd_get hcd (by omega)
        have hM := ax_met hB hq1 hok1 (by rw [hxl]; exact f10) (by rw [← hls]; exact hgo) l D base ad had
        have hargs : ((2, b) :: as).map (ax_tv ad) = .ref (base + b.toNat) :: as.map (ax_tv ad) := by rw [List.map_cons, ax_tvr had b0]
        have hstk : st.map (ax_tv ad) = (as.map (ax_tv ad)).reverse ++ .ref (base + b.toNat) :: rest.map (ax_tv ad) := by
          rw [hst, List.map_append, List.map_reverse, hargs]
          simp
        have hgood : GoodIn ax_tt (Cond.code q1.1 q1.2.1 q1.2.2.1 q1.2.2.2.1 :: ax_tt) := fun w hw => by
          rcases List.mem_cons.mp hw with rfl | hw
          · exact ax_tt_good _ f1
          · exact ax_tt_good w hw
        have hpar : (parseMethodDescriptor q1.1.desc).map (fun d => d.parameters.length) = some (as.map (ax_tv ad)).length := by
          rw [f9, hk1, if_neg (by omega)]
          have : q1.2.2.2.2.2.2.1.length = as.length + 1 := by rw [← hav]; simp
          simp [this]
        have hps : PreS s Hp (ax_Pc D base ad ((2, b) :: as) H) (.ref (base + b.toNat) :: as.map (ax_tv ad)) := ⟨ax_blind D base ad _ H, fun U hU hW => by
          have := hpre ((2, b) :: as) U hU hW
          rw [hargs] at this
          exact this⟩
        have hcat := ax_cats ad rest
        rw [hstk]
        by_cases hn : nest = 0
        · have hml2 := (ax_jlink hj).1 hn
          rw [ax_mq_eq hq1] at hml2
          rw [e2b] at hM hgood
          exact ax_after (va_runI (As := as.map (ax_tv ad)) (rest := rest.map (ax_tv ad)) (b := base + b.toNat) S hM
            ⟨callB_of (as.map (ax_tv ad)).length hts hgood rfl rfl rfl (hts _ f2) (hts _ hml2) ⟨f8.1, f8.2, hpar⟩ (hRR _ f11), e2, hts _ e1⟩ hps rfl rfl hr.1.1 rfl (lv_room (by omega)) hd hrc) htag hgr hr hok2 kk
        · obtain ⟨z, hz1, hz2, hz3, hz4, hz5⟩ := (ax_jlink hj).2 hn
          have hnw := hSP.2.2.2.1 z hz1 hz5
          rw [hz2, hz3, hz4, ax_mq_eq hq1] at hnw
          rw [e2b] at hM hgood
          exact ax_after (va_runIN (As := as.map (ax_tv ad)) (rest := rest.map (ax_tv ad)) (b := base + b.toNat) S hM
            ⟨va_cnB (as.map (ax_tv ad)).length hts hgood rfl rfl rfl hnw (hts _ f2) ⟨f8.1, f8.2, hpar⟩ (hRR _ f11), e2, hts _ e1⟩ hps rfl rfl hr.1.1 rfl (lv_room (by omega)) hd hrc) htag hgr hr hok2 kk
    · obtain ⟨x, -, h2⟩ := Option.bind_eq_some_iff.mp hR
      split at h2
      · cases h2
      · cases h2
end AXZ
theorem ax_body : ∀ n, ax_Body n := by
  intro n
  induction n with
  | zero => intro d m pc ls st H r H' hgo; simp [ax_go] at hgo
  | succ n ih =>
    intro d m pc ls st H r H' hgo q hq p l e R s mi args below meth c D base ad n0 s0 C hL hS
    have hgr0 : ax_gr H H' := ax_go_gr _ _ _ _ _ _ _ _ _ hgo
    have hC : ax_C m pc = match decode q.2.1 pc with
        | .ok (i, len) => if ax_le i ≠ 0 ∧ ax_le i ≠ len then none else (ax_R q.2.2.2.2.1 q.2.2.2.2.2.1 q.2.2.2.1 pc i).map fun r => (r.1, r.2.1, r.2.2, len)
        | .error _ => none := by unfold ax_C; rw [hq]; rfl
    cases hdec : decode q.2.1 pc with
    | error x =>
      rw [hdec] at hC
      rw [hC] at hgo
      simp [ax_go] at hgo
    | ok z =>
      obtain ⟨i, len⟩ := z
      rw [hdec] at hC
      have hC : ax_C m pc = if ax_le i ≠ 0 ∧ ax_le i ≠ len then none else (ax_R q.2.2.2.2.1 q.2.2.2.2.2.1 q.2.2.2.1 pc i).map fun r => (r.1, r.2.1, r.2.2, len) := hC
      by_cases hle : ax_le i ≠ 0 ∧ ax_le i ≠ len
      · rw [if_pos hle] at hC
        rw [hC] at hgo
        simp [ax_go] at hgo
      · rw [if_neg hle] at hC
        cases hR : ax_R q.2.2.2.2.1 q.2.2.2.2.2.1 q.2.2.2.1 pc i with
        | none =>
          rw [hR] at hC
          have hC : ax_C m pc = none := hC
          rw [hC] at hgo
          simp [ax_go] at hgo
        | some w =>
          obtain ⟨op, ops, v⟩ := w
          rw [hR] at hC
          have hC : ax_C m pc = some (op, ops, v, len) := hC
          rw [hC] at hgo
          unfold ax_go at hgo
          by_cases h1 : op = 55
          · subst h1
            rw [if_pos rfl] at hgo
            by_cases h2 : d = 0
            · rw [if_pos h2] at hgo; cases hgo
            · rw [if_neg h2] at hgo
              obtain ⟨a, ha, hgo⟩ := Option.bind_eq_some_iff.mp hgo
              obtain ⟨b, hb, hgo⟩ := Option.bind_eq_some_iff.mp hgo
              obtain ⟨ls', rest⟩ := a
              obtain ⟨r1, H1⟩ := b
              obtain ⟨d', rfl⟩ : ∃ d', d = d' + 1 := ⟨d - 1, by omega⟩
              have hgr1 : ax_gr H1 H' := ax_go_gr _ _ _ _ _ _ _ _ _ hgo
              have hkind := ax_R_kind hR
              rcases hkind with hk | ⟨-, hk⟩ | hk
              · exact absurd hk (by omega)
              · exact ax_calls ih C hdec hle hR hk ha hb ⟨by have := hgr1.1; omega, by have := hgr1.2.1; omega⟩ (ih _ _ _ _ _ _ _ _ hgo q hq p l e R s mi args below meth c D base ad n0 s0 C hL hS)
              · exfalso
                rcases hk with rfl | rfl | rfl | rfl <;> simp only [ax_R] at hR <;> split at hR <;> cases hR
          · rw [if_neg h1] at hgo
            by_cases h2 : 50 ≤ op ∧ op ≤ 54
            · rw [if_pos h2] at hgo
              obtain ⟨r1, hr1, hgo⟩ := Option.map_eq_some_iff.mp hgo
              cases hgo
              rcases ax_R_kind hR with hk | ⟨hk, -⟩ | hk
              · exact absurd hk (by omega)
              · exact absurd hk h1
              · exact ax_rets C hdec hle hR hk hr1 hL hS
            · rw [if_neg h2] at hgo
              obtain ⟨a, ha, hgo⟩ := Option.bind_eq_some_iff.mp hgo
              obtain ⟨pc', ls', st', H1⟩ := a
              have hgr1 : ax_gr H1 H' := ax_go_gr _ _ _ _ _ _ _ _ _ hgo
              exact ax_sim C hdec hle hR (by omega) ha ⟨by have := hgr0.1; omega, by have := hgr0.2.1; omega⟩ ⟨by have := hgr1.1; omega, by have := hgr1.2.1; omega⟩ (ih _ _ _ _ _ _ _ _ hgo q hq p l e R s mi args below meth c D base ad n0 s0 C hL hS)
