/-! THE CLAIM, open in the invariant alone -/
theorem st_D {s : State} {args : Array Value} (htt : ∀ w ∈ ax_tt, w.before args s = true) : ∃ D : va_G, va_K D vwCl [] s := by
  have hins : ∀ ci, ci < 13 → Cond.instantiable (ax_Cn ci) (ax_nf ci) ∈ ax_tt := by
    intro ci hci
    have h : ∀ ci, ci < 13 → (ax_Nl.any fun e => decide (e.2.2.1 = ci)) = true := by decide +kernel
    obtain ⟨e, he, h2⟩ := List.any_eq_true.mp (h ci hci)
    have h2 := of_decide_eq_true h2
    have h1 := List.all_eq_true.mp ax_Nl_ok e he
    simp only [Bool.and_eq_true, decide_eq_true_eq] at h1
    rw [← h2]
    exact ax_tti (ax_lw h1.1.2) rfl
  have hKn : ∀ ci, ci < 13 → ∃ (cC : ClassId) (iS : Nat → Nat), u_Kn s (ax_Cn ci) (ax_T ci) (ax_nf ci) cC iS := fun ci hci => u_known htt (ax_hin hci) (htt _ (hins ci hci))
  refine ⟨(fun k => if h : k < 13 then Classical.choose (hKn k h) else 0, fun k => if h : k < 13 then Classical.choose (Classical.choose_spec (hKn k h)) else fun _ => 0), ?_, fun k q h => by simp at h⟩
  intro k q hq
  have hk : k < 13 := (List.getElem?_eq_some_iff.mp hq).1
  rw [ax_vw hk] at hq
  cases hq
  show u_Kn s _ _ _ (if h : k < 13 then Classical.choose (hKn k h) else 0) (if h : k < 13 then Classical.choose (Classical.choose_spec (hKn k h)) else fun _ => 0)
  rw [dif_pos hk, dif_pos hk]
  exact Classical.choose_spec (Classical.choose_spec (hKn k hk))
theorem lw_whole {Inv : ax_H → Prop} {o2 : Int} (hi : lw_init Inv o2) (hp : ∀ q ∈ lw_cases, lw_pair Inv 0 o2 q.2.1 q.2.2.1 q.2.2.2.1) (hlay : ∀ H, Inv H → H.1.length ≤ 600000 ∧ ax_sl H.1 ≤ 7302249 ∧ ax_cd H.1 0 = 11) (hlay2 : ∀ H H1, Inv H → ax_gr H H1 → ax_cd H1.1 o2 = 12)
    {p : Program} {e : Env} {s : State} {m : MethodId} {below : List Frame} {meth : Method} {c : Code} (l : Launch) {b L : Nat} {xs : Nat → Int32} (hL : L ≤ 3072) (C0 : lw_At p s m meth c b L xs) :
    W p l e room_1 s m #[Value.ref b] below meth c s.heap [] 0 0 (lw_Z below #[Value.ref b] s) (entryFrame m ([Value.ref b] : List Value).toArray 4) := by
  obtain ⟨hx, hb, hr, hml, hown, hts, hX, hbl, hlocks, hgv⟩ := C0
  have htt : ∀ w ∈ ax_tt, w.before #[Value.ref b] s = true := fun w hw => hts w (List.mem_filter.mp hw).1
  obtain ⟨ad, had, hadS, hSP⟩ := st_SP hts hgv
  obtain ⟨D, hK⟩ := st_D htt
  have C : ax_CX p room_1 s m #[Value.ref b] meth c s.heap.size ad lw_q 4 0 41 := ⟨hx, hb, hml, hown, hr, hlocks, fun h => absurd h (by decide), htt, hSP, rfl, had, by decide, by decide⟩
  have hfin : ∀ (i : Int) (H : ax_H), Inv H → ax_G p l e room_1 s m #[Value.ref b] below meth c (lw_Z below #[Value.ref b] s) D s.heap.size ad 4 0 0 1287 [(2, -1000), (2, 0), (2, o2), (0, i)] [] H := by
    intro i H hI
    refine as_const hx hb (v := 1) (by unfold ax_r32; omega) rfl lw_d1287 ?_
    intro lsM Hp locs cells slots hr'
    obtain ⟨g1, g2, -⟩ := hlay H hI
    have l1 := hr'.2.2.2.2.1
    have l2 := hr'.2.2.2.2.2
    refine va_forget (fun q hq => hr'.2.2.2.1.2.2 q hq) ?_
    refine W.widen (k := 600000) (n := 7302249) (by omega) (by omega) ?_
    exact lw_ret hx hb hr hlocks lw_d1288
  have hG := lw_entry (l := l) (e := e) (below := below) (Q := lw_Z below #[Value.ref b] s) (D := D) C hX hL hbl hbl hadS hi hp hlay hlay2 hfin
  have hmap : ([(2, -1000)] : List ax_V).map (ax_tv ad) = [Value.ref b] := by
    show [va_rf (ax_ro ad (-1000))] = _
    unfold ax_ro
    rw [if_neg (by omega), hadS]
    rfl
  have hent := ax_entry (ad := ad) (av := [(2, -1000)]) (n := 4) (k := 3) (fun v hv => by
    rw [List.mem_singleton] at hv
    rw [hv]
    exact ax_okr _) rfl
  rw [hmap] at hent
  rw [lg_entry_eq]
  exact hG _ s.heap [] 0 0 ⟨hent, fun v hv => absurd hv List.not_mem_nil, ⟨fun _ => .inr (0, []), [], fun k q h => by simp [ax_ws] at h, hK, fun k q h => by simp at h⟩, va_S.rf, rfl, rfl⟩
