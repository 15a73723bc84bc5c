/-! String.length, String.charAt of a String constant; written by wip/whole/gen_str.py -/
def ys_len : MethodName := ⟨"java/lang/String", "length", "()I"⟩
abbrev bs_len : ByteArray := prog_17_method_54_code
set_option maxRecDepth 100000 in
theorem ws_c_len : Cond.code ys_len bs_len 1 (some .int) ∈ ax_tt := ax_tti (List.mem_of_getElem? (i := 571) (by rfl)) rfl
def ys_cod : MethodName := ⟨"java/lang/String", "coder", "()B"⟩
abbrev bs_cod : ByteArray := prog_17_method_152_code
set_option maxRecDepth 100000 in
theorem ws_c_cod : Cond.code ys_cod bs_cod 1 (some .byte) ∈ ax_tt := ax_tti (List.mem_of_getElem? (i := 575) (by rfl)) rfl
def ys_lat : MethodName := ⟨"java/lang/String", "isLatin1", "()Z"⟩
abbrev bs_lat : ByteArray := prog_17_method_154_code
set_option maxRecDepth 100000 in
theorem ws_c_lat : Cond.code ys_lat bs_lat 1 (some .boolean) ∈ ax_tt := ax_tti (List.mem_of_getElem? (i := 585) (by rfl)) rfl
def ys_chr : MethodName := ⟨"java/lang/String", "charAt", "(I)C"⟩
abbrev bs_chr : ByteArray := prog_17_method_56_code
set_option maxRecDepth 100000 in
theorem ws_c_chr : Cond.code ys_chr bs_chr 2 (some .char) ∈ ax_tt := ax_tti (List.mem_of_getElem? (i := 581) (by rfl)) rfl
def ys_lch : MethodName := ⟨"java/lang/StringLatin1", "charAt", "([BI)C"⟩
abbrev bs_lch : ByteArray := prog_18_method_2_code
set_option maxRecDepth 100000 in
theorem ws_c_lch : Cond.code ys_lch bs_lch 2 (some .char) ∈ ax_tt := ax_tti (List.mem_of_getElem? (i := 588) (by rfl)) rfl
def ys_chk : MethodName := ⟨"java/lang/String", "checkIndex", "(II)V"⟩
abbrev bs_chk : ByteArray := prog_17_method_155_code
set_option maxRecDepth 100000 in
theorem ws_c_chk : Cond.code ys_chk bs_chk 2 none ∈ ax_tt := ax_tti (List.mem_of_getElem? (i := 591) (by rfl)) rfl
def ys_pre : MethodName := ⟨"jdk/internal/util/Preconditions", "checkIndex", "(IILjava/util/function/BiFunction;)I"⟩
abbrev bs_pre : ByteArray := prog_21_method_11_code
set_option maxRecDepth 100000 in
theorem ws_c_pre : Cond.code ys_pre bs_pre 3 (some .int) ∈ ax_tt := ax_tti (List.mem_of_getElem? (i := 596) (by rfl)) rfl
set_option maxRecDepth 100000 in
theorem ws_i_S : Cond.initialized "java/lang/String" ∈ ax_tt := ax_tti (List.mem_of_getElem? (i := 130) (by rfl)) rfl
set_option maxRecDepth 100000 in
theorem ws_i_L : Cond.initialized "java/lang/StringLatin1" ∈ ax_tt := ax_tti (List.mem_of_getElem? (i := 131) (by rfl)) rfl
set_option maxRecDepth 100000 in
theorem ws_i_P : Cond.initialized "jdk/internal/util/Preconditions" ∈ ax_tt := ax_tti (List.mem_of_getElem? (i := 132) (by rfl)) rfl
set_option maxRecDepth 100000 in
theorem ws_f_cs : Cond.fieldLink "java/lang/String" 38 "java/lang/String" "COMPACT_STRINGS" "Z" ∈ ax_tt := ax_tti (List.mem_of_getElem? (i := 576) (by rfl)) rfl
set_option maxRecDepth 100000 in
theorem ws_f_val : Cond.fieldLink "java/lang/String" 9 "java/lang/String" "value" "[B" ∈ ax_tt := ax_tti (List.mem_of_getElem? (i := 1909) (by rfl)) rfl
set_option maxRecDepth 100000 in
theorem ws_f_cod : Cond.fieldLink "java/lang/String" 15 "java/lang/String" "coder" "B" ∈ ax_tt := ax_tti (List.mem_of_getElem? (i := 1910) (by rfl)) rfl
set_option maxRecDepth 100000 in
theorem ws_f_sio : Cond.fieldLink "java/lang/String" 1053 "jdk/internal/util/Preconditions" "SIOOBE_FORMATTER" "Ljava/util/function/BiFunction;" ∈ ax_tt := ax_tti (List.mem_of_getElem? (i := 592) (by rfl)) rfl
set_option maxRecDepth 100000 in
theorem ws_l_cod : Cond.methodLink "java/lang/String" 335 ys_cod ∈ ax_tt := ax_tti (List.mem_of_getElem? (i := 572) (by rfl)) rfl
set_option maxRecDepth 100000 in
theorem ws_m_cod : Cond.instanceMethod ys_cod ∈ ax_tt := ax_tti (List.mem_of_getElem? (i := 573) (by rfl)) rfl
set_option maxRecDepth 100000 in
theorem ws_s_cod : Cond.selects "java/lang/String" ys_cod ys_cod ∈ ax_tt := ax_tti (List.mem_of_getElem? (i := 574) (by rfl)) rfl
set_option maxRecDepth 100000 in
theorem ws_l_lat : Cond.methodLink "java/lang/String" 492 ys_lat ∈ ax_tt := ax_tti (List.mem_of_getElem? (i := 582) (by rfl)) rfl
set_option maxRecDepth 100000 in
theorem ws_m_lat : Cond.instanceMethod ys_lat ∈ ax_tt := ax_tti (List.mem_of_getElem? (i := 583) (by rfl)) rfl
set_option maxRecDepth 100000 in
theorem ws_s_lat : Cond.selects "java/lang/String" ys_lat ys_lat ∈ ax_tt := ax_tti (List.mem_of_getElem? (i := 584) (by rfl)) rfl
set_option maxRecDepth 100000 in
theorem ws_l_lch : Cond.methodLink "java/lang/String" 495 ys_lch ∈ ax_tt := ax_tti (List.mem_of_getElem? (i := 586) (by rfl)) rfl
set_option maxRecDepth 100000 in
theorem ws_t_lch : Cond.static ys_lch ∈ ax_tt := ax_tti (List.mem_of_getElem? (i := 587) (by rfl)) rfl
set_option maxRecDepth 100000 in
theorem ws_l_chk : Cond.methodLink "java/lang/StringLatin1" 9 ys_chk ∈ ax_tt := ax_tti (List.mem_of_getElem? (i := 589) (by rfl)) rfl
set_option maxRecDepth 100000 in
theorem ws_t_chk : Cond.static ys_chk ∈ ax_tt := ax_tti (List.mem_of_getElem? (i := 590) (by rfl)) rfl
set_option maxRecDepth 100000 in
theorem ws_l_pre : Cond.methodLink "java/lang/String" 1059 ys_pre ∈ ax_tt := ax_tti (List.mem_of_getElem? (i := 594) (by rfl)) rfl
set_option maxRecDepth 100000 in
theorem ws_t_pre : Cond.static ys_pre ∈ ax_tt := ax_tti (List.mem_of_getElem? (i := 595) (by rfl)) rfl
set_option maxRecDepth 100000 in
theorem ws_m_len : Cond.instanceMethod ys_len ∈ ax_tt := ax_tti (List.mem_of_getElem? (i := 569) (by rfl)) rfl
set_option maxRecDepth 100000 in
theorem ws_s_len : Cond.selects "java/lang/String" ys_len ys_len ∈ ax_tt := ax_tti (List.mem_of_getElem? (i := 570) (by rfl)) rfl
set_option maxRecDepth 100000 in
theorem ws_m_chr : Cond.instanceMethod ys_chr ∈ ax_tt := ax_tti (List.mem_of_getElem? (i := 579) (by rfl)) rfl
set_option maxRecDepth 100000 in
theorem ws_s_chr : Cond.selects "java/lang/String" ys_chr ys_chr ∈ ax_tt := ax_tti (List.mem_of_getElem? (i := 580) (by rfl)) rfl
theorem ds_len_0 : decode bs_len 0 = .ok (.aload_n 0, 1) := by decide +kernel
theorem ds_len_1 : decode bs_len 1 = .ok (.getfield 9, 3) := by decide +kernel
theorem ds_len_4 : decode bs_len 4 = .ok (.arraylength, 1) := by decide +kernel
theorem ds_len_5 : decode bs_len 5 = .ok (.aload_n 0, 1) := by decide +kernel
theorem ds_len_6 : decode bs_len 6 = .ok (.invokevirtual 335, 3) := by decide +kernel
theorem ds_len_9 : decode bs_len 9 = .ok (.ishr, 1) := by decide +kernel
theorem ds_len_10 : decode bs_len 10 = .ok (.ireturn, 1) := by decide +kernel
theorem ds_cod_0 : decode bs_cod 0 = .ok (.getstatic 38, 3) := by decide +kernel
theorem ds_cod_3 : decode bs_cod 3 = .ok (.ifCond .eq 10, 3) := by decide +kernel
theorem ds_cod_6 : decode bs_cod 6 = .ok (.aload_n 0, 1) := by decide +kernel
theorem ds_cod_7 : decode bs_cod 7 = .ok (.getfield 15, 3) := by decide +kernel
theorem ds_cod_10 : decode bs_cod 10 = .ok (.goto 4, 3) := by decide +kernel
theorem ds_cod_14 : decode bs_cod 14 = .ok (.ireturn, 1) := by decide +kernel
theorem ds_lat_0 : decode bs_lat 0 = .ok (.getstatic 38, 3) := by decide +kernel
theorem ds_lat_3 : decode bs_lat 3 = .ok (.ifCond .eq 14, 3) := by decide +kernel
theorem ds_lat_6 : decode bs_lat 6 = .ok (.aload_n 0, 1) := by decide +kernel
theorem ds_lat_7 : decode bs_lat 7 = .ok (.getfield 15, 3) := by decide +kernel
theorem ds_lat_10 : decode bs_lat 10 = .ok (.ifCond .ne 7, 3) := by decide +kernel
theorem ds_lat_13 : decode bs_lat 13 = .ok (.iconst 1, 1) := by decide +kernel
theorem ds_lat_14 : decode bs_lat 14 = .ok (.goto 4, 3) := by decide +kernel
theorem ds_lat_18 : decode bs_lat 18 = .ok (.ireturn, 1) := by decide +kernel
theorem ds_chr_0 : decode bs_chr 0 = .ok (.aload_n 0, 1) := by decide +kernel
theorem ds_chr_1 : decode bs_chr 1 = .ok (.invokevirtual 492, 3) := by decide +kernel
theorem ds_chr_4 : decode bs_chr 4 = .ok (.ifCond .eq 12, 3) := by decide +kernel
theorem ds_chr_7 : decode bs_chr 7 = .ok (.aload_n 0, 1) := by decide +kernel
theorem ds_chr_8 : decode bs_chr 8 = .ok (.getfield 9, 3) := by decide +kernel
theorem ds_chr_11 : decode bs_chr 11 = .ok (.iload_n 1, 1) := by decide +kernel
theorem ds_chr_12 : decode bs_chr 12 = .ok (.invokestatic 495, 3) := by decide +kernel
theorem ds_chr_15 : decode bs_chr 15 = .ok (.ireturn, 1) := by decide +kernel
theorem ds_lch_0 : decode bs_lch 0 = .ok (.iload_n 1, 1) := by decide +kernel
theorem ds_lch_1 : decode bs_lch 1 = .ok (.aload_n 0, 1) := by decide +kernel
theorem ds_lch_2 : decode bs_lch 2 = .ok (.arraylength, 1) := by decide +kernel
theorem ds_lch_3 : decode bs_lch 3 = .ok (.invokestatic 9, 3) := by decide +kernel
theorem ds_lch_6 : decode bs_lch 6 = .ok (.aload_n 0, 1) := by decide +kernel
theorem ds_lch_7 : decode bs_lch 7 = .ok (.iload_n 1, 1) := by decide +kernel
theorem ds_lch_8 : decode bs_lch 8 = .ok (.baload, 1) := by decide +kernel
theorem ds_lch_9 : decode bs_lch 9 = .ok (.sipush 255, 3) := by decide +kernel
theorem ds_lch_12 : decode bs_lch 12 = .ok (.iand, 1) := by decide +kernel
theorem ds_lch_13 : decode bs_lch 13 = .ok (.i2c, 1) := by decide +kernel
theorem ds_lch_14 : decode bs_lch 14 = .ok (.ireturn, 1) := by decide +kernel
theorem ds_chk_0 : decode bs_chk 0 = .ok (.iload_n 0, 1) := by decide +kernel
theorem ds_chk_1 : decode bs_chk 1 = .ok (.iload_n 1, 1) := by decide +kernel
theorem ds_chk_2 : decode bs_chk 2 = .ok (.getstatic 1053, 3) := by decide +kernel
theorem ds_chk_5 : decode bs_chk 5 = .ok (.invokestatic 1059, 3) := by decide +kernel
theorem ds_chk_8 : decode bs_chk 8 = .ok (.pop, 1) := by decide +kernel
theorem ds_chk_9 : decode bs_chk 9 = .ok (.return_, 1) := by decide +kernel
theorem ds_pre_0 : decode bs_pre 0 = .ok (.iload_n 0, 1) := by decide +kernel
theorem ds_pre_1 : decode bs_pre 1 = .ok (.ifCond .lt 8, 3) := by decide +kernel
theorem ds_pre_4 : decode bs_pre 4 = .ok (.iload_n 0, 1) := by decide +kernel
theorem ds_pre_5 : decode bs_pre 5 = .ok (.iload_n 1, 1) := by decide +kernel
theorem ds_pre_6 : decode bs_pre 6 = .ok (.if_icmp .lt 10, 3) := by decide +kernel
theorem ds_pre_16 : decode bs_pre 16 = .ok (.iload_n 0, 1) := by decide +kernel
theorem ds_pre_17 : decode bs_pre 17 = .ok (.ireturn, 1) := by decide +kernel
theorem xs_S {A : Nat → Prop} {H0 H : Heap} {locs : List Loc} (h : va_S (fun _ => False) H0 H locs) : va_S A H0 H locs := ⟨h.1, fun q h1 _ => h.2.1 q h1 (fun z => z), fun l hl => (h.2.2 l hl).elim⟩
theorem xs_blind (base : Nat) (ad : Int → Nat) (av : List Value) : FrameBlind (va_Pc av (fun U => ax_SP base ad U U.heap)) := by
  intro a U g mk q
  exact ⟨q.1, ax_SP.go (s := U) (U := U.calling g mk a) (H := U.heap) (locs := []) q.2 (State.WarmedH.refl U) va_S.rf⟩
def xs_rm (k : Nat) : Room := { frames := k, cells := 0, slots := 0, locals := 64 * k }
theorem xs_good (y : MethodName) (b : ByteArray) (n : Nat) (r : Option FieldType) (h : Cond.code y b n r ∈ ax_tt) : GoodIn ax_tt (Cond.code y b n r :: ax_tt) := fun w hw => by
  rcases List.mem_cons.mp hw with rfl | hw
  · exact ax_tt_good _ h
  · exact ax_tt_good w hw
theorem xs_chars : (ax_Sb.all fun l => l.all fun c => decide (c < 128)) = true := by decide +kernel
theorem xs_len23 : ax_Sb.length = 23 := by decide +kernel
theorem xs_lens : (ax_Sb.all fun l => decide (l.length < 1000)) = true := by decide +kernel
theorem xs_and : ∀ c, c < 128 → ((Int32.ofNat c &&& Int32.ofInt 255).toUInt32 % 65536).toInt32 = Int32.ofNat c := by decide +kernel
theorem xs_gd {α : Type} (B : List α) (d : α) {n : Nat} (h : n < B.length) : B.getD n d = B[n] := by simp [List.getD, h]
theorem xs_md (B : List Nat) {n : Nat} (h : n < B.length) : (B.map Int32.ofNat).getD n 0 = Int32.ofNat (B.getD n 0) := by simp [List.getD, h]
theorem cs_cod (l : Launch) (base : Nat) (ad : Int → Nat) (i : Nat) (hi : i < 23) : Met l ys_cod (Cond.code ys_cod bs_cod 1 (some .byte) :: ax_tt) (xs_rm 1) (va_Pc ([.ref (ad (-2 - (i : Int)))]) (fun U => ax_SP base ad U U.heap)) (va_Qi (fun (z : Int32) (_ : Unit) => z = 0) (fun _ _ => True) (fun _ => False)) 0 0 (fun _ => False) := by
  refine Met.ofW (cc := bs_cod) (maxL := 1) (ret := (some .byte)) (by decide) rfl ?_
  intro p e s m args below meth c s₁ B hml hv
  obtain ⟨rfl, hSP⟩ := hv
  have hx := B.exec
  have hb := B.bytes
  have hr := B.returns
  have hts0 := atoms_spec (ws := Cond.code ys_cod bs_cod 1 (some .byte) :: ax_tt) B.pre
  have hts : ∀ w ∈ ax_tt, w.before _ s = true := fun w hw => hts0 w (List.mem_cons_of_mem _ hw)
  have hown : s.vm.findClass "java/lang/String" = some m.cls := findClass_of_methodNamed B.named
  have hlocks := B.notSynchronized
  have hS : va_S (fun _ => False) s.heap s.heap [] := va_S.rf
  have hl := lv_entry ([.ref (ad (-2 - (i : Int)))]) (n := 1) (Nat.le_of_ble_eq_true rfl)
  rw [lg_entry_eq]
  generalize (lg_sl ([.ref (ad (-2 - (i : Int)))]) ++ List.replicate (1 - (lg_sl ([.ref (ad (-2 - (i : Int)))])).length) Slot.unset).toArray = ls at hl ⊢
  have hl : lv_has ls 1 [(0, .ref (ad (-2 - (i : Int))))] := hl
  obtain ⟨adV, hV⟩ := hSP.2.2.2.2.2.1
  refine va_gets hx hb hSP.2.2.2.2.2.2.1 (xs_S hS) hown (hts _ ws_f_cs) (fun _ h => h) ds_cod_0 ?_
  refine lv_if_eq (tgt := 13) hx hb ds_cod_3 (by decide) (fun q => absurd q (by decide)) (fun _ => ?_)
  refine lv_aload_n hx hb ds_cod_6 rfl (lv_at hl 0 rfl) ?_
  refine vk_getf hx hb (hV.1 i hi).2.1 (xs_S hS) hown (hts _ ws_f_cod) (fun _ h => h) ds_cod_7 ?_
  refine lv_goto (tgt := 14) hx hb ds_cod_10 (by decide) ?_
  exact W.zret hx hb hr rfl (fun t ht hW => ⟨⟨_, (), rfl, rfl, trivial⟩, hS.F ht⟩) (fun q hq => hS.2.2 q hq) ds_cod_14
theorem cs_lat (l : Launch) (base : Nat) (ad : Int → Nat) (i : Nat) (hi : i < 23) : Met l ys_lat (Cond.code ys_lat bs_lat 1 (some .boolean) :: ax_tt) (xs_rm 1) (va_Pc ([.ref (ad (-2 - (i : Int)))]) (fun U => ax_SP base ad U U.heap)) (va_Qi (fun (z : Int32) (_ : Unit) => z = 1) (fun _ _ => True) (fun _ => False)) 0 0 (fun _ => False) := by
  refine Met.ofW (cc := bs_lat) (maxL := 1) (ret := (some .boolean)) (by decide) rfl ?_
  intro p e s m args below meth c s₁ B hml hv
  obtain ⟨rfl, hSP⟩ := hv
  have hx := B.exec
  have hb := B.bytes
  have hr := B.returns
  have hts0 := atoms_spec (ws := Cond.code ys_lat bs_lat 1 (some .boolean) :: ax_tt) B.pre
  have hts : ∀ w ∈ ax_tt, w.before _ s = true := fun w hw => hts0 w (List.mem_cons_of_mem _ hw)
  have hown : s.vm.findClass "java/lang/String" = some m.cls := findClass_of_methodNamed B.named
  have hlocks := B.notSynchronized
  have hS : va_S (fun _ => False) s.heap s.heap [] := va_S.rf
  have hl := lv_entry ([.ref (ad (-2 - (i : Int)))]) (n := 1) (Nat.le_of_ble_eq_true rfl)
  rw [lg_entry_eq]
  generalize (lg_sl ([.ref (ad (-2 - (i : Int)))]) ++ List.replicate (1 - (lg_sl ([.ref (ad (-2 - (i : Int)))])).length) Slot.unset).toArray = ls at hl ⊢
  have hl : lv_has ls 1 [(0, .ref (ad (-2 - (i : Int))))] := hl
  obtain ⟨adV, hV⟩ := hSP.2.2.2.2.2.1
  refine va_gets hx hb hSP.2.2.2.2.2.2.1 (xs_S hS) hown (hts _ ws_f_cs) (fun _ h => h) ds_lat_0 ?_
  refine lv_if_eq (tgt := 17) hx hb ds_lat_3 (by decide) (fun q => absurd q (by decide)) (fun _ => ?_)
  refine lv_aload_n hx hb ds_lat_6 rfl (lv_at hl 0 rfl) ?_
  refine vk_getf hx hb (hV.1 i hi).2.1 (xs_S hS) hown (hts _ ws_f_cod) (fun _ h => h) ds_lat_7 ?_
  refine lv_if_ne (tgt := 17) hx hb ds_lat_10 (by decide) (fun q => absurd rfl q) (fun _ => ?_)
  refine lv_iconst (v := 1) hx hb ds_lat_13 (by decide) ?_
  refine lv_goto (tgt := 18) hx hb ds_lat_14 (by decide) ?_
  exact W.zret hx hb hr rfl (fun t ht hW => ⟨⟨_, (), rfl, rfl, trivial⟩, hS.F ht⟩) (fun q hq => hS.2.2 q hq) ds_lat_18
theorem cs_len (l : Launch) (base : Nat) (ad : Int → Nat) (i : Nat) (hi : i < 23) : Met l ys_len (Cond.code ys_len bs_len 1 (some .int) :: ax_tt) (xs_rm 3) (va_Pc ([.ref (ad (-2 - (i : Int)))]) (fun U => ax_SP base ad U U.heap)) (va_Qi (fun (z : Int32) (_ : Unit) => z = Int32.ofNat (ax_Sb.getD i []).length) (fun _ _ => True) (fun _ => False)) 0 0 (fun _ => False) := by
  refine Met.ofW (cc := bs_len) (maxL := 1) (ret := (some .int)) (by decide) rfl ?_
  intro p e s m args below meth c s₁ B hml hv
  obtain ⟨rfl, hSP⟩ := hv
  have hx := B.exec
  have hb := B.bytes
  have hr := B.returns
  have hts0 := atoms_spec (ws := Cond.code ys_len bs_len 1 (some .int) :: ax_tt) B.pre
  have hts : ∀ w ∈ ax_tt, w.before _ s = true := fun w hw => hts0 w (List.mem_cons_of_mem _ hw)
  have hown : s.vm.findClass "java/lang/String" = some m.cls := findClass_of_methodNamed B.named
  have hlocks := B.notSynchronized
  have hS : va_S (fun _ => False) s.heap s.heap [] := va_S.rf
  have hl := lv_entry ([.ref (ad (-2 - (i : Int)))]) (n := 1) (Nat.le_of_ble_eq_true rfl)
  rw [lg_entry_eq]
  generalize (lg_sl ([.ref (ad (-2 - (i : Int)))]) ++ List.replicate (1 - (lg_sl ([.ref (ad (-2 - (i : Int)))])).length) Slot.unset).toArray = ls at hl ⊢
  have hl : lv_has ls 1 [(0, .ref (ad (-2 - (i : Int))))] := hl
  obtain ⟨adV, hV⟩ := hSP.2.2.2.2.2.1
  have hlen : (ax_Sb.map List.length).getD i 0 = (ax_Sb.getD i []).length := by
    have h23 : i < ax_Sb.length := by rw [xs_len23]; exact hi
    simp [List.getD, h23]
  refine lv_aload_n hx hb ds_len_0 rfl (lv_at hl 0 rfl) ?_
  refine vk_getf hx hb (hV.1 i hi).2.2.1 (xs_S hS) hown (hts _ ws_f_val) (fun _ h => h) ds_len_1 ?_
  refine va_tlen hx hb (hV.1 i hi).2.2.2 (xs_S hS) rfl ds_len_4 ?_
  rw [hlen]
  refine lv_aload_n hx hb ds_len_5 rfl (lv_at hl 0 rfl) ?_
  refine va_calli (va_runV (As := []) (rest := [.int (Int32.ofNat (ax_Sb.getD i []).length)]) ⟨hx, hb, hml, hown, hts⟩ (cs_cod l base ad i hi) (cwV 0 hts (fun w hw => ?_) rfl rfl rfl (by decide) ⟨Nat.le_of_ble_eq_true rfl, Nat.le_of_ble_eq_true rfl⟩) ⟨xs_blind base ad _, vk_recv hV hi (xs_S hS), fun U hU hW => ⟨rfl, by show ax_SP base ad U U.heap; rw [hU]; exact hSP.go hW (xs_S hS)⟩⟩ rfl rfl hl.1 rfl (lv_room (Nat.le_of_ble_eq_true rfl)) ds_len_6 ⟨Nat.le_of_ble_eq_true rfl, Nat.le_of_ble_eq_true rfl⟩) hS (fun q _ h => h) (fun q h => h) (fun z u t H1 locs ht hvm hpost hB hz hk hS => ?_)
  · rcases List.mem_append.mp hw with hw | hw
    · have hmem : w ∈ ax_tt := by
        simp only [List.mem_cons, List.not_mem_nil, or_false] at hw
        rcases hw with rfl | rfl | rfl | rfl
        · exact ws_l_cod
        · exact ws_m_cod
        · exact ws_s_cod
        · exact ws_i_S
      exact ax_tt_good w hmem
    · exact xs_good _ _ _ _ ws_c_cod w hw
  subst hpost
  refine lv_ishr hx hb ds_len_9 ?_
  have e0 : Int32.ofNat (ax_Sb.getD i []).length >>> ((0 : Int32) &&& 31) = Int32.ofNat (ax_Sb.getD i []).length := by
    rw [show ((0 : Int32) &&& 31) = 0 by decide, Int32.shiftRight_zero]
  rw [e0]
  exact W.iret hx hb hr (fun t ht hW => ⟨⟨_, (), rfl, rfl, trivial⟩, hS.F ht⟩) (fun q hq => hS.2.2 q hq) ds_len_10
theorem cs_pre (l : Launch) (base : Nat) (ad : Int → Nat) (i n : Int32) (v : Value) (hv0 : v = .null ∨ ∃ a, v = .ref a) (h0 : ¬ i < 0) (h1 : i < n) : Met l ys_pre (Cond.code ys_pre bs_pre 3 (some .int) :: ax_tt) (xs_rm 1) (va_Pc ([.int i, .int n, v]) (fun U => ax_SP base ad U U.heap)) (va_Qi (fun (z : Int32) (_ : Unit) => z = i) (fun _ _ => True) (fun _ => False)) 0 0 (fun _ => False) := by
  have hcat : v.category = 1 := by
    rcases hv0 with rfl | ⟨a, rfl⟩ <;> rfl
  have hsl3 : (lg_sl [.int i, .int n, v]).length ≤ 3 := by
    rcases hv0 with rfl | ⟨a, rfl⟩ <;> exact Nat.le_of_ble_eq_true rfl
  refine Met.ofW (cc := bs_pre) (maxL := 3) (ret := (some .int)) (by decide) rfl ?_
  intro p e s m args below meth c s₁ B hml hv
  obtain ⟨rfl, hSP⟩ := hv
  have hx := B.exec
  have hb := B.bytes
  have hr := B.returns
  have hts0 := atoms_spec (ws := Cond.code ys_pre bs_pre 3 (some .int) :: ax_tt) B.pre
  have hts : ∀ w ∈ ax_tt, w.before _ s = true := fun w hw => hts0 w (List.mem_cons_of_mem _ hw)
  have hown : s.vm.findClass "jdk/internal/util/Preconditions" = some m.cls := findClass_of_methodNamed B.named
  have hlocks := B.notSynchronized
  have hS : va_S (fun _ => False) s.heap s.heap [] := va_S.rf
  have hl := lv_entry ([.int i, .int n, v]) (n := 3) hsl3
  rw [lg_entry_eq]
  generalize (lg_sl ([.int i, .int n, v]) ++ List.replicate (3 - (lg_sl ([.int i, .int n, v])).length) Slot.unset).toArray = ls at hl ⊢
  have hl : lv_has ls 3 [(0, .int i), (1, .int n)] := lv_sub hl [0, 1] rfl
  refine lv_iload_n hx hb ds_pre_0 rfl (lv_at hl 0 rfl) ?_
  refine lv_if_lt (tgt := 9) hx hb ds_pre_1 (by decide) (fun q => absurd q h0) (fun _ => ?_)
  refine lv_iload_n hx hb ds_pre_4 rfl (lv_at hl 0 rfl) ?_
  refine lv_iload_n hx hb ds_pre_5 rfl (lv_at hl 1 rfl) ?_
  refine lv_icmp_lt (tgt := 16) hx hb ds_pre_6 (by decide) (fun _ => ?_) (fun q => absurd h1 q)
  refine lv_iload_n hx hb ds_pre_16 rfl (lv_at hl 0 rfl) ?_
  exact W.iret hx hb hr (fun t ht hW => ⟨⟨_, (), rfl, rfl, trivial⟩, hS.F ht⟩) (fun q hq => hS.2.2 q hq) ds_pre_17
theorem cs_chk (l : Launch) (base : Nat) (ad : Int → Nat) (i n : Int32) (h0 : ¬ i < 0) (h1 : i < n) : Met l ys_chk (Cond.code ys_chk bs_chk 2 none :: ax_tt) (xs_rm 3) (va_Pc ([.int i, .int n]) (fun U => ax_SP base ad U U.heap)) (va_Qv (fun (_ : Unit) => True) (fun _ _ => True) (fun _ => False)) 0 0 (fun _ => False) := by
  refine Met.ofW (cc := bs_chk) (maxL := 2) (ret := none) (by decide) rfl ?_
  intro p e s m args below meth c s₁ B hml hv
  obtain ⟨rfl, hSP⟩ := hv
  have hx := B.exec
  have hb := B.bytes
  have hr := B.returns
  have hts0 := atoms_spec (ws := Cond.code ys_chk bs_chk 2 none :: ax_tt) B.pre
  have hts : ∀ w ∈ ax_tt, w.before _ s = true := fun w hw => hts0 w (List.mem_cons_of_mem _ hw)
  have hown : s.vm.findClass "java/lang/String" = some m.cls := findClass_of_methodNamed B.named
  have hlocks := B.notSynchronized
  have hS : va_S (fun _ => False) s.heap s.heap [] := va_S.rf
  have hl := lv_entry ([.int i, .int n]) (n := 2) (Nat.le_of_ble_eq_true rfl)
  rw [lg_entry_eq]
  generalize (lg_sl ([.int i, .int n]) ++ List.replicate (2 - (lg_sl ([.int i, .int n])).length) Slot.unset).toArray = ls at hl ⊢
  have hl : lv_has ls 2 [(0, .int i), (1, .int n)] := hl
  refine lv_iload_n hx hb ds_chk_0 rfl (lv_at hl 0 rfl) ?_
  refine lv_iload_n hx hb ds_chk_1 rfl (lv_at hl 1 rfl) ?_
  have hgo : ∀ v : Value, (v = .null ∨ ∃ a, v = .ref a) → va_Z "jdk/internal/util/Preconditions" "SIOOBE_FORMATTER" "Ljava/util/function/BiFunction;" v (ax_A base) s s.heap → W p l e (headSpec (Cond.code ys_chk bs_chk 2 none :: ax_tt) (xs_rm 3)).room s m [Value.int i, Value.int n].toArray below meth c s.heap [] 0 0 (MQ below (va_Qv (fun (_ : Unit) => True) (fun _ _ => True) (fun _ => False)) [Value.int i, Value.int n].toArray s 0 0 (fun _ => False)) (F0 m 2 ls [.int n, .int i]) := by
    intro v hv hZ
    refine va_gets hx hb hZ (xs_S hS) hown (hts _ ws_f_sio) (fun _ h => h) ds_chk_2 ?_
    refine va_calli (va_runS (As := [.int i, .int n, v]) (rest := []) ⟨hx, hb, hml, hown, hts⟩ (cs_pre l base ad i n v hv h0 h1) ⟨callB_of 3 hts (xs_good _ _ _ _ ws_c_pre) rfl rfl rfl (hts _ ws_i_P) (hts _ ws_l_pre) (by decide) ⟨Nat.le_of_ble_eq_true rfl, Nat.le_of_ble_eq_true rfl⟩, hts _ ws_t_pre⟩ ⟨xs_blind base ad _, fun U hU hW => ⟨rfl, by show ax_SP base ad U U.heap; rw [hU]; exact hSP.go hW (xs_S hS)⟩⟩ rfl rfl hl.1 rfl (lv_room (Nat.le_of_ble_eq_true rfl)) ds_chk_5 ⟨Nat.le_of_ble_eq_true rfl, Nat.le_of_ble_eq_true rfl⟩) hS (fun q _ h => h) (fun q h => h) (fun z u t H1 locs ht hvm hpost hB hz hk hS => ?_)
    refine lv_pop hx hb ds_chk_8 rfl ?_
    exact W.vret hx hb hr (fun t ht hW => ⟨⟨(), rfl, trivial, trivial⟩, hS.F ht⟩) (fun q hq => hS.2.2 q hq) ds_chk_9
  rcases hSP.2.2.2.2.2.2.2 with h | ⟨a, h⟩
  · exact hgo _ (Or.inl rfl) h
  · exact hgo _ (Or.inr ⟨a, rfl⟩) h
theorem cs_lch (l : Launch) (base : Nat) (ad : Int → Nat) (i : Nat) (hi : i < 23) (j : Int32) (adV : Nat → Nat) (h0 : ¬ j < 0) (h1 : j.toNatClampNeg < (ax_Sb.getD i []).length) : Met l ys_lch (Cond.code ys_lch bs_lch 2 (some .char) :: ax_tt) (xs_rm 5) (va_Pc ([.ref (adV i), .int j]) (fun U => ax_SP base ad U U.heap ∧ vk_S 23 (ax_Sb.map List.length) (ax_Sb.map (List.map Int32.ofNat)) (fun i => ad (-2 - (i : Int))) adV (ax_A base) U U.heap)) (va_Qi (fun (z : Int32) (_ : Unit) => z = Int32.ofNat ((ax_Sb.getD i []).getD j.toNatClampNeg 0)) (fun _ _ => True) (fun _ => False)) 0 0 (fun _ => False) := by
  refine Met.ofW (cc := bs_lch) (maxL := 2) (ret := (some .char)) (by decide) rfl ?_
  intro p e s m args below meth c s₁ B hml hv
  obtain ⟨rfl, hSP, hV⟩ := hv
  have hx := B.exec
  have hb := B.bytes
  have hr := B.returns
  have hts0 := atoms_spec (ws := Cond.code ys_lch bs_lch 2 (some .char) :: ax_tt) B.pre
  have hts : ∀ w ∈ ax_tt, w.before _ s = true := fun w hw => hts0 w (List.mem_cons_of_mem _ hw)
  have hown : s.vm.findClass "java/lang/StringLatin1" = some m.cls := findClass_of_methodNamed B.named
  have hlocks := B.notSynchronized
  have hS : va_S (fun _ => False) s.heap s.heap [] := va_S.rf
  have hl := lv_entry ([.ref (adV i), .int j]) (n := 2) (Nat.le_of_ble_eq_true rfl)
  rw [lg_entry_eq]
  generalize (lg_sl ([.ref (adV i), .int j]) ++ List.replicate (2 - (lg_sl ([.ref (adV i), .int j])).length) Slot.unset).toArray = ls at hl ⊢
  have hl : lv_has ls 2 [(0, .ref (adV i)), (1, .int j)] := hl
  have h23 : i < ax_Sb.length := by rw [xs_len23]; exact hi
  have hlen : (ax_Sb.map List.length).getD i 0 = (ax_Sb.getD i []).length := by simp [List.getD, h23]
  have hbyt : (ax_Sb.map (List.map Int32.ofNat)).getD i [] = (ax_Sb.getD i []).map Int32.ofNat := by simp [List.getD, h23]
  have hT := (hV.1 i hi).2.2.2
  rw [hlen, hbyt] at hT
  have hmem : ax_Sb.getD i [] ∈ ax_Sb := by
    simp only [List.getD, List.getElem?_eq_getElem h23, Option.getD_some]
    exact List.getElem_mem h23
  have hl1000 : (ax_Sb.getD i []).length < 1000 := of_decide_eq_true (List.all_eq_true.mp xs_lens _ hmem)
  have hjn : j < Int32.ofNat (ax_Sb.getD i []).length := by
    rw [Int32.lt_iff_toInt_lt, ax_ofn, ax_tii (by unfold ax_r32; omega)]
    have e1 : j.toInt.toNat = j.toNatClampNeg := rfl
    omega
  have hvin : vp_in j (ax_Sb.getD i []).length := fun q => by
    rcases q with q | q
    · exact h0 q
    · omega
  refine lv_iload_n hx hb ds_lch_0 rfl (lv_at hl 1 rfl) ?_
  refine lv_aload_n hx hb ds_lch_1 rfl (lv_at hl 0 rfl) ?_
  refine va_tlen hx hb hT (xs_S hS) rfl ds_lch_2 ?_
  refine va_callv (va_runS (As := [.int j, .int (Int32.ofNat (ax_Sb.getD i []).length)]) (rest := []) ⟨hx, hb, hml, hown, hts⟩ (cs_chk l base ad j _ h0 hjn) ⟨callB_of 2 hts (xs_good _ _ _ _ ws_c_chk) rfl rfl rfl (hts _ ws_i_S) (hts _ ws_l_chk) (by decide) ⟨Nat.le_of_ble_eq_true rfl, Nat.le_of_ble_eq_true rfl⟩, hts _ ws_t_chk⟩ ⟨xs_blind base ad _, fun U hU hW => ⟨rfl, by show ax_SP base ad U U.heap; rw [hU]; exact hSP.go hW (xs_S hS)⟩⟩ rfl rfl hl.1 rfl (lv_room (Nat.le_of_ble_eq_true rfl)) ds_lch_3 ⟨Nat.le_of_ble_eq_true rfl, Nat.le_of_ble_eq_true rfl⟩) hS (fun q _ h => h) (fun q h => h) (fun u t H1 locs ht hvm hpost hB hz hk hS => ?_)
  refine lv_aload_n hx hb ds_lch_6 rfl (lv_at hl 0 rfl) ?_
  refine lv_iload_n hx hb ds_lch_7 rfl (lv_at hl 1 rfl) ?_
  refine va_tb hx hb hT (xs_S hS) hvin (v := .int (Int32.ofNat ((ax_Sb.getD i []).getD j.toNatClampNeg 0))) (by rw [xs_md _ h1]) ds_lch_8 ?_
  refine lv_sipush (v := Int32.ofInt 255) hx hb ds_lch_9 (by decide) ?_
  refine lv_iand hx hb ds_lch_12 ?_
  have hc128 : (ax_Sb.getD i []).getD j.toNatClampNeg 0 < 128 := by
    have h2 := List.all_eq_true.mp xs_chars _ hmem
    have h3 : (ax_Sb.getD i []).getD j.toNatClampNeg 0 ∈ ax_Sb.getD i [] := by
      have e1 : (ax_Sb.getD i []).getD j.toNatClampNeg 0 = (ax_Sb.getD i [])[j.toNatClampNeg] := xs_gd _ _ h1
      rw [e1]
      exact List.getElem_mem h1
    exact of_decide_eq_true (List.all_eq_true.mp h2 _ h3)
  refine lv_i2c (v := Int32.ofNat ((ax_Sb.getD i []).getD j.toNatClampNeg 0)) hx hb ds_lch_13 (xs_and _ hc128) ?_
  refine W.zret hx hb hr ?_ (fun t ht hW => ⟨⟨_, (), rfl, rfl, trivial⟩, hS.F ht⟩) (fun q hq => hS.2.2 q hq) ds_lch_14
  have : ∀ c, c < 128 → narrow .char (.int (Int32.ofNat c)) = .int (Int32.ofNat c) := by decide +kernel
  exact this _ hc128
theorem cs_chr (l : Launch) (base : Nat) (ad : Int → Nat) (i : Nat) (hi : i < 23) (j : Int32) (h0 : ¬ j < 0) (h1 : j.toNatClampNeg < (ax_Sb.getD i []).length) : Met l ys_chr (Cond.code ys_chr bs_chr 2 (some .char) :: ax_tt) (xs_rm 7) (va_Pc ([.ref (ad (-2 - (i : Int))), .int j]) (fun U => ax_SP base ad U U.heap)) (va_Qi (fun (z : Int32) (_ : Unit) => z = Int32.ofNat ((ax_Sb.getD i []).getD j.toNatClampNeg 0)) (fun _ _ => True) (fun _ => False)) 0 0 (fun _ => False) := by
  refine Met.ofW (cc := bs_chr) (maxL := 2) (ret := (some .char)) (by decide) rfl ?_
  intro p e s m args below meth c s₁ B hml hv
  obtain ⟨rfl, hSP⟩ := hv
  have hx := B.exec
  have hb := B.bytes
  have hr := B.returns
  have hts0 := atoms_spec (ws := Cond.code ys_chr bs_chr 2 (some .char) :: ax_tt) B.pre
  have hts : ∀ w ∈ ax_tt, w.before _ s = true := fun w hw => hts0 w (List.mem_cons_of_mem _ hw)
  have hown : s.vm.findClass "java/lang/String" = some m.cls := findClass_of_methodNamed B.named
  have hlocks := B.notSynchronized
  have hS : va_S (fun _ => False) s.heap s.heap [] := va_S.rf
  have hl := lv_entry ([.ref (ad (-2 - (i : Int))), .int j]) (n := 2) (Nat.le_of_ble_eq_true rfl)
  rw [lg_entry_eq]
  generalize (lg_sl ([.ref (ad (-2 - (i : Int))), .int j]) ++ List.replicate (2 - (lg_sl ([.ref (ad (-2 - (i : Int))), .int j])).length) Slot.unset).toArray = ls at hl ⊢
  have hl : lv_has ls 2 [(0, .ref (ad (-2 - (i : Int)))), (1, .int j)] := hl
  obtain ⟨adV, hV⟩ := hSP.2.2.2.2.2.1
  have h23 : i < ax_Sb.length := by rw [xs_len23]; exact hi
  refine lv_aload_n hx hb ds_chr_0 rfl (lv_at hl 0 rfl) ?_
  refine va_calli (va_runV (As := []) (rest := []) ⟨hx, hb, hml, hown, hts⟩ (cs_lat l base ad i hi) (cwV 0 hts (fun w hw => ?_) rfl rfl rfl (by decide) ⟨Nat.le_of_ble_eq_true rfl, Nat.le_of_ble_eq_true rfl⟩) ⟨xs_blind base ad _, vk_recv hV hi (xs_S hS), fun U hU hW => ⟨rfl, by show ax_SP base ad U U.heap; rw [hU]; exact hSP.go hW (xs_S hS)⟩⟩ rfl rfl hl.1 rfl (lv_room (Nat.le_of_ble_eq_true rfl)) ds_chr_1 ⟨Nat.le_of_ble_eq_true rfl, Nat.le_of_ble_eq_true rfl⟩) hS (fun q _ h => h) (fun q h => h) (fun z u t H1 locs ht hvm hpost hB hz hk hS => ?_)
  · rcases List.mem_append.mp hw with hw | hw
    · have hmem : w ∈ ax_tt := by
        simp only [List.mem_cons, List.not_mem_nil, or_false] at hw
        rcases hw with rfl | rfl | rfl | rfl
        · exact ws_l_lat
        · exact ws_m_lat
        · exact ws_s_lat
        · exact ws_i_S
      exact ax_tt_good w hmem
    · exact xs_good _ _ _ _ ws_c_lat w hw
  subst hpost
  refine lv_if_eq (tgt := 16) hx hb ds_chr_4 (by decide) (fun q => absurd q (by decide)) (fun _ => ?_)
  refine lv_aload_n hx hb ds_chr_7 rfl (lv_at hl 0 rfl) ?_
  refine vk_getf hx hb (hV.1 i hi).2.2.1 (xs_S hS) hown (hts _ ws_f_val) (fun _ h => h) ds_chr_8 ?_
  refine lv_iload_n hx hb ds_chr_11 rfl (lv_at hl 1 rfl) ?_
  refine va_calli (va_runS (As := [.ref (adV i), .int j]) (rest := []) ⟨hx, hb, hml, hown, hts⟩ (cs_lch l base ad i hi j adV h0 h1) ⟨callB_of 2 hts (xs_good _ _ _ _ ws_c_lch) rfl rfl rfl (hts _ ws_i_L) (hts _ ws_l_lch) (by decide) ⟨Nat.le_of_ble_eq_true rfl, Nat.le_of_ble_eq_true rfl⟩, hts _ ws_t_lch⟩ ⟨fun a U g mk q => ⟨q.1, ax_SP.go (s := U) (U := U.calling g mk a) (H := U.heap) (locs := []) q.2.1 (State.WarmedH.refl U) va_S.rf, (q.2.2.moved (Vm.Alike.refl U.vm))⟩, fun U hU hW => ⟨rfl, by show ax_SP base ad U U.heap; rw [hU]; exact hSP.go hW (xs_S hS), by rw [hU]; exact (hV.moved hW.alike).kept (xs_S (A := ax_A base) hS).2.1⟩⟩ rfl rfl hl.1 rfl (lv_room (Nat.le_of_ble_eq_true rfl)) ds_chr_12 ⟨Nat.le_of_ble_eq_true rfl, Nat.le_of_ble_eq_true rfl⟩) hS (fun q _ h => h) (fun q h => h) (fun z u t H2 locs2 ht2 hvm2 hpost2 hB2 hz2 hk2 hS => ?_)
  subst hpost2
  have hmem : ax_Sb.getD i [] ∈ ax_Sb := by
    simp only [List.getD, List.getElem?_eq_getElem h23, Option.getD_some]
    exact List.getElem_mem h23
  have hc128 : (ax_Sb.getD i []).getD j.toNatClampNeg 0 < 128 := by
    have h2 := List.all_eq_true.mp xs_chars _ hmem
    have h3 : (ax_Sb.getD i []).getD j.toNatClampNeg 0 ∈ ax_Sb.getD i [] := by
      have e1 : (ax_Sb.getD i []).getD j.toNatClampNeg 0 = (ax_Sb.getD i [])[j.toNatClampNeg] := xs_gd _ _ h1
      rw [e1]
      exact List.getElem_mem h1
    exact of_decide_eq_true (List.all_eq_true.mp h2 _ h3)
  refine W.zret hx hb hr ?_ (fun t ht hW => ⟨⟨_, (), rfl, rfl, trivial⟩, hS.F ht⟩) (fun q hq => hS.2.2 q hq) ds_chr_15
  have : ∀ c, c < 128 → narrow .char (.int (Int32.ofNat c)) = .int (Int32.ofNat c) := by decide +kernel
  exact this _ hc128
section AXS
variable {p : Program} {l : Launch} {e : Env} {R : Room} {s : State} {mi : MethodId} {args : Array Value} {below : List Frame} {meth : Method} {c : Code} {Q : State → Prop} {cc : ByteArray} {D : va_G} {base : Nat} {ad : Int → Nat} {nL n0 s0 : Nat}
theorem xs_back {pc : Nat} {lsM : Array Slot} {st0 : List Value} {Hp : Heap} {locs : List Loc} {cells slots : Nat} {a : Array Value} {z0 : Int32} {x : Int} {ls st rest : List ax_V} {H : ax_H}
    (hrun : va_Run p l e R s mi args below meth c Hp locs cells slots 0 0 (F0 mi pc lsM st0) (rest.map (ax_tv ad)) (va_Qi (fun (z : Int32) (_ : Unit) => z = z0) (fun _ _ => True) (fun _ => False) a) (fun _ => False)) (hz0 : z0 = Int32.ofInt x) (hxr : ax_r32 x)
    (hr : ax_Rel D base ad s nL n0 s0 ls st H lsM Hp locs cells slots) (hok : ∀ v ∈ rest, ax_ok v) (kk : ax_G p l e R s mi args below meth c Q D base ad nL n0 s0 (pc + 3) ls ((0, x) :: rest) H) : W p l e R s mi args below meth c Hp locs cells slots Q (F0 mi pc lsM st0) := by
  refine va_calli hrun hr.2.2.2.1 (fun q _ h => h.elim) (fun q h => h.elim) (fun z u t H1 locs1 ht hvm hpost hB hz hk hS => ?_)
  subst hpost
  subst hz0
  obtain ⟨ent, tys, hP, hK, hE⟩ := hr.2.2.1
  exact kk lsM H1 locs1 cells slots ⟨hr.1, ax_okc (ax_oki hxr) hok, ⟨ent, tys, hP.kept (fun k q hq => hk q.1 (hP k q hq).lt (fun h => h)), hK, hE⟩, hS, hr.2.2.2.2⟩
theorem as_slen (hx : p.tables.exec = Jvm.exec) (hb : c.code = cc) (hts : ∀ w ∈ ax_tt, w.before args s = true) (hml : c.maxLocals = nL) (hRf : 1 ≤ R.frames) (hRl : 200 ≤ R.locals) (hRf2 : 8 ≤ R.frames ∧ 512 ≤ R.locals) (hSP : ax_SP base ad s s.heap) {o idx : Nat} (hown : s.vm.findClass (ax_ow o) = some mi.cls) (hX : ax_X o idx = some 5) {pc : Nat} {ls r : List ax_V} {H : ax_H} {a : Int} (hlen : r.length ≤ 4) (h1 : a ≤ -2) (h2 : -2 - a < ax_Sb.length) (hrc : H.1.length ≤ n0 + R.cells) (hrs : ax_sl H.1 ≤ s0 + R.slots) (hd : decode cc pc = .ok (.invokevirtual idx, 3))
    (kk : ax_G p l e R s mi args below meth c Q D base ad nL n0 s0 (pc + 3) ls ((0, ax_slen a) :: r) H) : ax_G p l e R s mi args below meth c Q D base ad nL n0 s0 pc ls ((2, a) :: r) H := by
  intro lsM Hp locs cells slots hr
  obtain ⟨adV, hV⟩ := hSP.2.2.2.2.2.1
  obtain ⟨i, hi⟩ : ∃ i : Nat, a = -2 - (i : Int) := ⟨(-2 - a).toNat, by omega⟩
  have hi23 : i < 23 := by rw [xs_len23] at h2; omega
  have hcat := ax_cats ad r
  have l1 := hr.2.2.2.2.1
  have l2 := hr.2.2.2.2.2
  have esl : ax_slen a = ((ax_Sb.getD i []).length : Int) := by unfold ax_slen; rw [show (-2 - a).toNat = i by omega]
  have hml2 : Cond.methodLink (ax_ow o) idx ys_len ∈ ax_tt := ax_xlink hX
  have hb23 : i < ax_Sb.length := by rw [xs_len23]; exact hi23
  have hmem : ax_Sb.getD i [] ∈ ax_Sb := by rw [xs_gd _ _ hb23]; exact List.getElem_mem hb23
  have hl1000 : (ax_Sb.getD i []).length < 1000 := of_decide_eq_true (List.all_eq_true.mp xs_lens _ hmem)
  show W p l e R s mi args below meth c Hp locs cells slots Q (F0 mi pc lsM (ax_tv ad (2, a) :: r.map (ax_tv ad)))
  rw [hi, ax_tvs]
  refine xs_back (va_runV (As := []) (rest := r.map (ax_tv ad)) ⟨hx, hb, hml, hown, hts⟩ (cs_len l base ad i hi23) (cwV 0 hts (fun w hw => ?_) rfl rfl rfl (by decide) ?_) ⟨xs_blind base ad _, vk_recv hV hi23 hr.2.2.2.1, fun U hU hW => ⟨rfl, by show ax_SP base ad U U.heap; rw [hU]; exact hSP.go hW hr.2.2.2.1⟩⟩ rfl rfl hr.1.1 rfl (lv_room (by omega)) hd ⟨by omega, by omega⟩) (x := ax_slen a) (by rw [esl]; exact ax_ofn _) (by rw [esl]; unfold ax_r32; omega) hr (ax_okt hr.2.1) kk
  · rcases List.mem_append.mp hw with hw | hw
    · have hmem : w ∈ ax_tt := by
        simp only [List.mem_cons, List.not_mem_nil, or_false] at hw
        rcases hw with rfl | rfl | rfl | rfl
        · exact hml2
        · exact ws_m_len
        · exact ws_s_len
        · exact ws_i_S
      exact ax_tt_good w hmem
    · exact xs_good _ _ _ _ ws_c_len w hw
  · show 3 + 1 ≤ R.frames ∧ 8 + (1 + 11) + 64 * 3 ≤ R.locals
    omega
theorem as_schr (hx : p.tables.exec = Jvm.exec) (hb : c.code = cc) (hts : ∀ w ∈ ax_tt, w.before args s = true) (hml : c.maxLocals = nL) (hRf : 1 ≤ R.frames) (hRl : 200 ≤ R.locals) (hRf2 : 8 ≤ R.frames ∧ 512 ≤ R.locals) (hSP : ax_SP base ad s s.heap) {o idx : Nat} (hown : s.vm.findClass (ax_ow o) = some mi.cls) (hX : ax_X o idx = some 6) {pc : Nat} {ls r : List ax_V} {H : ax_H} {a j : Int} (hlen : r.length ≤ 4) (h1 : a ≤ -2) (h2 : -2 - a < ax_Sb.length) (h3 : 0 ≤ j) (h4 : j < ax_slen a) (hrc : H.1.length ≤ n0 + R.cells) (hrs : ax_sl H.1 ≤ s0 + R.slots) (hd : decode cc pc = .ok (.invokevirtual idx, 3))
    (kk : ax_G p l e R s mi args below meth c Q D base ad nL n0 s0 (pc + 3) ls ((0, ax_schr a j) :: r) H) : ax_G p l e R s mi args below meth c Q D base ad nL n0 s0 pc ls ((0, j) :: (2, a) :: r) H := by
  intro lsM Hp locs cells slots hr
  obtain ⟨adV, hV⟩ := hSP.2.2.2.2.2.1
  obtain ⟨i, hi⟩ : ∃ i : Nat, a = -2 - (i : Int) := ⟨(-2 - a).toNat, by omega⟩
  have hi23 : i < 23 := by rw [xs_len23] at h2; omega
  have hcat := ax_cats ad r
  have l1 := hr.2.2.2.2.1
  have l2 := hr.2.2.2.2.2
  have esl : ax_slen a = ((ax_Sb.getD i []).length : Int) := by unfold ax_slen; rw [show (-2 - a).toNat = i by omega]
  have esc : ax_schr a j = (((ax_Sb.getD i []).getD j.toNat 0 : Nat) : Int) := by unfold ax_schr; rw [show (-2 - a).toNat = i by omega]
  have hml2 : Cond.methodLink (ax_ow o) idx ys_chr ∈ ax_tt := ax_xlink hX
  have hb23 : i < ax_Sb.length := by rw [xs_len23]; exact hi23
  have hmem : ax_Sb.getD i [] ∈ ax_Sb := by rw [xs_gd _ _ hb23]; exact List.getElem_mem hb23
  have hjr := ax_ok0 (ax_okh hr.2.1)
  have ej := ax_nc h3 hjr
  have hjl : (Int32.ofInt j).toNatClampNeg < (ax_Sb.getD i []).length := by rw [ej]; rw [esl] at h4; omega
  have hc128 : (ax_Sb.getD i []).getD j.toNat 0 < 128 := by
    have g2 := List.all_eq_true.mp xs_chars _ hmem
    rw [ej] at hjl
    have g3 : (ax_Sb.getD i []).getD j.toNat 0 ∈ ax_Sb.getD i [] := by
      rw [xs_gd _ _ hjl]
      exact List.getElem_mem hjl
    exact of_decide_eq_true (List.all_eq_true.mp g2 _ g3)
  have hj0 : ¬ Int32.ofInt j < 0 := fun q => by have := (ax_lt0 hjr).mp q; omega
  show W p l e R s mi args below meth c Hp locs cells slots Q (F0 mi pc lsM (.int (Int32.ofInt j) :: ax_tv ad (2, a) :: r.map (ax_tv ad)))
  rw [hi, ax_tvs]
  refine xs_back (va_runV (As := [.int (Int32.ofInt j)]) (rest := r.map (ax_tv ad)) ⟨hx, hb, hml, hown, hts⟩ (cs_chr l base ad i hi23 (Int32.ofInt j) hj0 hjl) (cwV 1 hts (fun w hw => ?_) rfl rfl rfl (by decide) ?_) ⟨xs_blind base ad _, vk_recv hV hi23 hr.2.2.2.1, fun U hU hW => ⟨rfl, by show ax_SP base ad U U.heap; rw [hU]; exact hSP.go hW hr.2.2.2.1⟩⟩ rfl rfl hr.1.1 rfl (lv_room (by omega)) hd ⟨by omega, by omega⟩) (x := ax_schr a j) (by rw [esc, ej]; exact ax_ofn _) (by rw [esc]; unfold ax_r32; omega) hr (ax_okt (ax_okt hr.2.1)) kk
  · rcases List.mem_append.mp hw with hw | hw
    · have hmem : w ∈ ax_tt := by
        simp only [List.mem_cons, List.not_mem_nil, or_false] at hw
        rcases hw with rfl | rfl | rfl | rfl
        · exact hml2
        · exact ws_m_chr
        · exact ws_s_chr
        · exact ws_i_S
      exact ax_tt_good w hmem
    · exact xs_good _ _ _ _ ws_c_chr w hw
  · show 7 + 1 ≤ R.frames ∧ 8 + (2 + 11) + 64 * 7 ≤ R.locals
    omega
end AXS
