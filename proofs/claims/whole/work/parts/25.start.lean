/-! THE START; written by wip/whole/gen_start.py -/
def st_F : List Cond := flatC (Jvm.Cond.and given_1 narrow_1)
def st_tm (i : Nat) : Term := .string (ax_ow (ax_Sl.getD i (0, 0, "", 0)).1) (ax_Sl.getD i (0, 0, "", 0)).2.1
def st_at (w : Cond) (k : Nat) : Bool := decide (st_F[k]? = some w)
def st_pex : List Nat := [35, 216, 234, 250, 266, 285, 305, 325, 346, 368, 391, 415, 441, 491, 518, 546, 147, 156, 166, 176, 188, 202, 466]
def st_pco : List Nat := [36, 217, 235, 251, 267, 286, 306, 326, 347, 369, 392, 416, 442, 492, 519, 547, 148, 157, 167, 177, 189, 203, 467]
def st_par : List Nat := [37, 218, 236, 252, 268, 287, 307, 327, 348, 370, 393, 417, 443, 493, 520, 548, 149, 158, 168, 178, 190, 204, 468]
def st_ple : List Nat := [38, 219, 237, 253, 269, 288, 308, 328, 349, 371, 394, 418, 444, 494, 521, 549, 150, 159, 169, 179, 191, 205, 469]
def st_pel : List (List Nat) := [[39, 40, 41, 42, 43, 44, 45, 46, 47, 48, 49, 50, 51, 52, 53, 54, 55, 56, 57, 58, 59, 60, 61, 62, 63, 64, 65, 66, 67, 68, 69, 70, 71, 72, 73, 74, 75, 76, 77, 78, 79, 80, 81, 82, 83, 84, 85, 86, 87, 88, 89, 90, 91, 92, 93, 94, 95, 96, 97, 98, 99, 100, 101, 102, 103, 104, 105, 106, 107, 108, 109, 110, 111, 112, 113, 114, 115, 116, 117, 118, 119, 120, 121, 122, 123, 124, 125, 126, 127, 128, 129, 130, 131, 132, 133, 134, 135, 136, 137, 138, 139, 140, 141, 142, 143, 144, 145, 146], [220, 221, 222, 223, 224, 225, 226], [238, 239, 240, 241], [254, 255, 256], [270, 271, 272, 273, 274], [289, 290, 291, 292, 293], [309, 310, 311, 312], [329, 330, 331, 332], [350, 351, 352, 353], [372, 373, 374, 375], [395, 396, 397, 398], [419, 420, 421, 422, 423], [445, 446, 447], [495, 496, 497], [522, 523, 524], [550, 551], [151, 152, 153, 154], [160, 161, 162, 163], [170, 171, 172], [180, 181, 182, 183], [192, 193, 194, 195, 196], [206, 207, 208, 209], [470, 471]]
def st_pne : List (List Nat) := [[0, 227, 242, 257, 275, 294, 313, 333, 354, 376, 399, 424, 448, 498, 525, 552, 155, 164, 173, 184, 197, 210, 472], [227, 0, 249, 264, 282, 301, 320, 340, 361, 383, 406, 431, 455, 505, 532, 559, 228, 229, 230, 231, 232, 233, 479], [242, 249, 0, 265, 283, 302, 321, 341, 362, 384, 407, 432, 456, 506, 533, 560, 243, 244, 245, 246, 247, 248, 480], [257, 264, 265, 0, 284, 303, 322, 342, 363, 385, 408, 433, 457, 507, 534, 561, 258, 259, 260, 261, 262, 263, 481], [275, 282, 283, 284, 0, 304, 323, 343, 364, 386, 409, 434, 458, 508, 535, 562, 276, 277, 278, 279, 280, 281, 482], [294, 301, 302, 303, 304, 0, 324, 344, 365, 387, 410, 435, 459, 509, 536, 563, 295, 296, 297, 298, 299, 300, 483], [313, 320, 321, 322, 323, 324, 0, 345, 366, 388, 411, 436, 460, 510, 537, 564, 314, 315, 316, 317, 318, 319, 484], [333, 340, 341, 342, 343, 344, 345, 0, 367, 389, 412, 437, 461, 511, 538, 565, 334, 335, 336, 337, 338, 339, 485], [354, 361, 362, 363, 364, 365, 366, 367, 0, 390, 413, 438, 462, 512, 539, 566, 355, 356, 357, 358, 359, 360, 486], [376, 383, 384, 385, 386, 387, 388, 389, 390, 0, 414, 439, 463, 513, 540, 567, 377, 378, 379, 380, 381, 382, 487], [399, 406, 407, 408, 409, 410, 411, 412, 413, 414, 0, 440, 464, 514, 541, 568, 400, 401, 402, 403, 404, 405, 488], [424, 431, 432, 433, 434, 435, 436, 437, 438, 439, 440, 0, 465, 515, 542, 569, 425, 426, 427, 428, 429, 430, 489], [448, 455, 456, 457, 458, 459, 460, 461, 462, 463, 464, 465, 0, 516, 543, 570, 449, 450, 451, 452, 453, 454, 490], [498, 505, 506, 507, 508, 509, 510, 511, 512, 513, 514, 515, 516, 0, 545, 572, 499, 500, 501, 502, 503, 504, 517], [525, 532, 533, 534, 535, 536, 537, 538, 539, 540, 541, 542, 543, 545, 0, 573, 526, 527, 528, 529, 530, 531, 544], [552, 559, 560, 561, 562, 563, 564, 565, 566, 567, 568, 569, 570, 572, 573, 0, 553, 554, 555, 556, 557, 558, 571], [155, 228, 243, 258, 276, 295, 314, 334, 355, 377, 400, 425, 449, 499, 526, 553, 0, 165, 174, 185, 198, 211, 473], [164, 229, 244, 259, 277, 296, 315, 335, 356, 378, 401, 426, 450, 500, 527, 554, 165, 0, 175, 186, 199, 212, 474], [173, 230, 245, 260, 278, 297, 316, 336, 357, 379, 402, 427, 451, 501, 528, 555, 174, 175, 0, 187, 200, 213, 475], [184, 231, 246, 261, 279, 298, 317, 337, 358, 380, 403, 428, 452, 502, 529, 556, 185, 186, 187, 0, 201, 214, 476], [197, 232, 247, 262, 280, 299, 318, 338, 359, 381, 404, 429, 453, 503, 530, 557, 198, 199, 200, 201, 0, 215, 477], [210, 233, 248, 263, 281, 300, 319, 339, 360, 382, 405, 430, 454, 504, 531, 558, 211, 212, 213, 214, 215, 0, 478], [472, 479, 480, 481, 482, 483, 484, 485, 486, 487, 488, 489, 490, 517, 544, 571, 473, 474, 475, 476, 477, 478, 0]]
set_option maxRecDepth 100000 in
theorem st_ex : ((List.range 23).all fun i => st_at (.exactly (st_tm i) "java/lang/String") (st_pex.getD i 0)) = true := by decide +kernel
set_option maxRecDepth 100000 in
theorem st_co : ((List.range 23).all fun i => st_at (.eq (.field (st_tm i) "java/lang/String" "coder" "B") (.int 0)) (st_pco.getD i 0)) = true := by decide +kernel
set_option maxRecDepth 100000 in
theorem st_ar : ((List.range 23).all fun i => st_at (.arrayOf (.field (st_tm i) "java/lang/String" "value" "[B") .byte) (st_par.getD i 0)) = true := by decide +kernel
set_option maxRecDepth 100000 in
theorem st_le : ((List.range 23).all fun i => st_at (.eq (.length (.field (st_tm i) "java/lang/String" "value" "[B")) (.int (Int32.ofNat ((ax_Sb.map List.length).getD i 0)))) (st_ple.getD i 0)) = true := by decide +kernel
set_option maxRecDepth 100000 in
theorem st_el : ((List.range 23).all fun i => (List.range ((ax_Sb.map List.length).getD i 0)).all fun j => st_at (.eq (.elem (.field (st_tm i) "java/lang/String" "value" "[B") (.int (Int32.ofNat j))) (.int (((ax_Sb.map (List.map Int32.ofNat)).getD i []).getD j 0))) ((st_pel.getD i []).getD j 0)) = true := by decide +kernel
set_option maxRecDepth 100000 in
theorem st_ne : ((List.range 23).all fun i => (List.range 23).all fun j => decide (i = j) || st_at (.not (.eq (st_tm i) (st_tm j))) ((st_pne.getD i []).getD j 0) || st_at (.not (.eq (st_tm j) (st_tm i))) ((st_pne.getD i []).getD j 0)) = true := by decide +kernel
set_option maxRecDepth 100000 in
theorem st_ln : ((List.range 23).all fun i => decide ((ax_Sb.map List.length).getD i 0 < 2 ^ 31)) = true := by decide +kernel
set_option maxRecDepth 100000 in
theorem st_cs : st_at (.eq (.static "java/lang/String" "COMPACT_STRINGS" "Z") (.int 1)) 4 = true := by decide +kernel
set_option maxRecDepth 100000 in
theorem st_sf : st_at (.isRef (.static "jdk/internal/util/Preconditions" "SIOOBE_FORMATTER" "Ljava/util/function/BiFunction;")) 5 = true := by decide +kernel
set_option maxRecDepth 100000 in
theorem st_w_l1 : Cond.laysStatic "java/lang/String" "COMPACT_STRINGS" "Z" ∈ lw_tbl := List.mem_of_getElem? (i := 577) (by rfl)
set_option maxRecDepth 100000 in
theorem st_w_l2 : Cond.laysStatic "jdk/internal/util/Preconditions" "SIOOBE_FORMATTER" "Ljava/util/function/BiFunction;" ∈ lw_tbl := List.mem_of_getElem? (i := 593) (by rfl)
set_option maxRecDepth 100000 in
theorem st_w_i1 : Cond.initialized "java/lang/String" ∈ lw_tbl := List.mem_of_getElem? (i := 130) (by rfl)
set_option maxRecDepth 100000 in
theorem st_w_i2 : Cond.initialized "jdk/internal/util/Preconditions" ∈ lw_tbl := List.mem_of_getElem? (i := 132) (by rfl)
set_option maxRecDepth 100000 in
theorem st_w_o7 : (lw_tbl.any fun w => decide (w = Cond.arrayOver (.object RX7))) = true := by decide +kernel
set_option maxRecDepth 100000 in
theorem st_w_o10 : (lw_tbl.any fun w => decide (w = Cond.arrayOver (.object RX10))) = true := by decide +kernel
set_option maxRecDepth 100000 in
theorem st_w_oi : (lw_tbl.any fun w => decide (w = Cond.arrayOver (.array .int))) = true := by decide +kernel
theorem st_any {w : Cond} (h : (lw_tbl.any fun v => decide (v = w)) = true) : w ∈ lw_tbl := by
  obtain ⟨v, hv, e⟩ := List.any_eq_true.mp h
  have e := of_decide_eq_true e
  rw [← e]; exact hv
theorem st_SP {s : State} {b : Nat} (hts : ∀ w ∈ lw_tbl, w.before #[Value.ref b] s = true) (hgv : (Jvm.Cond.and given_1 narrow_1).before #[Value.ref b] s = true) :
    ∃ ad : Int → Nat, (∀ i : Int, 0 ≤ i → ad i = s.heap.size + i.toNat) ∧ ad (-1000) = b ∧ ax_SP s.heap.size ad s s.heap := by
  have hs := flat_of_before _ hgv
  have hat : ∀ {w : Cond} {k : Nat}, st_at w k = true → w.before #[Value.ref b] s = true := fun h => hs _ (List.mem_of_getElem? (of_decide_eq_true h))
  have hA : ∀ a : Nat, a < s.heap.size → ¬ ax_A s.heap.size a := fun a h q => by
    have q : s.heap.size ≤ a := q
    omega
  have r23 : ∀ {i : Nat}, i < 23 → i ∈ List.range 23 := fun h => List.mem_range.mpr h
  obtain ⟨adK, adV, hV, hK⟩ := vk_Sof (args := #[Value.ref b]) (s := s) (N := 23) (tm := st_tm) (len := ax_Sb.map List.length) (byt := ax_Sb.map (List.map Int32.ofNat)) (A := ax_A s.heap.size)
    (fun i hi => of_decide_eq_true (List.all_eq_true.mp st_ln i (r23 hi)))
    (fun i hi => hat (List.all_eq_true.mp st_ex i (r23 hi)))
    (fun i hi => hat (List.all_eq_true.mp st_co i (r23 hi)))
    (fun i hi => hat (List.all_eq_true.mp st_ar i (r23 hi)))
    (fun i hi => hat (List.all_eq_true.mp st_le i (r23 hi)))
    (fun i hi j hj => hat (List.all_eq_true.mp (List.all_eq_true.mp st_el i (r23 hi)) j (List.mem_range.mpr hj)))
    (fun i j hi hj hij => by
      have h := List.all_eq_true.mp (List.all_eq_true.mp st_ne i (r23 hi)) j (r23 hj)
      simp only [Bool.or_eq_true, decide_eq_true_eq] at h
      rcases h with (h | h) | h
      · exact absurd h hij
      · exact Or.inl (hat h)
      · exact Or.inr (hat h)) hA
  refine ⟨fun i => if 0 ≤ i then s.heap.size + i.toNat else if i = -1000 then b else adK (-2 - i).toNat, fun i h => if_pos h, by show (if (0 : Int) ≤ -1000 then _ else if (-1000 : Int) = -1000 then b else _) = b; rw [if_neg (by omega), if_pos rfl], ?_⟩
  have hadK : ∀ i : Nat, i < 23 → (if (0 : Int) ≤ -2 - (i : Int) then s.heap.size + (-2 - (i : Int)).toNat else if (-2 - (i : Int)) = -1000 then b else adK (-2 - (-2 - (i : Int))).toNat) = adK i := fun i hi => by
    rw [if_neg (by omega), if_neg (by omega), show (-2 - (-2 - (i : Int))).toNat = i by omega]
  have hSl : ax_Sl.length = 23 := by decide +kernel
  refine ⟨va_AO.of (hts _ (st_any st_w_o7)), va_AO.of (hts _ (st_any st_w_o10)), ?_, fun e he hn => ?_, fun i q hq => ?_, ⟨adV, ?_⟩, ?_, ?_⟩
  · have := hts _ (st_any st_w_oi)
    exact this
  · have h1 := List.all_eq_true.mp ax_Il_ok e he
    rw [if_neg hn] at h1
    exact va_Nw.of rfl (hts _ (ax_lw h1))
  · have hi : i < 23 := by
      have := (List.getElem?_eq_some_iff.mp hq).1
      omega
    have h1 := List.all_eq_true.mp ax_Sl_ok q (List.mem_of_getElem? hq)
    have h2 := hK i hi
    have e1 : ax_Sl.getD i (0, 0, "", 0) = q := by simp [List.getD, hq]
    unfold st_tm at h2
    rw [e1] at h2
    show vk_R _ _ _ (if (0 : Int) ≤ -2 - (i : Int) then _ else _) s
    rw [hadK i hi]
    exact vk_R.of (hts _ (ax_lw h1)) h2
  · have hcong : ∀ i : Nat, i < 23 → (fun i : Nat => (if (0 : Int) ≤ -2 - (i : Int) then s.heap.size + (-2 - (i : Int)).toNat else if (-2 - (i : Int)) = -1000 then b else adK (-2 - (-2 - (i : Int))).toNat)) i = adK i := hadK
    refine ⟨fun i hi => ?_, fun i j hi hj e => ?_⟩
    · have h := hV.1 i hi
      show va_O _ ((fun i : Nat => (if (0 : Int) ≤ -2 - (i : Int) then s.heap.size + (-2 - (i : Int)).toNat else if (-2 - (i : Int)) = -1000 then b else adK (-2 - (-2 - (i : Int))).toNat)) i) _ _ _ ∧ va_OF _ _ _ _ ((fun i : Nat => (if (0 : Int) ≤ -2 - (i : Int) then s.heap.size + (-2 - (i : Int)).toNat else if (-2 - (i : Int)) = -1000 then b else adK (-2 - (-2 - (i : Int))).toNat)) i) _ _ _ ∧ va_OF _ _ _ _ ((fun i : Nat => (if (0 : Int) ≤ -2 - (i : Int) then s.heap.size + (-2 - (i : Int)).toNat else if (-2 - (i : Int)) = -1000 then b else adK (-2 - (-2 - (i : Int))).toNat)) i) _ _ _ ∧ _
      rw [hcong i hi]
      exact h
    · have e : (fun i : Nat => (if (0 : Int) ≤ -2 - (i : Int) then s.heap.size + (-2 - (i : Int)).toNat else if (-2 - (i : Int)) = -1000 then b else adK (-2 - (-2 - (i : Int))).toNat)) i = (fun i : Nat => (if (0 : Int) ≤ -2 - (i : Int) then s.heap.size + (-2 - (i : Int)).toNat else if (-2 - (i : Int)) = -1000 then b else adK (-2 - (-2 - (i : Int))).toNat)) j := e
      rw [hcong i hi, hcong j hj] at e
      exact hV.2 i j hi hj e
  · exact va_Zof (hts _ st_w_l1) (hts _ st_w_i1) (va_eqi (hat st_cs)) hA
  · exact va_Zqof (hts _ st_w_l2) (hts _ st_w_i2) (hat st_sf) hA
