/-! THE TABLES' WORDS: what the numbers of part 02 stand for, held against lw_tbl by their places -/
def ax_ow (o : Nat) : String := ax_own.getD o ""
def ax_T (ci : Nat) : u_T := match vwCl[ci]? with
  | some r => r.2.1
  | none => fun _ => ("", "", "", true)
def ax_Cn (ci : Nat) : String := match vwCl[ci]? with
  | some r => r.1
  | none => ""
def ax_Lw (w : Cond) (i : Nat) : Bool := decide (lw_tbl[i]? = some w)
theorem ax_lw {w : Cond} {i : Nat} (h : ax_Lw w i = true) : w ∈ lw_tbl := List.mem_of_getElem? (of_decide_eq_true h)
set_option maxRecDepth 100000 in
theorem ax_Fl_ok : (ax_Fl.all fun e => ax_Lw (.fieldLink (ax_ow e.1) e.2.1 (ax_T e.2.2.1 e.2.2.2.1).1 (ax_T e.2.2.1 e.2.2.2.1).2.1 (ax_T e.2.2.1 e.2.2.2.1).2.2.1) e.2.2.2.2 && (decide (e.2.2.1 < 13))) = true := by decide +kernel
def ax_mq (m : Nat) : ax_MT := (ax_Ml[m]?).getD (⟨"", "", ""⟩, ⟨#[]⟩, 0, none, 99, 9, [], [])
def ax_okM (q : ax_MT) : Bool := ax_Lw (.initialized q.1.cls) (q.2.2.2.2.2.2.2.getD 1 0) &&
  (match q.2.2.2.2.2.1 with
  | 0 => ax_Lw (.instanceMethod q.1) (q.2.2.2.2.2.2.2.getD 2 0) && ax_Lw (.selects q.1.cls q.1 q.1) (q.2.2.2.2.2.2.2.getD 3 0) && decide (q.2.2.2.2.2.2.1.head? = some 2) && decide (ax_Cn q.2.2.2.2.1 = q.1.cls) && decide (q.2.2.2.2.1 < 13)
  | 1 => ax_Lw (.static q.1) (q.2.2.2.2.2.2.2.getD 2 0)
  | 2 => ax_Lw (.instanceMethod q.1) (q.2.2.2.2.2.2.2.getD 2 0) && decide (q.1.name = "<init>") && decide (q.2.2.2.1 = none) && decide (q.2.2.2.2.2.2.1.head? = some 2) && decide (ax_Cn q.2.2.2.2.1 = q.1.cls) && decide (q.2.2.2.2.1 < 13)
  | _ => false) &&
  decide (ax_ow q.2.2.2.2.1 = q.1.cls) && decide (plainName q.1.cls = true) && decide (q.1.cls ≠ "java/lang/invoke/MethodHandle" ∧ q.1.cls ≠ "java/lang/invoke/VarHandle") &&
  decide ((parseMethodDescriptor q.1.desc).map (fun d => d.parameters.length) = some (if q.2.2.2.2.2.1 = 1 then q.2.2.2.2.2.2.1.length else q.2.2.2.2.2.2.1.length - 1)) &&
  decide ((q.2.2.2.2.2.2.1.map fun t => if t = 1 then 2 else 1).sum ≤ q.2.2.1) && decide (q.2.2.1 ≤ 20) && q.2.2.2.2.2.2.1.all (fun t => decide (t ≤ 2))
set_option maxRecDepth 100000 in
theorem ax_Ml_ok0 : ax_Ml_0.all ax_okM = true := by decide +kernel
set_option maxRecDepth 100000 in
theorem ax_Ml_ok1 : ax_Ml_1.all ax_okM = true := by decide +kernel
set_option maxRecDepth 100000 in
theorem ax_Ml_ok2 : ax_Ml_2.all ax_okM = true := by decide +kernel
set_option maxRecDepth 100000 in
theorem ax_Ml_ok3 : ax_Ml_3.all ax_okM = true := by decide +kernel
set_option maxRecDepth 100000 in
theorem ax_Ml_ok4 : ax_Ml_4.all ax_okM = true := by decide +kernel
set_option maxRecDepth 100000 in
theorem ax_Ml_ok5 : ax_Ml_5.all ax_okM = true := by decide +kernel
set_option maxRecDepth 100000 in
theorem ax_Ml_ok6 : ax_Ml_6.all ax_okM = true := by decide +kernel
theorem ax_Ml_ok : ax_Ml.all ax_okM = true := by
  unfold ax_Ml
  simp only [List.all_append, ax_Ml_ok0, ax_Ml_ok1, ax_Ml_ok2, ax_Ml_ok3, ax_Ml_ok4, ax_Ml_ok5, ax_Ml_ok6, Bool.and_self]
set_option maxRecDepth 100000 in
theorem ax_Il_ok : (ax_Il.all fun e => if e.2.2.2.2 = 0 then ax_Lw (.methodLink (ax_ow e.1) e.2.1 (ax_mq e.2.2.1).1) e.2.2.2.1 else ax_Lw (.methodLinkNest (ax_ow e.1) e.2.1 (ax_mq e.2.2.1).1 "RingKiln") e.2.2.2.1) = true := by decide +kernel
def ax_xn : Nat → MethodName
  | 0 => Lib.Math.min.name
  | 1 => Lib.Math.max.name
  | 2 => Lib.MathLoose.min_long.x
  | 3 => Lib.MathLoose.max_long.x
  | 4 => arraycopyName
  | 5 => ⟨"java/lang/String", "length", "()I"⟩
  | 6 => ⟨"java/lang/String", "charAt", "(I)C"⟩
  | _ => objectInit
set_option maxRecDepth 100000 in
theorem ax_Xl_ok : (ax_Xl.all fun e => ax_Lw (.methodLink (ax_ow e.1) e.2.1 (ax_xn e.2.2.1)) e.2.2.2) = true := by decide +kernel
set_option maxRecDepth 100000 in
theorem ax_Nl_ok : (ax_Nl.all fun e => ax_Lw (.classLink (ax_ow e.1) e.2.1 (ax_Cn e.2.2.1)) e.2.2.2.1 && ax_Lw (.instantiable (ax_Cn e.2.2.1) (ax_nf e.2.2.1)) e.2.2.2.2 && decide (e.2.2.1 < 13)) = true := by decide +kernel
set_option maxRecDepth 100000 in
theorem ax_Kc_ok : (ax_Kc.all fun e => ax_Lw (.constant (ax_ow e.1) e.2.1 (Int32.ofInt e.2.2.1)) e.2.2.2 && decide (-2147483648 ≤ e.2.2.1 ∧ e.2.2.1 < 2147483648)) = true := by decide +kernel
set_option maxRecDepth 100000 in
theorem ax_Kl_ok : (ax_Kl.all fun e => ax_Lw (.constantLong (ax_ow e.1) e.2.1 (Int64.ofInt e.2.2.1)) e.2.2.2 && decide (-9223372036854775808 ≤ e.2.2.1 ∧ e.2.2.1 < 9223372036854775808)) = true := by decide +kernel
set_option maxRecDepth 100000 in
theorem ax_Sl_ok : (ax_Sl.all fun e => ax_Lw (.stringRef (ax_ow e.1) e.2.1 e.2.2.1) e.2.2.2) = true := by decide +kernel
theorem ax_fkl : ∀ ci, ci < 13 → ∀ j, j < ax_nf ci → ax_fk (ax_ty ci j) ≤ 2 := by decide +kernel
theorem ax_iniC : ∀ ci, ci < 13 → (lw_tbl.any fun w => decide (w = Cond.initialized (ax_Cn ci))) = true := by decide +kernel
