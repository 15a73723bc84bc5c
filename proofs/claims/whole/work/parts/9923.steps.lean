/-! rule: the machine of steps, pure -/
def jn (k x y : Int) : Int := if k = 5 then ax_landl x y else if k = 6 then ax_lorl x y else if k = 7 then ax_w64 (x + y) else if k = 8 then ax_w64 (x - y) else if k = 9 then ax_w64 (x * y) else if k = 10 then (if y = 0 then 0 else ax_w64 (x.tdiv y)) else if k = 11 then (if y = 0 then 0 else x.tmod y) else if k = 12 then (if x < y then 1 else 0) else if k = 13 then (if x ≤ y then 1 else 0) else if k = 14 then (if x = y then 1 else 0) else if k = 15 then (if y ≤ x then 1 else 0) else (if y < x then 1 else 0)
/-- one step on a stack -/
def es (F : Int → Int) (c : Int) (st : List Int) : List Int := if c % 32 = 0 then c / 32 :: st else if c % 32 = 1 then F (c / 32) :: st else if c % 32 = 4 then ax_w64 (1 - st.headD 0) :: st.tail else jn (c % 32) (st.tail.headD 0) (st.headD 0) :: st.tail.tail
def evL (F : Int → Int) : List Int → List Int → List Int
  | [], st => st
  | c :: l, st => evL F l (es F c st)
theorem evL_app (F : Int → Int) : ∀ (l m : List Int) (st : List Int), evL F (l ++ m) st = evL F m (evL F l st)
  | [], m, st => rfl
  | c :: l, m, st => evL_app F l m (es F c st)
def dpt : List Int → Nat → Option Nat
  | [], d => some d
  | c :: l, d => if c % 32 = 0 ∨ c % 32 = 1 then dpt l (d + 1) else if c % 32 = 4 then (if 1 ≤ d then dpt l d else none) else (if 2 ≤ d then dpt l (d - 1) else none)
theorem dpt_c (c : Int) (l : List Int) (d : Nat) : dpt (c :: l) d = if c % 32 = 0 ∨ c % 32 = 1 then dpt l (d + 1) else if c % 32 = 4 then (if 1 ≤ d then dpt l d else none) else (if 2 ≤ d then dpt l (d - 1) else none) := rfl
theorem dpt_app : ∀ (l m : List Int) (d e : Nat), dpt l d = some e → dpt (l ++ m) d = dpt m e
  | [], m, d, e, h => by
    have : d = e := by simpa [dpt] using h
    subst this; rfl
  | c :: l, m, d, e, h => by
    show dpt (c :: (l ++ m)) d = dpt m e
    rw [dpt_c] at h ⊢
    split at h
    · rename_i z; rw [if_pos z]; exact dpt_app l m _ e h
    · rename_i z; rw [if_neg z]
      split at h
      · rename_i y; rw [if_pos y]
        split at h
        · rename_i w; rw [if_pos w]; exact dpt_app l m _ e h
        · cases h
      · rename_i y; rw [if_neg y]
        split at h
        · rename_i w; rw [if_pos w]; exact dpt_app l m _ e h
        · cases h
def pus : List Int → Nat
  | [] => 0
  | c :: l => (if c % 32 = 0 ∨ c % 32 = 1 then 1 else 0) + pus l
theorem pus_app : ∀ (l m : List Int), pus (l ++ m) = pus l + pus m
  | [], m => by simp [pus]
  | c :: l, m => by
    show (if _ then 1 else 0) + pus (l ++ m) = (if _ then 1 else 0) + pus l + pus m
    rw [pus_app l m]; omega
def okc (c : Int) : Prop := 0 ≤ c ∧ ((c % 32 = 0 ∧ c / 32 ≤ 99999) ∨ (c % 32 = 1 ∧ c / 32 < 12) ∨ (4 ≤ c ∧ c ≤ 16))
/-- the code l lays the values vs (n of them) onto any stack -/
def segs (l : List Int) (vs : (Int → Int) → List Int) (n : Nat) : Prop := (∀ c, c ∈ l → okc c) ∧ (∀ d, dpt l d = some (d + n)) ∧ ∀ F st, evL F l st = vs F ++ st
theorem segs_nil : segs [] (fun _ => []) 0 := ⟨fun c h => (by cases h), fun d => rfl, fun F st => rfl⟩
theorem segs_snoc {l : List Int} {vs : (Int → Int) → List Int} {n : Nat} (s : segs l vs n) {c : Int} (ok : okc c) {ws : (Int → Int) → List Int} {m : Nat} (hd : ∀ d, dpt [c] (d + n) = some (d + m)) (he : ∀ F st, es F c (vs F ++ st) = ws F ++ st) : segs (l ++ [c]) ws m := by
  refine ⟨fun x hx => ?_, fun d => ?_, fun F st => ?_⟩
  · rcases List.mem_append.1 hx with h | h
    · exact s.1 x h
    · rw [List.mem_singleton.1 h]; exact ok
  · rw [dpt_app _ _ _ _ (s.2.1 d)]; exact hd d
  · rw [evL_app, s.2.2]; exact he F st
theorem segs_push {l : List Int} {vs : (Int → Int) → List Int} {n : Nat} (s : segs l vs n) {c : Int} (ok : okc c) {v : (Int → Int) → Int} (h : (c % 32 = 0 ∧ ∀ F, v F = c / 32) ∨ (c % 32 = 1 ∧ ∀ F, v F = F (c / 32))) : segs (l ++ [c]) (fun F => v F :: vs F) (n + 1) := by
  refine segs_snoc s ok (fun d => ?_) (fun F st => ?_)
  · rw [dpt_c, if_pos (by omega)]; rfl
  · rcases h with ⟨h1, h2⟩ | ⟨h1, h2⟩
    · unfold es; rw [if_pos h1, h2]; rfl
    · unfold es; rw [if_neg (by omega), if_pos h1, h2]; rfl
theorem segs_bin {l : List Int} {x y : (Int → Int) → Int} {vs : (Int → Int) → List Int} {n : Nat} (s : segs l (fun F => y F :: x F :: vs F) (n + 2)) {k : Int} (k5 : 5 ≤ k) (k16 : k ≤ 16) : segs (l ++ [k]) (fun F => jn k (x F) (y F) :: vs F) (n + 1) := by
  have e : k % 32 = k := by omega
  refine segs_snoc s ⟨by omega, .inr (.inr (by omega))⟩ (fun d => ?_) (fun F st => ?_)
  · rw [dpt_c, if_neg (by omega), if_neg (by omega), if_pos (by omega)]; show some _ = some _; congr 1
  · unfold es; rw [if_neg (by omega), if_neg (by omega), if_neg (by omega), e]; rfl
theorem segs_not {l : List Int} {x : (Int → Int) → Int} {vs : (Int → Int) → List Int} {n : Nat} (s : segs l (fun F => x F :: vs F) (n + 1)) : segs (l ++ [4]) (fun F => ax_w64 (1 - x F) :: vs F) (n + 1) := by
  refine segs_snoc s ⟨by omega, .inr (.inr (by omega))⟩ (fun d => ?_) (fun F st => ?_)
  · rw [dpt_c, if_neg (by omega), if_pos (by omega), if_pos (by omega)]; rfl
  · unfold es; rw [if_neg (by omega), if_neg (by omega), if_pos (by omega)]; rfl
theorem segs_eq {l : List Int} {vs ws : (Int → Int) → List Int} {n : Nat} (s : segs l vs n) (e : ∀ F, vs F = ws F) : segs l ws n := ⟨s.1, s.2.1, fun F st => by rw [s.2.2, e]⟩
/-- true or false -/
def bit (v : (Int → Int) → Int) : Prop := ∀ F, v F = 0 ∨ v F = 1
theorem land_bit {x y : Int} (hx : x = 0 ∨ x = 1) (hy : y = 0 ∨ y = 1) : ax_landl x y = 0 ∨ ax_landl x y = 1 := by
  rcases hx with e | e <;> rcases hy with f | f <;> subst e <;> subst f <;> decide +kernel
theorem lor_bit {x y : Int} (hx : x = 0 ∨ x = 1) (hy : y = 0 ∨ y = 1) : ax_lorl x y = 0 ∨ ax_lorl x y = 1 := by
  rcases hx with e | e <;> rcases hy with f | f <;> subst e <;> subst f <;> decide +kernel
theorem not_bit {x : Int} (hx : x = 0 ∨ x = 1) : ax_w64 (1 - x) = 1 - x := by
  rcases hx with e | e <;> subst e <;> decide +kernel
theorem cmp_bit {k x y : Int} (k0 : 12 ≤ k) : jn k x y = 0 ∨ jn k x y = 1 := by
  unfold jn
  rw [if_neg (by omega), if_neg (by omega), if_neg (by omega), if_neg (by omega), if_neg (by omega), if_neg (by omega), if_neg (by omega)]
  repeat' split
  all_goals omega
theorem jn_and (x y : Int) : jn 5 x y = ax_landl x y := by simp [jn]
theorem jn_or (x y : Int) : jn 6 x y = ax_lorl x y := by simp [jn]
/-- n times not -/
def nt (n v : Int) : Int := if n % 2 = 0 then v else 1 - v
/-! rule: the texts, pure -/
section
variable (b : Int → Int) (N : Int)
noncomputable def vf (s : Int) : Int := if tkK b N s = 2 ∧ 10 ≤ tkV b N s then 0 else if tkK b N s ≠ 1 then 1 + 8 * s else if tkV b N s = -1 then 2 + 8 * s else 0
noncomputable def vc (s : Int) : Int := if tkK b N s = 2 ∧ 10 ≤ tkV b N s then (tkV b N s - 10) * 32 + 1 else tkV b N s * 32
noncomputable def vv (s : Int) (F : Int → Int) : Int := if tkK b N s = 2 ∧ 10 ≤ tkV b N s then F (tkV b N s - 10) else tkV b N s
noncomputable def poS (s : Int) : Int := if tkK b N s = 3 ∧ tkV b N s = 42 then 9 else if tkK b N s = 3 ∧ tkV b N s = 47 then 10 else if tkK b N s = 3 ∧ tkV b N s = 37 then 11 else -1
noncomputable def soS (s : Int) : Int := if tkK b N s = 3 ∧ tkV b N s = 43 then 7 else if tkK b N s = 3 ∧ tkV b N s = 45 then 8 else -1
noncomputable def cmS (s : Int) : Int := if tkK b N s ≠ 3 then -1 else if tkV b N s = 60 then 12 else if tkV b N s = 316 then 13 else if tkV b N s = 61 then 14 else if tkV b N s = 318 then 15 else if tkV b N s = 62 then 16 else -1
/-- a term: fault, next token, parts, value -/
noncomputable def pT : Nat → Int → Int → Int → ((Int → Int) → Int) → Int × Int × Int × ((Int → Int) → Int)
  | 0, s, c, _, pv => (1, s, c, pv)
  | k + 1, s, c, po, pv => if vf b N s ≠ 0 then (vf b N s, s, c, pv) else if 60 ≤ c then (4 + 8 * s, s, c, pv) else if poS b N (nxT b N s) = -1 then (0, nxT b N s, c + 1, fun F => if po = -1 then vv b N s F else jn po (pv F) (vv b N s F)) else pT k (nxT b N (nxT b N s)) (c + 1) (poS b N (nxT b N s)) (fun F => if po = -1 then vv b N s F else jn po (pv F) (vv b N s F))
noncomputable def pS : Nat → Int → Int → Int → ((Int → Int) → Int) → Int × Int × Int × ((Int → Int) → Int)
  | 0, s, c, _, sv => (1, s, c, sv)
  | k + 1, s, c, so, sv => if (pT b N (61 - c).toNat s c (-1) (fun _ => 0)).1 ≠ 0 then pT b N (61 - c).toNat s c (-1) (fun _ => 0) else if soS b N (pT b N (61 - c).toNat s c (-1) (fun _ => 0)).2.1 = -1 then (0, (pT b N (61 - c).toNat s c (-1) (fun _ => 0)).2.1, (pT b N (61 - c).toNat s c (-1) (fun _ => 0)).2.2.1, fun F => if so = -1 then (pT b N (61 - c).toNat s c (-1) (fun _ => 0)).2.2.2 F else jn so (sv F) ((pT b N (61 - c).toNat s c (-1) (fun _ => 0)).2.2.2 F)) else pS k (nxT b N (pT b N (61 - c).toNat s c (-1) (fun _ => 0)).2.1) (pT b N (61 - c).toNat s c (-1) (fun _ => 0)).2.2.1 (soS b N (pT b N (61 - c).toNat s c (-1) (fun _ => 0)).2.1) (fun F => if so = -1 then (pT b N (61 - c).toNat s c (-1) (fun _ => 0)).2.2.2 F else jn so (sv F) ((pT b N (61 - c).toNat s c (-1) (fun _ => 0)).2.2.2 F))
/-- a sum -/
noncomputable def pSum (s c : Int) : Int × Int × Int × ((Int → Int) → Int) := pS b N (61 - c).toNat s c (-1) (fun _ => 0)
/-- two sums compared -/
noncomputable def pC (s c : Int) : Int × Int × Int × ((Int → Int) → Int) := if (pSum b N s c).1 ≠ 0 then pSum b N s c else if cmS b N (pSum b N s c).2.1 = -1 then (1 + 8 * (pSum b N s c).2.1, s, c, fun _ => 0) else if 60 ≤ (pSum b N s c).2.2.1 then (4 + 8 * (pSum b N s c).2.1, s, c, fun _ => 0) else if (pSum b N (nxT b N (pSum b N s c).2.1) ((pSum b N s c).2.2.1 + 1)).1 ≠ 0 then pSum b N (nxT b N (pSum b N s c).2.1) ((pSum b N s c).2.2.1 + 1) else (0, (pSum b N (nxT b N (pSum b N s c).2.1) ((pSum b N s c).2.2.1 + 1)).2.1, (pSum b N (nxT b N (pSum b N s c).2.1) ((pSum b N s c).2.2.1 + 1)).2.2.1, fun F => jn (cmS b N (pSum b N s c).2.1) ((pSum b N s c).2.2.2 F) ((pSum b N (nxT b N (pSum b N s c).2.1) ((pSum b N s c).2.2.1 + 1)).2.2.2 F))
/-- nots: the next token, how deep -/
noncomputable def pN : Nat → Int → Int → Int × Int
  | 0, s, i => (s, i)
  | k + 1, s, i => if (tkK b N s = 2 ∧ tkV b N s = 7) ∧ i < 10 then pN k (nxT b N s) (i + 1) else (s, i)
/-- a fact, by how tests are read -/
noncomputable def pF (tst : Int → Int → Int → Int × Int × Int × ((Int → Int) → Int)) (dep s c : Int) : Int × Int × Int × ((Int → Int) → Int) := if 10 ≤ (pN b N 10 s dep).2 ∧ ((tkK b N (pN b N 10 s dep).1 = 3 ∧ tkV b N (pN b N 10 s dep).1 = 91) ∨ (tkK b N (pN b N 10 s dep).1 = 2 ∧ tkV b N (pN b N 10 s dep).1 = 7)) then (3 + 8 * (pN b N 10 s dep).1, s, c, fun _ => 0) else if tkK b N (pN b N 10 s dep).1 = 3 ∧ tkV b N (pN b N 10 s dep).1 = 91 then (if (tst ((pN b N 10 s dep).2 + 1) (nxT b N (pN b N 10 s dep).1) c).1 ≠ 0 then tst ((pN b N 10 s dep).2 + 1) (nxT b N (pN b N 10 s dep).1) c else if tkK b N (tst ((pN b N 10 s dep).2 + 1) (nxT b N (pN b N 10 s dep).1) c).2.1 = 3 ∧ tkV b N (tst ((pN b N 10 s dep).2 + 1) (nxT b N (pN b N 10 s dep).1) c).2.1 = 93 then (0, nxT b N (tst ((pN b N 10 s dep).2 + 1) (nxT b N (pN b N 10 s dep).1) c).2.1, (tst ((pN b N 10 s dep).2 + 1) (nxT b N (pN b N 10 s dep).1) c).2.2.1, fun F => nt ((pN b N 10 s dep).2 - dep) ((tst ((pN b N 10 s dep).2 + 1) (nxT b N (pN b N 10 s dep).1) c).2.2.2 F)) else (1 + 8 * (tst ((pN b N 10 s dep).2 + 1) (nxT b N (pN b N 10 s dep).1) c).2.1, s, c, fun _ => 0)) else if (pC b N (pN b N 10 s dep).1 c).1 ≠ 0 then pC b N (pN b N 10 s dep).1 c else (0, (pC b N (pN b N 10 s dep).1 c).2.1, (pC b N (pN b N 10 s dep).1 c).2.2.1, fun F => nt ((pN b N 10 s dep).2 - dep) ((pC b N (pN b N 10 s dep).1 c).2.2.2 F))
/-- facts joined: an, o whether and, or is pending -/
noncomputable def pL (fct : Int → Int → Int × Int × Int × ((Int → Int) → Int)) : Nat → Int → Int → Int → ((Int → Int) → Int) → Int → ((Int → Int) → Int) → Int × Int × Int × ((Int → Int) → Int)
  | 0, s, c, _, _, _, _ => (1, s, c, fun _ => 0)
  | k + 1, s, c, an, av, o, ov => if (fct s c).1 ≠ 0 then fct s c else if tkK b N (fct s c).2.1 = 2 ∧ tkV b N (fct s c).2.1 = 8 then pL fct k (nxT b N (fct s c).2.1) (fct s c).2.2.1 1 (fun F => if an = 0 then (fct s c).2.2.2 F else ax_landl (av F) ((fct s c).2.2.2 F)) o ov else if tkK b N (fct s c).2.1 = 2 ∧ tkV b N (fct s c).2.1 = 9 then pL fct k (nxT b N (fct s c).2.1) (fct s c).2.2.1 0 av 1 (fun F => if o = 0 then (if an = 0 then (fct s c).2.2.2 F else ax_landl (av F) ((fct s c).2.2.2 F)) else ax_lorl (ov F) (if an = 0 then (fct s c).2.2.2 F else ax_landl (av F) ((fct s c).2.2.2 F))) else (0, (fct s c).2.1, (fct s c).2.2.1, fun F => if o = 0 then (if an = 0 then (fct s c).2.2.2 F else ax_landl (av F) ((fct s c).2.2.2 F)) else ax_lorl (ov F) (if an = 0 then (fct s c).2.2.2 F else ax_landl (av F) ((fct s c).2.2.2 F)))
noncomputable def pTe : Nat → Int → Int → Int → Int × Int × Int × ((Int → Int) → Int)
  | 0, _, s, c => (1, s, c, fun _ => 0)
  | D + 1, dep, s, c => pL b N (pF b N (pTe D) dep) (61 - c).toNat s c 0 (fun _ => 0) 0 (fun _ => 0)
end
