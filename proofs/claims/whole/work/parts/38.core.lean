/-! the functional part: rules of numbers, moments, the invariant -/
theorem w32i {x : Int} (h1 : -2147483648 ≤ x) (h2 : x < 2147483648) : ax_w32 x = x := by unfold ax_w32; omega
theorem w64i {x : Int} (h1 : -9223372036854775808 ≤ x) (h2 : x < 9223372036854775808) : ax_w64 x = x := by unfold ax_w64; omega
theorem cnd {c p : Prop} (h : c) : (c ∧ p) = p := by simp [h]
theorem tdv {x y : Int} (h : 0 ≤ x) : x.tdiv y = x / y := Int.tdiv_eq_ediv_of_nonneg h
theorem tmd {x y : Int} (h : 0 ≤ x) : x.tmod y = x % y := Int.tmod_eq_emod_of_nonneg h
theorem lc_lt (x y : Int) : (ax_lcmp x y < 0) = (x < y) := by unfold ax_lcmp; apply propext; split <;> first | omega | (split <;> omega)
theorem lc_ge (x y : Int) : (0 ≤ ax_lcmp x y) = (y ≤ x) := by unfold ax_lcmp; apply propext; split <;> first | omega | (split <;> omega)
theorem lc_gt (x y : Int) : (0 < ax_lcmp x y) = (y < x) := by unfold ax_lcmp; apply propext; split <;> first | omega | (split <;> omega)
theorem lc_le (x y : Int) : (ax_lcmp x y ≤ 0) = (x ≤ y) := by unfold ax_lcmp; apply propext; split <;> first | omega | (split <;> omega)
theorem lc_eq (x y : Int) : (ax_lcmp x y = 0) = (x = y) := by unfold ax_lcmp; apply propext; split <;> first | omega | (split <;> omega)
theorem lc_ne (x y : Int) : (ax_lcmp x y ≠ 0) = (x ≠ y) := by unfold ax_lcmp; apply propext; split <;> first | omega | (split <;> omega)
theorem ax_mono {d m pc : Nat} {ls st : List ax_V} {H : ax_H} {Q Q' : ax_V → ax_H → Prop} (h : ax_Ev d m pc ls st H Q) (hq : ∀ r H, Q r H → Q' r H) : ax_Ev d m pc ls st H Q' := by
  obtain ⟨n, r, H', hg, k⟩ := h
  exact ⟨n, r, H', hg, hq _ _ k⟩
/-- a row of the heap laid anew -/
def ax_rw (h : Int → Int → Int) (a : Int) (S : Int → Int) : Int → Int → Int := fun k j => if k = a then S j else h k j
/-- a moment: the class's cells S against the reference's rows -/
def iv_mo (n : Int) (S cl wt bu wa st se : Int → Int) (dy fi co ws : Int) : Prop :=
  S 0 = dy ∧ S 10 = fi ∧ S 1 = co ∧ S 2 = ws ∧ (∀ y, 0 ≤ y → y < 3 → S (3 + y) = st y) ∧ (∀ r, 0 ≤ r → r < 4 → n ≠ 0 → S (6 + r) = se r) ∧
  ∀ c, 0 ≤ c → c < n → S (11 + c) = cl c ∧ S (20 + c) = wt c ∧ S (29 + c) = bu c ∧ S (38 + c) = wa c
/-- what a moment of n chambers and cy clays keeps to -/
def iv_gd (n cy : Int) (S : Int → Int) : Prop :=
  0 ≤ S 0 ∧ 0 ≤ S 1 ∧ S 1 ≤ 999 ∧ 0 ≤ S 2 ∧ S 2 ≤ 99 ∧ (∀ y, 0 ≤ y → y < 3 → 0 ≤ S (3 + y) ∧ S (3 + y) ≤ 99) ∧
  (S 10 = -1 ∨ (0 ≤ S 10 ∧ S 10 < n ∧ S (11 + S 10) ≠ -1)) ∧
  ∀ c, 0 ≤ c → c < 9 → (-1 ≤ S (11 + c) ∧ S (11 + c) < cy) ∧ (0 ≤ S (20 + c) ∧ S (20 + c) ≤ 100000) ∧ (0 ≤ S (29 + c) ∧ S (29 + c) ≤ 200) ∧ (0 ≤ S (38 + c) ∧ S (38 + c) ≤ 99) ∧ (n ≤ c → S (11 + c) = -1 ∧ S (38 + c) = 0) ∧ (S (11 + c) = -1 → S (20 + c) = 0 ∧ S (29 + c) = 0)
/-- what a text told -/
def iv_td (T : Int → Int → Int) : Prop :=
  ((T 0 0 = 0 ∧ T 0 2 = 0 ∧ T 0 3 = 0) ∨ (3 ≤ T 0 0 ∧ T 0 0 ≤ 9)) ∧ (0 ≤ T 0 1 ∧ T 0 1 ≤ 999) ∧ (0 ≤ T 0 2 ∧ T 0 2 ≤ 3) ∧ (0 ≤ T 0 3 ∧ T 0 3 ≤ 4) ∧
  (T 0 4 = -1 ∨ (0 ≤ T 0 4 ∧ T 0 4 < T 0 0 ∧ T 3 (T 0 4) ≠ -1)) ∧
  (∀ y, 0 ≤ y → y < T 0 2 → (0 ≤ T 1 y ∧ T 1 y ≤ 30) ∧ (1 ≤ T 2 y ∧ T 2 y ≤ 60)) ∧
  (∀ c, 0 ≤ c → c < 9 → -1 ≤ T 3 c ∧ T 3 c < T 0 2 ∧ (T 0 0 ≤ c → T 3 c = -1)) ∧
  (∀ r, 0 ≤ r → r < T 0 3 → (0 ≤ T 4 r ∧ T 4 r < T 0 2) ∧ (1 ≤ T 5 r ∧ T 5 r ≤ 9) ∧ (0 ≤ T 6 r ∧ T 6 r ≤ 99))
/-- Works (C: its rows, from the Works on) against the reference's rows -/
def iv_w (C : Int → Int → Int) (rules : Int) (sc cl wt bu wa st se cw nd : Int → Int) (pm : Int) (oo om od ny nf tc pa : Int → Int) : Prop :=
  (sc 0 = C 1 0 ∧ sc 1 = C 1 2 ∧ sc 2 = C 1 3 ∧ sc 3 = C 1 4 ∧ sc 4 = C 1 1 ∧ sc 9 = C 0 7 ∧ sc 10 = C 0 6 ∧ sc 11 = C 0 5 ∧ pm = C 0 4) ∧
  iv_td (fun i j => C (1 + i) j) ∧
  (C 1 0 = 0 → C 0 7 = 0 ∧ C 0 4 = 0) ∧ (-1 ≤ C 0 5 ∧ C 0 5 < rules) ∧ (0 ≤ C 0 6 ∧ C 0 6 < 2147483648) ∧ (0 ≤ C 0 7 ∧ C 0 7 ≤ 10) ∧ (0 ≤ C 0 4 ∧ C 0 4 ≤ 20) ∧ (0 ≤ C 0 3 ∧ C 0 3 < 20) ∧
  (∀ y, 0 ≤ y → y < C 1 2 → C 2 y = cw y ∧ C 3 y = nd y) ∧
  (∀ c, 0 ≤ c → c < C 1 0 → C 4 c = tc c) ∧
  (∀ r, 0 ≤ r → r < C 1 3 → C 5 r = oo r ∧ C 6 r = om r ∧ C 7 r = od r) ∧
  (∀ i, 0 ≤ i → i < C 0 7 → C 11 i = ny i ∧ C 12 i = nf i ∧ (0 ≤ C 11 i ∧ C 11 i ≤ 60) ∧ (-1 ≤ C 12 i ∧ C 12 i < C 1 0)) ∧
  (iv_mo (C 1 0) (C 9) cl wt bu wa st se (sc 5) (sc 6) (sc 7) (sc 8) ∧ iv_gd (C 1 0) (C 1 2) (C 9) ∧ C 9 0 ≤ 999) ∧
  (∀ i, 0 ≤ i → i < C 0 4 →
    iv_mo (C 1 0) (fun j => C 10 (47 * ((C 0 3 + 19 - i) % 20) + j)) (fun c => pa (47 * (C 0 4 - 1 - i) + 4 + c)) (fun c => pa (47 * (C 0 4 - 1 - i) + 13 + c)) (fun c => pa (47 * (C 0 4 - 1 - i) + 22 + c)) (fun c => pa (47 * (C 0 4 - 1 - i) + 31 + c)) (fun c => pa (47 * (C 0 4 - 1 - i) + 40 + c)) (fun c => pa (47 * (C 0 4 - 1 - i) + 43 + c)) (pa (47 * (C 0 4 - 1 - i))) (pa (47 * (C 0 4 - 1 - i) + 1)) (pa (47 * (C 0 4 - 1 - i) + 2)) (pa (47 * (C 0 4 - 1 - i) + 3)) ∧
    iv_gd (C 1 0) (C 1 2) (fun j => C 10 (47 * ((C 0 3 + 19 - i) % 20) + j)) ∧ C 10 (47 * ((C 0 3 + 19 - i) % 20)) ≤ 999)
/-- a rule: what it wants by facts, in the class and in the reference -/
def iv_rx (h : Int → Int → Int) (r : Int) (W : (Int → Int) → Int) : Prop := ∀ (F : Int → Int), (∀ j, 0 ≤ j → j < 12 → ax_r32 (F j)) → (0 ≤ W F ∧ W F ≤ 9) ∧
  (∀ (g : Int → Int → Int) (d : Nat) (Q : ax_V → ax_H → Prop), (∀ j, g (13 + r) j = h (13 + r) j) → g 19 r = h 19 r → r < g 11 3 → (∀ j, 0 ≤ j → j < 12 → g 23 j = F j) →
    (∀ g', (∀ k j, k ≠ 20 → g' k j = g k j) → Q (0, W F) (L0, g')) → ax_Ev (d + 4) 46 0 [(2, 11), (0, r), (2, 23), (9, 0), (9, 0), (9, 0), (9, 0), (9, 0), (9, 0)] [] (L0, g) Q) ∧
  (∀ (g : Int → Int → Int) (d : Nat) (Q : ax_V → ax_H → Prop), (∀ j, 300 * r ≤ j → j < 300 * r + 300 → g 148 j = h 148 j ∧ g 149 j = h 149 j) → g 150 r = h 150 r → (∀ j, 12 * r ≤ j → j < 12 * r + 12 → g 151 j = h 151 j ∧ g 152 j = h 152 j ∧ g 153 j = h 153 j) → g 125 11 = r → (∀ j, 0 ≤ j → j < 12 → g 155 j = F j) →
    (∀ g' v, (W F = if v < 0 then 0 else if 9 < v then 9 else v) → (∀ k j, k ≠ 156 → g' k j = g k j) → Q (1, v) (L0, g')) → ax_Ev (d + 4) 212 0 [(2, 124), (9, 0), (9, 0)] [] (L0, g) Q)
def iv_tp (h : Int → Int → Int) : Prop := h 1 1 = h 124 23 ∧ 0 ≤ h 1 1 ∧ h 1 1 ≤ 400 ∧ ∀ j, 0 ≤ j → j < h 1 1 → h 147 j = ax_w8 (h 2 j) ∧ 0 ≤ h 2 j ∧ h 2 j ≤ 255
def iv_now (h : Int → Int → Int) : Prop := iv_w (fun i j => h (24 + i) j) (h 11 3) (h 125) (h 126) (h 127) (h 128) (h 129) (h 130) (h 131) (h 132) (h 133) (h 124 48) (h 134) (h 135) (h 136) (h 137) (h 138) (h 139) (h 157)
def iv_im (h : Int → Int → Int) (w b : Int) : Prop := iv_w (fun i j => h (w + i) j) (h 11 3) (fun j => h 164 (b + j)) (fun j => h 164 (b + 12 + j)) (fun j => h 164 (b + 21 + j)) (fun j => h 164 (b + 30 + j)) (fun j => h 164 (b + 39 + j)) (fun j => h 164 (b + 48 + j)) (fun j => h 164 (b + 51 + j)) (fun j => h 164 (b + 55 + j)) (fun j => h 164 (b + 58 + j)) (h 164 (b + 61)) (fun j => h 164 (b + 62 + j)) (fun j => h 164 (b + 66 + j)) (fun j => h 164 (b + 70 + j)) (fun j => h 164 (b + 74 + j)) (fun j => h 164 (b + 84 + j)) (fun j => h 164 (b + 94 + j)) (fun j => h 164 (b + 103 + j))
/-- what lies beyond the clays told: no clay's numbers, but numbers all the same -/
def iv_s1 (h : Int → Int → Int) : Prop := ∀ y, 0 ≤ y → y < 3 → (0 ≤ h 132 y ∧ h 132 y ≤ 99999) ∧ (0 ≤ h 133 y ∧ h 133 y ≤ 99999) ∧ (0 ≤ h 142 y ∧ h 142 y ≤ 99999) ∧ (0 ≤ h 143 y ∧ h 143 y ≤ 99999) ∧ ∀ k, 0 ≤ k → k < 4 → (0 ≤ h 164 (1100 * k + 55 + y) ∧ h 164 (1100 * k + 55 + y) ≤ 99999) ∧ (0 ≤ h 164 (1100 * k + 58 + y) ∧ h 164 (1100 * k + 58 + y) ≤ 99999)
def iv_s2 (h : Int → Int → Int) : Prop := ∀ c, 0 ≤ c → c < 9 → (-1 ≤ h 139 c ∧ h 139 c < 3) ∧ ∀ k, 0 ≤ k → k < 4 → -1 ≤ h 164 (1100 * k + 94 + c) ∧ h 164 (1100 * k + 94 + c) < 3
def iv_st (h : Int → Int → Int) : Prop := iv_s1 h ∧ iv_s2 h
def iv_h (h : Int → Int → Int) : Prop :=
  iv_tp h ∧ iv_now h ∧ (∀ k, 0 ≤ k → k < 4 → (h 38 k = 0 ∨ h 38 k = 1) ∧ h 165 k = h 38 k ∧ (h 38 k = 1 → iv_im h (39 + 13 * k) (1100 * k))) ∧
  (h 124 27 = h 11 3 ∧ 0 ≤ h 11 3 ∧ h 11 3 ≤ 6 ∧ ∀ r, 0 ≤ r → r < h 11 3 → ∃ W, iv_rx h r W) ∧ ((h 124 32 = 12 ∧ iv_st h) ∧ h 124 43 = -1)
def Inv (H : ax_H) : Prop := H.1 = L0 ∧ iv_h H.2
theorem ifp {c : Prop} [Decidable c] {α : Sort _} {a b : α} (h : c) : (if c then a else b) = a := if_pos h
theorem ifn {c : Prop} [Decidable c] {α : Sort _} {a b : α} (h : ¬ c) : (if c then a else b) = b := if_neg h
theorem ltT {x y : Int} (h : x < y) : (x < y) = True := eq_true h
theorem ltF {x y : Int} (h : ¬ x < y) : (x < y) = False := eq_false h
theorem leT {x y : Int} (h : x ≤ y) : (x ≤ y) = True := eq_true h
theorem leF {x y : Int} (h : ¬ x ≤ y) : (x ≤ y) = False := eq_false h
theorem eqT {x y : Int} (h : x = y) : (x = y) = True := eq_true h
theorem eqF {x y : Int} (h : ¬ x = y) : (x = y) = False := eq_false h
theorem rwup (h : Int → Int → Int) (a : Int) (S : Int → Int) (i v : Int) : ax_up (ax_rw h a S) a i v = ax_rw h a (fun j => if j = i then v else S j) := by
  funext k j
  unfold ax_up ax_rw
  by_cases e : k = a
  · by_cases e2 : j = i <;> simp [e, e2]
  · simp [e]
theorem rwrd (h : Int → Int → Int) (a : Int) (S : Int → Int) (j : Int) : ax_rw h a S a j = S j := by simp [ax_rw]
theorem rwno (h : Int → Int → Int) (a : Int) (S : Int → Int) (k j : Int) (e : k ≠ a) : ax_rw h a S k j = h k j := by simp [ax_rw, e]
theorem uprw (h : Int → Int → Int) (a i v : Int) : ax_up h a i v = ax_rw h a (fun j => if j = i then v else h a j) := by
  funext k j
  unfold ax_up ax_rw
  by_cases e : k = a
  · by_cases e2 : j = i <;> simp [e, e2]
  · simp [e]
