/-! the reference's day -/
/-- the reference's heap behind a day (rows 155 and 156 aside) -/
def dy_M (n : Int) (nd : Int → Int) (fed : Int) (S : Int → Int) (h : Int → Int → Int) : Int → Int → Int := fun k j =>
  if k = 124 ∧ j = 44 then fed else if k = 124 ∧ j = 45 then (if dy_fi n nd fed S = S 10 then -1 else dy_fi n nd fed S) else
  if k = 125 ∧ j = 5 then S 0 + 1 else if k = 125 ∧ j = 6 then dy_fi n nd fed S else if k = 125 ∧ j = 7 then S 1 - fed else
  if k = 127 ∧ 0 ≤ j ∧ j < n then dy_wet n fed S j else if k = 128 ∧ 0 ≤ j ∧ j < n then dy_bu n fed S j else if k = 129 ∧ 0 ≤ j ∧ j < n then dy_wa n fed S j else h k j
/-- c chambers dried, q cooled -/
def dy_N (n fed : Int) (S : Int → Int) (h : Int → Int → Int) (c q : Int) : Int → Int → Int := fun k j =>
  if k = 124 ∧ j = 44 then fed else if k = 124 ∧ j = 45 then -1 else if k = 125 ∧ j = 7 then S 1 - fed else
  if k = 127 ∧ 0 ≤ j ∧ j < c then dy_wet n fed S j else if k = 128 ∧ 0 ≤ j ∧ j < c then dy_bu n fed S j else if k = 129 ∧ 0 ≤ j ∧ j < q then dy_wa n fed S j else if k = 129 ∧ 0 ≤ j ∧ j < n then dy_W n fed S j else h k j
/-- the facts that a rule asks for -/
def dy_F (n : Int) (nd : Int → Int) (S : Int → Int) : Int → Int := fun j =>
  if j = 0 then S 10 else if j = 1 then S (38 + S 10) else if j = 2 then S (20 + S 10) else if j = 3 then S (29 + S 10) else if j = 4 then nd (S (11 + S 10)) else
  if j = 5 then (if S (11 + dy_nx n (S 10)) = -1 then 0 else 1) else if j = 6 then S (20 + dy_nx n (S 10)) else if j = 7 then S (38 + dy_nx n (S 10)) else if j = 8 then S 1 else if j = 9 then S 3 + S 4 + S 5 else if j = 10 then S 2 else S 0
/-- what is wanted by a rule W (none: 4) -/
def dy_w (n : Int) (nd : Int → Int) (W : (Int → Int) → Int) (r : Int) (S : Int → Int) : Int := if S 10 = -1 then 0 else if r = -1 then 4 else W (dy_F n nd S)
theorem dy_F_r {n cy : Int} {nd S : Int → Int} (hn : 3 ≤ n ∧ n ≤ 9) (hg : iv_gd n cy S) (hg9 : S 0 < 100000) (hnd : ∀ y, 0 ≤ y → y < cy → 0 ≤ nd y ∧ nd y ≤ 100000) (e : S 10 ≠ -1) : ∀ j, 0 ≤ j → j < 12 → ax_r32 (dy_F n nd S j) := by
  obtain ⟨g1, g2, g3, g4, g5, g6, g7, g8⟩ := hg
  have g7' := g7.resolve_left e
  have nx : 0 ≤ dy_nx n (S 10) ∧ dy_nx n (S 10) < n := by unfold dy_nx; split <;> omega
  have a1 := g8 (S 10) (by omega) (by omega)
  have a2 := g8 _ nx.1 (by omega)
  have a3 := hnd (S (11 + S 10)) (by omega) (by omega)
  have b0 := g6 0 (by omega) (by omega)
  have b1 := g6 1 (by omega) (by omega)
  have b2 := g6 2 (by omega) (by omega)
  simp only [Int.reduceAdd, Int.add_zero] at b0 b1 b2
  intro j j0 j1
  unfold ax_r32 dy_F
  clear g6 g8 hnd g7
  repeat' split
  all_goals omega
