/-! row: rows of coal as codes -/
def mix (S J : Int → Int) : Int → Int := fun j => if 0 ≤ j ∧ j < 47 then S j else J j
theorem mix_in {S J : Int → Int} {j : Int} (j0 : 0 ≤ j) (j1 : j < 47) : mix S J j = S j := if_pos ⟨j0, j1⟩
theorem mix_out {S J : Int → Int} {j : Int} (hj : j < 0 ∨ 47 ≤ j) : mix S J j = J j := if_neg (by omega)
/-- a day with v fed -/
def rD (h : Int → Int → Int) (v : Int) (S : Int → Int) : Int → Int := dyF (h 25 0) (h 27) (dy_fed S v) S
/-- the moment behind the k days that the code p tells -/
def rS (h : Int → Int → Int) : Nat → Int → Int → Int
  | 0, _ => mix (h 33) (h 102)
  | k + 1, p => rD h (3 * (p % 4)) (mix (rS h k (p / 4)) (h (104 + 2 * (k : Int))))
theorem rS_s (h : Int → Int → Int) (k : Nat) (p : Int) : rS h (k + 1) p = rD h (3 * (p % 4)) (mix (rS h k (p / 4)) (h (104 + 2 * (k : Int)))) := rfl
def p4 : Nat → Int
  | 0 => 1
  | k + 1 => 4 * p4 k
theorem p4_s (k : Nat) : p4 (k + 1) = 4 * p4 k := rfl
theorem p4_p : ∀ k, 0 < p4 k
  | 0 => by unfold p4; omega
  | k + 1 => by have := p4_p k; unfold p4; omega
theorem mix_gm {h : Int → Int → Int} {W : (Int → Int) → Int} (q : qx h W) {b : Int} {S : Int → Int} (g : gm h b S) (J : Int → Int) : gm h b (mix S J) :=
  ⟨iv_gd_congr q.2.1.2 g.1 fun j j0 j1 => mix_in j0 j1, by rw [mix_in (by omega) (by omega)]; exact g.2⟩
theorem rD_gm {h : Int → Int → Int} {W : (Int → Int) → Int} (q : qx h W) {b v : Int} {S : Int → Int} (g : gm h b S) (v0 : 0 ≤ v) : gm h (b + 1) (rD h v S) := by
  refine ⟨gd_day q.2.1 g.1 (fed_r g.1 v0), ?_⟩
  have := g.2
  unfold rD; rw [dyF_0]; omega
theorem rS_gm {h : Int → Int → Int} {W : (Int → Int) → Int} (q : qx h W) : ∀ (k : Nat) (p : Int), gm h (999 + k) (rS h k p)
  | 0, p => by have := mix_gm q (gm_now q) (h 102); simpa [rS] using this
  | k + 1, p => by
    have := rD_gm q (mix_gm q (rS_gm q k (p / 4)) (h (104 + 2 * (k : Int)))) (v := 3 * (p % 4)) (by omega)
    rw [show (999 : Int) + ((k + 1 : Nat) : Int) = 999 + (k : Int) + 1 by omega]
    exact this
theorem rS_out {h : Int → Int → Int} {W : (Int → Int) → Int} (q : qx h W) (k : Nat) (p : Int) {j : Int} (hj : j < 0 ∨ 47 ≤ j) : rS h (k + 1) p j = h (104 + 2 * (k : Int)) j := by
  have n9 := q.2.1.2
  rw [rS_s]
  unfold rD dyF dy_P
  rw [if_neg (by omega), if_neg (by omega), if_neg (by omega), if_neg (by omega), if_neg (by omega), if_neg (by omega), if_neg (by omega)]
  exact mix_out hj
theorem rD_1 {h : Int → Int → Int} {W : (Int → Int) → Int} (q : qx h W) {b v : Int} {S : Int → Int} (g : gm h b S) (v0 : 0 ≤ v) : rD h v S 1 ≤ S 1 ∧ 0 ≤ rD h v S 1 := by
  have f := fed_r g.1 v0
  unfold rD; rw [dyF_1]; omega
theorem rS_1 {h : Int → Int → Int} {W : (Int → Int) → Int} (q : qx h W) (k : Nat) (p : Int) : rS h (k + 1) p 1 ≤ rS h k (p / 4) 1 := by
  have := rD_1 q (mix_gm q (rS_gm q k (p / 4)) (h (104 + 2 * (k : Int)))) (v := 3 * (p % 4)) (by omega)
  rw [mix_in (by omega) (by omega)] at this
  exact this.1
theorem ediv2 (x a b : Int) (a0 : 0 ≤ a) : x / a / b = x / (a * b) := Int.ediv_ediv_of_nonneg a0
theorem rS_mono {h : Int → Int → Int} {W : (Int → Int) → Int} (q : qx h W) (k : Nat) : ∀ (j : Nat) (x : Int), rS h (k + j) x 1 ≤ rS h k (x / p4 j) 1
  | 0, x => by show rS h k x 1 ≤ rS h k (x / 1) 1; rw [Int.ediv_one]; exact Int.le_refl _
  | j + 1, x => by
    have a := rS_1 q (k + j) x
    have b := rS_mono q k j (x / 4)
    rw [ediv2 _ _ _ (by omega)] at b
    exact Int.le_trans a b
theorem rS_eq {h : Int → Int → Int} {k : Nat} {a b : Int} (e : rS h k a = rS h k b) : ∀ (j : Nat) (s : Int), 0 ≤ s → s < p4 j → rS h (k + j) (a * p4 j + s) = rS h (k + j) (b * p4 j + s)
  | 0, s, s0, s1 => by
    have : s = 0 := by unfold p4 at s1; omega
    subst this
    show rS h k (a * 1 + 0) = rS h k (b * 1 + 0)
    simpa using e
  | j + 1, s, s0, s1 => by
    have i := rS_eq e j (s / 4) (by omega) (by rw [p4_s] at s1; omega)
    have A : ∀ c : Int, c * p4 (j + 1) = 4 * (c * p4 j) := fun c => by rw [p4_s, Int.mul_left_comm]
    show rS h (k + j + 1) _ = rS h (k + j + 1) _
    rw [rS_s, rS_s, A a, A b, show (4 * (a * p4 j) + s) / 4 = a * p4 j + s / 4 by omega, show (4 * (b * p4 j) + s) / 4 = b * p4 j + s / 4 by omega, show (4 * (a * p4 j) + s) % 4 = s % 4 by omega, show (4 * (b * p4 j) + s) % 4 = s % 4 by omega, i]
/-- the coal that goes by a code, 1000 if the chamber is raw behind it -/
def rv (h : Int → Int → Int) (c : Int) (n : Nat) (x : Int) : Int := if kd h (rS h n x) c = 1 then 1000 else h 33 1 - rS h n x 1
theorem rv_b {h : Int → Int → Int} {W : (Int → Int) → Int} (q : qx h W) (c : Int) (n : Nat) (x : Int) : (rv h c n x = 1000 ∨ (0 ≤ rv h c n x ∧ rv h c n x ≤ 999)) := by
  have a := (rS_gm q n x).1.2.1
  have g := (gm_now q).1
  have b := rS_mono q 0 n x
  rw [Nat.zero_add] at b
  have e : rS h 0 (x / p4 n) 1 = h 33 1 := mix_in (by omega) (by omega)
  rw [e] at b
  have := g.2.1
  have := g.2.2.1
  unfold rv
  split
  · exact .inl rfl
  · exact .inr (by omega)
def opt (V : Int → Int) (N l c : Int) : Prop := l ≤ 1000 ∧ (∀ x, 0 ≤ x → x < N → l ≤ V x) ∧ (l = 1000 ∨ (0 ≤ c ∧ c < N ∧ V c = l ∧ ∀ x, 0 ≤ x → x < c → l < V x))
theorem opt_more {V : Int → Int} {N N' l c : Int} (o : opt V N l c) (h : N ≤ N') (e : ∀ x, N ≤ x → 0 ≤ x → x < N' → l ≤ V x) : opt V N' l c := by
  refine ⟨o.1, fun x x0 x1 => ?_, ?_⟩
  · by_cases u : x < N
    · exact o.2.1 x x0 u
    · exact e x (by omega) x0 x1
  · rcases o.2.2 with a | a
    · exact .inl a
    · exact .inr ⟨a.1, by omega, a.2.2⟩
theorem opt_take {V : Int → Int} {N l c v : Int} (o : opt V N l c) (N0 : 0 ≤ N) (hv : V N = v) (lt : v < l) : opt V (N + 1) v N := by
  have b := o.1
  refine ⟨by omega, fun x x0 x1 => ?_, .inr ⟨N0, by omega, hv, fun x x0 x1 => ?_⟩⟩
  · by_cases u : x = N
    · rw [u, hv]; exact Int.le_refl _
    · have := o.2.1 x x0 (by omega); omega
  · have := o.2.1 x x0 x1; omega
theorem opt_uniq {V : Int → Int} {N l c l' c' : Int} (o : opt V N l c) (o' : opt V N l' c') : l = l' ∧ (l ≠ 1000 → c = c') := by
  obtain ⟨a1, a2, a3⟩ := o
  obtain ⟨b1, b2, b3⟩ := o'
  have e : l = l' := by
    rcases a3 with a | ⟨x1, x2, x3, x4⟩
    · rcases b3 with b | ⟨y1, y2, y3, y4⟩
      · omega
      · have := a2 c' y1 y2; omega
    · rcases b3 with b | ⟨y1, y2, y3, y4⟩
      · have := b2 c x1 x2; omega
      · have := a2 c' y1 y2; have := b2 c x1 x2; omega
  refine ⟨e, fun ne => ?_⟩
  rcases a3 with a | ⟨x1, x2, x3, x4⟩
  · exact absurd a ne
  · rcases b3 with b | ⟨y1, y2, y3, y4⟩
    · omega
    · rcases (by omega : c = c' ∨ c < c' ∨ c' < c) with u | u | u
      · exact u
      · have := y4 c x1 u; omega
      · have := x4 c' y1 u; omega
/-- all of a branch that is left: no less goes by any of it -/
theorem opt_gone {h : Int → Int → Int} {W : (Int → Int) → Int} (q : qx h W) {ch l cc p : Int} {dp k : Nat} (o : opt (rv h ch (dp + 1 + k)) (p * p4 k) l cc) (g : l ≤ h 33 1 - rS h (dp + 1) p 1) : opt (rv h ch (dp + 1 + k)) ((p + 1) * p4 k) l cc := by
  have P := p4_p k
  have E : (p + 1) * p4 k = p * p4 k + p4 k := by rw [Int.add_mul, Int.one_mul]
  refine opt_more o (by omega) fun x x0 xp x1 => ?_
  have dv : x / p4 k = p := by
    have a := Int.emod_add_mul_ediv x (p4 k)
    have b := Int.emod_nonneg x (by omega : p4 k ≠ 0)
    have c := Int.emod_lt_of_pos x P
    rcases (by omega : x / p4 k = p ∨ x / p4 k ≤ p - 1 ∨ p + 1 ≤ x / p4 k) with u | u | u
    · exact u
    · have := Int.mul_le_mul_of_nonneg_left u (by omega : 0 ≤ p4 k)
      rw [Int.mul_sub, Int.mul_comm (p4 k) p, Int.mul_one] at this
      omega
    · have := Int.mul_le_mul_of_nonneg_left u (by omega : 0 ≤ p4 k)
      rw [Int.mul_add, Int.mul_comm (p4 k) p, Int.mul_one] at this
      omega
  have m := rS_mono q (dp + 1) k x
  rw [dv] at m
  unfold rv
  split
  · exact o.1
  · omega
/-- all that is left where no more is fed -/
theorem opt_same {h : Int → Int → Int} {ch l cc p c : Int} {dp k : Nat} (o : opt (rv h ch (dp + 1 + k)) ((4 * p + c) * p4 k) l cc) (p0 : 0 ≤ p) (c1 : 1 ≤ c) (c4 : c ≤ 4) (e : ∀ c', c ≤ c' → c' < 4 → rS h (dp + 1) (4 * p + c') = rS h (dp + 1) (4 * p + (c - 1))) : opt (rv h ch (dp + 1 + k)) ((4 * p + 4) * p4 k) l cc := by
  have P := p4_p k
  have D : ∀ a : Int, (4 * p + a) * p4 k = 4 * (p * p4 k) + a * p4 k := fun a => by rw [Int.add_mul, Int.mul_assoc]
  have c4' : c * p4 k ≤ 4 * p4 k := Int.mul_le_mul_of_nonneg_right c4 (by omega)
  have pp : 0 ≤ p * p4 k := Int.mul_nonneg p0 (by omega)
  refine opt_more o (by rw [D, D]; omega) fun x x0 xp x1 => ?_
  rw [D] at x0 x1
  -- the digit of x
  have key : ∃ c' s, (c ≤ c' ∧ c' < 4) ∧ (0 ≤ s ∧ s < p4 k) ∧ x = (4 * p + c') * p4 k + s := by
    by_cases u1 : x < 4 * (p * p4 k) + p4 k
    · have : c * p4 k < 1 * p4 k := by omega
      have := Int.lt_of_mul_lt_mul_right this (by omega)
      omega
    · by_cases u2 : x < 4 * (p * p4 k) + 2 * p4 k
      · have : c * p4 k < 2 * p4 k := by omega
        have := Int.lt_of_mul_lt_mul_right this (by omega)
        exact ⟨1, x - (4 * (p * p4 k) + p4 k), by omega, by omega, by rw [D]; omega⟩
      · by_cases u3 : x < 4 * (p * p4 k) + 3 * p4 k
        · have : c * p4 k < 3 * p4 k := by omega
          have := Int.lt_of_mul_lt_mul_right this (by omega)
          exact ⟨2, x - (4 * (p * p4 k) + 2 * p4 k), by omega, by omega, by rw [D]; omega⟩
        · have : c * p4 k < 4 * p4 k := by omega
          have := Int.lt_of_mul_lt_mul_right this (by omega)
          exact ⟨3, x - (4 * (p * p4 k) + 3 * p4 k), by omega, by omega, by rw [D]; omega⟩
  obtain ⟨c', s, hc, hs, hx⟩ := key
  have R := rS_eq (e c' hc.1 hc.2) k s hs.1 hs.2
  have lt : (4 * p + (c - 1)) * p4 k + s < (4 * p + c) * p4 k := by
    rw [D, D, Int.sub_mul, Int.one_mul]; omega
  have ge : 0 ≤ (4 * p + (c - 1)) * p4 k + s := by
    have := Int.mul_nonneg (by omega : 0 ≤ 4 * p + (c - 1)) (by omega : 0 ≤ p4 k)
    omega
  have := o.2.1 _ ge lt
  unfold rv at this ⊢
  rw [hx, R]
  exact this
