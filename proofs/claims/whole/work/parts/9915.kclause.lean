/-! kiln: the whole text, pure and in the class -/
noncomputable def kpart (b : Int → Int) (N k s : Int) (T : Int → Int → Int) : Int × Int × (Int → Int → Int) := if k = 0 then kK b N s T else if k = 1 then kC b N s T else if k = 2 then kS b N s T else if k = 3 then kF b N s T else kO b N s T
noncomputable def kstep (b : Int → Int) (N cl s : Int) (T : Int → Int → Int) : Int × Int × (Int → Int → Int) := if tkK b N s = 2 ∧ 0 ≤ tkV b N s ∧ tkV b N s ≤ 4 then (if 40 ≤ cl ∨ ¬ (cl = 0 ↔ tkV b N s = 0) ∨ (tkV b N s = 1 ∧ 3 ≤ T 0 2) ∨ (tkV b N s = 3 ∧ T 0 4 ≠ -1) ∨ (tkV b N s = 4 ∧ 4 ≤ T 0 3) then (5 + 8 * s, s, T) else kpart b N (tkV b N s) (nxT b N s) T) else (1 + 8 * s, s, T)
noncomputable def kall (b : Int → Int) (N : Int) : Nat → Int → Int → (Int → Int → Int) → Int × (Int → Int → Int)
  | 0, _, _, T => (1, T)
  | k + 1, cl, s, T => if (kstep b N cl s T).1 ≠ 0 then ((kstep b N cl s T).1, T) else if tkK b N (kstep b N cl s T).2.1 = 0 then (0, (kstep b N cl s T).2.2) else if tkK b N (kstep b N cl s T).2.1 = 3 ∧ tkV b N (kstep b N cl s T).2.1 = 59 then kall b N k (cl + 1) (nxT b N (kstep b N cl s T).2.1) (kstep b N cl s T).2.2 else (1 + 8 * (kstep b N cl s T).2.1, T)
def kg (cl : Int) (T : Int → Int → Int) : Prop := iv_td T ∧ (cl = 0 → T 0 0 = 0) ∧ (1 ≤ cl → 3 ≤ T 0 0)
theorem ax_up_no {T : Int → Int → Int} {i j v a c : Int} (h : ¬ (a = i ∧ c = j)) : ax_up T i j v a c = T a c := by simp only [ax_up]; rw [if_neg h]
theorem ax_up_eq {T : Int → Int → Int} {i j v : Int} : ax_up T i j v i j = v := by simp [ax_up]
theorem kstep_td {b : Int → Int} {N cl s : Int} {T : Int → Int → Int} (cl0 : 0 ≤ cl) (s0 : 0 ≤ s) (sN : s ≤ N) (g : kg cl T) (h : (kstep b N cl s T).1 = 0) : iv_td (kstep b N cl s T).2.2 ∧ 3 ≤ (kstep b N cl s T).2.2 0 0 := by
  obtain ⟨⟨b1, b2, b3, b4, b5, b6, b7, b8⟩, g1, g2⟩ := g
  obtain ⟨n0, n1⟩ := nxT_b (b := b) s0 sN
  obtain ⟨nn0, nn1⟩ := nxT_b (b := b) n0 n1
  obtain ⟨nnn0, nnn1⟩ := nxT_b (b := b) nn0 nn1
  unfold kstep at h ⊢
  split at h
  · rename_i hd
    rw [if_pos hd]
    split at h
    · exact absurd h (by simp only; omega)
    · rename_i ov
      rw [if_neg ov]
      unfold kpart at h ⊢
      generalize tkV b N s = k at *
      generalize nxT b N s = s at *
      by_cases k0 : k = 0
      · rw [if_pos k0] at h ⊢
        unfold kK at h ⊢
        split at h
        · rename_i z; exact absurd h z
        · rename_i z
          rw [if_neg z]
          split at h
          · rename_i z2; exact absurd h z2
          · rename_i z2
            rw [if_neg z2]
            have v1 := nf_0 n0 (by omega : nf b N s 3 9 = 0)
            have v2 := nf_0 nn0 (by omega : nf b N (nxT b N s) 0 999 = 0)
            have T00 : T 0 0 = 0 := g1 (by omega)
            dsimp only
            have e0 : ax_up (ax_up T 0 0 (tkV b N s)) 0 1 (tkV b N (nxT b N s)) 0 0 = tkV b N s := by simp [ax_up]
            have e1 : ax_up (ax_up T 0 0 (tkV b N s)) 0 1 (tkV b N (nxT b N s)) 0 1 = tkV b N (nxT b N s) := by simp [ax_up]
            have ee : ∀ i j, ¬ (i = 0 ∧ (j = 0 ∨ j = 1)) → ax_up (ax_up T 0 0 (tkV b N s)) 0 1 (tkV b N (nxT b N s)) i j = T i j := fun i j e => by rw [ax_up_no (by omega), ax_up_no (by omega)]
            generalize ax_up (ax_up T 0 0 (tkV b N s)) 0 1 (tkV b N (nxT b N s)) = T' at *
            have c2 := ee 0 2 (by omega)
            have c3 := ee 0 3 (by omega)
            have c4 := ee 0 4 (by omega)
            refine ⟨⟨.inr (by omega), by omega, by omega, by omega, .inl (by omega), fun y y0 y1 => by omega, fun c a0 a1 => ?_, fun r r0 r1 => by omega⟩, by omega⟩
            rw [ee 3 c (by omega)]
            have := b7 c a0 a1
            omega
      · rw [if_neg k0] at h ⊢
        have T3 : 3 ≤ T 0 0 := g2 (by omega)
        by_cases k1 : k = 1
        · rw [if_pos k1] at h ⊢
          unfold kC at h ⊢
          split at h
          · rename_i z; exact absurd h z
          · rename_i z
            rw [if_neg z]
            split at h
            · rename_i z2; exact absurd h z2
            · rename_i z2
              rw [if_neg z2]
              have v1 := nf_0 n0 (by omega : nf b N s 0 30 = 0)
              have v2 := nf_0 nn0 (by omega : nf b N (nxT b N s) 1 60 = 0)
              dsimp only
              have e0 : ax_up (ax_up (ax_up T 1 (T 0 2) (tkV b N s)) 2 (T 0 2) (tkV b N (nxT b N s))) 0 2 (T 0 2 + 1) 0 2 = T 0 2 + 1 := by simp [ax_up]
              have e1 : ax_up (ax_up (ax_up T 1 (T 0 2) (tkV b N s)) 2 (T 0 2) (tkV b N (nxT b N s))) 0 2 (T 0 2 + 1) 1 (T 0 2) = tkV b N s := by simp [ax_up]
              have e2 : ax_up (ax_up (ax_up T 1 (T 0 2) (tkV b N s)) 2 (T 0 2) (tkV b N (nxT b N s))) 0 2 (T 0 2 + 1) 2 (T 0 2) = tkV b N (nxT b N s) := by simp [ax_up]
              have ee : ∀ i j, ¬ (i = 0 ∧ j = 2) → ¬ (i = 1 ∧ j = T 0 2) → ¬ (i = 2 ∧ j = T 0 2) → ax_up (ax_up (ax_up T 1 (T 0 2) (tkV b N s)) 2 (T 0 2) (tkV b N (nxT b N s))) 0 2 (T 0 2 + 1) i j = T i j := fun i j x1 x2 x3 => by rw [ax_up_no x1, ax_up_no x3, ax_up_no x2]
              generalize ax_up (ax_up (ax_up T 1 (T 0 2) (tkV b N s)) 2 (T 0 2) (tkV b N (nxT b N s))) 0 2 (T 0 2 + 1) = T' at *
              have c0 := ee 0 0 (by omega) (by omega) (by omega)
              have c1 := ee 0 1 (by omega) (by omega) (by omega)
              have c3 := ee 0 3 (by omega) (by omega) (by omega)
              have c4 := ee 0 4 (by omega) (by omega) (by omega)
              refine ⟨⟨.inr (by omega), by omega, by omega, by omega, ?_, fun y y0 y1 => ?_, fun c a0 a1 => ?_, fun r r0 r1 => ?_⟩, by omega⟩
              · rw [c4, c0, ee 3 (T 0 4) (by omega) (by omega) (by omega)]; exact b5
              · by_cases u : y = T 0 2
                · rw [u, e1, e2]; omega
                · rw [ee 1 y (by omega) (by omega) (by omega), ee 2 y (by omega) (by omega) (by omega)]; exact b6 y y0 (by omega)
              · rw [ee 3 c (by omega) (by omega) (by omega), c0]
                have := b7 c a0 a1
                omega
              · rw [ee 4 r (by omega) (by omega) (by omega), ee 5 r (by omega) (by omega) (by omega), ee 6 r (by omega) (by omega) (by omega)]
                have := b8 r r0 (by omega)
                omega
        · rw [if_neg k1] at h ⊢
          by_cases k2 : k = 2
          · rw [if_pos k2] at h ⊢
            unfold kS at h ⊢
            split at h
            · rename_i z; exact absurd h z
            · rename_i z
              rw [if_neg z]
              split at h
              · exact absurd h (by simp only; omega)
              · rename_i z1
                rw [if_neg z1]
                split at h
                · rename_i z2; exact absurd h z2
                · rename_i z2
                  rw [if_neg z2]
                  have v1 := nf_0 n0 (by omega : nf b N s 0 (T 0 0 - 1) = 0)
                  have v2 := nf_0 nn0 (by omega : nf b N (nxT b N s) 0 (T 0 2 - 1) = 0)
                  dsimp only
                  have e1 : ax_up T 3 (tkV b N s) (tkV b N (nxT b N s)) 3 (tkV b N s) = tkV b N (nxT b N s) := by simp [ax_up]
                  have ee : ∀ i j, ¬ (i = 3 ∧ j = tkV b N s) → ax_up T 3 (tkV b N s) (tkV b N (nxT b N s)) i j = T i j := fun i j x1 => by rw [ax_up_no x1]
                  generalize ax_up T 3 (tkV b N s) (tkV b N (nxT b N s)) = T' at *
                  have c0 := ee 0 0 (by omega)
                  have c1 := ee 0 1 (by omega)
                  have c2 := ee 0 2 (by omega)
                  have c3 := ee 0 3 (by omega)
                  have c4 := ee 0 4 (by omega)
                  refine ⟨⟨.inr (by omega), by omega, by omega, by omega, ?_, fun y y0 y1 => ?_, fun c a0 a1 => ?_, fun r r0 r1 => ?_⟩, by omega⟩
                  · rw [c4, c0]
                    rcases b5 with e | e
                    · exact .inl e
                    · refine .inr ⟨e.1, e.2.1, ?_⟩
                      by_cases u : T 0 4 = tkV b N s
                      · rw [u, e1]; omega
                      · rw [ee 3 (T 0 4) (by omega)]; exact e.2.2
                  · rw [ee 1 y (by omega), ee 2 y (by omega)]; exact b6 y y0 (by omega)
                  · have := b7 c a0 a1
                    by_cases u : c = tkV b N s
                    · rw [u, e1]; omega
                    · rw [ee 3 c (by omega)]; omega
                  · rw [ee 4 r (by omega), ee 5 r (by omega), ee 6 r (by omega)]
                    have := b8 r r0 (by omega)
                    omega
          · rw [if_neg k2] at h ⊢
            by_cases k3 : k = 3
            · rw [if_pos k3] at h ⊢
              unfold kF at h ⊢
              split at h
              · rename_i z; exact absurd h z
              · rename_i z
                rw [if_neg z]
                split at h
                · exact absurd h (by simp only; omega)
                · rename_i z1
                  rw [if_neg z1]
                  have v1 := nf_0 n0 (by omega : nf b N s 0 (T 0 0 - 1) = 0)
                  dsimp only
                  have e1 : ax_up T 0 4 (tkV b N s) 0 4 = tkV b N s := by simp [ax_up]
                  have ee : ∀ i j, ¬ (i = 0 ∧ j = 4) → ax_up T 0 4 (tkV b N s) i j = T i j := fun i j x1 => by rw [ax_up_no x1]
                  generalize ax_up T 0 4 (tkV b N s) = T' at *
                  have c0 := ee 0 0 (by omega)
                  have c1 := ee 0 1 (by omega)
                  have c2 := ee 0 2 (by omega)
                  have c3 := ee 0 3 (by omega)
                  refine ⟨⟨.inr (by omega), by omega, by omega, by omega, ?_, fun y y0 y1 => ?_, fun c a0 a1 => ?_, fun r r0 r1 => ?_⟩, by omega⟩
                  · rw [e1, c0]
                    exact .inr ⟨by omega, by omega, by rw [ee 3 _ (by omega)]; exact z1⟩
                  · rw [ee 1 y (by omega), ee 2 y (by omega)]; exact b6 y y0 (by omega)
                  · rw [ee 3 c (by omega), c2, c0]; exact b7 c a0 a1
                  · rw [ee 4 r (by omega), ee 5 r (by omega), ee 6 r (by omega), c2]; exact b8 r r0 (by omega)
            · rw [if_neg k3] at h ⊢
              unfold kO at h ⊢
              split at h
              · rename_i z; exact absurd h z
              · rename_i z
                rw [if_neg z]
                split at h
                · rename_i z2; exact absurd h z2
                · rename_i z2
                  rw [if_neg z2]
                  split at h
                  · rename_i z3; exact absurd h z3
                  · rename_i z3
                    rw [if_neg z3]
                    have v1 := nf_0 n0 (by omega : nf b N s 0 (T 0 2 - 1) = 0)
                    have v2 := nf_0 nn0 (by omega : nf b N (nxT b N s) 1 9 = 0)
                    have v3 := nf_0 nnn0 (by omega : nf b N (nxT b N (nxT b N s)) 0 99 = 0)
                    dsimp only
                    generalize tkV b N s = w1 at *
                    generalize tkV b N (nxT b N s) = w2 at *
                    generalize tkV b N (nxT b N (nxT b N s)) = w3 at *
                    have e0 : ax_up (ax_up (ax_up (ax_up T 4 (T 0 3) w1) 5 (T 0 3) w2) 6 (T 0 3) w3) 0 3 (T 0 3 + 1) 0 3 = T 0 3 + 1 := by simp [ax_up]
                    have e1 : ax_up (ax_up (ax_up (ax_up T 4 (T 0 3) w1) 5 (T 0 3) w2) 6 (T 0 3) w3) 0 3 (T 0 3 + 1) 4 (T 0 3) = w1 := by simp [ax_up]
                    have e2 : ax_up (ax_up (ax_up (ax_up T 4 (T 0 3) w1) 5 (T 0 3) w2) 6 (T 0 3) w3) 0 3 (T 0 3 + 1) 5 (T 0 3) = w2 := by simp [ax_up]
                    have e3 : ax_up (ax_up (ax_up (ax_up T 4 (T 0 3) w1) 5 (T 0 3) w2) 6 (T 0 3) w3) 0 3 (T 0 3 + 1) 6 (T 0 3) = w3 := by simp [ax_up]
                    have ee : ∀ i j, ¬ (i = 0 ∧ j = 3) → ¬ (4 ≤ i ∧ i ≤ 6 ∧ j = T 0 3) → ax_up (ax_up (ax_up (ax_up T 4 (T 0 3) w1) 5 (T 0 3) w2) 6 (T 0 3) w3) 0 3 (T 0 3 + 1) i j = T i j := fun i j x1 x2 => by rw [ax_up_no x1, ax_up_no (by omega), ax_up_no (by omega), ax_up_no (by omega)]
                    generalize ax_up (ax_up (ax_up (ax_up T 4 (T 0 3) w1) 5 (T 0 3) w2) 6 (T 0 3) w3) 0 3 (T 0 3 + 1) = T' at *
                    have c0 := ee 0 0 (by omega) (by omega)
                    have c1 := ee 0 1 (by omega) (by omega)
                    have c2 := ee 0 2 (by omega) (by omega)
                    have c4 := ee 0 4 (by omega) (by omega)
                    refine ⟨⟨.inr (by omega), by omega, by omega, by omega, ?_, fun y y0 y1 => ?_, fun c a0 a1 => ?_, fun r r0 r1 => ?_⟩, by omega⟩
                    · rw [c4, c0, ee 3 (T 0 4) (by omega) (by omega)]; exact b5
                    · rw [ee 1 y (by omega) (by omega), ee 2 y (by omega) (by omega)]; exact b6 y y0 (by omega)
                    · rw [ee 3 c (by omega) (by omega), c2, c0]; exact b7 c a0 a1
                    · by_cases u : r = T 0 3
                      · rw [u, e1, e2, e3]; omega
                      · rw [ee 4 r (by omega) (by omega), ee 5 r (by omega) (by omega), ee 6 r (by omega) (by omega), c2]; exact b8 r r0 (by omega)
  · rename_i hd
    exact absurd h (by simp only; omega)
set_option maxRecDepth 100000 in
set_option maxHeartbeats 4000000 in
theorem c_clause {b : Int → Int} {N s cl : Int} (t : tx b N) (s0 : 0 ≤ s) (s1 : s ≤ N) {g T : Int → Int → Int} (c : cS b N g s T) (cl0 : 0 ≤ cl) (cl4 : cl ≤ 40) (G : kg cl T) {d : Nat} {Q : ax_V → ax_H → Prop} (hq : ∀ g' r, cR b N g g' r (kstep b N cl s T) → Q (0, r) (L0, g')) : ax_Ev (d + 4) 30 0 [(2, 3), (0, cl), (9, 0)] [] (L0, g) Q := by
  have N4 := t.1
  obtain ⟨n0, n1⟩ := nxT_b (b := b) s0 s1
  have c' := c
  obtain ⟨⟨k1, k2, k3, k4⟩, c2, c3, c4, c5⟩ := c
  have t2 : g 4 2 = T 0 2 := c2 0 2 (by omega) (by omega)
  have t3 : g 4 3 = T 0 3 := c2 0 3 (by omega) (by omega)
  have t4 : g 4 4 = T 0 4 := c2 0 4 (by omega) (by omega)
  obtain ⟨⟨b1, b2, b3, b4, -⟩, -⟩ := G
  unfold kstep at hq
  by_cases hd : tkK b N s = 2 ∧ 0 ≤ tkV b N s ∧ tkV b N s ≤ 4
  · rw [if_pos hd] at hq
    obtain ⟨hd1, hd2, hd3⟩ := hd
    rw [hd1] at k2
    by_cases ov : 40 ≤ cl ∨ ¬ (cl = 0 ↔ tkV b N s = 0) ∨ (tkV b N s = 1 ∧ 3 ≤ T 0 2) ∨ (tkV b N s = 3 ∧ T 0 4 ≠ -1) ∨ (tkV b N s = 4 ∧ 4 ≤ T 0 3)
    · rw [if_pos ov] at hq
      have H := hq _ 0 (cR_bad (f := 5 + 8 * s) (cfr_refl g) (by omega))
      rw [show 5 + 8 * s = 1 + 8 * s + 4 by omega] at H
      clear hq t c' c2 c3
      generalize tkV b N s = k at *
      rcases (by omega : k = 0 ∨ k = 1 ∨ k = 2 ∨ k = 3 ∨ k = 4) with e | e | e | e | e <;> subst e
      all_goals rcases (by omega : cl = 0 ∨ (0 < cl ∧ cl < 40) ∨ cl = 40) with u | u | u
      all_goals first | (exfalso; omega) | skip
      all_goals simp (disch := omega) only [ax_ev, ax_kk, ax_ps, ax_r_const, ax_r_lconst, ax_r_str, ax_r_iload, ax_r_lload, ax_r_aload, ax_r_istore, ax_r_astore, ax_r_lstore, ax_r_iinc, ax_r_iadd, ax_r_isub, ax_r_imul, ax_r_idiv, ax_r_irem, ax_r_iand, ax_r_ior, ax_r_ishl, ax_r_ishr, ax_r_iushr, ax_r_i2l, ax_r_l2i, ax_r_i2b, ax_r_ladd, ax_r_lsub, ax_r_lmul, ax_r_ldiv, ax_r_lrem, ax_r_land, ax_r_lor, ax_r_lcmp, ax_r_ifeq, ax_r_ifne, ax_r_iflt, ax_r_ifge, ax_r_ifgt, ax_r_ifle, ax_r_iceq, ax_r_icne, ax_r_iclt, ax_r_icge, ax_r_icgt, ax_r_icle, ax_r_goto, ax_r_tsw, ax_evt_c, ax_evt_n, ax_r_lsw, ax_evu_c, ax_evu_n, ax_r_getI, ax_r_getR, ax_r_putI, ax_r_putZ, ax_r_iald, ax_r_iast, ax_r_lald, ax_r_last, ax_r_bald, ax_r_aald, ax_r_alen, ax_r_bast, ax_r_min, ax_r_max, ax_r_minl, ax_r_maxl, ax_r_copy, ax_r_slen, ax_r_schr, ax_r_dup, ax_r_dup2, ax_r_pop, ax_r_ret, ax_r_lret, ax_r_vret, ax_r_zret, ax_r_aret, ax_r_call, ax_evo, ax_eva, ax_ar, ax_tk, ax_ex, ax_ld, ax_sto, ax_stl, ly_pm, ly_cd, ly_ln, ly_rf, Option.bind_some, Option.map_some, if_true, if_false, true_and, and_true, List.nil_append, List.cons_append, List.append_nil, List.length_nil, List.length_cons, List.headD_cons, true_or, or_true, false_or, or_false, ne_eq, not_false_eq_true, not_true_eq_false, false_and, and_false, List.set_cons_zero, List.set_cons_succ, Nat.reduceAdd, Nat.reduceSub, Nat.reduceMul, Nat.reduceLeDiff, Nat.reduceLT, Nat.reduceEqDiff, ↓reduceIte, Int.reduceNeg, Int.reduceAdd, Int.reduceSub, Int.reduceMul, Int.reduceEq, Int.reduceNe, Int.reduceLE, Int.reduceLT, Int.reduceToNat, Nat.one_ne_zero, Nat.zero_ne_one, Int.cast_ofNat_Int, lc_lt, lc_ge, lc_gt, lc_le, lc_eq, lc_ne, w32i, w64i, tdv, tmd, ltT, ltF, leT, leF, eqT, eqF, dc_KilnReader_readClause, dc_KilnReader_isTooMany, dc_Tape_fail, k2, k3, k4, t2, t3, t4]
      all_goals exact H
    · rw [if_neg ov] at hq
      have A := fun Q => t_adv t (q := tkB b N s) (g := g) (d := d + 2) (Q := Q) (by have := tkB_ge (b := b) (N := N) (s := s); omega) (tkB_le s1) c3 c4 k1
      have TK : ∀ g1, (∀ k j, ¬ (k = 1 ∧ 2 ≤ j ∧ j ≤ 5) → g1 k j = g k j) → tkG b N g1 (sk b N (tkB b N s)) → cS b N g1 (nxT b N s) T := fun g1 f1 f2 => ⟨f2, fun i j i0 i1 => by rw [f1 _ _ (by omega)]; exact c2 i j i0 i1, fun j => by rw [f1 _ _ (by omega)]; exact c3 j, by rw [f1 _ _ (by omega)]; exact c4, by rw [f1 _ _ (by omega)]; exact c5⟩
      have CR : ∀ g1 g' r K, (∀ k j, ¬ (k = 1 ∧ 2 ≤ j ∧ j ≤ 5) → g1 k j = g k j) → cR b N g1 g' r K → cR b N g g' r K := fun g1 g' r K f1 x => ⟨cfr_trans (cfr_adv (cfr_refl g) f1) x.1, x.2⟩
      clear c' c3
      unfold kpart at hq
      rcases (by omega : tkV b N s = 0 ∨ tkV b N s = 1 ∨ tkV b N s = 2 ∨ tkV b N s = 3 ∨ tkV b N s = 4) with e | e | e | e | e
      · rw [if_pos e] at hq
        rw [e] at k4 ov
        simp (disch := omega) only [ax_ev, ax_kk, ax_ps, ax_r_const, ax_r_lconst, ax_r_str, ax_r_iload, ax_r_lload, ax_r_aload, ax_r_istore, ax_r_astore, ax_r_lstore, ax_r_iinc, ax_r_iadd, ax_r_isub, ax_r_imul, ax_r_idiv, ax_r_irem, ax_r_iand, ax_r_ior, ax_r_ishl, ax_r_ishr, ax_r_iushr, ax_r_i2l, ax_r_l2i, ax_r_i2b, ax_r_ladd, ax_r_lsub, ax_r_lmul, ax_r_ldiv, ax_r_lrem, ax_r_land, ax_r_lor, ax_r_lcmp, ax_r_ifeq, ax_r_ifne, ax_r_iflt, ax_r_ifge, ax_r_ifgt, ax_r_ifle, ax_r_iceq, ax_r_icne, ax_r_iclt, ax_r_icge, ax_r_icgt, ax_r_icle, ax_r_goto, ax_r_tsw, ax_evt_c, ax_evt_n, ax_r_lsw, ax_evu_c, ax_evu_n, ax_r_getI, ax_r_getR, ax_r_putI, ax_r_putZ, ax_r_iald, ax_r_iast, ax_r_lald, ax_r_last, ax_r_bald, ax_r_aald, ax_r_alen, ax_r_bast, ax_r_min, ax_r_max, ax_r_minl, ax_r_maxl, ax_r_copy, ax_r_slen, ax_r_schr, ax_r_dup, ax_r_dup2, ax_r_pop, ax_r_ret, ax_r_lret, ax_r_vret, ax_r_zret, ax_r_aret, ax_r_call, ax_evo, ax_eva, ax_ar, ax_tk, ax_ex, ax_ld, ax_sto, ax_stl, ly_pm, ly_cd, ly_ln, ly_rf, Option.bind_some, Option.map_some, if_true, if_false, true_and, and_true, List.nil_append, List.cons_append, List.append_nil, List.length_nil, List.length_cons, List.headD_cons, true_or, or_true, false_or, or_false, ne_eq, not_false_eq_true, not_true_eq_false, false_and, and_false, List.set_cons_zero, List.set_cons_succ, Nat.reduceAdd, Nat.reduceSub, Nat.reduceMul, Nat.reduceLeDiff, Nat.reduceLT, Nat.reduceEqDiff, ↓reduceIte, Int.reduceNeg, Int.reduceAdd, Int.reduceSub, Int.reduceMul, Int.reduceEq, Int.reduceNe, Int.reduceLE, Int.reduceLT, Int.reduceToNat, Nat.one_ne_zero, Nat.zero_ne_one, Int.cast_ofNat_Int, lc_lt, lc_ge, lc_gt, lc_le, lc_eq, lc_ne, w32i, w64i, tdv, tmd, ltT, ltF, leT, leF, eqT, eqF, dc_KilnReader_readClause, dc_KilnReader_isTooMany, k2, k3, k4, t2, t3, t4]
        refine A _ ?_
        intro g1 f1 f2
        rw [ax_kk]
        simp (disch := omega) only [ax_ev, ax_kk, ax_ps, ax_r_const, ax_r_lconst, ax_r_str, ax_r_iload, ax_r_lload, ax_r_aload, ax_r_istore, ax_r_astore, ax_r_lstore, ax_r_iinc, ax_r_iadd, ax_r_isub, ax_r_imul, ax_r_idiv, ax_r_irem, ax_r_iand, ax_r_ior, ax_r_ishl, ax_r_ishr, ax_r_iushr, ax_r_i2l, ax_r_l2i, ax_r_i2b, ax_r_ladd, ax_r_lsub, ax_r_lmul, ax_r_ldiv, ax_r_lrem, ax_r_land, ax_r_lor, ax_r_lcmp, ax_r_ifeq, ax_r_ifne, ax_r_iflt, ax_r_ifge, ax_r_ifgt, ax_r_ifle, ax_r_iceq, ax_r_icne, ax_r_iclt, ax_r_icge, ax_r_icgt, ax_r_icle, ax_r_goto, ax_r_tsw, ax_evt_c, ax_evt_n, ax_r_lsw, ax_evu_c, ax_evu_n, ax_r_getI, ax_r_getR, ax_r_putI, ax_r_putZ, ax_r_iald, ax_r_iast, ax_r_lald, ax_r_last, ax_r_bald, ax_r_aald, ax_r_alen, ax_r_bast, ax_r_min, ax_r_max, ax_r_minl, ax_r_maxl, ax_r_copy, ax_r_slen, ax_r_schr, ax_r_dup, ax_r_dup2, ax_r_pop, ax_r_ret, ax_r_lret, ax_r_vret, ax_r_zret, ax_r_aret, ax_r_call, ax_evo, ax_eva, ax_ar, ax_tk, ax_ex, ax_ld, ax_sto, ax_stl, ly_pm, ly_cd, ly_ln, ly_rf, Option.bind_some, Option.map_some, if_true, if_false, true_and, and_true, List.nil_append, List.cons_append, List.append_nil, List.length_nil, List.length_cons, List.headD_cons, true_or, or_true, false_or, or_false, ne_eq, not_false_eq_true, not_true_eq_false, false_and, and_false, List.set_cons_zero, List.set_cons_succ, Nat.reduceAdd, Nat.reduceSub, Nat.reduceMul, Nat.reduceLeDiff, Nat.reduceLT, Nat.reduceEqDiff, ↓reduceIte, Int.reduceNeg, Int.reduceAdd, Int.reduceSub, Int.reduceMul, Int.reduceEq, Int.reduceNe, Int.reduceLE, Int.reduceLT, Int.reduceToNat, Nat.one_ne_zero, Nat.zero_ne_one, Int.cast_ofNat_Int, lc_lt, lc_ge, lc_gt, lc_le, lc_eq, lc_ne, w32i, w64i, tdv, tmd, ltT, ltF, leT, leF, eqT, eqF, dc_KilnReader_readClause]
        refine c_kiln t n0 n1 (TK g1 f1 f2) ?_
        intro g' r x
        have H := hq g' r (CR g1 g' r _ f1 x)
        have rb : r = 0 ∨ r = 1 := by rcases x.2 with y | y <;> omega
        clear hq t A TK CR x f1 f2 c2
        rw [ax_kk]
        simp (disch := omega) only [ax_ev, ax_kk, ax_ps, ax_r_const, ax_r_lconst, ax_r_str, ax_r_iload, ax_r_lload, ax_r_aload, ax_r_istore, ax_r_astore, ax_r_lstore, ax_r_iinc, ax_r_iadd, ax_r_isub, ax_r_imul, ax_r_idiv, ax_r_irem, ax_r_iand, ax_r_ior, ax_r_ishl, ax_r_ishr, ax_r_iushr, ax_r_i2l, ax_r_l2i, ax_r_i2b, ax_r_ladd, ax_r_lsub, ax_r_lmul, ax_r_ldiv, ax_r_lrem, ax_r_land, ax_r_lor, ax_r_lcmp, ax_r_ifeq, ax_r_ifne, ax_r_iflt, ax_r_ifge, ax_r_ifgt, ax_r_ifle, ax_r_iceq, ax_r_icne, ax_r_iclt, ax_r_icge, ax_r_icgt, ax_r_icle, ax_r_goto, ax_r_tsw, ax_evt_c, ax_evt_n, ax_r_lsw, ax_evu_c, ax_evu_n, ax_r_getI, ax_r_getR, ax_r_putI, ax_r_putZ, ax_r_iald, ax_r_iast, ax_r_lald, ax_r_last, ax_r_bald, ax_r_aald, ax_r_alen, ax_r_bast, ax_r_min, ax_r_max, ax_r_minl, ax_r_maxl, ax_r_copy, ax_r_slen, ax_r_schr, ax_r_dup, ax_r_dup2, ax_r_pop, ax_r_ret, ax_r_lret, ax_r_vret, ax_r_zret, ax_r_aret, ax_r_call, ax_evo, ax_eva, ax_ar, ax_tk, ax_ex, ax_ld, ax_sto, ax_stl, ly_pm, ly_cd, ly_ln, ly_rf, Option.bind_some, Option.map_some, if_true, if_false, true_and, and_true, List.nil_append, List.cons_append, List.append_nil, List.length_nil, List.length_cons, List.headD_cons, true_or, or_true, false_or, or_false, ne_eq, not_false_eq_true, not_true_eq_false, false_and, and_false, List.set_cons_zero, List.set_cons_succ, Nat.reduceAdd, Nat.reduceSub, Nat.reduceMul, Nat.reduceLeDiff, Nat.reduceLT, Nat.reduceEqDiff, ↓reduceIte, Int.reduceNeg, Int.reduceAdd, Int.reduceSub, Int.reduceMul, Int.reduceEq, Int.reduceNe, Int.reduceLE, Int.reduceLT, Int.reduceToNat, Nat.one_ne_zero, Nat.zero_ne_one, Int.cast_ofNat_Int, lc_lt, lc_ge, lc_gt, lc_le, lc_eq, lc_ne, w32i, w64i, tdv, tmd, ltT, ltF, leT, leF, eqT, eqF, dc_KilnReader_readClause]
        exact ⟨rb, H⟩
      · rw [if_neg (by omega), if_pos e] at hq
        rw [e] at k4 ov
        simp (disch := omega) only [ax_ev, ax_kk, ax_ps, ax_r_const, ax_r_lconst, ax_r_str, ax_r_iload, ax_r_lload, ax_r_aload, ax_r_istore, ax_r_astore, ax_r_lstore, ax_r_iinc, ax_r_iadd, ax_r_isub, ax_r_imul, ax_r_idiv, ax_r_irem, ax_r_iand, ax_r_ior, ax_r_ishl, ax_r_ishr, ax_r_iushr, ax_r_i2l, ax_r_l2i, ax_r_i2b, ax_r_ladd, ax_r_lsub, ax_r_lmul, ax_r_ldiv, ax_r_lrem, ax_r_land, ax_r_lor, ax_r_lcmp, ax_r_ifeq, ax_r_ifne, ax_r_iflt, ax_r_ifge, ax_r_ifgt, ax_r_ifle, ax_r_iceq, ax_r_icne, ax_r_iclt, ax_r_icge, ax_r_icgt, ax_r_icle, ax_r_goto, ax_r_tsw, ax_evt_c, ax_evt_n, ax_r_lsw, ax_evu_c, ax_evu_n, ax_r_getI, ax_r_getR, ax_r_putI, ax_r_putZ, ax_r_iald, ax_r_iast, ax_r_lald, ax_r_last, ax_r_bald, ax_r_aald, ax_r_alen, ax_r_bast, ax_r_min, ax_r_max, ax_r_minl, ax_r_maxl, ax_r_copy, ax_r_slen, ax_r_schr, ax_r_dup, ax_r_dup2, ax_r_pop, ax_r_ret, ax_r_lret, ax_r_vret, ax_r_zret, ax_r_aret, ax_r_call, ax_evo, ax_eva, ax_ar, ax_tk, ax_ex, ax_ld, ax_sto, ax_stl, ly_pm, ly_cd, ly_ln, ly_rf, Option.bind_some, Option.map_some, if_true, if_false, true_and, and_true, List.nil_append, List.cons_append, List.append_nil, List.length_nil, List.length_cons, List.headD_cons, true_or, or_true, false_or, or_false, ne_eq, not_false_eq_true, not_true_eq_false, false_and, and_false, List.set_cons_zero, List.set_cons_succ, Nat.reduceAdd, Nat.reduceSub, Nat.reduceMul, Nat.reduceLeDiff, Nat.reduceLT, Nat.reduceEqDiff, ↓reduceIte, Int.reduceNeg, Int.reduceAdd, Int.reduceSub, Int.reduceMul, Int.reduceEq, Int.reduceNe, Int.reduceLE, Int.reduceLT, Int.reduceToNat, Nat.one_ne_zero, Nat.zero_ne_one, Int.cast_ofNat_Int, lc_lt, lc_ge, lc_gt, lc_le, lc_eq, lc_ne, w32i, w64i, tdv, tmd, ltT, ltF, leT, leF, eqT, eqF, dc_KilnReader_readClause, dc_KilnReader_isTooMany, k2, k3, k4, t2, t3, t4]
        refine A _ ?_
        intro g1 f1 f2
        rw [ax_kk]
        simp (disch := omega) only [ax_ev, ax_kk, ax_ps, ax_r_const, ax_r_lconst, ax_r_str, ax_r_iload, ax_r_lload, ax_r_aload, ax_r_istore, ax_r_astore, ax_r_lstore, ax_r_iinc, ax_r_iadd, ax_r_isub, ax_r_imul, ax_r_idiv, ax_r_irem, ax_r_iand, ax_r_ior, ax_r_ishl, ax_r_ishr, ax_r_iushr, ax_r_i2l, ax_r_l2i, ax_r_i2b, ax_r_ladd, ax_r_lsub, ax_r_lmul, ax_r_ldiv, ax_r_lrem, ax_r_land, ax_r_lor, ax_r_lcmp, ax_r_ifeq, ax_r_ifne, ax_r_iflt, ax_r_ifge, ax_r_ifgt, ax_r_ifle, ax_r_iceq, ax_r_icne, ax_r_iclt, ax_r_icge, ax_r_icgt, ax_r_icle, ax_r_goto, ax_r_tsw, ax_evt_c, ax_evt_n, ax_r_lsw, ax_evu_c, ax_evu_n, ax_r_getI, ax_r_getR, ax_r_putI, ax_r_putZ, ax_r_iald, ax_r_iast, ax_r_lald, ax_r_last, ax_r_bald, ax_r_aald, ax_r_alen, ax_r_bast, ax_r_min, ax_r_max, ax_r_minl, ax_r_maxl, ax_r_copy, ax_r_slen, ax_r_schr, ax_r_dup, ax_r_dup2, ax_r_pop, ax_r_ret, ax_r_lret, ax_r_vret, ax_r_zret, ax_r_aret, ax_r_call, ax_evo, ax_eva, ax_ar, ax_tk, ax_ex, ax_ld, ax_sto, ax_stl, ly_pm, ly_cd, ly_ln, ly_rf, Option.bind_some, Option.map_some, if_true, if_false, true_and, and_true, List.nil_append, List.cons_append, List.append_nil, List.length_nil, List.length_cons, List.headD_cons, true_or, or_true, false_or, or_false, ne_eq, not_false_eq_true, not_true_eq_false, false_and, and_false, List.set_cons_zero, List.set_cons_succ, Nat.reduceAdd, Nat.reduceSub, Nat.reduceMul, Nat.reduceLeDiff, Nat.reduceLT, Nat.reduceEqDiff, ↓reduceIte, Int.reduceNeg, Int.reduceAdd, Int.reduceSub, Int.reduceMul, Int.reduceEq, Int.reduceNe, Int.reduceLE, Int.reduceLT, Int.reduceToNat, Nat.one_ne_zero, Nat.zero_ne_one, Int.cast_ofNat_Int, lc_lt, lc_ge, lc_gt, lc_le, lc_eq, lc_ne, w32i, w64i, tdv, tmd, ltT, ltF, leT, leF, eqT, eqF, dc_KilnReader_readClause]
        refine c_clay t n0 n1 (TK g1 f1 f2) (by omega) (by omega) ?_
        intro g' r x
        have H := hq g' r (CR g1 g' r _ f1 x)
        have rb : r = 0 ∨ r = 1 := by rcases x.2 with y | y <;> omega
        clear hq t A TK CR x f1 f2 c2
        rw [ax_kk]
        simp (disch := omega) only [ax_ev, ax_kk, ax_ps, ax_r_const, ax_r_lconst, ax_r_str, ax_r_iload, ax_r_lload, ax_r_aload, ax_r_istore, ax_r_astore, ax_r_lstore, ax_r_iinc, ax_r_iadd, ax_r_isub, ax_r_imul, ax_r_idiv, ax_r_irem, ax_r_iand, ax_r_ior, ax_r_ishl, ax_r_ishr, ax_r_iushr, ax_r_i2l, ax_r_l2i, ax_r_i2b, ax_r_ladd, ax_r_lsub, ax_r_lmul, ax_r_ldiv, ax_r_lrem, ax_r_land, ax_r_lor, ax_r_lcmp, ax_r_ifeq, ax_r_ifne, ax_r_iflt, ax_r_ifge, ax_r_ifgt, ax_r_ifle, ax_r_iceq, ax_r_icne, ax_r_iclt, ax_r_icge, ax_r_icgt, ax_r_icle, ax_r_goto, ax_r_tsw, ax_evt_c, ax_evt_n, ax_r_lsw, ax_evu_c, ax_evu_n, ax_r_getI, ax_r_getR, ax_r_putI, ax_r_putZ, ax_r_iald, ax_r_iast, ax_r_lald, ax_r_last, ax_r_bald, ax_r_aald, ax_r_alen, ax_r_bast, ax_r_min, ax_r_max, ax_r_minl, ax_r_maxl, ax_r_copy, ax_r_slen, ax_r_schr, ax_r_dup, ax_r_dup2, ax_r_pop, ax_r_ret, ax_r_lret, ax_r_vret, ax_r_zret, ax_r_aret, ax_r_call, ax_evo, ax_eva, ax_ar, ax_tk, ax_ex, ax_ld, ax_sto, ax_stl, ly_pm, ly_cd, ly_ln, ly_rf, Option.bind_some, Option.map_some, if_true, if_false, true_and, and_true, List.nil_append, List.cons_append, List.append_nil, List.length_nil, List.length_cons, List.headD_cons, true_or, or_true, false_or, or_false, ne_eq, not_false_eq_true, not_true_eq_false, false_and, and_false, List.set_cons_zero, List.set_cons_succ, Nat.reduceAdd, Nat.reduceSub, Nat.reduceMul, Nat.reduceLeDiff, Nat.reduceLT, Nat.reduceEqDiff, ↓reduceIte, Int.reduceNeg, Int.reduceAdd, Int.reduceSub, Int.reduceMul, Int.reduceEq, Int.reduceNe, Int.reduceLE, Int.reduceLT, Int.reduceToNat, Nat.one_ne_zero, Nat.zero_ne_one, Int.cast_ofNat_Int, lc_lt, lc_ge, lc_gt, lc_le, lc_eq, lc_ne, w32i, w64i, tdv, tmd, ltT, ltF, leT, leF, eqT, eqF, dc_KilnReader_readClause]
        exact ⟨rb, H⟩
      · rw [if_neg (by omega), if_neg (by omega), if_pos e] at hq
        rw [e] at k4 ov
        simp (disch := omega) only [ax_ev, ax_kk, ax_ps, ax_r_const, ax_r_lconst, ax_r_str, ax_r_iload, ax_r_lload, ax_r_aload, ax_r_istore, ax_r_astore, ax_r_lstore, ax_r_iinc, ax_r_iadd, ax_r_isub, ax_r_imul, ax_r_idiv, ax_r_irem, ax_r_iand, ax_r_ior, ax_r_ishl, ax_r_ishr, ax_r_iushr, ax_r_i2l, ax_r_l2i, ax_r_i2b, ax_r_ladd, ax_r_lsub, ax_r_lmul, ax_r_ldiv, ax_r_lrem, ax_r_land, ax_r_lor, ax_r_lcmp, ax_r_ifeq, ax_r_ifne, ax_r_iflt, ax_r_ifge, ax_r_ifgt, ax_r_ifle, ax_r_iceq, ax_r_icne, ax_r_iclt, ax_r_icge, ax_r_icgt, ax_r_icle, ax_r_goto, ax_r_tsw, ax_evt_c, ax_evt_n, ax_r_lsw, ax_evu_c, ax_evu_n, ax_r_getI, ax_r_getR, ax_r_putI, ax_r_putZ, ax_r_iald, ax_r_iast, ax_r_lald, ax_r_last, ax_r_bald, ax_r_aald, ax_r_alen, ax_r_bast, ax_r_min, ax_r_max, ax_r_minl, ax_r_maxl, ax_r_copy, ax_r_slen, ax_r_schr, ax_r_dup, ax_r_dup2, ax_r_pop, ax_r_ret, ax_r_lret, ax_r_vret, ax_r_zret, ax_r_aret, ax_r_call, ax_evo, ax_eva, ax_ar, ax_tk, ax_ex, ax_ld, ax_sto, ax_stl, ly_pm, ly_cd, ly_ln, ly_rf, Option.bind_some, Option.map_some, if_true, if_false, true_and, and_true, List.nil_append, List.cons_append, List.append_nil, List.length_nil, List.length_cons, List.headD_cons, true_or, or_true, false_or, or_false, ne_eq, not_false_eq_true, not_true_eq_false, false_and, and_false, List.set_cons_zero, List.set_cons_succ, Nat.reduceAdd, Nat.reduceSub, Nat.reduceMul, Nat.reduceLeDiff, Nat.reduceLT, Nat.reduceEqDiff, ↓reduceIte, Int.reduceNeg, Int.reduceAdd, Int.reduceSub, Int.reduceMul, Int.reduceEq, Int.reduceNe, Int.reduceLE, Int.reduceLT, Int.reduceToNat, Nat.one_ne_zero, Nat.zero_ne_one, Int.cast_ofNat_Int, lc_lt, lc_ge, lc_gt, lc_le, lc_eq, lc_ne, w32i, w64i, tdv, tmd, ltT, ltF, leT, leF, eqT, eqF, dc_KilnReader_readClause, dc_KilnReader_isTooMany, k2, k3, k4, t2, t3, t4]
        refine A _ ?_
        intro g1 f1 f2
        rw [ax_kk]
        simp (disch := omega) only [ax_ev, ax_kk, ax_ps, ax_r_const, ax_r_lconst, ax_r_str, ax_r_iload, ax_r_lload, ax_r_aload, ax_r_istore, ax_r_astore, ax_r_lstore, ax_r_iinc, ax_r_iadd, ax_r_isub, ax_r_imul, ax_r_idiv, ax_r_irem, ax_r_iand, ax_r_ior, ax_r_ishl, ax_r_ishr, ax_r_iushr, ax_r_i2l, ax_r_l2i, ax_r_i2b, ax_r_ladd, ax_r_lsub, ax_r_lmul, ax_r_ldiv, ax_r_lrem, ax_r_land, ax_r_lor, ax_r_lcmp, ax_r_ifeq, ax_r_ifne, ax_r_iflt, ax_r_ifge, ax_r_ifgt, ax_r_ifle, ax_r_iceq, ax_r_icne, ax_r_iclt, ax_r_icge, ax_r_icgt, ax_r_icle, ax_r_goto, ax_r_tsw, ax_evt_c, ax_evt_n, ax_r_lsw, ax_evu_c, ax_evu_n, ax_r_getI, ax_r_getR, ax_r_putI, ax_r_putZ, ax_r_iald, ax_r_iast, ax_r_lald, ax_r_last, ax_r_bald, ax_r_aald, ax_r_alen, ax_r_bast, ax_r_min, ax_r_max, ax_r_minl, ax_r_maxl, ax_r_copy, ax_r_slen, ax_r_schr, ax_r_dup, ax_r_dup2, ax_r_pop, ax_r_ret, ax_r_lret, ax_r_vret, ax_r_zret, ax_r_aret, ax_r_call, ax_evo, ax_eva, ax_ar, ax_tk, ax_ex, ax_ld, ax_sto, ax_stl, ly_pm, ly_cd, ly_ln, ly_rf, Option.bind_some, Option.map_some, if_true, if_false, true_and, and_true, List.nil_append, List.cons_append, List.append_nil, List.length_nil, List.length_cons, List.headD_cons, true_or, or_true, false_or, or_false, ne_eq, not_false_eq_true, not_true_eq_false, false_and, and_false, List.set_cons_zero, List.set_cons_succ, Nat.reduceAdd, Nat.reduceSub, Nat.reduceMul, Nat.reduceLeDiff, Nat.reduceLT, Nat.reduceEqDiff, ↓reduceIte, Int.reduceNeg, Int.reduceAdd, Int.reduceSub, Int.reduceMul, Int.reduceEq, Int.reduceNe, Int.reduceLE, Int.reduceLT, Int.reduceToNat, Nat.one_ne_zero, Nat.zero_ne_one, Int.cast_ofNat_Int, lc_lt, lc_ge, lc_gt, lc_le, lc_eq, lc_ne, w32i, w64i, tdv, tmd, ltT, ltF, leT, leF, eqT, eqF, dc_KilnReader_readClause]
        refine c_set t n0 n1 (TK g1 f1 f2) (by omega) (by omega) ?_
        intro g' r x
        have H := hq g' r (CR g1 g' r _ f1 x)
        have rb : r = 0 ∨ r = 1 := by rcases x.2 with y | y <;> omega
        clear hq t A TK CR x f1 f2 c2
        rw [ax_kk]
        simp (disch := omega) only [ax_ev, ax_kk, ax_ps, ax_r_const, ax_r_lconst, ax_r_str, ax_r_iload, ax_r_lload, ax_r_aload, ax_r_istore, ax_r_astore, ax_r_lstore, ax_r_iinc, ax_r_iadd, ax_r_isub, ax_r_imul, ax_r_idiv, ax_r_irem, ax_r_iand, ax_r_ior, ax_r_ishl, ax_r_ishr, ax_r_iushr, ax_r_i2l, ax_r_l2i, ax_r_i2b, ax_r_ladd, ax_r_lsub, ax_r_lmul, ax_r_ldiv, ax_r_lrem, ax_r_land, ax_r_lor, ax_r_lcmp, ax_r_ifeq, ax_r_ifne, ax_r_iflt, ax_r_ifge, ax_r_ifgt, ax_r_ifle, ax_r_iceq, ax_r_icne, ax_r_iclt, ax_r_icge, ax_r_icgt, ax_r_icle, ax_r_goto, ax_r_tsw, ax_evt_c, ax_evt_n, ax_r_lsw, ax_evu_c, ax_evu_n, ax_r_getI, ax_r_getR, ax_r_putI, ax_r_putZ, ax_r_iald, ax_r_iast, ax_r_lald, ax_r_last, ax_r_bald, ax_r_aald, ax_r_alen, ax_r_bast, ax_r_min, ax_r_max, ax_r_minl, ax_r_maxl, ax_r_copy, ax_r_slen, ax_r_schr, ax_r_dup, ax_r_dup2, ax_r_pop, ax_r_ret, ax_r_lret, ax_r_vret, ax_r_zret, ax_r_aret, ax_r_call, ax_evo, ax_eva, ax_ar, ax_tk, ax_ex, ax_ld, ax_sto, ax_stl, ly_pm, ly_cd, ly_ln, ly_rf, Option.bind_some, Option.map_some, if_true, if_false, true_and, and_true, List.nil_append, List.cons_append, List.append_nil, List.length_nil, List.length_cons, List.headD_cons, true_or, or_true, false_or, or_false, ne_eq, not_false_eq_true, not_true_eq_false, false_and, and_false, List.set_cons_zero, List.set_cons_succ, Nat.reduceAdd, Nat.reduceSub, Nat.reduceMul, Nat.reduceLeDiff, Nat.reduceLT, Nat.reduceEqDiff, ↓reduceIte, Int.reduceNeg, Int.reduceAdd, Int.reduceSub, Int.reduceMul, Int.reduceEq, Int.reduceNe, Int.reduceLE, Int.reduceLT, Int.reduceToNat, Nat.one_ne_zero, Nat.zero_ne_one, Int.cast_ofNat_Int, lc_lt, lc_ge, lc_gt, lc_le, lc_eq, lc_ne, w32i, w64i, tdv, tmd, ltT, ltF, leT, leF, eqT, eqF, dc_KilnReader_readClause]
        exact ⟨rb, H⟩
      · rw [if_neg (by omega), if_neg (by omega), if_neg (by omega), if_pos e] at hq
        rw [e] at k4 ov
        simp (disch := omega) only [ax_ev, ax_kk, ax_ps, ax_r_const, ax_r_lconst, ax_r_str, ax_r_iload, ax_r_lload, ax_r_aload, ax_r_istore, ax_r_astore, ax_r_lstore, ax_r_iinc, ax_r_iadd, ax_r_isub, ax_r_imul, ax_r_idiv, ax_r_irem, ax_r_iand, ax_r_ior, ax_r_ishl, ax_r_ishr, ax_r_iushr, ax_r_i2l, ax_r_l2i, ax_r_i2b, ax_r_ladd, ax_r_lsub, ax_r_lmul, ax_r_ldiv, ax_r_lrem, ax_r_land, ax_r_lor, ax_r_lcmp, ax_r_ifeq, ax_r_ifne, ax_r_iflt, ax_r_ifge, ax_r_ifgt, ax_r_ifle, ax_r_iceq, ax_r_icne, ax_r_iclt, ax_r_icge, ax_r_icgt, ax_r_icle, ax_r_goto, ax_r_tsw, ax_evt_c, ax_evt_n, ax_r_lsw, ax_evu_c, ax_evu_n, ax_r_getI, ax_r_getR, ax_r_putI, ax_r_putZ, ax_r_iald, ax_r_iast, ax_r_lald, ax_r_last, ax_r_bald, ax_r_aald, ax_r_alen, ax_r_bast, ax_r_min, ax_r_max, ax_r_minl, ax_r_maxl, ax_r_copy, ax_r_slen, ax_r_schr, ax_r_dup, ax_r_dup2, ax_r_pop, ax_r_ret, ax_r_lret, ax_r_vret, ax_r_zret, ax_r_aret, ax_r_call, ax_evo, ax_eva, ax_ar, ax_tk, ax_ex, ax_ld, ax_sto, ax_stl, ly_pm, ly_cd, ly_ln, ly_rf, Option.bind_some, Option.map_some, if_true, if_false, true_and, and_true, List.nil_append, List.cons_append, List.append_nil, List.length_nil, List.length_cons, List.headD_cons, true_or, or_true, false_or, or_false, ne_eq, not_false_eq_true, not_true_eq_false, false_and, and_false, List.set_cons_zero, List.set_cons_succ, Nat.reduceAdd, Nat.reduceSub, Nat.reduceMul, Nat.reduceLeDiff, Nat.reduceLT, Nat.reduceEqDiff, ↓reduceIte, Int.reduceNeg, Int.reduceAdd, Int.reduceSub, Int.reduceMul, Int.reduceEq, Int.reduceNe, Int.reduceLE, Int.reduceLT, Int.reduceToNat, Nat.one_ne_zero, Nat.zero_ne_one, Int.cast_ofNat_Int, lc_lt, lc_ge, lc_gt, lc_le, lc_eq, lc_ne, w32i, w64i, tdv, tmd, ltT, ltF, leT, leF, eqT, eqF, dc_KilnReader_readClause, dc_KilnReader_isTooMany, k2, k3, k4, t2, t3, t4]
        refine A _ ?_
        intro g1 f1 f2
        rw [ax_kk]
        simp (disch := omega) only [ax_ev, ax_kk, ax_ps, ax_r_const, ax_r_lconst, ax_r_str, ax_r_iload, ax_r_lload, ax_r_aload, ax_r_istore, ax_r_astore, ax_r_lstore, ax_r_iinc, ax_r_iadd, ax_r_isub, ax_r_imul, ax_r_idiv, ax_r_irem, ax_r_iand, ax_r_ior, ax_r_ishl, ax_r_ishr, ax_r_iushr, ax_r_i2l, ax_r_l2i, ax_r_i2b, ax_r_ladd, ax_r_lsub, ax_r_lmul, ax_r_ldiv, ax_r_lrem, ax_r_land, ax_r_lor, ax_r_lcmp, ax_r_ifeq, ax_r_ifne, ax_r_iflt, ax_r_ifge, ax_r_ifgt, ax_r_ifle, ax_r_iceq, ax_r_icne, ax_r_iclt, ax_r_icge, ax_r_icgt, ax_r_icle, ax_r_goto, ax_r_tsw, ax_evt_c, ax_evt_n, ax_r_lsw, ax_evu_c, ax_evu_n, ax_r_getI, ax_r_getR, ax_r_putI, ax_r_putZ, ax_r_iald, ax_r_iast, ax_r_lald, ax_r_last, ax_r_bald, ax_r_aald, ax_r_alen, ax_r_bast, ax_r_min, ax_r_max, ax_r_minl, ax_r_maxl, ax_r_copy, ax_r_slen, ax_r_schr, ax_r_dup, ax_r_dup2, ax_r_pop, ax_r_ret, ax_r_lret, ax_r_vret, ax_r_zret, ax_r_aret, ax_r_call, ax_evo, ax_eva, ax_ar, ax_tk, ax_ex, ax_ld, ax_sto, ax_stl, ly_pm, ly_cd, ly_ln, ly_rf, Option.bind_some, Option.map_some, if_true, if_false, true_and, and_true, List.nil_append, List.cons_append, List.append_nil, List.length_nil, List.length_cons, List.headD_cons, true_or, or_true, false_or, or_false, ne_eq, not_false_eq_true, not_true_eq_false, false_and, and_false, List.set_cons_zero, List.set_cons_succ, Nat.reduceAdd, Nat.reduceSub, Nat.reduceMul, Nat.reduceLeDiff, Nat.reduceLT, Nat.reduceEqDiff, ↓reduceIte, Int.reduceNeg, Int.reduceAdd, Int.reduceSub, Int.reduceMul, Int.reduceEq, Int.reduceNe, Int.reduceLE, Int.reduceLT, Int.reduceToNat, Nat.one_ne_zero, Nat.zero_ne_one, Int.cast_ofNat_Int, lc_lt, lc_ge, lc_gt, lc_le, lc_eq, lc_ne, w32i, w64i, tdv, tmd, ltT, ltF, leT, leF, eqT, eqF, dc_KilnReader_readClause]
        refine c_fire t n0 n1 (TK g1 f1 f2) (by omega) ?_
        intro g' r x
        have H := hq g' r (CR g1 g' r _ f1 x)
        have rb : r = 0 ∨ r = 1 := by rcases x.2 with y | y <;> omega
        clear hq t A TK CR x f1 f2 c2
        rw [ax_kk]
        simp (disch := omega) only [ax_ev, ax_kk, ax_ps, ax_r_const, ax_r_lconst, ax_r_str, ax_r_iload, ax_r_lload, ax_r_aload, ax_r_istore, ax_r_astore, ax_r_lstore, ax_r_iinc, ax_r_iadd, ax_r_isub, ax_r_imul, ax_r_idiv, ax_r_irem, ax_r_iand, ax_r_ior, ax_r_ishl, ax_r_ishr, ax_r_iushr, ax_r_i2l, ax_r_l2i, ax_r_i2b, ax_r_ladd, ax_r_lsub, ax_r_lmul, ax_r_ldiv, ax_r_lrem, ax_r_land, ax_r_lor, ax_r_lcmp, ax_r_ifeq, ax_r_ifne, ax_r_iflt, ax_r_ifge, ax_r_ifgt, ax_r_ifle, ax_r_iceq, ax_r_icne, ax_r_iclt, ax_r_icge, ax_r_icgt, ax_r_icle, ax_r_goto, ax_r_tsw, ax_evt_c, ax_evt_n, ax_r_lsw, ax_evu_c, ax_evu_n, ax_r_getI, ax_r_getR, ax_r_putI, ax_r_putZ, ax_r_iald, ax_r_iast, ax_r_lald, ax_r_last, ax_r_bald, ax_r_aald, ax_r_alen, ax_r_bast, ax_r_min, ax_r_max, ax_r_minl, ax_r_maxl, ax_r_copy, ax_r_slen, ax_r_schr, ax_r_dup, ax_r_dup2, ax_r_pop, ax_r_ret, ax_r_lret, ax_r_vret, ax_r_zret, ax_r_aret, ax_r_call, ax_evo, ax_eva, ax_ar, ax_tk, ax_ex, ax_ld, ax_sto, ax_stl, ly_pm, ly_cd, ly_ln, ly_rf, Option.bind_some, Option.map_some, if_true, if_false, true_and, and_true, List.nil_append, List.cons_append, List.append_nil, List.length_nil, List.length_cons, List.headD_cons, true_or, or_true, false_or, or_false, ne_eq, not_false_eq_true, not_true_eq_false, false_and, and_false, List.set_cons_zero, List.set_cons_succ, Nat.reduceAdd, Nat.reduceSub, Nat.reduceMul, Nat.reduceLeDiff, Nat.reduceLT, Nat.reduceEqDiff, ↓reduceIte, Int.reduceNeg, Int.reduceAdd, Int.reduceSub, Int.reduceMul, Int.reduceEq, Int.reduceNe, Int.reduceLE, Int.reduceLT, Int.reduceToNat, Nat.one_ne_zero, Nat.zero_ne_one, Int.cast_ofNat_Int, lc_lt, lc_ge, lc_gt, lc_le, lc_eq, lc_ne, w32i, w64i, tdv, tmd, ltT, ltF, leT, leF, eqT, eqF, dc_KilnReader_readClause]
        exact ⟨rb, H⟩
      · rw [if_neg (by omega), if_neg (by omega), if_neg (by omega), if_neg (by omega)] at hq
        rw [e] at k4 ov
        simp (disch := omega) only [ax_ev, ax_kk, ax_ps, ax_r_const, ax_r_lconst, ax_r_str, ax_r_iload, ax_r_lload, ax_r_aload, ax_r_istore, ax_r_astore, ax_r_lstore, ax_r_iinc, ax_r_iadd, ax_r_isub, ax_r_imul, ax_r_idiv, ax_r_irem, ax_r_iand, ax_r_ior, ax_r_ishl, ax_r_ishr, ax_r_iushr, ax_r_i2l, ax_r_l2i, ax_r_i2b, ax_r_ladd, ax_r_lsub, ax_r_lmul, ax_r_ldiv, ax_r_lrem, ax_r_land, ax_r_lor, ax_r_lcmp, ax_r_ifeq, ax_r_ifne, ax_r_iflt, ax_r_ifge, ax_r_ifgt, ax_r_ifle, ax_r_iceq, ax_r_icne, ax_r_iclt, ax_r_icge, ax_r_icgt, ax_r_icle, ax_r_goto, ax_r_tsw, ax_evt_c, ax_evt_n, ax_r_lsw, ax_evu_c, ax_evu_n, ax_r_getI, ax_r_getR, ax_r_putI, ax_r_putZ, ax_r_iald, ax_r_iast, ax_r_lald, ax_r_last, ax_r_bald, ax_r_aald, ax_r_alen, ax_r_bast, ax_r_min, ax_r_max, ax_r_minl, ax_r_maxl, ax_r_copy, ax_r_slen, ax_r_schr, ax_r_dup, ax_r_dup2, ax_r_pop, ax_r_ret, ax_r_lret, ax_r_vret, ax_r_zret, ax_r_aret, ax_r_call, ax_evo, ax_eva, ax_ar, ax_tk, ax_ex, ax_ld, ax_sto, ax_stl, ly_pm, ly_cd, ly_ln, ly_rf, Option.bind_some, Option.map_some, if_true, if_false, true_and, and_true, List.nil_append, List.cons_append, List.append_nil, List.length_nil, List.length_cons, List.headD_cons, true_or, or_true, false_or, or_false, ne_eq, not_false_eq_true, not_true_eq_false, false_and, and_false, List.set_cons_zero, List.set_cons_succ, Nat.reduceAdd, Nat.reduceSub, Nat.reduceMul, Nat.reduceLeDiff, Nat.reduceLT, Nat.reduceEqDiff, ↓reduceIte, Int.reduceNeg, Int.reduceAdd, Int.reduceSub, Int.reduceMul, Int.reduceEq, Int.reduceNe, Int.reduceLE, Int.reduceLT, Int.reduceToNat, Nat.one_ne_zero, Nat.zero_ne_one, Int.cast_ofNat_Int, lc_lt, lc_ge, lc_gt, lc_le, lc_eq, lc_ne, w32i, w64i, tdv, tmd, ltT, ltF, leT, leF, eqT, eqF, dc_KilnReader_readClause, dc_KilnReader_isTooMany, k2, k3, k4, t2, t3, t4]
        refine A _ ?_
        intro g1 f1 f2
        rw [ax_kk]
        simp (disch := omega) only [ax_ev, ax_kk, ax_ps, ax_r_const, ax_r_lconst, ax_r_str, ax_r_iload, ax_r_lload, ax_r_aload, ax_r_istore, ax_r_astore, ax_r_lstore, ax_r_iinc, ax_r_iadd, ax_r_isub, ax_r_imul, ax_r_idiv, ax_r_irem, ax_r_iand, ax_r_ior, ax_r_ishl, ax_r_ishr, ax_r_iushr, ax_r_i2l, ax_r_l2i, ax_r_i2b, ax_r_ladd, ax_r_lsub, ax_r_lmul, ax_r_ldiv, ax_r_lrem, ax_r_land, ax_r_lor, ax_r_lcmp, ax_r_ifeq, ax_r_ifne, ax_r_iflt, ax_r_ifge, ax_r_ifgt, ax_r_ifle, ax_r_iceq, ax_r_icne, ax_r_iclt, ax_r_icge, ax_r_icgt, ax_r_icle, ax_r_goto, ax_r_tsw, ax_evt_c, ax_evt_n, ax_r_lsw, ax_evu_c, ax_evu_n, ax_r_getI, ax_r_getR, ax_r_putI, ax_r_putZ, ax_r_iald, ax_r_iast, ax_r_lald, ax_r_last, ax_r_bald, ax_r_aald, ax_r_alen, ax_r_bast, ax_r_min, ax_r_max, ax_r_minl, ax_r_maxl, ax_r_copy, ax_r_slen, ax_r_schr, ax_r_dup, ax_r_dup2, ax_r_pop, ax_r_ret, ax_r_lret, ax_r_vret, ax_r_zret, ax_r_aret, ax_r_call, ax_evo, ax_eva, ax_ar, ax_tk, ax_ex, ax_ld, ax_sto, ax_stl, ly_pm, ly_cd, ly_ln, ly_rf, Option.bind_some, Option.map_some, if_true, if_false, true_and, and_true, List.nil_append, List.cons_append, List.append_nil, List.length_nil, List.length_cons, List.headD_cons, true_or, or_true, false_or, or_false, ne_eq, not_false_eq_true, not_true_eq_false, false_and, and_false, List.set_cons_zero, List.set_cons_succ, Nat.reduceAdd, Nat.reduceSub, Nat.reduceMul, Nat.reduceLeDiff, Nat.reduceLT, Nat.reduceEqDiff, ↓reduceIte, Int.reduceNeg, Int.reduceAdd, Int.reduceSub, Int.reduceMul, Int.reduceEq, Int.reduceNe, Int.reduceLE, Int.reduceLT, Int.reduceToNat, Nat.one_ne_zero, Nat.zero_ne_one, Int.cast_ofNat_Int, lc_lt, lc_ge, lc_gt, lc_le, lc_eq, lc_ne, w32i, w64i, tdv, tmd, ltT, ltF, leT, leF, eqT, eqF, dc_KilnReader_readClause]
        refine c_order t n0 n1 (TK g1 f1 f2) (by omega) (by omega) (by omega) ?_
        intro g' r x
        have H := hq g' r (CR g1 g' r _ f1 x)
        have rb : r = 0 ∨ r = 1 := by rcases x.2 with y | y <;> omega
        clear hq t A TK CR x f1 f2 c2
        rw [ax_kk]
        simp (disch := omega) only [ax_ev, ax_kk, ax_ps, ax_r_const, ax_r_lconst, ax_r_str, ax_r_iload, ax_r_lload, ax_r_aload, ax_r_istore, ax_r_astore, ax_r_lstore, ax_r_iinc, ax_r_iadd, ax_r_isub, ax_r_imul, ax_r_idiv, ax_r_irem, ax_r_iand, ax_r_ior, ax_r_ishl, ax_r_ishr, ax_r_iushr, ax_r_i2l, ax_r_l2i, ax_r_i2b, ax_r_ladd, ax_r_lsub, ax_r_lmul, ax_r_ldiv, ax_r_lrem, ax_r_land, ax_r_lor, ax_r_lcmp, ax_r_ifeq, ax_r_ifne, ax_r_iflt, ax_r_ifge, ax_r_ifgt, ax_r_ifle, ax_r_iceq, ax_r_icne, ax_r_iclt, ax_r_icge, ax_r_icgt, ax_r_icle, ax_r_goto, ax_r_tsw, ax_evt_c, ax_evt_n, ax_r_lsw, ax_evu_c, ax_evu_n, ax_r_getI, ax_r_getR, ax_r_putI, ax_r_putZ, ax_r_iald, ax_r_iast, ax_r_lald, ax_r_last, ax_r_bald, ax_r_aald, ax_r_alen, ax_r_bast, ax_r_min, ax_r_max, ax_r_minl, ax_r_maxl, ax_r_copy, ax_r_slen, ax_r_schr, ax_r_dup, ax_r_dup2, ax_r_pop, ax_r_ret, ax_r_lret, ax_r_vret, ax_r_zret, ax_r_aret, ax_r_call, ax_evo, ax_eva, ax_ar, ax_tk, ax_ex, ax_ld, ax_sto, ax_stl, ly_pm, ly_cd, ly_ln, ly_rf, Option.bind_some, Option.map_some, if_true, if_false, true_and, and_true, List.nil_append, List.cons_append, List.append_nil, List.length_nil, List.length_cons, List.headD_cons, true_or, or_true, false_or, or_false, ne_eq, not_false_eq_true, not_true_eq_false, false_and, and_false, List.set_cons_zero, List.set_cons_succ, Nat.reduceAdd, Nat.reduceSub, Nat.reduceMul, Nat.reduceLeDiff, Nat.reduceLT, Nat.reduceEqDiff, ↓reduceIte, Int.reduceNeg, Int.reduceAdd, Int.reduceSub, Int.reduceMul, Int.reduceEq, Int.reduceNe, Int.reduceLE, Int.reduceLT, Int.reduceToNat, Nat.one_ne_zero, Nat.zero_ne_one, Int.cast_ofNat_Int, lc_lt, lc_ge, lc_gt, lc_le, lc_eq, lc_ne, w32i, w64i, tdv, tmd, ltT, ltF, leT, leF, eqT, eqF, dc_KilnReader_readClause]
        exact ⟨rb, H⟩
  · rw [if_neg hd] at hq
    have H := hq _ 0 (cR_bad (f := 1 + 8 * s) (cfr_refl g) (by omega))
    rw [show 1 + 8 * s = 1 + 8 * s + 0 by omega] at H
    rw [← k2, ← k4] at hd
    clear hq t c' c2 c3 k4 k2
    rcases (by omega : g 1 3 ≠ 2 ∨ (g 1 3 = 2 ∧ g 1 5 < 0) ∨ (g 1 3 = 2 ∧ 0 ≤ g 1 5 ∧ 4 < g 1 5)) with u | u | u
    all_goals
      simp (disch := omega) only [ax_ev, ax_kk, ax_ps, ax_r_const, ax_r_lconst, ax_r_str, ax_r_iload, ax_r_lload, ax_r_aload, ax_r_istore, ax_r_astore, ax_r_lstore, ax_r_iinc, ax_r_iadd, ax_r_isub, ax_r_imul, ax_r_idiv, ax_r_irem, ax_r_iand, ax_r_ior, ax_r_ishl, ax_r_ishr, ax_r_iushr, ax_r_i2l, ax_r_l2i, ax_r_i2b, ax_r_ladd, ax_r_lsub, ax_r_lmul, ax_r_ldiv, ax_r_lrem, ax_r_land, ax_r_lor, ax_r_lcmp, ax_r_ifeq, ax_r_ifne, ax_r_iflt, ax_r_ifge, ax_r_ifgt, ax_r_ifle, ax_r_iceq, ax_r_icne, ax_r_iclt, ax_r_icge, ax_r_icgt, ax_r_icle, ax_r_goto, ax_r_tsw, ax_evt_c, ax_evt_n, ax_r_lsw, ax_evu_c, ax_evu_n, ax_r_getI, ax_r_getR, ax_r_putI, ax_r_putZ, ax_r_iald, ax_r_iast, ax_r_lald, ax_r_last, ax_r_bald, ax_r_aald, ax_r_alen, ax_r_bast, ax_r_min, ax_r_max, ax_r_minl, ax_r_maxl, ax_r_copy, ax_r_slen, ax_r_schr, ax_r_dup, ax_r_dup2, ax_r_pop, ax_r_ret, ax_r_lret, ax_r_vret, ax_r_zret, ax_r_aret, ax_r_call, ax_evo, ax_eva, ax_ar, ax_tk, ax_ex, ax_ld, ax_sto, ax_stl, ly_pm, ly_cd, ly_ln, ly_rf, Option.bind_some, Option.map_some, if_true, if_false, true_and, and_true, List.nil_append, List.cons_append, List.append_nil, List.length_nil, List.length_cons, List.headD_cons, true_or, or_true, false_or, or_false, ne_eq, not_false_eq_true, not_true_eq_false, false_and, and_false, List.set_cons_zero, List.set_cons_succ, Nat.reduceAdd, Nat.reduceSub, Nat.reduceMul, Nat.reduceLeDiff, Nat.reduceLT, Nat.reduceEqDiff, ↓reduceIte, Int.reduceNeg, Int.reduceAdd, Int.reduceSub, Int.reduceMul, Int.reduceEq, Int.reduceNe, Int.reduceLE, Int.reduceLT, Int.reduceToNat, Nat.one_ne_zero, Nat.zero_ne_one, Int.cast_ofNat_Int, lc_lt, lc_ge, lc_gt, lc_le, lc_eq, lc_ne, w32i, w64i, tdv, tmd, ltT, ltF, leT, leF, eqT, eqF, dc_KilnReader_readClause, dc_Tape_fail, k3]
      exact H
