set_option maxHeartbeats 4000000 in
theorem t_heat (d : Nat) (L : ax_L) (h : Int → Int → Int) (Q : ax_V → ax_H → Prop) (s a c m : Int) (h1 : ax_cd L s = 7) (h2 : ax_rf L s 0 = a) (h3 : ax_cd L a = 100) (h4 : ax_ln L a = 47) (hc : 0 ≤ c ∧ c < 9)
   : ax_Ev d 70 0 [(2, s), (0, c), (0, m)] [] (L, h) Q = Q (9, 0) (L, h) := by
  simp only [ax_ev, dc_State_heat, ax_r_aload, ax_r_getR, ax_r_const, ax_r_iload, ax_r_iadd, ax_r_iald, ax_r_min, ax_r_iast, ax_r_vret, ax_ld, h1, true_and, and_true, List.length_nil, List.length_cons, Nat.reduceAdd, Nat.reduceLeDiff, h2, h3, h4]
  trace_state
  sorry
