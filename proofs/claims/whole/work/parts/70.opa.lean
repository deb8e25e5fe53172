/-! CALLS OF BOTH: small ones -/
section OPA
variable {N : Int} {n : Nat} {xs : Int → Int} {w : Nat → Nat} {a : Nat → Int → Int} {i : Nat → Int}
theorem Inv_1 (h : Inv N w a i) : Inv (N + 1) w a i := Inv_N h (by omega)
theorem agr_I {i2 : Nat → Int} (h : agr a i (mv a) (mi i)) (hk : ∀ j, j ≤ 3 → i2 j = i j) (hm : ∀ j, j ≤ 3 → i2 (30 + j) = i (30 + j)) : agr a i2 (mv a) (mi i2) := by
  obtain ⟨q1, q2, q3, q4, q5, q6⟩ := h
  refine ⟨fun j hj => ?_, q2, ?_, ?_, ?_, q6⟩
  · show i2 (30 + j) = i2 j
    rw [hm j hj, hk j hj]
    exact q1 j hj
  · rw [hk 0 (by omega)]; exact q3
  · rw [hk 1 (by omega)]; exact q4
  · rw [hk 2 (by omega)]; exact q5
theorem fi_ok (h : Inv N w a i) : (0 ≤ N + 1) ∧ ∀ j, 0 ≤ j → j < 7 → (0 ≤ a 52 j ∧ a 52 j ≤ N + 1) ∧ a 62 j = a 52 j := (Inv_1 h).2.2.2.2.2.2.1
theorem op_lag (h : Inv N w a i) {x y : Int} (x1 : -2147483648 ≤ x) (x2 : x ≤ 2147483647) (y1 : -2147483648 ≤ y) (y2 : y ≤ 2147483647) : s_5_lag [.inr (.inr 0), .inl x, .inl y] (HH n xs w a i) (fun r h => s_6_lag [.inr (.inr 53), .inl x, .inl y] h (OPQ n xs N r)) := by
  have hc := h.2.1
  have hag := h.2.2.1
  have hmc := colN_A hag hc
  obtain ⟨⟨p1, p2⟩, ⟨s1, s2⟩, ⟨v1, v2⟩, ⟨n1, n2⟩, ⟨o1, o2⟩, ⟨d1, d2⟩, ⟨e1, e2⟩, ⟨k1, k2⟩, hr, ⟨m1, m2⟩, hd, ⟨b1, b2⟩, hb, hs, hz⟩ := id hc
  obtain ⟨hkE, hA2, hA3, hA4, hA5, hA6⟩ := id hag
  have K0 : i 30 = i 0 := hkE 0 (by omega)
  have K1 : i 31 = i 1 := hkE 1 (by omega)
  have K2 : i 32 = i 2 := hkE 2 (by omega)
  have K3 : i 33 = i 3 := hkE 3 (by omega)
  have R0 : a 54 0 = a 2 0 := hA2 0 (by omega) (by omega)
  have R1 : a 54 1 = a 2 1 := hA2 1 (by omega) (by omega)
  have R2 : a 54 2 = a 2 2 := hA2 2 (by omega) (by omega)
  have R3 : a 54 3 = a 2 3 := hA2 3 (by omega) (by omega)
  have R4 : a 54 4 = a 2 4 := hA2 4 (by omega) (by omega)
  have R5 : a 54 5 = a 2 5 := hA2 5 (by omega) (by omega)
  have R6 : a 54 6 = a 2 6 := hA2 6 (by omega) (by omega)
  by_cases c1 : 0 ≤ x ∧ x ≤ 4999
  · by_cases c2 : 0 ≤ y ∧ y ≤ 4999
    · have q := lagF_bd s1 s2 v1 v2 c1.1 c1.2 c2.1 c2.2
      simp (disch := first | assumption | omega | exact zc_lo | exact zc_hi | exact zz_l | exact zz_u | exact zz_r) only [xc_1 gc_5_lag_0, xc_2 gc_5_lag_1, xc_3 gc_5_lag_2, xl_aload0, xl_iload1, xl_iload2, xm_f, xm_n, xm_t, xn_1, xn_2, xo_0_0, xr_goto, xr_iconst, xr_if_eq, xr_if_ne, xr_iret, xtl_n, xtl_s, xz_i, xz_l, xz_n, xz_r, wb_5_lag_0, wb_5_lag_1, wb_5_lag_2, ss_5_lag, xc_1 gc_6_lag_0, xc_2 gc_6_lag_2, xc_3 gc_6_lag_1, xl_aload0, xl_iload1, xl_iload2, xm_f, xm_n, xm_t, xn_1, xr_goto, xr_iconst, xr_if_eq, xr_iret, xtl_n, xtl_s, xz_i, xz_l, xz_n, xz_r, wb_6_lag_0, wb_6_lag_1, wb_6_lag_2, ss_6_lag, zz_b, zz_bn, Classical.not_not, true_and, Nat.reduceAdd, Nat.reduceLeDiff, sp_5_isPlace, sp_6_isPlace, sp_0_lagBetween, sp_6_lagOf, c1, c2, R1, R2, true_implies, false_implies, implies_true, not_true_eq_false, not_false_eq_true, and_true, false_and, and_false, if_true, if_false, Int.reduceEq, Int.reduceSub, Int.reduceAdd, Int.reduceMul, Int.reduceNeg, Int.reduceLT, Int.reduceLE, Int.add_zero]
      exact OPQ_i (by omega) (by omega) (Inv_1 h)
    · simp (disch := first | assumption | omega | exact zc_lo | exact zc_hi | exact zz_l | exact zz_u | exact zz_r) only [xc_1 gc_5_lag_0, xc_2 gc_5_lag_1, xc_3 gc_5_lag_2, xl_aload0, xl_iload1, xl_iload2, xm_f, xm_n, xm_t, xn_1, xn_2, xo_0_0, xr_goto, xr_iconst, xr_if_eq, xr_if_ne, xr_iret, xtl_n, xtl_s, xz_i, xz_l, xz_n, xz_r, wb_5_lag_0, wb_5_lag_1, wb_5_lag_2, ss_5_lag, xc_1 gc_6_lag_0, xc_2 gc_6_lag_2, xc_3 gc_6_lag_1, xl_aload0, xl_iload1, xl_iload2, xm_f, xm_n, xm_t, xn_1, xr_goto, xr_iconst, xr_if_eq, xr_iret, xtl_n, xtl_s, xz_i, xz_l, xz_n, xz_r, wb_6_lag_0, wb_6_lag_1, wb_6_lag_2, ss_6_lag, zz_b, zz_bn, Classical.not_not, true_and, Nat.reduceAdd, Nat.reduceLeDiff, sp_5_isPlace, sp_6_isPlace, sp_5_finding, sp_6_finds, c1, c2, true_implies, false_implies, implies_true, not_true_eq_false, not_false_eq_true, and_true, false_and, and_false, if_true, if_false, Int.reduceEq, Int.reduceSub, Int.reduceAdd, Int.reduceMul, Int.reduceNeg, Int.reduceLT, Int.reduceLE, Int.add_zero]
      exact OPQ_i (by omega) (by omega) (Inv_fi h (by omega) (by omega))
  · simp (disch := first | assumption | omega | exact zc_lo | exact zc_hi | exact zz_l | exact zz_u | exact zz_r) only [xc_1 gc_5_lag_0, xc_2 gc_5_lag_1, xc_3 gc_5_lag_2, xl_aload0, xl_iload1, xl_iload2, xm_f, xm_n, xm_t, xn_1, xn_2, xo_0_0, xr_goto, xr_iconst, xr_if_eq, xr_if_ne, xr_iret, xtl_n, xtl_s, xz_i, xz_l, xz_n, xz_r, wb_5_lag_0, wb_5_lag_1, wb_5_lag_2, ss_5_lag, xc_1 gc_6_lag_0, xc_2 gc_6_lag_2, xc_3 gc_6_lag_1, xl_aload0, xl_iload1, xl_iload2, xm_f, xm_n, xm_t, xn_1, xr_goto, xr_iconst, xr_if_eq, xr_iret, xtl_n, xtl_s, xz_i, xz_l, xz_n, xz_r, wb_6_lag_0, wb_6_lag_1, wb_6_lag_2, ss_6_lag, zz_b, zz_bn, Classical.not_not, true_and, Nat.reduceAdd, Nat.reduceLeDiff, sp_5_isPlace, sp_6_isPlace, sp_5_finding, sp_6_finds, c1, true_implies, false_implies, implies_true, not_true_eq_false, not_false_eq_true, and_true, false_and, and_false, if_true, if_false, Int.reduceEq, Int.reduceSub, Int.reduceAdd, Int.reduceMul, Int.reduceNeg, Int.reduceLT, Int.reduceLE, Int.add_zero]
    exact OPQ_i (by omega) (by omega) (Inv_fi h (by omega) (by omega))
theorem op_seed (h : Inv N w a i) {x : Int} (x1 : -2147483648 ≤ x) (x2 : x ≤ 2147483647) : s_5_seed [.inr (.inr 0), .inl x] (HH n xs w a i) (fun r h => s_6_seed [.inr (.inr 53), .inl x] h (OPQ n xs N r)) := by
  have hc := h.2.1
  have hag := h.2.2.1
  have hmc := colN_A hag hc
  obtain ⟨⟨p1, p2⟩, ⟨s1, s2⟩, ⟨v1, v2⟩, ⟨n1, n2⟩, ⟨o1, o2⟩, ⟨d1, d2⟩, ⟨e1, e2⟩, ⟨k1, k2⟩, hr, ⟨m1, m2⟩, hd, ⟨b1, b2⟩, hb, hs, hz⟩ := id hc
  obtain ⟨hkE, hA2, hA3, hA4, hA5, hA6⟩ := id hag
  have K0 : i 30 = i 0 := hkE 0 (by omega)
  have K1 : i 31 = i 1 := hkE 1 (by omega)
  have K2 : i 32 = i 2 := hkE 2 (by omega)
  have K3 : i 33 = i 3 := hkE 3 (by omega)
  have R0 : a 54 0 = a 2 0 := hA2 0 (by omega) (by omega)
  have R1 : a 54 1 = a 2 1 := hA2 1 (by omega) (by omega)
  have R2 : a 54 2 = a 2 2 := hA2 2 (by omega) (by omega)
  have R3 : a 54 3 = a 2 3 := hA2 3 (by omega) (by omega)
  have R4 : a 54 4 = a 2 4 := hA2 4 (by omega) (by omega)
  have R5 : a 54 5 = a 2 5 := hA2 5 (by omega) (by omega)
  have R6 : a 54 6 = a 2 6 := hA2 6 (by omega) (by omega)
  simp (disch := first | assumption | omega | exact zc_lo | exact zc_hi | exact zz_l | exact zz_u | exact zz_r) only [xl_aload0, xl_iload1, xl_iload2, xl_istore2a, xl_istore2i, xl_istore2n, xm_f, xm_n, xm_t, xo_0_0, xo_1_15, xp_1_15, xr_iret, xtl_n, xtl_s, xz_i, xz_l, xz_n, xz_r, wb_5_seed_0, ss_5_seed, xl_aload0, xl_iload1, xl_iload2, xl_istore2a, xl_istore2i, xl_istore2n, xm_f, xm_n, xm_t, xo_53_10, xp_53_10, xr_iret, xtl_n, xtl_s, xz_i, xz_l, xz_n, xz_r, wb_6_seed_0, ss_6_seed, zz_b, zz_bn, Classical.not_not, true_and, Nat.reduceAdd, Nat.reduceLeDiff, up_n (show ¬ 33 = 3 by decide), K3, true_implies, false_implies, implies_true, not_true_eq_false, not_false_eq_true, and_true, false_and, and_false, if_true, if_false, Int.reduceEq, Int.reduceSub, Int.reduceAdd, Int.reduceMul, Int.reduceNeg, Int.reduceLT, Int.reduceLE, Int.add_zero]
  refine OPQ_i (by omega) (by omega) ?_
  obtain ⟨g1, g2, g3, g4, g5, g6, ⟨q0, q1⟩, g8⟩ := h
  refine ⟨g1, ?_, ?_, g4, g5, g6, ⟨by omega, fun j z1 z2 => by obtain ⟨q2, q3⟩ := q1 j z1 z2; exact ⟨by omega, q3⟩⟩, g8⟩
  · exact ⟨⟨p1, p2⟩, ⟨s1, s2⟩, ⟨v1, v2⟩, ⟨n1, n2⟩, ⟨o1, o2⟩, ⟨d1, d2⟩, ⟨e1, e2⟩, ⟨k1, k2⟩, hr, ⟨m1, m2⟩, hd, ⟨b1, b2⟩, hb, hs, ⟨x1, x2⟩⟩
  · refine ⟨fun j hj => ?_, hA2, hA3, hA4, hA5, hA6⟩
    match j, hj with
    | 0, _ => exact K0
    | 1, _ => exact K1
    | 2, _ => exact K2
    | 3, _ => rfl
theorem op_wipe (h : Inv N w a i) : s_5_wipe [.inr (.inr 0)] (HH n xs w a i) (fun r h => s_6_wipe [.inr (.inr 53)] h (OPQ n xs N r)) := by
  have hf := fi_ok h
  obtain ⟨g1, g2, g3, g4, ⟨g5, g5b, g5c⟩, g6, -, g8⟩ := h
  simp (disch := first | assumption | omega | exact zc_lo | exact zc_hi | exact zz_l | exact zz_u | exact zz_r) only [xl_aload0, xl_iload1, xl_istore1a, xl_istore1i, xl_istore1n, xm_f, xm_n, xm_t, xo_0_3, xo_27_1, xp_27_1, xr_iconst, xr_iret, xtl_n, xtl_s, xz_i, xz_l, xz_n, xz_r, wb_5_wipe_0, ss_5_wipe, xl_aload0, xl_iload1, xl_istore1a, xl_istore1i, xl_istore1n, xm_f, xm_n, xm_t, xo_53_14, xp_53_14, xr_iconst, xr_iret, xtl_n, xtl_s, xz_i, xz_l, xz_n, xz_r, wb_6_wipe_0, ss_6_wipe, zz_b, zz_bn, Classical.not_not, true_and, Nat.reduceAdd, Nat.reduceLeDiff, up_n (show ¬ 34 = 9 by decide), g5b, true_implies, false_implies, implies_true, not_true_eq_false, not_false_eq_true, and_true, false_and, and_false, if_true, if_false, Int.reduceEq, Int.reduceSub, Int.reduceAdd, Int.reduceMul, Int.reduceNeg, Int.reduceLT, Int.reduceLE, Int.add_zero]
  refine OPQ_i (by omega) (by omega) ?_
  exact ⟨g1, g2, agr_I g3 (fun j hj => by rw [up_n (by omega), up_n (by omega)]) (fun j hj => by rw [up_n (by omega), up_n (by omega)]), g4, ⟨by rw [up_n (by decide), up_s]; omega, by rw [up_s, up_n (by decide), up_s], fun j z1 z2 => by rw [up_n (by decide), up_s] at z2; omega⟩, g6, hf, g8⟩
theorem op_drumOf (h : Inv N w a i) {x y : Int} (x1 : -2147483648 ≤ x) (x2 : x ≤ 2147483647) (y1 : -2147483648 ≤ y) (y2 : y ≤ 2147483647) : s_5_drumOf [.inr (.inr 0), .inl x, .inl y] (HH n xs w a i) (fun r h => s_6_drumOf [.inr (.inr 53), .inl x, .inl y] h (OPQ n xs N r)) := by
  have hc := h.2.1
  have hag := h.2.2.1
  have hmc := colN_A hag hc
  obtain ⟨⟨p1, p2⟩, ⟨s1, s2⟩, ⟨v1, v2⟩, ⟨n1, n2⟩, ⟨o1, o2⟩, ⟨d1, d2⟩, ⟨e1, e2⟩, ⟨k1, k2⟩, hr, ⟨m1, m2⟩, hd, ⟨b1, b2⟩, hb, hs, hz⟩ := id hc
  obtain ⟨hkE, hA2, hA3, hA4, hA5, hA6⟩ := id hag
  have K0 : i 30 = i 0 := hkE 0 (by omega)
  have K1 : i 31 = i 1 := hkE 1 (by omega)
  have K2 : i 32 = i 2 := hkE 2 (by omega)
  have K3 : i 33 = i 3 := hkE 3 (by omega)
  have R0 : a 54 0 = a 2 0 := hA2 0 (by omega) (by omega)
  have R1 : a 54 1 = a 2 1 := hA2 1 (by omega) (by omega)
  have R2 : a 54 2 = a 2 2 := hA2 2 (by omega) (by omega)
  have R3 : a 54 3 = a 2 3 := hA2 3 (by omega) (by omega)
  have R4 : a 54 4 = a 2 4 := hA2 4 (by omega) (by omega)
  have R5 : a 54 5 = a 2 5 := hA2 5 (by omega) (by omega)
  have R6 : a 54 6 = a 2 6 := hA2 6 (by omega) (by omega)
  by_cases c1 : 0 ≤ x ∧ x < i 1
  · have c3 : 0 ≤ x ∧ x ≤ i 31 - 1 := by omega
    obtain ⟨⟨g1, g2⟩, ⟨g3, g4⟩, g5, g6⟩ := hd x c1.1 c1.2
    obtain ⟨f1, f2, f3⟩ := hA4 x c1.1 c1.2
    simp only [mv] at f1 f2 f3
    by_cases c2 : 0 ≤ y ∧ y ≤ 2
    · rcases (show y = 0 ∨ y = 1 ∨ y = 2 by omega) with rfl | rfl | rfl
      · simp (disch := first | assumption | omega | exact zc_lo | exact zc_hi | exact zz_l | exact zz_u | exact zz_r) only [xa_10, xa_11, xa_9, xc_2 gc_5_drumOf_0, xc_2 gc_5_drumOf_2, xc_3 gc_5_drumOf_1, xl_aload0, xl_iload1, xl_iload2, xm_f, xm_n, xm_t, xn_1, xn_2, xn_3, xn_4, xo_0_0, xo_1_10, xo_1_11, xo_1_9, xr_goto, xr_ic_ne, xr_iconst, xr_if_eq, xr_if_ne, xr_iret, xtl_n, xtl_s, xz_i, xz_l, xz_n, xz_r, wb_5_drumOf_0, wb_5_drumOf_1, wb_5_drumOf_2, wb_5_drumOf_3, wb_5_drumOf_4, wb_5_drumOf_5, ss_5_drumOf, xa_59, xc_2 gc_6_drumOf_0, xc_2 gc_6_drumOf_2, xc_3 gc_6_drumOf_1, xl_aload0, xl_iload1, xl_iload2, xm_f, xm_n, xm_t, xn_1, xo_53_7, xr_goto, xr_iadd, xr_iconst, xr_if_eq, xr_imul, xr_iret, xtl_n, xtl_s, xz_i, xz_l, xz_n, xz_r, wb_6_drumOf_0, wb_6_drumOf_1, wb_6_drumOf_2, ss_6_drumOf, zz_b, zz_bn, Classical.not_not, true_and, Nat.reduceAdd, Nat.reduceLeDiff, sp_5_isWithin, sp_6_in, sp_0_hasDrum, sp_6_isDrum, c1, c3, f1, true_implies, false_implies, implies_true, not_true_eq_false, not_false_eq_true, and_true, false_and, and_false, if_true, if_false, Int.reduceEq, Int.reduceSub, Int.reduceAdd, Int.reduceMul, Int.reduceNeg, Int.reduceLT, Int.reduceLE, Int.add_zero]
        exact OPQ_i (by omega) (by omega) (Inv_1 h)
      · simp (disch := first | assumption | omega | exact zc_lo | exact zc_hi | exact zz_l | exact zz_u | exact zz_r) only [xa_10, xa_11, xa_9, xc_2 gc_5_drumOf_0, xc_2 gc_5_drumOf_2, xc_3 gc_5_drumOf_1, xl_aload0, xl_iload1, xl_iload2, xm_f, xm_n, xm_t, xn_1, xn_2, xn_3, xn_4, xo_0_0, xo_1_10, xo_1_11, xo_1_9, xr_goto, xr_ic_ne, xr_iconst, xr_if_eq, xr_if_ne, xr_iret, xtl_n, xtl_s, xz_i, xz_l, xz_n, xz_r, wb_5_drumOf_0, wb_5_drumOf_1, wb_5_drumOf_2, wb_5_drumOf_3, wb_5_drumOf_4, wb_5_drumOf_5, ss_5_drumOf, xa_59, xc_2 gc_6_drumOf_0, xc_2 gc_6_drumOf_2, xc_3 gc_6_drumOf_1, xl_aload0, xl_iload1, xl_iload2, xm_f, xm_n, xm_t, xn_1, xo_53_7, xr_goto, xr_iadd, xr_iconst, xr_if_eq, xr_imul, xr_iret, xtl_n, xtl_s, xz_i, xz_l, xz_n, xz_r, wb_6_drumOf_0, wb_6_drumOf_1, wb_6_drumOf_2, ss_6_drumOf, zz_b, zz_bn, Classical.not_not, true_and, Nat.reduceAdd, Nat.reduceLeDiff, sp_5_isWithin, sp_6_in, sp_0_hasDrum, sp_6_isDrum, c1, c3, f2, true_implies, false_implies, implies_true, not_true_eq_false, not_false_eq_true, and_true, false_and, and_false, if_true, if_false, Int.reduceEq, Int.reduceSub, Int.reduceAdd, Int.reduceMul, Int.reduceNeg, Int.reduceLT, Int.reduceLE, Int.add_zero]
        exact OPQ_i (by omega) (by omega) (Inv_1 h)
      · simp (disch := first | assumption | omega | exact zc_lo | exact zc_hi | exact zz_l | exact zz_u | exact zz_r) only [xa_10, xa_11, xa_9, xc_2 gc_5_drumOf_0, xc_2 gc_5_drumOf_2, xc_3 gc_5_drumOf_1, xl_aload0, xl_iload1, xl_iload2, xm_f, xm_n, xm_t, xn_1, xn_2, xn_3, xn_4, xo_0_0, xo_1_10, xo_1_11, xo_1_9, xr_goto, xr_ic_ne, xr_iconst, xr_if_eq, xr_if_ne, xr_iret, xtl_n, xtl_s, xz_i, xz_l, xz_n, xz_r, wb_5_drumOf_0, wb_5_drumOf_1, wb_5_drumOf_2, wb_5_drumOf_3, wb_5_drumOf_4, wb_5_drumOf_5, ss_5_drumOf, xa_59, xc_2 gc_6_drumOf_0, xc_2 gc_6_drumOf_2, xc_3 gc_6_drumOf_1, xl_aload0, xl_iload1, xl_iload2, xm_f, xm_n, xm_t, xn_1, xo_53_7, xr_goto, xr_iadd, xr_iconst, xr_if_eq, xr_imul, xr_iret, xtl_n, xtl_s, xz_i, xz_l, xz_n, xz_r, wb_6_drumOf_0, wb_6_drumOf_1, wb_6_drumOf_2, ss_6_drumOf, zz_b, zz_bn, Classical.not_not, true_and, Nat.reduceAdd, Nat.reduceLeDiff, sp_5_isWithin, sp_6_in, sp_0_hasDrum, sp_6_isDrum, c1, c3, f3, true_implies, false_implies, implies_true, not_true_eq_false, not_false_eq_true, and_true, false_and, and_false, if_true, if_false, Int.reduceEq, Int.reduceSub, Int.reduceAdd, Int.reduceMul, Int.reduceNeg, Int.reduceLT, Int.reduceLE, Int.add_zero]
        exact OPQ_i (by omega) (by omega) (Inv_1 h)
    · simp (disch := first | assumption | omega | exact zc_lo | exact zc_hi | exact zz_l | exact zz_u | exact zz_r) only [xa_10, xa_11, xa_9, xc_2 gc_5_drumOf_0, xc_2 gc_5_drumOf_2, xc_3 gc_5_drumOf_1, xl_aload0, xl_iload1, xl_iload2, xm_f, xm_n, xm_t, xn_1, xn_2, xn_3, xn_4, xo_0_0, xo_1_10, xo_1_11, xo_1_9, xr_goto, xr_ic_ne, xr_iconst, xr_if_eq, xr_if_ne, xr_iret, xtl_n, xtl_s, xz_i, xz_l, xz_n, xz_r, wb_5_drumOf_0, wb_5_drumOf_1, wb_5_drumOf_2, wb_5_drumOf_3, wb_5_drumOf_4, wb_5_drumOf_5, ss_5_drumOf, xa_59, xc_2 gc_6_drumOf_0, xc_2 gc_6_drumOf_2, xc_3 gc_6_drumOf_1, xl_aload0, xl_iload1, xl_iload2, xm_f, xm_n, xm_t, xn_1, xo_53_7, xr_goto, xr_iadd, xr_iconst, xr_if_eq, xr_imul, xr_iret, xtl_n, xtl_s, xz_i, xz_l, xz_n, xz_r, wb_6_drumOf_0, wb_6_drumOf_1, wb_6_drumOf_2, ss_6_drumOf, zz_b, zz_bn, Classical.not_not, true_and, Nat.reduceAdd, Nat.reduceLeDiff, sp_5_isWithin, sp_6_in, sp_0_hasDrum, sp_6_isDrum, sp_5_finding, sp_6_finds, c1, c3, c2, true_implies, false_implies, implies_true, not_true_eq_false, not_false_eq_true, and_true, false_and, and_false, if_true, if_false, Int.reduceEq, Int.reduceSub, Int.reduceAdd, Int.reduceMul, Int.reduceNeg, Int.reduceLT, Int.reduceLE, Int.add_zero]
      exact OPQ_i (by omega) (by omega) (Inv_fi h (by omega) (by omega))
  · have c3 : ¬ (0 ≤ x ∧ x ≤ i 31 - 1) := by omega
    simp (disch := first | assumption | omega | exact zc_lo | exact zc_hi | exact zz_l | exact zz_u | exact zz_r) only [xa_10, xa_11, xa_9, xc_2 gc_5_drumOf_0, xc_2 gc_5_drumOf_2, xc_3 gc_5_drumOf_1, xl_aload0, xl_iload1, xl_iload2, xm_f, xm_n, xm_t, xn_1, xn_2, xn_3, xn_4, xo_0_0, xo_1_10, xo_1_11, xo_1_9, xr_goto, xr_ic_ne, xr_iconst, xr_if_eq, xr_if_ne, xr_iret, xtl_n, xtl_s, xz_i, xz_l, xz_n, xz_r, wb_5_drumOf_0, wb_5_drumOf_1, wb_5_drumOf_2, wb_5_drumOf_3, wb_5_drumOf_4, wb_5_drumOf_5, ss_5_drumOf, xa_59, xc_2 gc_6_drumOf_0, xc_2 gc_6_drumOf_2, xc_3 gc_6_drumOf_1, xl_aload0, xl_iload1, xl_iload2, xm_f, xm_n, xm_t, xn_1, xo_53_7, xr_goto, xr_iadd, xr_iconst, xr_if_eq, xr_imul, xr_iret, xtl_n, xtl_s, xz_i, xz_l, xz_n, xz_r, wb_6_drumOf_0, wb_6_drumOf_1, wb_6_drumOf_2, ss_6_drumOf, zz_b, zz_bn, Classical.not_not, true_and, Nat.reduceAdd, Nat.reduceLeDiff, sp_5_isWithin, sp_6_in, sp_0_hasDrum, sp_6_isDrum, sp_5_finding, sp_6_finds, c1, c3, true_implies, false_implies, implies_true, not_true_eq_false, not_false_eq_true, and_true, false_and, and_false, if_true, if_false, Int.reduceEq, Int.reduceSub, Int.reduceAdd, Int.reduceMul, Int.reduceNeg, Int.reduceLT, Int.reduceLE, Int.add_zero]
    exact OPQ_i (by omega) (by omega) (Inv_fi h (by omega) (by omega))
theorem sp_5_exchange {c m : Nat} (hc : hh_len c = some (0, m)) (hm : m < 2147483648) {x v : Int} (h0 : 0 ≤ x) (h1 : x < m) {Q : dk_Q} : s_5_exchange [.inr (.inr c), .inl x, .inl v] (HH n xs w a i) Q = Q (some (.inl (a c x))) (HH n xs w (dk_up a c (dk_ui (a c) x v)) i) := by
  simp (disch := first | assumption | omega | exact zc_lo | exact zc_hi | exact zz_l | exact zz_u | exact zz_r) only [xl_aload0, xl_iload1, xl_iload2, xl_iload3, xl_istore3a, xl_istore3i, xl_istore3n, xm_f, xm_n, xm_t, xr_iret, xtl_n, xtl_s, xz_i, xz_l, xz_n, xz_r, wb_5_exchange_0, ss_5_exchange, zz_b, zz_bn, Classical.not_not, true_and, Nat.reduceAdd, Nat.reduceLeDiff, xa_w hc h0 h1 (by omega), xs_w hc h0 h1 (by omega)]
theorem op_carry (h : Inv N w a i) {x y : Int} (x1 : -2147483648 ≤ x) (x2 : x ≤ 2147483647) (y1 : -2147483648 ≤ y) (y2 : y ≤ 2147483647) : s_5_carry [.inr (.inr 0), .inl x, .inl y] (HH n xs w a i) (fun r h => s_6_carry [.inr (.inr 53), .inl x, .inl y] h (OPQ n xs N r)) := by
  have hc := h.2.1
  have hag := h.2.2.1
  have hmc := colN_A hag hc
  obtain ⟨⟨p1, p2⟩, ⟨s1, s2⟩, ⟨v1, v2⟩, ⟨n1, n2⟩, ⟨o1, o2⟩, ⟨d1, d2⟩, ⟨e1, e2⟩, ⟨k1, k2⟩, hr, ⟨m1, m2⟩, hd, ⟨b1, b2⟩, hb, hs, hz⟩ := id hc
  obtain ⟨hkE, hA2, hA3, hA4, hA5, hA6⟩ := id hag
  have K0 : i 30 = i 0 := hkE 0 (by omega)
  have K1 : i 31 = i 1 := hkE 1 (by omega)
  have K2 : i 32 = i 2 := hkE 2 (by omega)
  have K3 : i 33 = i 3 := hkE 3 (by omega)
  have R0 : a 54 0 = a 2 0 := hA2 0 (by omega) (by omega)
  have R1 : a 54 1 = a 2 1 := hA2 1 (by omega) (by omega)
  have R2 : a 54 2 = a 2 2 := hA2 2 (by omega) (by omega)
  have R3 : a 54 3 = a 2 3 := hA2 3 (by omega) (by omega)
  have R4 : a 54 4 = a 2 4 := hA2 4 (by omega) (by omega)
  have R5 : a 54 5 = a 2 5 := hA2 5 (by omega) (by omega)
  have R6 : a 54 6 = a 2 6 := hA2 6 (by omega) (by omega)
  have hf := fi_ok h
  by_cases c1 : 0 ≤ x ∧ x < i 1
  · have c3 : 0 ≤ x ∧ x ≤ i 31 - 1 := by omega
    obtain ⟨⟨g1, g2⟩, ⟨g3, g4⟩, g5, g6⟩ := hd x c1.1 c1.2
    obtain ⟨f1, f2, f3⟩ := hA4 x c1.1 c1.2
    simp only [mv] at f1 f2 f3
    by_cases c2 : 0 ≤ y ∧ y ≤ 4999
    · simp (disch := first | assumption | omega | exact zc_lo | exact zc_hi | exact zz_l | exact zz_u | exact zz_r) only [xc_1 gc_5_carry_1, xc_2 gc_5_carry_0, xc_2 gc_5_carry_2, xc_3 gc_5_carry_3, xl_aload0, xl_iload1, xl_iload2, xm_f, xm_n, xm_t, xn_1, xn_2, xo_0_0, xo_1_9, xr_goto, xr_iconst, xr_if_eq, xr_if_ne, xr_iret, xtl_n, xtl_s, xz_i, xz_l, xz_n, xz_r, wb_5_carry_0, wb_5_carry_1, wb_5_carry_2, ss_5_carry, xa_59, xc_1 gc_6_carry_1, xc_2 gc_6_carry_0, xc_2 gc_6_carry_2, xl_aload0, xl_iload1, xl_iload2, xl_iload3, xl_istore3a, xl_istore3i, xl_istore3n, xm_f, xm_n, xm_t, xn_1, xn_2, xo_53_7, xr_goto, xr_iconst, xr_if_eq, xr_if_ne, xr_imul, xr_iret, xs_59, xtl_n, xtl_s, xz_i, xz_l, xz_n, xz_r, wb_6_carry_0, wb_6_carry_1, wb_6_carry_2, ss_6_carry, zz_b, zz_bn, Classical.not_not, true_and, Nat.reduceAdd, Nat.reduceLeDiff, sp_5_isPlace, sp_6_isPlace, sp_0_hasDrum, sp_6_isDrum, sp_5_exchange (c := 9) (m := 6) rfl (by omega) c1.1 (by omega), c1, c3, c2, up_n (show ¬ 59 = 9 by decide), f1, true_implies, false_implies, implies_true, not_true_eq_false, not_false_eq_true, and_true, false_and, and_false, if_true, if_false, Int.reduceEq, Int.reduceSub, Int.reduceAdd, Int.reduceMul, Int.reduceNeg, Int.reduceLT, Int.reduceLE, Int.add_zero]
      refine OPQ_i (by omega) (by omega) ?_
      obtain ⟨g1, -, -, g4, g5, g6, -, g8⟩ := h
      refine ⟨g1, ⟨⟨p1, p2⟩, ⟨s1, s2⟩, ⟨v1, v2⟩, ⟨n1, n2⟩, ⟨o1, o2⟩, ⟨d1, d2⟩, ⟨e1, e2⟩, ⟨k1, k2⟩, hr, ⟨m1, m2⟩, fun d z1 z2 => ?_, ⟨b1, b2⟩, hb, hs, hz⟩, ⟨hkE, hA2, hA3, fun d z1 z2 => ?_, hA5, hA6⟩, g4, g5, g6, hf, g8⟩
      · refine ⟨?_, (hd d z1 z2).2⟩
        show 0 ≤ dk_ui (a 9) x y d ∧ dk_ui (a 9) x y d ≤ 4999
        by_cases e : d = x
        · subst e; rw [ui_s]; exact c2
        · rw [ui_n e]; exact (hd d z1 z2).1
      · obtain ⟨q1, q2, q3⟩ := hA4 d z1 z2
        refine ⟨?_, ?_, ?_⟩
        · show dk_ui (a 59) (3 * x) y (3 * d) = dk_ui (a 9) x y d
          by_cases e : d = x
          · subst e; rw [ui_s, ui_s]
          · rw [ui_n e, ui_n (by omega)]; exact q1
        · show dk_ui (a 59) (3 * x) y (3 * d + 1) = a 10 d
          rw [ui_n (by omega)]; exact q2
        · show dk_ui (a 59) (3 * x) y (3 * d + 2) = a 11 d
          rw [ui_n (by omega)]; exact q3
    · simp (disch := first | assumption | omega | exact zc_lo | exact zc_hi | exact zz_l | exact zz_u | exact zz_r) only [xc_1 gc_5_carry_1, xc_2 gc_5_carry_0, xc_2 gc_5_carry_2, xc_3 gc_5_carry_3, xl_aload0, xl_iload1, xl_iload2, xm_f, xm_n, xm_t, xn_1, xn_2, xo_0_0, xo_1_9, xr_goto, xr_iconst, xr_if_eq, xr_if_ne, xr_iret, xtl_n, xtl_s, xz_i, xz_l, xz_n, xz_r, wb_5_carry_0, wb_5_carry_1, wb_5_carry_2, ss_5_carry, xa_59, xc_1 gc_6_carry_1, xc_2 gc_6_carry_0, xc_2 gc_6_carry_2, xl_aload0, xl_iload1, xl_iload2, xl_iload3, xl_istore3a, xl_istore3i, xl_istore3n, xm_f, xm_n, xm_t, xn_1, xn_2, xo_53_7, xr_goto, xr_iconst, xr_if_eq, xr_if_ne, xr_imul, xr_iret, xs_59, xtl_n, xtl_s, xz_i, xz_l, xz_n, xz_r, wb_6_carry_0, wb_6_carry_1, wb_6_carry_2, ss_6_carry, zz_b, zz_bn, Classical.not_not, true_and, Nat.reduceAdd, Nat.reduceLeDiff, sp_5_isPlace, sp_6_isPlace, sp_0_hasDrum, sp_6_isDrum, sp_5_finding, sp_6_finds, c1, c3, c2, true_implies, false_implies, implies_true, not_true_eq_false, not_false_eq_true, and_true, false_and, and_false, if_true, if_false, Int.reduceEq, Int.reduceSub, Int.reduceAdd, Int.reduceMul, Int.reduceNeg, Int.reduceLT, Int.reduceLE, Int.add_zero]
      exact OPQ_i (by omega) (by omega) (Inv_fi h (by omega) (by omega))
  · have c3 : ¬ (0 ≤ x ∧ x ≤ i 31 - 1) := by omega
    simp (disch := first | assumption | omega | exact zc_lo | exact zc_hi | exact zz_l | exact zz_u | exact zz_r) only [xc_1 gc_5_carry_1, xc_2 gc_5_carry_0, xc_2 gc_5_carry_2, xc_3 gc_5_carry_3, xl_aload0, xl_iload1, xl_iload2, xm_f, xm_n, xm_t, xn_1, xn_2, xo_0_0, xo_1_9, xr_goto, xr_iconst, xr_if_eq, xr_if_ne, xr_iret, xtl_n, xtl_s, xz_i, xz_l, xz_n, xz_r, wb_5_carry_0, wb_5_carry_1, wb_5_carry_2, ss_5_carry, xa_59, xc_1 gc_6_carry_1, xc_2 gc_6_carry_0, xc_2 gc_6_carry_2, xl_aload0, xl_iload1, xl_iload2, xl_iload3, xl_istore3a, xl_istore3i, xl_istore3n, xm_f, xm_n, xm_t, xn_1, xn_2, xo_53_7, xr_goto, xr_iconst, xr_if_eq, xr_if_ne, xr_imul, xr_iret, xs_59, xtl_n, xtl_s, xz_i, xz_l, xz_n, xz_r, wb_6_carry_0, wb_6_carry_1, wb_6_carry_2, ss_6_carry, zz_b, zz_bn, Classical.not_not, true_and, Nat.reduceAdd, Nat.reduceLeDiff, sp_5_isPlace, sp_6_isPlace, sp_0_hasDrum, sp_6_isDrum, sp_5_finding, sp_6_finds, c1, c3, true_implies, false_implies, implies_true, not_true_eq_false, not_false_eq_true, and_true, false_and, and_false, if_true, if_false, Int.reduceEq, Int.reduceSub, Int.reduceAdd, Int.reduceMul, Int.reduceNeg, Int.reduceLT, Int.reduceLE, Int.add_zero]
    exact OPQ_i (by omega) (by omega) (Inv_fi h (by omega) (by omega))
theorem op_bend (h : Inv N w a i) {x : Int} (x1 : -2147483648 ≤ x) (x2 : x ≤ 2147483647) : s_5_bend [.inr (.inr 0), .inl x] (HH n xs w a i) (fun r h => s_6_bend [.inr (.inr 53), .inl x] h (OPQ n xs N r)) := by
  have hc := h.2.1
  have hag := h.2.2.1
  have hmc := colN_A hag hc
  obtain ⟨⟨p1, p2⟩, ⟨s1, s2⟩, ⟨v1, v2⟩, ⟨n1, n2⟩, ⟨o1, o2⟩, ⟨d1, d2⟩, ⟨e1, e2⟩, ⟨k1, k2⟩, hr, ⟨m1, m2⟩, hd, ⟨b1, b2⟩, hb, hs, hz⟩ := id hc
  obtain ⟨hkE, hA2, hA3, hA4, hA5, hA6⟩ := id hag
  have K0 : i 30 = i 0 := hkE 0 (by omega)
  have K1 : i 31 = i 1 := hkE 1 (by omega)
  have K2 : i 32 = i 2 := hkE 2 (by omega)
  have K3 : i 33 = i 3 := hkE 3 (by omega)
  have R0 : a 54 0 = a 2 0 := hA2 0 (by omega) (by omega)
  have R1 : a 54 1 = a 2 1 := hA2 1 (by omega) (by omega)
  have R2 : a 54 2 = a 2 2 := hA2 2 (by omega) (by omega)
  have R3 : a 54 3 = a 2 3 := hA2 3 (by omega) (by omega)
  have R4 : a 54 4 = a 2 4 := hA2 4 (by omega) (by omega)
  have R5 : a 54 5 = a 2 5 := hA2 5 (by omega) (by omega)
  have R6 : a 54 6 = a 2 6 := hA2 6 (by omega) (by omega)
  have hf := fi_ok h
  by_cases c1 : 0 ≤ x ∧ x ≤ 4999
  · by_cases c2 : i 2 < 6
    · have c3 : ¬ i 2 = 6 := by omega
      simp (disch := first | assumption | omega | exact zc_lo | exact zc_hi | exact zz_l | exact zz_u | exact zz_r) only [xc_1 gc_5_bend_0, xc_2 gc_5_bend_1, xl_aload0, xl_iload1, xm_f, xm_n, xm_t, xn_1, xn_2, xo_0_0, xo_1_12, xo_1_13, xp_1_12, xr_dupi, xr_dupr, xr_iadd, xr_ic_lt, xr_iconst, xr_if_ne, xr_iret, xs_12, xtl_n, xtl_s, xz_i, xz_l, xz_n, xz_r, wb_5_bend_0, wb_5_bend_1, wb_5_bend_2, ss_5_bend, xc_1 gc_6_bend_0, xc_2 gc_6_bend_1, xl_aload0, xl_iload1, xm_f, xm_n, xm_t, xn_1, xn_2, xo_53_8, xo_53_9, xp_53_8, xr_dupi, xr_dupr, xr_iadd, xr_ic_ne, xr_iconst, xr_if_ne, xr_iret, xs_60, xtl_n, xtl_s, xz_i, xz_l, xz_n, xz_r, wb_6_bend_0, wb_6_bend_1, wb_6_bend_2, ss_6_bend, zz_b, zz_bn, Classical.not_not, true_and, Nat.reduceAdd, Nat.reduceLeDiff, sp_5_isPlace, sp_6_isPlace, c1, c2, c3, up_n (show ¬ 60 = 12 by decide), up_n (show ¬ 32 = 2 by decide), up_s, K2, true_implies, false_implies, implies_true, not_true_eq_false, not_false_eq_true, and_true, false_and, and_false, if_true, if_false, Int.reduceEq, Int.reduceSub, Int.reduceAdd, Int.reduceMul, Int.reduceNeg, Int.reduceLT, Int.reduceLE, Int.add_zero]
      refine OPQ_i (by omega) (by omega) ?_
      obtain ⟨g1, -, -, g4, g5, g6, -, g8⟩ := h
      refine ⟨g1, ⟨⟨p1, p2⟩, ⟨s1, s2⟩, ⟨v1, v2⟩, ⟨n1, n2⟩, ⟨o1, o2⟩, ⟨d1, d2⟩, ⟨e1, e2⟩, ⟨k1, k2⟩, hr, ⟨m1, m2⟩, hd, ⟨?_, ?_⟩, fun b z1 z2 => ?_, hs, hz⟩, ⟨fun j hj => ?_, hA2, hA3, hA4, fun b z1 z2 => ?_, hA6⟩, g4, g5, g6, hf, g8⟩
      · show 0 ≤ i 2 + 1; omega
      · show i 2 + 1 ≤ 6; omega
      · have z2 : b < i 2 + 1 := z2
        show 0 ≤ dk_ui (a 12) (i 2) x b ∧ dk_ui (a 12) (i 2) x b ≤ 4999
        by_cases e : b = i 2
        · subst e; rw [ui_s]; exact c1
        · rw [ui_n e]; exact hb b z1 (by omega)
      · match j, hj with
        | 0, _ => exact K0
        | 1, _ => exact K1
        | 2, _ => rfl
        | 3, _ => exact K3
      · have z2 : b < i 2 + 1 := z2
        show dk_ui (a 60) (i 2) x b = dk_ui (a 12) (i 2) x b
        by_cases e : b = i 2
        · subst e; rw [ui_s, ui_s]
        · rw [ui_n e, ui_n e]; exact hA5 b z1 (by omega)
    · have c3 : i 32 = 6 := by omega
      simp (disch := first | assumption | omega | exact zc_lo | exact zc_hi | exact zz_l | exact zz_u | exact zz_r) only [xc_1 gc_5_bend_0, xc_2 gc_5_bend_1, xl_aload0, xl_iload1, xm_f, xm_n, xm_t, xn_1, xn_2, xo_0_0, xo_1_12, xo_1_13, xp_1_12, xr_dupi, xr_dupr, xr_iadd, xr_ic_lt, xr_iconst, xr_if_ne, xr_iret, xs_12, xtl_n, xtl_s, xz_i, xz_l, xz_n, xz_r, wb_5_bend_0, wb_5_bend_1, wb_5_bend_2, ss_5_bend, xc_1 gc_6_bend_0, xc_2 gc_6_bend_1, xl_aload0, xl_iload1, xm_f, xm_n, xm_t, xn_1, xn_2, xo_53_8, xo_53_9, xp_53_8, xr_dupi, xr_dupr, xr_iadd, xr_ic_ne, xr_iconst, xr_if_ne, xr_iret, xs_60, xtl_n, xtl_s, xz_i, xz_l, xz_n, xz_r, wb_6_bend_0, wb_6_bend_1, wb_6_bend_2, ss_6_bend, zz_b, zz_bn, Classical.not_not, true_and, Nat.reduceAdd, Nat.reduceLeDiff, sp_5_isPlace, sp_6_isPlace, sp_5_finding, sp_6_finds, c1, c2, c3, true_implies, false_implies, implies_true, not_true_eq_false, not_false_eq_true, and_true, false_and, and_false, if_true, if_false, Int.reduceEq, Int.reduceSub, Int.reduceAdd, Int.reduceMul, Int.reduceNeg, Int.reduceLT, Int.reduceLE, Int.add_zero]
      exact OPQ_i (by omega) (by omega) (Inv_fi h (by omega) (by omega))
  · simp (disch := first | assumption | omega | exact zc_lo | exact zc_hi | exact zz_l | exact zz_u | exact zz_r) only [xc_1 gc_5_bend_0, xc_2 gc_5_bend_1, xl_aload0, xl_iload1, xm_f, xm_n, xm_t, xn_1, xn_2, xo_0_0, xo_1_12, xo_1_13, xp_1_12, xr_dupi, xr_dupr, xr_iadd, xr_ic_lt, xr_iconst, xr_if_ne, xr_iret, xs_12, xtl_n, xtl_s, xz_i, xz_l, xz_n, xz_r, wb_5_bend_0, wb_5_bend_1, wb_5_bend_2, ss_5_bend, xc_1 gc_6_bend_0, xc_2 gc_6_bend_1, xl_aload0, xl_iload1, xm_f, xm_n, xm_t, xn_1, xn_2, xo_53_8, xo_53_9, xp_53_8, xr_dupi, xr_dupr, xr_iadd, xr_ic_ne, xr_iconst, xr_if_ne, xr_iret, xs_60, xtl_n, xtl_s, xz_i, xz_l, xz_n, xz_r, wb_6_bend_0, wb_6_bend_1, wb_6_bend_2, ss_6_bend, zz_b, zz_bn, Classical.not_not, true_and, Nat.reduceAdd, Nat.reduceLeDiff, sp_5_isPlace, sp_6_isPlace, sp_5_finding, sp_6_finds, c1, true_implies, false_implies, implies_true, not_true_eq_false, not_false_eq_true, and_true, false_and, and_false, if_true, if_false, Int.reduceEq, Int.reduceSub, Int.reduceAdd, Int.reduceMul, Int.reduceNeg, Int.reduceLT, Int.reduceLE, Int.add_zero]
    exact OPQ_i (by omega) (by omega) (Inv_fi h (by omega) (by omega))
theorem op_tear (h : Inv N w a i) : s_5_tear [.inr (.inr 0)] (HH n xs w a i) (fun r h => s_6_tear [.inr (.inr 53)] h (OPQ n xs N r)) := by
  have hf := fi_ok h
  obtain ⟨g1, g2, g3, ⟨q1, q2, q3⟩, g5, g6, -, g8⟩ := h
  have fin : Inv (N + 1) w a (dk_up (dk_up i 8 0) 42 0) := ⟨g1, g2, agr_I g3 (fun j hj => by rw [up_n (by omega), up_n (by omega)]) (fun j hj => by rw [up_n (by omega), up_n (by omega)]), ⟨Or.inl (by rw [up_n (by decide), up_s]), by rw [up_s, up_n (by decide), up_s], fun z => by rw [up_n (by decide), up_s] at z; omega⟩, g5, g6, hf, g8⟩
  rcases q1 with q1 | q1
  · simp (disch := first | assumption | omega | exact zc_lo | exact zc_hi | exact zz_l | exact zz_u | exact zz_r) only [xl_aload0, xl_iload1, xl_istore1a, xl_istore1i, xl_istore1n, xm_f, xm_n, xm_t, xn_1, xo_0_2, xp_0_2, xr_goto, xr_iconst, xr_if_eq, xr_iret, xtl_n, xtl_s, xz_i, xz_l, xz_n, xz_r, wb_5_tear_0, wb_5_tear_1, wb_5_tear_2, ss_5_tear, xl_aload0, xl_iload1, xl_istore1a, xl_istore1i, xl_istore1n, xm_f, xm_n, xm_t, xn_1, xo_53_33, xp_53_33, xr_goto, xr_iconst, xr_if_eq, xr_iret, xtl_n, xtl_s, xz_i, xz_l, xz_n, xz_r, wb_6_tear_0, wb_6_tear_1, wb_6_tear_2, ss_6_tear, zz_b, zz_bn, Classical.not_not, true_and, Nat.reduceAdd, Nat.reduceLeDiff, q1, up_n (show ¬ 42 = 8 by decide), q2, true_implies, false_implies, implies_true, not_true_eq_false, not_false_eq_true, and_true, false_and, and_false, if_true, if_false, Int.reduceEq, Int.reduceSub, Int.reduceAdd, Int.reduceMul, Int.reduceNeg, Int.reduceLT, Int.reduceLE, Int.add_zero]
    exact OPQ_i (by omega) (by omega) fin
  · simp (disch := first | assumption | omega | exact zc_lo | exact zc_hi | exact zz_l | exact zz_u | exact zz_r) only [xl_aload0, xl_iload1, xl_istore1a, xl_istore1i, xl_istore1n, xm_f, xm_n, xm_t, xn_1, xo_0_2, xp_0_2, xr_goto, xr_iconst, xr_if_eq, xr_iret, xtl_n, xtl_s, xz_i, xz_l, xz_n, xz_r, wb_5_tear_0, wb_5_tear_1, wb_5_tear_2, ss_5_tear, xl_aload0, xl_iload1, xl_istore1a, xl_istore1i, xl_istore1n, xm_f, xm_n, xm_t, xn_1, xo_53_33, xp_53_33, xr_goto, xr_iconst, xr_if_eq, xr_iret, xtl_n, xtl_s, xz_i, xz_l, xz_n, xz_r, wb_6_tear_0, wb_6_tear_1, wb_6_tear_2, ss_6_tear, zz_b, zz_bn, Classical.not_not, true_and, Nat.reduceAdd, Nat.reduceLeDiff, q1, up_n (show ¬ 42 = 8 by decide), q2, true_implies, false_implies, implies_true, not_true_eq_false, not_false_eq_true, and_true, false_and, and_false, if_true, if_false, Int.reduceEq, Int.reduceSub, Int.reduceAdd, Int.reduceMul, Int.reduceNeg, Int.reduceLT, Int.reduceLE, Int.add_zero]
    exact OPQ_i (by omega) (by omega) fin
theorem op_drum (h : Inv N w a i) {x y z : Int} (x1 : -2147483648 ≤ x) (x2 : x ≤ 2147483647) (y1 : -2147483648 ≤ y) (y2 : y ≤ 2147483647) (z1 : -2147483648 ≤ z) (z2 : z ≤ 2147483647) : s_5_drum [.inr (.inr 0), .inl x, .inl y, .inl z] (HH n xs w a i) (fun r h => s_6_drum [.inr (.inr 53), .inl x, .inl y, .inl z] h (OPQ n xs N r)) := by
  have hc := h.2.1
  have hag := h.2.2.1
  have hmc := colN_A hag hc
  obtain ⟨⟨p1, p2⟩, ⟨s1, s2⟩, ⟨v1, v2⟩, ⟨n1, n2⟩, ⟨o1, o2⟩, ⟨d1, d2⟩, ⟨e1, e2⟩, ⟨k1, k2⟩, hr, ⟨m1, m2⟩, hd, ⟨b1, b2⟩, hb, hs, hz⟩ := id hc
  obtain ⟨hkE, hA2, hA3, hA4, hA5, hA6⟩ := id hag
  have K0 : i 30 = i 0 := hkE 0 (by omega)
  have K1 : i 31 = i 1 := hkE 1 (by omega)
  have K2 : i 32 = i 2 := hkE 2 (by omega)
  have K3 : i 33 = i 3 := hkE 3 (by omega)
  have R0 : a 54 0 = a 2 0 := hA2 0 (by omega) (by omega)
  have R1 : a 54 1 = a 2 1 := hA2 1 (by omega) (by omega)
  have R2 : a 54 2 = a 2 2 := hA2 2 (by omega) (by omega)
  have R3 : a 54 3 = a 2 3 := hA2 3 (by omega) (by omega)
  have R4 : a 54 4 = a 2 4 := hA2 4 (by omega) (by omega)
  have R5 : a 54 5 = a 2 5 := hA2 5 (by omega) (by omega)
  have R6 : a 54 6 = a 2 6 := hA2 6 (by omega) (by omega)
  have hf := fi_ok h
  have fnd : ∀ k : Int, 0 ≤ k → k < 7 → OPQ n xs N (some (.inl (-1000001 - k))) (some (.inl (-1000001 - k))) (HH n xs w (dk_up (dk_up a 52 (dk_ui (a 52) k (a 52 k + 1))) 62 (dk_ui (dk_up a 52 (dk_ui (a 52) k (a 52 k + 1)) 62) k (dk_up a 52 (dk_ui (a 52) k (a 52 k + 1)) 62 k + 1))) i) := fun k h1 h2 => OPQ_i (by omega) (by omega) (Inv_fi h h1 h2)
  by_cases c1 : 0 ≤ x ∧ x ≤ 4999
  · by_cases c2 : 1 ≤ y ∧ y ≤ 99
    · by_cases c3 : -999 ≤ z ∧ z ≤ 999
      · by_cases c4 : i 1 < 6
        · have c5 : ¬ i 1 = 6 := by omega
          have c6 : 0 ≤ i 31 := by omega
          simp (disch := first | assumption | omega | exact zc_lo | exact zc_hi | exact zz_l | exact zz_u | exact zz_r) only [xc_1 gc_5_drum_0, xc_2 gc_5_drum_2, xc_3 gc_5_drum_1, xl_aload0, xl_iload1, xl_iload2, xl_iload3, xl_iload4, xl_istore4a, xl_istore4i, xl_istore4n, xm_f, xm_n, xm_t, xn_1, xn_2, xn_3, xo_0_0, xo_1_10, xo_1_11, xo_1_8, xo_1_9, xp_1_8, xr_dupi, xr_dupr, xr_goto, xr_iadd, xr_ic_lt, xr_iconst, xr_if_eq, xr_if_ne, xr_iret, xs_10, xs_11, xs_9, xtl_n, xtl_s, xz_i, xz_l, xz_n, xz_r, wb_5_drum_0, wb_5_drum_1, wb_5_drum_2, wb_5_drum_3, ss_5_drum, xc_1 gc_6_drum_0, xc_2 gc_6_drum_2, xc_3 gc_6_drum_1, xl_aload0, xl_iload1, xl_iload2, xl_iload3, xm_f, xm_n, xm_t, xn_1, xn_2, xn_3, xo_53_6, xo_53_7, xp_53_6, xr_dupi, xr_dupr, xr_goto, xr_iadd, xr_ic_ne, xr_iconst, xr_if_eq, xr_if_ne, xr_imul, xr_iret, xr_isub, xs_59, xtl_n, xtl_s, xz_i, xz_l, xz_n, xz_r, wb_6_drum_0, wb_6_drum_1, wb_6_drum_2, wb_6_drum_3, ss_6_drum, zz_b, zz_bn, Classical.not_not, true_and, Nat.reduceAdd, Nat.reduceLeDiff, sp_5_isPlace, sp_6_isPlace, sp_5_isWithin, sp_6_in, c1, c2, c3, c4, c5, up_n (show ¬ 59 = 9 by decide), up_n (show ¬ 59 = 10 by decide), up_n (show ¬ 59 = 11 by decide), up_n (show ¬ 10 = 9 by decide), up_n (show ¬ 11 = 10 by decide), up_n (show ¬ 11 = 9 by decide), up_n (show ¬ 31 = 1 by decide), up_s, K1, Int.add_sub_cancel, true_implies, false_implies, implies_true, not_true_eq_false, not_false_eq_true, and_true, false_and, and_false, if_true, if_false, Int.reduceEq, Int.reduceSub, Int.reduceAdd, Int.reduceMul, Int.reduceNeg, Int.reduceLT, Int.reduceLE, Int.add_zero]
          refine OPQ_i (by omega) (by omega) ?_
          obtain ⟨g1, -, -, g4, g5, g6, -, g8⟩ := h
          refine ⟨g1, ⟨⟨p1, p2⟩, ⟨s1, s2⟩, ⟨v1, v2⟩, ⟨n1, n2⟩, ⟨o1, o2⟩, ⟨d1, d2⟩, ⟨e1, e2⟩, ⟨k1, k2⟩, hr, ⟨?_, ?_⟩, fun d t1 t2 => ?_, ⟨b1, b2⟩, hb, hs, hz⟩, ⟨fun j hj => ?_, hA2, hA3, fun d t1 t2 => ?_, hA5, hA6⟩, g4, g5, g6, hf, g8⟩
          · show 0 ≤ i 1 + 1; omega
          · show i 1 + 1 ≤ 6; omega
          · have t2 : d < i 1 + 1 := t2
            show (0 ≤ dk_ui (a 9) (i 1) x d ∧ dk_ui (a 9) (i 1) x d ≤ 4999) ∧ (1 ≤ dk_ui (a 10) (i 1) y d ∧ dk_ui (a 10) (i 1) y d ≤ 99) ∧ (-999 ≤ dk_ui (a 11) (i 1) z d ∧ dk_ui (a 11) (i 1) z d ≤ 999)
            by_cases e : d = i 1
            · subst e; rw [ui_s, ui_s, ui_s]; exact ⟨c1, c2, c3⟩
            · rw [ui_n e, ui_n e, ui_n e]; exact hd d t1 (by omega)
          · match j, hj with
            | 0, _ => exact K0
            | 1, _ => rfl
            | 2, _ => exact K2
            | 3, _ => exact K3
          · have t2 : d < i 1 + 1 := t2
            have key : ∀ e : Int, dk_up (dk_up (dk_up (dk_up (dk_up (dk_up a 9 (dk_ui (a 9) (i 1) x)) 10 (dk_ui (a 10) (i 1) y)) 11 (dk_ui (a 11) (i 1) z)) 59 (dk_ui (a 59) (3 * i 1) x)) 59 (dk_ui (dk_ui (a 59) (3 * i 1) x) (3 * i 1 + 1) y)) 59 (dk_ui (dk_ui (dk_ui (a 59) (3 * i 1) x) (3 * i 1 + 1) y) (3 * i 1 + 2) z) 59 e = dk_ui (dk_ui (dk_ui (a 59) (3 * i 1) x) (3 * i 1 + 1) y) (3 * i 1 + 2) z e := fun e => by rw [up_s]
            refine ⟨?_, ?_, ?_⟩
            · show dk_ui (dk_ui (dk_ui (a 59) (3 * i 1) x) (3 * i 1 + 1) y) (3 * i 1 + 2) z (3 * d) = dk_ui (a 9) (i 1) x d
              by_cases e : d = i 1
              · subst e; rw [ui_s, ui_n (by omega), ui_n (by omega), ui_s]
              · rw [ui_n e, ui_n (by omega), ui_n (by omega), ui_n (by omega)]; exact (hA4 d t1 (by omega)).1
            · show dk_ui (dk_ui (dk_ui (a 59) (3 * i 1) x) (3 * i 1 + 1) y) (3 * i 1 + 2) z (3 * d + 1) = dk_ui (a 10) (i 1) y d
              by_cases e : d = i 1
              · subst e; rw [ui_s, ui_n (by omega), ui_s]
              · rw [ui_n e, ui_n (by omega), ui_n (by omega), ui_n (by omega)]; exact (hA4 d t1 (by omega)).2.1
            · show dk_ui (dk_ui (dk_ui (a 59) (3 * i 1) x) (3 * i 1 + 1) y) (3 * i 1 + 2) z (3 * d + 2) = dk_ui (a 11) (i 1) z d
              by_cases e : d = i 1
              · subst e; rw [ui_s, ui_s]
              · rw [ui_n e, ui_n (by omega), ui_n (by omega), ui_n (by omega)]; exact (hA4 d t1 (by omega)).2.2
        · have c5 : i 31 = 6 := by omega
          simp (disch := first | assumption | omega | exact zc_lo | exact zc_hi | exact zz_l | exact zz_u | exact zz_r) only [xc_1 gc_5_drum_0, xc_2 gc_5_drum_2, xc_3 gc_5_drum_1, xl_aload0, xl_iload1, xl_iload2, xl_iload3, xl_iload4, xl_istore4a, xl_istore4i, xl_istore4n, xm_f, xm_n, xm_t, xn_1, xn_2, xn_3, xo_0_0, xo_1_10, xo_1_11, xo_1_8, xo_1_9, xp_1_8, xr_dupi, xr_dupr, xr_goto, xr_iadd, xr_ic_lt, xr_iconst, xr_if_eq, xr_if_ne, xr_iret, xs_10, xs_11, xs_9, xtl_n, xtl_s, xz_i, xz_l, xz_n, xz_r, wb_5_drum_0, wb_5_drum_1, wb_5_drum_2, wb_5_drum_3, ss_5_drum, xc_1 gc_6_drum_0, xc_2 gc_6_drum_2, xc_3 gc_6_drum_1, xl_aload0, xl_iload1, xl_iload2, xl_iload3, xm_f, xm_n, xm_t, xn_1, xn_2, xn_3, xo_53_6, xo_53_7, xp_53_6, xr_dupi, xr_dupr, xr_goto, xr_iadd, xr_ic_ne, xr_iconst, xr_if_eq, xr_if_ne, xr_imul, xr_iret, xr_isub, xs_59, xtl_n, xtl_s, xz_i, xz_l, xz_n, xz_r, wb_6_drum_0, wb_6_drum_1, wb_6_drum_2, wb_6_drum_3, ss_6_drum, zz_b, zz_bn, Classical.not_not, true_and, Nat.reduceAdd, Nat.reduceLeDiff, sp_5_isPlace, sp_6_isPlace, sp_5_isWithin, sp_6_in, sp_5_finding, sp_6_finds, c1, c2, c3, c4, c5, true_implies, false_implies, implies_true, not_true_eq_false, not_false_eq_true, and_true, false_and, and_false, if_true, if_false, Int.reduceEq, Int.reduceSub, Int.reduceAdd, Int.reduceMul, Int.reduceNeg, Int.reduceLT, Int.reduceLE, Int.add_zero]
          exact fnd 1 (by omega) (by omega)
      · simp (disch := first | assumption | omega | exact zc_lo | exact zc_hi | exact zz_l | exact zz_u | exact zz_r) only [xc_1 gc_5_drum_0, xc_2 gc_5_drum_2, xc_3 gc_5_drum_1, xl_aload0, xl_iload1, xl_iload2, xl_iload3, xl_iload4, xl_istore4a, xl_istore4i, xl_istore4n, xm_f, xm_n, xm_t, xn_1, xn_2, xn_3, xo_0_0, xo_1_10, xo_1_11, xo_1_8, xo_1_9, xp_1_8, xr_dupi, xr_dupr, xr_goto, xr_iadd, xr_ic_lt, xr_iconst, xr_if_eq, xr_if_ne, xr_iret, xs_10, xs_11, xs_9, xtl_n, xtl_s, xz_i, xz_l, xz_n, xz_r, wb_5_drum_0, wb_5_drum_1, wb_5_drum_2, wb_5_drum_3, ss_5_drum, xc_1 gc_6_drum_0, xc_2 gc_6_drum_2, xc_3 gc_6_drum_1, xl_aload0, xl_iload1, xl_iload2, xl_iload3, xm_f, xm_n, xm_t, xn_1, xn_2, xn_3, xo_53_6, xo_53_7, xp_53_6, xr_dupi, xr_dupr, xr_goto, xr_iadd, xr_ic_ne, xr_iconst, xr_if_eq, xr_if_ne, xr_imul, xr_iret, xr_isub, xs_59, xtl_n, xtl_s, xz_i, xz_l, xz_n, xz_r, wb_6_drum_0, wb_6_drum_1, wb_6_drum_2, wb_6_drum_3, ss_6_drum, zz_b, zz_bn, Classical.not_not, true_and, Nat.reduceAdd, Nat.reduceLeDiff, sp_5_isPlace, sp_6_isPlace, sp_5_isWithin, sp_6_in, sp_5_finding, sp_6_finds, c1, c2, c3, true_implies, false_implies, implies_true, not_true_eq_false, not_false_eq_true, and_true, false_and, and_false, if_true, if_false, Int.reduceEq, Int.reduceSub, Int.reduceAdd, Int.reduceMul, Int.reduceNeg, Int.reduceLT, Int.reduceLE, Int.add_zero]
        exact fnd 0 (by omega) (by omega)
    · simp (disch := first | assumption | omega | exact zc_lo | exact zc_hi | exact zz_l | exact zz_u | exact zz_r) only [xc_1 gc_5_drum_0, xc_2 gc_5_drum_2, xc_3 gc_5_drum_1, xl_aload0, xl_iload1, xl_iload2, xl_iload3, xl_iload4, xl_istore4a, xl_istore4i, xl_istore4n, xm_f, xm_n, xm_t, xn_1, xn_2, xn_3, xo_0_0, xo_1_10, xo_1_11, xo_1_8, xo_1_9, xp_1_8, xr_dupi, xr_dupr, xr_goto, xr_iadd, xr_ic_lt, xr_iconst, xr_if_eq, xr_if_ne, xr_iret, xs_10, xs_11, xs_9, xtl_n, xtl_s, xz_i, xz_l, xz_n, xz_r, wb_5_drum_0, wb_5_drum_1, wb_5_drum_2, wb_5_drum_3, ss_5_drum, xc_1 gc_6_drum_0, xc_2 gc_6_drum_2, xc_3 gc_6_drum_1, xl_aload0, xl_iload1, xl_iload2, xl_iload3, xm_f, xm_n, xm_t, xn_1, xn_2, xn_3, xo_53_6, xo_53_7, xp_53_6, xr_dupi, xr_dupr, xr_goto, xr_iadd, xr_ic_ne, xr_iconst, xr_if_eq, xr_if_ne, xr_imul, xr_iret, xr_isub, xs_59, xtl_n, xtl_s, xz_i, xz_l, xz_n, xz_r, wb_6_drum_0, wb_6_drum_1, wb_6_drum_2, wb_6_drum_3, ss_6_drum, zz_b, zz_bn, Classical.not_not, true_and, Nat.reduceAdd, Nat.reduceLeDiff, sp_5_isPlace, sp_6_isPlace, sp_5_isWithin, sp_6_in, sp_5_finding, sp_6_finds, c1, c2, true_implies, false_implies, implies_true, not_true_eq_false, not_false_eq_true, and_true, false_and, and_false, if_true, if_false, Int.reduceEq, Int.reduceSub, Int.reduceAdd, Int.reduceMul, Int.reduceNeg, Int.reduceLT, Int.reduceLE, Int.add_zero]
      exact fnd 0 (by omega) (by omega)
  · simp (disch := first | assumption | omega | exact zc_lo | exact zc_hi | exact zz_l | exact zz_u | exact zz_r) only [xc_1 gc_5_drum_0, xc_2 gc_5_drum_2, xc_3 gc_5_drum_1, xl_aload0, xl_iload1, xl_iload2, xl_iload3, xl_iload4, xl_istore4a, xl_istore4i, xl_istore4n, xm_f, xm_n, xm_t, xn_1, xn_2, xn_3, xo_0_0, xo_1_10, xo_1_11, xo_1_8, xo_1_9, xp_1_8, xr_dupi, xr_dupr, xr_goto, xr_iadd, xr_ic_lt, xr_iconst, xr_if_eq, xr_if_ne, xr_iret, xs_10, xs_11, xs_9, xtl_n, xtl_s, xz_i, xz_l, xz_n, xz_r, wb_5_drum_0, wb_5_drum_1, wb_5_drum_2, wb_5_drum_3, ss_5_drum, xc_1 gc_6_drum_0, xc_2 gc_6_drum_2, xc_3 gc_6_drum_1, xl_aload0, xl_iload1, xl_iload2, xl_iload3, xm_f, xm_n, xm_t, xn_1, xn_2, xn_3, xo_53_6, xo_53_7, xp_53_6, xr_dupi, xr_dupr, xr_goto, xr_iadd, xr_ic_ne, xr_iconst, xr_if_eq, xr_if_ne, xr_imul, xr_iret, xr_isub, xs_59, xtl_n, xtl_s, xz_i, xz_l, xz_n, xz_r, wb_6_drum_0, wb_6_drum_1, wb_6_drum_2, wb_6_drum_3, ss_6_drum, zz_b, zz_bn, Classical.not_not, true_and, Nat.reduceAdd, Nat.reduceLeDiff, sp_5_isPlace, sp_6_isPlace, sp_5_isWithin, sp_6_in, sp_5_finding, sp_6_finds, c1, true_implies, false_implies, implies_true, not_true_eq_false, not_false_eq_true, and_true, false_and, and_false, if_true, if_false, Int.reduceEq, Int.reduceSub, Int.reduceAdd, Int.reduceMul, Int.reduceNeg, Int.reduceLT, Int.reduceLE, Int.add_zero]
    exact fnd 0 (by omega) (by omega)
theorem op_hold (h : Inv N w a i) {x y : Int} (x1 : -2147483648 ≤ x) (x2 : x ≤ 2147483647) (y1 : -2147483648 ≤ y) (y2 : y ≤ 2147483647) : s_5_hold [.inr (.inr 0), .inl x, .inl y] (HH n xs w a i) (fun r h => s_6_hold [.inr (.inr 53), .inl x, .inl y] h (OPQ n xs N r)) := by
  have hc := h.2.1
  have hag := h.2.2.1
  have hmc := colN_A hag hc
  obtain ⟨⟨p1, p2⟩, ⟨s1, s2⟩, ⟨v1, v2⟩, ⟨n1, n2⟩, ⟨o1, o2⟩, ⟨d1, d2⟩, ⟨e1, e2⟩, ⟨k1, k2⟩, hr, ⟨m1, m2⟩, hd, ⟨b1, b2⟩, hb, hs, hz⟩ := id hc
  obtain ⟨hkE, hA2, hA3, hA4, hA5, hA6⟩ := id hag
  have K0 : i 30 = i 0 := hkE 0 (by omega)
  have K1 : i 31 = i 1 := hkE 1 (by omega)
  have K2 : i 32 = i 2 := hkE 2 (by omega)
  have K3 : i 33 = i 3 := hkE 3 (by omega)
  have R0 : a 54 0 = a 2 0 := hA2 0 (by omega) (by omega)
  have R1 : a 54 1 = a 2 1 := hA2 1 (by omega) (by omega)
  have R2 : a 54 2 = a 2 2 := hA2 2 (by omega) (by omega)
  have R3 : a 54 3 = a 2 3 := hA2 3 (by omega) (by omega)
  have R4 : a 54 4 = a 2 4 := hA2 4 (by omega) (by omega)
  have R5 : a 54 5 = a 2 5 := hA2 5 (by omega) (by omega)
  have R6 : a 54 6 = a 2 6 := hA2 6 (by omega) (by omega)
  have hf := fi_ok h
  by_cases c1 : 0 ≤ x ∧ x ≤ 9
  · have fin : (y = -1 ∨ (0 ≤ y ∧ y < i 0)) → OPQ n xs N (some (.inl 1)) (some (.inl 1)) (HH n xs w (dk_up (dk_up a 13 (dk_ui (a 13) x y)) 61 (dk_ui (a 61) x y)) i) := by
      intro hy
      refine OPQ_i (by omega) (by omega) ?_
      obtain ⟨g1, -, -, g4, g5, g6, -, g8⟩ := h
      refine ⟨g1, ⟨⟨p1, p2⟩, ⟨s1, s2⟩, ⟨v1, v2⟩, ⟨n1, n2⟩, ⟨o1, o2⟩, ⟨d1, d2⟩, ⟨e1, e2⟩, ⟨k1, k2⟩, hr, ⟨m1, m2⟩, hd, ⟨b1, b2⟩, hb, fun s t1 t2 => ?_, hz⟩, ⟨hkE, hA2, hA3, hA4, hA5, fun s t1 t2 => ?_⟩, g4, g5, g6, hf, g8⟩
      · show dk_ui (a 13) x y s = -1 ∨ (0 ≤ dk_ui (a 13) x y s ∧ dk_ui (a 13) x y s < i 0)
        by_cases e : s = x
        · subst e; rw [ui_s]; exact hy
        · rw [ui_n e]; exact hs s t1 t2
      · show dk_ui (a 61) x y s = dk_ui (a 13) x y s
        by_cases e : s = x
        · subst e; rw [ui_s, ui_s]
        · rw [ui_n e, ui_n e]; exact hA6 s t1 t2
    by_cases c2 : y = -1
    · simp (disch := first | assumption | omega | exact zc_lo | exact zc_hi | exact zz_l | exact zz_u | exact zz_r) only [xc_2 gc_5_hold_1, xc_2 gc_5_hold_2, xc_3 gc_5_hold_0, xl_aload0, xl_iload1, xl_iload2, xm_f, xm_n, xm_t, xn_1, xn_2, xo_0_0, xo_1_14, xr_goto, xr_ic_eq, xr_iconst, xr_if_eq, xr_if_ne, xr_iret, xs_13, xtl_n, xtl_s, xz_i, xz_l, xz_n, xz_r, wb_5_hold_0, wb_5_hold_1, wb_5_hold_2, ss_5_hold, xc_2 gc_6_hold_1, xc_2 gc_6_hold_2, xc_3 gc_6_hold_0, xl_aload0, xl_iload1, xl_iload2, xm_f, xm_n, xm_t, xn_1, xn_2, xo_53_11, xr_goto, xr_ic_eq, xr_iconst, xr_if_eq, xr_if_ne, xr_iret, xs_61, xtl_n, xtl_s, xz_i, xz_l, xz_n, xz_r, wb_6_hold_0, wb_6_hold_1, wb_6_hold_2, ss_6_hold, zz_b, zz_bn, Classical.not_not, true_and, Nat.reduceAdd, Nat.reduceLeDiff, sp_5_isWithin, sp_6_in, c1, c2, up_n (show ¬ 61 = 13 by decide), true_implies, false_implies, implies_true, not_true_eq_false, not_false_eq_true, and_true, false_and, and_false, if_true, if_false, Int.reduceEq, Int.reduceSub, Int.reduceAdd, Int.reduceMul, Int.reduceNeg, Int.reduceLT, Int.reduceLE, Int.add_zero]
      rw [c2] at fin
      exact fin (Or.inl rfl)
    · by_cases c3 : 0 ≤ y ∧ y < i 0
      · have c4 : 0 ≤ y ∧ y ≤ i 30 - 1 := by omega
        simp (disch := first | assumption | omega | exact zc_lo | exact zc_hi | exact zz_l | exact zz_u | exact zz_r) only [xc_2 gc_5_hold_1, xc_2 gc_5_hold_2, xc_3 gc_5_hold_0, xl_aload0, xl_iload1, xl_iload2, xm_f, xm_n, xm_t, xn_1, xn_2, xo_0_0, xo_1_14, xr_goto, xr_ic_eq, xr_iconst, xr_if_eq, xr_if_ne, xr_iret, xs_13, xtl_n, xtl_s, xz_i, xz_l, xz_n, xz_r, wb_5_hold_0, wb_5_hold_1, wb_5_hold_2, ss_5_hold, xc_2 gc_6_hold_1, xc_2 gc_6_hold_2, xc_3 gc_6_hold_0, xl_aload0, xl_iload1, xl_iload2, xm_f, xm_n, xm_t, xn_1, xn_2, xo_53_11, xr_goto, xr_ic_eq, xr_iconst, xr_if_eq, xr_if_ne, xr_iret, xs_61, xtl_n, xtl_s, xz_i, xz_l, xz_n, xz_r, wb_6_hold_0, wb_6_hold_1, wb_6_hold_2, ss_6_hold, zz_b, zz_bn, Classical.not_not, true_and, Nat.reduceAdd, Nat.reduceLeDiff, sp_5_isWithin, sp_6_in, sp_0_hasRank, sp_6_isRank, c1, c2, c3, c4, up_n (show ¬ 61 = 13 by decide), true_implies, false_implies, implies_true, not_true_eq_false, not_false_eq_true, and_true, false_and, and_false, if_true, if_false, Int.reduceEq, Int.reduceSub, Int.reduceAdd, Int.reduceMul, Int.reduceNeg, Int.reduceLT, Int.reduceLE, Int.add_zero]
        exact fin (Or.inr c3)
      · have c4 : ¬ (0 ≤ y ∧ y ≤ i 30 - 1) := by omega
        simp (disch := first | assumption | omega | exact zc_lo | exact zc_hi | exact zz_l | exact zz_u | exact zz_r) only [xc_2 gc_5_hold_1, xc_2 gc_5_hold_2, xc_3 gc_5_hold_0, xl_aload0, xl_iload1, xl_iload2, xm_f, xm_n, xm_t, xn_1, xn_2, xo_0_0, xo_1_14, xr_goto, xr_ic_eq, xr_iconst, xr_if_eq, xr_if_ne, xr_iret, xs_13, xtl_n, xtl_s, xz_i, xz_l, xz_n, xz_r, wb_5_hold_0, wb_5_hold_1, wb_5_hold_2, ss_5_hold, xc_2 gc_6_hold_1, xc_2 gc_6_hold_2, xc_3 gc_6_hold_0, xl_aload0, xl_iload1, xl_iload2, xm_f, xm_n, xm_t, xn_1, xn_2, xo_53_11, xr_goto, xr_ic_eq, xr_iconst, xr_if_eq, xr_if_ne, xr_iret, xs_61, xtl_n, xtl_s, xz_i, xz_l, xz_n, xz_r, wb_6_hold_0, wb_6_hold_1, wb_6_hold_2, ss_6_hold, zz_b, zz_bn, Classical.not_not, true_and, Nat.reduceAdd, Nat.reduceLeDiff, sp_5_isWithin, sp_6_in, sp_0_hasRank, sp_6_isRank, sp_5_finding, sp_6_finds, c1, c2, c3, c4, true_implies, false_implies, implies_true, not_true_eq_false, not_false_eq_true, and_true, false_and, and_false, if_true, if_false, Int.reduceEq, Int.reduceSub, Int.reduceAdd, Int.reduceMul, Int.reduceNeg, Int.reduceLT, Int.reduceLE, Int.add_zero]
        exact OPQ_i (by omega) (by omega) (Inv_fi h (by omega) (by omega))
  · simp (disch := first | assumption | omega | exact zc_lo | exact zc_hi | exact zz_l | exact zz_u | exact zz_r) only [xc_2 gc_5_hold_1, xc_2 gc_5_hold_2, xc_3 gc_5_hold_0, xl_aload0, xl_iload1, xl_iload2, xm_f, xm_n, xm_t, xn_1, xn_2, xo_0_0, xo_1_14, xr_goto, xr_ic_eq, xr_iconst, xr_if_eq, xr_if_ne, xr_iret, xs_13, xtl_n, xtl_s, xz_i, xz_l, xz_n, xz_r, wb_5_hold_0, wb_5_hold_1, wb_5_hold_2, ss_5_hold, xc_2 gc_6_hold_1, xc_2 gc_6_hold_2, xc_3 gc_6_hold_0, xl_aload0, xl_iload1, xl_iload2, xm_f, xm_n, xm_t, xn_1, xn_2, xo_53_11, xr_goto, xr_ic_eq, xr_iconst, xr_if_eq, xr_if_ne, xr_iret, xs_61, xtl_n, xtl_s, xz_i, xz_l, xz_n, xz_r, wb_6_hold_0, wb_6_hold_1, wb_6_hold_2, ss_6_hold, zz_b, zz_bn, Classical.not_not, true_and, Nat.reduceAdd, Nat.reduceLeDiff, sp_5_isWithin, sp_6_in, sp_5_finding, sp_6_finds, c1, true_implies, false_implies, implies_true, not_true_eq_false, not_false_eq_true, and_true, false_and, and_false, if_true, if_false, Int.reduceEq, Int.reduceSub, Int.reduceAdd, Int.reduceMul, Int.reduceNeg, Int.reduceLT, Int.reduceLE, Int.add_zero]
    exact OPQ_i (by omega) (by omega) (Inv_fi h (by omega) (by omega))
end OPA
