/-! CALLS OF BOTH: two drums, orders that are passed on -/
/-- two drums that hear each other -/
def twF (x y la lb pc : Int) : Nat → Int × Int
  | 0 => (x, y)
  | k + 1 => ((twF x y la lb pc k).1 - (wr ((twF x y la lb pc k).1 + la - (twF x y la lb pc k).2) pc).tdiv 2, (twF x y la lb pc k).2 - (wr ((twF x y la lb pc k).2 + lb - ((twF x y la lb pc k).1 - (wr ((twF x y la lb pc k).1 + la - (twF x y la lb pc k).2) pc).tdiv 2)) pc).tdiv 2)
theorem twF_bd {x y la lb pc : Int} (h1 : 100 ≤ pc) (h2 : pc ≤ 2000) (hx : -999 ≤ x ∧ x ≤ 999) (hy : -999 ≤ y ∧ y ≤ 999) : ∀ k : Nat, (-(999 + 1000 * (k : Int)) ≤ (twF x y la lb pc k).1 ∧ (twF x y la lb pc k).1 ≤ 999 + 1000 * k) ∧ (-(999 + 1000 * (k : Int)) ≤ (twF x y la lb pc k).2 ∧ (twF x y la lb pc k).2 ≤ 999 + 1000 * k)
  | 0 => by simp only [twF]; omega
  | k + 1 => by
    have q := twF_bd (la := la) (lb := lb) h1 h2 hx hy k
    have g : ∀ z : Int, -1000 ≤ (wr z pc).tdiv 2 ∧ (wr z pc).tdiv 2 ≤ 1000 := fun z => by
      have := wr_bd z (show 0 < pc by omega)
      exact tdb (by omega) (by omega) (by omega)
    have q1 := g ((twF x y la lb pc k).1 + la - (twF x y la lb pc k).2)
    have q2 := g ((twF x y la lb pc k).2 + lb - ((twF x y la lb pc k).1 - (wr ((twF x y la lb pc k).1 + la - (twF x y la lb pc k).2) pc).tdiv 2))
    unfold twF
    simp only
    omega
section OR1
variable {N : Int} {n : Nat} {xs : Int → Int} {w : Nat → Nat} {a : Nat → Int → Int} {i : Nat → Int} {Q : dk_Q} {p q : Int → Int} {w2 : Nat → Nat} {a2 : Nat → Int → Int} {i2 : Nat → Int} {t : Nat} {r : Int}
theorem sp_5_areTwoDrums {x y : Int} (x1 : -2147483648 ≤ x) (x2 : x ≤ 2147483647) (y1 : -2147483648 ≤ y) (y2 : y ≤ 2147483647) (h3 : 0 ≤ i 1) (h4 : i 1 ≤ 6) : s_5_areTwoDrums [.inr (.inr 0), .inl x, .inl y] (HH n xs w a i) Q = Q (some (.inl (if (0 ≤ x ∧ x < i 1) ∧ (0 ≤ y ∧ y < i 1) ∧ ¬ x = y then 1 else 0))) (HH n xs w a i) := by
  simp (disch := first | assumption | omega | exact zc_lo | exact zc_hi | exact zz_l | exact zz_u | exact zz_r) only [xc_2 gc_5_areTwoDrums_0, xl_aload0, xl_iload1, xl_iload2, xm_f, xm_n, xm_t, xn_1, xo_0_0, xr_goto, xr_ic_eq, xr_iconst, xr_if_eq, xr_zret, xtl_n, xtl_s, xz_i, xz_l, xz_n, xz_r, wb_5_areTwoDrums_0, wb_5_areTwoDrums_1, wb_5_areTwoDrums_2, ss_5_areTwoDrums, zz_b, zz_bn, Classical.not_not, true_and, Nat.reduceAdd, Nat.reduceLeDiff, sp_0_hasDrum]
  by_cases c1 : 0 ≤ x ∧ x < i 1
  · by_cases c2 : 0 ≤ y ∧ y < i 1
    · by_cases c3 : x = y <;> simp only [c1, c2, c3, true_implies, false_implies, implies_true, not_true_eq_false, not_false_eq_true, true_and, and_true, false_and, and_false, true_or, or_true, false_or, or_false, Bool.false_eq_true, Classical.not_not, ↓reduceIte]
    · simp only [c1, c2, true_implies, false_implies, implies_true, not_true_eq_false, not_false_eq_true, true_and, and_true, false_and, and_false, true_or, or_true, false_or, or_false, Bool.false_eq_true, Classical.not_not, ↓reduceIte]
  · simp only [c1, true_implies, false_implies, implies_true, not_true_eq_false, not_false_eq_true, true_and, and_true, false_and, and_false, true_or, or_true, false_or, or_false, Bool.false_eq_true, Classical.not_not, ↓reduceIte]
theorem sp_6_areTwo {x y : Int} (x1 : -2147483648 ≤ x) (x2 : x ≤ 2147483647) (y1 : -2147483648 ≤ y) (y2 : y ≤ 2147483647) (h3 : 0 ≤ i 31) (h4 : i 31 ≤ 6) : s_6_areTwo [.inr (.inr 53), .inl x, .inl y] (HH n xs w a i) Q = Q (some (.inl (if (0 ≤ x ∧ x ≤ i 31 - 1) ∧ (0 ≤ y ∧ y ≤ i 31 - 1) ∧ ¬ x = y then 1 else 0))) (HH n xs w a i) := by
  simp (disch := first | assumption | omega | exact zc_lo | exact zc_hi | exact zz_l | exact zz_u | exact zz_r) only [xc_2 gc_6_areTwo_0, xl_aload0, xl_iload1, xl_iload2, xm_f, xm_n, xm_t, xn_1, xr_goto, xr_ic_eq, xr_iconst, xr_if_eq, xr_zret, xtl_n, xtl_s, xz_i, xz_l, xz_n, xz_r, wb_6_areTwo_0, wb_6_areTwo_1, wb_6_areTwo_2, ss_6_areTwo, zz_b, zz_bn, Classical.not_not, true_and, Nat.reduceAdd, Nat.reduceLeDiff, sp_6_isDrum]
  by_cases c1 : 0 ≤ x ∧ x ≤ i 31 - 1
  · by_cases c2 : 0 ≤ y ∧ y ≤ i 31 - 1
    · by_cases c3 : x = y <;> simp only [c1, c2, c3, true_implies, false_implies, implies_true, not_true_eq_false, not_false_eq_true, true_and, and_true, false_and, and_false, true_or, or_true, false_or, or_false, Bool.false_eq_true, Classical.not_not, ↓reduceIte]
    · simp only [c1, c2, true_implies, false_implies, implies_true, not_true_eq_false, not_false_eq_true, true_and, and_true, false_and, and_false, true_or, or_true, false_or, or_false, Bool.false_eq_true, Classical.not_not, ↓reduceIte]
  · simp only [c1, true_implies, false_implies, implies_true, not_true_eq_false, not_false_eq_true, true_and, and_true, false_and, and_false, true_or, or_true, false_or, or_false, Bool.false_eq_true, Classical.not_not, ↓reduceIte]
theorem op_two (h : Inv N w a i) {x y z u : Int} (x1 : -2147483648 ≤ x) (x2 : x ≤ 2147483647) (y1 : -2147483648 ≤ y) (y2 : y ≤ 2147483647) (z1 : -2147483648 ≤ z) (z2 : z ≤ 2147483647) (u1 : -2147483648 ≤ u) (u2 : u ≤ 2147483647) : s_5_two [.inr (.inr 0), .inl x, .inl y, .inl z, .inl u] (HH n xs w a i) (fun r h => s_6_two [.inr (.inr 53), .inl x, .inl y, .inl z, .inl u] h (OPQ n xs N r)) := by
  have hc := h.2.1
  have hag := h.2.2.1
  have hmc := colN_A hag hc
  obtain ⟨⟨p1, p2⟩, ⟨s1, s2⟩, ⟨v1, v2⟩, ⟨n1, n2⟩, ⟨o1, o2⟩, ⟨d1, d2⟩, ⟨e1, e2⟩, ⟨k1, k2⟩, hr, ⟨m1, m2⟩, hd, ⟨b1, b2⟩, hb, hs, hz⟩ := id hc
  obtain ⟨hkE, hA2, hA3, hA4, hA5, hA6⟩ := id hag
  have K0 : i 30 = i 0 := hkE 0 (by omega)
  have K1 : i 31 = i 1 := hkE 1 (by omega)
  have K2 : i 32 = i 2 := hkE 2 (by omega)
  have K3 : i 33 = i 3 := hkE 3 (by omega)
  have R0 : a 54 0 = a 2 0 := hA2 0 (by omega) (by omega)
  have R1 : a 54 1 = a 2 1 := hA2 1 (by omega) (by omega)
  have R2 : a 54 2 = a 2 2 := hA2 2 (by omega) (by omega)
  have R3 : a 54 3 = a 2 3 := hA2 3 (by omega) (by omega)
  have R4 : a 54 4 = a 2 4 := hA2 4 (by omega) (by omega)
  have R5 : a 54 5 = a 2 5 := hA2 5 (by omega) (by omega)
  have R6 : a 54 6 = a 2 6 := hA2 6 (by omega) (by omega)
  by_cases c1 : (0 ≤ x ∧ x < i 1) ∧ (0 ≤ y ∧ y < i 1) ∧ ¬ x = y
  · have c1b : (0 ≤ x ∧ x ≤ i 31 - 1) ∧ (0 ≤ y ∧ y ≤ i 31 - 1) ∧ ¬ x = y := by omega
    by_cases c2 : 1 ≤ z ∧ z ≤ 99
    · by_cases c3 : 0 ≤ u ∧ u ≤ 1
      · obtain ⟨M, rfl⟩ := nat_of (show 0 ≤ z by omega)
        obtain ⟨⟨f1, f2⟩, ⟨f3, f4⟩, f5, f6⟩ := hd x c1.1.1 c1.1.2
        obtain ⟨⟨g1, g2⟩, ⟨g3, g4⟩, g5, g6⟩ := hd y c1.2.1.1 c1.2.1.2
        obtain ⟨m1x, -, m3x⟩ := hA4 x c1.1.1 c1.1.2
        obtain ⟨m1y, -, m3y⟩ := hA4 y c1.2.1.1 c1.2.1.2
        simp only [mv] at m1x m3x m1y m3y
        have la := lagF_bd s1 s2 v1 v2 g1 g2 f1 f2
        have lb := lagF_bd s1 s2 v1 v2 f1 f2 g1 g2
        generalize hla : lagF (a 2 1) (a 2 2) (a 9 y) (a 9 x) = l1 at la
        generalize hlb : lagF (a 2 1) (a 2 2) (a 9 x) (a 9 y) = l2 at lb
        have tb := twF_bd (x := a 11 x) (y := a 11 y) (la := l1) (lb := l2) p1 p2 ⟨f5, f6⟩ ⟨g5, g6⟩
        have tbM := tb M
        have wb := fun z => wr_bd z (show 0 < a 2 0 by omega)
        have td : ∀ z : Int, -1000 ≤ (wr z (a 2 0)).tdiv 2 ∧ (wr z (a 2 0)).tdiv 2 ≤ 1000 := fun z => tdb (by omega) (by have := wb z; omega) (by have := wb z; omega)
        have mdl : s_6_two [.inr (.inr 53), .inl x, .inl y, .inl M, .inl u] (HH n xs w a i) (OPQ n xs N (some (.inl (if u = 0 then (twF (a 11 x) (a 11 y) l1 l2 (a 2 0) M).1 else (twF (a 11 x) (a 11 y) l1 l2 (a 2 0) M).2)))) := by
          simp (disch := first | assumption | omega | exact zc_lo | exact zc_hi | exact zz_l | exact zz_u | exact zz_r) only [xa_59, xc_2 gc_6_two_2, xc_2 gc_6_two_4, xc_3 gc_6_two_0, xc_3 gc_6_two_1, xc_3 gc_6_two_3, xl_aload0, xl_iinc9a, xl_iinc9i, xl_iinc9n, xl_iload1, xl_iload2, xl_iload3, xl_iload4, xl_iload5, xl_iload6, xl_iload7, xl_iload8, xl_iload9, xl_istore5a, xl_istore5i, xl_istore5n, xl_istore6a, xl_istore6i, xl_istore6n, xl_istore7a, xl_istore7i, xl_istore7n, xl_istore8a, xl_istore8i, xl_istore8n, xl_istore9a, xl_istore9i, xl_istore9n, xm_f, xm_n, xm_t, xn_1, xn_2, xn_4, xn_5, xo_53_7, xr_goto, xr_i2l, xr_iadd, xr_ic_ge, xr_iconst, xr_idiv, xr_if_eq, xr_if_ne, xr_imul, xr_iret, xr_isub, xr_ladd, xr_lsub, xtl_n, xtl_s, xz_i, xz_l, xz_n, xz_r, wb_6_two_0, wb_6_two_1, wb_6_two_2, wb_6_two_4, wb_6_two_5, wb_6_two_6, ss_6_two, zz_b, zz_bn, Classical.not_not, true_and, Nat.reduceAdd, Nat.reduceLeDiff, sp_6_areTwo, sp_6_in, c1b, c2, c3, m1x, m3x, m1y, m3y, sp_6_lagOf, R1, R2, hla, hlb, true_implies, false_implies, implies_true, not_true_eq_false, not_false_eq_true, and_true, false_and, and_false, if_true, if_false, Int.reduceEq, Int.reduceSub, Int.reduceAdd, Int.reduceMul, Int.reduceNeg, Int.reduceLT, Int.reduceLE, Int.add_zero]
          refine lp_up (m := M) (P := fun d => ∀ l1b l2b, dk_WP g_6_two b_6_two (OPQ n xs N (some (.inl (if u = 0 then (twF (a 11 x) (a 11 y) l1 l2 (a 2 0) M).1 else (twF (a 11 x) (a 11 y) l1 l2 (a 2 0) M).2)))) 3 [some (.inr (.inr 53)), l1b, l2b, some (.inl M), some (.inl u), some (.inl (twF (a 11 x) (a 11 y) l1 l2 (a 2 0) d).1), some (.inl (twF (a 11 x) (a 11 y) l1 l2 (a 2 0) d).2), some (.inl l1), some (.inl l2), some (.inl d)] [] (HH n xs w a i)) ?_ ?_ 0 (Nat.zero_le _) _ _
          · intro l1b l2b
            rw [wb_6_two_3]
            simp (disch := first | assumption | omega | exact zc_lo | exact zc_hi | exact zz_l | exact zz_u | exact zz_r) only [xa_59, xc_2 gc_6_two_2, xc_2 gc_6_two_4, xc_3 gc_6_two_0, xc_3 gc_6_two_1, xc_3 gc_6_two_3, xl_aload0, xl_iinc9a, xl_iinc9i, xl_iinc9n, xl_iload1, xl_iload2, xl_iload3, xl_iload4, xl_iload5, xl_iload6, xl_iload7, xl_iload8, xl_iload9, xl_istore5a, xl_istore5i, xl_istore5n, xl_istore6a, xl_istore6i, xl_istore6n, xl_istore7a, xl_istore7i, xl_istore7n, xl_istore8a, xl_istore8i, xl_istore8n, xl_istore9a, xl_istore9i, xl_istore9n, xm_f, xm_n, xm_t, xn_1, xn_2, xn_4, xn_5, xo_53_7, xr_goto, xr_i2l, xr_iadd, xr_ic_ge, xr_iconst, xr_idiv, xr_if_eq, xr_if_ne, xr_imul, xr_iret, xr_isub, xr_ladd, xr_lsub, xtl_n, xtl_s, xz_i, xz_l, xz_n, xz_r, wb_6_two_0, wb_6_two_1, wb_6_two_2, wb_6_two_4, wb_6_two_5, wb_6_two_6, zz_b, zz_bn, Classical.not_not, true_and, Nat.reduceAdd, Nat.reduceLeDiff]
            refine ⟨fun _ => ⟨fun t => ?_, fun t => ?_⟩, fun t => absurd (by omega) t⟩
            · rw [if_neg t]; exact OPQ_i (by omega) (by omega) (Inv_1 h)
            · rw [if_pos t]; exact OPQ_i (by omega) (by omega) (Inv_1 h)
          · intro d hdm ih l1b l2b
            have tbd := tb d
            have w1 := td ((twF (a 11 x) (a 11 y) l1 l2 (a 2 0) d).1 + l1 - (twF (a 11 x) (a 11 y) l1 l2 (a 2 0) d).2)
            have w3 := wb ((twF (a 11 x) (a 11 y) l1 l2 (a 2 0) d).1 + l1 - (twF (a 11 x) (a 11 y) l1 l2 (a 2 0) d).2)
            have w4 := wb ((twF (a 11 x) (a 11 y) l1 l2 (a 2 0) d).2 + l2 - ((twF (a 11 x) (a 11 y) l1 l2 (a 2 0) d).1 - (wr ((twF (a 11 x) (a 11 y) l1 l2 (a 2 0) d).1 + l1 - (twF (a 11 x) (a 11 y) l1 l2 (a 2 0) d).2) (a 2 0)).tdiv 2))
            have ih := fun l1b l2b => ih l1b l2b
            rw [twF] at ih
            simp only at ih
            have P1 : 100 ≤ a 54 0 := by omega
            have P2 : a 54 0 ≤ 2000 := by omega
            rw [wb_6_two_3]
            simp (disch := first | assumption | omega | exact zc_lo | exact zc_hi | exact zz_l | exact zz_u | exact zz_r) only [xa_59, xc_2 gc_6_two_2, xc_2 gc_6_two_4, xc_3 gc_6_two_0, xc_3 gc_6_two_1, xc_3 gc_6_two_3, xl_aload0, xl_iinc9a, xl_iinc9i, xl_iinc9n, xl_iload1, xl_iload2, xl_iload3, xl_iload4, xl_iload5, xl_iload6, xl_iload7, xl_iload8, xl_iload9, xl_istore5a, xl_istore5i, xl_istore5n, xl_istore6a, xl_istore6i, xl_istore6n, xl_istore7a, xl_istore7i, xl_istore7n, xl_istore8a, xl_istore8i, xl_istore8n, xl_istore9a, xl_istore9i, xl_istore9n, xm_f, xm_n, xm_t, xn_1, xn_2, xn_4, xn_5, xo_53_7, xr_goto, xr_i2l, xr_iadd, xr_ic_ge, xr_iconst, xr_idiv, xr_if_eq, xr_if_ne, xr_imul, xr_iret, xr_isub, xr_ladd, xr_lsub, xtl_n, xtl_s, xz_i, xz_l, xz_n, xz_r, wb_6_two_0, wb_6_two_1, wb_6_two_2, wb_6_two_4, wb_6_two_5, wb_6_two_6, zz_b, zz_bn, Classical.not_not, true_and, Nat.reduceAdd, Nat.reduceLeDiff, sp_6_wrapped, R0]
            rw [cs d]
            exact ⟨fun t => absurd t (by omega), fun _ => ih _ _⟩
        simp (disch := first | assumption | omega | exact zc_lo | exact zc_hi | exact zz_l | exact zz_u | exact zz_r) only [xa_11, xa_9, xc_2 gc_5_two_2, xc_2 gc_5_two_4, xc_3 gc_5_two_0, xc_3 gc_5_two_1, xc_3 gc_5_two_3, xl_aload0, xl_iinc9a, xl_iinc9i, xl_iinc9n, xl_iload1, xl_iload2, xl_iload3, xl_iload4, xl_iload5, xl_iload6, xl_iload7, xl_iload8, xl_iload9, xl_istore5a, xl_istore5i, xl_istore5n, xl_istore6a, xl_istore6i, xl_istore6n, xl_istore7a, xl_istore7i, xl_istore7n, xl_istore8a, xl_istore8i, xl_istore8n, xl_istore9a, xl_istore9i, xl_istore9n, xm_f, xm_n, xm_t, xn_1, xn_2, xn_4, xn_5, xo_0_0, xo_1_11, xo_1_9, xr_goto, xr_iadd, xr_ic_ge, xr_iconst, xr_idiv, xr_if_eq, xr_if_ne, xr_iret, xr_isub, xtl_n, xtl_s, xz_i, xz_l, xz_n, xz_r, wb_5_two_0, wb_5_two_1, wb_5_two_2, wb_5_two_4, wb_5_two_5, wb_5_two_6, ss_5_two, zz_b, zz_bn, Classical.not_not, true_and, Nat.reduceAdd, Nat.reduceLeDiff, sp_5_areTwoDrums, sp_5_isWithin, c1, c2, c3, sp_0_lagBetween, hla, hlb, true_implies, false_implies, implies_true, not_true_eq_false, not_false_eq_true, and_true, false_and, and_false, if_true, if_false, Int.reduceEq, Int.reduceSub, Int.reduceAdd, Int.reduceMul, Int.reduceNeg, Int.reduceLT, Int.reduceLE, Int.add_zero]
        refine lp_up (m := M) (P := fun d => ∀ l1b l2b, dk_WP g_5_two b_5_two (fun r h => s_6_two [.inr (.inr 53), .inl x, .inl y, .inl M, .inl u] h (OPQ n xs N r)) 3 [some (.inr (.inr 0)), l1b, l2b, some (.inl M), some (.inl u), some (.inl l1), some (.inl l2), some (.inl (twF (a 11 x) (a 11 y) l1 l2 (a 2 0) d).1), some (.inl (twF (a 11 x) (a 11 y) l1 l2 (a 2 0) d).2), some (.inl d)] [] (HH n xs w a i)) ?_ ?_ 0 (Nat.zero_le _) _ _
        · intro l1b l2b
          rw [wb_5_two_3]
          simp (disch := first | assumption | omega | exact zc_lo | exact zc_hi | exact zz_l | exact zz_u | exact zz_r) only [xa_11, xa_9, xc_2 gc_5_two_2, xc_2 gc_5_two_4, xc_3 gc_5_two_0, xc_3 gc_5_two_1, xc_3 gc_5_two_3, xl_aload0, xl_iinc9a, xl_iinc9i, xl_iinc9n, xl_iload1, xl_iload2, xl_iload3, xl_iload4, xl_iload5, xl_iload6, xl_iload7, xl_iload8, xl_iload9, xl_istore5a, xl_istore5i, xl_istore5n, xl_istore6a, xl_istore6i, xl_istore6n, xl_istore7a, xl_istore7i, xl_istore7n, xl_istore8a, xl_istore8i, xl_istore8n, xl_istore9a, xl_istore9i, xl_istore9n, xm_f, xm_n, xm_t, xn_1, xn_2, xn_4, xn_5, xo_0_0, xo_1_11, xo_1_9, xr_goto, xr_iadd, xr_ic_ge, xr_iconst, xr_idiv, xr_if_eq, xr_if_ne, xr_iret, xr_isub, xtl_n, xtl_s, xz_i, xz_l, xz_n, xz_r, wb_5_two_0, wb_5_two_1, wb_5_two_2, wb_5_two_4, wb_5_two_5, wb_5_two_6, zz_b, zz_bn, Classical.not_not, true_and, Nat.reduceAdd, Nat.reduceLeDiff]
          refine ⟨fun _ => ⟨fun t => ?_, fun t => ?_⟩, fun t => absurd (by omega) t⟩
          · rw [if_neg t] at mdl; exact mdl
          · rw [if_pos t] at mdl; exact mdl
        · intro d hdm ih l1b l2b
          have tbd := tb d
          have w1 := td ((twF (a 11 x) (a 11 y) l1 l2 (a 2 0) d).1 + l1 - (twF (a 11 x) (a 11 y) l1 l2 (a 2 0) d).2)
          have w3 := wb ((twF (a 11 x) (a 11 y) l1 l2 (a 2 0) d).1 + l1 - (twF (a 11 x) (a 11 y) l1 l2 (a 2 0) d).2)
          have w4 := wb ((twF (a 11 x) (a 11 y) l1 l2 (a 2 0) d).2 + l2 - ((twF (a 11 x) (a 11 y) l1 l2 (a 2 0) d).1 - (wr ((twF (a 11 x) (a 11 y) l1 l2 (a 2 0) d).1 + l1 - (twF (a 11 x) (a 11 y) l1 l2 (a 2 0) d).2) (a 2 0)).tdiv 2))
          have ih := fun l1b l2b => ih l1b l2b
          rw [twF] at ih
          simp only at ih
          rw [wb_5_two_3]
          simp (disch := first | assumption | omega | exact zc_lo | exact zc_hi | exact zz_l | exact zz_u | exact zz_r) only [xa_11, xa_9, xc_2 gc_5_two_2, xc_2 gc_5_two_4, xc_3 gc_5_two_0, xc_3 gc_5_two_1, xc_3 gc_5_two_3, xl_aload0, xl_iinc9a, xl_iinc9i, xl_iinc9n, xl_iload1, xl_iload2, xl_iload3, xl_iload4, xl_iload5, xl_iload6, xl_iload7, xl_iload8, xl_iload9, xl_istore5a, xl_istore5i, xl_istore5n, xl_istore6a, xl_istore6i, xl_istore6n, xl_istore7a, xl_istore7i, xl_istore7n, xl_istore8a, xl_istore8i, xl_istore8n, xl_istore9a, xl_istore9i, xl_istore9n, xm_f, xm_n, xm_t, xn_1, xn_2, xn_4, xn_5, xo_0_0, xo_1_11, xo_1_9, xr_goto, xr_iadd, xr_ic_ge, xr_iconst, xr_idiv, xr_if_eq, xr_if_ne, xr_iret, xr_isub, xtl_n, xtl_s, xz_i, xz_l, xz_n, xz_r, wb_5_two_0, wb_5_two_1, wb_5_two_2, wb_5_two_4, wb_5_two_5, wb_5_two_6, zz_b, zz_bn, Classical.not_not, true_and, Nat.reduceAdd, Nat.reduceLeDiff, sp_0_wrap]
          rw [cs d]
          exact ⟨fun t => absurd t (by omega), fun _ => ih _ _⟩
      · simp (disch := first | assumption | omega | exact zc_lo | exact zc_hi | exact zz_l | exact zz_u | exact zz_r) only [xa_11, xa_9, xc_2 gc_5_two_2, xc_2 gc_5_two_4, xc_3 gc_5_two_0, xc_3 gc_5_two_1, xc_3 gc_5_two_3, xl_aload0, xl_iinc9a, xl_iinc9i, xl_iinc9n, xl_iload1, xl_iload2, xl_iload3, xl_iload4, xl_iload5, xl_iload6, xl_iload7, xl_iload8, xl_iload9, xl_istore5a, xl_istore5i, xl_istore5n, xl_istore6a, xl_istore6i, xl_istore6n, xl_istore7a, xl_istore7i, xl_istore7n, xl_istore8a, xl_istore8i, xl_istore8n, xl_istore9a, xl_istore9i, xl_istore9n, xm_f, xm_n, xm_t, xn_1, xn_2, xn_4, xn_5, xo_0_0, xo_1_11, xo_1_9, xr_goto, xr_iadd, xr_ic_ge, xr_iconst, xr_idiv, xr_if_eq, xr_if_ne, xr_iret, xr_isub, xtl_n, xtl_s, xz_i, xz_l, xz_n, xz_r, wb_5_two_0, wb_5_two_1, wb_5_two_2, wb_5_two_4, wb_5_two_5, wb_5_two_6, ss_5_two, xa_59, xc_2 gc_6_two_2, xc_2 gc_6_two_4, xc_3 gc_6_two_0, xc_3 gc_6_two_1, xc_3 gc_6_two_3, xl_aload0, xl_iinc9a, xl_iinc9i, xl_iinc9n, xl_iload1, xl_iload2, xl_iload3, xl_iload4, xl_iload5, xl_iload6, xl_iload7, xl_iload8, xl_iload9, xl_istore5a, xl_istore5i, xl_istore5n, xl_istore6a, xl_istore6i, xl_istore6n, xl_istore7a, xl_istore7i, xl_istore7n, xl_istore8a, xl_istore8i, xl_istore8n, xl_istore9a, xl_istore9i, xl_istore9n, xm_f, xm_n, xm_t, xn_1, xn_2, xn_4, xn_5, xo_53_7, xr_goto, xr_i2l, xr_iadd, xr_ic_ge, xr_iconst, xr_idiv, xr_if_eq, xr_if_ne, xr_imul, xr_iret, xr_isub, xr_ladd, xr_lsub, xtl_n, xtl_s, xz_i, xz_l, xz_n, xz_r, wb_6_two_0, wb_6_two_1, wb_6_two_2, wb_6_two_4, wb_6_two_5, wb_6_two_6, ss_6_two, zz_b, zz_bn, Classical.not_not, true_and, Nat.reduceAdd, Nat.reduceLeDiff, sp_5_areTwoDrums, sp_6_areTwo, sp_5_isWithin, sp_6_in, sp_5_finding, sp_6_finds, c1, c1b, c2, c3, true_implies, false_implies, implies_true, not_true_eq_false, not_false_eq_true, and_true, false_and, and_false, if_true, if_false, Int.reduceEq, Int.reduceSub, Int.reduceAdd, Int.reduceMul, Int.reduceNeg, Int.reduceLT, Int.reduceLE, Int.add_zero]
        exact fnd h 0 (by omega) (by omega)
    · simp (disch := first | assumption | omega | exact zc_lo | exact zc_hi | exact zz_l | exact zz_u | exact zz_r) only [xa_11, xa_9, xc_2 gc_5_two_2, xc_2 gc_5_two_4, xc_3 gc_5_two_0, xc_3 gc_5_two_1, xc_3 gc_5_two_3, xl_aload0, xl_iinc9a, xl_iinc9i, xl_iinc9n, xl_iload1, xl_iload2, xl_iload3, xl_iload4, xl_iload5, xl_iload6, xl_iload7, xl_iload8, xl_iload9, xl_istore5a, xl_istore5i, xl_istore5n, xl_istore6a, xl_istore6i, xl_istore6n, xl_istore7a, xl_istore7i, xl_istore7n, xl_istore8a, xl_istore8i, xl_istore8n, xl_istore9a, xl_istore9i, xl_istore9n, xm_f, xm_n, xm_t, xn_1, xn_2, xn_4, xn_5, xo_0_0, xo_1_11, xo_1_9, xr_goto, xr_iadd, xr_ic_ge, xr_iconst, xr_idiv, xr_if_eq, xr_if_ne, xr_iret, xr_isub, xtl_n, xtl_s, xz_i, xz_l, xz_n, xz_r, wb_5_two_0, wb_5_two_1, wb_5_two_2, wb_5_two_4, wb_5_two_5, wb_5_two_6, ss_5_two, xa_59, xc_2 gc_6_two_2, xc_2 gc_6_two_4, xc_3 gc_6_two_0, xc_3 gc_6_two_1, xc_3 gc_6_two_3, xl_aload0, xl_iinc9a, xl_iinc9i, xl_iinc9n, xl_iload1, xl_iload2, xl_iload3, xl_iload4, xl_iload5, xl_iload6, xl_iload7, xl_iload8, xl_iload9, xl_istore5a, xl_istore5i, xl_istore5n, xl_istore6a, xl_istore6i, xl_istore6n, xl_istore7a, xl_istore7i, xl_istore7n, xl_istore8a, xl_istore8i, xl_istore8n, xl_istore9a, xl_istore9i, xl_istore9n, xm_f, xm_n, xm_t, xn_1, xn_2, xn_4, xn_5, xo_53_7, xr_goto, xr_i2l, xr_iadd, xr_ic_ge, xr_iconst, xr_idiv, xr_if_eq, xr_if_ne, xr_imul, xr_iret, xr_isub, xr_ladd, xr_lsub, xtl_n, xtl_s, xz_i, xz_l, xz_n, xz_r, wb_6_two_0, wb_6_two_1, wb_6_two_2, wb_6_two_4, wb_6_two_5, wb_6_two_6, ss_6_two, zz_b, zz_bn, Classical.not_not, true_and, Nat.reduceAdd, Nat.reduceLeDiff, sp_5_areTwoDrums, sp_6_areTwo, sp_5_isWithin, sp_6_in, sp_5_finding, sp_6_finds, c1, c1b, c2, true_implies, false_implies, implies_true, not_true_eq_false, not_false_eq_true, and_true, false_and, and_false, if_true, if_false, Int.reduceEq, Int.reduceSub, Int.reduceAdd, Int.reduceMul, Int.reduceNeg, Int.reduceLT, Int.reduceLE, Int.add_zero]
      exact fnd h 0 (by omega) (by omega)
  · have c1b : ¬ ((0 ≤ x ∧ x ≤ i 31 - 1) ∧ (0 ≤ y ∧ y ≤ i 31 - 1) ∧ ¬ x = y) := by omega
    simp (disch := first | assumption | omega | exact zc_lo | exact zc_hi | exact zz_l | exact zz_u | exact zz_r) only [xa_11, xa_9, xc_2 gc_5_two_2, xc_2 gc_5_two_4, xc_3 gc_5_two_0, xc_3 gc_5_two_1, xc_3 gc_5_two_3, xl_aload0, xl_iinc9a, xl_iinc9i, xl_iinc9n, xl_iload1, xl_iload2, xl_iload3, xl_iload4, xl_iload5, xl_iload6, xl_iload7, xl_iload8, xl_iload9, xl_istore5a, xl_istore5i, xl_istore5n, xl_istore6a, xl_istore6i, xl_istore6n, xl_istore7a, xl_istore7i, xl_istore7n, xl_istore8a, xl_istore8i, xl_istore8n, xl_istore9a, xl_istore9i, xl_istore9n, xm_f, xm_n, xm_t, xn_1, xn_2, xn_4, xn_5, xo_0_0, xo_1_11, xo_1_9, xr_goto, xr_iadd, xr_ic_ge, xr_iconst, xr_idiv, xr_if_eq, xr_if_ne, xr_iret, xr_isub, xtl_n, xtl_s, xz_i, xz_l, xz_n, xz_r, wb_5_two_0, wb_5_two_1, wb_5_two_2, wb_5_two_4, wb_5_two_5, wb_5_two_6, ss_5_two, xa_59, xc_2 gc_6_two_2, xc_2 gc_6_two_4, xc_3 gc_6_two_0, xc_3 gc_6_two_1, xc_3 gc_6_two_3, xl_aload0, xl_iinc9a, xl_iinc9i, xl_iinc9n, xl_iload1, xl_iload2, xl_iload3, xl_iload4, xl_iload5, xl_iload6, xl_iload7, xl_iload8, xl_iload9, xl_istore5a, xl_istore5i, xl_istore5n, xl_istore6a, xl_istore6i, xl_istore6n, xl_istore7a, xl_istore7i, xl_istore7n, xl_istore8a, xl_istore8i, xl_istore8n, xl_istore9a, xl_istore9i, xl_istore9n, xm_f, xm_n, xm_t, xn_1, xn_2, xn_4, xn_5, xo_53_7, xr_goto, xr_i2l, xr_iadd, xr_ic_ge, xr_iconst, xr_idiv, xr_if_eq, xr_if_ne, xr_imul, xr_iret, xr_isub, xr_ladd, xr_lsub, xtl_n, xtl_s, xz_i, xz_l, xz_n, xz_r, wb_6_two_0, wb_6_two_1, wb_6_two_2, wb_6_two_4, wb_6_two_5, wb_6_two_6, ss_6_two, zz_b, zz_bn, Classical.not_not, true_and, Nat.reduceAdd, Nat.reduceLeDiff, sp_5_areTwoDrums, sp_6_areTwo, sp_5_isWithin, sp_6_in, sp_5_finding, sp_6_finds, c1, c1b, true_implies, false_implies, implies_true, not_true_eq_false, not_false_eq_true, and_true, false_and, and_false, if_true, if_false, Int.reduceEq, Int.reduceSub, Int.reduceAdd, Int.reduceMul, Int.reduceNeg, Int.reduceLT, Int.reduceLE, Int.add_zero]
    exact fnd h 0 (by omega) (by omega)
/-- when an order that is passed on is there -/
def bgF (a : Nat → Int → Int) (i : Nat → Int) (x : Int) : Nat → Int
  | 0 => 0
  | r + 1 => bgF a i x r + (if x = 0 ∨ bnF a i ((r : Int) + 1) = true then a 2 5 + lagF (a 2 1) (a 2 2) (a 4 r) (a 4 ((r : Int) + 1)) else a 2 6)
def vrF (a : Nat → Int → Int) (i : Nat → Int) (x : Int) (r : Int) : Int := if x = 1 then beF a i r else bgF a i x r.toNat
theorem bgF_bd (hc : colN a i) {x : Int} : ∀ m : Nat, (m : Int) < i 0 → 0 ≤ bgF a i x m ∧ bgF a i x m ≤ 5000000 * m
  | 0, _ => by simp only [bgF]; omega
  | m + 1, hm => by
    have q := bgF_bd hc (x := x) m (by omega)
    obtain ⟨⟨p1, p2⟩, ⟨s1, s2⟩, ⟨v1, v2⟩, ⟨n1, n2⟩, ⟨o1, o2⟩, ⟨d1, d2⟩, ⟨e1, e2⟩, ⟨k1, k2⟩, hr, ⟨m1, m2⟩, hd, ⟨b1, b2⟩, hb, hs, hz⟩ := id hc
    obtain ⟨-, ⟨r1, r2⟩, -⟩ := hr m (by omega) (by omega)
    obtain ⟨-, ⟨r3, r4⟩, -⟩ := hr ((m : Int) + 1) (by omega) (by omega)
    have ql := lagF_bd s1 s2 v1 v2 r1 (by omega) r3 (by omega)
    unfold bgF
    split <;> omega
theorem vrF_bd (hc : colN a i) {x : Int} (h0 : 0 ≤ r) (h1 : r < i 0) : vrF a i x r = -2000000000 ∨ (-999 ≤ vrF a i x r ∧ vrF a i x r ≤ 120000000) := by
  have hk := k24 hc
  have q1 := beF_bd hc h0 h1
  have q2 := bgF_bd hc (x := x) r.toNat (by omega)
  unfold vrF
  split <;> omega
theorem sp_0_passedByMouth (hc : colN a i) (h0 : 0 < r) (h1 : r < i 0) : s_0_passedByMouth [.inr (.inr 1), .inl r] (HH n xs w a i) Q = Q (some (.inl (a 2 5 + lagF (a 2 1) (a 2 2) (a 4 (r - 1)) (a 4 r)))) (HH n xs w a i) := by
  obtain ⟨⟨p1, p2⟩, ⟨s1, s2⟩, ⟨v1, v2⟩, ⟨n1, n2⟩, ⟨o1, o2⟩, ⟨d1, d2⟩, ⟨e1, e2⟩, ⟨k1, k2⟩, hr, ⟨m1, m2⟩, hd, ⟨b1, b2⟩, hb, hs, hz⟩ := id hc
  obtain ⟨-, ⟨r1, r2⟩, -⟩ := hr r (by omega) h1
  obtain ⟨-, ⟨r3, r4⟩, -⟩ := hr (r - 1) (by omega) (by omega)
  have c1 : ¬ r ≤ 0 := by omega
  simp (disch := first | assumption | omega | exact zc_lo | exact zc_hi | exact zz_l | exact zz_u | exact zz_r) only [xa_2, xa_4, xc_3 gc_0_passedByMouth_0, xl_aload0, xl_iload1, xm_f, xm_n, xm_t, xn_1, xo_1_0, xo_1_3, xr_goto, xr_iadd, xr_iconst, xr_if_le, xr_iret, xr_isub, xtl_n, xtl_s, xz_i, xz_l, xz_n, xz_r, wb_0_passedByMouth_0, wb_0_passedByMouth_1, wb_0_passedByMouth_2, ss_0_passedByMouth_1, ss_0_passedByMouth_14, zz_b, zz_bn, Classical.not_not, true_and, Nat.reduceAdd, Nat.reduceLeDiff, sp_0_lagBetween, c1, true_implies, false_implies, implies_true, not_true_eq_false, not_false_eq_true, and_true, false_and, and_false, if_true, if_false, Int.reduceEq, Int.reduceSub, Int.reduceAdd, Int.reduceMul, Int.reduceNeg, Int.reduceLT, Int.reduceLE, Int.add_zero]
theorem sp_5_tellBeginnings (hc : colN a i) (hF : Fr a i p q w2 a2 i2) {x : Int} (hx : 0 ≤ x ∧ x ≤ 2) : (∀ a3, Fr a i p q w2 a3 i2 → (∀ r, 0 ≤ r → r < i 0 → a3 51 r = vrF a i x r) → Q none (HH n xs w2 a3 i2)) → s_5_tellBeginnings [.inr (.inr 0), .inl x] (HH n xs w2 a2 i2) Q := by
  intro hQ
  have hk := k24 hc
  obtain ⟨m, hm⟩ := nat_of hk.1
  have K0 := Fr_kE hF 0 (by omega)
  simp (disch := first | assumption | omega | exact zc_lo | exact zc_hi | exact zz_l | exact zz_u | exact zz_r) only [xa_2, xa_51, xc_2 gc_5_tellBeginnings_0, xc_2 gc_5_tellBeginnings_1, xc_2 gc_5_tellBeginnings_2, xl_aload0, xl_iinc2a, xl_iinc2i, xl_iinc2n, xl_iload1, xl_iload2, xl_iload3, xl_iload4, xl_istore2a, xl_istore2i, xl_istore2n, xl_istore3a, xl_istore3i, xl_istore3n, xl_istore4a, xl_istore4i, xl_istore4n, xm_f, xm_n, xm_t, xn_10, xn_2, xn_3, xn_4, xn_5, xn_7, xo_0_0, xo_0_9, xo_1_0, xo_1_1, xr_goto, xr_iadd, xr_ic_ge, xr_ic_ne, xr_iconst, xr_if_eq, xr_if_ne, xr_isub, xr_vret, xs_2, xs_51, xtl_n, xtl_s, xz_i, xz_l, xz_n, xz_r, wb_5_tellBeginnings_0, wb_5_tellBeginnings_2, wb_5_tellBeginnings_3, wb_5_tellBeginnings_4, wb_5_tellBeginnings_5, wb_5_tellBeginnings_6, wb_5_tellBeginnings_7, wb_5_tellBeginnings_8, wb_5_tellBeginnings_9, wb_5_tellBeginnings_10, ss_5_tellBeginnings, zz_b, zz_bn, Classical.not_not, true_and, Nat.reduceAdd, Nat.reduceLeDiff, true_implies, false_implies, implies_true, not_true_eq_false, not_false_eq_true, and_true, false_and, and_false, if_true, if_false, Int.reduceEq, Int.reduceSub, Int.reduceAdd, Int.reduceMul, Int.reduceNeg, Int.reduceLT, Int.reduceLE, Int.add_zero]
  refine lp_up (m := m) (P := fun d => ∀ a3 l3 l4, Fr a i p q w2 a3 i2 → (∀ r : Int, 0 ≤ r → r < d → a3 51 r = vrF a i x r) → dk_WP g_5_tellBeginnings b_5_tellBeginnings Q 1 [some (.inr (.inr 0)), some (.inl x), some (.inl d), l3, l4] [] (HH n xs w2 a3 i2)) ?_ ?_ 0 (Nat.zero_le _) a2 none none hF (fun r z1 z2 => by omega)
  · intro a3 l3 l4 hF3 hv
    rw [wb_5_tellBeginnings_1]
    simp (disch := first | assumption | omega | exact zc_lo | exact zc_hi | exact zz_l | exact zz_u | exact zz_r) only [xa_2, xa_51, xc_2 gc_5_tellBeginnings_0, xc_2 gc_5_tellBeginnings_1, xc_2 gc_5_tellBeginnings_2, xl_aload0, xl_iinc2a, xl_iinc2i, xl_iinc2n, xl_iload1, xl_iload2, xl_iload3, xl_iload4, xl_istore2a, xl_istore2i, xl_istore2n, xl_istore3a, xl_istore3i, xl_istore3n, xl_istore4a, xl_istore4i, xl_istore4n, xm_f, xm_n, xm_t, xn_10, xn_2, xn_3, xn_4, xn_5, xn_7, xo_0_0, xo_0_9, xo_1_0, xo_1_1, xr_goto, xr_iadd, xr_ic_ge, xr_ic_ne, xr_iconst, xr_if_eq, xr_if_ne, xr_isub, xr_vret, xs_2, xs_51, xtl_n, xtl_s, xz_i, xz_l, xz_n, xz_r, wb_5_tellBeginnings_0, wb_5_tellBeginnings_2, wb_5_tellBeginnings_3, wb_5_tellBeginnings_4, wb_5_tellBeginnings_5, wb_5_tellBeginnings_6, wb_5_tellBeginnings_7, wb_5_tellBeginnings_8, wb_5_tellBeginnings_9, wb_5_tellBeginnings_10, zz_b, zz_bn, Classical.not_not, true_and, Nat.reduceAdd, Nat.reduceLeDiff, K0]
    exact ⟨fun _ => hQ a3 hF3 (fun r z1 z2 => hv r z1 (by omega)), fun z => absurd (by omega) z⟩
  · intro d hdm ih a3 l3 l4 hF3 hv
    have hc3 := colN_E (Fr_cE hF3) (Fr_kE hF3) hc
    have d1 : (d : Int) < i2 0 := by omega
    have fin : ∀ (y : Int) l3 l4, y = vrF a i x d → dk_WP g_5_tellBeginnings b_5_tellBeginnings Q 1 [some (.inr (.inr 0)), some (.inl x), some (.inl ((d : Int) + 1)), l3, l4] [] (HH n xs w2 (dk_up a3 51 (dk_ui (a3 51) d y)) i2) := by
      intro y l3 l4 hy
      rw [cs d]
      refine ih _ _ _ (Fr_sA hF3 (sA_up (ks := [51]) sA_rf (by simp) _) (by decide)) (fun r z1 z2 => ?_)
      rw [up_s]
      by_cases e : r = d
      · subst e; rw [ui_s]; exact hy
      · rw [ui_n e]; exact hv r z1 (by omega)
    rw [wb_5_tellBeginnings_1]
    by_cases c1 : x = 1
    · simp (disch := first | assumption | omega | exact zc_lo | exact zc_hi | exact zz_l | exact zz_u | exact zz_r) only [xa_2, xa_51, xc_2 gc_5_tellBeginnings_0, xc_2 gc_5_tellBeginnings_1, xc_2 gc_5_tellBeginnings_2, xl_aload0, xl_iinc2a, xl_iinc2i, xl_iinc2n, xl_iload1, xl_iload2, xl_iload3, xl_iload4, xl_istore2a, xl_istore2i, xl_istore2n, xl_istore3a, xl_istore3i, xl_istore3n, xl_istore4a, xl_istore4i, xl_istore4n, xm_f, xm_n, xm_t, xn_10, xn_2, xn_3, xn_4, xn_5, xn_7, xo_0_0, xo_0_9, xo_1_0, xo_1_1, xr_goto, xr_iadd, xr_ic_ge, xr_ic_ne, xr_iconst, xr_if_eq, xr_if_ne, xr_isub, xr_vret, xs_2, xs_51, xtl_n, xtl_s, xz_i, xz_l, xz_n, xz_r, wb_5_tellBeginnings_0, wb_5_tellBeginnings_2, wb_5_tellBeginnings_3, wb_5_tellBeginnings_4, wb_5_tellBeginnings_5, wb_5_tellBeginnings_6, wb_5_tellBeginnings_7, wb_5_tellBeginnings_8, wb_5_tellBeginnings_9, wb_5_tellBeginnings_10, zz_b, zz_bn, Classical.not_not, true_and, Nat.reduceAdd, Nat.reduceLeDiff, K0]
      refine ⟨fun z => absurd z (by omega), fun _ => ⟨fun z => absurd c1 z, fun _ => ?_⟩⟩
      refine sp_0_beatFor hc3 (by omega) d1 ?_
      simp (disch := first | assumption | omega | exact zc_lo | exact zc_hi | exact zz_l | exact zz_u | exact zz_r) only [xa_2, xa_51, xc_2 gc_5_tellBeginnings_0, xc_2 gc_5_tellBeginnings_1, xc_2 gc_5_tellBeginnings_2, xl_aload0, xl_iinc2a, xl_iinc2i, xl_iinc2n, xl_iload1, xl_iload2, xl_iload3, xl_iload4, xl_istore2a, xl_istore2i, xl_istore2n, xl_istore3a, xl_istore3i, xl_istore3n, xl_istore4a, xl_istore4i, xl_istore4n, xm_f, xm_n, xm_t, xn_10, xn_2, xn_3, xn_4, xn_5, xn_7, xo_0_0, xo_0_9, xo_1_0, xo_1_1, xr_goto, xr_iadd, xr_ic_ge, xr_ic_ne, xr_iconst, xr_if_eq, xr_if_ne, xr_isub, xr_vret, xs_2, xs_51, xtl_n, xtl_s, xz_i, xz_l, xz_n, xz_r, wb_5_tellBeginnings_0, wb_5_tellBeginnings_2, wb_5_tellBeginnings_3, wb_5_tellBeginnings_4, wb_5_tellBeginnings_5, wb_5_tellBeginnings_6, wb_5_tellBeginnings_7, wb_5_tellBeginnings_8, wb_5_tellBeginnings_9, wb_5_tellBeginnings_10, zz_b, zz_bn, Classical.not_not, true_and, Nat.reduceAdd, Nat.reduceLeDiff]
      refine fin _ _ _ ?_
      rw [beF_E (Fr_cE hF3) (Fr_kE hF3)]
      unfold vrF
      rw [if_pos c1]
    · by_cases c2 : (d : Int) = 0
      · simp (disch := first | assumption | omega | exact zc_lo | exact zc_hi | exact zz_l | exact zz_u | exact zz_r) only [xa_2, xa_51, xc_2 gc_5_tellBeginnings_0, xc_2 gc_5_tellBeginnings_1, xc_2 gc_5_tellBeginnings_2, xl_aload0, xl_iinc2a, xl_iinc2i, xl_iinc2n, xl_iload1, xl_iload2, xl_iload3, xl_iload4, xl_istore2a, xl_istore2i, xl_istore2n, xl_istore3a, xl_istore3i, xl_istore3n, xl_istore4a, xl_istore4i, xl_istore4n, xm_f, xm_n, xm_t, xn_10, xn_2, xn_3, xn_4, xn_5, xn_7, xo_0_0, xo_0_9, xo_1_0, xo_1_1, xr_goto, xr_iadd, xr_ic_ge, xr_ic_ne, xr_iconst, xr_if_eq, xr_if_ne, xr_isub, xr_vret, xs_2, xs_51, xtl_n, xtl_s, xz_i, xz_l, xz_n, xz_r, wb_5_tellBeginnings_0, wb_5_tellBeginnings_2, wb_5_tellBeginnings_3, wb_5_tellBeginnings_4, wb_5_tellBeginnings_5, wb_5_tellBeginnings_6, wb_5_tellBeginnings_7, wb_5_tellBeginnings_8, wb_5_tellBeginnings_9, wb_5_tellBeginnings_10, zz_b, zz_bn, Classical.not_not, true_and, Nat.reduceAdd, Nat.reduceLeDiff, K0]
        refine ⟨fun z => absurd z (by omega), fun _ => ⟨fun _ => ⟨fun z => absurd c2 z, fun _ => ?_⟩, fun z => absurd z c1⟩⟩
        refine fin _ _ _ ?_
        unfold vrF
        rw [if_neg c1, show (d : Int).toNat = 0 by omega]
        rfl
      · obtain ⟨e, rfl⟩ : ∃ e, d = e + 1 := ⟨d - 1, by omega⟩
        have e1 : ((e + 1 : Nat) : Int) - 1 = e := by omega
        have hve := hv e (by omega) (by omega)
        have vb := vrF_bd hc (x := x) (r := e) (by omega) (by omega)
        have hve2 : a3 51 (((e + 1 : Nat) : Int) - 1) = bgF a i x e := by
          rw [e1, hve]
          unfold vrF
          rw [if_neg c1, show (e : Int).toNat = e by omega]
        have hve3 : a3 51 e = bgF a i x e := by rw [← hve2, e1]
        have hb := bgF_bd hc (x := x) e (by omega)
        have E2 := Fr_cE hF3 2 (by omega) (by omega)
        have E4 := Fr_cE hF3 4 (by omega) (by omega)
        have nxt : vrF a i x ((e + 1 : Nat) : Int) = bgF a i x e + (if x = 0 ∨ bnF a i ((e : Int) + 1) = true then a 2 5 + lagF (a 2 1) (a 2 2) (a 4 e) (a 4 ((e : Int) + 1)) else a 2 6) := by
          unfold vrF
          rw [if_neg c1, show ((e + 1 : Nat) : Int).toNat = e + 1 by omega]
          rfl
        have hbd := bgF_bd hc (x := x) (e + 1) (by omega)
        -- by mouth, by hand
        have mouth : (x = 0 ∨ bnF a i ((e : Int) + 1) = true) → ∀ l3 l4, dk_WP g_5_tellBeginnings b_5_tellBeginnings Q 6 [some (.inr (.inr 0)), some (.inl x), some (.inl ((e + 1 : Nat) : Int)), l3, l4] [.inl 1] (HH n xs w2 a3 i2) := by
          intro hz l3 l4
          simp (disch := first | assumption | omega | exact zc_lo | exact zc_hi | exact zz_l | exact zz_u | exact zz_r) only [xa_2, xa_51, xc_2 gc_5_tellBeginnings_0, xc_2 gc_5_tellBeginnings_1, xc_2 gc_5_tellBeginnings_2, xl_aload0, xl_iinc2a, xl_iinc2i, xl_iinc2n, xl_iload1, xl_iload2, xl_iload3, xl_iload4, xl_istore2a, xl_istore2i, xl_istore2n, xl_istore3a, xl_istore3i, xl_istore3n, xl_istore4a, xl_istore4i, xl_istore4n, xm_f, xm_n, xm_t, xn_10, xn_2, xn_3, xn_4, xn_5, xn_7, xo_0_0, xo_0_9, xo_1_0, xo_1_1, xr_goto, xr_iadd, xr_ic_ge, xr_ic_ne, xr_iconst, xr_if_eq, xr_if_ne, xr_isub, xr_vret, xs_2, xs_51, xtl_n, xtl_s, xz_i, xz_l, xz_n, xz_r, wb_5_tellBeginnings_0, wb_5_tellBeginnings_2, wb_5_tellBeginnings_3, wb_5_tellBeginnings_4, wb_5_tellBeginnings_5, wb_5_tellBeginnings_6, wb_5_tellBeginnings_7, wb_5_tellBeginnings_8, wb_5_tellBeginnings_9, wb_5_tellBeginnings_10, zz_b, zz_bn, Classical.not_not, true_and, Nat.reduceAdd, Nat.reduceLeDiff, sp_0_passedByMouth hc3 (show 0 < ((e + 1 : Nat) : Int) by omega) d1, hve3, E2, E4, e1, true_implies, false_implies, implies_true, not_true_eq_false, not_false_eq_true, and_true, false_and, and_false, if_true, if_false, Int.reduceEq, Int.reduceSub, Int.reduceAdd, Int.reduceMul, Int.reduceNeg, Int.reduceLT, Int.reduceLE, Int.add_zero]
          refine fin _ _ _ ?_
          rw [nxt, if_pos hz, ← cs e]
        have hand : ¬ (x = 0 ∨ bnF a i ((e : Int) + 1) = true) → ∀ l3 l4, dk_WP g_5_tellBeginnings b_5_tellBeginnings Q 6 [some (.inr (.inr 0)), some (.inl x), some (.inl ((e + 1 : Nat) : Int)), l3, l4] [.inl 0] (HH n xs w2 a3 i2) := by
          intro hz l3 l4
          simp (disch := first | assumption | omega | exact zc_lo | exact zc_hi | exact zz_l | exact zz_u | exact zz_r) only [xa_2, xa_51, xc_2 gc_5_tellBeginnings_0, xc_2 gc_5_tellBeginnings_1, xc_2 gc_5_tellBeginnings_2, xl_aload0, xl_iinc2a, xl_iinc2i, xl_iinc2n, xl_iload1, xl_iload2, xl_iload3, xl_iload4, xl_istore2a, xl_istore2i, xl_istore2n, xl_istore3a, xl_istore3i, xl_istore3n, xl_istore4a, xl_istore4i, xl_istore4n, xm_f, xm_n, xm_t, xn_10, xn_2, xn_3, xn_4, xn_5, xn_7, xo_0_0, xo_0_9, xo_1_0, xo_1_1, xr_goto, xr_iadd, xr_ic_ge, xr_ic_ne, xr_iconst, xr_if_eq, xr_if_ne, xr_isub, xr_vret, xs_2, xs_51, xtl_n, xtl_s, xz_i, xz_l, xz_n, xz_r, wb_5_tellBeginnings_0, wb_5_tellBeginnings_2, wb_5_tellBeginnings_3, wb_5_tellBeginnings_4, wb_5_tellBeginnings_5, wb_5_tellBeginnings_6, wb_5_tellBeginnings_7, wb_5_tellBeginnings_8, wb_5_tellBeginnings_9, wb_5_tellBeginnings_10, zz_b, zz_bn, Classical.not_not, true_and, Nat.reduceAdd, Nat.reduceLeDiff, hve2, E2, eq_self, true_implies, false_implies, implies_true, not_true_eq_false, not_false_eq_true, and_true, false_and, and_false, if_true, if_false, Int.reduceEq, Int.reduceSub, Int.reduceAdd, Int.reduceMul, Int.reduceNeg, Int.reduceLT, Int.reduceLE, Int.add_zero]
          refine fin _ _ _ ?_
          rw [nxt, if_neg hz]
        simp (disch := first | assumption | omega | exact zc_lo | exact zc_hi | exact zz_l | exact zz_u | exact zz_r) only [xa_2, xa_51, xc_2 gc_5_tellBeginnings_0, xc_2 gc_5_tellBeginnings_1, xc_2 gc_5_tellBeginnings_2, xl_aload0, xl_iinc2a, xl_iinc2i, xl_iinc2n, xl_iload1, xl_iload2, xl_iload3, xl_iload4, xl_istore2a, xl_istore2i, xl_istore2n, xl_istore3a, xl_istore3i, xl_istore3n, xl_istore4a, xl_istore4i, xl_istore4n, xm_f, xm_n, xm_t, xn_10, xn_2, xn_3, xn_4, xn_5, xn_7, xo_0_0, xo_0_9, xo_1_0, xo_1_1, xr_goto, xr_iadd, xr_ic_ge, xr_ic_ne, xr_iconst, xr_if_eq, xr_if_ne, xr_isub, xr_vret, xs_2, xs_51, xtl_n, xtl_s, xz_i, xz_l, xz_n, xz_r, zz_b, zz_bn, Classical.not_not, true_and, Nat.reduceAdd, Nat.reduceLeDiff, K0, wb_5_tellBeginnings_2, wb_5_tellBeginnings_3, wb_5_tellBeginnings_4, wb_5_tellBeginnings_5]
        refine ⟨fun z => absurd z (by omega), fun _ => ⟨fun _ => ⟨fun _ => ⟨fun z => mouth (Or.inl z) _ _, fun z => ?_⟩, fun z => absurd z c2⟩, fun z => absurd z c1⟩⟩
        refine sp_0_isBehindBend hc3 (by omega) d1 ?_
        rw [bnF_E (Fr_cE hF3) (Fr_kE hF3), ← cs e]
        simp (disch := first | assumption | omega | exact zc_lo | exact zc_hi | exact zz_l | exact zz_u | exact zz_r) only [xa_2, xa_51, xc_2 gc_5_tellBeginnings_0, xc_2 gc_5_tellBeginnings_1, xc_2 gc_5_tellBeginnings_2, xl_aload0, xl_iinc2a, xl_iinc2i, xl_iinc2n, xl_iload1, xl_iload2, xl_iload3, xl_iload4, xl_istore2a, xl_istore2i, xl_istore2n, xl_istore3a, xl_istore3i, xl_istore3n, xl_istore4a, xl_istore4i, xl_istore4n, xm_f, xm_n, xm_t, xn_10, xn_2, xn_3, xn_4, xn_5, xn_7, xo_0_0, xo_0_9, xo_1_0, xo_1_1, xr_goto, xr_iadd, xr_ic_ge, xr_ic_ne, xr_iconst, xr_if_eq, xr_if_ne, xr_isub, xr_vret, xs_2, xs_51, xtl_n, xtl_s, xz_i, xz_l, xz_n, xz_r, zz_b, zz_bn, Classical.not_not, true_and, Nat.reduceAdd, Nat.reduceLeDiff, wb_5_tellBeginnings_4, wb_5_tellBeginnings_5]
        refine ⟨fun z2 => ?_, fun z2 => ?_⟩
        · exact hand (fun q => by rcases q with q | q; exact z q; exact absurd q z2) _ _
        · exact mouth (Or.inr z2) _ _
end OR1
