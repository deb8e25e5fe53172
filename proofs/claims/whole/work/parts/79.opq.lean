/-! CALLS OF BOTH: who is opposite, two drums, orders -/
def opP (l p : Int) : Prop := p ≤ 4 * ab (wr l p)
/-- THE DRUM of a rank -/
def dF (a : Nat → Int → Int) (i : Nat → Int) (r : Int) : Int := (drF (a 9) (a 10) (a 4 r) (i 1).toNat).1
def lgF (a : Nat → Int → Int) (d r : Int) : Int := lagF (a 2 1) (a 2 2) (a 9 d) (a 4 r)
section OQ1
variable {N : Int} {n : Nat} {xs : Int → Int} {w : Nat → Nat} {a : Nat → Int → Int} {i : Nat → Int} {Q : dk_Q} {p q : Int → Int} {w2 : Nat → Nat} {a2 : Nat → Int → Int} {i2 : Nat → Int} {t : Nat} {r : Int}
theorem wr_2 (x : Int) {p : Int} (h1 : 100 ≤ p) (h2 : p ≤ 2000) : 0 ≤ ab (wr x p) ∧ ab (wr x p) ≤ 1000 := by
  have q := wr_bd x (show 0 < p by omega)
  exact ab_bd (by omega) (by omega)
theorem sp_5_isOpposite {h : dk_H} {l c : Int} (h1 : -2147483648 ≤ l) (h2 : l ≤ 2147483647) (h3 : 100 ≤ c) (h4 : c ≤ 2000) : (opP l c → Q (some (.inl 1)) h) → (¬ opP l c → Q (some (.inl 0)) h) → s_5_isOpposite [.inl l, .inl c] h Q := by
  intro hQ hQ2
  have q := wr_bd l (show 0 < c by omega)
  have q2 := wr_2 l h3 h4
  unfold opP at hQ hQ2
  simp (disch := first | assumption | omega | exact zc_lo | exact zc_hi | exact zz_l | exact zz_u | exact zz_r) only [xc_1 gc_5_isOpposite_1, xc_2 gc_5_isOpposite_0, xl_iload0, xl_iload1, xm_f, xm_n, xm_t, xn_1, xr_goto, xr_ic_lt, xr_iconst, xr_imul, xr_zret, xtl_n, xtl_s, xz_i, xz_l, xz_n, xz_r, wb_5_isOpposite_0, wb_5_isOpposite_1, wb_5_isOpposite_2, ss_5_isOpposite, zz_b, zz_bn, Classical.not_not, true_and, Nat.reduceAdd, Nat.reduceLeDiff, sp_5_wrapped, sp_8_abs]
  exact ⟨fun z => hQ2 (by omega), fun z => hQ (by omega)⟩
theorem sp_6_isOpposite {l c : Int} (h1 : -2147483648 ≤ l) (h2 : l ≤ 2147483647) (h3 : 100 ≤ c) (h4 : c ≤ 2000) : (opP l c → Q (some (.inl 1)) (HH n xs w a i)) → (¬ opP l c → Q (some (.inl 0)) (HH n xs w a i)) → s_6_isOpposite [.inr (.inr 53), .inl l, .inl c] (HH n xs w a i) Q := by
  intro hQ hQ2
  have q := wr_bd l (show 0 < c by omega)
  have q2 := wr_2 l h3 h4
  unfold opP at hQ hQ2
  simp (disch := first | assumption | omega | exact zc_lo | exact zc_hi | exact zz_l | exact zz_u | exact zz_r) only [xc_1 gc_6_isOpposite_1, xc_2 gc_6_isOpposite_0, xl_iload1, xl_iload2, xm_f, xm_n, xm_t, xn_1, xr_goto, xr_i2l, xr_ic_lt, xr_iconst, xr_imul, xr_zret, xtl_n, xtl_s, xz_i, xz_l, xz_n, xz_r, wb_6_isOpposite_0, wb_6_isOpposite_1, wb_6_isOpposite_2, ss_6_isOpposite, zz_b, zz_bn, Classical.not_not, true_and, Nat.reduceAdd, Nat.reduceLeDiff, sp_6_wrappedBy, sp_6_size]
  exact ⟨fun z => hQ2 (by omega), fun z => hQ (by omega)⟩
theorem dF_b (hc : colN a i) (h0 : 0 ≤ r) (h1 : r < i 0) : -1 ≤ dF a i r ∧ dF a i r < i 1 := by
  obtain ⟨⟨p1, p2⟩, ⟨s1, s2⟩, ⟨v1, v2⟩, ⟨n1, n2⟩, ⟨o1, o2⟩, ⟨d1, d2⟩, ⟨e1, e2⟩, ⟨k1, k2⟩, hr, ⟨m1, m2⟩, hd, ⟨b1, b2⟩, hb, hs, hz⟩ := id hc
  have q := drF_bd (da := a 9) (dl := a 10) (x := a 4 r) (i 1).toNat (fun j h1 h2 => (hd j h1 (by omega)).2.1.2)
  unfold dF
  omega
theorem lgF_b (hc : colN a i) (h0 : 0 ≤ r) (h1 : r < i 0) {d : Int} (hd0 : 0 ≤ d) (hd1 : d < i 1) : 0 ≤ lgF a d r ∧ lgF a d r ≤ 4999000 := by
  obtain ⟨⟨p1, p2⟩, ⟨s1, s2⟩, ⟨v1, v2⟩, ⟨n1, n2⟩, ⟨o1, o2⟩, ⟨d1, d2⟩, ⟨e1, e2⟩, ⟨k1, k2⟩, hr, ⟨m1, m2⟩, hd, ⟨b1, b2⟩, hb, hs, hz⟩ := id hc
  obtain ⟨-, ⟨r1, r2⟩, -⟩ := hr r h0 h1
  obtain ⟨⟨g1, g2⟩, ⟨g3, g4⟩, g5⟩ := hd d hd0 hd1
  exact lagF_bd s1 s2 v1 v2 g1 g2 r1 (by omega)
theorem sp_mdr (hc : colN a i) (hag : agr a i (mv a) (mi i)) (hF : Fr a i p q w2 a2 i2) (h0 : 0 ≤ r) (h1 : r < i 0) : Q (some (.inl (dF a i r))) (HH n xs w2 a2 i2) → s_6_drumFor [.inr (.inr 53), .inl r] (HH n xs w2 a2 i2) Q := by
  intro hQ
  obtain ⟨hm1, hm2, hm3, hm4, hm5⟩ := Fr_m hc hag hF
  refine sp_6_drumFor hm1 h0 (by rw [hm3]; exact h1) ?_
  have e : i2 31 = mi i 1 := Fr_mi hF 1 (by omega)
  rw [e, Fr_mv hF, drm_A hag h0 h1 hc.2.2.2.2.2.2.2.2.2.1.1]
  exact hQ
theorem Fr_drm (hag : agr a i (mv a) (mi i)) (hF : Fr a i p q w2 a2 i2) {d : Int} (h0 : 0 ≤ d) (h1 : d < i 1) : a2 59 (3 * d) = a 9 d ∧ a2 59 (3 * d + 1) = a 10 d ∧ a2 59 (3 * d + 2) = a 11 d := by
  rw [hF.2.2.1 59 (by decide)]
  exact hag.2.2.2.1 d h0 h1
theorem op_opposite (h : Inv N w a i) (x1 : -2147483648 ≤ r) (x2 : r ≤ 2147483647) : s_5_opposite [.inr (.inr 0), .inl r] (HH n xs w a i) (fun r2 h => s_6_opposite [.inr (.inr 53), .inl r] h (OPQ n xs N r2)) := by
  have hF := Fr_rf h
  have hc := h.2.1
  have hag := h.2.2.1
  have hmc := colN_A hag hc
  obtain ⟨⟨p1, p2⟩, ⟨s1, s2⟩, ⟨v1, v2⟩, ⟨n1, n2⟩, ⟨o1, o2⟩, ⟨d1, d2⟩, ⟨e1, e2⟩, ⟨k1, k2⟩, hr, ⟨m1, m2⟩, hd, ⟨b1, b2⟩, hb, hs, hz⟩ := id hc
  obtain ⟨hkE, hA2, hA3, hA4, hA5, hA6⟩ := id hag
  have K0 : i 30 = i 0 := hkE 0 (by omega)
  have K1 : i 31 = i 1 := hkE 1 (by omega)
  have K2 : i 32 = i 2 := hkE 2 (by omega)
  have K3 : i 33 = i 3 := hkE 3 (by omega)
  have R0 : a 54 0 = a 2 0 := hA2 0 (by omega) (by omega)
  have R1 : a 54 1 = a 2 1 := hA2 1 (by omega) (by omega)
  have R2 : a 54 2 = a 2 2 := hA2 2 (by omega) (by omega)
  have R3 : a 54 3 = a 2 3 := hA2 3 (by omega) (by omega)
  have R4 : a 54 4 = a 2 4 := hA2 4 (by omega) (by omega)
  have R5 : a 54 5 = a 2 5 := hA2 5 (by omega) (by omega)
  have R6 : a 54 6 = a 2 6 := hA2 6 (by omega) (by omega)
  by_cases c1 : 0 ≤ r ∧ r < i 0
  · have c3 : 0 ≤ r ∧ r ≤ i 30 - 1 := by omega
    have db := dF_b hc c1.1 c1.2
    obtain ⟨-, ⟨r1, r2⟩, -⟩ := hr r c1.1 c1.2
    have t1 := (Fr_its hag hF c1.1 c1.2).2.1
    simp (disch := first | assumption | omega | exact zc_lo | exact zc_hi | exact zz_l | exact zz_u | exact zz_r) only [xa_2, xc_2 gc_5_opposite_0, xc_2 gc_5_opposite_1, xc_2 gc_5_opposite_2, xc_2 gc_5_opposite_4, xc_3 gc_5_opposite_3, xl_aload0, xl_iload1, xl_iload2, xl_istore2a, xl_istore2i, xl_istore2n, xm_f, xm_n, xm_t, xn_1, xn_2, xn_3, xo_0_0, xo_1_0, xr_goto, xr_ic_ne, xr_iconst, xr_if_eq, xr_if_ne, xr_iret, xtl_n, xtl_s, xz_i, xz_l, xz_n, xz_r, wb_5_opposite_0, wb_5_opposite_1, wb_5_opposite_2, wb_5_opposite_3, wb_5_opposite_4, ss_5_opposite, zz_b, zz_bn, Classical.not_not, true_and, Nat.reduceAdd, Nat.reduceLeDiff, sp_0_hasRank, c1, true_implies, false_implies, implies_true, not_true_eq_false, not_false_eq_true, and_true, false_and, and_false, if_true, if_false, Int.reduceEq, Int.reduceSub, Int.reduceAdd, Int.reduceMul, Int.reduceNeg, Int.reduceLT, Int.reduceLE, Int.add_zero]
    refine sp_0_drumFor hc c1.1 c1.2 ?_
    rw [show (drF (a 9) (a 10) (a 4 r) (i 1).toNat).1 = dF a i r from rfl]
    by_cases c4 : dF a i r = -1
    · rw [c4]
      simp (disch := first | assumption | omega | exact zc_lo | exact zc_hi | exact zz_l | exact zz_u | exact zz_r) only [xa_2, xc_2 gc_5_opposite_0, xc_2 gc_5_opposite_1, xc_2 gc_5_opposite_2, xc_2 gc_5_opposite_4, xc_3 gc_5_opposite_3, xl_aload0, xl_iload1, xl_iload2, xl_istore2a, xl_istore2i, xl_istore2n, xm_f, xm_n, xm_t, xn_1, xn_2, xn_3, xo_0_0, xo_1_0, xr_goto, xr_ic_ne, xr_iconst, xr_if_eq, xr_if_ne, xr_iret, xtl_n, xtl_s, xz_i, xz_l, xz_n, xz_r, wb_5_opposite_0, wb_5_opposite_1, wb_5_opposite_2, wb_5_opposite_3, wb_5_opposite_4, xa_54, xa_59, xc_2 gc_6_opposite_0, xc_2 gc_6_opposite_1, xc_2 gc_6_opposite_2, xc_3 gc_6_opposite_3, xc_3 gc_6_opposite_4, xc_3 gc_6_opposite_5, xl_aload0, xl_iload1, xl_iload2, xl_istore2a, xl_istore2i, xl_istore2n, xm_f, xm_n, xm_t, xn_1, xn_2, xn_3, xo_53_0, xo_53_7, xr_goto, xr_iconst, xr_if_eq, xr_if_ge, xr_if_ne, xr_imul, xr_iret, xtl_n, xtl_s, xz_i, xz_l, xz_n, xz_r, wb_6_opposite_0, wb_6_opposite_1, wb_6_opposite_2, wb_6_opposite_3, wb_6_opposite_4, ss_6_opposite, zz_b, zz_bn, Classical.not_not, true_and, Nat.reduceAdd, Nat.reduceLeDiff, sp_5_finding, eq_self, true_implies, false_implies, implies_true, not_true_eq_false, not_false_eq_true, and_true, false_and, and_false, if_true, if_false, Int.reduceEq, Int.reduceSub, Int.reduceAdd, Int.reduceMul, Int.reduceNeg, Int.reduceLT, Int.reduceLE, Int.add_zero]
      have hF2 : Fr a i (bm (a 52) 3) (a 62) w (dk_up a 52 (dk_ui (a 52) 3 (a 52 3 + 1))) i := ⟨hF.1, hF.2.1, sA_up sA_rf (by decide) _, sI_rf, by rw [up_s]; rfl, up_n (by decide)⟩
      simp (disch := first | assumption | omega | exact zc_lo | exact zc_hi | exact zz_l | exact zz_u | exact zz_r) only [xa_54, xa_59, xc_2 gc_6_opposite_0, xc_2 gc_6_opposite_1, xc_2 gc_6_opposite_2, xc_3 gc_6_opposite_3, xc_3 gc_6_opposite_4, xc_3 gc_6_opposite_5, xl_aload0, xl_iload1, xl_iload2, xl_istore2a, xl_istore2i, xl_istore2n, xm_f, xm_n, xm_t, xn_1, xn_2, xn_3, xo_53_0, xo_53_7, xr_goto, xr_iconst, xr_if_eq, xr_if_ge, xr_if_ne, xr_imul, xr_iret, xtl_n, xtl_s, xz_i, xz_l, xz_n, xz_r, wb_6_opposite_0, wb_6_opposite_1, wb_6_opposite_2, wb_6_opposite_3, wb_6_opposite_4, zz_b, zz_bn, Classical.not_not, true_and, Nat.reduceAdd, Nat.reduceLeDiff, sp_6_isRank, c3, true_implies, false_implies, implies_true, not_true_eq_false, not_false_eq_true, and_true, false_and, and_false, if_true, if_false, Int.reduceEq, Int.reduceSub, Int.reduceAdd, Int.reduceMul, Int.reduceNeg, Int.reduceLT, Int.reduceLE, Int.add_zero]
      refine sp_mdr hc hag hF2 c1.1 c1.2 ?_
      rw [c4]
      simp (disch := first | assumption | omega | exact zc_lo | exact zc_hi | exact zz_l | exact zz_u | exact zz_r) only [xa_54, xa_59, xc_2 gc_6_opposite_0, xc_2 gc_6_opposite_1, xc_2 gc_6_opposite_2, xc_3 gc_6_opposite_3, xc_3 gc_6_opposite_4, xc_3 gc_6_opposite_5, xl_aload0, xl_iload1, xl_iload2, xl_istore2a, xl_istore2i, xl_istore2n, xm_f, xm_n, xm_t, xn_1, xn_2, xn_3, xo_53_0, xo_53_7, xr_goto, xr_iconst, xr_if_eq, xr_if_ge, xr_if_ne, xr_imul, xr_iret, xtl_n, xtl_s, xz_i, xz_l, xz_n, xz_r, wb_6_opposite_0, wb_6_opposite_1, wb_6_opposite_2, wb_6_opposite_3, wb_6_opposite_4, zz_b, zz_bn, Classical.not_not, true_and, Nat.reduceAdd, Nat.reduceLeDiff, sp_6_finds, true_implies, false_implies, implies_true, not_true_eq_false, not_false_eq_true, and_true, false_and, and_false, if_true, if_false, Int.reduceEq, Int.reduceSub, Int.reduceAdd, Int.reduceMul, Int.reduceNeg, Int.reduceLT, Int.reduceLE, Int.add_zero]
      exact fnd h 3 (by omega) (by omega)
    · have d0 : 0 ≤ dF a i r := by omega
      have d1 : dF a i r < i 1 := by omega
      have lb := lgF_b hc c1.1 c1.2 d0 d1
      obtain ⟨f1, f2, f3⟩ := Fr_drm hag hF d0 d1
      obtain ⟨⟨g1, g2⟩, ⟨g3, g4⟩, g5, g6⟩ := hd (dF a i r) d0 d1
      have key : ∀ x : Int, (x = 1 ∧ opP (lgF a (dF a i r) r) (a 2 0)) ∨ (x = 0 ∧ ¬ opP (lgF a (dF a i r) r) (a 2 0)) → s_6_opposite [.inr (.inr 53), .inl r] (HH n xs w a i) (OPQ n xs N (some (.inl x))) := by
        intro x hx
        have c5 : 0 ≤ dF a i r := d0
        simp (disch := first | assumption | omega | exact zc_lo | exact zc_hi | exact zz_l | exact zz_u | exact zz_r) only [xa_54, xa_59, xc_2 gc_6_opposite_0, xc_2 gc_6_opposite_1, xc_2 gc_6_opposite_2, xc_3 gc_6_opposite_3, xc_3 gc_6_opposite_4, xc_3 gc_6_opposite_5, xl_aload0, xl_iload1, xl_iload2, xl_istore2a, xl_istore2i, xl_istore2n, xm_f, xm_n, xm_t, xn_1, xn_2, xn_3, xo_53_0, xo_53_7, xr_goto, xr_iconst, xr_if_eq, xr_if_ge, xr_if_ne, xr_imul, xr_iret, xtl_n, xtl_s, xz_i, xz_l, xz_n, xz_r, wb_6_opposite_0, wb_6_opposite_1, wb_6_opposite_2, wb_6_opposite_3, wb_6_opposite_4, ss_6_opposite, zz_b, zz_bn, Classical.not_not, true_and, Nat.reduceAdd, Nat.reduceLeDiff, sp_6_isRank, c3, true_implies, false_implies, implies_true, not_true_eq_false, not_false_eq_true, and_true, false_and, and_false, if_true, if_false, Int.reduceEq, Int.reduceSub, Int.reduceAdd, Int.reduceMul, Int.reduceNeg, Int.reduceLT, Int.reduceLE, Int.add_zero]
        refine sp_mdr hc hag hF c1.1 c1.2 ?_
        simp (disch := first | assumption | omega | exact zc_lo | exact zc_hi | exact zz_l | exact zz_u | exact zz_r) only [xa_54, xa_59, xc_2 gc_6_opposite_0, xc_2 gc_6_opposite_1, xc_2 gc_6_opposite_2, xc_3 gc_6_opposite_3, xc_3 gc_6_opposite_4, xc_3 gc_6_opposite_5, xl_aload0, xl_iload1, xl_iload2, xl_istore2a, xl_istore2i, xl_istore2n, xm_f, xm_n, xm_t, xn_1, xn_2, xn_3, xo_53_0, xo_53_7, xr_goto, xr_iconst, xr_if_eq, xr_if_ge, xr_if_ne, xr_imul, xr_iret, xtl_n, xtl_s, xz_i, xz_l, xz_n, xz_r, wb_6_opposite_0, wb_6_opposite_1, wb_6_opposite_2, wb_6_opposite_3, wb_6_opposite_4, zz_b, zz_bn, Classical.not_not, true_and, Nat.reduceAdd, Nat.reduceLeDiff, c5, f1, t1, R0, R1, R2, sp_6_its, sp_6_lagOf, true_implies, false_implies, implies_true, not_true_eq_false, not_false_eq_true, and_true, false_and, and_false, if_true, if_false, Int.reduceEq, Int.reduceSub, Int.reduceAdd, Int.reduceMul, Int.reduceNeg, Int.reduceLT, Int.reduceLE, Int.add_zero]
        refine sp_6_isOpposite (by unfold lgF at lb; omega) (by unfold lgF at lb; omega) p1 p2 (fun z => ?_) (fun z => ?_)
        · simp (disch := first | assumption | omega | exact zc_lo | exact zc_hi | exact zz_l | exact zz_u | exact zz_r) only [xa_54, xa_59, xc_2 gc_6_opposite_0, xc_2 gc_6_opposite_1, xc_2 gc_6_opposite_2, xc_3 gc_6_opposite_3, xc_3 gc_6_opposite_4, xc_3 gc_6_opposite_5, xl_aload0, xl_iload1, xl_iload2, xl_istore2a, xl_istore2i, xl_istore2n, xm_f, xm_n, xm_t, xn_1, xn_2, xn_3, xo_53_0, xo_53_7, xr_goto, xr_iconst, xr_if_eq, xr_if_ge, xr_if_ne, xr_imul, xr_iret, xtl_n, xtl_s, xz_i, xz_l, xz_n, xz_r, wb_6_opposite_0, wb_6_opposite_1, wb_6_opposite_2, wb_6_opposite_3, wb_6_opposite_4, zz_b, zz_bn, Classical.not_not, true_and, Nat.reduceAdd, Nat.reduceLeDiff, eq_self, true_implies, false_implies, implies_true, not_true_eq_false, not_false_eq_true, and_true, false_and, and_false, if_true, if_false, Int.reduceEq, Int.reduceSub, Int.reduceAdd, Int.reduceMul, Int.reduceNeg, Int.reduceLT, Int.reduceLE, Int.add_zero]
          rcases hx with ⟨rfl, hx⟩ | ⟨rfl, hx⟩
          · exact OPQ_f h hF (by omega) (by omega)
          · exact absurd z hx
        · simp (disch := first | assumption | omega | exact zc_lo | exact zc_hi | exact zz_l | exact zz_u | exact zz_r) only [xa_54, xa_59, xc_2 gc_6_opposite_0, xc_2 gc_6_opposite_1, xc_2 gc_6_opposite_2, xc_3 gc_6_opposite_3, xc_3 gc_6_opposite_4, xc_3 gc_6_opposite_5, xl_aload0, xl_iload1, xl_iload2, xl_istore2a, xl_istore2i, xl_istore2n, xm_f, xm_n, xm_t, xn_1, xn_2, xn_3, xo_53_0, xo_53_7, xr_goto, xr_iconst, xr_if_eq, xr_if_ge, xr_if_ne, xr_imul, xr_iret, xtl_n, xtl_s, xz_i, xz_l, xz_n, xz_r, wb_6_opposite_0, wb_6_opposite_1, wb_6_opposite_2, wb_6_opposite_3, wb_6_opposite_4, zz_b, zz_bn, Classical.not_not, true_and, Nat.reduceAdd, Nat.reduceLeDiff, eq_self, true_implies, false_implies, implies_true, not_true_eq_false, not_false_eq_true, and_true, false_and, and_false, if_true, if_false, Int.reduceEq, Int.reduceSub, Int.reduceAdd, Int.reduceMul, Int.reduceNeg, Int.reduceLT, Int.reduceLE, Int.add_zero]
          rcases hx with ⟨rfl, hx⟩ | ⟨rfl, hx⟩
          · exact absurd hx z
          · exact OPQ_f h hF (by omega) (by omega)
      simp (disch := first | assumption | omega | exact zc_lo | exact zc_hi | exact zz_l | exact zz_u | exact zz_r) only [xa_2, xc_2 gc_5_opposite_0, xc_2 gc_5_opposite_1, xc_2 gc_5_opposite_2, xc_2 gc_5_opposite_4, xc_3 gc_5_opposite_3, xl_aload0, xl_iload1, xl_iload2, xl_istore2a, xl_istore2i, xl_istore2n, xm_f, xm_n, xm_t, xn_1, xn_2, xn_3, xo_0_0, xo_1_0, xr_goto, xr_ic_ne, xr_iconst, xr_if_eq, xr_if_ne, xr_iret, xtl_n, xtl_s, xz_i, xz_l, xz_n, xz_r, wb_5_opposite_0, wb_5_opposite_1, wb_5_opposite_2, wb_5_opposite_3, wb_5_opposite_4, zz_b, zz_bn, Classical.not_not, true_and, Nat.reduceAdd, Nat.reduceLeDiff, c4, sp_0_lagFromDrum hc c1.1 c1.2 d0 d1, true_implies, false_implies, implies_true, not_true_eq_false, not_false_eq_true, and_true, false_and, and_false, if_true, if_false, Int.reduceEq, Int.reduceSub, Int.reduceAdd, Int.reduceMul, Int.reduceNeg, Int.reduceLT, Int.reduceLE, Int.add_zero]
      refine sp_5_isOpposite (by unfold lgF at lb; omega) (by unfold lgF at lb; omega) p1 p2 (fun z => ?_) (fun z => ?_)
      · simp (disch := first | assumption | omega | exact zc_lo | exact zc_hi | exact zz_l | exact zz_u | exact zz_r) only [xa_2, xc_2 gc_5_opposite_0, xc_2 gc_5_opposite_1, xc_2 gc_5_opposite_2, xc_2 gc_5_opposite_4, xc_3 gc_5_opposite_3, xl_aload0, xl_iload1, xl_iload2, xl_istore2a, xl_istore2i, xl_istore2n, xm_f, xm_n, xm_t, xn_1, xn_2, xn_3, xo_0_0, xo_1_0, xr_goto, xr_ic_ne, xr_iconst, xr_if_eq, xr_if_ne, xr_iret, xtl_n, xtl_s, xz_i, xz_l, xz_n, xz_r, wb_5_opposite_0, wb_5_opposite_1, wb_5_opposite_2, wb_5_opposite_3, wb_5_opposite_4, zz_b, zz_bn, Classical.not_not, true_and, Nat.reduceAdd, Nat.reduceLeDiff, eq_self, true_implies, false_implies, implies_true, not_true_eq_false, not_false_eq_true, and_true, false_and, and_false, if_true, if_false, Int.reduceEq, Int.reduceSub, Int.reduceAdd, Int.reduceMul, Int.reduceNeg, Int.reduceLT, Int.reduceLE, Int.add_zero]
        exact key 1 (Or.inl ⟨rfl, z⟩)
      · simp (disch := first | assumption | omega | exact zc_lo | exact zc_hi | exact zz_l | exact zz_u | exact zz_r) only [xa_2, xc_2 gc_5_opposite_0, xc_2 gc_5_opposite_1, xc_2 gc_5_opposite_2, xc_2 gc_5_opposite_4, xc_3 gc_5_opposite_3, xl_aload0, xl_iload1, xl_iload2, xl_istore2a, xl_istore2i, xl_istore2n, xm_f, xm_n, xm_t, xn_1, xn_2, xn_3, xo_0_0, xo_1_0, xr_goto, xr_ic_ne, xr_iconst, xr_if_eq, xr_if_ne, xr_iret, xtl_n, xtl_s, xz_i, xz_l, xz_n, xz_r, wb_5_opposite_0, wb_5_opposite_1, wb_5_opposite_2, wb_5_opposite_3, wb_5_opposite_4, zz_b, zz_bn, Classical.not_not, true_and, Nat.reduceAdd, Nat.reduceLeDiff, eq_self, true_implies, false_implies, implies_true, not_true_eq_false, not_false_eq_true, and_true, false_and, and_false, if_true, if_false, Int.reduceEq, Int.reduceSub, Int.reduceAdd, Int.reduceMul, Int.reduceNeg, Int.reduceLT, Int.reduceLE, Int.add_zero]
        exact key 0 (Or.inr ⟨rfl, z⟩)
  · have c3 : ¬ (0 ≤ r ∧ r ≤ i 30 - 1) := by omega
    simp (disch := first | assumption | omega | exact zc_lo | exact zc_hi | exact zz_l | exact zz_u | exact zz_r) only [xa_2, xc_2 gc_5_opposite_0, xc_2 gc_5_opposite_1, xc_2 gc_5_opposite_2, xc_2 gc_5_opposite_4, xc_3 gc_5_opposite_3, xl_aload0, xl_iload1, xl_iload2, xl_istore2a, xl_istore2i, xl_istore2n, xm_f, xm_n, xm_t, xn_1, xn_2, xn_3, xo_0_0, xo_1_0, xr_goto, xr_ic_ne, xr_iconst, xr_if_eq, xr_if_ne, xr_iret, xtl_n, xtl_s, xz_i, xz_l, xz_n, xz_r, wb_5_opposite_0, wb_5_opposite_1, wb_5_opposite_2, wb_5_opposite_3, wb_5_opposite_4, ss_5_opposite, xa_54, xa_59, xc_2 gc_6_opposite_0, xc_2 gc_6_opposite_1, xc_2 gc_6_opposite_2, xc_3 gc_6_opposite_3, xc_3 gc_6_opposite_4, xc_3 gc_6_opposite_5, xl_aload0, xl_iload1, xl_iload2, xl_istore2a, xl_istore2i, xl_istore2n, xm_f, xm_n, xm_t, xn_1, xn_2, xn_3, xo_53_0, xo_53_7, xr_goto, xr_iconst, xr_if_eq, xr_if_ge, xr_if_ne, xr_imul, xr_iret, xtl_n, xtl_s, xz_i, xz_l, xz_n, xz_r, wb_6_opposite_0, wb_6_opposite_1, wb_6_opposite_2, wb_6_opposite_3, wb_6_opposite_4, ss_6_opposite, zz_b, zz_bn, Classical.not_not, true_and, Nat.reduceAdd, Nat.reduceLeDiff, sp_0_hasRank, sp_6_isRank, sp_5_finding, sp_6_finds, c1, c3, true_implies, false_implies, implies_true, not_true_eq_false, not_false_eq_true, and_true, false_and, and_false, if_true, if_false, Int.reduceEq, Int.reduceSub, Int.reduceAdd, Int.reduceMul, Int.reduceNeg, Int.reduceLT, Int.reduceLE, Int.add_zero]
    exact fnd h 0 (by omega) (by omega)
end OQ1
/-- how many of the first k paces from lo on are such -/
def cnF (l lo : Int) : Nat → Int
  | 0 => 0
  | k + 1 => if decide (lo + k ≤ 4 * ab (wr l (lo + k))) = true then cnF l lo k + 1 else cnF l lo k
theorem cnF_p {l lo : Int} {k : Nat} (h : opP l (lo + k)) : cnF l lo (k + 1) = cnF l lo k + 1 := by
  unfold opP at h
  show (if decide (lo + k ≤ 4 * ab (wr l (lo + k))) = true then cnF l lo k + 1 else cnF l lo k) = _
  rw [if_pos (decide_eq_true h)]
theorem cnF_n {l lo : Int} {k : Nat} (h : ¬ opP l (lo + k)) : cnF l lo (k + 1) = cnF l lo k := by
  unfold opP at h
  show (if decide (lo + k ≤ 4 * ab (wr l (lo + k))) = true then cnF l lo k + 1 else cnF l lo k) = _
  rw [if_neg (fun z => h (of_decide_eq_true z))]
theorem cnF_bd {l lo : Int} : ∀ k : Nat, 0 ≤ cnF l lo k ∧ cnF l lo k ≤ k
  | 0 => by simp only [cnF]; omega
  | k + 1 => by
    have := cnF_bd (l := l) (lo := lo) k
    unfold cnF
    split <;> omega
theorem cnF_m {l lo : Int} {j : Nat} : ∀ k : Nat, j ≤ k → cnF l lo j ≤ cnF l lo k := by
  intro k hk
  induction hk with
  | refl => omega
  | @step k hk ih =>
    have h2 : cnF l lo k ≤ cnF l lo (k + 1) := by
      rw [show cnF l lo (k + 1) = if decide (lo + k ≤ 4 * ab (wr l (lo + k))) = true then cnF l lo k + 1 else cnF l lo k from rfl]
      split <;> omega
    exact Int.le_trans ih h2
theorem cnF_0 {l lo : Int} {m : Nat} (h : cnF l lo m = 0) : ∀ k : Nat, k < m → ¬ opP l (lo + k) := by
  intro k hk z
  have h1 := cnF_p z
  have h2 := cnF_m (l := l) (lo := lo) (j := k + 1) m (by omega)
  have h3 := cnF_bd (l := l) (lo := lo) k
  omega
theorem cnF_z {l lo : Int} : ∀ {m : Nat}, (∀ k : Nat, k < m → ¬ opP l (lo + k)) → cnF l lo m = 0
  | 0, _ => rfl
  | m + 1, h => by rw [cnF_n (h m (by omega)), cnF_z (fun k hk => h k (by omega))]
section OQ2
variable {N : Int} {n : Nat} {xs : Int → Int} {w : Nat → Nat} {a : Nat → Int → Int} {i : Nat → Int} {Q : dk_Q} {p q : Int → Int} {w2 : Nat → Nat} {a2 : Nat → Int → Int} {i2 : Nat → Int} {t : Nat} {r : Int}
theorem md_edges (hc : colN a i) (hag : agr a i (mv a) (mi i)) (hF : Fr a i p q w2 a2 i2) {lo hi x : Int} (c1 : 0 ≤ r ∧ r < i 0) (c2 : 100 ≤ lo ∧ lo ≤ 2000) (c3 : lo ≤ hi ∧ hi ≤ 2000) (c4 : 0 ≤ x ∧ x ≤ 1) (hd0 : 0 ≤ dF a i r) {M : Nat} (hM : hi = lo + M) : (x = 0 → Q (some (.inl (cnF (lgF a (dF a i r) r) lo (M + 1)))) (HH n xs w2 a2 i2)) → (x = 1 → ∀ g : Nat, g < M + 1 → opP (lgF a (dF a i r) r) (lo + g) → (∀ k : Nat, k < g → ¬ opP (lgF a (dF a i r) r) (lo + k)) → Q (some (.inl (lo + g))) (HH n xs w2 a2 i2)) → (x = 1 → (∀ k : Nat, k < M + 1 → ¬ opP (lgF a (dF a i r) r) (lo + k)) → ∀ a3, Fr a i p (bm q 3) w2 a3 i2 → Q (some (.inl (-1000001 - 3))) (HH n xs w2 a3 i2)) → s_6_edges [.inr (.inr 53), .inl r, .inl lo, .inl hi, .inl x] (HH n xs w2 a2 i2) Q := by
  intro hQ hQ1 hQ2
  obtain ⟨hm1, hm2, hm3, hm4, hm5⟩ := Fr_m hc hag hF
  have c5 : 0 ≤ r ∧ r ≤ i2 30 - 1 := by rw [hm3]; omega
  have hk := k24 hc
  have b30 : 0 ≤ i2 30 ∧ i2 30 ≤ 24 := by rw [hm3]; exact hk
  have db := dF_b hc c1.1 c1.2
  have lb := lgF_b hc c1.1 c1.2 hd0 db.2
  obtain ⟨f1, f2, f3⟩ := Fr_drm hag hF hd0 db.2
  have t1 := (Fr_its hag hF c1.1 c1.2).2.1
  have R1 := Fr_rul hag hF (j := 1) (by omega) (by omega)
  have R2 := Fr_rul hag hF (j := 2) (by omega) (by omega)
  obtain ⟨⟨p1, p2⟩, ⟨s1, s2⟩, ⟨v1, v2⟩, ⟨n1, n2⟩, ⟨o1, o2⟩, ⟨d1, d2⟩, ⟨e1, e2⟩, ⟨k1, k2⟩, hr, ⟨m1, m2⟩, hd, ⟨b1, b2⟩, hb, hs, hz⟩ := id hc
  obtain ⟨-, ⟨r1, r2⟩, -⟩ := hr r c1.1 c1.2
  obtain ⟨⟨g1, g2⟩, ⟨g3, g4⟩, g5, g6⟩ := hd (dF a i r) hd0 db.2
  simp (disch := first | assumption | omega | exact zc_lo | exact zc_hi | exact zz_l | exact zz_u | exact zz_r) only [xa_59, xc_2 gc_6_edges_0, xc_2 gc_6_edges_2, xc_2 gc_6_edges_3, xc_3 gc_6_edges_1, xc_3 gc_6_edges_4, xc_3 gc_6_edges_5, xc_3 gc_6_edges_6, xl_aload0, xl_iinc9a, xl_iinc9i, xl_iinc9n, xl_iload1, xl_iload10, xl_iload2, xl_iload3, xl_iload4, xl_iload5, xl_iload6, xl_iload7, xl_iload8, xl_iload9, xl_istore10a, xl_istore10i, xl_istore10n, xl_istore5a, xl_istore5i, xl_istore5n, xl_istore6a, xl_istore6i, xl_istore6n, xl_istore7a, xl_istore7i, xl_istore7n, xl_istore8a, xl_istore8i, xl_istore8n, xl_istore9a, xl_istore9i, xl_istore9n, xm_f, xm_n, xm_t, xn_1, xn_10, xn_11, xn_2, xn_3, xn_5, xn_7, xn_9, xo_53_7, xr_goto, xr_iadd, xr_ic_lt, xr_iconst, xr_if_eq, xr_if_ge, xr_if_ne, xr_imul, xr_iret, xtl_n, xtl_s, xz_i, xz_l, xz_n, xz_r, wb_6_edges_0, wb_6_edges_1, wb_6_edges_2, wb_6_edges_3, wb_6_edges_5, wb_6_edges_6, wb_6_edges_7, wb_6_edges_8, wb_6_edges_9, wb_6_edges_10, wb_6_edges_11, wb_6_edges_12, ss_6_edges, zz_b, zz_bn, Classical.not_not, true_and, Nat.reduceAdd, Nat.reduceLeDiff, sp_6_isRank, sp_6_in, c5, c2, c3, c4, true_implies, false_implies, implies_true, not_true_eq_false, not_false_eq_true, and_true, false_and, and_false, if_true, if_false, Int.reduceEq, Int.reduceSub, Int.reduceAdd, Int.reduceMul, Int.reduceNeg, Int.reduceLT, Int.reduceLE, Int.add_zero]
  refine sp_mdr hc hag hF c1.1 c1.2 ?_
  simp (disch := first | assumption | omega | exact zc_lo | exact zc_hi | exact zz_l | exact zz_u | exact zz_r) only [xa_59, xc_2 gc_6_edges_0, xc_2 gc_6_edges_2, xc_2 gc_6_edges_3, xc_3 gc_6_edges_1, xc_3 gc_6_edges_4, xc_3 gc_6_edges_5, xc_3 gc_6_edges_6, xl_aload0, xl_iinc9a, xl_iinc9i, xl_iinc9n, xl_iload1, xl_iload10, xl_iload2, xl_iload3, xl_iload4, xl_iload5, xl_iload6, xl_iload7, xl_iload8, xl_iload9, xl_istore10a, xl_istore10i, xl_istore10n, xl_istore5a, xl_istore5i, xl_istore5n, xl_istore6a, xl_istore6i, xl_istore6n, xl_istore7a, xl_istore7i, xl_istore7n, xl_istore8a, xl_istore8i, xl_istore8n, xl_istore9a, xl_istore9i, xl_istore9n, xm_f, xm_n, xm_t, xn_1, xn_10, xn_11, xn_2, xn_3, xn_5, xn_7, xn_9, xo_53_7, xr_goto, xr_iadd, xr_ic_lt, xr_iconst, xr_if_eq, xr_if_ge, xr_if_ne, xr_imul, xr_iret, xtl_n, xtl_s, xz_i, xz_l, xz_n, xz_r, wb_6_edges_0, wb_6_edges_1, wb_6_edges_2, wb_6_edges_3, wb_6_edges_5, wb_6_edges_6, wb_6_edges_7, wb_6_edges_8, wb_6_edges_9, wb_6_edges_10, wb_6_edges_11, wb_6_edges_12, zz_b, zz_bn, Classical.not_not, true_and, Nat.reduceAdd, Nat.reduceLeDiff, hd0, f1, t1, R1, R2, sp_6_its, sp_6_lagOf, true_implies, false_implies, implies_true, not_true_eq_false, not_false_eq_true, and_true, false_and, and_false, if_true, if_false, Int.reduceEq, Int.reduceSub, Int.reduceAdd, Int.reduceMul, Int.reduceNeg, Int.reduceLT, Int.reduceLE, Int.add_zero]
  rw [show lagF (a 2 1) (a 2 2) (a 9 (dF a i r)) (a 4 r) = lgF a (dF a i r) r from rfl]
  generalize lgF a (dF a i r) r = l at hQ hQ1 hQ2 lb
  have ct := cnF_bd (l := l) (lo := lo) (M + 1)
  have key : ∀ k, k ≤ M + 1 → ∀ (j : Nat) (fs : Int) (l1 l3 l5 l10 : Option dk_V), j + k = M + 1 → (-2147483648 ≤ fs ∧ fs ≤ 2147483647) → (cnF l lo (M + 1) = cnF l lo j ∨ ∃ g : Nat, fs = lo + g ∧ j ≤ g ∧ g < M + 1 ∧ opP l (lo + g) ∧ ∀ t : Nat, j ≤ t → t < g → ¬ opP l (lo + t)) → dk_WP g_6_edges b_6_edges Q 4 [some (.inr (.inr 53)), l1, some (.inl lo), l3, some (.inl x), l5, some (.inl l), some (.inl (cnF l lo (M + 1) - cnF l lo j)), some (.inl fs), some (.inl (lo + j - 1)), l10] [] (HH n xs w2 a2 i2) := by
    refine lp_up ?_ ?_
    · intro j fs l1 l3 l5 l10 hj hfb hfs
      have j0 : j = 0 := by omega
      subst j0
      have hc0 : cnF l lo 0 = 0 := rfl
      rw [hc0, Int.sub_zero, wb_6_edges_4]
      simp (disch := first | assumption | omega | exact zc_lo | exact zc_hi | exact zz_l | exact zz_u | exact zz_r) only [xa_59, xc_2 gc_6_edges_0, xc_2 gc_6_edges_2, xc_2 gc_6_edges_3, xc_3 gc_6_edges_1, xc_3 gc_6_edges_4, xc_3 gc_6_edges_5, xc_3 gc_6_edges_6, xl_aload0, xl_iinc9a, xl_iinc9i, xl_iinc9n, xl_iload1, xl_iload10, xl_iload2, xl_iload3, xl_iload4, xl_iload5, xl_iload6, xl_iload7, xl_iload8, xl_iload9, xl_istore10a, xl_istore10i, xl_istore10n, xl_istore5a, xl_istore5i, xl_istore5n, xl_istore6a, xl_istore6i, xl_istore6n, xl_istore7a, xl_istore7i, xl_istore7n, xl_istore8a, xl_istore8i, xl_istore8n, xl_istore9a, xl_istore9i, xl_istore9n, xm_f, xm_n, xm_t, xn_1, xn_10, xn_11, xn_2, xn_3, xn_5, xn_7, xn_9, xo_53_7, xr_goto, xr_iadd, xr_ic_lt, xr_iconst, xr_if_eq, xr_if_ge, xr_if_ne, xr_imul, xr_iret, xtl_n, xtl_s, xz_i, xz_l, xz_n, xz_r, wb_6_edges_0, wb_6_edges_1, wb_6_edges_2, wb_6_edges_3, wb_6_edges_5, wb_6_edges_6, wb_6_edges_7, wb_6_edges_8, wb_6_edges_9, wb_6_edges_10, wb_6_edges_11, wb_6_edges_12, zz_b, zz_bn, Classical.not_not, true_and, Nat.reduceAdd, Nat.reduceLeDiff]
      refine ⟨fun _ => ?_, fun z => absurd (by omega) z⟩
      refine ⟨fun z => ⟨fun z2 => ?_, fun z2 => ?_⟩, fun z => hQ z⟩
      · rcases hfs with hfs | ⟨g, e1, e2, e3, e4, e5⟩
        · omega
        · rw [e1]
          exact hQ1 (by omega) g e3 e4 (fun k hk => e5 k (by omega) hk)
      · refine sp_fi6 hF (by omega) (by omega) (fun a3 hF3 => ?_)
        simp (disch := first | assumption | omega | exact zc_lo | exact zc_hi | exact zz_l | exact zz_u | exact zz_r) only [xa_59, xc_2 gc_6_edges_0, xc_2 gc_6_edges_2, xc_2 gc_6_edges_3, xc_3 gc_6_edges_1, xc_3 gc_6_edges_4, xc_3 gc_6_edges_5, xc_3 gc_6_edges_6, xl_aload0, xl_iinc9a, xl_iinc9i, xl_iinc9n, xl_iload1, xl_iload10, xl_iload2, xl_iload3, xl_iload4, xl_iload5, xl_iload6, xl_iload7, xl_iload8, xl_iload9, xl_istore10a, xl_istore10i, xl_istore10n, xl_istore5a, xl_istore5i, xl_istore5n, xl_istore6a, xl_istore6i, xl_istore6n, xl_istore7a, xl_istore7i, xl_istore7n, xl_istore8a, xl_istore8i, xl_istore8n, xl_istore9a, xl_istore9i, xl_istore9n, xm_f, xm_n, xm_t, xn_1, xn_10, xn_11, xn_2, xn_3, xn_5, xn_7, xn_9, xo_53_7, xr_goto, xr_iadd, xr_ic_lt, xr_iconst, xr_if_eq, xr_if_ge, xr_if_ne, xr_imul, xr_iret, xtl_n, xtl_s, xz_i, xz_l, xz_n, xz_r, wb_6_edges_0, wb_6_edges_1, wb_6_edges_2, wb_6_edges_3, wb_6_edges_5, wb_6_edges_6, wb_6_edges_7, wb_6_edges_8, wb_6_edges_9, wb_6_edges_10, wb_6_edges_11, wb_6_edges_12, zz_b, zz_bn, Classical.not_not, true_and, Nat.reduceAdd, Nat.reduceLeDiff]
        exact hQ2 (by omega) (cnF_0 z2) a3 hF3
    · intro k hk ih j fs l1 l3 l5 l10 hj hfb hfs
      obtain ⟨j, rfl⟩ : ∃ j2, j = j2 + 1 := ⟨j - 1, by omega⟩
      have cj := cnF_bd (l := l) (lo := lo) (j + 1)
      have cj2 := cnF_m (l := l) (lo := lo) (j := j + 1) (M + 1) (by omega)
      rw [wb_6_edges_4]
      simp (disch := first | assumption | omega | exact zc_lo | exact zc_hi | exact zz_l | exact zz_u | exact zz_r) only [xa_59, xc_2 gc_6_edges_0, xc_2 gc_6_edges_2, xc_2 gc_6_edges_3, xc_3 gc_6_edges_1, xc_3 gc_6_edges_4, xc_3 gc_6_edges_5, xc_3 gc_6_edges_6, xl_aload0, xl_iinc9a, xl_iinc9i, xl_iinc9n, xl_iload1, xl_iload10, xl_iload2, xl_iload3, xl_iload4, xl_iload5, xl_iload6, xl_iload7, xl_iload8, xl_iload9, xl_istore10a, xl_istore10i, xl_istore10n, xl_istore5a, xl_istore5i, xl_istore5n, xl_istore6a, xl_istore6i, xl_istore6n, xl_istore7a, xl_istore7i, xl_istore7n, xl_istore8a, xl_istore8i, xl_istore8n, xl_istore9a, xl_istore9i, xl_istore9n, xm_f, xm_n, xm_t, xn_1, xn_10, xn_11, xn_2, xn_3, xn_5, xn_7, xn_9, xo_53_7, xr_goto, xr_iadd, xr_ic_lt, xr_iconst, xr_if_eq, xr_if_ge, xr_if_ne, xr_imul, xr_iret, xtl_n, xtl_s, xz_i, xz_l, xz_n, xz_r, wb_6_edges_0, wb_6_edges_1, wb_6_edges_2, wb_6_edges_3, wb_6_edges_5, wb_6_edges_6, wb_6_edges_7, wb_6_edges_8, wb_6_edges_9, wb_6_edges_10, wb_6_edges_11, wb_6_edges_12, zz_b, zz_bn, Classical.not_not, true_and, Nat.reduceAdd, Nat.reduceLeDiff]
      refine ⟨fun z => absurd z (by omega), fun _ => ?_⟩
      have ep : lo + ((j + 1 : Nat) : Int) - 1 = lo + j := by omega
      rw [ep]
      refine sp_6_isOpposite (by omega) (by omega) (by omega) (by omega) (fun z => ?_) (fun z => ?_)
      · simp (disch := first | assumption | omega | exact zc_lo | exact zc_hi | exact zz_l | exact zz_u | exact zz_r) only [xa_59, xc_2 gc_6_edges_0, xc_2 gc_6_edges_2, xc_2 gc_6_edges_3, xc_3 gc_6_edges_1, xc_3 gc_6_edges_4, xc_3 gc_6_edges_5, xc_3 gc_6_edges_6, xl_aload0, xl_iinc9a, xl_iinc9i, xl_iinc9n, xl_iload1, xl_iload10, xl_iload2, xl_iload3, xl_iload4, xl_iload5, xl_iload6, xl_iload7, xl_iload8, xl_iload9, xl_istore10a, xl_istore10i, xl_istore10n, xl_istore5a, xl_istore5i, xl_istore5n, xl_istore6a, xl_istore6i, xl_istore6n, xl_istore7a, xl_istore7i, xl_istore7n, xl_istore8a, xl_istore8i, xl_istore8n, xl_istore9a, xl_istore9i, xl_istore9n, xm_f, xm_n, xm_t, xn_1, xn_10, xn_11, xn_2, xn_3, xn_5, xn_7, xn_9, xo_53_7, xr_goto, xr_iadd, xr_ic_lt, xr_iconst, xr_if_eq, xr_if_ge, xr_if_ne, xr_imul, xr_iret, xtl_n, xtl_s, xz_i, xz_l, xz_n, xz_r, wb_6_edges_0, wb_6_edges_1, wb_6_edges_2, wb_6_edges_3, wb_6_edges_5, wb_6_edges_6, wb_6_edges_7, wb_6_edges_8, wb_6_edges_9, wb_6_edges_10, wb_6_edges_11, wb_6_edges_12, zz_b, zz_bn, Classical.not_not, true_and, Nat.reduceAdd, Nat.reduceLeDiff, eq_self, true_implies, false_implies, implies_true, not_true_eq_false, not_false_eq_true, and_true, false_and, and_false, if_true, if_false, Int.reduceEq, Int.reduceSub, Int.reduceAdd, Int.reduceMul, Int.reduceNeg, Int.reduceLT, Int.reduceLE, Int.add_zero]
        have e1 : cnF l lo (M + 1) - cnF l lo (j + 1) + 1 = cnF l lo (M + 1) - cnF l lo j := by rw [cnF_p z]; omega
        have e2 : lo + (j : Int) + -1 = lo + j - 1 := by omega
        rw [e1, e2]
        exact ih j (lo + j) _ _ _ _ (by omega) (by omega) (Or.inr ⟨j, rfl, Nat.le_refl _, by omega, z, fun t h1 h2 => by omega⟩)
      · simp (disch := first | assumption | omega | exact zc_lo | exact zc_hi | exact zz_l | exact zz_u | exact zz_r) only [xa_59, xc_2 gc_6_edges_0, xc_2 gc_6_edges_2, xc_2 gc_6_edges_3, xc_3 gc_6_edges_1, xc_3 gc_6_edges_4, xc_3 gc_6_edges_5, xc_3 gc_6_edges_6, xl_aload0, xl_iinc9a, xl_iinc9i, xl_iinc9n, xl_iload1, xl_iload10, xl_iload2, xl_iload3, xl_iload4, xl_iload5, xl_iload6, xl_iload7, xl_iload8, xl_iload9, xl_istore10a, xl_istore10i, xl_istore10n, xl_istore5a, xl_istore5i, xl_istore5n, xl_istore6a, xl_istore6i, xl_istore6n, xl_istore7a, xl_istore7i, xl_istore7n, xl_istore8a, xl_istore8i, xl_istore8n, xl_istore9a, xl_istore9i, xl_istore9n, xm_f, xm_n, xm_t, xn_1, xn_10, xn_11, xn_2, xn_3, xn_5, xn_7, xn_9, xo_53_7, xr_goto, xr_iadd, xr_ic_lt, xr_iconst, xr_if_eq, xr_if_ge, xr_if_ne, xr_imul, xr_iret, xtl_n, xtl_s, xz_i, xz_l, xz_n, xz_r, wb_6_edges_0, wb_6_edges_1, wb_6_edges_2, wb_6_edges_3, wb_6_edges_5, wb_6_edges_6, wb_6_edges_7, wb_6_edges_8, wb_6_edges_9, wb_6_edges_10, wb_6_edges_11, wb_6_edges_12, zz_b, zz_bn, Classical.not_not, true_and, Nat.reduceAdd, Nat.reduceLeDiff, eq_self, true_implies, false_implies, implies_true, not_true_eq_false, not_false_eq_true, and_true, false_and, and_false, if_true, if_false, Int.reduceEq, Int.reduceSub, Int.reduceAdd, Int.reduceMul, Int.reduceNeg, Int.reduceLT, Int.reduceLE, Int.add_zero]
        have e2 : lo + (j : Int) + -1 = lo + j - 1 := by omega
        rw [cnF_n z, e2]
        refine ih j fs _ _ _ _ (by omega) hfb ?_
        rcases hfs with hfs | ⟨g, e1, e2, e3, e4, e5⟩
        · exact Or.inl (by rw [hfs, cnF_n z])
        · refine Or.inr ⟨g, e1, by omega, e3, e4, fun t h1 h2 => ?_⟩
          by_cases e : t = j
          · subst e; exact z
          · exact e5 t (by omega) h2
  have q := fun l1 l5 => key 0 (Nat.zero_le _) (M + 1) 0 l1 (some (.inl hi)) l5 none rfl (by omega) (Or.inl rfl)
  rw [Int.sub_self, show lo + ((M + 1 : Nat) : Int) - 1 = hi by omega] at q
  exact q _ _
theorem op_edges (h : Inv N w a i) {lo hi x : Int} (x1 : -2147483648 ≤ r) (x2 : r ≤ 2147483647) (x3 : -2147483648 ≤ lo) (x4 : lo ≤ 2147483647) (x5 : -2147483648 ≤ hi) (x6 : hi ≤ 2147483647) (x7 : -2147483648 ≤ x) (x8 : x ≤ 2147483647) : s_5_edges [.inr (.inr 0), .inl r, .inl lo, .inl hi, .inl x] (HH n xs w a i) (fun r2 h => s_6_edges [.inr (.inr 53), .inl r, .inl lo, .inl hi, .inl x] h (OPQ n xs N r2)) := by
  have hF := Fr_rf h
  have l0 := hh_leV.1
  have t0 := hh_moV.1
  have hc := h.2.1
  have hag := h.2.2.1
  have hmc := colN_A hag hc
  obtain ⟨⟨p1, p2⟩, ⟨s1, s2⟩, ⟨v1, v2⟩, ⟨n1, n2⟩, ⟨o1, o2⟩, ⟨d1, d2⟩, ⟨e1, e2⟩, ⟨k1, k2⟩, hr, ⟨m1, m2⟩, hd, ⟨b1, b2⟩, hb, hs, hz⟩ := id hc
  obtain ⟨hkE, hA2, hA3, hA4, hA5, hA6⟩ := id hag
  have K0 : i 30 = i 0 := hkE 0 (by omega)
  have K1 : i 31 = i 1 := hkE 1 (by omega)
  have K2 : i 32 = i 2 := hkE 2 (by omega)
  have K3 : i 33 = i 3 := hkE 3 (by omega)
  have R0 : a 54 0 = a 2 0 := hA2 0 (by omega) (by omega)
  have R1 : a 54 1 = a 2 1 := hA2 1 (by omega) (by omega)
  have R2 : a 54 2 = a 2 2 := hA2 2 (by omega) (by omega)
  have R3 : a 54 3 = a 2 3 := hA2 3 (by omega) (by omega)
  have R4 : a 54 4 = a 2 4 := hA2 4 (by omega) (by omega)
  have R5 : a 54 5 = a 2 5 := hA2 5 (by omega) (by omega)
  have R6 : a 54 6 = a 2 6 := hA2 6 (by omega) (by omega)
  by_cases c1 : 0 ≤ r ∧ r < i 0
  · have c1b : 0 ≤ r ∧ r ≤ i 30 - 1 := by omega
    by_cases c2 : 100 ≤ lo ∧ lo ≤ 2000
    · by_cases c3 : lo ≤ hi ∧ hi ≤ 2000
      · by_cases c4 : 0 ≤ x ∧ x ≤ 1
        · have db := dF_b hc c1.1 c1.2
          simp (disch := first | assumption | omega | exact zc_lo | exact zc_hi | exact zz_l | exact zz_u | exact zz_r) only [xa_101, xa_102, xc_2 gc_5_edges_0, xc_2 gc_5_edges_2, xc_2 gc_5_edges_3, xc_2 gc_5_edges_5, xc_3 gc_5_edges_1, xc_3 gc_5_edges_4, xl_aload0, xl_iinc7a, xl_iinc7i, xl_iinc7n, xl_iinc8a, xl_iinc8i, xl_iinc8n, xl_iload1, xl_iload2, xl_iload3, xl_iload4, xl_iload5, xl_iload6, xl_iload7, xl_iload8, xl_istore5a, xl_istore5i, xl_istore5n, xl_istore6a, xl_istore6i, xl_istore6n, xl_istore7a, xl_istore7i, xl_istore7n, xl_istore8a, xl_istore8i, xl_istore8n, xm_f, xm_n, xm_t, xn_1, xn_2, xn_3, xn_5, xn_6, xn_7, xn_8, xo_0_0, xr_goto, xr_ic_gt, xr_ic_ne, xr_iconst, xr_if_eq, xr_if_ne, xr_iret, xr_ref, xtl_n, xtl_s, xz_i, xz_l, xz_n, xz_r, wb_5_edges_0, wb_5_edges_1, wb_5_edges_2, wb_5_edges_3, wb_5_edges_5, wb_5_edges_6, wb_5_edges_7, wb_5_edges_8, wb_5_edges_9, ss_5_edges, zz_b, zz_bn, Classical.not_not, true_and, Nat.reduceAdd, Nat.reduceLeDiff, sp_0_hasRank, sp_5_isWithin, l0, t0, c1, c2, c3, c4, true_implies, false_implies, implies_true, not_true_eq_false, not_false_eq_true, and_true, false_and, and_false, if_true, if_false, Int.reduceEq, Int.reduceSub, Int.reduceAdd, Int.reduceMul, Int.reduceNeg, Int.reduceLT, Int.reduceLE, Int.add_zero]
          refine sp_0_drumFor hc c1.1 c1.2 ?_
          rw [show (drF (a 9) (a 10) (a 4 r) (i 1).toNat).1 = dF a i r from rfl]
          by_cases c5 : dF a i r = -1
          · rw [c5]
            simp (disch := first | assumption | omega | exact zc_lo | exact zc_hi | exact zz_l | exact zz_u | exact zz_r) only [xa_101, xa_102, xc_2 gc_5_edges_0, xc_2 gc_5_edges_2, xc_2 gc_5_edges_3, xc_2 gc_5_edges_5, xc_3 gc_5_edges_1, xc_3 gc_5_edges_4, xl_aload0, xl_iinc7a, xl_iinc7i, xl_iinc7n, xl_iinc8a, xl_iinc8i, xl_iinc8n, xl_iload1, xl_iload2, xl_iload3, xl_iload4, xl_iload5, xl_iload6, xl_iload7, xl_iload8, xl_istore5a, xl_istore5i, xl_istore5n, xl_istore6a, xl_istore6i, xl_istore6n, xl_istore7a, xl_istore7i, xl_istore7n, xl_istore8a, xl_istore8i, xl_istore8n, xm_f, xm_n, xm_t, xn_1, xn_2, xn_3, xn_5, xn_6, xn_7, xn_8, xo_0_0, xr_goto, xr_ic_gt, xr_ic_ne, xr_iconst, xr_if_eq, xr_if_ne, xr_iret, xr_ref, xtl_n, xtl_s, xz_i, xz_l, xz_n, xz_r, wb_5_edges_0, wb_5_edges_1, wb_5_edges_2, wb_5_edges_3, wb_5_edges_5, wb_5_edges_6, wb_5_edges_7, wb_5_edges_8, wb_5_edges_9, xa_59, xc_2 gc_6_edges_0, xc_2 gc_6_edges_2, xc_2 gc_6_edges_3, xc_3 gc_6_edges_1, xc_3 gc_6_edges_4, xc_3 gc_6_edges_5, xc_3 gc_6_edges_6, xl_aload0, xl_iinc9a, xl_iinc9i, xl_iinc9n, xl_iload1, xl_iload10, xl_iload2, xl_iload3, xl_iload4, xl_iload5, xl_iload6, xl_iload7, xl_iload8, xl_iload9, xl_istore10a, xl_istore10i, xl_istore10n, xl_istore5a, xl_istore5i, xl_istore5n, xl_istore6a, xl_istore6i, xl_istore6n, xl_istore7a, xl_istore7i, xl_istore7n, xl_istore8a, xl_istore8i, xl_istore8n, xl_istore9a, xl_istore9i, xl_istore9n, xm_f, xm_n, xm_t, xn_1, xn_10, xn_11, xn_2, xn_3, xn_5, xn_7, xn_9, xo_53_7, xr_goto, xr_iadd, xr_ic_lt, xr_iconst, xr_if_eq, xr_if_ge, xr_if_ne, xr_imul, xr_iret, xtl_n, xtl_s, xz_i, xz_l, xz_n, xz_r, wb_6_edges_0, wb_6_edges_1, wb_6_edges_2, wb_6_edges_3, wb_6_edges_5, wb_6_edges_6, wb_6_edges_7, wb_6_edges_8, wb_6_edges_9, wb_6_edges_10, wb_6_edges_11, wb_6_edges_12, ss_6_edges, zz_b, zz_bn, Classical.not_not, true_and, Nat.reduceAdd, Nat.reduceLeDiff, sp_5_finding, eq_self, true_implies, false_implies, implies_true, not_true_eq_false, not_false_eq_true, and_true, false_and, and_false, if_true, if_false, Int.reduceEq, Int.reduceSub, Int.reduceAdd, Int.reduceMul, Int.reduceNeg, Int.reduceLT, Int.reduceLE, Int.add_zero]
            have hF2 : Fr a i (bm (a 52) 3) (a 62) w (dk_up a 52 (dk_ui (a 52) 3 (a 52 3 + 1))) i := ⟨hF.1, hF.2.1, sA_up sA_rf (by decide) _, sI_rf, by rw [up_s]; rfl, up_n (by decide)⟩
            simp (disch := first | assumption | omega | exact zc_lo | exact zc_hi | exact zz_l | exact zz_u | exact zz_r) only [xa_59, xc_2 gc_6_edges_0, xc_2 gc_6_edges_2, xc_2 gc_6_edges_3, xc_3 gc_6_edges_1, xc_3 gc_6_edges_4, xc_3 gc_6_edges_5, xc_3 gc_6_edges_6, xl_aload0, xl_iinc9a, xl_iinc9i, xl_iinc9n, xl_iload1, xl_iload10, xl_iload2, xl_iload3, xl_iload4, xl_iload5, xl_iload6, xl_iload7, xl_iload8, xl_iload9, xl_istore10a, xl_istore10i, xl_istore10n, xl_istore5a, xl_istore5i, xl_istore5n, xl_istore6a, xl_istore6i, xl_istore6n, xl_istore7a, xl_istore7i, xl_istore7n, xl_istore8a, xl_istore8i, xl_istore8n, xl_istore9a, xl_istore9i, xl_istore9n, xm_f, xm_n, xm_t, xn_1, xn_10, xn_11, xn_2, xn_3, xn_5, xn_7, xn_9, xo_53_7, xr_goto, xr_iadd, xr_ic_lt, xr_iconst, xr_if_eq, xr_if_ge, xr_if_ne, xr_imul, xr_iret, xtl_n, xtl_s, xz_i, xz_l, xz_n, xz_r, wb_6_edges_0, wb_6_edges_1, wb_6_edges_2, wb_6_edges_3, wb_6_edges_5, wb_6_edges_6, wb_6_edges_7, wb_6_edges_8, wb_6_edges_9, wb_6_edges_10, wb_6_edges_11, wb_6_edges_12, zz_b, zz_bn, Classical.not_not, true_and, Nat.reduceAdd, Nat.reduceLeDiff, sp_6_isRank, sp_6_in, c1b, c2, c3, c4, true_implies, false_implies, implies_true, not_true_eq_false, not_false_eq_true, and_true, false_and, and_false, if_true, if_false, Int.reduceEq, Int.reduceSub, Int.reduceAdd, Int.reduceMul, Int.reduceNeg, Int.reduceLT, Int.reduceLE, Int.add_zero]
            refine sp_mdr hc hag hF2 c1.1 c1.2 ?_
            rw [c5]
            simp (disch := first | assumption | omega | exact zc_lo | exact zc_hi | exact zz_l | exact zz_u | exact zz_r) only [xa_59, xc_2 gc_6_edges_0, xc_2 gc_6_edges_2, xc_2 gc_6_edges_3, xc_3 gc_6_edges_1, xc_3 gc_6_edges_4, xc_3 gc_6_edges_5, xc_3 gc_6_edges_6, xl_aload0, xl_iinc9a, xl_iinc9i, xl_iinc9n, xl_iload1, xl_iload10, xl_iload2, xl_iload3, xl_iload4, xl_iload5, xl_iload6, xl_iload7, xl_iload8, xl_iload9, xl_istore10a, xl_istore10i, xl_istore10n, xl_istore5a, xl_istore5i, xl_istore5n, xl_istore6a, xl_istore6i, xl_istore6n, xl_istore7a, xl_istore7i, xl_istore7n, xl_istore8a, xl_istore8i, xl_istore8n, xl_istore9a, xl_istore9i, xl_istore9n, xm_f, xm_n, xm_t, xn_1, xn_10, xn_11, xn_2, xn_3, xn_5, xn_7, xn_9, xo_53_7, xr_goto, xr_iadd, xr_ic_lt, xr_iconst, xr_if_eq, xr_if_ge, xr_if_ne, xr_imul, xr_iret, xtl_n, xtl_s, xz_i, xz_l, xz_n, xz_r, wb_6_edges_0, wb_6_edges_1, wb_6_edges_2, wb_6_edges_3, wb_6_edges_5, wb_6_edges_6, wb_6_edges_7, wb_6_edges_8, wb_6_edges_9, wb_6_edges_10, wb_6_edges_11, wb_6_edges_12, zz_b, zz_bn, Classical.not_not, true_and, Nat.reduceAdd, Nat.reduceLeDiff, sp_6_finds, true_implies, false_implies, implies_true, not_true_eq_false, not_false_eq_true, and_true, false_and, and_false, if_true, if_false, Int.reduceEq, Int.reduceSub, Int.reduceAdd, Int.reduceMul, Int.reduceNeg, Int.reduceLT, Int.reduceLE, Int.add_zero]
            exact fnd h 3 (by omega) (by omega)
          · have d0 : 0 ≤ dF a i r := by omega
            have lb := lgF_b hc c1.1 c1.2 d0 db.2
            obtain ⟨M, hM⟩ := nat_of (show 0 ≤ hi - lo by omega)
            have hM : hi = lo + M := by omega
            have ct := cnF_bd (l := lgF a (dF a i r) r) (lo := lo) (M + 1)
            simp (disch := first | assumption | omega | exact zc_lo | exact zc_hi | exact zz_l | exact zz_u | exact zz_r) only [xa_101, xa_102, xc_2 gc_5_edges_0, xc_2 gc_5_edges_2, xc_2 gc_5_edges_3, xc_2 gc_5_edges_5, xc_3 gc_5_edges_1, xc_3 gc_5_edges_4, xl_aload0, xl_iinc7a, xl_iinc7i, xl_iinc7n, xl_iinc8a, xl_iinc8i, xl_iinc8n, xl_iload1, xl_iload2, xl_iload3, xl_iload4, xl_iload5, xl_iload6, xl_iload7, xl_iload8, xl_istore5a, xl_istore5i, xl_istore5n, xl_istore6a, xl_istore6i, xl_istore6n, xl_istore7a, xl_istore7i, xl_istore7n, xl_istore8a, xl_istore8i, xl_istore8n, xm_f, xm_n, xm_t, xn_1, xn_2, xn_3, xn_5, xn_6, xn_7, xn_8, xo_0_0, xr_goto, xr_ic_gt, xr_ic_ne, xr_iconst, xr_if_eq, xr_if_ne, xr_iret, xr_ref, xtl_n, xtl_s, xz_i, xz_l, xz_n, xz_r, wb_5_edges_0, wb_5_edges_1, wb_5_edges_2, wb_5_edges_3, wb_5_edges_5, wb_5_edges_6, wb_5_edges_7, wb_5_edges_8, wb_5_edges_9, zz_b, zz_bn, Classical.not_not, true_and, Nat.reduceAdd, Nat.reduceLeDiff, c5, sp_0_lagFromDrum hc c1.1 c1.2 d0 db.2, true_implies, false_implies, implies_true, not_true_eq_false, not_false_eq_true, and_true, false_and, and_false, if_true, if_false, Int.reduceEq, Int.reduceSub, Int.reduceAdd, Int.reduceMul, Int.reduceNeg, Int.reduceLT, Int.reduceLE, Int.add_zero]
            rw [show lagF (a 2 1) (a 2 2) (a 9 (dF a i r)) (a 4 r) = lgF a (dF a i r) r from rfl]
            generalize hl : lgF a (dF a i r) r = l at lb ct
            have key : ∀ d, d ≤ M + 1 → ∀ (l1 l2 l5 : Option dk_V), (x = 1 → ∀ k : Nat, k < d → ¬ opP l (lo + k)) → dk_WP g_5_edges b_5_edges (fun r2 h => s_6_edges [.inr (.inr 53), .inl r, .inl lo, .inl hi, .inl x] h (OPQ n xs N r2)) 4 [some (.inr (.inr 0)), l1, l2, some (.inl hi), some (.inl x), l5, some (.inl l), some (.inl (cnF l lo d)), some (.inl (lo + d))] [] (HH n xs w a i) := by
              refine lp_up ?_ ?_
              · intro l1 l2 l5 hno
                rw [wb_5_edges_4]
                simp (disch := first | assumption | omega | exact zc_lo | exact zc_hi | exact zz_l | exact zz_u | exact zz_r) only [xa_101, xa_102, xc_2 gc_5_edges_0, xc_2 gc_5_edges_2, xc_2 gc_5_edges_3, xc_2 gc_5_edges_5, xc_3 gc_5_edges_1, xc_3 gc_5_edges_4, xl_aload0, xl_iinc7a, xl_iinc7i, xl_iinc7n, xl_iinc8a, xl_iinc8i, xl_iinc8n, xl_iload1, xl_iload2, xl_iload3, xl_iload4, xl_iload5, xl_iload6, xl_iload7, xl_iload8, xl_istore5a, xl_istore5i, xl_istore5n, xl_istore6a, xl_istore6i, xl_istore6n, xl_istore7a, xl_istore7i, xl_istore7n, xl_istore8a, xl_istore8i, xl_istore8n, xm_f, xm_n, xm_t, xn_1, xn_2, xn_3, xn_5, xn_6, xn_7, xn_8, xo_0_0, xr_goto, xr_ic_gt, xr_ic_ne, xr_iconst, xr_if_eq, xr_if_ne, xr_iret, xr_ref, xtl_n, xtl_s, xz_i, xz_l, xz_n, xz_r, wb_5_edges_0, wb_5_edges_1, wb_5_edges_2, wb_5_edges_3, wb_5_edges_5, wb_5_edges_6, wb_5_edges_7, wb_5_edges_8, wb_5_edges_9, zz_b, zz_bn, Classical.not_not, true_and, Nat.reduceAdd, Nat.reduceLeDiff]
                refine ⟨fun _ => ⟨fun z => ?_, fun z => ?_⟩, fun z => absurd (by omega) z⟩
                · refine md_edges hc hag hF c1 c2 c3 c4 d0 hM (fun _ => ?_) (fun z2 => absurd z2 z) (fun z2 => absurd z2 z)
                  rw [hl]
                  exact OPQ_f h hF (by omega) (by omega)
                · have hno := hno z
                  refine sp_fi5 hF (by omega) (by omega) (fun a3 hF3 => ?_)
                  simp (disch := first | assumption | omega | exact zc_lo | exact zc_hi | exact zz_l | exact zz_u | exact zz_r) only [xa_101, xa_102, xc_2 gc_5_edges_0, xc_2 gc_5_edges_2, xc_2 gc_5_edges_3, xc_2 gc_5_edges_5, xc_3 gc_5_edges_1, xc_3 gc_5_edges_4, xl_aload0, xl_iinc7a, xl_iinc7i, xl_iinc7n, xl_iinc8a, xl_iinc8i, xl_iinc8n, xl_iload1, xl_iload2, xl_iload3, xl_iload4, xl_iload5, xl_iload6, xl_iload7, xl_iload8, xl_istore5a, xl_istore5i, xl_istore5n, xl_istore6a, xl_istore6i, xl_istore6n, xl_istore7a, xl_istore7i, xl_istore7n, xl_istore8a, xl_istore8i, xl_istore8n, xm_f, xm_n, xm_t, xn_1, xn_2, xn_3, xn_5, xn_6, xn_7, xn_8, xo_0_0, xr_goto, xr_ic_gt, xr_ic_ne, xr_iconst, xr_if_eq, xr_if_ne, xr_iret, xr_ref, xtl_n, xtl_s, xz_i, xz_l, xz_n, xz_r, wb_5_edges_0, wb_5_edges_1, wb_5_edges_2, wb_5_edges_3, wb_5_edges_5, wb_5_edges_6, wb_5_edges_7, wb_5_edges_8, wb_5_edges_9, zz_b, zz_bn, Classical.not_not, true_and, Nat.reduceAdd, Nat.reduceLeDiff]
                  rw [← hl] at hno
                  refine md_edges hc hag hF3 c1 c2 c3 c4 d0 hM (fun z2 => absurd z2 (by omega)) (fun _ g hg z2 _ => absurd z2 (hno g hg)) (fun _ _ a4 hF4 => OPQ_d h (by omega) (by omega) hF4)
              · intro d hdm ih l1 l2 l5 hno
                rw [wb_5_edges_4]
                simp (disch := first | assumption | omega | exact zc_lo | exact zc_hi | exact zz_l | exact zz_u | exact zz_r) only [xa_101, xa_102, xc_2 gc_5_edges_0, xc_2 gc_5_edges_2, xc_2 gc_5_edges_3, xc_2 gc_5_edges_5, xc_3 gc_5_edges_1, xc_3 gc_5_edges_4, xl_aload0, xl_iinc7a, xl_iinc7i, xl_iinc7n, xl_iinc8a, xl_iinc8i, xl_iinc8n, xl_iload1, xl_iload2, xl_iload3, xl_iload4, xl_iload5, xl_iload6, xl_iload7, xl_iload8, xl_istore5a, xl_istore5i, xl_istore5n, xl_istore6a, xl_istore6i, xl_istore6n, xl_istore7a, xl_istore7i, xl_istore7n, xl_istore8a, xl_istore8i, xl_istore8n, xm_f, xm_n, xm_t, xn_1, xn_2, xn_3, xn_5, xn_6, xn_7, xn_8, xo_0_0, xr_goto, xr_ic_gt, xr_ic_ne, xr_iconst, xr_if_eq, xr_if_ne, xr_iret, xr_ref, xtl_n, xtl_s, xz_i, xz_l, xz_n, xz_r, wb_5_edges_0, wb_5_edges_1, wb_5_edges_2, wb_5_edges_3, wb_5_edges_5, wb_5_edges_6, wb_5_edges_7, wb_5_edges_8, wb_5_edges_9, zz_b, zz_bn, Classical.not_not, true_and, Nat.reduceAdd, Nat.reduceLeDiff]
                refine ⟨fun z => absurd z (by omega), fun _ => ?_⟩
                refine sp_5_isOpposite (by omega) (by omega) (by omega) (by omega) (fun z => ?_) (fun z => ?_)
                · simp (disch := first | assumption | omega | exact zc_lo | exact zc_hi | exact zz_l | exact zz_u | exact zz_r) only [xa_101, xa_102, xc_2 gc_5_edges_0, xc_2 gc_5_edges_2, xc_2 gc_5_edges_3, xc_2 gc_5_edges_5, xc_3 gc_5_edges_1, xc_3 gc_5_edges_4, xl_aload0, xl_iinc7a, xl_iinc7i, xl_iinc7n, xl_iinc8a, xl_iinc8i, xl_iinc8n, xl_iload1, xl_iload2, xl_iload3, xl_iload4, xl_iload5, xl_iload6, xl_iload7, xl_iload8, xl_istore5a, xl_istore5i, xl_istore5n, xl_istore6a, xl_istore6i, xl_istore6n, xl_istore7a, xl_istore7i, xl_istore7n, xl_istore8a, xl_istore8i, xl_istore8n, xm_f, xm_n, xm_t, xn_1, xn_2, xn_3, xn_5, xn_6, xn_7, xn_8, xo_0_0, xr_goto, xr_ic_gt, xr_ic_ne, xr_iconst, xr_if_eq, xr_if_ne, xr_iret, xr_ref, xtl_n, xtl_s, xz_i, xz_l, xz_n, xz_r, wb_5_edges_0, wb_5_edges_1, wb_5_edges_2, wb_5_edges_3, wb_5_edges_5, wb_5_edges_6, wb_5_edges_7, wb_5_edges_8, wb_5_edges_9, zz_b, zz_bn, Classical.not_not, true_and, Nat.reduceAdd, Nat.reduceLeDiff, eq_self, true_implies, false_implies, implies_true, not_true_eq_false, not_false_eq_true, and_true, false_and, and_false, if_true, if_false, Int.reduceEq, Int.reduceSub, Int.reduceAdd, Int.reduceMul, Int.reduceNeg, Int.reduceLT, Int.reduceLE, Int.add_zero]
                  refine ⟨fun z2 => ?_, fun z2 => ?_⟩
                  · have q := ih none none none (fun z3 => absurd z3 z2)
                    rw [cnF_p z, show lo + ((d + 1 : Nat) : Int) = lo + d + 1 by omega] at q
                    exact q
                  · have hno := hno z2
                    rw [← hl] at hno z
                    refine md_edges hc hag hF c1 c2 c3 c4 d0 hM (fun z3 => absurd z3 (by omega)) (fun _ g hg z3 hno3 => ?_) (fun _ hno3 => absurd z (hno3 d (by omega)))
                    have e : g = d := by
                      rcases Nat.lt_trichotomy g d with z4 | z4 | z4
                      · exact absurd z3 (hno g z4)
                      · exact z4
                      · exact absurd z (hno3 d z4)
                    subst e
                    exact OPQ_f h hF (by omega) (by omega)
                · simp (disch := first | assumption | omega | exact zc_lo | exact zc_hi | exact zz_l | exact zz_u | exact zz_r) only [xa_101, xa_102, xc_2 gc_5_edges_0, xc_2 gc_5_edges_2, xc_2 gc_5_edges_3, xc_2 gc_5_edges_5, xc_3 gc_5_edges_1, xc_3 gc_5_edges_4, xl_aload0, xl_iinc7a, xl_iinc7i, xl_iinc7n, xl_iinc8a, xl_iinc8i, xl_iinc8n, xl_iload1, xl_iload2, xl_iload3, xl_iload4, xl_iload5, xl_iload6, xl_iload7, xl_iload8, xl_istore5a, xl_istore5i, xl_istore5n, xl_istore6a, xl_istore6i, xl_istore6n, xl_istore7a, xl_istore7i, xl_istore7n, xl_istore8a, xl_istore8i, xl_istore8n, xm_f, xm_n, xm_t, xn_1, xn_2, xn_3, xn_5, xn_6, xn_7, xn_8, xo_0_0, xr_goto, xr_ic_gt, xr_ic_ne, xr_iconst, xr_if_eq, xr_if_ne, xr_iret, xr_ref, xtl_n, xtl_s, xz_i, xz_l, xz_n, xz_r, wb_5_edges_0, wb_5_edges_1, wb_5_edges_2, wb_5_edges_3, wb_5_edges_5, wb_5_edges_6, wb_5_edges_7, wb_5_edges_8, wb_5_edges_9, zz_b, zz_bn, Classical.not_not, true_and, Nat.reduceAdd, Nat.reduceLeDiff, eq_self, true_implies, false_implies, implies_true, not_true_eq_false, not_false_eq_true, and_true, false_and, and_false, if_true, if_false, Int.reduceEq, Int.reduceSub, Int.reduceAdd, Int.reduceMul, Int.reduceNeg, Int.reduceLT, Int.reduceLE, Int.add_zero]
                  have q := ih none none none (fun z3 k hk => by
                    by_cases e : k = d
                    · subst e; exact z
                    · exact hno z3 k (by omega))
                  rw [cnF_n z, show lo + ((d + 1 : Nat) : Int) = lo + d + 1 by omega] at q
                  exact q
            have q := fun l1 l2 l5 => key 0 (Nat.zero_le _) l1 l2 l5 (fun _ k hk => absurd hk (Nat.not_lt_zero k))
            rw [show lo + ((0 : Nat) : Int) = lo by omega] at q
            exact q _ _ _
        · simp (disch := first | assumption | omega | exact zc_lo | exact zc_hi | exact zz_l | exact zz_u | exact zz_r) only [xa_101, xa_102, xc_2 gc_5_edges_0, xc_2 gc_5_edges_2, xc_2 gc_5_edges_3, xc_2 gc_5_edges_5, xc_3 gc_5_edges_1, xc_3 gc_5_edges_4, xl_aload0, xl_iinc7a, xl_iinc7i, xl_iinc7n, xl_iinc8a, xl_iinc8i, xl_iinc8n, xl_iload1, xl_iload2, xl_iload3, xl_iload4, xl_iload5, xl_iload6, xl_iload7, xl_iload8, xl_istore5a, xl_istore5i, xl_istore5n, xl_istore6a, xl_istore6i, xl_istore6n, xl_istore7a, xl_istore7i, xl_istore7n, xl_istore8a, xl_istore8i, xl_istore8n, xm_f, xm_n, xm_t, xn_1, xn_2, xn_3, xn_5, xn_6, xn_7, xn_8, xo_0_0, xr_goto, xr_ic_gt, xr_ic_ne, xr_iconst, xr_if_eq, xr_if_ne, xr_iret, xr_ref, xtl_n, xtl_s, xz_i, xz_l, xz_n, xz_r, wb_5_edges_0, wb_5_edges_1, wb_5_edges_2, wb_5_edges_3, wb_5_edges_5, wb_5_edges_6, wb_5_edges_7, wb_5_edges_8, wb_5_edges_9, ss_5_edges, xa_59, xc_2 gc_6_edges_0, xc_2 gc_6_edges_2, xc_2 gc_6_edges_3, xc_3 gc_6_edges_1, xc_3 gc_6_edges_4, xc_3 gc_6_edges_5, xc_3 gc_6_edges_6, xl_aload0, xl_iinc9a, xl_iinc9i, xl_iinc9n, xl_iload1, xl_iload10, xl_iload2, xl_iload3, xl_iload4, xl_iload5, xl_iload6, xl_iload7, xl_iload8, xl_iload9, xl_istore10a, xl_istore10i, xl_istore10n, xl_istore5a, xl_istore5i, xl_istore5n, xl_istore6a, xl_istore6i, xl_istore6n, xl_istore7a, xl_istore7i, xl_istore7n, xl_istore8a, xl_istore8i, xl_istore8n, xl_istore9a, xl_istore9i, xl_istore9n, xm_f, xm_n, xm_t, xn_1, xn_10, xn_11, xn_2, xn_3, xn_5, xn_7, xn_9, xo_53_7, xr_goto, xr_iadd, xr_ic_lt, xr_iconst, xr_if_eq, xr_if_ge, xr_if_ne, xr_imul, xr_iret, xtl_n, xtl_s, xz_i, xz_l, xz_n, xz_r, wb_6_edges_0, wb_6_edges_1, wb_6_edges_2, wb_6_edges_3, wb_6_edges_5, wb_6_edges_6, wb_6_edges_7, wb_6_edges_8, wb_6_edges_9, wb_6_edges_10, wb_6_edges_11, wb_6_edges_12, ss_6_edges, zz_b, zz_bn, Classical.not_not, true_and, Nat.reduceAdd, Nat.reduceLeDiff, sp_0_hasRank, sp_6_isRank, sp_5_isWithin, sp_6_in, sp_5_finding, sp_6_finds, l0, t0, c1, c1b, c2, c3, c4, true_implies, false_implies, implies_true, not_true_eq_false, not_false_eq_true, and_true, false_and, and_false, if_true, if_false, Int.reduceEq, Int.reduceSub, Int.reduceAdd, Int.reduceMul, Int.reduceNeg, Int.reduceLT, Int.reduceLE, Int.add_zero]
          exact fnd h 0 (by omega) (by omega)
      · simp (disch := first | assumption | omega | exact zc_lo | exact zc_hi | exact zz_l | exact zz_u | exact zz_r) only [xa_101, xa_102, xc_2 gc_5_edges_0, xc_2 gc_5_edges_2, xc_2 gc_5_edges_3, xc_2 gc_5_edges_5, xc_3 gc_5_edges_1, xc_3 gc_5_edges_4, xl_aload0, xl_iinc7a, xl_iinc7i, xl_iinc7n, xl_iinc8a, xl_iinc8i, xl_iinc8n, xl_iload1, xl_iload2, xl_iload3, xl_iload4, xl_iload5, xl_iload6, xl_iload7, xl_iload8, xl_istore5a, xl_istore5i, xl_istore5n, xl_istore6a, xl_istore6i, xl_istore6n, xl_istore7a, xl_istore7i, xl_istore7n, xl_istore8a, xl_istore8i, xl_istore8n, xm_f, xm_n, xm_t, xn_1, xn_2, xn_3, xn_5, xn_6, xn_7, xn_8, xo_0_0, xr_goto, xr_ic_gt, xr_ic_ne, xr_iconst, xr_if_eq, xr_if_ne, xr_iret, xr_ref, xtl_n, xtl_s, xz_i, xz_l, xz_n, xz_r, wb_5_edges_0, wb_5_edges_1, wb_5_edges_2, wb_5_edges_3, wb_5_edges_5, wb_5_edges_6, wb_5_edges_7, wb_5_edges_8, wb_5_edges_9, ss_5_edges, xa_59, xc_2 gc_6_edges_0, xc_2 gc_6_edges_2, xc_2 gc_6_edges_3, xc_3 gc_6_edges_1, xc_3 gc_6_edges_4, xc_3 gc_6_edges_5, xc_3 gc_6_edges_6, xl_aload0, xl_iinc9a, xl_iinc9i, xl_iinc9n, xl_iload1, xl_iload10, xl_iload2, xl_iload3, xl_iload4, xl_iload5, xl_iload6, xl_iload7, xl_iload8, xl_iload9, xl_istore10a, xl_istore10i, xl_istore10n, xl_istore5a, xl_istore5i, xl_istore5n, xl_istore6a, xl_istore6i, xl_istore6n, xl_istore7a, xl_istore7i, xl_istore7n, xl_istore8a, xl_istore8i, xl_istore8n, xl_istore9a, xl_istore9i, xl_istore9n, xm_f, xm_n, xm_t, xn_1, xn_10, xn_11, xn_2, xn_3, xn_5, xn_7, xn_9, xo_53_7, xr_goto, xr_iadd, xr_ic_lt, xr_iconst, xr_if_eq, xr_if_ge, xr_if_ne, xr_imul, xr_iret, xtl_n, xtl_s, xz_i, xz_l, xz_n, xz_r, wb_6_edges_0, wb_6_edges_1, wb_6_edges_2, wb_6_edges_3, wb_6_edges_5, wb_6_edges_6, wb_6_edges_7, wb_6_edges_8, wb_6_edges_9, wb_6_edges_10, wb_6_edges_11, wb_6_edges_12, ss_6_edges, zz_b, zz_bn, Classical.not_not, true_and, Nat.reduceAdd, Nat.reduceLeDiff, sp_0_hasRank, sp_6_isRank, sp_5_isWithin, sp_6_in, sp_5_finding, sp_6_finds, l0, t0, c1, c1b, c2, c3, true_implies, false_implies, implies_true, not_true_eq_false, not_false_eq_true, and_true, false_and, and_false, if_true, if_false, Int.reduceEq, Int.reduceSub, Int.reduceAdd, Int.reduceMul, Int.reduceNeg, Int.reduceLT, Int.reduceLE, Int.add_zero]
        exact fnd h 0 (by omega) (by omega)
    · simp (disch := first | assumption | omega | exact zc_lo | exact zc_hi | exact zz_l | exact zz_u | exact zz_r) only [xa_101, xa_102, xc_2 gc_5_edges_0, xc_2 gc_5_edges_2, xc_2 gc_5_edges_3, xc_2 gc_5_edges_5, xc_3 gc_5_edges_1, xc_3 gc_5_edges_4, xl_aload0, xl_iinc7a, xl_iinc7i, xl_iinc7n, xl_iinc8a, xl_iinc8i, xl_iinc8n, xl_iload1, xl_iload2, xl_iload3, xl_iload4, xl_iload5, xl_iload6, xl_iload7, xl_iload8, xl_istore5a, xl_istore5i, xl_istore5n, xl_istore6a, xl_istore6i, xl_istore6n, xl_istore7a, xl_istore7i, xl_istore7n, xl_istore8a, xl_istore8i, xl_istore8n, xm_f, xm_n, xm_t, xn_1, xn_2, xn_3, xn_5, xn_6, xn_7, xn_8, xo_0_0, xr_goto, xr_ic_gt, xr_ic_ne, xr_iconst, xr_if_eq, xr_if_ne, xr_iret, xr_ref, xtl_n, xtl_s, xz_i, xz_l, xz_n, xz_r, wb_5_edges_0, wb_5_edges_1, wb_5_edges_2, wb_5_edges_3, wb_5_edges_5, wb_5_edges_6, wb_5_edges_7, wb_5_edges_8, wb_5_edges_9, ss_5_edges, xa_59, xc_2 gc_6_edges_0, xc_2 gc_6_edges_2, xc_2 gc_6_edges_3, xc_3 gc_6_edges_1, xc_3 gc_6_edges_4, xc_3 gc_6_edges_5, xc_3 gc_6_edges_6, xl_aload0, xl_iinc9a, xl_iinc9i, xl_iinc9n, xl_iload1, xl_iload10, xl_iload2, xl_iload3, xl_iload4, xl_iload5, xl_iload6, xl_iload7, xl_iload8, xl_iload9, xl_istore10a, xl_istore10i, xl_istore10n, xl_istore5a, xl_istore5i, xl_istore5n, xl_istore6a, xl_istore6i, xl_istore6n, xl_istore7a, xl_istore7i, xl_istore7n, xl_istore8a, xl_istore8i, xl_istore8n, xl_istore9a, xl_istore9i, xl_istore9n, xm_f, xm_n, xm_t, xn_1, xn_10, xn_11, xn_2, xn_3, xn_5, xn_7, xn_9, xo_53_7, xr_goto, xr_iadd, xr_ic_lt, xr_iconst, xr_if_eq, xr_if_ge, xr_if_ne, xr_imul, xr_iret, xtl_n, xtl_s, xz_i, xz_l, xz_n, xz_r, wb_6_edges_0, wb_6_edges_1, wb_6_edges_2, wb_6_edges_3, wb_6_edges_5, wb_6_edges_6, wb_6_edges_7, wb_6_edges_8, wb_6_edges_9, wb_6_edges_10, wb_6_edges_11, wb_6_edges_12, ss_6_edges, zz_b, zz_bn, Classical.not_not, true_and, Nat.reduceAdd, Nat.reduceLeDiff, sp_0_hasRank, sp_6_isRank, sp_5_isWithin, sp_6_in, sp_5_finding, sp_6_finds, l0, t0, c1, c1b, c2, true_implies, false_implies, implies_true, not_true_eq_false, not_false_eq_true, and_true, false_and, and_false, if_true, if_false, Int.reduceEq, Int.reduceSub, Int.reduceAdd, Int.reduceMul, Int.reduceNeg, Int.reduceLT, Int.reduceLE, Int.add_zero]
      exact fnd h 0 (by omega) (by omega)
  · have c1b : ¬ (0 ≤ r ∧ r ≤ i 30 - 1) := by omega
    simp (disch := first | assumption | omega | exact zc_lo | exact zc_hi | exact zz_l | exact zz_u | exact zz_r) only [xa_101, xa_102, xc_2 gc_5_edges_0, xc_2 gc_5_edges_2, xc_2 gc_5_edges_3, xc_2 gc_5_edges_5, xc_3 gc_5_edges_1, xc_3 gc_5_edges_4, xl_aload0, xl_iinc7a, xl_iinc7i, xl_iinc7n, xl_iinc8a, xl_iinc8i, xl_iinc8n, xl_iload1, xl_iload2, xl_iload3, xl_iload4, xl_iload5, xl_iload6, xl_iload7, xl_iload8, xl_istore5a, xl_istore5i, xl_istore5n, xl_istore6a, xl_istore6i, xl_istore6n, xl_istore7a, xl_istore7i, xl_istore7n, xl_istore8a, xl_istore8i, xl_istore8n, xm_f, xm_n, xm_t, xn_1, xn_2, xn_3, xn_5, xn_6, xn_7, xn_8, xo_0_0, xr_goto, xr_ic_gt, xr_ic_ne, xr_iconst, xr_if_eq, xr_if_ne, xr_iret, xr_ref, xtl_n, xtl_s, xz_i, xz_l, xz_n, xz_r, wb_5_edges_0, wb_5_edges_1, wb_5_edges_2, wb_5_edges_3, wb_5_edges_5, wb_5_edges_6, wb_5_edges_7, wb_5_edges_8, wb_5_edges_9, ss_5_edges, xa_59, xc_2 gc_6_edges_0, xc_2 gc_6_edges_2, xc_2 gc_6_edges_3, xc_3 gc_6_edges_1, xc_3 gc_6_edges_4, xc_3 gc_6_edges_5, xc_3 gc_6_edges_6, xl_aload0, xl_iinc9a, xl_iinc9i, xl_iinc9n, xl_iload1, xl_iload10, xl_iload2, xl_iload3, xl_iload4, xl_iload5, xl_iload6, xl_iload7, xl_iload8, xl_iload9, xl_istore10a, xl_istore10i, xl_istore10n, xl_istore5a, xl_istore5i, xl_istore5n, xl_istore6a, xl_istore6i, xl_istore6n, xl_istore7a, xl_istore7i, xl_istore7n, xl_istore8a, xl_istore8i, xl_istore8n, xl_istore9a, xl_istore9i, xl_istore9n, xm_f, xm_n, xm_t, xn_1, xn_10, xn_11, xn_2, xn_3, xn_5, xn_7, xn_9, xo_53_7, xr_goto, xr_iadd, xr_ic_lt, xr_iconst, xr_if_eq, xr_if_ge, xr_if_ne, xr_imul, xr_iret, xtl_n, xtl_s, xz_i, xz_l, xz_n, xz_r, wb_6_edges_0, wb_6_edges_1, wb_6_edges_2, wb_6_edges_3, wb_6_edges_5, wb_6_edges_6, wb_6_edges_7, wb_6_edges_8, wb_6_edges_9, wb_6_edges_10, wb_6_edges_11, wb_6_edges_12, ss_6_edges, zz_b, zz_bn, Classical.not_not, true_and, Nat.reduceAdd, Nat.reduceLeDiff, sp_0_hasRank, sp_6_isRank, sp_5_isWithin, sp_6_in, sp_5_finding, sp_6_finds, l0, t0, c1, c1b, true_implies, false_implies, implies_true, not_true_eq_false, not_false_eq_true, and_true, false_and, and_false, if_true, if_false, Int.reduceEq, Int.reduceSub, Int.reduceAdd, Int.reduceMul, Int.reduceNeg, Int.reduceLT, Int.reduceLE, Int.add_zero]
    exact fnd h 0 (by omega) (by omega)
end OQ2
