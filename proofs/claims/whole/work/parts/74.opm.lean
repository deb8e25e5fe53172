/-! CALLS OF BOTH: marches -/
def PL : List Nat := [40, 41, 42, 43, 45, 46]
theorem PL_SC : ∀ k ∈ PL, k ∈ SC := by decide
theorem PL_c : ∀ k ∈ PL, 14 ≤ k := by decide
section OPM
variable {N : Int} {n : Nat} {xs : Int → Int} {w : Nat → Nat} {a : Nat → Int → Int} {i : Nat → Int} {Q : dk_Q}
theorem oOK_8 {c : Nat → Int → Int} {k : Nat → Int} (hc : colN c k) : oOK c k (c 8) := fun r z1 z2 => by
  obtain ⟨⟨p1, p2⟩, ⟨s1, s2⟩, ⟨v1, v2⟩, ⟨n1, n2⟩, ⟨o1, o2⟩, ⟨d1, d2⟩, ⟨e1, e2⟩, ⟨k1, k2⟩, hr, ⟨m1, m2⟩, hd, ⟨b1, b2⟩, hb, hs, hz⟩ := id hc
  exact (hr r z1 z2).2.2.2.2.2
theorem wl {w : Nat → Nat} (hw : wP w) : hh_len (w 0) = some (0, 24) := by rcases hw with ⟨h1, h2⟩ | ⟨h1, h2⟩ <;> rw [h1] <;> rfl
theorem sp_5_setOut (hc : colN a i) (hw : wP w) : (∀ a2 i2, sA PL a a2 → sI [24] i i2 → SP a2 i2 a2 i2 → (∀ r, 0 ≤ r → r < 24 → a2 (w 0) r = a 8 r) → Q none (HH n xs w a2 i2)) → s_5_setOut [.inr (.inr 0)] (HH n xs w a i) Q := by
  intro hQ
  simp (disch := first | assumption | omega | exact zc_lo | exact zc_hi | exact zz_l | exact zz_u | exact zz_r) only [xc_1 gc_5_setOut_0, xc_1 gc_5_setOut_1, xl_aload0, xm_f, xm_n, xm_t, xo_0_5, xo_0_6, xr_vret, xtl_n, xtl_s, xz_i, xz_l, xz_n, xz_r, wb_5_setOut_0, ss_5_setOut, zz_b, zz_bn, Classical.not_not, true_and, Nat.reduceAdd, Nat.reduceLeDiff]
  refine sp_1_prepare hc (fun a2 hs2 hSP => ?_)
  simp (disch := first | assumption | omega | exact zc_lo | exact zc_hi | exact zz_l | exact zz_u | exact zz_r) only [xc_1 gc_5_setOut_0, xc_1 gc_5_setOut_1, xl_aload0, xm_f, xm_n, xm_t, xo_0_5, xo_0_6, xr_vret, xtl_n, xtl_s, xz_i, xz_l, xz_n, xz_r, wb_5_setOut_0, zz_b, zz_bn, Classical.not_not, true_and, Nat.reduceAdd, Nat.reduceLeDiff]
  refine sp_4_start_44 hw (fun f hf => ?_)
  simp (disch := first | assumption | omega | exact zc_lo | exact zc_hi | exact zz_l | exact zz_u | exact zz_r) only [xc_1 gc_5_setOut_0, xc_1 gc_5_setOut_1, xl_aload0, xm_f, xm_n, xm_t, xo_0_5, xo_0_6, xr_vret, xtl_n, xtl_s, xz_i, xz_l, xz_n, xz_r, wb_5_setOut_0, zz_b, zz_bn, Classical.not_not, true_and, Nat.reduceAdd, Nat.reduceLeDiff]
  have hin : w 0 ∈ PL := by rcases hw with ⟨h1, h2⟩ | ⟨h1, h2⟩ <;> rw [h1] <;> decide
  have hbig : 45 ≤ w 0 := by rcases hw with ⟨h1, h2⟩ | ⟨h1, h2⟩ <;> omega
  have hsA : sA PL a (dk_up a2 (w 0) f) := sA_up (sA_w hs2 (by decide)) hin _
  refine hQ _ _ hsA (sI_up sI_rf (by simp) _) ?_ (fun r z1 z2 => ?_)
  · exact SP_E (cE_of hsA PL_c) (fun j hj => up_n (by omega)) (SP_s (up_n (by omega)) (up_n (by omega)) (up_n (by omega)) (up_n (by omega)) hSP)
  · rw [up_s, hf r z1 z2, hs2 8 (by simp)]
/-- the class sets out and walks -/
theorem op_frame (h : Inv N w a i) {w2 : Nat → Nat} {a2 : Nat → Int → Int} {i2 : Nat → Int} (hw : wP w2) (hw2 : w2 2 = w 2) (hw3 : w2 3 = w 3) (hA : sA SC a a2) (hI : sI SJ i i2) : Inv N w2 a2 i2 := Inv_scr h hw (by have := h.1.2; unfold wQ at this ⊢; rw [hw2, hw3]; exact this) hA hI
theorem sp_walk (h : Inv N w a i) {M : Nat} (hM : M ≤ 200) {a2 : Nat → Int → Int} {i2 : Nat → Int} (hs : sA PL a a2) (hi : sI [24] i i2) (hSP : SP a2 i2 a2 i2) (h8 : ∀ r, 0 ≤ r → r < 24 → a2 (w 0) r = a 8 r) : (∀ w3 a3, wP w3 → Inv N w3 a3 i2 → sA PL a a3 → oE i (maF a i (a 8) M) (a3 (w3 0)) → Q none (HH n xs w3 a3 i2)) → s_4_walk [.inr (.inr 44), .inl M] (HH n xs w a2 i2) Q := by
  intro hQ
  have hc := h.2.1
  have k24 := hc.2.2.2.2.2.2.2.1.2
  have hkE : kE i i2 := fun j hj => hi j (by simp only [List.mem_cons, List.not_mem_nil, or_false]; omega)
  have hcE := cE_of hs PL_c
  have hE : oE i (a 8) (a2 (w 0)) := fun r z1 z2 => h8 r z1 (by omega)
  have ho : oOK a2 i2 (a2 (w 0)) := oOK_E hcE hkE (oOK_o hE (oOK_8 hc))
  refine sp_4_walk_44 (colN_E hcE hkE hc) hSP h.1.1 ho hM (fun w3 a3 hw3 hww hs3 hoe => ?_)
  have hs4 : sA PL a a3 := sA_tr hs (sA_w hs3 (by decide))
  refine hQ w3 a3 hw3 (op_frame h hw3 (hww 2 (by omega) (by omega)) (hww 3 (by omega) (by omega)) (sA_w hs4 PL_SC) (sI_w hi (by decide))) hs4 (fun r z1 z2 => ?_)
  rw [hoe r z1 (by rw [hkE 0 (by omega)]; exact z2), maF_E hcE hkE]
  exact maF_o hE M r z1 z2
/-- the reference marches, from any state that is alike -/
theorem sp_mmarch (h : Inv N w a i) : colN (mv a) (mi i) ∧ oOK (mv a) (mi i) (a 58) ∧ (0 ≤ i 30 ∧ i 30 ≤ 24) ∧ i 30 = i 0 ∧ ∀ M, oE i (maF a i (a 8) M) (maF (mv a) (mi i) (a 58) M) := by
  have hc := h.2.1
  have hag := h.2.2.1
  have hm := colN_A hag hc
  have hmm := hm
  obtain ⟨⟨p1, p2⟩, ⟨s1, s2⟩, ⟨v1, v2⟩, ⟨n1, n2⟩, ⟨o1, o2⟩, ⟨d1, d2⟩, ⟨e1, e2⟩, ⟨k1, k2⟩, hr, ⟨m1, m2⟩, hd, ⟨b1, b2⟩, hb, hs, hz⟩ := id hm
  refine ⟨hmm, oOK_8 hmm, ⟨k1, k2⟩, hag.1 0 (by omega), fun M => maF_A hag hc (fun r z1 z2 => (hag.2.2.1 r z1 z2).2.2.2.2.2) M⟩
theorem mA {b : Nat → Int → Int} (hs : sA [65, 66] a b) : sA SC a b := sA_w hs (by decide)
theorem kE_24 {i2 : Nat → Int} (hi2 : sI [24] i i2) : kE i i2 := fun j hj => hi2 j (by simp only [List.mem_cons, List.not_mem_nil, or_false]; omega)
theorem ma_eq {w3 : Nat → Nat} {a3 : Nat → Int → Int} {i2 : Nat → Int} (hI3 : Inv N w3 a3 i2) (hs3 : sA PL a a3) (hi2 : sI [24] i i2) (M : Nat) : oE i (maF a i (a 8) M) (maF (mv a3) (mi i2) (a3 58) M) := fun r z1 z2 => by
  obtain ⟨hmc3, hmo3, hn3, he3, hma3⟩ := sp_mmarch hI3
  have hcE := cE_of hs3 PL_c
  rw [hma3 M r z1 (by rw [kE_24 hi2 0 (by omega)]; exact z2), maF_E hcE (kE_24 hi2), hs3 8 (by decide)]
theorem op_march (h : Inv N w a i) {x y : Int} (x1 : -2147483648 ≤ x) (x2 : x ≤ 2147483647) (y1 : -2147483648 ≤ y) (y2 : y ≤ 2147483647) : s_5_march [.inr (.inr 0), .inl x, .inl y] (HH n xs w a i) (fun r h => s_6_march [.inr (.inr 53), .inl x, .inl y] h (OPQ n xs N r)) := by
  have hc := h.2.1
  have hag := h.2.2.1
  have hmc := colN_A hag hc
  obtain ⟨⟨p1, p2⟩, ⟨s1, s2⟩, ⟨v1, v2⟩, ⟨n1, n2⟩, ⟨o1, o2⟩, ⟨d1, d2⟩, ⟨e1, e2⟩, ⟨k1, k2⟩, hr, ⟨m1, m2⟩, hd, ⟨b1, b2⟩, hb, hs, hz⟩ := id hc
  obtain ⟨hkE, hA2, hA3, hA4, hA5, hA6⟩ := id hag
  have K0 : i 30 = i 0 := hkE 0 (by omega)
  have K1 : i 31 = i 1 := hkE 1 (by omega)
  have K2 : i 32 = i 2 := hkE 2 (by omega)
  have K3 : i 33 = i 3 := hkE 3 (by omega)
  have R0 : a 54 0 = a 2 0 := hA2 0 (by omega) (by omega)
  have R1 : a 54 1 = a 2 1 := hA2 1 (by omega) (by omega)
  have R2 : a 54 2 = a 2 2 := hA2 2 (by omega) (by omega)
  have R3 : a 54 3 = a 2 3 := hA2 3 (by omega) (by omega)
  have R4 : a 54 4 = a 2 4 := hA2 4 (by omega) (by omega)
  have R5 : a 54 5 = a 2 5 := hA2 5 (by omega) (by omega)
  have R6 : a 54 6 = a 2 6 := hA2 6 (by omega) (by omega)
  by_cases c1 : 0 ≤ x ∧ x < i 0
  · have c3 : 0 ≤ x ∧ x ≤ i 30 - 1 := by omega
    by_cases c2 : 0 ≤ y ∧ y ≤ 200
    · obtain ⟨M, rfl⟩ := nat_of c2.1
      simp (disch := first | assumption | omega | exact zc_lo | exact zc_hi | exact zz_l | exact zz_u | exact zz_r) only [xc_1 gc_5_march_1, xc_1 gc_5_march_3, xc_2 gc_5_march_0, xc_2 gc_5_march_2, xc_2 gc_5_march_4, xl_aload0, xl_iload1, xl_iload2, xm_f, xm_n, xm_t, xn_1, xn_2, xo_0_0, xo_0_6, xo_44_2, xo_47_2, xr_goto, xr_iconst, xr_if_eq, xr_if_ne, xr_iret, xtl_n, xtl_s, xz_i, xz_l, xz_n, xz_r, wb_5_march_0, wb_5_march_1, wb_5_march_2, ss_5_march, zz_b, zz_bn, Classical.not_not, true_and, Nat.reduceAdd, Nat.reduceLeDiff, sp_0_hasRank, sp_5_isMarch, c1, c2, true_implies, false_implies, implies_true, not_true_eq_false, not_false_eq_true, and_true, false_and, and_false, if_true, if_false, Int.reduceEq, Int.reduceSub, Int.reduceAdd, Int.reduceMul, Int.reduceNeg, Int.reduceLT, Int.reduceLE, Int.add_zero]
      refine sp_5_setOut hc h.1.1 (fun a2 i2 hs2 hi2 hSP h8 => ?_)
      simp (disch := first | assumption | omega | exact zc_lo | exact zc_hi | exact zz_l | exact zz_u | exact zz_r) only [xc_1 gc_5_march_1, xc_1 gc_5_march_3, xc_2 gc_5_march_0, xc_2 gc_5_march_2, xc_2 gc_5_march_4, xl_aload0, xl_iload1, xl_iload2, xm_f, xm_n, xm_t, xn_1, xn_2, xo_0_0, xo_0_6, xo_44_2, xo_47_2, xr_goto, xr_iconst, xr_if_eq, xr_if_ne, xr_iret, xtl_n, xtl_s, xz_i, xz_l, xz_n, xz_r, wb_5_march_0, wb_5_march_1, wb_5_march_2, zz_b, zz_bn, Classical.not_not, true_and, Nat.reduceAdd, Nat.reduceLeDiff, true_implies, false_implies, implies_true, not_true_eq_false, not_false_eq_true, and_true, false_and, and_false, if_true, if_false, Int.reduceEq, Int.reduceSub, Int.reduceAdd, Int.reduceMul, Int.reduceNeg, Int.reduceLT, Int.reduceLE, Int.add_zero]
      refine sp_walk h (by omega) hs2 hi2 hSP h8 (fun w3 a3 hw3 hI3 hs3 ho3 => ?_)
      have x24 : x < 24 := by omega
      simp (disch := first | assumption | omega | exact zc_lo | exact zc_hi | exact zz_l | exact zz_u | exact zz_r) only [xc_1 gc_5_march_1, xc_1 gc_5_march_3, xc_2 gc_5_march_0, xc_2 gc_5_march_2, xc_2 gc_5_march_4, xl_aload0, xl_iload1, xl_iload2, xm_f, xm_n, xm_t, xn_1, xn_2, xo_0_0, xo_0_6, xo_44_2, xo_47_2, xr_goto, xr_iconst, xr_if_eq, xr_if_ne, xr_iret, xtl_n, xtl_s, xz_i, xz_l, xz_n, xz_r, wb_5_march_0, wb_5_march_1, wb_5_march_2, zz_b, zz_bn, Classical.not_not, true_and, Nat.reduceAdd, Nat.reduceLeDiff, xa_w (wl hw3) c1.1 x24 (by omega), true_implies, false_implies, implies_true, not_true_eq_false, not_false_eq_true, and_true, false_and, and_false, if_true, if_false, Int.reduceEq, Int.reduceSub, Int.reduceAdd, Int.reduceMul, Int.reduceNeg, Int.reduceLT, Int.reduceLE, Int.add_zero]
      have hk0 : i2 0 = i 0 := hi2 0 (by simp)
      obtain ⟨hmc3, hmo3, hn3, he3, hma3⟩ := sp_mmarch hI3
      have c4 : 0 ≤ x ∧ x ≤ i2 30 - 1 := by rw [he3, hk0]; omega
      have hcE := cE_of hs3 PL_c
      have hkE3 : kE i i2 := fun j hj => hi2 j (by simp only [List.mem_cons, List.not_mem_nil, or_false]; omega)
      simp (disch := first | assumption | omega | exact zc_lo | exact zc_hi | exact zz_l | exact zz_u | exact zz_r) only [xa_65, xc_1 gc_6_march_3, xc_2 gc_6_march_0, xc_2 gc_6_march_2, xc_2 gc_6_march_4, xc_3 gc_6_march_1, xl_aload0, xl_iload1, xl_iload2, xm_f, xm_n, xm_t, xn_1, xn_2, xo_53_23, xr_goto, xr_iconst, xr_if_eq, xr_if_ne, xr_iret, xtl_n, xtl_s, xz_i, xz_l, xz_n, xz_r, wb_6_march_0, wb_6_march_1, wb_6_march_2, ss_6_march, zz_b, zz_bn, Classical.not_not, true_and, Nat.reduceAdd, Nat.reduceLeDiff, sp_6_isRank, sp_6_in, c4, c2, true_implies, false_implies, implies_true, not_true_eq_false, not_false_eq_true, and_true, false_and, and_false, if_true, if_false, Int.reduceEq, Int.reduceSub, Int.reduceAdd, Int.reduceMul, Int.reduceNeg, Int.reduceLT, Int.reduceLE, Int.add_zero]
      refine sp_6_beginMarch hn3 (fun a4 hs4 h4 => ?_)
      simp (disch := first | assumption | omega | exact zc_lo | exact zc_hi | exact zz_l | exact zz_u | exact zz_r) only [xa_65, xc_1 gc_6_march_3, xc_2 gc_6_march_0, xc_2 gc_6_march_2, xc_2 gc_6_march_4, xc_3 gc_6_march_1, xl_aload0, xl_iload1, xl_iload2, xm_f, xm_n, xm_t, xn_1, xn_2, xo_53_23, xr_goto, xr_iconst, xr_if_eq, xr_if_ne, xr_iret, xtl_n, xtl_s, xz_i, xz_l, xz_n, xz_r, wb_6_march_0, wb_6_march_1, wb_6_march_2, zz_b, zz_bn, Classical.not_not, true_and, Nat.reduceAdd, Nat.reduceLeDiff, true_implies, false_implies, implies_true, not_true_eq_false, not_false_eq_true, and_true, false_and, and_false, if_true, if_false, Int.reduceEq, Int.reduceSub, Int.reduceAdd, Int.reduceMul, Int.reduceNeg, Int.reduceLT, Int.reduceLE, Int.add_zero]
      have hE4 := mv_E hs4 (by simp)
      refine sp_6_goesOn (by rw [hE4]; exact hmc3) (by rw [hE4]; exact oOK_o h4 hmo3) (by omega) (fun a5 hs5 h5 => ?_)
      simp (disch := first | assumption | omega | exact zc_lo | exact zc_hi | exact zz_l | exact zz_u | exact zz_r) only [xa_65, xc_1 gc_6_march_3, xc_2 gc_6_march_0, xc_2 gc_6_march_2, xc_2 gc_6_march_4, xc_3 gc_6_march_1, xl_aload0, xl_iload1, xl_iload2, xm_f, xm_n, xm_t, xn_1, xn_2, xo_53_23, xr_goto, xr_iconst, xr_if_eq, xr_if_ne, xr_iret, xtl_n, xtl_s, xz_i, xz_l, xz_n, xz_r, wb_6_march_0, wb_6_march_1, wb_6_march_2, zz_b, zz_bn, Classical.not_not, true_and, Nat.reduceAdd, Nat.reduceLeDiff, true_implies, false_implies, implies_true, not_true_eq_false, not_false_eq_true, and_true, false_and, and_false, if_true, if_false, Int.reduceEq, Int.reduceSub, Int.reduceAdd, Int.reduceMul, Int.reduceNeg, Int.reduceLT, Int.reduceLE, Int.add_zero]
      have e1 : a3 (w3 0) x = maF a i (a 8) M x := ho3 x c1.1 c1.2
      have e2 : a5 65 x = maF a i (a 8) M x := by
        rw [h5 x c1.1 (by show x < i2 30; omega), hE4]
        rw [maF_o h4 M x c1.1 (by show x < i2 30; omega)]
        rw [hma3 M x c1.1 (by omega), maF_E hcE hkE3, hs3 8 (by decide)]
      have bd := oOK.b hc (maF_ok hc (oOK_8 hc) M) c1.1 c1.2
      rw [e1, e2]
      exact OPQ_i (by omega) (by omega) (Inv_1 (Inv_scr hI3 hI3.1.1 hI3.1.2 (sA_tr (sA_w hs4 (by decide)) (mA hs5)) sI_rf))
    · simp (disch := first | assumption | omega | exact zc_lo | exact zc_hi | exact zz_l | exact zz_u | exact zz_r) only [xc_1 gc_5_march_1, xc_1 gc_5_march_3, xc_2 gc_5_march_0, xc_2 gc_5_march_2, xc_2 gc_5_march_4, xl_aload0, xl_iload1, xl_iload2, xm_f, xm_n, xm_t, xn_1, xn_2, xo_0_0, xo_0_6, xo_44_2, xo_47_2, xr_goto, xr_iconst, xr_if_eq, xr_if_ne, xr_iret, xtl_n, xtl_s, xz_i, xz_l, xz_n, xz_r, wb_5_march_0, wb_5_march_1, wb_5_march_2, ss_5_march, xa_65, xc_1 gc_6_march_3, xc_2 gc_6_march_0, xc_2 gc_6_march_2, xc_2 gc_6_march_4, xc_3 gc_6_march_1, xl_aload0, xl_iload1, xl_iload2, xm_f, xm_n, xm_t, xn_1, xn_2, xo_53_23, xr_goto, xr_iconst, xr_if_eq, xr_if_ne, xr_iret, xtl_n, xtl_s, xz_i, xz_l, xz_n, xz_r, wb_6_march_0, wb_6_march_1, wb_6_march_2, ss_6_march, zz_b, zz_bn, Classical.not_not, true_and, Nat.reduceAdd, Nat.reduceLeDiff, sp_0_hasRank, sp_5_isMarch, sp_6_isRank, sp_6_in, sp_5_finding, sp_6_finds, c1, c2, c3, true_implies, false_implies, implies_true, not_true_eq_false, not_false_eq_true, and_true, false_and, and_false, if_true, if_false, Int.reduceEq, Int.reduceSub, Int.reduceAdd, Int.reduceMul, Int.reduceNeg, Int.reduceLT, Int.reduceLE, Int.add_zero]
      exact fnd h 0 (by omega) (by omega)
  · have c3 : ¬ (0 ≤ x ∧ x ≤ i 30 - 1) := by omega
    simp (disch := first | assumption | omega | exact zc_lo | exact zc_hi | exact zz_l | exact zz_u | exact zz_r) only [xc_1 gc_5_march_1, xc_1 gc_5_march_3, xc_2 gc_5_march_0, xc_2 gc_5_march_2, xc_2 gc_5_march_4, xl_aload0, xl_iload1, xl_iload2, xm_f, xm_n, xm_t, xn_1, xn_2, xo_0_0, xo_0_6, xo_44_2, xo_47_2, xr_goto, xr_iconst, xr_if_eq, xr_if_ne, xr_iret, xtl_n, xtl_s, xz_i, xz_l, xz_n, xz_r, wb_5_march_0, wb_5_march_1, wb_5_march_2, ss_5_march, xa_65, xc_1 gc_6_march_3, xc_2 gc_6_march_0, xc_2 gc_6_march_2, xc_2 gc_6_march_4, xc_3 gc_6_march_1, xl_aload0, xl_iload1, xl_iload2, xm_f, xm_n, xm_t, xn_1, xn_2, xo_53_23, xr_goto, xr_iconst, xr_if_eq, xr_if_ne, xr_iret, xtl_n, xtl_s, xz_i, xz_l, xz_n, xz_r, wb_6_march_0, wb_6_march_1, wb_6_march_2, ss_6_march, zz_b, zz_bn, Classical.not_not, true_and, Nat.reduceAdd, Nat.reduceLeDiff, sp_0_hasRank, sp_5_isMarch, sp_6_isRank, sp_6_in, sp_5_finding, sp_6_finds, c1, c3, true_implies, false_implies, implies_true, not_true_eq_false, not_false_eq_true, and_true, false_and, and_false, if_true, if_false, Int.reduceEq, Int.reduceSub, Int.reduceAdd, Int.reduceMul, Int.reduceNeg, Int.reduceLT, Int.reduceLE, Int.add_zero]
    exact fnd h 0 (by omega) (by omega)
theorem woF_b (hc : colN a i) (M : Nat) : 0 ≤ woF (maF a i (a 8) M) (i 0).toNat ∧ woF (maF a i (a 8) M) (i 0).toNat ≤ 1000 := by
  have k1 := hc.2.2.2.2.2.2.2.1.1
  exact woF_bd (by omega) _ (fun r z1 z2 => oOK.b hc (maF_ok hc (oOK_8 hc) M) z1 (by omega))
theorem op_worst (h : Inv N w a i) {y : Int} (y1 : -2147483648 ≤ y) (y2 : y ≤ 2147483647) : s_5_worst [.inr (.inr 0), .inl y] (HH n xs w a i) (fun r h => s_6_worst [.inr (.inr 53), .inl y] h (OPQ n xs N r)) := by
  have hc := h.2.1
  have hag := h.2.2.1
  have hmc := colN_A hag hc
  obtain ⟨⟨p1, p2⟩, ⟨s1, s2⟩, ⟨v1, v2⟩, ⟨n1, n2⟩, ⟨o1, o2⟩, ⟨d1, d2⟩, ⟨e1, e2⟩, ⟨k1, k2⟩, hr, ⟨m1, m2⟩, hd, ⟨b1, b2⟩, hb, hs, hz⟩ := id hc
  obtain ⟨hkE, hA2, hA3, hA4, hA5, hA6⟩ := id hag
  have K0 : i 30 = i 0 := hkE 0 (by omega)
  have K1 : i 31 = i 1 := hkE 1 (by omega)
  have K2 : i 32 = i 2 := hkE 2 (by omega)
  have K3 : i 33 = i 3 := hkE 3 (by omega)
  have R0 : a 54 0 = a 2 0 := hA2 0 (by omega) (by omega)
  have R1 : a 54 1 = a 2 1 := hA2 1 (by omega) (by omega)
  have R2 : a 54 2 = a 2 2 := hA2 2 (by omega) (by omega)
  have R3 : a 54 3 = a 2 3 := hA2 3 (by omega) (by omega)
  have R4 : a 54 4 = a 2 4 := hA2 4 (by omega) (by omega)
  have R5 : a 54 5 = a 2 5 := hA2 5 (by omega) (by omega)
  have R6 : a 54 6 = a 2 6 := hA2 6 (by omega) (by omega)
  by_cases c2 : 0 ≤ y ∧ y ≤ 200
  · by_cases c1 : i 0 = 0
    · simp (disch := first | assumption | omega | exact zc_lo | exact zc_hi | exact zz_l | exact zz_u | exact zz_r) only [xc_1 gc_5_worst_0, xc_1 gc_5_worst_2, xc_2 gc_5_worst_1, xc_2 gc_5_worst_3, xc_2 gc_5_worst_4, xl_aload0, xl_iload1, xm_f, xm_n, xm_t, xn_1, xn_2, xo_0_0, xo_0_6, xo_1_1, xo_44_2, xo_47_2, xr_iconst, xr_if_ne, xr_iret, xtl_n, xtl_s, xz_i, xz_l, xz_n, xz_r, wb_5_worst_0, wb_5_worst_1, wb_5_worst_2, ss_5_worst, xc_2 gc_6_worst_1, xc_2 gc_6_worst_2, xc_3 gc_6_worst_0, xl_aload0, xl_iload1, xm_f, xm_n, xm_t, xn_1, xn_2, xo_53_3, xr_goto, xr_iconst, xr_if_ne, xr_iret, xtl_n, xtl_s, xz_i, xz_l, xz_n, xz_r, wb_6_worst_0, wb_6_worst_1, wb_6_worst_2, wb_6_worst_3, ss_6_worst, zz_b, zz_bn, Classical.not_not, true_and, Nat.reduceAdd, Nat.reduceLeDiff, sp_5_isMarch, sp_6_in, sp_5_finding, sp_6_finds, c2, K0, c1, true_implies, false_implies, implies_true, not_true_eq_false, not_false_eq_true, and_true, false_and, and_false, if_true, if_false, Int.reduceEq, Int.reduceSub, Int.reduceAdd, Int.reduceMul, Int.reduceNeg, Int.reduceLT, Int.reduceLE, Int.add_zero]
      exact fnd h 3 (by omega) (by omega)
    · obtain ⟨M, rfl⟩ := nat_of c2.1
      simp (disch := first | assumption | omega | exact zc_lo | exact zc_hi | exact zz_l | exact zz_u | exact zz_r) only [xc_1 gc_5_worst_0, xc_1 gc_5_worst_2, xc_2 gc_5_worst_1, xc_2 gc_5_worst_3, xc_2 gc_5_worst_4, xl_aload0, xl_iload1, xm_f, xm_n, xm_t, xn_1, xn_2, xo_0_0, xo_0_6, xo_1_1, xo_44_2, xo_47_2, xr_iconst, xr_if_ne, xr_iret, xtl_n, xtl_s, xz_i, xz_l, xz_n, xz_r, wb_5_worst_0, wb_5_worst_1, wb_5_worst_2, ss_5_worst, zz_b, zz_bn, Classical.not_not, true_and, Nat.reduceAdd, Nat.reduceLeDiff, sp_5_isMarch, c1, c2, true_implies, false_implies, implies_true, not_true_eq_false, not_false_eq_true, and_true, false_and, and_false, if_true, if_false, Int.reduceEq, Int.reduceSub, Int.reduceAdd, Int.reduceMul, Int.reduceNeg, Int.reduceLT, Int.reduceLE, Int.add_zero]
      refine sp_5_setOut hc h.1.1 (fun a2 i2 hs2 hi2 hSP h8 => ?_)
      simp (disch := first | assumption | omega | exact zc_lo | exact zc_hi | exact zz_l | exact zz_u | exact zz_r) only [xc_1 gc_5_worst_0, xc_1 gc_5_worst_2, xc_2 gc_5_worst_1, xc_2 gc_5_worst_3, xc_2 gc_5_worst_4, xl_aload0, xl_iload1, xm_f, xm_n, xm_t, xn_1, xn_2, xo_0_0, xo_0_6, xo_1_1, xo_44_2, xo_47_2, xr_iconst, xr_if_ne, xr_iret, xtl_n, xtl_s, xz_i, xz_l, xz_n, xz_r, wb_5_worst_0, wb_5_worst_1, wb_5_worst_2, zz_b, zz_bn, Classical.not_not, true_and, Nat.reduceAdd, Nat.reduceLeDiff, true_implies, false_implies, implies_true, not_true_eq_false, not_false_eq_true, and_true, false_and, and_false, if_true, if_false, Int.reduceEq, Int.reduceSub, Int.reduceAdd, Int.reduceMul, Int.reduceNeg, Int.reduceLT, Int.reduceLE, Int.add_zero]
      refine sp_walk h (by omega) hs2 hi2 hSP h8 (fun w3 a3 hw3 hI3 hs3 ho3 => ?_)
      have hk0 : i2 0 = i 0 := hi2 0 (by simp)
      obtain ⟨hmc3, hmo3, hn3, he3, hma3⟩ := sp_mmarch hI3
      have bd := woF_b hc M
      have ob : ∀ r : Int, 0 ≤ r → r < i2 0 → -1000 ≤ a3 (w3 0) r ∧ a3 (w3 0) r ≤ 1000 := fun r z1 z2 => by
        rw [hk0] at z2
        rw [ho3 r z1 z2]
        exact oOK.b hc (maF_ok hc (oOK_8 hc) M) z1 z2
      have e1 : woF (a3 (w3 0)) (i2 0).toNat = woF (maF a i (a 8) M) (i 0).toNat := by
        rw [hk0]
        exact woF_o _ (fun r z1 z2 => ho3 r z1 (by omega))
      simp (disch := first | assumption | omega | exact zc_lo | exact zc_hi | exact zz_l | exact zz_u | exact zz_r) only [xc_1 gc_5_worst_0, xc_1 gc_5_worst_2, xc_2 gc_5_worst_1, xc_2 gc_5_worst_3, xc_2 gc_5_worst_4, xl_aload0, xl_iload1, xm_f, xm_n, xm_t, xn_1, xn_2, xo_0_0, xo_0_6, xo_1_1, xo_44_2, xo_47_2, xr_iconst, xr_if_ne, xr_iret, xtl_n, xtl_s, xz_i, xz_l, xz_n, xz_r, wb_5_worst_0, wb_5_worst_1, wb_5_worst_2, zz_b, zz_bn, Classical.not_not, true_and, Nat.reduceAdd, Nat.reduceLeDiff, true_implies, false_implies, implies_true, not_true_eq_false, not_false_eq_true, and_true, false_and, and_false, if_true, if_false, Int.reduceEq, Int.reduceSub, Int.reduceAdd, Int.reduceMul, Int.reduceNeg, Int.reduceLT, Int.reduceLE, Int.add_zero]
      refine sp_0_worstOf (by rw [hk0]; exact ⟨k1, k2⟩) (wl hw3) ob ?_
      rw [e1]
      have c3 : ¬ i2 30 = 0 := by omega
      simp (disch := first | assumption | omega | exact zc_lo | exact zc_hi | exact zz_l | exact zz_u | exact zz_r) only [xc_1 gc_5_worst_0, xc_1 gc_5_worst_2, xc_2 gc_5_worst_1, xc_2 gc_5_worst_3, xc_2 gc_5_worst_4, xl_aload0, xl_iload1, xm_f, xm_n, xm_t, xn_1, xn_2, xo_0_0, xo_0_6, xo_1_1, xo_44_2, xo_47_2, xr_iconst, xr_if_ne, xr_iret, xtl_n, xtl_s, xz_i, xz_l, xz_n, xz_r, wb_5_worst_0, wb_5_worst_1, wb_5_worst_2, xc_2 gc_6_worst_1, xc_2 gc_6_worst_2, xc_3 gc_6_worst_0, xl_aload0, xl_iload1, xm_f, xm_n, xm_t, xn_1, xn_2, xo_53_3, xr_goto, xr_iconst, xr_if_ne, xr_iret, xtl_n, xtl_s, xz_i, xz_l, xz_n, xz_r, wb_6_worst_0, wb_6_worst_1, wb_6_worst_2, wb_6_worst_3, ss_6_worst, zz_b, zz_bn, Classical.not_not, true_and, Nat.reduceAdd, Nat.reduceLeDiff, sp_6_in, c2, c3, true_implies, false_implies, implies_true, not_true_eq_false, not_false_eq_true, and_true, false_and, and_false, if_true, if_false, Int.reduceEq, Int.reduceSub, Int.reduceAdd, Int.reduceMul, Int.reduceNeg, Int.reduceLT, Int.reduceLE, Int.add_zero]
      refine sp_6_worstBehind hmc3 (by omega) (fun a4 hs4 h4 => ?_)
      simp (disch := first | assumption | omega | exact zc_lo | exact zc_hi | exact zz_l | exact zz_u | exact zz_r) only [xc_2 gc_6_worst_1, xc_2 gc_6_worst_2, xc_3 gc_6_worst_0, xl_aload0, xl_iload1, xm_f, xm_n, xm_t, xn_1, xn_2, xo_53_3, xr_goto, xr_iconst, xr_if_ne, xr_iret, xtl_n, xtl_s, xz_i, xz_l, xz_n, xz_r, wb_6_worst_0, wb_6_worst_1, wb_6_worst_2, wb_6_worst_3, zz_b, zz_bn, Classical.not_not, true_and, Nat.reduceAdd, Nat.reduceLeDiff, true_implies, false_implies, implies_true, not_true_eq_false, not_false_eq_true, and_true, false_and, and_false, if_true, if_false, Int.reduceEq, Int.reduceSub, Int.reduceAdd, Int.reduceMul, Int.reduceNeg, Int.reduceLT, Int.reduceLE, Int.add_zero]
      have e2 : woF (maF (mv a3) (mi i2) (a3 58) M) (i2 30).toNat = woF (maF a i (a 8) M) (i 0).toNat := by
        rw [he3, hk0]
        exact woF_o _ (fun r z1 z2 => ma_eq hI3 hs3 hi2 M r z1 (by omega))
      rw [e2]
      exact OPQ_i (by omega) (by omega) (Inv_1 (Inv_scr hI3 hI3.1.1 hI3.1.2 (mA hs4) sI_rf))
  · simp (disch := first | assumption | omega | exact zc_lo | exact zc_hi | exact zz_l | exact zz_u | exact zz_r) only [xc_1 gc_5_worst_0, xc_1 gc_5_worst_2, xc_2 gc_5_worst_1, xc_2 gc_5_worst_3, xc_2 gc_5_worst_4, xl_aload0, xl_iload1, xm_f, xm_n, xm_t, xn_1, xn_2, xo_0_0, xo_0_6, xo_1_1, xo_44_2, xo_47_2, xr_iconst, xr_if_ne, xr_iret, xtl_n, xtl_s, xz_i, xz_l, xz_n, xz_r, wb_5_worst_0, wb_5_worst_1, wb_5_worst_2, ss_5_worst, xc_2 gc_6_worst_1, xc_2 gc_6_worst_2, xc_3 gc_6_worst_0, xl_aload0, xl_iload1, xm_f, xm_n, xm_t, xn_1, xn_2, xo_53_3, xr_goto, xr_iconst, xr_if_ne, xr_iret, xtl_n, xtl_s, xz_i, xz_l, xz_n, xz_r, wb_6_worst_0, wb_6_worst_1, wb_6_worst_2, wb_6_worst_3, ss_6_worst, zz_b, zz_bn, Classical.not_not, true_and, Nat.reduceAdd, Nat.reduceLeDiff, sp_5_isMarch, sp_6_in, sp_5_finding, sp_6_finds, c2, true_implies, false_implies, implies_true, not_true_eq_false, not_false_eq_true, and_true, false_and, and_false, if_true, if_false, Int.reduceEq, Int.reduceSub, Int.reduceAdd, Int.reduceMul, Int.reduceNeg, Int.reduceLT, Int.reduceLE, Int.add_zero]
    exact fnd h 0 (by omega) (by omega)
/-- what is out, told anew on both sides -/
theorem Inv_out (h : Inv N w a i) {f g : Int → Int} (hf : ∀ r, 0 ≤ r → r < i 0 → -(a 2 0) < 2 * f r ∧ 2 * f r ≤ a 2 0) (hg : ∀ r, 0 ≤ r → r < i 0 → g r = f r) : Inv (N + 1) w (dk_up (dk_up a 8 f) 58 g) i := by
  have hfi := fi_ok h
  have hc := h.2.1
  have hag := h.2.2.1
  have hmc := colN_A hag hc
  obtain ⟨⟨p1, p2⟩, ⟨s1, s2⟩, ⟨v1, v2⟩, ⟨n1, n2⟩, ⟨o1, o2⟩, ⟨d1, d2⟩, ⟨e1, e2⟩, ⟨k1, k2⟩, hr, ⟨m1, m2⟩, hd, ⟨b1, b2⟩, hb, hs, hz⟩ := id hc
  obtain ⟨hkE, hA2, hA3, hA4, hA5, hA6⟩ := id hag
  have K0 : i 30 = i 0 := hkE 0 (by omega)
  have K1 : i 31 = i 1 := hkE 1 (by omega)
  have K2 : i 32 = i 2 := hkE 2 (by omega)
  have K3 : i 33 = i 3 := hkE 3 (by omega)
  have R0 : a 54 0 = a 2 0 := hA2 0 (by omega) (by omega)
  have R1 : a 54 1 = a 2 1 := hA2 1 (by omega) (by omega)
  have R2 : a 54 2 = a 2 2 := hA2 2 (by omega) (by omega)
  have R3 : a 54 3 = a 2 3 := hA2 3 (by omega) (by omega)
  have R4 : a 54 4 = a 2 4 := hA2 4 (by omega) (by omega)
  have R5 : a 54 5 = a 2 5 := hA2 5 (by omega) (by omega)
  have R6 : a 54 6 = a 2 6 := hA2 6 (by omega) (by omega)
  obtain ⟨g1, -, -, g4, g5, g6, -, g8⟩ := h
  refine ⟨g1, ⟨⟨p1, p2⟩, ⟨s1, s2⟩, ⟨v1, v2⟩, ⟨n1, n2⟩, ⟨o1, o2⟩, ⟨d1, d2⟩, ⟨e1, e2⟩, ⟨k1, k2⟩, fun r z1 z2 => ?_, ⟨m1, m2⟩, hd, ⟨b1, b2⟩, hb, hs, hz⟩, ⟨hkE, hA2, fun r z1 z2 => ?_, hA4, hA5, hA6⟩, g4, g5, g6, hfi, g8⟩
  · obtain ⟨q1, q2, q3, q4, q5, -⟩ := hr r z1 z2
    exact ⟨q1, q2, q3, q4, q5, hf r z1 z2⟩
  · obtain ⟨q1, q2, q3, q4, q5, -⟩ := hA3 r z1 z2
    exact ⟨q1, q2, q3, q4, q5, hg r z1 z2⟩
theorem up_cm {α : Type} {f : Nat → α} {j k : Nat} {x y : α} (h : ¬ j = k) : dk_up (dk_up f j x) k y = dk_up (dk_up f k y) j x := by
  funext t
  by_cases e : t = j
  · subst e; rw [up_n h, up_s, up_s]
  · by_cases e2 : t = k
    · subst e2; rw [up_s, up_n e, up_s]
    · rw [up_n e2, up_n e, up_n e, up_n e2]
theorem op_tread (h : Inv N w a i) {y : Int} (y1 : -2147483648 ≤ y) (y2 : y ≤ 2147483647) : s_5_tread [.inr (.inr 0), .inl y] (HH n xs w a i) (fun r h => s_6_tread [.inr (.inr 53), .inl y] h (OPQ n xs N r)) := by
  have hc := h.2.1
  have hag := h.2.2.1
  have hmc := colN_A hag hc
  obtain ⟨⟨p1, p2⟩, ⟨s1, s2⟩, ⟨v1, v2⟩, ⟨n1, n2⟩, ⟨o1, o2⟩, ⟨d1, d2⟩, ⟨e1, e2⟩, ⟨k1, k2⟩, hr, ⟨m1, m2⟩, hd, ⟨b1, b2⟩, hb, hs, hz⟩ := id hc
  obtain ⟨hkE, hA2, hA3, hA4, hA5, hA6⟩ := id hag
  have K0 : i 30 = i 0 := hkE 0 (by omega)
  have K1 : i 31 = i 1 := hkE 1 (by omega)
  have K2 : i 32 = i 2 := hkE 2 (by omega)
  have K3 : i 33 = i 3 := hkE 3 (by omega)
  have R0 : a 54 0 = a 2 0 := hA2 0 (by omega) (by omega)
  have R1 : a 54 1 = a 2 1 := hA2 1 (by omega) (by omega)
  have R2 : a 54 2 = a 2 2 := hA2 2 (by omega) (by omega)
  have R3 : a 54 3 = a 2 3 := hA2 3 (by omega) (by omega)
  have R4 : a 54 4 = a 2 4 := hA2 4 (by omega) (by omega)
  have R5 : a 54 5 = a 2 5 := hA2 5 (by omega) (by omega)
  have R6 : a 54 6 = a 2 6 := hA2 6 (by omega) (by omega)
  by_cases c2 : 1 ≤ y ∧ y ≤ 99
  · by_cases c1 : i 0 = 0
    · simp (disch := first | assumption | omega | exact zc_lo | exact zc_hi | exact zz_l | exact zz_u | exact zz_r) only [xc_1 gc_5_tread_2, xc_2 gc_5_tread_1, xc_2 gc_5_tread_3, xc_2 gc_5_tread_5, xc_3 gc_5_tread_0, xc_5 gc_5_tread_4, xl_aload0, xl_iload1, xm_f, xm_n, xm_t, xn_1, xn_2, xo_0_0, xo_0_6, xo_1_1, xo_1_7, xo_44_2, xo_47_2, xr_iconst, xr_if_ne, xr_iret, xtl_n, xtl_s, xz_i, xz_l, xz_n, xz_r, wb_5_tread_0, wb_5_tread_1, wb_5_tread_2, ss_5_tread, xa_58, xa_65, xc_2 gc_6_tread_1, xc_2 gc_6_tread_2, xc_3 gc_6_tread_0, xl_aload0, xl_iinc3a, xl_iinc3i, xl_iinc3n, xl_iload1, xl_iload2, xl_iload3, xl_istore2a, xl_istore2i, xl_istore2n, xl_istore3a, xl_istore3i, xl_istore3n, xm_f, xm_n, xm_t, xn_1, xn_2, xn_4, xo_53_23, xo_53_3, xo_53_5, xr_goto, xr_ic_ge, xr_iconst, xr_if_ne, xr_iret, xs_58, xs_65, xtl_n, xtl_s, xz_i, xz_l, xz_n, xz_r, wb_6_tread_0, wb_6_tread_1, wb_6_tread_2, wb_6_tread_4, ss_6_tread, zz_b, zz_bn, Classical.not_not, true_and, Nat.reduceAdd, Nat.reduceLeDiff, sp_5_isWithin, sp_6_in, sp_5_finding, sp_6_finds, c2, K0, c1, true_implies, false_implies, implies_true, not_true_eq_false, not_false_eq_true, and_true, false_and, and_false, if_true, if_false, Int.reduceEq, Int.reduceSub, Int.reduceAdd, Int.reduceMul, Int.reduceNeg, Int.reduceLT, Int.reduceLE, Int.add_zero]
      exact fnd h 3 (by omega) (by omega)
    · obtain ⟨M, rfl⟩ := nat_of (show 0 ≤ y by omega)
      simp (disch := first | assumption | omega | exact zc_lo | exact zc_hi | exact zz_l | exact zz_u | exact zz_r) only [xc_1 gc_5_tread_2, xc_2 gc_5_tread_1, xc_2 gc_5_tread_3, xc_2 gc_5_tread_5, xc_3 gc_5_tread_0, xc_5 gc_5_tread_4, xl_aload0, xl_iload1, xm_f, xm_n, xm_t, xn_1, xn_2, xo_0_0, xo_0_6, xo_1_1, xo_1_7, xo_44_2, xo_47_2, xr_iconst, xr_if_ne, xr_iret, xtl_n, xtl_s, xz_i, xz_l, xz_n, xz_r, wb_5_tread_0, wb_5_tread_1, wb_5_tread_2, ss_5_tread, zz_b, zz_bn, Classical.not_not, true_and, Nat.reduceAdd, Nat.reduceLeDiff, sp_5_isWithin, c1, c2, true_implies, false_implies, implies_true, not_true_eq_false, not_false_eq_true, and_true, false_and, and_false, if_true, if_false, Int.reduceEq, Int.reduceSub, Int.reduceAdd, Int.reduceMul, Int.reduceNeg, Int.reduceLT, Int.reduceLE, Int.add_zero]
      refine sp_5_setOut hc h.1.1 (fun a2 i2 hs2 hi2 hSP h8 => ?_)
      simp (disch := first | assumption | omega | exact zc_lo | exact zc_hi | exact zz_l | exact zz_u | exact zz_r) only [xc_1 gc_5_tread_2, xc_2 gc_5_tread_1, xc_2 gc_5_tread_3, xc_2 gc_5_tread_5, xc_3 gc_5_tread_0, xc_5 gc_5_tread_4, xl_aload0, xl_iload1, xm_f, xm_n, xm_t, xn_1, xn_2, xo_0_0, xo_0_6, xo_1_1, xo_1_7, xo_44_2, xo_47_2, xr_iconst, xr_if_ne, xr_iret, xtl_n, xtl_s, xz_i, xz_l, xz_n, xz_r, wb_5_tread_0, wb_5_tread_1, wb_5_tread_2, zz_b, zz_bn, Classical.not_not, true_and, Nat.reduceAdd, Nat.reduceLeDiff, true_implies, false_implies, implies_true, not_true_eq_false, not_false_eq_true, and_true, false_and, and_false, if_true, if_false, Int.reduceEq, Int.reduceSub, Int.reduceAdd, Int.reduceMul, Int.reduceNeg, Int.reduceLT, Int.reduceLE, Int.add_zero]
      refine sp_walk h (by omega) hs2 hi2 hSP h8 (fun w3 a3 hw3 hI3 hs3 ho3 => ?_)
      have hk0 : i2 0 = i 0 := hi2 0 (by simp)
      obtain ⟨hmc3, hmo3, hn3, he3, hma3⟩ := sp_mmarch hI3
      have bd := woF_b hc M
      have mb : ∀ r : Int, 0 ≤ r → r < i 0 → -1000 ≤ maF a i (a 8) M r ∧ maF a i (a 8) M r ≤ 1000 := fun r z1 z2 => oOK.b hc (maF_ok hc (oOK_8 hc) M) z1 z2
      simp (disch := first | assumption | omega | exact zc_lo | exact zc_hi | exact zz_l | exact zz_u | exact zz_r) only [xc_1 gc_5_tread_2, xc_2 gc_5_tread_1, xc_2 gc_5_tread_3, xc_2 gc_5_tread_5, xc_3 gc_5_tread_0, xc_5 gc_5_tread_4, xl_aload0, xl_iload1, xm_f, xm_n, xm_t, xn_1, xn_2, xo_0_0, xo_0_6, xo_1_1, xo_1_7, xo_44_2, xo_47_2, xr_iconst, xr_if_ne, xr_iret, xtl_n, xtl_s, xz_i, xz_l, xz_n, xz_r, wb_5_tread_0, wb_5_tread_1, wb_5_tread_2, zz_b, zz_bn, Classical.not_not, true_and, Nat.reduceAdd, Nat.reduceLeDiff, true_implies, false_implies, implies_true, not_true_eq_false, not_false_eq_true, and_true, false_and, and_false, if_true, if_false, Int.reduceEq, Int.reduceSub, Int.reduceAdd, Int.reduceMul, Int.reduceNeg, Int.reduceLT, Int.reduceLE, Int.add_zero]
      unfold s_ac
      have u1 : dk_ar (HH n xs w3 a3 i2 (w3 0)) 0 = some (24, a3 (w3 0)) := by rw [HH_at (wl hw3)]; rfl
      have u2 : dk_ar (HH n xs w3 a3 i2 8) 0 = some (24, a3 8) := rfl
      simp only [u1, u2]
      refine ⟨by omega, ?_⟩
      rw [HH_ua (k := 8) (t := 0) (m := 24) rfl]
      generalize hF : (fun j : Int => if 0 ≤ j ∧ j < 0 + 24 then a3 (w3 0) (0 + (j - 0)) else a3 8 j) = F
      have hFr : ∀ r : Int, 0 ≤ r → r < i 0 → F r = maF a i (a 8) M r := fun r z1 z2 => by
        rw [← hF]
        simp only
        rw [if_pos (by omega), ← ho3 r z1 z2]
        congr 1
        omega
      simp (disch := first | assumption | omega | exact zc_lo | exact zc_hi | exact zz_l | exact zz_u | exact zz_r) only [xc_1 gc_5_tread_2, xc_2 gc_5_tread_1, xc_2 gc_5_tread_3, xc_2 gc_5_tread_5, xc_3 gc_5_tread_0, xc_5 gc_5_tread_4, xl_aload0, xl_iload1, xm_f, xm_n, xm_t, xn_1, xn_2, xo_0_0, xo_0_6, xo_1_1, xo_1_7, xo_44_2, xo_47_2, xr_iconst, xr_if_ne, xr_iret, xtl_n, xtl_s, xz_i, xz_l, xz_n, xz_r, wb_5_tread_0, wb_5_tread_1, wb_5_tread_2, zz_b, zz_bn, Classical.not_not, true_and, Nat.reduceAdd, Nat.reduceLeDiff, true_implies, false_implies, implies_true, not_true_eq_false, not_false_eq_true, and_true, false_and, and_false, if_true, if_false, Int.reduceEq, Int.reduceSub, Int.reduceAdd, Int.reduceMul, Int.reduceNeg, Int.reduceLT, Int.reduceLE, Int.add_zero]
      refine sp_0_worstOf (q0 := 8) (by rw [hk0]; exact ⟨k1, k2⟩) rfl (fun r z1 z2 => by rw [hk0] at z2; rw [up_s, hFr r z1 z2]; exact mb r z1 z2) ?_
      have e1 : woF (dk_up a3 8 F 8) (i2 0).toNat = woF (maF a i (a 8) M) (i 0).toNat := by
        rw [hk0, up_s]
        exact woF_o _ (fun r z1 z2 => hFr r z1 (by omega))
      rw [e1]
      have c3 : ¬ i2 30 = 0 := by omega
      have hmv : mv (dk_up a3 8 F) = mv a3 := mv_E (ks := [8]) (sA_up sA_rf (by simp) _) (by simp)
      have u58 : dk_up a3 8 F 58 = a3 58 := up_n (by decide)
      simp (disch := first | assumption | omega | exact zc_lo | exact zc_hi | exact zz_l | exact zz_u | exact zz_r) only [xc_1 gc_5_tread_2, xc_2 gc_5_tread_1, xc_2 gc_5_tread_3, xc_2 gc_5_tread_5, xc_3 gc_5_tread_0, xc_5 gc_5_tread_4, xl_aload0, xl_iload1, xm_f, xm_n, xm_t, xn_1, xn_2, xo_0_0, xo_0_6, xo_1_1, xo_1_7, xo_44_2, xo_47_2, xr_iconst, xr_if_ne, xr_iret, xtl_n, xtl_s, xz_i, xz_l, xz_n, xz_r, wb_5_tread_0, wb_5_tread_1, wb_5_tread_2, xa_58, xa_65, xc_2 gc_6_tread_1, xc_2 gc_6_tread_2, xc_3 gc_6_tread_0, xl_aload0, xl_iinc3a, xl_iinc3i, xl_iinc3n, xl_iload1, xl_iload2, xl_iload3, xl_istore2a, xl_istore2i, xl_istore2n, xl_istore3a, xl_istore3i, xl_istore3n, xm_f, xm_n, xm_t, xn_1, xn_2, xn_4, xo_53_23, xo_53_3, xo_53_5, xr_goto, xr_ic_ge, xr_iconst, xr_if_ne, xr_iret, xs_58, xs_65, xtl_n, xtl_s, xz_i, xz_l, xz_n, xz_r, wb_6_tread_0, wb_6_tread_1, wb_6_tread_2, wb_6_tread_4, ss_6_tread, zz_b, zz_bn, Classical.not_not, true_and, Nat.reduceAdd, Nat.reduceLeDiff, sp_6_in, c2, c3, true_implies, false_implies, implies_true, not_true_eq_false, not_false_eq_true, and_true, false_and, and_false, if_true, if_false, Int.reduceEq, Int.reduceSub, Int.reduceAdd, Int.reduceMul, Int.reduceNeg, Int.reduceLT, Int.reduceLE, Int.add_zero]
      refine sp_6_worstBehind (by rw [hmv]; exact hmc3) (by omega) (fun a4 hs4 h4 => ?_)
      rw [hmv, u58] at h4 ⊢
      have e2 : woF (maF (mv a3) (mi i2) (a3 58) M) (i2 30).toNat = woF (maF a i (a 8) M) (i 0).toNat := by
        rw [he3, hk0]
        exact woF_o _ (fun r z1 z2 => ma_eq hI3 hs3 hi2 M r z1 (by omega))
      rw [e2]
      have h65 : ∀ r : Int, 0 ≤ r → r < i 0 → a4 65 r = maF a i (a 8) M r := fun r z1 z2 => by
        rw [h4 r z1 (by show r < i2 30; omega)]
        exact ma_eq hI3 hs3 hi2 M r z1 z2
      obtain ⟨m, hm⟩ := nat_of hn3.1
      have hn32 := hn3.2
      simp (disch := first | assumption | omega | exact zc_lo | exact zc_hi | exact zz_l | exact zz_u | exact zz_r) only [xa_58, xa_65, xc_2 gc_6_tread_1, xc_2 gc_6_tread_2, xc_3 gc_6_tread_0, xl_aload0, xl_iinc3a, xl_iinc3i, xl_iinc3n, xl_iload1, xl_iload2, xl_iload3, xl_istore2a, xl_istore2i, xl_istore2n, xl_istore3a, xl_istore3i, xl_istore3n, xm_f, xm_n, xm_t, xn_1, xn_2, xn_4, xo_53_23, xo_53_3, xo_53_5, xr_goto, xr_ic_ge, xr_iconst, xr_if_ne, xr_iret, xs_58, xs_65, xtl_n, xtl_s, xz_i, xz_l, xz_n, xz_r, wb_6_tread_0, wb_6_tread_1, wb_6_tread_2, wb_6_tread_4, zz_b, zz_bn, Classical.not_not, true_and, Nat.reduceAdd, Nat.reduceLeDiff, true_implies, false_implies, implies_true, not_true_eq_false, not_false_eq_true, and_true, false_and, and_false, if_true, if_false, Int.reduceEq, Int.reduceSub, Int.reduceAdd, Int.reduceMul, Int.reduceNeg, Int.reduceLT, Int.reduceLE, Int.add_zero]
      suffices hP : ∀ d, d ≤ m → ∀ (g : Int → Int) (l1 : Option dk_V), (∀ r : Int, 0 ≤ r → r < d → g r = a4 65 r) → dk_WP g_6_tread b_6_tread (OPQ n xs N (some (.inl (woF (maF a i (a 8) M) (i 0).toNat)))) 3 [some (.inr (.inr 53)), l1, some (.inl (woF (maF a i (a 8) M) (i 0).toNat)), some (.inl d)] [] (HH n xs w3 (dk_up a4 58 g) i2) by
        have q := hP 0 (Nat.zero_le _) (a4 58) (some (.inl M)) (fun r z1 z2 => by omega)
        rw [up_id] at q
        exact q
      refine lp_up ?_ ?_
      · intro g l1 hg
        rw [wb_6_tread_3]
        simp (disch := first | assumption | omega | exact zc_lo | exact zc_hi | exact zz_l | exact zz_u | exact zz_r) only [xa_58, xa_65, xc_2 gc_6_tread_1, xc_2 gc_6_tread_2, xc_3 gc_6_tread_0, xl_aload0, xl_iinc3a, xl_iinc3i, xl_iinc3n, xl_iload1, xl_iload2, xl_iload3, xl_istore2a, xl_istore2i, xl_istore2n, xl_istore3a, xl_istore3i, xl_istore3n, xm_f, xm_n, xm_t, xn_1, xn_2, xn_4, xo_53_23, xo_53_3, xo_53_5, xr_goto, xr_ic_ge, xr_iconst, xr_if_ne, xr_iret, xs_58, xs_65, xtl_n, xtl_s, xz_i, xz_l, xz_n, xz_r, wb_6_tread_0, wb_6_tread_1, wb_6_tread_2, wb_6_tread_4, zz_b, zz_bn, Classical.not_not, true_and, Nat.reduceAdd, Nat.reduceLeDiff]
        refine ⟨fun _ => ?_, fun z => absurd (by omega) z⟩
        refine OPQ_i (by omega) (by omega) ?_
        have hI4 : Inv N w3 (dk_up a4 8 (a3 8)) i2 := by
          refine Inv_scr hI3 hI3.1.1 hI3.1.2 ?_ sI_rf
          intro k hk
          by_cases e : k = 8
          · subst e; rw [up_s]
          · rw [up_n e, mA hs4 k hk, up_n e]
        have hI5 := Inv_out hI4 (f := F) (g := g) (fun r z1 z2 => by
          rw [hk0] at z2
          rw [hFr r z1 z2, up_n (by decide), hs4 2 (by simp), up_n (by decide), hs3 2 (by decide)]
          exact maF_ok hc (oOK_8 hc) M r z1 z2) (fun r z1 z2 => by
          rw [hk0] at z2
          rw [hg r z1 (by omega), h65 r z1 z2, hFr r z1 z2])
        rw [up_up] at hI5
        have e8 : dk_up a4 8 F = a4 := by
          have : F = a4 8 := by rw [hs4 8 (by simp), up_s]
          rw [this, up_id]
        rw [e8] at hI5
        exact hI5
      · intro d hdm ih g l1 hg
        rw [wb_6_tread_3]
        have u65 : dk_up a4 58 g 65 = a4 65 := up_n (by decide)
        simp (disch := first | assumption | omega | exact zc_lo | exact zc_hi | exact zz_l | exact zz_u | exact zz_r) only [xa_58, xa_65, xc_2 gc_6_tread_1, xc_2 gc_6_tread_2, xc_3 gc_6_tread_0, xl_aload0, xl_iinc3a, xl_iinc3i, xl_iinc3n, xl_iload1, xl_iload2, xl_iload3, xl_istore2a, xl_istore2i, xl_istore2n, xl_istore3a, xl_istore3i, xl_istore3n, xm_f, xm_n, xm_t, xn_1, xn_2, xn_4, xo_53_23, xo_53_3, xo_53_5, xr_goto, xr_ic_ge, xr_iconst, xr_if_ne, xr_iret, xs_58, xs_65, xtl_n, xtl_s, xz_i, xz_l, xz_n, xz_r, wb_6_tread_0, wb_6_tread_1, wb_6_tread_2, wb_6_tread_4, zz_b, zz_bn, Classical.not_not, true_and, Nat.reduceAdd, Nat.reduceLeDiff, u65]
        rw [cs d, up_up, up_s]
        refine ⟨fun z => absurd z (by omega), fun _ => ih _ none (fun r z1 z2 => ?_)⟩
        by_cases e : r = d
        · subst e; rw [ui_s]
        · rw [ui_n e]; exact hg r z1 (by omega)
  · simp (disch := first | assumption | omega | exact zc_lo | exact zc_hi | exact zz_l | exact zz_u | exact zz_r) only [xc_1 gc_5_tread_2, xc_2 gc_5_tread_1, xc_2 gc_5_tread_3, xc_2 gc_5_tread_5, xc_3 gc_5_tread_0, xc_5 gc_5_tread_4, xl_aload0, xl_iload1, xm_f, xm_n, xm_t, xn_1, xn_2, xo_0_0, xo_0_6, xo_1_1, xo_1_7, xo_44_2, xo_47_2, xr_iconst, xr_if_ne, xr_iret, xtl_n, xtl_s, xz_i, xz_l, xz_n, xz_r, wb_5_tread_0, wb_5_tread_1, wb_5_tread_2, ss_5_tread, xa_58, xa_65, xc_2 gc_6_tread_1, xc_2 gc_6_tread_2, xc_3 gc_6_tread_0, xl_aload0, xl_iinc3a, xl_iinc3i, xl_iinc3n, xl_iload1, xl_iload2, xl_iload3, xl_istore2a, xl_istore2i, xl_istore2n, xl_istore3a, xl_istore3i, xl_istore3n, xm_f, xm_n, xm_t, xn_1, xn_2, xn_4, xo_53_23, xo_53_3, xo_53_5, xr_goto, xr_ic_ge, xr_iconst, xr_if_ne, xr_iret, xs_58, xs_65, xtl_n, xtl_s, xz_i, xz_l, xz_n, xz_r, wb_6_tread_0, wb_6_tread_1, wb_6_tread_2, wb_6_tread_4, ss_6_tread, zz_b, zz_bn, Classical.not_not, true_and, Nat.reduceAdd, Nat.reduceLeDiff, sp_5_isWithin, sp_6_in, sp_5_finding, sp_6_finds, c2, true_implies, false_implies, implies_true, not_true_eq_false, not_false_eq_true, and_true, false_and, and_false, if_true, if_false, Int.reduceEq, Int.reduceSub, Int.reduceAdd, Int.reduceMul, Int.reduceNeg, Int.reduceLT, Int.reduceLE, Int.add_zero]
    exact fnd h 0 (by omega) (by omega)
end OPM
