/-! CALLS OF BOTH: who is right, what gets better -/
section OPN
variable {N : Int} {n : Nat} {xs : Int → Int} {w : Nat → Nat} {a : Nat → Int → Int} {i : Nat → Int} {Q : dk_Q}
theorem dk_or_bd (x y : Int) : -2147483648 ≤ dk_or x y ∧ dk_or x y ≤ 2147483647 := by
  unfold dk_or
  have h1 := Int32.le_toInt (Int32.ofInt x ||| Int32.ofInt y)
  have h2 := Int32.toInt_lt (Int32.ofInt x ||| Int32.ofInt y)
  omega
theorem dk_or_0 {x : Int} (h1 : -2147483648 ≤ x) (h2 : x ≤ 2147483647) : dk_or x 0 = x := by
  unfold dk_or
  have e : Int32.ofInt x ||| Int32.ofInt 0 = Int32.ofInt x := by
    apply Int32.toBitVec.inj
    simp
  rw [e]
  exact dk_toInt ⟨h1, h2⟩
/-- the ranks that are right, as bits -/
def riF (o : Int → Int) (x : Int) : Nat → Int
  | 0 => 0
  | r + 1 => if ab (o r) ≤ x then dk_or (riF o x r) (1 * 2 ^ (r : Int).toNat) else riF o x r
theorem riF_bd {o : Int → Int} {x : Int} : ∀ m : Nat, -2147483648 ≤ riF o x m ∧ riF o x m ≤ 2147483647
  | 0 => by simp only [riF]; omega
  | m + 1 => by
    unfold riF
    split
    · exact dk_or_bd _ _
    · exact riF_bd m
theorem riF_o {o o2 : Int → Int} {x : Int} : ∀ (m : Nat), (∀ r : Int, 0 ≤ r → r < m → o2 r = o r) → riF o2 x m = riF o x m
  | 0, _ => rfl
  | m + 1, h => by
    unfold riF
    rw [riF_o m (fun r h0 h1 => h r h0 (by omega)), h m (by omega) (by omega)]
theorem op_right (h : Inv N w a i) {x y : Int} (x1 : -2147483648 ≤ x) (x2 : x ≤ 2147483647) (y1 : -2147483648 ≤ y) (y2 : y ≤ 2147483647) : s_5_right [.inr (.inr 0), .inl x, .inl y] (HH n xs w a i) (fun r h => s_6_right [.inr (.inr 53), .inl x, .inl y] h (OPQ n xs N r)) := by
  have hc := h.2.1
  have hag := h.2.2.1
  have hmc := colN_A hag hc
  obtain ⟨⟨p1, p2⟩, ⟨s1, s2⟩, ⟨v1, v2⟩, ⟨n1, n2⟩, ⟨o1, o2⟩, ⟨d1, d2⟩, ⟨e1, e2⟩, ⟨k1, k2⟩, hr, ⟨m1, m2⟩, hd, ⟨b1, b2⟩, hb, hs, hz⟩ := id hc
  obtain ⟨hkE, hA2, hA3, hA4, hA5, hA6⟩ := id hag
  have K0 : i 30 = i 0 := hkE 0 (by omega)
  have K1 : i 31 = i 1 := hkE 1 (by omega)
  have K2 : i 32 = i 2 := hkE 2 (by omega)
  have K3 : i 33 = i 3 := hkE 3 (by omega)
  have R0 : a 54 0 = a 2 0 := hA2 0 (by omega) (by omega)
  have R1 : a 54 1 = a 2 1 := hA2 1 (by omega) (by omega)
  have R2 : a 54 2 = a 2 2 := hA2 2 (by omega) (by omega)
  have R3 : a 54 3 = a 2 3 := hA2 3 (by omega) (by omega)
  have R4 : a 54 4 = a 2 4 := hA2 4 (by omega) (by omega)
  have R5 : a 54 5 = a 2 5 := hA2 5 (by omega) (by omega)
  have R6 : a 54 6 = a 2 6 := hA2 6 (by omega) (by omega)
  by_cases c1 : 0 ≤ x ∧ x ≤ 999
  · by_cases c2 : 0 ≤ y ∧ y ≤ 200
    · obtain ⟨M, rfl⟩ := nat_of c2.1
      simp (disch := first | assumption | omega | exact zc_lo | exact zc_hi | exact zz_l | exact zz_u | exact zz_r) only [xc_1 gc_5_right_1, xc_1 gc_5_right_3, xc_1 gc_5_right_5, xc_2 gc_5_right_2, xc_2 gc_5_right_4, xc_3 gc_5_right_0, xl_aload0, xl_iinc4a, xl_iinc4i, xl_iinc4n, xl_iload1, xl_iload2, xl_iload3, xl_iload4, xl_istore3a, xl_istore3i, xl_istore3n, xl_istore4a, xl_istore4i, xl_istore4n, xm_f, xm_n, xm_t, xn_1, xn_2, xn_4, xn_5, xo_0_0, xo_0_6, xo_1_1, xo_44_2, xo_47_2, xr_goto, xr_ic_ge, xr_ic_gt, xr_iconst, xr_if_eq, xr_if_ne, xr_ior, xr_iret, xr_ishl, xtl_n, xtl_s, xz_i, xz_l, xz_n, xz_r, wb_5_right_0, wb_5_right_1, wb_5_right_2, wb_5_right_4, wb_5_right_5, ss_5_right, zz_b, zz_bn, Classical.not_not, true_and, Nat.reduceAdd, Nat.reduceLeDiff, sp_5_isWithin, sp_5_isMarch, c1, c2, true_implies, false_implies, implies_true, not_true_eq_false, not_false_eq_true, and_true, false_and, and_false, if_true, if_false, Int.reduceEq, Int.reduceSub, Int.reduceAdd, Int.reduceMul, Int.reduceNeg, Int.reduceLT, Int.reduceLE, Int.add_zero]
      refine sp_5_setOut hc h.1.1 (fun a2 i2 hs2 hi2 hSP h8 => ?_)
      simp (disch := first | assumption | omega | exact zc_lo | exact zc_hi | exact zz_l | exact zz_u | exact zz_r) only [xc_1 gc_5_right_1, xc_1 gc_5_right_3, xc_1 gc_5_right_5, xc_2 gc_5_right_2, xc_2 gc_5_right_4, xc_3 gc_5_right_0, xl_aload0, xl_iinc4a, xl_iinc4i, xl_iinc4n, xl_iload1, xl_iload2, xl_iload3, xl_iload4, xl_istore3a, xl_istore3i, xl_istore3n, xl_istore4a, xl_istore4i, xl_istore4n, xm_f, xm_n, xm_t, xn_1, xn_2, xn_4, xn_5, xo_0_0, xo_0_6, xo_1_1, xo_44_2, xo_47_2, xr_goto, xr_ic_ge, xr_ic_gt, xr_iconst, xr_if_eq, xr_if_ne, xr_ior, xr_iret, xr_ishl, xtl_n, xtl_s, xz_i, xz_l, xz_n, xz_r, wb_5_right_0, wb_5_right_1, wb_5_right_2, wb_5_right_4, wb_5_right_5, zz_b, zz_bn, Classical.not_not, true_and, Nat.reduceAdd, Nat.reduceLeDiff, true_implies, false_implies, implies_true, not_true_eq_false, not_false_eq_true, and_true, false_and, and_false, if_true, if_false, Int.reduceEq, Int.reduceSub, Int.reduceAdd, Int.reduceMul, Int.reduceNeg, Int.reduceLT, Int.reduceLE, Int.add_zero]
      refine sp_walk h (by omega) hs2 hi2 hSP h8 (fun w3 a3 hw3 hI3 hs3 ho3 => ?_)
      have hk0 : i2 0 = i 0 := hi2 0 (by simp)
      obtain ⟨hmc3, hmo3, hn3, he3, hma3⟩ := sp_mmarch hI3
      obtain ⟨m, hm⟩ := nat_of k1
      have hbo : ∀ r : Int, 0 ≤ r → r < i 0 → -1000 ≤ maF a i (a 8) M r ∧ maF a i (a 8) M r ≤ 1000 := fun r z1 z2 => oOK.b hc (maF_ok hc (oOK_8 hc) M) z1 z2
      have rb := riF_bd (o := maF a i (a 8) M) (x := x) m
      simp (disch := first | assumption | omega | exact zc_lo | exact zc_hi | exact zz_l | exact zz_u | exact zz_r) only [xc_1 gc_5_right_1, xc_1 gc_5_right_3, xc_1 gc_5_right_5, xc_2 gc_5_right_2, xc_2 gc_5_right_4, xc_3 gc_5_right_0, xl_aload0, xl_iinc4a, xl_iinc4i, xl_iinc4n, xl_iload1, xl_iload2, xl_iload3, xl_iload4, xl_istore3a, xl_istore3i, xl_istore3n, xl_istore4a, xl_istore4i, xl_istore4n, xm_f, xm_n, xm_t, xn_1, xn_2, xn_4, xn_5, xo_0_0, xo_0_6, xo_1_1, xo_44_2, xo_47_2, xr_goto, xr_ic_ge, xr_ic_gt, xr_iconst, xr_if_eq, xr_if_ne, xr_ior, xr_iret, xr_ishl, xtl_n, xtl_s, xz_i, xz_l, xz_n, xz_r, wb_5_right_0, wb_5_right_1, wb_5_right_2, wb_5_right_4, wb_5_right_5, zz_b, zz_bn, Classical.not_not, true_and, Nat.reduceAdd, Nat.reduceLeDiff, true_implies, false_implies, implies_true, not_true_eq_false, not_false_eq_true, and_true, false_and, and_false, if_true, if_false, Int.reduceEq, Int.reduceSub, Int.reduceAdd, Int.reduceMul, Int.reduceNeg, Int.reduceLT, Int.reduceLE, Int.add_zero]
      refine lp_up (m := m) (P := fun d => ∀ l2, dk_WP g_5_right b_5_right (fun r h => s_6_right [.inr (.inr 53), .inl x, .inl M] h (OPQ n xs N r)) 3 [some (.inr (.inr 0)), some (.inl x), l2, some (.inl (riF (maF a i (a 8) M) x d)), some (.inl d)] [] (HH n xs w3 a3 i2)) ?_ ?_ 0 (Nat.zero_le _) _
      · intro l2
        rw [wb_5_right_3]
        simp (disch := first | assumption | omega | exact zc_lo | exact zc_hi | exact zz_l | exact zz_u | exact zz_r) only [xc_1 gc_5_right_1, xc_1 gc_5_right_3, xc_1 gc_5_right_5, xc_2 gc_5_right_2, xc_2 gc_5_right_4, xc_3 gc_5_right_0, xl_aload0, xl_iinc4a, xl_iinc4i, xl_iinc4n, xl_iload1, xl_iload2, xl_iload3, xl_iload4, xl_istore3a, xl_istore3i, xl_istore3n, xl_istore4a, xl_istore4i, xl_istore4n, xm_f, xm_n, xm_t, xn_1, xn_2, xn_4, xn_5, xo_0_0, xo_0_6, xo_1_1, xo_44_2, xo_47_2, xr_goto, xr_ic_ge, xr_ic_gt, xr_iconst, xr_if_eq, xr_if_ne, xr_ior, xr_iret, xr_ishl, xtl_n, xtl_s, xz_i, xz_l, xz_n, xz_r, wb_5_right_0, wb_5_right_1, wb_5_right_2, wb_5_right_4, wb_5_right_5, zz_b, zz_bn, Classical.not_not, true_and, Nat.reduceAdd, Nat.reduceLeDiff, hk0]
        refine ⟨fun _ => ?_, fun z => absurd (by omega) z⟩
        simp (disch := first | assumption | omega | exact zc_lo | exact zc_hi | exact zz_l | exact zz_u | exact zz_r) only [xa_65, xc_1 gc_6_right_2, xc_1 gc_6_right_4, xc_2 gc_6_right_1, xc_2 gc_6_right_3, xc_3 gc_6_right_0, xl_aload0, xl_iinc4a, xl_iinc4i, xl_iinc4n, xl_iload1, xl_iload2, xl_iload3, xl_iload4, xl_istore3a, xl_istore3i, xl_istore3n, xl_istore4a, xl_istore4i, xl_istore4n, xm_f, xm_n, xm_t, xn_1, xn_2, xn_4, xn_6, xo_53_23, xo_53_3, xr_goto, xr_ic_ge, xr_ic_gt, xr_iconst, xr_if_eq, xr_if_ne, xr_ior, xr_iret, xr_ishl, xtl_n, xtl_s, xz_i, xz_l, xz_n, xz_r, wb_6_right_0, wb_6_right_1, wb_6_right_2, wb_6_right_4, wb_6_right_5, wb_6_right_6, ss_6_right, zz_b, zz_bn, Classical.not_not, true_and, Nat.reduceAdd, Nat.reduceLeDiff, sp_6_in, c1, c2, true_implies, false_implies, implies_true, not_true_eq_false, not_false_eq_true, and_true, false_and, and_false, if_true, if_false, Int.reduceEq, Int.reduceSub, Int.reduceAdd, Int.reduceMul, Int.reduceNeg, Int.reduceLT, Int.reduceLE, Int.add_zero]
        refine sp_6_beginMarch hn3 (fun a4 hs4 h4 => ?_)
        simp (disch := first | assumption | omega | exact zc_lo | exact zc_hi | exact zz_l | exact zz_u | exact zz_r) only [xa_65, xc_1 gc_6_right_2, xc_1 gc_6_right_4, xc_2 gc_6_right_1, xc_2 gc_6_right_3, xc_3 gc_6_right_0, xl_aload0, xl_iinc4a, xl_iinc4i, xl_iinc4n, xl_iload1, xl_iload2, xl_iload3, xl_iload4, xl_istore3a, xl_istore3i, xl_istore3n, xl_istore4a, xl_istore4i, xl_istore4n, xm_f, xm_n, xm_t, xn_1, xn_2, xn_4, xn_6, xo_53_23, xo_53_3, xr_goto, xr_ic_ge, xr_ic_gt, xr_iconst, xr_if_eq, xr_if_ne, xr_ior, xr_iret, xr_ishl, xtl_n, xtl_s, xz_i, xz_l, xz_n, xz_r, wb_6_right_0, wb_6_right_1, wb_6_right_2, wb_6_right_4, wb_6_right_5, wb_6_right_6, zz_b, zz_bn, Classical.not_not, true_and, Nat.reduceAdd, Nat.reduceLeDiff, true_implies, false_implies, implies_true, not_true_eq_false, not_false_eq_true, and_true, false_and, and_false, if_true, if_false, Int.reduceEq, Int.reduceSub, Int.reduceAdd, Int.reduceMul, Int.reduceNeg, Int.reduceLT, Int.reduceLE, Int.add_zero]
        have hE4 := mv_E hs4 (by simp)
        refine sp_6_goesOn (by rw [hE4]; exact hmc3) (by rw [hE4]; exact oOK_o h4 hmo3) (by omega) (fun a5 hs5 h5 => ?_)
        have h65 : ∀ r : Int, 0 ≤ r → r < i 0 → a5 65 r = maF a i (a 8) M r := fun r z1 z2 => by
          rw [h5 r z1 (by show r < i2 30; omega), hE4, maF_o h4 M r z1 (by show r < i2 30; omega)]
          exact ma_eq hI3 hs3 hi2 M r z1 z2
        simp (disch := first | assumption | omega | exact zc_lo | exact zc_hi | exact zz_l | exact zz_u | exact zz_r) only [xa_65, xc_1 gc_6_right_2, xc_1 gc_6_right_4, xc_2 gc_6_right_1, xc_2 gc_6_right_3, xc_3 gc_6_right_0, xl_aload0, xl_iinc4a, xl_iinc4i, xl_iinc4n, xl_iload1, xl_iload2, xl_iload3, xl_iload4, xl_istore3a, xl_istore3i, xl_istore3n, xl_istore4a, xl_istore4i, xl_istore4n, xm_f, xm_n, xm_t, xn_1, xn_2, xn_4, xn_6, xo_53_23, xo_53_3, xr_goto, xr_ic_ge, xr_ic_gt, xr_iconst, xr_if_eq, xr_if_ne, xr_ior, xr_iret, xr_ishl, xtl_n, xtl_s, xz_i, xz_l, xz_n, xz_r, wb_6_right_0, wb_6_right_1, wb_6_right_2, wb_6_right_4, wb_6_right_5, wb_6_right_6, zz_b, zz_bn, Classical.not_not, true_and, Nat.reduceAdd, Nat.reduceLeDiff, true_implies, false_implies, implies_true, not_true_eq_false, not_false_eq_true, and_true, false_and, and_false, if_true, if_false, Int.reduceEq, Int.reduceSub, Int.reduceAdd, Int.reduceMul, Int.reduceNeg, Int.reduceLT, Int.reduceLE, Int.add_zero]
        refine lp_up (m := m) (P := fun d => ∀ l2, dk_WP g_6_right b_6_right (OPQ n xs N (some (.inl (riF (maF a i (a 8) M) x m)))) 3 [some (.inr (.inr 53)), some (.inl x), l2, some (.inl (riF (maF a i (a 8) M) x d)), some (.inl d)] [] (HH n xs w3 a5 i2)) ?_ ?_ 0 (Nat.zero_le _) _
        · intro l2
          rw [wb_6_right_3]
          simp (disch := first | assumption | omega | exact zc_lo | exact zc_hi | exact zz_l | exact zz_u | exact zz_r) only [xa_65, xc_1 gc_6_right_2, xc_1 gc_6_right_4, xc_2 gc_6_right_1, xc_2 gc_6_right_3, xc_3 gc_6_right_0, xl_aload0, xl_iinc4a, xl_iinc4i, xl_iinc4n, xl_iload1, xl_iload2, xl_iload3, xl_iload4, xl_istore3a, xl_istore3i, xl_istore3n, xl_istore4a, xl_istore4i, xl_istore4n, xm_f, xm_n, xm_t, xn_1, xn_2, xn_4, xn_6, xo_53_23, xo_53_3, xr_goto, xr_ic_ge, xr_ic_gt, xr_iconst, xr_if_eq, xr_if_ne, xr_ior, xr_iret, xr_ishl, xtl_n, xtl_s, xz_i, xz_l, xz_n, xz_r, wb_6_right_0, wb_6_right_1, wb_6_right_2, wb_6_right_4, wb_6_right_5, wb_6_right_6, zz_b, zz_bn, Classical.not_not, true_and, Nat.reduceAdd, Nat.reduceLeDiff, he3, hk0]
          exact ⟨fun _ => OPQ_i rb.1 rb.2 (Inv_1 (Inv_scr hI3 hI3.1.1 hI3.1.2 (sA_tr (sA_w hs4 (by decide)) (mA hs5)) sI_rf)), fun z => absurd (by omega) z⟩
        · intro d hdm ih l2
          have e65 := h65 d (by omega) (by omega)
          have ob := hbo d (by omega) (by omega)
          have q3 := ab_bd ob.1 ob.2
          have rbd := riF_bd (o := maF a i (a 8) M) (x := x) d
          have ih := ih none
          rw [show riF (maF a i (a 8) M) x (d + 1) = if ab (maF a i (a 8) M d) ≤ x then dk_or (riF (maF a i (a 8) M) x d) (1 * 2 ^ (d : Int).toNat) else riF (maF a i (a 8) M) x d from rfl] at ih
          rw [wb_6_right_3]
          simp (disch := first | assumption | omega | exact zc_lo | exact zc_hi | exact zz_l | exact zz_u | exact zz_r) only [xa_65, xc_1 gc_6_right_2, xc_1 gc_6_right_4, xc_2 gc_6_right_1, xc_2 gc_6_right_3, xc_3 gc_6_right_0, xl_aload0, xl_iinc4a, xl_iinc4i, xl_iinc4n, xl_iload1, xl_iload2, xl_iload3, xl_iload4, xl_istore3a, xl_istore3i, xl_istore3n, xl_istore4a, xl_istore4i, xl_istore4n, xm_f, xm_n, xm_t, xn_1, xn_2, xn_4, xn_6, xo_53_23, xo_53_3, xr_goto, xr_ic_ge, xr_ic_gt, xr_iconst, xr_if_eq, xr_if_ne, xr_ior, xr_iret, xr_ishl, xtl_n, xtl_s, xz_i, xz_l, xz_n, xz_r, wb_6_right_0, wb_6_right_1, wb_6_right_2, wb_6_right_4, wb_6_right_5, wb_6_right_6, zz_b, zz_bn, Classical.not_not, true_and, Nat.reduceAdd, Nat.reduceLeDiff, sp_6_size, he3, hk0, e65]
          rw [cs d]
          refine ⟨fun z => absurd z (by omega), fun _ => ⟨fun z => ?_, fun z => ?_⟩⟩
          · rw [if_neg (by omega)] at ih; rw [dk_or_0 rbd.1 rbd.2]; exact ih
          · rw [if_pos (by omega)] at ih; exact ih
      · intro d hdm ih l2
        have d0 : (0 : Int) ≤ d := by omega
        have d24 : (d : Int) < 24 := by omega
        have e3 := ho3 d (by omega) (by omega)
        have ob := hbo d (by omega) (by omega)
        have q3 := ab_bd ob.1 ob.2
        have ih := ih none
        rw [show riF (maF a i (a 8) M) x (d + 1) = if ab (maF a i (a 8) M d) ≤ x then dk_or (riF (maF a i (a 8) M) x d) (1 * 2 ^ (d : Int).toNat) else riF (maF a i (a 8) M) x d from rfl] at ih
        rw [wb_5_right_3]
        simp (disch := first | assumption | omega | exact zc_lo | exact zc_hi | exact zz_l | exact zz_u | exact zz_r) only [xc_1 gc_5_right_1, xc_1 gc_5_right_3, xc_1 gc_5_right_5, xc_2 gc_5_right_2, xc_2 gc_5_right_4, xc_3 gc_5_right_0, xl_aload0, xl_iinc4a, xl_iinc4i, xl_iinc4n, xl_iload1, xl_iload2, xl_iload3, xl_iload4, xl_istore3a, xl_istore3i, xl_istore3n, xl_istore4a, xl_istore4i, xl_istore4n, xm_f, xm_n, xm_t, xn_1, xn_2, xn_4, xn_5, xo_0_0, xo_0_6, xo_1_1, xo_44_2, xo_47_2, xr_goto, xr_ic_ge, xr_ic_gt, xr_iconst, xr_if_eq, xr_if_ne, xr_ior, xr_iret, xr_ishl, xtl_n, xtl_s, xz_i, xz_l, xz_n, xz_r, wb_5_right_0, wb_5_right_1, wb_5_right_2, wb_5_right_4, wb_5_right_5, zz_b, zz_bn, Classical.not_not, true_and, Nat.reduceAdd, Nat.reduceLeDiff, sp_8_abs, hk0, xa_w (wl hw3) d0 d24 (by omega), e3]
        rw [cs d]
        refine ⟨fun z => absurd z (by omega), fun _ => ⟨fun z => ?_, fun z => ?_⟩⟩
        · rw [if_neg (by omega)] at ih; exact ih
        · rw [if_pos (by omega)] at ih; exact ih
    · simp (disch := first | assumption | omega | exact zc_lo | exact zc_hi | exact zz_l | exact zz_u | exact zz_r) only [xc_1 gc_5_right_1, xc_1 gc_5_right_3, xc_1 gc_5_right_5, xc_2 gc_5_right_2, xc_2 gc_5_right_4, xc_3 gc_5_right_0, xl_aload0, xl_iinc4a, xl_iinc4i, xl_iinc4n, xl_iload1, xl_iload2, xl_iload3, xl_iload4, xl_istore3a, xl_istore3i, xl_istore3n, xl_istore4a, xl_istore4i, xl_istore4n, xm_f, xm_n, xm_t, xn_1, xn_2, xn_4, xn_5, xo_0_0, xo_0_6, xo_1_1, xo_44_2, xo_47_2, xr_goto, xr_ic_ge, xr_ic_gt, xr_iconst, xr_if_eq, xr_if_ne, xr_ior, xr_iret, xr_ishl, xtl_n, xtl_s, xz_i, xz_l, xz_n, xz_r, wb_5_right_0, wb_5_right_1, wb_5_right_2, wb_5_right_4, wb_5_right_5, ss_5_right, xa_65, xc_1 gc_6_right_2, xc_1 gc_6_right_4, xc_2 gc_6_right_1, xc_2 gc_6_right_3, xc_3 gc_6_right_0, xl_aload0, xl_iinc4a, xl_iinc4i, xl_iinc4n, xl_iload1, xl_iload2, xl_iload3, xl_iload4, xl_istore3a, xl_istore3i, xl_istore3n, xl_istore4a, xl_istore4i, xl_istore4n, xm_f, xm_n, xm_t, xn_1, xn_2, xn_4, xn_6, xo_53_23, xo_53_3, xr_goto, xr_ic_ge, xr_ic_gt, xr_iconst, xr_if_eq, xr_if_ne, xr_ior, xr_iret, xr_ishl, xtl_n, xtl_s, xz_i, xz_l, xz_n, xz_r, wb_6_right_0, wb_6_right_1, wb_6_right_2, wb_6_right_4, wb_6_right_5, wb_6_right_6, ss_6_right, zz_b, zz_bn, Classical.not_not, true_and, Nat.reduceAdd, Nat.reduceLeDiff, sp_5_isWithin, sp_5_isMarch, sp_6_in, sp_5_finding, sp_6_finds, c1, c2, true_implies, false_implies, implies_true, not_true_eq_false, not_false_eq_true, and_true, false_and, and_false, if_true, if_false, Int.reduceEq, Int.reduceSub, Int.reduceAdd, Int.reduceMul, Int.reduceNeg, Int.reduceLT, Int.reduceLE, Int.add_zero]
      exact fnd h 0 (by omega) (by omega)
  · simp (disch := first | assumption | omega | exact zc_lo | exact zc_hi | exact zz_l | exact zz_u | exact zz_r) only [xc_1 gc_5_right_1, xc_1 gc_5_right_3, xc_1 gc_5_right_5, xc_2 gc_5_right_2, xc_2 gc_5_right_4, xc_3 gc_5_right_0, xl_aload0, xl_iinc4a, xl_iinc4i, xl_iinc4n, xl_iload1, xl_iload2, xl_iload3, xl_iload4, xl_istore3a, xl_istore3i, xl_istore3n, xl_istore4a, xl_istore4i, xl_istore4n, xm_f, xm_n, xm_t, xn_1, xn_2, xn_4, xn_5, xo_0_0, xo_0_6, xo_1_1, xo_44_2, xo_47_2, xr_goto, xr_ic_ge, xr_ic_gt, xr_iconst, xr_if_eq, xr_if_ne, xr_ior, xr_iret, xr_ishl, xtl_n, xtl_s, xz_i, xz_l, xz_n, xz_r, wb_5_right_0, wb_5_right_1, wb_5_right_2, wb_5_right_4, wb_5_right_5, ss_5_right, xa_65, xc_1 gc_6_right_2, xc_1 gc_6_right_4, xc_2 gc_6_right_1, xc_2 gc_6_right_3, xc_3 gc_6_right_0, xl_aload0, xl_iinc4a, xl_iinc4i, xl_iinc4n, xl_iload1, xl_iload2, xl_iload3, xl_iload4, xl_istore3a, xl_istore3i, xl_istore3n, xl_istore4a, xl_istore4i, xl_istore4n, xm_f, xm_n, xm_t, xn_1, xn_2, xn_4, xn_6, xo_53_23, xo_53_3, xr_goto, xr_ic_ge, xr_ic_gt, xr_iconst, xr_if_eq, xr_if_ne, xr_ior, xr_iret, xr_ishl, xtl_n, xtl_s, xz_i, xz_l, xz_n, xz_r, wb_6_right_0, wb_6_right_1, wb_6_right_2, wb_6_right_4, wb_6_right_5, wb_6_right_6, ss_6_right, zz_b, zz_bn, Classical.not_not, true_and, Nat.reduceAdd, Nat.reduceLeDiff, sp_5_isWithin, sp_5_isMarch, sp_6_in, sp_5_finding, sp_6_finds, c1, true_implies, false_implies, implies_true, not_true_eq_false, not_false_eq_true, and_true, false_and, and_false, if_true, if_false, Int.reduceEq, Int.reduceSub, Int.reduceAdd, Int.reduceMul, Int.reduceNeg, Int.reduceLT, Int.reduceLE, Int.add_zero]
    exact fnd h 0 (by omega) (by omega)
end OPN
