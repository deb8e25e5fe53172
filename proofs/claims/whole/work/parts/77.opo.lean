/-! CALLS OF BOTH: what gets better, where it settles, how it goes round -/
/-- how often it got better in the first paces -/
def btF (o : Nat → Int) : Nat → Int
  | 0 => 0
  | t + 1 => if o (t + 1) < o t then btF o t + 1 else btF o t
theorem btF_bd {o : Nat → Int} : ∀ t : Nat, 0 ≤ btF o t ∧ btF o t ≤ t
  | 0 => by simp only [btF]; omega
  | t + 1 => by
    have := btF_bd (o := o) t
    unfold btF
    split <;> omega
section OPO
variable {N : Int} {n : Nat} {xs : Int → Int} {w : Nat → Nat} {a : Nat → Int → Int} {i : Nat → Int} {Q : dk_Q} {p q : Int → Int} {w2 : Nat → Nat} {a2 : Nat → Int → Int} {i2 : Nat → Int} {t : Nat}
theorem cl_better (hc : colN a i) (hF : Fr a i p q w2 a2 i2) {M : Nat} (hM1 : 1 ≤ M) (hM : M ≤ 200) : (∀ w3 a3 i3, Fr a i p q w3 a3 i3 → Q (some (.inl (btF (wo a i) M))) (HH n xs w3 a3 i3)) → s_5_better [.inr (.inr 0), .inl M] (HH n xs w2 a2 i2) Q := by
  intro hQ
  have c2 : (1 : Int) ≤ M ∧ (M : Int) ≤ 200 := by omega
  simp (disch := first | assumption | omega | exact zc_lo | exact zc_hi | exact zz_l | exact zz_u | exact zz_r) only [xc_1 gc_5_better_2, xc_1 gc_5_better_4, xc_2 gc_5_better_1, xc_2 gc_5_better_3, xc_3 gc_5_better_0, xl_aload0, xl_iinc2a, xl_iinc2i, xl_iinc2n, xl_iinc4a, xl_iinc4i, xl_iinc4n, xl_iload1, xl_iload2, xl_iload3, xl_iload4, xl_iload5, xl_istore2a, xl_istore2i, xl_istore2n, xl_istore3a, xl_istore3i, xl_istore3n, xl_istore4a, xl_istore4i, xl_istore4n, xl_istore5a, xl_istore5i, xl_istore5n, xm_f, xm_n, xm_t, xn_1, xn_3, xn_4, xo_0_0, xo_0_6, xo_44_2, xo_47_2, xr_goto, xr_ic_ge, xr_iconst, xr_if_ne, xr_iret, xr_pop, xtl_n, xtl_s, xz_i, xz_l, xz_n, xz_r, wb_5_better_0, wb_5_better_1, wb_5_better_3, wb_5_better_4, ss_5_better, zz_b, zz_bn, Classical.not_not, true_and, Nat.reduceAdd, Nat.reduceLeDiff, sp_5_isWithin, c2, true_implies, false_implies, implies_true, not_true_eq_false, not_false_eq_true, and_true, false_and, and_false, if_true, if_false, Int.reduceEq, Int.reduceSub, Int.reduceAdd, Int.reduceMul, Int.reduceNeg, Int.reduceLT, Int.reduceLE, Int.add_zero]
  refine sp_set hc hF (fun a3 i3 hW _ _ => ?_)
  simp (disch := first | assumption | omega | exact zc_lo | exact zc_hi | exact zz_l | exact zz_u | exact zz_r) only [xc_1 gc_5_better_2, xc_1 gc_5_better_4, xc_2 gc_5_better_1, xc_2 gc_5_better_3, xc_3 gc_5_better_0, xl_aload0, xl_iinc2a, xl_iinc2i, xl_iinc2n, xl_iinc4a, xl_iinc4i, xl_iinc4n, xl_iload1, xl_iload2, xl_iload3, xl_iload4, xl_iload5, xl_istore2a, xl_istore2i, xl_istore2n, xl_istore3a, xl_istore3i, xl_istore3n, xl_istore4a, xl_istore4i, xl_istore4n, xl_istore5a, xl_istore5i, xl_istore5n, xm_f, xm_n, xm_t, xn_1, xn_3, xn_4, xo_0_0, xo_0_6, xo_44_2, xo_47_2, xr_goto, xr_ic_ge, xr_iconst, xr_if_ne, xr_iret, xr_pop, xtl_n, xtl_s, xz_i, xz_l, xz_n, xz_r, wb_5_better_0, wb_5_better_1, wb_5_better_3, wb_5_better_4, zz_b, zz_bn, Classical.not_not, true_and, Nat.reduceAdd, Nat.reduceLeDiff, true_implies, false_implies, implies_true, not_true_eq_false, not_false_eq_true, and_true, false_and, and_false, if_true, if_false, Int.reduceEq, Int.reduceSub, Int.reduceAdd, Int.reduceMul, Int.reduceNeg, Int.reduceLT, Int.reduceLE, Int.add_zero]
  refine sp_wst hc hW ?_
  simp (disch := first | assumption | omega | exact zc_lo | exact zc_hi | exact zz_l | exact zz_u | exact zz_r) only [xc_1 gc_5_better_2, xc_1 gc_5_better_4, xc_2 gc_5_better_1, xc_2 gc_5_better_3, xc_3 gc_5_better_0, xl_aload0, xl_iinc2a, xl_iinc2i, xl_iinc2n, xl_iinc4a, xl_iinc4i, xl_iinc4n, xl_iload1, xl_iload2, xl_iload3, xl_iload4, xl_iload5, xl_istore2a, xl_istore2i, xl_istore2n, xl_istore3a, xl_istore3i, xl_istore3n, xl_istore4a, xl_istore4i, xl_istore4n, xl_istore5a, xl_istore5i, xl_istore5n, xm_f, xm_n, xm_t, xn_1, xn_3, xn_4, xo_0_0, xo_0_6, xo_44_2, xo_47_2, xr_goto, xr_ic_ge, xr_iconst, xr_if_ne, xr_iret, xr_pop, xtl_n, xtl_s, xz_i, xz_l, xz_n, xz_r, wb_5_better_0, wb_5_better_1, wb_5_better_3, wb_5_better_4, zz_b, zz_bn, Classical.not_not, true_and, Nat.reduceAdd, Nat.reduceLeDiff, true_implies, false_implies, implies_true, not_true_eq_false, not_false_eq_true, and_true, false_and, and_false, if_true, if_false, Int.reduceEq, Int.reduceSub, Int.reduceAdd, Int.reduceMul, Int.reduceNeg, Int.reduceLT, Int.reduceLE, Int.add_zero]
  refine lp_up (m := M) (P := fun d => ∀ w4 a4 l5, Wk a i p q d w4 a4 i3 → dk_WP g_5_better b_5_better Q 2 [some (.inr (.inr 0)), some (.inl M), some (.inl (btF (wo a i) d)), some (.inl (wo a i d)), some (.inl d), l5] [] (HH n xs w4 a4 i3)) ?_ ?_ 0 (Nat.zero_le _) w2 a3 none hW
  · intro w4 a4 l5 hW4
    rw [wb_5_better_2]
    simp (disch := first | assumption | omega | exact zc_lo | exact zc_hi | exact zz_l | exact zz_u | exact zz_r) only [xc_1 gc_5_better_2, xc_1 gc_5_better_4, xc_2 gc_5_better_1, xc_2 gc_5_better_3, xc_3 gc_5_better_0, xl_aload0, xl_iinc2a, xl_iinc2i, xl_iinc2n, xl_iinc4a, xl_iinc4i, xl_iinc4n, xl_iload1, xl_iload2, xl_iload3, xl_iload4, xl_iload5, xl_istore2a, xl_istore2i, xl_istore2n, xl_istore3a, xl_istore3i, xl_istore3n, xl_istore4a, xl_istore4i, xl_istore4n, xl_istore5a, xl_istore5i, xl_istore5n, xm_f, xm_n, xm_t, xn_1, xn_3, xn_4, xo_0_0, xo_0_6, xo_44_2, xo_47_2, xr_goto, xr_ic_ge, xr_iconst, xr_if_ne, xr_iret, xr_pop, xtl_n, xtl_s, xz_i, xz_l, xz_n, xz_r, wb_5_better_0, wb_5_better_1, wb_5_better_3, wb_5_better_4, zz_b, zz_bn, Classical.not_not, true_and, Nat.reduceAdd, Nat.reduceLeDiff]
    exact ⟨fun _ => hQ w4 a4 i3 hW4.1, fun z => absurd (by omega) z⟩
  · intro d hdm ih w4 a4 l5 hW4
    have bd := wo_b hc d
    have bd2 := wo_b hc (d + 1)
    rw [wb_5_better_2]
    simp (disch := first | assumption | omega | exact zc_lo | exact zc_hi | exact zz_l | exact zz_u | exact zz_r) only [xc_1 gc_5_better_2, xc_1 gc_5_better_4, xc_2 gc_5_better_1, xc_2 gc_5_better_3, xc_3 gc_5_better_0, xl_aload0, xl_iinc2a, xl_iinc2i, xl_iinc2n, xl_iinc4a, xl_iinc4i, xl_iinc4n, xl_iload1, xl_iload2, xl_iload3, xl_iload4, xl_iload5, xl_istore2a, xl_istore2i, xl_istore2n, xl_istore3a, xl_istore3i, xl_istore3n, xl_istore4a, xl_istore4i, xl_istore4n, xl_istore5a, xl_istore5i, xl_istore5n, xm_f, xm_n, xm_t, xn_1, xn_3, xn_4, xo_0_0, xo_0_6, xo_44_2, xo_47_2, xr_goto, xr_ic_ge, xr_iconst, xr_if_ne, xr_iret, xr_pop, xtl_n, xtl_s, xz_i, xz_l, xz_n, xz_r, wb_5_better_0, wb_5_better_1, wb_5_better_3, wb_5_better_4, zz_b, zz_bn, Classical.not_not, true_and, Nat.reduceAdd, Nat.reduceLeDiff]
    refine ⟨fun z => absurd z (by omega), fun _ => ?_⟩
    refine sp_stp hc hW4 (fun w5 a5 x hW5 _ _ _ => ?_)
    simp (disch := first | assumption | omega | exact zc_lo | exact zc_hi | exact zz_l | exact zz_u | exact zz_r) only [xc_1 gc_5_better_2, xc_1 gc_5_better_4, xc_2 gc_5_better_1, xc_2 gc_5_better_3, xc_3 gc_5_better_0, xl_aload0, xl_iinc2a, xl_iinc2i, xl_iinc2n, xl_iinc4a, xl_iinc4i, xl_iinc4n, xl_iload1, xl_iload2, xl_iload3, xl_iload4, xl_iload5, xl_istore2a, xl_istore2i, xl_istore2n, xl_istore3a, xl_istore3i, xl_istore3n, xl_istore4a, xl_istore4i, xl_istore4n, xl_istore5a, xl_istore5i, xl_istore5n, xm_f, xm_n, xm_t, xn_1, xn_3, xn_4, xo_0_0, xo_0_6, xo_44_2, xo_47_2, xr_goto, xr_ic_ge, xr_iconst, xr_if_ne, xr_iret, xr_pop, xtl_n, xtl_s, xz_i, xz_l, xz_n, xz_r, wb_5_better_0, wb_5_better_1, wb_5_better_3, wb_5_better_4, zz_b, zz_bn, Classical.not_not, true_and, Nat.reduceAdd, Nat.reduceLeDiff]
    refine sp_wst hc hW5 ?_
    simp (disch := first | assumption | omega | exact zc_lo | exact zc_hi | exact zz_l | exact zz_u | exact zz_r) only [xc_1 gc_5_better_2, xc_1 gc_5_better_4, xc_2 gc_5_better_1, xc_2 gc_5_better_3, xc_3 gc_5_better_0, xl_aload0, xl_iinc2a, xl_iinc2i, xl_iinc2n, xl_iinc4a, xl_iinc4i, xl_iinc4n, xl_iload1, xl_iload2, xl_iload3, xl_iload4, xl_iload5, xl_istore2a, xl_istore2i, xl_istore2n, xl_istore3a, xl_istore3i, xl_istore3n, xl_istore4a, xl_istore4i, xl_istore4n, xl_istore5a, xl_istore5i, xl_istore5n, xm_f, xm_n, xm_t, xn_1, xn_3, xn_4, xo_0_0, xo_0_6, xo_44_2, xo_47_2, xr_goto, xr_ic_ge, xr_iconst, xr_if_ne, xr_iret, xr_pop, xtl_n, xtl_s, xz_i, xz_l, xz_n, xz_r, wb_5_better_0, wb_5_better_1, wb_5_better_3, wb_5_better_4, zz_b, zz_bn, Classical.not_not, true_and, Nat.reduceAdd, Nat.reduceLeDiff]
    have ih2 := fun l5 => ih w5 a5 l5 hW5
    rw [show btF (wo a i) (d + 1) = if wo a i (d + 1) < wo a i d then btF (wo a i) d + 1 else btF (wo a i) d from rfl] at ih2
    rw [cs d]
    refine ⟨fun z => ?_, fun z => ?_⟩
    · rw [if_neg (by omega)] at ih2; exact ih2 _
    · rw [if_pos (by omega)] at ih2; exact ih2 _
theorem md_better (hc : colN a i) (hag : agr a i (mv a) (mi i)) (hF : Fr a i p q w2 a2 i2) {M : Nat} (hM1 : 1 ≤ M) (hM : M ≤ 200) : (∀ a3, Fr a i p q w2 a3 i2 → Q (some (.inl (btF (wo a i) M))) (HH n xs w2 a3 i2)) → s_6_better [.inr (.inr 53), .inl M] (HH n xs w2 a2 i2) Q := by
  intro hQ
  have c2 : (1 : Int) ≤ M ∧ (M : Int) ≤ 200 := by omega
  simp (disch := first | assumption | omega | exact zc_lo | exact zc_hi | exact zz_l | exact zz_u | exact zz_r) only [xc_1 gc_6_better_2, xc_1 gc_6_better_3, xc_1 gc_6_better_4, xc_2 gc_6_better_1, xc_3 gc_6_better_0, xl_aload0, xl_iinc4a, xl_iinc4i, xl_iinc4n, xl_iload1, xl_iload2, xl_iload3, xl_iload4, xl_iload5, xl_istore2a, xl_istore2i, xl_istore2n, xl_istore3a, xl_istore3i, xl_istore3n, xl_istore4a, xl_istore4i, xl_istore4n, xl_istore5a, xl_istore5i, xl_istore5n, xm_f, xm_n, xm_t, xn_1, xn_3, xn_5, xr_goto, xr_iadd, xr_ic_ge, xr_iconst, xr_if_ne, xr_iret, xtl_n, xtl_s, xz_i, xz_l, xz_n, xz_r, wb_6_better_0, wb_6_better_1, wb_6_better_3, wb_6_better_4, wb_6_better_5, ss_6_better, zz_b, zz_bn, Classical.not_not, true_and, Nat.reduceAdd, Nat.reduceLeDiff, sp_6_in, c2, true_implies, false_implies, implies_true, not_true_eq_false, not_false_eq_true, and_true, false_and, and_false, if_true, if_false, Int.reduceEq, Int.reduceSub, Int.reduceAdd, Int.reduceMul, Int.reduceNeg, Int.reduceLT, Int.reduceLE, Int.add_zero]
  refine sp_mbeg hc hag hF (fun a3 hW _ => ?_)
  simp (disch := first | assumption | omega | exact zc_lo | exact zc_hi | exact zz_l | exact zz_u | exact zz_r) only [xc_1 gc_6_better_2, xc_1 gc_6_better_3, xc_1 gc_6_better_4, xc_2 gc_6_better_1, xc_3 gc_6_better_0, xl_aload0, xl_iinc4a, xl_iinc4i, xl_iinc4n, xl_iload1, xl_iload2, xl_iload3, xl_iload4, xl_iload5, xl_istore2a, xl_istore2i, xl_istore2n, xl_istore3a, xl_istore3i, xl_istore3n, xl_istore4a, xl_istore4i, xl_istore4n, xl_istore5a, xl_istore5i, xl_istore5n, xm_f, xm_n, xm_t, xn_1, xn_3, xn_5, xr_goto, xr_iadd, xr_ic_ge, xr_iconst, xr_if_ne, xr_iret, xtl_n, xtl_s, xz_i, xz_l, xz_n, xz_r, wb_6_better_0, wb_6_better_1, wb_6_better_3, wb_6_better_4, wb_6_better_5, zz_b, zz_bn, Classical.not_not, true_and, Nat.reduceAdd, Nat.reduceLeDiff, true_implies, false_implies, implies_true, not_true_eq_false, not_false_eq_true, and_true, false_and, and_false, if_true, if_false, Int.reduceEq, Int.reduceSub, Int.reduceAdd, Int.reduceMul, Int.reduceNeg, Int.reduceLT, Int.reduceLE, Int.add_zero]
  refine sp_mwst hc hag hW ?_
  simp (disch := first | assumption | omega | exact zc_lo | exact zc_hi | exact zz_l | exact zz_u | exact zz_r) only [xc_1 gc_6_better_2, xc_1 gc_6_better_3, xc_1 gc_6_better_4, xc_2 gc_6_better_1, xc_3 gc_6_better_0, xl_aload0, xl_iinc4a, xl_iinc4i, xl_iinc4n, xl_iload1, xl_iload2, xl_iload3, xl_iload4, xl_iload5, xl_istore2a, xl_istore2i, xl_istore2n, xl_istore3a, xl_istore3i, xl_istore3n, xl_istore4a, xl_istore4i, xl_istore4n, xl_istore5a, xl_istore5i, xl_istore5n, xm_f, xm_n, xm_t, xn_1, xn_3, xn_5, xr_goto, xr_iadd, xr_ic_ge, xr_iconst, xr_if_ne, xr_iret, xtl_n, xtl_s, xz_i, xz_l, xz_n, xz_r, wb_6_better_0, wb_6_better_1, wb_6_better_3, wb_6_better_4, wb_6_better_5, zz_b, zz_bn, Classical.not_not, true_and, Nat.reduceAdd, Nat.reduceLeDiff, true_implies, false_implies, implies_true, not_true_eq_false, not_false_eq_true, and_true, false_and, and_false, if_true, if_false, Int.reduceEq, Int.reduceSub, Int.reduceAdd, Int.reduceMul, Int.reduceNeg, Int.reduceLT, Int.reduceLE, Int.add_zero]
  refine lp_up (m := M) (P := fun d => ∀ a4 l5, Mk a i p q d w2 a4 i2 → dk_WP g_6_better b_6_better Q 2 [some (.inr (.inr 53)), some (.inl M), some (.inl (btF (wo a i) d)), some (.inl (wo a i d)), some (.inl d), l5] [] (HH n xs w2 a4 i2)) ?_ ?_ 0 (Nat.zero_le _) a3 none hW
  · intro a4 l5 hW4
    rw [wb_6_better_2]
    simp (disch := first | assumption | omega | exact zc_lo | exact zc_hi | exact zz_l | exact zz_u | exact zz_r) only [xc_1 gc_6_better_2, xc_1 gc_6_better_3, xc_1 gc_6_better_4, xc_2 gc_6_better_1, xc_3 gc_6_better_0, xl_aload0, xl_iinc4a, xl_iinc4i, xl_iinc4n, xl_iload1, xl_iload2, xl_iload3, xl_iload4, xl_iload5, xl_istore2a, xl_istore2i, xl_istore2n, xl_istore3a, xl_istore3i, xl_istore3n, xl_istore4a, xl_istore4i, xl_istore4n, xl_istore5a, xl_istore5i, xl_istore5n, xm_f, xm_n, xm_t, xn_1, xn_3, xn_5, xr_goto, xr_iadd, xr_ic_ge, xr_iconst, xr_if_ne, xr_iret, xtl_n, xtl_s, xz_i, xz_l, xz_n, xz_r, wb_6_better_0, wb_6_better_1, wb_6_better_3, wb_6_better_4, wb_6_better_5, zz_b, zz_bn, Classical.not_not, true_and, Nat.reduceAdd, Nat.reduceLeDiff]
    exact ⟨fun _ => hQ a4 hW4.1, fun z => absurd (by omega) z⟩
  · intro d hdm ih a4 l5 hW4
    have bd := wo_b hc d
    have bd2 := wo_b hc (d + 1)
    rw [wb_6_better_2]
    simp (disch := first | assumption | omega | exact zc_lo | exact zc_hi | exact zz_l | exact zz_u | exact zz_r) only [xc_1 gc_6_better_2, xc_1 gc_6_better_3, xc_1 gc_6_better_4, xc_2 gc_6_better_1, xc_3 gc_6_better_0, xl_aload0, xl_iinc4a, xl_iinc4i, xl_iinc4n, xl_iload1, xl_iload2, xl_iload3, xl_iload4, xl_iload5, xl_istore2a, xl_istore2i, xl_istore2n, xl_istore3a, xl_istore3i, xl_istore3n, xl_istore4a, xl_istore4i, xl_istore4n, xl_istore5a, xl_istore5i, xl_istore5n, xm_f, xm_n, xm_t, xn_1, xn_3, xn_5, xr_goto, xr_iadd, xr_ic_ge, xr_iconst, xr_if_ne, xr_iret, xtl_n, xtl_s, xz_i, xz_l, xz_n, xz_r, wb_6_better_0, wb_6_better_1, wb_6_better_3, wb_6_better_4, wb_6_better_5, zz_b, zz_bn, Classical.not_not, true_and, Nat.reduceAdd, Nat.reduceLeDiff]
    refine ⟨fun z => absurd z (by omega), fun _ => ?_⟩
    refine sp_mgo hc hag hW4 (fun a5 hW5 _ => ?_)
    simp (disch := first | assumption | omega | exact zc_lo | exact zc_hi | exact zz_l | exact zz_u | exact zz_r) only [xc_1 gc_6_better_2, xc_1 gc_6_better_3, xc_1 gc_6_better_4, xc_2 gc_6_better_1, xc_3 gc_6_better_0, xl_aload0, xl_iinc4a, xl_iinc4i, xl_iinc4n, xl_iload1, xl_iload2, xl_iload3, xl_iload4, xl_iload5, xl_istore2a, xl_istore2i, xl_istore2n, xl_istore3a, xl_istore3i, xl_istore3n, xl_istore4a, xl_istore4i, xl_istore4n, xl_istore5a, xl_istore5i, xl_istore5n, xm_f, xm_n, xm_t, xn_1, xn_3, xn_5, xr_goto, xr_iadd, xr_ic_ge, xr_iconst, xr_if_ne, xr_iret, xtl_n, xtl_s, xz_i, xz_l, xz_n, xz_r, wb_6_better_0, wb_6_better_1, wb_6_better_3, wb_6_better_4, wb_6_better_5, zz_b, zz_bn, Classical.not_not, true_and, Nat.reduceAdd, Nat.reduceLeDiff]
    refine sp_mwst hc hag hW5 ?_
    simp (disch := first | assumption | omega | exact zc_lo | exact zc_hi | exact zz_l | exact zz_u | exact zz_r) only [xc_1 gc_6_better_2, xc_1 gc_6_better_3, xc_1 gc_6_better_4, xc_2 gc_6_better_1, xc_3 gc_6_better_0, xl_aload0, xl_iinc4a, xl_iinc4i, xl_iinc4n, xl_iload1, xl_iload2, xl_iload3, xl_iload4, xl_iload5, xl_istore2a, xl_istore2i, xl_istore2n, xl_istore3a, xl_istore3i, xl_istore3n, xl_istore4a, xl_istore4i, xl_istore4n, xl_istore5a, xl_istore5i, xl_istore5n, xm_f, xm_n, xm_t, xn_1, xn_3, xn_5, xr_goto, xr_iadd, xr_ic_ge, xr_iconst, xr_if_ne, xr_iret, xtl_n, xtl_s, xz_i, xz_l, xz_n, xz_r, wb_6_better_0, wb_6_better_1, wb_6_better_3, wb_6_better_4, wb_6_better_5, zz_b, zz_bn, Classical.not_not, true_and, Nat.reduceAdd, Nat.reduceLeDiff]
    have ih2 := fun l5 => ih a5 l5 hW5
    rw [show btF (wo a i) (d + 1) = if wo a i (d + 1) < wo a i d then btF (wo a i) d + 1 else btF (wo a i) d from rfl] at ih2
    rw [cs d]
    refine ⟨fun z => ?_, fun z => ?_⟩
    · rw [if_neg (by omega)] at ih2; rw [Int.add_zero]; exact ih2 _
    · rw [if_pos (by omega)] at ih2; exact ih2 _
theorem op_better (h : Inv N w a i) {x : Int} (x1 : -2147483648 ≤ x) (x2 : x ≤ 2147483647) : s_5_better [.inr (.inr 0), .inl x] (HH n xs w a i) (fun r h => s_6_better [.inr (.inr 53), .inl x] h (OPQ n xs N r)) := by
  by_cases c2 : 1 ≤ x ∧ x ≤ 200
  · obtain ⟨M, rfl⟩ := nat_of (show 0 ≤ x by omega)
    have bd := btF_bd (o := wo a i) M
    refine cl_better h.2.1 (Fr_rf h) (by omega) (by omega) (fun w3 a3 i3 hF3 => ?_)
    exact md_better h.2.1 h.2.2.1 hF3 (by omega) (by omega) (fun a4 hF4 => OPQ_f h hF4 (by omega) (by omega))
  · simp (disch := first | assumption | omega | exact zc_lo | exact zc_hi | exact zz_l | exact zz_u | exact zz_r) only [xc_1 gc_5_better_2, xc_1 gc_5_better_4, xc_2 gc_5_better_1, xc_2 gc_5_better_3, xc_3 gc_5_better_0, xl_aload0, xl_iinc2a, xl_iinc2i, xl_iinc2n, xl_iinc4a, xl_iinc4i, xl_iinc4n, xl_iload1, xl_iload2, xl_iload3, xl_iload4, xl_iload5, xl_istore2a, xl_istore2i, xl_istore2n, xl_istore3a, xl_istore3i, xl_istore3n, xl_istore4a, xl_istore4i, xl_istore4n, xl_istore5a, xl_istore5i, xl_istore5n, xm_f, xm_n, xm_t, xn_1, xn_3, xn_4, xo_0_0, xo_0_6, xo_44_2, xo_47_2, xr_goto, xr_ic_ge, xr_iconst, xr_if_ne, xr_iret, xr_pop, xtl_n, xtl_s, xz_i, xz_l, xz_n, xz_r, wb_5_better_0, wb_5_better_1, wb_5_better_3, wb_5_better_4, ss_5_better, xc_1 gc_6_better_2, xc_1 gc_6_better_3, xc_1 gc_6_better_4, xc_2 gc_6_better_1, xc_3 gc_6_better_0, xl_aload0, xl_iinc4a, xl_iinc4i, xl_iinc4n, xl_iload1, xl_iload2, xl_iload3, xl_iload4, xl_iload5, xl_istore2a, xl_istore2i, xl_istore2n, xl_istore3a, xl_istore3i, xl_istore3n, xl_istore4a, xl_istore4i, xl_istore4n, xl_istore5a, xl_istore5i, xl_istore5n, xm_f, xm_n, xm_t, xn_1, xn_3, xn_5, xr_goto, xr_iadd, xr_ic_ge, xr_iconst, xr_if_ne, xr_iret, xtl_n, xtl_s, xz_i, xz_l, xz_n, xz_r, wb_6_better_0, wb_6_better_1, wb_6_better_3, wb_6_better_4, wb_6_better_5, ss_6_better, zz_b, zz_bn, Classical.not_not, true_and, Nat.reduceAdd, Nat.reduceLeDiff, sp_5_isWithin, sp_6_in, sp_5_finding, sp_6_finds, c2, true_implies, false_implies, implies_true, not_true_eq_false, not_false_eq_true, and_true, false_and, and_false, if_true, if_false, Int.reduceEq, Int.reduceSub, Int.reduceAdd, Int.reduceMul, Int.reduceNeg, Int.reduceLT, Int.reduceLE, Int.add_zero]
    exact fnd h 0 (by omega) (by omega)
/-- two states of the march are alike -/
def Al (a : Nat → Int → Int) (i : Nat → Int) (x y : Nat) : Prop := oE i (maF a i (a 8) x) (maF a i (a 8) y)
theorem Al_s {x y : Nat} (h : Al a i x y) : Al a i y x := fun r z1 z2 => (h r z1 z2).symm
theorem Al_t {x y z : Nat} (h : Al a i x y) (h2 : Al a i y z) : Al a i x z := fun r z1 z2 => (h2 r z1 z2).trans (h r z1 z2)
theorem Al_1 {x y : Nat} (h : Al a i x y) : Al a i (x + 1) (y + 1) := stF_o h
theorem cl_settles (hc : colN a i) (hF : Fr a i p q w2 a2 i2) : (∀ w3 a3 i3 (t : Nat), Fr a i p q w3 a3 i3 → t ≤ 200 → Al a i t (t + 1) → (∀ m : Nat, m < t → ¬ Al a i m (m + 1)) → Q (some (.inl t)) (HH n xs w3 a3 i3)) → ((∀ m : Nat, m ≤ 200 → ¬ Al a i m (m + 1)) → ∀ w3 a3 i3, Fr a i (bm p 3) q w3 a3 i3 → Q (some (.inl (-1000001 - 3))) (HH n xs w3 a3 i3)) → s_5_settles [.inr (.inr 0)] (HH n xs w2 a2 i2) Q := by
  intro hQ hQ2
  simp (disch := first | assumption | omega | exact zc_lo | exact zc_hi | exact zz_l | exact zz_u | exact zz_r) only [xc_1 gc_5_settles_0, xc_1 gc_5_settles_1, xc_2 gc_5_settles_2, xl_aload0, xl_iinc1a, xl_iinc1i, xl_iinc1n, xl_iload1, xl_istore1a, xl_istore1i, xl_istore1n, xm_f, xm_n, xm_t, xn_2, xn_3, xo_0_6, xr_goto, xr_ic_gt, xr_iconst, xr_if_ne, xr_iret, xtl_n, xtl_s, xz_i, xz_l, xz_n, xz_r, wb_5_settles_0, wb_5_settles_2, wb_5_settles_3, ss_5_settles, zz_b, zz_bn, Classical.not_not, true_and, Nat.reduceAdd, Nat.reduceLeDiff, true_implies, false_implies, implies_true, not_true_eq_false, not_false_eq_true, and_true, false_and, and_false, if_true, if_false, Int.reduceEq, Int.reduceSub, Int.reduceAdd, Int.reduceMul, Int.reduceNeg, Int.reduceLT, Int.reduceLE, Int.add_zero]
  refine sp_set hc hF (fun a3 i3 hW _ _ => ?_)
  simp (disch := first | assumption | omega | exact zc_lo | exact zc_hi | exact zz_l | exact zz_u | exact zz_r) only [xc_1 gc_5_settles_0, xc_1 gc_5_settles_1, xc_2 gc_5_settles_2, xl_aload0, xl_iinc1a, xl_iinc1i, xl_iinc1n, xl_iload1, xl_istore1a, xl_istore1i, xl_istore1n, xm_f, xm_n, xm_t, xn_2, xn_3, xo_0_6, xr_goto, xr_ic_gt, xr_iconst, xr_if_ne, xr_iret, xtl_n, xtl_s, xz_i, xz_l, xz_n, xz_r, wb_5_settles_0, wb_5_settles_2, wb_5_settles_3, zz_b, zz_bn, Classical.not_not, true_and, Nat.reduceAdd, Nat.reduceLeDiff, true_implies, false_implies, implies_true, not_true_eq_false, not_false_eq_true, and_true, false_and, and_false, if_true, if_false, Int.reduceEq, Int.reduceSub, Int.reduceAdd, Int.reduceMul, Int.reduceNeg, Int.reduceLT, Int.reduceLE, Int.add_zero]
  refine lp_up (m := 201) (P := fun d => ∀ w4 a4, Wk a i p q d w4 a4 i3 → (∀ m : Nat, m < d → ¬ Al a i m (m + 1)) → dk_WP g_5_settles b_5_settles Q 1 [some (.inr (.inr 0)), some (.inl d)] [] (HH n xs w4 a4 i3)) ?_ ?_ 0 (Nat.zero_le _) w2 a3 hW (fun m hm => absurd hm (Nat.not_lt_zero m))
  · intro w4 a4 hW4 hno
    rw [wb_5_settles_1]
    simp (disch := first | assumption | omega | exact zc_lo | exact zc_hi | exact zz_l | exact zz_u | exact zz_r) only [xc_1 gc_5_settles_0, xc_1 gc_5_settles_1, xc_2 gc_5_settles_2, xl_aload0, xl_iinc1a, xl_iinc1i, xl_iinc1n, xl_iload1, xl_istore1a, xl_istore1i, xl_istore1n, xm_f, xm_n, xm_t, xn_2, xn_3, xo_0_6, xr_goto, xr_ic_gt, xr_iconst, xr_if_ne, xr_iret, xtl_n, xtl_s, xz_i, xz_l, xz_n, xz_r, wb_5_settles_0, wb_5_settles_2, wb_5_settles_3, zz_b, zz_bn, Classical.not_not, true_and, Nat.reduceAdd, Nat.reduceLeDiff]
    refine ⟨fun _ => ?_, fun z => absurd (by omega) z⟩
    refine sp_fi5 hW4.1 (by omega) (by omega) (fun a5 hF5 => ?_)
    simp (disch := first | assumption | omega | exact zc_lo | exact zc_hi | exact zz_l | exact zz_u | exact zz_r) only [xc_1 gc_5_settles_0, xc_1 gc_5_settles_1, xc_2 gc_5_settles_2, xl_aload0, xl_iinc1a, xl_iinc1i, xl_iinc1n, xl_iload1, xl_istore1a, xl_istore1i, xl_istore1n, xm_f, xm_n, xm_t, xn_2, xn_3, xo_0_6, xr_goto, xr_ic_gt, xr_iconst, xr_if_ne, xr_iret, xtl_n, xtl_s, xz_i, xz_l, xz_n, xz_r, wb_5_settles_0, wb_5_settles_2, wb_5_settles_3, zz_b, zz_bn, Classical.not_not, true_and, Nat.reduceAdd, Nat.reduceLeDiff]
    exact hQ2 (fun m hm => hno m (by omega)) w4 a5 i3 hF5
  · intro d hdm ih w4 a4 hW4 hno
    rw [wb_5_settles_1]
    simp (disch := first | assumption | omega | exact zc_lo | exact zc_hi | exact zz_l | exact zz_u | exact zz_r) only [xc_1 gc_5_settles_0, xc_1 gc_5_settles_1, xc_2 gc_5_settles_2, xl_aload0, xl_iinc1a, xl_iinc1i, xl_iinc1n, xl_iload1, xl_istore1a, xl_istore1i, xl_istore1n, xm_f, xm_n, xm_t, xn_2, xn_3, xo_0_6, xr_goto, xr_ic_gt, xr_iconst, xr_if_ne, xr_iret, xtl_n, xtl_s, xz_i, xz_l, xz_n, xz_r, wb_5_settles_0, wb_5_settles_2, wb_5_settles_3, zz_b, zz_bn, Classical.not_not, true_and, Nat.reduceAdd, Nat.reduceLeDiff]
    refine ⟨fun z => absurd z (by omega), fun _ => ?_⟩
    refine sp_stp hc hW4 (fun w5 a5 x hW5 _ _ hx => ?_)
    rcases hx with ⟨rfl, hx⟩ | ⟨rfl, hx⟩
    · simp (disch := first | assumption | omega | exact zc_lo | exact zc_hi | exact zz_l | exact zz_u | exact zz_r) only [xc_1 gc_5_settles_0, xc_1 gc_5_settles_1, xc_2 gc_5_settles_2, xl_aload0, xl_iinc1a, xl_iinc1i, xl_iinc1n, xl_iload1, xl_istore1a, xl_istore1i, xl_istore1n, xm_f, xm_n, xm_t, xn_2, xn_3, xo_0_6, xr_goto, xr_ic_gt, xr_iconst, xr_if_ne, xr_iret, xtl_n, xtl_s, xz_i, xz_l, xz_n, xz_r, wb_5_settles_0, wb_5_settles_2, wb_5_settles_3, zz_b, zz_bn, Classical.not_not, true_and, Nat.reduceAdd, Nat.reduceLeDiff, eq_self, true_implies, false_implies, implies_true, not_true_eq_false, not_false_eq_true, and_true, false_and, and_false, if_true, if_false, Int.reduceEq, Int.reduceSub, Int.reduceAdd, Int.reduceMul, Int.reduceNeg, Int.reduceLT, Int.reduceLE, Int.add_zero]
      exact hQ w5 a5 i3 d hW5.1 (by omega) hx hno
    · simp (disch := first | assumption | omega | exact zc_lo | exact zc_hi | exact zz_l | exact zz_u | exact zz_r) only [xc_1 gc_5_settles_0, xc_1 gc_5_settles_1, xc_2 gc_5_settles_2, xl_aload0, xl_iinc1a, xl_iinc1i, xl_iinc1n, xl_iload1, xl_istore1a, xl_istore1i, xl_istore1n, xm_f, xm_n, xm_t, xn_2, xn_3, xo_0_6, xr_goto, xr_ic_gt, xr_iconst, xr_if_ne, xr_iret, xtl_n, xtl_s, xz_i, xz_l, xz_n, xz_r, wb_5_settles_0, wb_5_settles_2, wb_5_settles_3, zz_b, zz_bn, Classical.not_not, true_and, Nat.reduceAdd, Nat.reduceLeDiff, eq_self, true_implies, false_implies, implies_true, not_true_eq_false, not_false_eq_true, and_true, false_and, and_false, if_true, if_false, Int.reduceEq, Int.reduceSub, Int.reduceAdd, Int.reduceMul, Int.reduceNeg, Int.reduceLT, Int.reduceLE, Int.add_zero]
      rw [cs d]
      refine ih w5 a5 hW5 (fun m hm => ?_)
      by_cases e : m = d
      · subst e; exact hx
      · exact hno m (by omega)
/-- what is told of a march -/
def Tl (a : Nat → Int → Int) (i : Nat → Int) (M : Nat) (a2 : Nat → Int → Int) : Prop := ∀ k : Nat, k ≤ M → ∀ r, 0 ≤ r → r < i 0 → a2 67 (24 * k + r) = maF a i (a 8) k r
theorem md_tell (hc : colN a i) (hag : agr a i (mv a) (mi i)) (hF : Fr a i p q w2 a2 i2) {M : Nat} (hM : M ≤ 201) : (∀ a3, Fr a i p q w2 a3 i2 → Tl a i M a3 → Q none (HH n xs w2 a3 i2)) → s_6_tellMarch [.inr (.inr 53), .inl M] (HH n xs w2 a2 i2) Q := by
  intro hQ
  obtain ⟨hm1, hm2, hm3, hm4, hm5⟩ := Fr_m hc hag hF
  have hk := k24 hc
  obtain ⟨m, hm⟩ := nat_of hk.1
  simp (disch := first | assumption | omega | exact zc_lo | exact zc_hi | exact zz_l | exact zz_u | exact zz_r) only [xa_65, xa_67, xc_1 gc_6_tellMarch_0, xc_1 gc_6_tellMarch_1, xl_aload0, xl_iinc2a, xl_iinc2i, xl_iinc2n, xl_iinc3a, xl_iinc3i, xl_iinc3n, xl_iload1, xl_iload2, xl_iload3, xl_istore2a, xl_istore2i, xl_istore2n, xl_istore3a, xl_istore3i, xl_istore3n, xm_f, xm_n, xm_t, xn_3, xn_4, xo_53_23, xo_53_25, xo_53_3, xr_goto, xr_iadd, xr_ic_ge, xr_ic_gt, xr_iconst, xr_imul, xr_vret, xs_65, xs_67, xtl_n, xtl_s, xz_i, xz_l, xz_n, xz_r, wb_6_tellMarch_0, wb_6_tellMarch_3, wb_6_tellMarch_4, ss_6_tellMarch, zz_b, zz_bn, Classical.not_not, true_and, Nat.reduceAdd, Nat.reduceLeDiff, true_implies, false_implies, implies_true, not_true_eq_false, not_false_eq_true, and_true, false_and, and_false, if_true, if_false, Int.reduceEq, Int.reduceSub, Int.reduceAdd, Int.reduceMul, Int.reduceNeg, Int.reduceLT, Int.reduceLE, Int.add_zero]
  refine sp_mbeg hc hag hF (fun a3 hW _ => ?_)
  simp (disch := first | assumption | omega | exact zc_lo | exact zc_hi | exact zz_l | exact zz_u | exact zz_r) only [xa_65, xa_67, xc_1 gc_6_tellMarch_0, xc_1 gc_6_tellMarch_1, xl_aload0, xl_iinc2a, xl_iinc2i, xl_iinc2n, xl_iinc3a, xl_iinc3i, xl_iinc3n, xl_iload1, xl_iload2, xl_iload3, xl_istore2a, xl_istore2i, xl_istore2n, xl_istore3a, xl_istore3i, xl_istore3n, xm_f, xm_n, xm_t, xn_3, xn_4, xo_53_23, xo_53_25, xo_53_3, xr_goto, xr_iadd, xr_ic_ge, xr_ic_gt, xr_iconst, xr_imul, xr_vret, xs_65, xs_67, xtl_n, xtl_s, xz_i, xz_l, xz_n, xz_r, wb_6_tellMarch_0, wb_6_tellMarch_3, wb_6_tellMarch_4, zz_b, zz_bn, Classical.not_not, true_and, Nat.reduceAdd, Nat.reduceLeDiff, true_implies, false_implies, implies_true, not_true_eq_false, not_false_eq_true, and_true, false_and, and_false, if_true, if_false, Int.reduceEq, Int.reduceSub, Int.reduceAdd, Int.reduceMul, Int.reduceNeg, Int.reduceLT, Int.reduceLE, Int.add_zero]
  refine lp_up (m := M + 1) (P := fun d => ∀ a4 l3, Mk a i p q d w2 a4 i2 → (∀ k : Nat, k < d → ∀ r, 0 ≤ r → r < i 0 → a4 67 (24 * k + r) = maF a i (a 8) k r) → dk_WP g_6_tellMarch b_6_tellMarch Q 1 [some (.inr (.inr 53)), some (.inl M), some (.inl d), l3] [] (HH n xs w2 a4 i2)) ?_ ?_ 0 (Nat.zero_le _) a3 none hW (fun k z => absurd z (Nat.not_lt_zero k))
  · intro a4 l3 hW4 hT
    rw [wb_6_tellMarch_1]
    simp (disch := first | assumption | omega | exact zc_lo | exact zc_hi | exact zz_l | exact zz_u | exact zz_r) only [xa_65, xa_67, xc_1 gc_6_tellMarch_0, xc_1 gc_6_tellMarch_1, xl_aload0, xl_iinc2a, xl_iinc2i, xl_iinc2n, xl_iinc3a, xl_iinc3i, xl_iinc3n, xl_iload1, xl_iload2, xl_iload3, xl_istore2a, xl_istore2i, xl_istore2n, xl_istore3a, xl_istore3i, xl_istore3n, xm_f, xm_n, xm_t, xn_3, xn_4, xo_53_23, xo_53_25, xo_53_3, xr_goto, xr_iadd, xr_ic_ge, xr_ic_gt, xr_iconst, xr_imul, xr_vret, xs_65, xs_67, xtl_n, xtl_s, xz_i, xz_l, xz_n, xz_r, wb_6_tellMarch_0, wb_6_tellMarch_3, wb_6_tellMarch_4, zz_b, zz_bn, Classical.not_not, true_and, Nat.reduceAdd, Nat.reduceLeDiff]
    exact ⟨fun _ => hQ a4 hW4.1 (fun k hk => hT k (by omega)), fun z => absurd (by omega) z⟩
  · intro d hdm ih a4 l3 hW4 hT
    rw [wb_6_tellMarch_1]
    simp (disch := first | assumption | omega | exact zc_lo | exact zc_hi | exact zz_l | exact zz_u | exact zz_r) only [xa_65, xa_67, xc_1 gc_6_tellMarch_0, xc_1 gc_6_tellMarch_1, xl_aload0, xl_iinc2a, xl_iinc2i, xl_iinc2n, xl_iinc3a, xl_iinc3i, xl_iinc3n, xl_iload1, xl_iload2, xl_iload3, xl_istore2a, xl_istore2i, xl_istore2n, xl_istore3a, xl_istore3i, xl_istore3n, xm_f, xm_n, xm_t, xn_3, xn_4, xo_53_23, xo_53_25, xo_53_3, xr_goto, xr_iadd, xr_ic_ge, xr_ic_gt, xr_iconst, xr_imul, xr_vret, xs_65, xs_67, xtl_n, xtl_s, xz_i, xz_l, xz_n, xz_r, wb_6_tellMarch_0, wb_6_tellMarch_3, wb_6_tellMarch_4, zz_b, zz_bn, Classical.not_not, true_and, Nat.reduceAdd, Nat.reduceLeDiff]
    refine ⟨fun z => absurd z (by omega), fun _ => ?_⟩
    refine lp_up (m := m) (P := fun e => ∀ a5, Mk a i p q d w2 a5 i2 → (∀ k : Nat, k < d → ∀ r, 0 ≤ r → r < i 0 → a5 67 (24 * k + r) = maF a i (a 8) k r) → (∀ r : Int, 0 ≤ r → r < e → a5 67 (24 * d + r) = maF a i (a 8) d r) → dk_WP g_6_tellMarch b_6_tellMarch Q 2 [some (.inr (.inr 53)), some (.inl M), some (.inl d), some (.inl e)] [] (HH n xs w2 a5 i2)) ?_ ?_ 0 (Nat.zero_le _) a4 hW4 hT (fun r z1 z2 => by omega)
    · intro a5 hW5 hT5 hT6
      rw [wb_6_tellMarch_2]
      simp (disch := first | assumption | omega | exact zc_lo | exact zc_hi | exact zz_l | exact zz_u | exact zz_r) only [xa_65, xa_67, xc_1 gc_6_tellMarch_0, xc_1 gc_6_tellMarch_1, xl_aload0, xl_iinc2a, xl_iinc2i, xl_iinc2n, xl_iinc3a, xl_iinc3i, xl_iinc3n, xl_iload1, xl_iload2, xl_iload3, xl_istore2a, xl_istore2i, xl_istore2n, xl_istore3a, xl_istore3i, xl_istore3n, xm_f, xm_n, xm_t, xn_3, xn_4, xo_53_23, xo_53_25, xo_53_3, xr_goto, xr_iadd, xr_ic_ge, xr_ic_gt, xr_iconst, xr_imul, xr_vret, xs_65, xs_67, xtl_n, xtl_s, xz_i, xz_l, xz_n, xz_r, wb_6_tellMarch_0, wb_6_tellMarch_3, wb_6_tellMarch_4, zz_b, zz_bn, Classical.not_not, true_and, Nat.reduceAdd, Nat.reduceLeDiff, hm3]
      refine ⟨fun _ => ?_, fun z => absurd (by omega) z⟩
      refine sp_mgo hc hag hW5 (fun a6 hW6 hs6 => ?_)
      simp (disch := first | assumption | omega | exact zc_lo | exact zc_hi | exact zz_l | exact zz_u | exact zz_r) only [xa_65, xa_67, xc_1 gc_6_tellMarch_0, xc_1 gc_6_tellMarch_1, xl_aload0, xl_iinc2a, xl_iinc2i, xl_iinc2n, xl_iinc3a, xl_iinc3i, xl_iinc3n, xl_iload1, xl_iload2, xl_iload3, xl_istore2a, xl_istore2i, xl_istore2n, xl_istore3a, xl_istore3i, xl_istore3n, xm_f, xm_n, xm_t, xn_3, xn_4, xo_53_23, xo_53_25, xo_53_3, xr_goto, xr_iadd, xr_ic_ge, xr_ic_gt, xr_iconst, xr_imul, xr_vret, xs_65, xs_67, xtl_n, xtl_s, xz_i, xz_l, xz_n, xz_r, wb_6_tellMarch_0, wb_6_tellMarch_3, wb_6_tellMarch_4, zz_b, zz_bn, Classical.not_not, true_and, Nat.reduceAdd, Nat.reduceLeDiff]
      rw [cs d]
      refine ih a6 _ hW6 (fun k hk r z1 z2 => ?_)
      rw [hs6 67 (by decide)]
      by_cases e : k = d
      · subst e; exact hT6 r z1 (by omega)
      · exact hT5 k (by omega) r z1 z2
    · intro e hem ih2 a5 hW5 hT5 hT6
      rw [wb_6_tellMarch_2]
      simp (disch := first | assumption | omega | exact zc_lo | exact zc_hi | exact zz_l | exact zz_u | exact zz_r) only [xa_65, xa_67, xc_1 gc_6_tellMarch_0, xc_1 gc_6_tellMarch_1, xl_aload0, xl_iinc2a, xl_iinc2i, xl_iinc2n, xl_iinc3a, xl_iinc3i, xl_iinc3n, xl_iload1, xl_iload2, xl_iload3, xl_istore2a, xl_istore2i, xl_istore2n, xl_istore3a, xl_istore3i, xl_istore3n, xm_f, xm_n, xm_t, xn_3, xn_4, xo_53_23, xo_53_25, xo_53_3, xr_goto, xr_iadd, xr_ic_ge, xr_ic_gt, xr_iconst, xr_imul, xr_vret, xs_65, xs_67, xtl_n, xtl_s, xz_i, xz_l, xz_n, xz_r, wb_6_tellMarch_0, wb_6_tellMarch_3, wb_6_tellMarch_4, zz_b, zz_bn, Classical.not_not, true_and, Nat.reduceAdd, Nat.reduceLeDiff, hm3]
      refine ⟨fun z => absurd z (by omega), fun _ => ?_⟩
      rw [cs e]
      have hs6 : sA [67] a5 (dk_up a5 67 (dk_ui (a5 67) (24 * (d : Int) + e) (a5 65 e))) := sA_up sA_rf (by simp) _
      refine ih2 _ ⟨Fr_sA hW5.1 hs6 (by decide), ?_⟩ (fun k hk r z1 z2 => ?_) (fun r z1 z2 => ?_)
      · rw [up_n (by decide)]; exact hW5.2
      · rw [up_s, ui_n (by omega)]; exact hT5 k hk r z1 z2
      · rw [up_s]
        by_cases e2 : r = e
        · subst e2; rw [ui_s]; exact hW5.2 e (by omega) (by omega)
        · rw [ui_n (by omega)]; exact hT6 r z1 (by omega)
theorem md_alike (hc : colN a i) (hag : agr a i (mv a) (mi i)) (hF : Fr a i p q w2 a2 i2) {M : Nat} (hM : M ≤ 201) (hT : Tl a i M a2) {x y : Nat} (hx : x ≤ M) (hy : y ≤ M) : (Al a i x y → Q (some (.inl 1)) (HH n xs w2 a2 i2)) → (¬ Al a i x y → Q (some (.inl 0)) (HH n xs w2 a2 i2)) → s_6_isAlike [.inr (.inr 53), .inl x, .inl y] (HH n xs w2 a2 i2) Q := by
  intro hQ hQ2
  obtain ⟨hm1, hm2, hm3, hm4, hm5⟩ := Fr_m hc hag hF
  have hk := k24 hc
  obtain ⟨m, hm⟩ := nat_of hk.1
  simp (disch := first | assumption | omega | exact zc_lo | exact zc_hi | exact zz_l | exact zz_u | exact zz_r) only [xa_67, xl_aload0, xl_iinc3a, xl_iinc3i, xl_iinc3n, xl_iload1, xl_iload2, xl_iload3, xl_istore3a, xl_istore3i, xl_istore3n, xm_f, xm_n, xm_t, xn_2, xn_3, xo_53_25, xo_53_3, xr_goto, xr_iadd, xr_ic_eq, xr_ic_ge, xr_iconst, xr_imul, xr_zret, xtl_n, xtl_s, xz_i, xz_l, xz_n, xz_r, wb_6_isAlike_0, wb_6_isAlike_2, wb_6_isAlike_3, ss_6_isAlike, zz_b, zz_bn, Classical.not_not, true_and, Nat.reduceAdd, Nat.reduceLeDiff, true_implies, false_implies, implies_true, not_true_eq_false, not_false_eq_true, and_true, false_and, and_false, if_true, if_false, Int.reduceEq, Int.reduceSub, Int.reduceAdd, Int.reduceMul, Int.reduceNeg, Int.reduceLT, Int.reduceLE, Int.add_zero]
  refine lp_up (m := m) (P := fun d => (∀ r : Int, 0 ≤ r → r < d → maF a i (a 8) y r = maF a i (a 8) x r) → dk_WP g_6_isAlike b_6_isAlike Q 1 [some (.inr (.inr 53)), some (.inl x), some (.inl y), some (.inl d)] [] (HH n xs w2 a2 i2)) ?_ ?_ 0 (Nat.zero_le _) (fun r z1 z2 => by omega)
  · intro hal
    rw [wb_6_isAlike_1]
    simp (disch := first | assumption | omega | exact zc_lo | exact zc_hi | exact zz_l | exact zz_u | exact zz_r) only [xa_67, xl_aload0, xl_iinc3a, xl_iinc3i, xl_iinc3n, xl_iload1, xl_iload2, xl_iload3, xl_istore3a, xl_istore3i, xl_istore3n, xm_f, xm_n, xm_t, xn_2, xn_3, xo_53_25, xo_53_3, xr_goto, xr_iadd, xr_ic_eq, xr_ic_ge, xr_iconst, xr_imul, xr_zret, xtl_n, xtl_s, xz_i, xz_l, xz_n, xz_r, wb_6_isAlike_0, wb_6_isAlike_2, wb_6_isAlike_3, zz_b, zz_bn, Classical.not_not, true_and, Nat.reduceAdd, Nat.reduceLeDiff, hm3]
    exact ⟨fun _ => hQ (fun r z1 z2 => hal r z1 (by omega)), fun z => absurd (by omega) z⟩
  · intro d hdm ih hal
    have e1 := hT x hx d (by omega) (by omega)
    have e2 := hT y hy d (by omega) (by omega)
    have b1 := ma_b hc (t := x) (r := d) (by omega) (by omega)
    have b2 := ma_b hc (t := y) (r := d) (by omega) (by omega)
    rw [wb_6_isAlike_1]
    simp (disch := first | assumption | omega | exact zc_lo | exact zc_hi | exact zz_l | exact zz_u | exact zz_r) only [xa_67, xl_aload0, xl_iinc3a, xl_iinc3i, xl_iinc3n, xl_iload1, xl_iload2, xl_iload3, xl_istore3a, xl_istore3i, xl_istore3n, xm_f, xm_n, xm_t, xn_2, xn_3, xo_53_25, xo_53_3, xr_goto, xr_iadd, xr_ic_eq, xr_ic_ge, xr_iconst, xr_imul, xr_zret, xtl_n, xtl_s, xz_i, xz_l, xz_n, xz_r, wb_6_isAlike_0, wb_6_isAlike_2, wb_6_isAlike_3, zz_b, zz_bn, Classical.not_not, true_and, Nat.reduceAdd, Nat.reduceLeDiff, hm3, e1, e2]
    refine ⟨fun z => absurd z (by omega), fun _ => ⟨fun z => ?_, fun z => ?_⟩⟩
    · rw [cs d]
      refine ih (fun r z1 z2 => ?_)
      by_cases e : r = d
      · subst e; exact z.symm
      · exact hal r z1 (by omega)
    · exact hQ2 (fun q => z (q d (by omega) (by omega)).symm)
theorem md_settles (hc : colN a i) (hag : agr a i (mv a) (mi i)) (hF : Fr a i p q w2 a2 i2) : (∀ a3 (t : Nat), Fr a i p q w2 a3 i2 → t ≤ 200 → Al a i t (t + 1) → (∀ m : Nat, m < t → ¬ Al a i m (m + 1)) → Q (some (.inl t)) (HH n xs w2 a3 i2)) → ((∀ m : Nat, m ≤ 200 → ¬ Al a i m (m + 1)) → ∀ a3, Fr a i p (bm q 3) w2 a3 i2 → Q (some (.inl (-1000001 - 3))) (HH n xs w2 a3 i2)) → s_6_settles [.inr (.inr 53)] (HH n xs w2 a2 i2) Q := by
  intro hQ hQ2
  simp (disch := first | assumption | omega | exact zc_lo | exact zc_hi | exact zz_l | exact zz_u | exact zz_r) only [xc_2 gc_6_settles_0, xc_2 gc_6_settles_2, xc_3 gc_6_settles_1, xl_aload0, xl_iinc1a, xl_iinc1i, xl_iinc1n, xl_iload1, xl_istore1a, xl_istore1i, xl_istore1n, xm_f, xm_n, xm_t, xn_2, xn_3, xr_goto, xr_iadd, xr_ic_gt, xr_iconst, xr_if_eq, xr_iret, xtl_n, xtl_s, xz_i, xz_l, xz_n, xz_r, wb_6_settles_0, wb_6_settles_2, wb_6_settles_3, ss_6_settles, zz_b, zz_bn, Classical.not_not, true_and, Nat.reduceAdd, Nat.reduceLeDiff, true_implies, false_implies, implies_true, not_true_eq_false, not_false_eq_true, and_true, false_and, and_false, if_true, if_false, Int.reduceEq, Int.reduceSub, Int.reduceAdd, Int.reduceMul, Int.reduceNeg, Int.reduceLT, Int.reduceLE, Int.add_zero]
  refine md_tell hc hag hF (M := 201) (by omega) (fun a3 hF3 hT => ?_)
  simp (disch := first | assumption | omega | exact zc_lo | exact zc_hi | exact zz_l | exact zz_u | exact zz_r) only [xc_2 gc_6_settles_0, xc_2 gc_6_settles_2, xc_3 gc_6_settles_1, xl_aload0, xl_iinc1a, xl_iinc1i, xl_iinc1n, xl_iload1, xl_istore1a, xl_istore1i, xl_istore1n, xm_f, xm_n, xm_t, xn_2, xn_3, xr_goto, xr_iadd, xr_ic_gt, xr_iconst, xr_if_eq, xr_iret, xtl_n, xtl_s, xz_i, xz_l, xz_n, xz_r, wb_6_settles_0, wb_6_settles_2, wb_6_settles_3, zz_b, zz_bn, Classical.not_not, true_and, Nat.reduceAdd, Nat.reduceLeDiff, true_implies, false_implies, implies_true, not_true_eq_false, not_false_eq_true, and_true, false_and, and_false, if_true, if_false, Int.reduceEq, Int.reduceSub, Int.reduceAdd, Int.reduceMul, Int.reduceNeg, Int.reduceLT, Int.reduceLE, Int.add_zero]
  refine lp_up (m := 201) (P := fun d => (∀ m : Nat, m < d → ¬ Al a i m (m + 1)) → dk_WP g_6_settles b_6_settles Q 1 [some (.inr (.inr 53)), some (.inl d)] [] (HH n xs w2 a3 i2)) ?_ ?_ 0 (Nat.zero_le _) (fun m hm => absurd hm (Nat.not_lt_zero m))
  · intro hno
    rw [wb_6_settles_1]
    simp (disch := first | assumption | omega | exact zc_lo | exact zc_hi | exact zz_l | exact zz_u | exact zz_r) only [xc_2 gc_6_settles_0, xc_2 gc_6_settles_2, xc_3 gc_6_settles_1, xl_aload0, xl_iinc1a, xl_iinc1i, xl_iinc1n, xl_iload1, xl_istore1a, xl_istore1i, xl_istore1n, xm_f, xm_n, xm_t, xn_2, xn_3, xr_goto, xr_iadd, xr_ic_gt, xr_iconst, xr_if_eq, xr_iret, xtl_n, xtl_s, xz_i, xz_l, xz_n, xz_r, wb_6_settles_0, wb_6_settles_2, wb_6_settles_3, zz_b, zz_bn, Classical.not_not, true_and, Nat.reduceAdd, Nat.reduceLeDiff]
    refine ⟨fun _ => ?_, fun z => absurd (by omega) z⟩
    refine sp_fi6 hF3 (by omega) (by omega) (fun a5 hF5 => ?_)
    simp (disch := first | assumption | omega | exact zc_lo | exact zc_hi | exact zz_l | exact zz_u | exact zz_r) only [xc_2 gc_6_settles_0, xc_2 gc_6_settles_2, xc_3 gc_6_settles_1, xl_aload0, xl_iinc1a, xl_iinc1i, xl_iinc1n, xl_iload1, xl_istore1a, xl_istore1i, xl_istore1n, xm_f, xm_n, xm_t, xn_2, xn_3, xr_goto, xr_iadd, xr_ic_gt, xr_iconst, xr_if_eq, xr_iret, xtl_n, xtl_s, xz_i, xz_l, xz_n, xz_r, wb_6_settles_0, wb_6_settles_2, wb_6_settles_3, zz_b, zz_bn, Classical.not_not, true_and, Nat.reduceAdd, Nat.reduceLeDiff]
    exact hQ2 (fun m hm => hno m (by omega)) a5 hF5
  · intro d hdm ih hno
    rw [wb_6_settles_1]
    simp (disch := first | assumption | omega | exact zc_lo | exact zc_hi | exact zz_l | exact zz_u | exact zz_r) only [xc_2 gc_6_settles_0, xc_2 gc_6_settles_2, xc_3 gc_6_settles_1, xl_aload0, xl_iinc1a, xl_iinc1i, xl_iinc1n, xl_iload1, xl_istore1a, xl_istore1i, xl_istore1n, xm_f, xm_n, xm_t, xn_2, xn_3, xr_goto, xr_iadd, xr_ic_gt, xr_iconst, xr_if_eq, xr_iret, xtl_n, xtl_s, xz_i, xz_l, xz_n, xz_r, wb_6_settles_0, wb_6_settles_2, wb_6_settles_3, zz_b, zz_bn, Classical.not_not, true_and, Nat.reduceAdd, Nat.reduceLeDiff]
    refine ⟨fun z => absurd z (by omega), fun _ => ?_⟩
    rw [cs d]
    refine md_alike hc hag hF3 (by omega) hT (by omega) (by omega) (fun hx => ?_) (fun hx => ?_)
    · simp (disch := first | assumption | omega | exact zc_lo | exact zc_hi | exact zz_l | exact zz_u | exact zz_r) only [xc_2 gc_6_settles_0, xc_2 gc_6_settles_2, xc_3 gc_6_settles_1, xl_aload0, xl_iinc1a, xl_iinc1i, xl_iinc1n, xl_iload1, xl_istore1a, xl_istore1i, xl_istore1n, xm_f, xm_n, xm_t, xn_2, xn_3, xr_goto, xr_iadd, xr_ic_gt, xr_iconst, xr_if_eq, xr_iret, xtl_n, xtl_s, xz_i, xz_l, xz_n, xz_r, wb_6_settles_0, wb_6_settles_2, wb_6_settles_3, zz_b, zz_bn, Classical.not_not, true_and, Nat.reduceAdd, Nat.reduceLeDiff, eq_self, true_implies, false_implies, implies_true, not_true_eq_false, not_false_eq_true, and_true, false_and, and_false, if_true, if_false, Int.reduceEq, Int.reduceSub, Int.reduceAdd, Int.reduceMul, Int.reduceNeg, Int.reduceLT, Int.reduceLE, Int.add_zero]
      exact hQ a3 d hF3 (by omega) hx hno
    · simp (disch := first | assumption | omega | exact zc_lo | exact zc_hi | exact zz_l | exact zz_u | exact zz_r) only [xc_2 gc_6_settles_0, xc_2 gc_6_settles_2, xc_3 gc_6_settles_1, xl_aload0, xl_iinc1a, xl_iinc1i, xl_iinc1n, xl_iload1, xl_istore1a, xl_istore1i, xl_istore1n, xm_f, xm_n, xm_t, xn_2, xn_3, xr_goto, xr_iadd, xr_ic_gt, xr_iconst, xr_if_eq, xr_iret, xtl_n, xtl_s, xz_i, xz_l, xz_n, xz_r, wb_6_settles_0, wb_6_settles_2, wb_6_settles_3, zz_b, zz_bn, Classical.not_not, true_and, Nat.reduceAdd, Nat.reduceLeDiff, eq_self, true_implies, false_implies, implies_true, not_true_eq_false, not_false_eq_true, and_true, false_and, and_false, if_true, if_false, Int.reduceEq, Int.reduceSub, Int.reduceAdd, Int.reduceMul, Int.reduceNeg, Int.reduceLT, Int.reduceLE, Int.add_zero]
      rw [cs d]
      refine ih (fun m hm => ?_)
      by_cases e : m = d
      · subst e; exact hx
      · exact hno m (by omega)
theorem op_settles (h : Inv N w a i) : s_5_settles [.inr (.inr 0)] (HH n xs w a i) (fun r h => s_6_settles [.inr (.inr 53)] h (OPQ n xs N r)) := by
  have hc := h.2.1
  have hag := h.2.2.1
  refine cl_settles hc (Fr_rf h) (fun w3 a3 i3 t hF3 ht hal hno => ?_) (fun hno w3 a3 i3 hF3 => ?_)
  · refine md_settles hc hag hF3 (fun a4 t2 hF4 ht2 hal2 hno2 => ?_) (fun hno2 => absurd hal (hno2 t ht))
    have e : t2 = t := by
      rcases Nat.lt_trichotomy t t2 with z | z | z
      · exact absurd hal (hno2 t z)
      · exact z.symm
      · exact absurd hal2 (hno t2 z)
    subst e
    exact OPQ_f h hF4 (by omega) (by omega)
  · refine md_settles hc hag hF3 (fun a4 t2 hF4 ht2 hal2 hno2 => absurd hal2 (hno t2 ht2)) (fun _ a4 hF4 => OPQ_d h (by omega) (by omega) hF4)
/-- where it goes round: the class -/
theorem sp_5_wasAsNow (hc : colN a i) (hW : Wk a i p q t w2 a2 i2) {e : Nat} (he : e ≤ 200) (hT : ∀ r, 0 ≤ r → r < i 0 → a2 50 (e * 24 + r) = maF a i (a 8) e r) : (Al a i e t → Q (some (.inl 1)) (HH n xs w2 a2 i2)) → (¬ Al a i e t → Q (some (.inl 0)) (HH n xs w2 a2 i2)) → s_5_wasAsNow [.inr (.inr 0), .inl e] (HH n xs w2 a2 i2) Q := by
  intro hQ hQ2
  obtain ⟨hc2, ho2, K0⟩ := Wk_ok hc hW
  have hk := k24 hc
  obtain ⟨m, hm⟩ := nat_of hk.1
  simp (disch := first | assumption | omega | exact zc_lo | exact zc_hi | exact zz_l | exact zz_u | exact zz_r) only [xa_50, xl_aload0, xl_iinc2a, xl_iinc2i, xl_iinc2n, xl_iload1, xl_iload2, xl_istore2a, xl_istore2i, xl_istore2n, xm_f, xm_n, xm_t, xn_2, xn_3, xo_0_0, xo_0_6, xo_0_8, xo_1_1, xo_44_2, xo_47_2, xr_goto, xr_iadd, xr_ic_eq, xr_ic_ge, xr_iconst, xr_imul, xr_zret, xtl_n, xtl_s, xz_i, xz_l, xz_n, xz_r, wb_5_wasAsNow_0, wb_5_wasAsNow_2, wb_5_wasAsNow_3, ss_5_wasAsNow, zz_b, zz_bn, Classical.not_not, true_and, Nat.reduceAdd, Nat.reduceLeDiff, true_implies, false_implies, implies_true, not_true_eq_false, not_false_eq_true, and_true, false_and, and_false, if_true, if_false, Int.reduceEq, Int.reduceSub, Int.reduceAdd, Int.reduceMul, Int.reduceNeg, Int.reduceLT, Int.reduceLE, Int.add_zero]
  refine lp_up (m := m) (P := fun d => (∀ r : Int, 0 ≤ r → r < d → maF a i (a 8) t r = maF a i (a 8) e r) → dk_WP g_5_wasAsNow b_5_wasAsNow Q 1 [some (.inr (.inr 0)), some (.inl e), some (.inl d)] [] (HH n xs w2 a2 i2)) ?_ ?_ 0 (Nat.zero_le _) (fun r z1 z2 => by omega)
  · intro hal
    rw [wb_5_wasAsNow_1]
    simp (disch := first | assumption | omega | exact zc_lo | exact zc_hi | exact zz_l | exact zz_u | exact zz_r) only [xa_50, xl_aload0, xl_iinc2a, xl_iinc2i, xl_iinc2n, xl_iload1, xl_iload2, xl_istore2a, xl_istore2i, xl_istore2n, xm_f, xm_n, xm_t, xn_2, xn_3, xo_0_0, xo_0_6, xo_0_8, xo_1_1, xo_44_2, xo_47_2, xr_goto, xr_iadd, xr_ic_eq, xr_ic_ge, xr_iconst, xr_imul, xr_zret, xtl_n, xtl_s, xz_i, xz_l, xz_n, xz_r, wb_5_wasAsNow_0, wb_5_wasAsNow_2, wb_5_wasAsNow_3, zz_b, zz_bn, Classical.not_not, true_and, Nat.reduceAdd, Nat.reduceLeDiff, K0]
    exact ⟨fun _ => hQ (fun r z1 z2 => hal r z1 (by omega)), fun z => absurd (by omega) z⟩
  · intro d hdm ih hal
    have e1 := hT d (by omega) (by omega)
    have e2 := hW.2.2 d (by omega) (by omega)
    have b1 := ma_b hc (t := e) (r := d) (by omega) (by omega)
    have b2 := ma_b hc (t := t) (r := d) (by omega) (by omega)
    have d0 : (0 : Int) ≤ d := by omega
    have d24 : (d : Int) < 24 := by omega
    rw [wb_5_wasAsNow_1]
    simp (disch := first | assumption | omega | exact zc_lo | exact zc_hi | exact zz_l | exact zz_u | exact zz_r) only [xa_50, xl_aload0, xl_iinc2a, xl_iinc2i, xl_iinc2n, xl_iload1, xl_iload2, xl_istore2a, xl_istore2i, xl_istore2n, xm_f, xm_n, xm_t, xn_2, xn_3, xo_0_0, xo_0_6, xo_0_8, xo_1_1, xo_44_2, xo_47_2, xr_goto, xr_iadd, xr_ic_eq, xr_ic_ge, xr_iconst, xr_imul, xr_zret, xtl_n, xtl_s, xz_i, xz_l, xz_n, xz_r, wb_5_wasAsNow_0, wb_5_wasAsNow_2, wb_5_wasAsNow_3, zz_b, zz_bn, Classical.not_not, true_and, Nat.reduceAdd, Nat.reduceLeDiff, K0, xa_w (wl hW.1.1) d0 d24 (by omega), e1, e2]
    refine ⟨fun z => absurd z (by omega), fun _ => ⟨fun z => ?_, fun z => ?_⟩⟩
    · rw [cs d]
      refine ih (fun r z1 z2 => ?_)
      by_cases e : r = d
      · subst e; exact z.symm
      · exact hal r z1 (by omega)
    · exact hQ2 (fun q => z (q d (by omega) (by omega)).symm)
theorem sp_5_whenAsNow (hc : colN a i) (hW : Wk a i p q t w2 a2 i2) (ht : t ≤ 200) (hT : ∀ k : Nat, k < t → ∀ r, 0 ≤ r → r < i 0 → a2 50 (k * 24 + r) = maF a i (a 8) k r) : (∀ e : Nat, e < t → Al a i e t → Q (some (.inl e)) (HH n xs w2 a2 i2)) → ((∀ e : Nat, e < t → ¬ Al a i e t) → Q (some (.inl (-1))) (HH n xs w2 a2 i2)) → s_5_whenAsNow [.inr (.inr 0), .inl t] (HH n xs w2 a2 i2) Q := by
  intro hQ hQ2
  simp (disch := first | assumption | omega | exact zc_lo | exact zc_hi | exact zz_l | exact zz_u | exact zz_r) only [xc_2 gc_5_whenAsNow_0, xl_aload0, xl_iinc2a, xl_iinc2i, xl_iinc2n, xl_iload1, xl_iload2, xl_istore2a, xl_istore2i, xl_istore2n, xm_f, xm_n, xm_t, xn_2, xn_3, xr_goto, xr_ic_ge, xr_iconst, xr_if_eq, xr_iret, xtl_n, xtl_s, xz_i, xz_l, xz_n, xz_r, wb_5_whenAsNow_0, wb_5_whenAsNow_2, wb_5_whenAsNow_3, ss_5_whenAsNow, zz_b, zz_bn, Classical.not_not, true_and, Nat.reduceAdd, Nat.reduceLeDiff, true_implies, false_implies, implies_true, not_true_eq_false, not_false_eq_true, and_true, false_and, and_false, if_true, if_false, Int.reduceEq, Int.reduceSub, Int.reduceAdd, Int.reduceMul, Int.reduceNeg, Int.reduceLT, Int.reduceLE, Int.add_zero]
  refine lp_up (m := t) (P := fun d => (∀ e : Nat, e < d → ¬ Al a i e t) → dk_WP g_5_whenAsNow b_5_whenAsNow Q 1 [some (.inr (.inr 0)), some (.inl t), some (.inl d)] [] (HH n xs w2 a2 i2)) ?_ ?_ 0 (Nat.zero_le _) (fun e z => absurd z (Nat.not_lt_zero e))
  · intro hno
    rw [wb_5_whenAsNow_1]
    simp (disch := first | assumption | omega | exact zc_lo | exact zc_hi | exact zz_l | exact zz_u | exact zz_r) only [xc_2 gc_5_whenAsNow_0, xl_aload0, xl_iinc2a, xl_iinc2i, xl_iinc2n, xl_iload1, xl_iload2, xl_istore2a, xl_istore2i, xl_istore2n, xm_f, xm_n, xm_t, xn_2, xn_3, xr_goto, xr_ic_ge, xr_iconst, xr_if_eq, xr_iret, xtl_n, xtl_s, xz_i, xz_l, xz_n, xz_r, wb_5_whenAsNow_0, wb_5_whenAsNow_2, wb_5_whenAsNow_3, zz_b, zz_bn, Classical.not_not, true_and, Nat.reduceAdd, Nat.reduceLeDiff]
    exact ⟨fun _ => hQ2 hno, fun z => absurd (by omega) z⟩
  · intro d hdm ih hno
    rw [wb_5_whenAsNow_1]
    simp (disch := first | assumption | omega | exact zc_lo | exact zc_hi | exact zz_l | exact zz_u | exact zz_r) only [xc_2 gc_5_whenAsNow_0, xl_aload0, xl_iinc2a, xl_iinc2i, xl_iinc2n, xl_iload1, xl_iload2, xl_istore2a, xl_istore2i, xl_istore2n, xm_f, xm_n, xm_t, xn_2, xn_3, xr_goto, xr_ic_ge, xr_iconst, xr_if_eq, xr_iret, xtl_n, xtl_s, xz_i, xz_l, xz_n, xz_r, wb_5_whenAsNow_0, wb_5_whenAsNow_2, wb_5_whenAsNow_3, zz_b, zz_bn, Classical.not_not, true_and, Nat.reduceAdd, Nat.reduceLeDiff]
    refine ⟨fun z => absurd z (by omega), fun _ => ?_⟩
    refine sp_5_wasAsNow hc hW (by omega) (hT d (by omega)) (fun z => ?_) (fun z => ?_)
    · simp (disch := first | assumption | omega | exact zc_lo | exact zc_hi | exact zz_l | exact zz_u | exact zz_r) only [xc_2 gc_5_whenAsNow_0, xl_aload0, xl_iinc2a, xl_iinc2i, xl_iinc2n, xl_iload1, xl_iload2, xl_istore2a, xl_istore2i, xl_istore2n, xm_f, xm_n, xm_t, xn_2, xn_3, xr_goto, xr_ic_ge, xr_iconst, xr_if_eq, xr_iret, xtl_n, xtl_s, xz_i, xz_l, xz_n, xz_r, wb_5_whenAsNow_0, wb_5_whenAsNow_2, wb_5_whenAsNow_3, zz_b, zz_bn, Classical.not_not, true_and, Nat.reduceAdd, Nat.reduceLeDiff, eq_self, true_implies, false_implies, implies_true, not_true_eq_false, not_false_eq_true, and_true, false_and, and_false, if_true, if_false, Int.reduceEq, Int.reduceSub, Int.reduceAdd, Int.reduceMul, Int.reduceNeg, Int.reduceLT, Int.reduceLE, Int.add_zero]
      exact hQ d (by omega) z
    · simp (disch := first | assumption | omega | exact zc_lo | exact zc_hi | exact zz_l | exact zz_u | exact zz_r) only [xc_2 gc_5_whenAsNow_0, xl_aload0, xl_iinc2a, xl_iinc2i, xl_iinc2n, xl_iload1, xl_iload2, xl_istore2a, xl_istore2i, xl_istore2n, xm_f, xm_n, xm_t, xn_2, xn_3, xr_goto, xr_ic_ge, xr_iconst, xr_if_eq, xr_iret, xtl_n, xtl_s, xz_i, xz_l, xz_n, xz_r, wb_5_whenAsNow_0, wb_5_whenAsNow_2, wb_5_whenAsNow_3, zz_b, zz_bn, Classical.not_not, true_and, Nat.reduceAdd, Nat.reduceLeDiff, eq_self, true_implies, false_implies, implies_true, not_true_eq_false, not_false_eq_true, and_true, false_and, and_false, if_true, if_false, Int.reduceEq, Int.reduceSub, Int.reduceAdd, Int.reduceMul, Int.reduceNeg, Int.reduceLT, Int.reduceLE, Int.add_zero]
      rw [cs d]
      refine ih (fun e he => ?_)
      by_cases e1 : e = d
      · subst e1; exact z
      · exact hno e (by omega)
theorem cl_round (hc : colN a i) (hF : Fr a i p q w2 a2 i2) {x : Int} (hx : 0 ≤ x ∧ x ≤ 1) : (∀ w3 a3 i3 (e t : Nat), Fr a i p q w3 a3 i3 → t ≤ 200 → e < t → Al a i e t → (∀ t2 : Nat, t2 < t → ∀ e2 : Nat, e2 < t2 → ¬ Al a i e2 t2) → Q (some (.inl (if x = 0 then (e : Int) else (t : Int) - e))) (HH n xs w3 a3 i3)) → ((∀ t2 : Nat, t2 ≤ 200 → ∀ e2 : Nat, e2 < t2 → ¬ Al a i e2 t2) → ∀ w3 a3 i3, Fr a i (bm p 3) q w3 a3 i3 → Q (some (.inl (-1000001 - 3))) (HH n xs w3 a3 i3)) → s_5_round [.inr (.inr 0), .inl x] (HH n xs w2 a2 i2) Q := by
  intro hQ hQ2
  have hk := k24 hc
  simp (disch := first | assumption | omega | exact zc_lo | exact zc_hi | exact zz_l | exact zz_u | exact zz_r) only [xc_1 gc_5_round_2, xc_1 gc_5_round_5, xc_2 gc_5_round_1, xc_2 gc_5_round_3, xc_3 gc_5_round_0, xc_5 gc_5_round_4, xl_aload0, xl_iinc2a, xl_iinc2i, xl_iinc2n, xl_iload1, xl_iload2, xl_iload3, xl_istore2a, xl_istore2i, xl_istore2n, xl_istore3a, xl_istore3i, xl_istore3n, xm_f, xm_n, xm_t, xn_1, xn_3, xn_5, xn_6, xo_0_6, xo_0_8, xo_44_2, xo_47_2, xr_goto, xr_ic_gt, xr_iconst, xr_if_lt, xr_if_ne, xr_imul, xr_iret, xr_isub, xr_pop, xtl_n, xtl_s, xz_i, xz_l, xz_n, xz_r, wb_5_round_0, wb_5_round_1, wb_5_round_3, wb_5_round_4, wb_5_round_5, wb_5_round_6, ss_5_round, zz_b, zz_bn, Classical.not_not, true_and, Nat.reduceAdd, Nat.reduceLeDiff, sp_5_isWithin, hx, true_implies, false_implies, implies_true, not_true_eq_false, not_false_eq_true, and_true, false_and, and_false, if_true, if_false, Int.reduceEq, Int.reduceSub, Int.reduceAdd, Int.reduceMul, Int.reduceNeg, Int.reduceLT, Int.reduceLE, Int.add_zero]
  refine sp_set hc hF (fun a3 i3 hW _ _ => ?_)
  simp (disch := first | assumption | omega | exact zc_lo | exact zc_hi | exact zz_l | exact zz_u | exact zz_r) only [xc_1 gc_5_round_2, xc_1 gc_5_round_5, xc_2 gc_5_round_1, xc_2 gc_5_round_3, xc_3 gc_5_round_0, xc_5 gc_5_round_4, xl_aload0, xl_iinc2a, xl_iinc2i, xl_iinc2n, xl_iload1, xl_iload2, xl_iload3, xl_istore2a, xl_istore2i, xl_istore2n, xl_istore3a, xl_istore3i, xl_istore3n, xm_f, xm_n, xm_t, xn_1, xn_3, xn_5, xn_6, xo_0_6, xo_0_8, xo_44_2, xo_47_2, xr_goto, xr_ic_gt, xr_iconst, xr_if_lt, xr_if_ne, xr_imul, xr_iret, xr_isub, xr_pop, xtl_n, xtl_s, xz_i, xz_l, xz_n, xz_r, wb_5_round_0, wb_5_round_1, wb_5_round_3, wb_5_round_4, wb_5_round_5, wb_5_round_6, zz_b, zz_bn, Classical.not_not, true_and, Nat.reduceAdd, Nat.reduceLeDiff, true_implies, false_implies, implies_true, not_true_eq_false, not_false_eq_true, and_true, false_and, and_false, if_true, if_false, Int.reduceEq, Int.reduceSub, Int.reduceAdd, Int.reduceMul, Int.reduceNeg, Int.reduceLT, Int.reduceLE, Int.add_zero]
  refine lp_up (m := 201) (P := fun d => ∀ w4 a4 l3, Wk a i p q d w4 a4 i3 → (∀ k : Nat, k < d → ∀ r, 0 ≤ r → r < i 0 → a4 50 (k * 24 + r) = maF a i (a 8) k r) → (∀ t2 : Nat, t2 < d → ∀ e2 : Nat, e2 < t2 → ¬ Al a i e2 t2) → dk_WP g_5_round b_5_round Q 2 [some (.inr (.inr 0)), some (.inl x), some (.inl d), l3] [] (HH n xs w4 a4 i3)) ?_ ?_ 0 (Nat.zero_le _) w2 a3 none hW (fun k z => absurd z (Nat.not_lt_zero k)) (fun k z => absurd z (Nat.not_lt_zero k))
  · intro w4 a4 l3 hW4 hT hno
    rw [wb_5_round_2]
    simp (disch := first | assumption | omega | exact zc_lo | exact zc_hi | exact zz_l | exact zz_u | exact zz_r) only [xc_1 gc_5_round_2, xc_1 gc_5_round_5, xc_2 gc_5_round_1, xc_2 gc_5_round_3, xc_3 gc_5_round_0, xc_5 gc_5_round_4, xl_aload0, xl_iinc2a, xl_iinc2i, xl_iinc2n, xl_iload1, xl_iload2, xl_iload3, xl_istore2a, xl_istore2i, xl_istore2n, xl_istore3a, xl_istore3i, xl_istore3n, xm_f, xm_n, xm_t, xn_1, xn_3, xn_5, xn_6, xo_0_6, xo_0_8, xo_44_2, xo_47_2, xr_goto, xr_ic_gt, xr_iconst, xr_if_lt, xr_if_ne, xr_imul, xr_iret, xr_isub, xr_pop, xtl_n, xtl_s, xz_i, xz_l, xz_n, xz_r, wb_5_round_0, wb_5_round_1, wb_5_round_3, wb_5_round_4, wb_5_round_5, wb_5_round_6, zz_b, zz_bn, Classical.not_not, true_and, Nat.reduceAdd, Nat.reduceLeDiff]
    refine ⟨fun _ => ?_, fun z => absurd (by omega) z⟩
    refine sp_fi5 hW4.1 (by omega) (by omega) (fun a5 hF5 => ?_)
    simp (disch := first | assumption | omega | exact zc_lo | exact zc_hi | exact zz_l | exact zz_u | exact zz_r) only [xc_1 gc_5_round_2, xc_1 gc_5_round_5, xc_2 gc_5_round_1, xc_2 gc_5_round_3, xc_3 gc_5_round_0, xc_5 gc_5_round_4, xl_aload0, xl_iinc2a, xl_iinc2i, xl_iinc2n, xl_iload1, xl_iload2, xl_iload3, xl_istore2a, xl_istore2i, xl_istore2n, xl_istore3a, xl_istore3i, xl_istore3n, xm_f, xm_n, xm_t, xn_1, xn_3, xn_5, xn_6, xo_0_6, xo_0_8, xo_44_2, xo_47_2, xr_goto, xr_ic_gt, xr_iconst, xr_if_lt, xr_if_ne, xr_imul, xr_iret, xr_isub, xr_pop, xtl_n, xtl_s, xz_i, xz_l, xz_n, xz_r, wb_5_round_0, wb_5_round_1, wb_5_round_3, wb_5_round_4, wb_5_round_5, wb_5_round_6, zz_b, zz_bn, Classical.not_not, true_and, Nat.reduceAdd, Nat.reduceLeDiff]
    exact hQ2 (fun t2 ht2 => hno t2 (by omega)) w4 a5 i3 hF5
  · intro d hdm ih w4 a4 l3 hW4 hT hno
    rw [wb_5_round_2]
    simp (disch := first | assumption | omega | exact zc_lo | exact zc_hi | exact zz_l | exact zz_u | exact zz_r) only [xc_1 gc_5_round_2, xc_1 gc_5_round_5, xc_2 gc_5_round_1, xc_2 gc_5_round_3, xc_3 gc_5_round_0, xc_5 gc_5_round_4, xl_aload0, xl_iinc2a, xl_iinc2i, xl_iinc2n, xl_iload1, xl_iload2, xl_iload3, xl_istore2a, xl_istore2i, xl_istore2n, xl_istore3a, xl_istore3i, xl_istore3n, xm_f, xm_n, xm_t, xn_1, xn_3, xn_5, xn_6, xo_0_6, xo_0_8, xo_44_2, xo_47_2, xr_goto, xr_ic_gt, xr_iconst, xr_if_lt, xr_if_ne, xr_imul, xr_iret, xr_isub, xr_pop, xtl_n, xtl_s, xz_i, xz_l, xz_n, xz_r, wb_5_round_0, wb_5_round_1, wb_5_round_3, wb_5_round_4, wb_5_round_5, wb_5_round_6, zz_b, zz_bn, Classical.not_not, true_and, Nat.reduceAdd, Nat.reduceLeDiff]
    refine ⟨fun z => absurd z (by omega), fun _ => ?_⟩
    refine sp_5_whenAsNow hc hW4 (by omega) hT (fun e he hal => ?_) (fun hal => ?_)
    · simp (disch := first | assumption | omega | exact zc_lo | exact zc_hi | exact zz_l | exact zz_u | exact zz_r) only [xc_1 gc_5_round_2, xc_1 gc_5_round_5, xc_2 gc_5_round_1, xc_2 gc_5_round_3, xc_3 gc_5_round_0, xc_5 gc_5_round_4, xl_aload0, xl_iinc2a, xl_iinc2i, xl_iinc2n, xl_iload1, xl_iload2, xl_iload3, xl_istore2a, xl_istore2i, xl_istore2n, xl_istore3a, xl_istore3i, xl_istore3n, xm_f, xm_n, xm_t, xn_1, xn_3, xn_5, xn_6, xo_0_6, xo_0_8, xo_44_2, xo_47_2, xr_goto, xr_ic_gt, xr_iconst, xr_if_lt, xr_if_ne, xr_imul, xr_iret, xr_isub, xr_pop, xtl_n, xtl_s, xz_i, xz_l, xz_n, xz_r, wb_5_round_0, wb_5_round_1, wb_5_round_3, wb_5_round_4, wb_5_round_5, wb_5_round_6, zz_b, zz_bn, Classical.not_not, true_and, Nat.reduceAdd, Nat.reduceLeDiff]
      refine ⟨fun z => absurd z (by omega), fun _ => ⟨fun z => ?_, fun z => ?_⟩⟩
      · have := hQ w4 a4 i3 e d hW4.1 (by omega) he hal hno
        rw [if_neg z] at this
        exact this
      · have := hQ w4 a4 i3 e d hW4.1 (by omega) he hal hno
        rw [if_pos z] at this
        exact this
    · simp (disch := first | assumption | omega | exact zc_lo | exact zc_hi | exact zz_l | exact zz_u | exact zz_r) only [xc_1 gc_5_round_2, xc_1 gc_5_round_5, xc_2 gc_5_round_1, xc_2 gc_5_round_3, xc_3 gc_5_round_0, xc_5 gc_5_round_4, xl_aload0, xl_iinc2a, xl_iinc2i, xl_iinc2n, xl_iload1, xl_iload2, xl_iload3, xl_istore2a, xl_istore2i, xl_istore2n, xl_istore3a, xl_istore3i, xl_istore3n, xm_f, xm_n, xm_t, xn_1, xn_3, xn_5, xn_6, xo_0_6, xo_0_8, xo_44_2, xo_47_2, xr_goto, xr_ic_gt, xr_iconst, xr_if_lt, xr_if_ne, xr_imul, xr_iret, xr_isub, xr_pop, xtl_n, xtl_s, xz_i, xz_l, xz_n, xz_r, wb_5_round_0, wb_5_round_1, wb_5_round_3, wb_5_round_4, wb_5_round_5, wb_5_round_6, zz_b, zz_bn, Classical.not_not, true_and, Nat.reduceAdd, Nat.reduceLeDiff]
      refine ⟨fun _ => ?_, fun z => absurd (by omega) z⟩
      unfold s_ac
      have u1 : dk_ar (HH n xs w4 a4 i3 (w4 0)) 0 = some (24, a4 (w4 0)) := by rw [HH_at (wl hW4.1.1)]; rfl
      have u2 : dk_ar (HH n xs w4 a4 i3 50) 0 = some (4824, a4 50) := rfl
      simp only [u1, u2]
      refine ⟨by omega, ?_⟩
      rw [HH_ua (k := 50) (t := 0) (m := 4824) rfl]
      generalize hG : (fun j : Int => if (d : Int) * 24 ≤ j ∧ j < (d : Int) * 24 + 24 then a4 (w4 0) (0 + (j - (d : Int) * 24)) else a4 50 j) = G
      have hs5 : sA [50] a4 (dk_up a4 50 G) := sA_up sA_rf (by simp) _
      have hw50 : ¬ w4 0 = 50 := by rcases hW4.1.1 with ⟨h1, h2⟩ | ⟨h1, h2⟩ <;> omega
      have hW5 : Wk a i p q d w4 (dk_up a4 50 G) i3 := ⟨Fr_sA hW4.1 hs5 (by decide), SP_E (cE_of hs5 (by decide)) (fun _ _ => rfl) (SP_s (hs5 _ (by decide)) (hs5 _ (by decide)) (hs5 _ (by decide)) (hs5 _ (by decide)) hW4.2.1), by rw [up_n hw50]; exact hW4.2.2⟩
      simp (disch := first | assumption | omega | exact zc_lo | exact zc_hi | exact zz_l | exact zz_u | exact zz_r) only [xc_1 gc_5_round_2, xc_1 gc_5_round_5, xc_2 gc_5_round_1, xc_2 gc_5_round_3, xc_3 gc_5_round_0, xc_5 gc_5_round_4, xl_aload0, xl_iinc2a, xl_iinc2i, xl_iinc2n, xl_iload1, xl_iload2, xl_iload3, xl_istore2a, xl_istore2i, xl_istore2n, xl_istore3a, xl_istore3i, xl_istore3n, xm_f, xm_n, xm_t, xn_1, xn_3, xn_5, xn_6, xo_0_6, xo_0_8, xo_44_2, xo_47_2, xr_goto, xr_ic_gt, xr_iconst, xr_if_lt, xr_if_ne, xr_imul, xr_iret, xr_isub, xr_pop, xtl_n, xtl_s, xz_i, xz_l, xz_n, xz_r, wb_5_round_0, wb_5_round_1, wb_5_round_3, wb_5_round_4, wb_5_round_5, wb_5_round_6, zz_b, zz_bn, Classical.not_not, true_and, Nat.reduceAdd, Nat.reduceLeDiff]
      refine sp_stp hc hW5 (fun w6 a6 x6 hW6 hs6 _ _ => ?_)
      simp (disch := first | assumption | omega | exact zc_lo | exact zc_hi | exact zz_l | exact zz_u | exact zz_r) only [xc_1 gc_5_round_2, xc_1 gc_5_round_5, xc_2 gc_5_round_1, xc_2 gc_5_round_3, xc_3 gc_5_round_0, xc_5 gc_5_round_4, xl_aload0, xl_iinc2a, xl_iinc2i, xl_iinc2n, xl_iload1, xl_iload2, xl_iload3, xl_istore2a, xl_istore2i, xl_istore2n, xl_istore3a, xl_istore3i, xl_istore3n, xm_f, xm_n, xm_t, xn_1, xn_3, xn_5, xn_6, xo_0_6, xo_0_8, xo_44_2, xo_47_2, xr_goto, xr_ic_gt, xr_iconst, xr_if_lt, xr_if_ne, xr_imul, xr_iret, xr_isub, xr_pop, xtl_n, xtl_s, xz_i, xz_l, xz_n, xz_r, wb_5_round_0, wb_5_round_1, wb_5_round_3, wb_5_round_4, wb_5_round_5, wb_5_round_6, zz_b, zz_bn, Classical.not_not, true_and, Nat.reduceAdd, Nat.reduceLeDiff]
      rw [cs d]
      refine ih w6 a6 _ hW6 (fun k hk2 r z1 z2 => ?_) (fun t2 ht2 e2 he2 => ?_)
      · rw [hs6 50 (by decide), up_s, ← hG]
        simp only
        by_cases e : k = d
        · subst e
          rw [if_pos (by omega), show 0 + ((k : Int) * 24 + r - (k : Int) * 24) = r by omega]
          exact hW4.2.2 r z1 z2
        · rw [if_neg (by omega)]
          exact hT k (by omega) r z1 z2
      · by_cases e : t2 = d
        · subst e; exact hal e2 he2
        · exact hno t2 (by omega) e2 he2
theorem md_round (hc : colN a i) (hag : agr a i (mv a) (mi i)) (hF : Fr a i p q w2 a2 i2) {x : Int} (hx : 0 ≤ x ∧ x ≤ 1) : (∀ a3 (e m : Nat), Fr a i p q w2 a3 i2 → e + m ≤ 200 → 1 ≤ m → Al a i e (e + m) → (∀ e2 : Nat, e2 < e → ∀ m2 : Nat, 1 ≤ m2 → e2 + m2 ≤ 200 → ¬ Al a i e2 (e2 + m2)) → (∀ m2 : Nat, 1 ≤ m2 → m2 < m → ¬ Al a i e (e + m2)) → Q (some (.inl (if x = 0 then (e : Int) else (m : Int)))) (HH n xs w2 a3 i2)) → ((∀ e2 : Nat, e2 < 200 → ∀ m2 : Nat, 1 ≤ m2 → e2 + m2 ≤ 200 → ¬ Al a i e2 (e2 + m2)) → ∀ a3, Fr a i p (bm q 3) w2 a3 i2 → Q (some (.inl (-1000001 - 3))) (HH n xs w2 a3 i2)) → s_6_round [.inr (.inr 53), .inl x] (HH n xs w2 a2 i2) Q := by
  intro hQ hQ2
  simp (disch := first | assumption | omega | exact zc_lo | exact zc_hi | exact zz_l | exact zz_u | exact zz_r) only [xc_2 gc_6_round_1, xc_2 gc_6_round_2, xc_3 gc_6_round_0, xc_3 gc_6_round_3, xl_aload0, xl_iinc2a, xl_iinc2i, xl_iinc2n, xl_iinc3a, xl_iinc3i, xl_iinc3n, xl_iload1, xl_iload2, xl_iload3, xl_istore2a, xl_istore2i, xl_istore2n, xl_istore3a, xl_istore3i, xl_istore3n, xm_f, xm_n, xm_t, xn_1, xn_4, xn_6, xn_7, xn_8, xr_goto, xr_iadd, xr_ic_ge, xr_ic_gt, xr_iconst, xr_if_eq, xr_if_ne, xr_iret, xtl_n, xtl_s, xz_i, xz_l, xz_n, xz_r, wb_6_round_0, wb_6_round_1, wb_6_round_4, wb_6_round_5, wb_6_round_6, wb_6_round_7, wb_6_round_8, ss_6_round, zz_b, zz_bn, Classical.not_not, true_and, Nat.reduceAdd, Nat.reduceLeDiff, sp_6_in, hx, true_implies, false_implies, implies_true, not_true_eq_false, not_false_eq_true, and_true, false_and, and_false, if_true, if_false, Int.reduceEq, Int.reduceSub, Int.reduceAdd, Int.reduceMul, Int.reduceNeg, Int.reduceLT, Int.reduceLE, Int.add_zero]
  refine md_tell hc hag hF (M := 200) (by omega) (fun a3 hF3 hT => ?_)
  simp (disch := first | assumption | omega | exact zc_lo | exact zc_hi | exact zz_l | exact zz_u | exact zz_r) only [xc_2 gc_6_round_1, xc_2 gc_6_round_2, xc_3 gc_6_round_0, xc_3 gc_6_round_3, xl_aload0, xl_iinc2a, xl_iinc2i, xl_iinc2n, xl_iinc3a, xl_iinc3i, xl_iinc3n, xl_iload1, xl_iload2, xl_iload3, xl_istore2a, xl_istore2i, xl_istore2n, xl_istore3a, xl_istore3i, xl_istore3n, xm_f, xm_n, xm_t, xn_1, xn_4, xn_6, xn_7, xn_8, xr_goto, xr_iadd, xr_ic_ge, xr_ic_gt, xr_iconst, xr_if_eq, xr_if_ne, xr_iret, xtl_n, xtl_s, xz_i, xz_l, xz_n, xz_r, wb_6_round_0, wb_6_round_1, wb_6_round_4, wb_6_round_5, wb_6_round_6, wb_6_round_7, wb_6_round_8, zz_b, zz_bn, Classical.not_not, true_and, Nat.reduceAdd, Nat.reduceLeDiff, true_implies, false_implies, implies_true, not_true_eq_false, not_false_eq_true, and_true, false_and, and_false, if_true, if_false, Int.reduceEq, Int.reduceSub, Int.reduceAdd, Int.reduceMul, Int.reduceNeg, Int.reduceLT, Int.reduceLE, Int.add_zero]
  refine lp_up (m := 200) (P := fun d => ∀ l3, (∀ e2 : Nat, e2 < d → ∀ m2 : Nat, 1 ≤ m2 → e2 + m2 ≤ 200 → ¬ Al a i e2 (e2 + m2)) → dk_WP g_6_round b_6_round Q 2 [some (.inr (.inr 53)), some (.inl x), some (.inl d), l3] [] (HH n xs w2 a3 i2)) ?_ ?_ 0 (Nat.zero_le _) none (fun e z => absurd z (Nat.not_lt_zero e))
  · intro l3 hno
    rw [wb_6_round_2]
    simp (disch := first | assumption | omega | exact zc_lo | exact zc_hi | exact zz_l | exact zz_u | exact zz_r) only [xc_2 gc_6_round_1, xc_2 gc_6_round_2, xc_3 gc_6_round_0, xc_3 gc_6_round_3, xl_aload0, xl_iinc2a, xl_iinc2i, xl_iinc2n, xl_iinc3a, xl_iinc3i, xl_iinc3n, xl_iload1, xl_iload2, xl_iload3, xl_istore2a, xl_istore2i, xl_istore2n, xl_istore3a, xl_istore3i, xl_istore3n, xm_f, xm_n, xm_t, xn_1, xn_4, xn_6, xn_7, xn_8, xr_goto, xr_iadd, xr_ic_ge, xr_ic_gt, xr_iconst, xr_if_eq, xr_if_ne, xr_iret, xtl_n, xtl_s, xz_i, xz_l, xz_n, xz_r, wb_6_round_0, wb_6_round_1, wb_6_round_4, wb_6_round_5, wb_6_round_6, wb_6_round_7, wb_6_round_8, zz_b, zz_bn, Classical.not_not, true_and, Nat.reduceAdd, Nat.reduceLeDiff]
    refine ⟨fun _ => ?_, fun z => absurd (by omega) z⟩
    refine sp_fi6 hF3 (by omega) (by omega) (fun a5 hF5 => ?_)
    simp (disch := first | assumption | omega | exact zc_lo | exact zc_hi | exact zz_l | exact zz_u | exact zz_r) only [xc_2 gc_6_round_1, xc_2 gc_6_round_2, xc_3 gc_6_round_0, xc_3 gc_6_round_3, xl_aload0, xl_iinc2a, xl_iinc2i, xl_iinc2n, xl_iinc3a, xl_iinc3i, xl_iinc3n, xl_iload1, xl_iload2, xl_iload3, xl_istore2a, xl_istore2i, xl_istore2n, xl_istore3a, xl_istore3i, xl_istore3n, xm_f, xm_n, xm_t, xn_1, xn_4, xn_6, xn_7, xn_8, xr_goto, xr_iadd, xr_ic_ge, xr_ic_gt, xr_iconst, xr_if_eq, xr_if_ne, xr_iret, xtl_n, xtl_s, xz_i, xz_l, xz_n, xz_r, wb_6_round_0, wb_6_round_1, wb_6_round_4, wb_6_round_5, wb_6_round_6, wb_6_round_7, wb_6_round_8, zz_b, zz_bn, Classical.not_not, true_and, Nat.reduceAdd, Nat.reduceLeDiff]
    exact hQ2 hno a5 hF5
  · intro d hdm ih l3 hno
    rw [wb_6_round_2]
    simp (disch := first | assumption | omega | exact zc_lo | exact zc_hi | exact zz_l | exact zz_u | exact zz_r) only [xc_2 gc_6_round_1, xc_2 gc_6_round_2, xc_3 gc_6_round_0, xc_3 gc_6_round_3, xl_aload0, xl_iinc2a, xl_iinc2i, xl_iinc2n, xl_iinc3a, xl_iinc3i, xl_iinc3n, xl_iload1, xl_iload2, xl_iload3, xl_istore2a, xl_istore2i, xl_istore2n, xl_istore3a, xl_istore3i, xl_istore3n, xm_f, xm_n, xm_t, xn_1, xn_4, xn_6, xn_7, xn_8, xr_goto, xr_iadd, xr_ic_ge, xr_ic_gt, xr_iconst, xr_if_eq, xr_if_ne, xr_iret, xtl_n, xtl_s, xz_i, xz_l, xz_n, xz_r, wb_6_round_0, wb_6_round_1, wb_6_round_4, wb_6_round_5, wb_6_round_6, wb_6_round_7, wb_6_round_8, zz_b, zz_bn, Classical.not_not, true_and, Nat.reduceAdd, Nat.reduceLeDiff]
    refine ⟨fun z => absurd z (by omega), fun _ => ?_⟩
    have key : ∀ s, s ≤ 200 - d → (∀ m2 : Nat, 1 ≤ m2 → m2 < s + 1 → ¬ Al a i d (d + m2)) → dk_WP g_6_round b_6_round Q 3 [some (.inr (.inr 53)), some (.inl x), some (.inl d), some (.inl ((s : Int) + 1))] [] (HH n xs w2 a3 i2) := by
      refine lp_up ?_ ?_
      · intro hno2
        rw [wb_6_round_3]
        simp (disch := first | assumption | omega | exact zc_lo | exact zc_hi | exact zz_l | exact zz_u | exact zz_r) only [xc_2 gc_6_round_1, xc_2 gc_6_round_2, xc_3 gc_6_round_0, xc_3 gc_6_round_3, xl_aload0, xl_iinc2a, xl_iinc2i, xl_iinc2n, xl_iinc3a, xl_iinc3i, xl_iinc3n, xl_iload1, xl_iload2, xl_iload3, xl_istore2a, xl_istore2i, xl_istore2n, xl_istore3a, xl_istore3i, xl_istore3n, xm_f, xm_n, xm_t, xn_1, xn_4, xn_6, xn_7, xn_8, xr_goto, xr_iadd, xr_ic_ge, xr_ic_gt, xr_iconst, xr_if_eq, xr_if_ne, xr_iret, xtl_n, xtl_s, xz_i, xz_l, xz_n, xz_r, wb_6_round_0, wb_6_round_1, wb_6_round_4, wb_6_round_5, wb_6_round_6, wb_6_round_7, wb_6_round_8, zz_b, zz_bn, Classical.not_not, true_and, Nat.reduceAdd, Nat.reduceLeDiff]
        refine ⟨fun _ => ?_, fun z => absurd (by omega) z⟩
        rw [cs d]
        refine ih _ (fun e2 he2 m2 h1 h2 => ?_)
        by_cases e : e2 = d
        · subst e; exact hno2 m2 h1 (by omega)
        · exact hno e2 (by omega) m2 h1 h2
      · intro s hsm ih2 hno2
        rw [wb_6_round_3]
        simp (disch := first | assumption | omega | exact zc_lo | exact zc_hi | exact zz_l | exact zz_u | exact zz_r) only [xc_2 gc_6_round_1, xc_2 gc_6_round_2, xc_3 gc_6_round_0, xc_3 gc_6_round_3, xl_aload0, xl_iinc2a, xl_iinc2i, xl_iinc2n, xl_iinc3a, xl_iinc3i, xl_iinc3n, xl_iload1, xl_iload2, xl_iload3, xl_istore2a, xl_istore2i, xl_istore2n, xl_istore3a, xl_istore3i, xl_istore3n, xm_f, xm_n, xm_t, xn_1, xn_4, xn_6, xn_7, xn_8, xr_goto, xr_iadd, xr_ic_ge, xr_ic_gt, xr_iconst, xr_if_eq, xr_if_ne, xr_iret, xtl_n, xtl_s, xz_i, xz_l, xz_n, xz_r, wb_6_round_0, wb_6_round_1, wb_6_round_4, wb_6_round_5, wb_6_round_6, wb_6_round_7, wb_6_round_8, zz_b, zz_bn, Classical.not_not, true_and, Nat.reduceAdd, Nat.reduceLeDiff]
        refine ⟨fun z => absurd z (by omega), fun _ => ?_⟩
        rw [show (d : Int) + ((s : Int) + 1) = ((d + (s + 1) : Nat) : Int) by omega]
        refine md_alike hc hag hF3 (by omega) hT (by omega) (by omega) (fun hal => ?_) (fun hal => ?_)
        · simp (disch := first | assumption | omega | exact zc_lo | exact zc_hi | exact zz_l | exact zz_u | exact zz_r) only [xc_2 gc_6_round_1, xc_2 gc_6_round_2, xc_3 gc_6_round_0, xc_3 gc_6_round_3, xl_aload0, xl_iinc2a, xl_iinc2i, xl_iinc2n, xl_iinc3a, xl_iinc3i, xl_iinc3n, xl_iload1, xl_iload2, xl_iload3, xl_istore2a, xl_istore2i, xl_istore2n, xl_istore3a, xl_istore3i, xl_istore3n, xm_f, xm_n, xm_t, xn_1, xn_4, xn_6, xn_7, xn_8, xr_goto, xr_iadd, xr_ic_ge, xr_ic_gt, xr_iconst, xr_if_eq, xr_if_ne, xr_iret, xtl_n, xtl_s, xz_i, xz_l, xz_n, xz_r, wb_6_round_0, wb_6_round_1, wb_6_round_4, wb_6_round_5, wb_6_round_6, wb_6_round_7, wb_6_round_8, zz_b, zz_bn, Classical.not_not, true_and, Nat.reduceAdd, Nat.reduceLeDiff, eq_self, true_implies, false_implies, implies_true, not_true_eq_false, not_false_eq_true, and_true, false_and, and_false, if_true, if_false, Int.reduceEq, Int.reduceSub, Int.reduceAdd, Int.reduceMul, Int.reduceNeg, Int.reduceLT, Int.reduceLE, Int.add_zero]
          have := hQ a3 d (s + 1) hF3 (by omega) (by omega) hal hno hno2
          rw [show ((s + 1 : Nat) : Int) = (s : Int) + 1 by omega] at this
          refine ⟨fun z => ?_, fun z => ?_⟩
          · rw [if_neg z] at this; exact this
          · rw [if_pos z] at this; exact this
        · simp (disch := first | assumption | omega | exact zc_lo | exact zc_hi | exact zz_l | exact zz_u | exact zz_r) only [xc_2 gc_6_round_1, xc_2 gc_6_round_2, xc_3 gc_6_round_0, xc_3 gc_6_round_3, xl_aload0, xl_iinc2a, xl_iinc2i, xl_iinc2n, xl_iinc3a, xl_iinc3i, xl_iinc3n, xl_iload1, xl_iload2, xl_iload3, xl_istore2a, xl_istore2i, xl_istore2n, xl_istore3a, xl_istore3i, xl_istore3n, xm_f, xm_n, xm_t, xn_1, xn_4, xn_6, xn_7, xn_8, xr_goto, xr_iadd, xr_ic_ge, xr_ic_gt, xr_iconst, xr_if_eq, xr_if_ne, xr_iret, xtl_n, xtl_s, xz_i, xz_l, xz_n, xz_r, wb_6_round_0, wb_6_round_1, wb_6_round_4, wb_6_round_5, wb_6_round_6, wb_6_round_7, wb_6_round_8, zz_b, zz_bn, Classical.not_not, true_and, Nat.reduceAdd, Nat.reduceLeDiff, eq_self, true_implies, false_implies, implies_true, not_true_eq_false, not_false_eq_true, and_true, false_and, and_false, if_true, if_false, Int.reduceEq, Int.reduceSub, Int.reduceAdd, Int.reduceMul, Int.reduceNeg, Int.reduceLT, Int.reduceLE, Int.add_zero]
          have := ih2 (fun m2 h1 h2 => by
            by_cases e : m2 = s + 1
            · subst e; exact hal
            · exact hno2 m2 h1 (by omega))
          rw [show ((s + 1 : Nat) : Int) = (s : Int) + 1 by omega] at this
          exact this
    exact key 0 (Nat.zero_le _) (fun m2 h1 h2 => by omega)
theorem Al_back {e t : Nat} (he : e < t) (hal : Al a i e t) : ∀ k : Nat, e ≤ k → ∃ j : Nat, e ≤ j ∧ j < t ∧ Al a i k j := by
  intro k hk
  induction hk with
  | refl => exact ⟨e, Nat.le_refl _, he, fun _ _ _ => rfl⟩
  | @step k hk ih =>
    obtain ⟨j, h1, h2, h3⟩ := ih
    by_cases z : j + 1 < t
    · exact ⟨j + 1, by omega, z, Al_1 h3⟩
    · have ej : j + 1 = t := by omega
      have h4 := Al_1 h3
      rw [ej] at h4
      exact ⟨e, Nat.le_refl _, he, Al_t h4 (Al_s hal)⟩
theorem op_round (h : Inv N w a i) {x : Int} (x1 : -2147483648 ≤ x) (x2 : x ≤ 2147483647) : s_5_round [.inr (.inr 0), .inl x] (HH n xs w a i) (fun r h => s_6_round [.inr (.inr 53), .inl x] h (OPQ n xs N r)) := by
  have hc := h.2.1
  have hag := h.2.2.1
  by_cases c2 : 0 ≤ x ∧ x ≤ 1
  · refine cl_round hc (Fr_rf h) c2 (fun w3 a3 i3 e t hF3 ht het hal hno => ?_) (fun hno w3 a3 i3 hF3 => ?_)
    · refine md_round hc hag hF3 c2 (fun a4 e2 m2 hF4 h1 h2 hal2 hno1 hno2 => ?_) (fun hno2 => absurd (by rw [show e + (t - e) = t by omega]; exact hal) (hno2 e (by omega) (t - e) (by omega) (by omega)))
      have g1 : e2 ≤ e := by
        rcases Nat.lt_or_ge e e2 with z | z
        · exact absurd (by rw [show e + (t - e) = t by omega]; exact hal) (hno1 e z (t - e) (by omega) (by omega))
        · exact z
      have g2 : t ≤ e2 + m2 := by
        rcases Nat.lt_or_ge (e2 + m2) t with z | z
        · exact absurd hal2 (hno (e2 + m2) z e2 (by omega))
        · exact z
      obtain ⟨j, j1, j2, j3⟩ := Al_back het hal (e2 + m2) (by omega)
      have g3 : Al a i e2 j := Al_t hal2 j3
      have g4 : e2 = j := by
        rcases Nat.lt_trichotomy e2 j with z | z | z
        · exact absurd g3 (hno j j2 e2 z)
        · exact z
        · omega
      have g5 : e2 = e := by omega
      subst g5
      have g6 : m2 = t - e2 := by
        rcases Nat.lt_or_ge (t - e2) m2 with z | z
        · exact absurd (by rw [show e2 + (t - e2) = t by omega]; exact hal) (hno2 (t - e2) (by omega) z)
        · omega
      have g7 : (m2 : Int) = (t : Int) - e2 := by omega
      rw [g7]
      exact OPQ_f h hF4 (by split <;> omega) (by split <;> omega)
    · exact md_round hc hag hF3 c2 (fun a4 e2 m2 hF4 h1 h2 hal2 hno1 hno2 => absurd hal2 (hno (e2 + m2) h1 e2 (by omega))) (fun _ a4 hF4 => OPQ_d h (by omega) (by omega) hF4)
  · simp (disch := first | assumption | omega | exact zc_lo | exact zc_hi | exact zz_l | exact zz_u | exact zz_r) only [xc_1 gc_5_round_2, xc_1 gc_5_round_5, xc_2 gc_5_round_1, xc_2 gc_5_round_3, xc_3 gc_5_round_0, xc_5 gc_5_round_4, xl_aload0, xl_iinc2a, xl_iinc2i, xl_iinc2n, xl_iload1, xl_iload2, xl_iload3, xl_istore2a, xl_istore2i, xl_istore2n, xl_istore3a, xl_istore3i, xl_istore3n, xm_f, xm_n, xm_t, xn_1, xn_3, xn_5, xn_6, xo_0_6, xo_0_8, xo_44_2, xo_47_2, xr_goto, xr_ic_gt, xr_iconst, xr_if_lt, xr_if_ne, xr_imul, xr_iret, xr_isub, xr_pop, xtl_n, xtl_s, xz_i, xz_l, xz_n, xz_r, wb_5_round_0, wb_5_round_1, wb_5_round_3, wb_5_round_4, wb_5_round_5, wb_5_round_6, ss_5_round, xc_2 gc_6_round_1, xc_2 gc_6_round_2, xc_3 gc_6_round_0, xc_3 gc_6_round_3, xl_aload0, xl_iinc2a, xl_iinc2i, xl_iinc2n, xl_iinc3a, xl_iinc3i, xl_iinc3n, xl_iload1, xl_iload2, xl_iload3, xl_istore2a, xl_istore2i, xl_istore2n, xl_istore3a, xl_istore3i, xl_istore3n, xm_f, xm_n, xm_t, xn_1, xn_4, xn_6, xn_7, xn_8, xr_goto, xr_iadd, xr_ic_ge, xr_ic_gt, xr_iconst, xr_if_eq, xr_if_ne, xr_iret, xtl_n, xtl_s, xz_i, xz_l, xz_n, xz_r, wb_6_round_0, wb_6_round_1, wb_6_round_4, wb_6_round_5, wb_6_round_6, wb_6_round_7, wb_6_round_8, ss_6_round, zz_b, zz_bn, Classical.not_not, true_and, Nat.reduceAdd, Nat.reduceLeDiff, sp_5_isWithin, sp_6_in, sp_5_finding, sp_6_finds, c2, true_implies, false_implies, implies_true, not_true_eq_false, not_false_eq_true, and_true, false_and, and_false, if_true, if_false, Int.reduceEq, Int.reduceSub, Int.reduceAdd, Int.reduceMul, Int.reduceNeg, Int.reduceLT, Int.reduceLE, Int.add_zero]
    exact fnd h 0 (by omega) (by omega)
end OPO
