/-! TEXTS: a group of the reference -/
section GR3
variable {N : Int} {n : Nat} {xs : Int → Int} {w : Nat → Nat} {a : Nat → Int → Int} {i : Nat → Int} {Q : dk_Q} {b : Int → Int} {c g L : Int}
def MW (a : Nat → Int → Int) (g : Int) (p s d : Int) (a2 : Nat → Int → Int) : Prop := sA [64] a a2 ∧ a2 64 (6 * g + 3) = p ∧ a2 64 (6 * g + 4) = s ∧ a2 64 (6 * g + 5) = d ∧ ∀ j, ¬ j = 6 * g + 3 → ¬ j = 6 * g + 4 → ¬ j = 6 * g + 5 → a2 64 j = a 64 j
theorem MW_up {p s d v o : Int} {a2 : Nat → Int → Int} (h : MW a g p s d a2) (ho : 2 ≤ o ∧ o ≤ 4) : MW a g (if o = 2 then v else p) (if o = 3 then v else s) (if o = 4 then v else d) (dk_up a2 64 (dk_ui (a2 64) (6 * g + 1 + o) v)) := by
  obtain ⟨h1, h2, h3, h4, h5⟩ := h
  rcases (show o = 2 ∨ o = 3 ∨ o = 4 by omega) with rfl | rfl | rfl
  · refine ⟨sA_up h1 (by decide) _, ?_, ?_, ?_, fun j z1 z2 z3 => ?_⟩
    · rw [up_s, show 6 * g + 1 + 2 = 6 * g + 3 by omega, ui_s]; rfl
    · rw [up_s, ui_n (by omega)]; exact h3
    · rw [up_s, ui_n (by omega)]; exact h4
    · rw [up_s, ui_n (by omega)]; exact h5 j z1 z2 z3
  · refine ⟨sA_up h1 (by decide) _, ?_, ?_, ?_, fun j z1 z2 z3 => ?_⟩
    · rw [up_s, ui_n (by omega)]; exact h2
    · rw [up_s, show 6 * g + 1 + 3 = 6 * g + 4 by omega, ui_s]; rfl
    · rw [up_s, ui_n (by omega)]; exact h4
    · rw [up_s, ui_n (by omega)]; exact h5 j z1 z2 z3
  · refine ⟨sA_up h1 (by decide) _, ?_, ?_, ?_, fun j z1 z2 z3 => ?_⟩
    · rw [up_s, ui_n (by omega)]; exact h2
    · rw [up_s, ui_n (by omega)]; exact h3
    · rw [up_s, show 6 * g + 1 + 4 = 6 * g + 5 by omega, ui_s]; rfl
    · rw [up_s, ui_n (by omega)]; exact h5 j z1 z2 z3
/-- the options of the reference -/
theorem mopt (hT : Tp b (i 34)) (hB : byB (a 63) (i 34) = b) (g0 : 0 ≤ g) (g1 : g ≤ 20) {R : Bool × Int × Int × Int × Int} (hQ1 : R.1 = true → ∀ a2 i2, MW a g R.2.2.1 R.2.2.2.1 R.2.2.2.2 a2 → sI TM i i2 → MT b R.2.1 i2 → Q none (HH n xs w a2 (dk_up i2 41 (g + 1)))) (hQ0 : R.1 = false → ∀ a2 i2, sA [64] a a2 → sI MG i i2 → i2 40 = 0 → i2 35 = tS b R.2.1 → Q none (HH n xs w a2 i2)) (h40 : i 40 = 1) (h41 : i 41 = g) : ∀ (f : Nat) (c p s d : Int) (a2 : Nat → Int → Int) (i2 : Nat → Int) (l2 l3 : Option dk_V), i 34 - c ≤ f → 0 ≤ c → c ≤ i 34 → sI TM i i2 → MT b c i2 → MW a g p s d a2 → opF b f c p s d = R → dk_WP g_6_wantGroup b_6_wantGroup Q 7 [some (.inr (.inr 53)), some (.inl (6 * g)), l2, l3] [] (HH n xs w a2 i2) := by
  intro f
  have done : ∀ (f : Nat) (c p s d : Int) (a2 : Nat → Int → Int) (i2 : Nat → Int) (l2 l3 : Option dk_V), sI TM i i2 → MT b c i2 → MW a g p s d a2 → opF b f c p s d = R → moF b c = 0 → dk_WP g_6_wantGroup b_6_wantGroup Q 7 [some (.inr (.inr 53)), some (.inl (6 * g)), l2, l3] [] (HH n xs w a2 i2) := by
    intro f c p s d a2 i2 l2 l3 hs hM hW hR z
    have e40 : i2 40 = 1 := by rw [hs 40 (by decide)]; exact h40
    have e41 : i2 41 = g := by rw [hs 41 (by decide)]; exact h41
    rw [opF_0 z] at hR
    rw [wb_6_wantGroup_7]
    simp (disch := first | assumption | omega | exact zc_lo | exact zc_hi | exact zz_l | exact zz_u | exact zz_r) only [xa_64, xc_1 gc_6_wantGroup_0, xc_1 gc_6_wantGroup_1, xc_1 gc_6_wantGroup_4, xc_2 gc_6_wantGroup_3, xc_3 gc_6_wantGroup_2, xl_aload0, xl_iload1, xl_iload2, xl_iload3, xl_istore1a, xl_istore1i, xl_istore1n, xl_istore2a, xl_istore2i, xl_istore2n, xl_istore3a, xl_istore3i, xl_istore3n, xm_f, xm_n, xm_t, xn_1, xn_10, xn_3, xn_4, xn_6, xn_8, xo_53_20, xo_53_21, xo_53_22, xp_53_20, xp_53_22, xr_dupi, xr_dupr, xr_goto, xr_iadd, xr_ic_ne, xr_iconst, xr_if_eq, xr_if_le, xr_if_lt, xr_imul, xr_lconst, xr_vret, xs_64, xtl_n, xtl_s, xz_i, xz_l, xz_n, xz_r, wb_6_wantGroup_0, wb_6_wantGroup_1, wb_6_wantGroup_2, wb_6_wantGroup_3, wb_6_wantGroup_4, wb_6_wantGroup_5, wb_6_wantGroup_6, wb_6_wantGroup_8, wb_6_wantGroup_9, wb_6_wantGroup_10, zz_b, zz_bn, Classical.not_not, true_and, Nat.reduceAdd, Nat.reduceLeDiff, e40, eq_self, true_implies, false_implies, implies_true, not_true_eq_false, not_false_eq_true, and_true, false_and, and_false, if_true, if_false, Int.reduceEq, Int.reduceSub, Int.reduceAdd, Int.reduceMul, Int.reduceNeg, Int.reduceLT, Int.reduceLE, Int.add_zero]
    refine sp_6_moreHere hM ?_
    rw [z]
    simp (disch := first | assumption | omega | exact zc_lo | exact zc_hi | exact zz_l | exact zz_u | exact zz_r) only [xa_64, xc_1 gc_6_wantGroup_0, xc_1 gc_6_wantGroup_1, xc_1 gc_6_wantGroup_4, xc_2 gc_6_wantGroup_3, xc_3 gc_6_wantGroup_2, xl_aload0, xl_iload1, xl_iload2, xl_iload3, xl_istore1a, xl_istore1i, xl_istore1n, xl_istore2a, xl_istore2i, xl_istore2n, xl_istore3a, xl_istore3i, xl_istore3n, xm_f, xm_n, xm_t, xn_1, xn_10, xn_3, xn_4, xn_6, xn_8, xo_53_20, xo_53_21, xo_53_22, xp_53_20, xp_53_22, xr_dupi, xr_dupr, xr_goto, xr_iadd, xr_ic_ne, xr_iconst, xr_if_eq, xr_if_le, xr_if_lt, xr_imul, xr_lconst, xr_vret, xs_64, xtl_n, xtl_s, xz_i, xz_l, xz_n, xz_r, wb_6_wantGroup_0, wb_6_wantGroup_1, wb_6_wantGroup_2, wb_6_wantGroup_3, wb_6_wantGroup_4, wb_6_wantGroup_5, wb_6_wantGroup_6, wb_6_wantGroup_8, wb_6_wantGroup_9, wb_6_wantGroup_10, zz_b, zz_bn, Classical.not_not, true_and, Nat.reduceAdd, Nat.reduceLeDiff, e41, true_implies, false_implies, implies_true, not_true_eq_false, not_false_eq_true, and_true, false_and, and_false, if_true, if_false, Int.reduceEq, Int.reduceSub, Int.reduceAdd, Int.reduceMul, Int.reduceNeg, Int.reduceLT, Int.reduceLE, Int.add_zero]
    rw [← hR] at hQ1
    exact hQ1 rfl a2 i2 hW hs hM
  induction f with
  | zero =>
    intro c p s d a2 i2 l2 l3 hf hc0 hc1 hs hM hW hR
    have z : moF b c = 0 := by
      rcases moF_b (b := b) (c := c) with z | ⟨-, z⟩
      · exact z
      · have e := tK_lt (c := c) hT (by omega)
        have e2 := tS_ge (b := b) (c := c)
        omega
    exact done 0 c p s d a2 i2 l2 l3 hs hM hW hR z
  | succ f ih =>
    intro c p s d a2 i2 l2 l3 hf hc0 hc1 hs hM hW hR
    by_cases z : moF b c = 0
    · exact done (f + 1) c p s d a2 i2 l2 l3 hs hM hW hR z
    · have e34 : i2 34 = i 34 := hs 34 (by decide)
      have e40 : i2 40 = 1 := by rw [hs 40 (by decide)]; exact h40
      have hT2 : Tp b (i2 34) := by rw [e34]; exact hT
      have hB2 : byB (a2 63) (i2 34) = b := by rw [e34, hW.1 63 (by decide)]; exact hB
      have mb := moF_b (b := b) (c := c)
      have mb2 : 2 ≤ moF b c ∧ moF b c ≤ 4 := by omega
      have tk : tK b c = 1 := by omega
      have nm : ¬ moF b c ≤ 0 := by omega
      have q1 := tE_in hT hc0 hc1
      have q2 := tE_in hT q1.1 q1.2
      have adv := tE_ge (b := b) (c := c) (by omega)
      have adv2 := tS_ge (b := b) (c := c)
      have adv3 := tE_ge0 (b := b) (c := tE b c)
      have adv4 := tS_ge (b := b) (c := tE b c)
      rw [wb_6_wantGroup_7]
      simp (disch := first | assumption | omega | exact zc_lo | exact zc_hi | exact zz_l | exact zz_u | exact zz_r) only [xa_64, xc_1 gc_6_wantGroup_0, xc_1 gc_6_wantGroup_1, xc_1 gc_6_wantGroup_4, xc_2 gc_6_wantGroup_3, xc_3 gc_6_wantGroup_2, xl_aload0, xl_iload1, xl_iload2, xl_iload3, xl_istore1a, xl_istore1i, xl_istore1n, xl_istore2a, xl_istore2i, xl_istore2n, xl_istore3a, xl_istore3i, xl_istore3n, xm_f, xm_n, xm_t, xn_1, xn_10, xn_3, xn_4, xn_6, xn_8, xo_53_20, xo_53_21, xo_53_22, xp_53_20, xp_53_22, xr_dupi, xr_dupr, xr_goto, xr_iadd, xr_ic_ne, xr_iconst, xr_if_eq, xr_if_le, xr_if_lt, xr_imul, xr_lconst, xr_vret, xs_64, xtl_n, xtl_s, xz_i, xz_l, xz_n, xz_r, zz_b, zz_bn, Classical.not_not, true_and, Nat.reduceAdd, Nat.reduceLeDiff, e40, eq_self, true_implies, false_implies, implies_true, not_true_eq_false, not_false_eq_true, and_true, false_and, and_false, if_true, if_false, Int.reduceEq, Int.reduceSub, Int.reduceAdd, Int.reduceMul, Int.reduceNeg, Int.reduceLT, Int.reduceLE, Int.add_zero]
      refine sp_6_moreHere hM ?_
      simp (disch := first | assumption | omega | exact zc_lo | exact zc_hi | exact zz_l | exact zz_u | exact zz_r) only [xa_64, xc_1 gc_6_wantGroup_0, xc_1 gc_6_wantGroup_1, xc_1 gc_6_wantGroup_4, xc_2 gc_6_wantGroup_3, xc_3 gc_6_wantGroup_2, xl_aload0, xl_iload1, xl_iload2, xl_iload3, xl_istore1a, xl_istore1i, xl_istore1n, xl_istore2a, xl_istore2i, xl_istore2n, xl_istore3a, xl_istore3i, xl_istore3n, xm_f, xm_n, xm_t, xn_1, xn_10, xn_3, xn_4, xn_6, xn_8, xo_53_20, xo_53_21, xo_53_22, xp_53_20, xp_53_22, xr_dupi, xr_dupr, xr_goto, xr_iadd, xr_ic_ne, xr_iconst, xr_if_eq, xr_if_le, xr_if_lt, xr_imul, xr_lconst, xr_vret, xs_64, xtl_n, xtl_s, xz_i, xz_l, xz_n, xz_r, zz_b, zz_bn, Classical.not_not, true_and, Nat.reduceAdd, Nat.reduceLeDiff, nm, true_implies, false_implies, implies_true, not_true_eq_false, not_false_eq_true, and_true, false_and, and_false, if_true, if_false, Int.reduceEq, Int.reduceSub, Int.reduceAdd, Int.reduceMul, Int.reduceNeg, Int.reduceLT, Int.reduceLE, Int.add_zero]
      refine sp_6_moreHere hM ?_
      simp (disch := first | assumption | omega | exact zc_lo | exact zc_hi | exact zz_l | exact zz_u | exact zz_r) only [xa_64, xc_1 gc_6_wantGroup_0, xc_1 gc_6_wantGroup_1, xc_1 gc_6_wantGroup_4, xc_2 gc_6_wantGroup_3, xc_3 gc_6_wantGroup_2, xl_aload0, xl_iload1, xl_iload2, xl_iload3, xl_istore1a, xl_istore1i, xl_istore1n, xl_istore2a, xl_istore2i, xl_istore2n, xl_istore3a, xl_istore3i, xl_istore3n, xm_f, xm_n, xm_t, xn_1, xn_10, xn_3, xn_4, xn_6, xn_8, xo_53_20, xo_53_21, xo_53_22, xp_53_20, xp_53_22, xr_dupi, xr_dupr, xr_goto, xr_iadd, xr_ic_ne, xr_iconst, xr_if_eq, xr_if_le, xr_if_lt, xr_imul, xr_lconst, xr_vret, xs_64, xtl_n, xtl_s, xz_i, xz_l, xz_n, xz_r, zz_b, zz_bn, Classical.not_not, true_and, Nat.reduceAdd, Nat.reduceLeDiff, true_implies, false_implies, implies_true, not_true_eq_false, not_false_eq_true, and_true, false_and, and_false, if_true, if_false, Int.reduceEq, Int.reduceSub, Int.reduceAdd, Int.reduceMul, Int.reduceNeg, Int.reduceLT, Int.reduceLE, Int.add_zero]
      refine sp_madv hT2 hB2 hc0 (by rw [e34]; exact hc1) hM (fun i3 hs3 hM3 => ?_)
      have f34 : i3 34 = i 34 := by rw [hs3 34 (by decide)]; exact e34
      have f40 : i3 40 = 1 := by rw [hs3 40 (by decide)]; exact e40
      have f41 : i3 41 = g := by rw [hs3 41 (by decide), hs 41 (by decide)]; exact h41
      have hT3 : Tp b (i3 34) := by rw [f34]; exact hT
      have hB3 : byB (a2 63) (i3 34) = b := by rw [f34, hW.1 63 (by decide)]; exact hB
      have s3 : sI TM i i3 := sI_tr hs hs3
      have rn : ∀ (hi : Int) (l3 : Option dk_V), hi = (if moF b c = 4 then 99 else 100) → dk_WP g_6_wantGroup b_6_wantGroup Q 9 [some (.inr (.inr 53)), some (.inl (6 * g)), some (.inl (moF b c)), l3] [.inl hi, .inl 0, .inr (.inr 53)] (HH n xs w a2 i3) := by
        intro hi l3 hhi
        have hib : 0 ≤ hi ∧ hi ≤ 200 := by rw [hhi]; split <;> omega
        simp (disch := first | assumption | omega | exact zc_lo | exact zc_hi | exact zz_l | exact zz_u | exact zz_r) only [xa_64, xc_1 gc_6_wantGroup_0, xc_1 gc_6_wantGroup_1, xc_1 gc_6_wantGroup_4, xc_2 gc_6_wantGroup_3, xc_3 gc_6_wantGroup_2, xl_aload0, xl_iload1, xl_iload2, xl_iload3, xl_istore1a, xl_istore1i, xl_istore1n, xl_istore2a, xl_istore2i, xl_istore2n, xl_istore3a, xl_istore3i, xl_istore3n, xm_f, xm_n, xm_t, xn_1, xn_10, xn_3, xn_4, xn_6, xn_8, xo_53_20, xo_53_21, xo_53_22, xp_53_20, xp_53_22, xr_dupi, xr_dupr, xr_goto, xr_iadd, xr_ic_ne, xr_iconst, xr_if_eq, xr_if_le, xr_if_lt, xr_imul, xr_lconst, xr_vret, xs_64, xtl_n, xtl_s, xz_i, xz_l, xz_n, xz_r, xa_64, xc_1 gc_6_wantGroup_0, xc_1 gc_6_wantGroup_1, xc_1 gc_6_wantGroup_4, xc_2 gc_6_wantGroup_3, xc_3 gc_6_wantGroup_2, xl_aload0, xl_iload1, xl_iload2, xl_iload3, xl_istore1a, xl_istore1i, xl_istore1n, xl_istore2a, xl_istore2i, xl_istore2n, xl_istore3a, xl_istore3i, xl_istore3n, xm_f, xm_n, xm_t, xn_1, xn_10, xn_3, xn_4, xn_6, xn_8, xo_53_20, xo_53_21, xo_53_22, xp_53_20, xp_53_22, xr_dupi, xr_dupr, xr_goto, xr_iadd, xr_ic_ne, xr_iconst, xr_if_eq, xr_if_le, xr_if_lt, xr_imul, xr_lconst, xr_vret, xs_64, xtl_n, xtl_s, xz_i, xz_l, xz_n, xz_r, zz_b, zz_bn, Classical.not_not, true_and, Nat.reduceAdd, Nat.reduceLeDiff, wb_6_wantGroup_9, true_implies, false_implies, implies_true, not_true_eq_false, not_false_eq_true, and_true, false_and, and_false, if_true, if_false, Int.reduceEq, Int.reduceSub, Int.reduceAdd, Int.reduceMul, Int.reduceNeg, Int.reduceLT, Int.reduceLE, Int.add_zero]
        refine sp_want_1 hT3 hB3 q1.1 (by rw [f34]; exact q1.2) hM3 f40 (by omega) (by omega) hib.1 hib.2 (fun y => ?_) (fun y => ?_)
        · intro i4 hs4 hM4
          rw [hhi] at y
          rw [opF_y z y] at hR
          simp (disch := first | assumption | omega | exact zc_lo | exact zc_hi | exact zz_l | exact zz_u | exact zz_r) only [xa_64, xc_1 gc_6_wantGroup_0, xc_1 gc_6_wantGroup_1, xc_1 gc_6_wantGroup_4, xc_2 gc_6_wantGroup_3, xc_3 gc_6_wantGroup_2, xl_aload0, xl_iload1, xl_iload2, xl_iload3, xl_istore1a, xl_istore1i, xl_istore1n, xl_istore2a, xl_istore2i, xl_istore2n, xl_istore3a, xl_istore3i, xl_istore3n, xm_f, xm_n, xm_t, xn_1, xn_10, xn_3, xn_4, xn_6, xn_8, xo_53_20, xo_53_21, xo_53_22, xp_53_20, xp_53_22, xr_dupi, xr_dupr, xr_goto, xr_iadd, xr_ic_ne, xr_iconst, xr_if_eq, xr_if_le, xr_if_lt, xr_imul, xr_lconst, xr_vret, xs_64, xtl_n, xtl_s, xz_i, xz_l, xz_n, xz_r, zz_b, zz_bn, Classical.not_not, true_and, Nat.reduceAdd, Nat.reduceLeDiff, true_implies, false_implies, implies_true, not_true_eq_false, not_false_eq_true, and_true, false_and, and_false, if_true, if_false, Int.reduceEq, Int.reduceSub, Int.reduceAdd, Int.reduceMul, Int.reduceNeg, Int.reduceLT, Int.reduceLE, Int.add_zero]
          exact ih _ _ _ _ _ i4 _ _ (by omega) q2.1 q2.2 (sI_tr s3 hs4) hM4 (MW_up hW mb2) hR
        · rw [hhi] at y
          rw [opF_n z y] at hR
          simp (disch := first | assumption | omega | exact zc_lo | exact zc_hi | exact zz_l | exact zz_u | exact zz_r) only [xa_64, xc_1 gc_6_wantGroup_0, xc_1 gc_6_wantGroup_1, xc_1 gc_6_wantGroup_4, xc_2 gc_6_wantGroup_3, xc_3 gc_6_wantGroup_2, xl_aload0, xl_iload1, xl_iload2, xl_iload3, xl_istore1a, xl_istore1i, xl_istore1n, xl_istore2a, xl_istore2i, xl_istore2n, xl_istore3a, xl_istore3i, xl_istore3n, xm_f, xm_n, xm_t, xn_1, xn_10, xn_3, xn_4, xn_6, xn_8, xo_53_20, xo_53_21, xo_53_22, xp_53_20, xp_53_22, xr_dupi, xr_dupr, xr_goto, xr_iadd, xr_ic_ne, xr_iconst, xr_if_eq, xr_if_le, xr_if_lt, xr_imul, xr_lconst, xr_vret, xs_64, xtl_n, xtl_s, xz_i, xz_l, xz_n, xz_r, zz_b, zz_bn, Classical.not_not, true_and, Nat.reduceAdd, Nat.reduceLeDiff, true_implies, false_implies, implies_true, not_true_eq_false, not_false_eq_true, and_true, false_and, and_false, if_true, if_false, Int.reduceEq, Int.reduceSub, Int.reduceAdd, Int.reduceMul, Int.reduceNeg, Int.reduceLT, Int.reduceLE, Int.add_zero]
          refine mf7 (g := g) up_s (by rw [up_n (by decide)]; exact f41) g0 g1 ?_
          rw [← hR] at hQ0
          refine hQ0 rfl _ _ (sA_up hW.1 (by decide) _) (sI_up (sI_up (sI_w s3 (by decide)) (by decide) _) (by decide) _) ?_ ?_
          · rw [up_n (by decide), up_s]
          · rw [up_n (by decide), up_n (by decide)]; exact hM3.1
      simp (disch := first | assumption | omega | exact zc_lo | exact zc_hi | exact zz_l | exact zz_u | exact zz_r) only [xa_64, xc_1 gc_6_wantGroup_0, xc_1 gc_6_wantGroup_1, xc_1 gc_6_wantGroup_4, xc_2 gc_6_wantGroup_3, xc_3 gc_6_wantGroup_2, xl_aload0, xl_iload1, xl_iload2, xl_iload3, xl_istore1a, xl_istore1i, xl_istore1n, xl_istore2a, xl_istore2i, xl_istore2n, xl_istore3a, xl_istore3i, xl_istore3n, xm_f, xm_n, xm_t, xn_1, xn_10, xn_3, xn_4, xn_6, xn_8, xo_53_20, xo_53_21, xo_53_22, xp_53_20, xp_53_22, xr_dupi, xr_dupr, xr_goto, xr_iadd, xr_ic_ne, xr_iconst, xr_if_eq, xr_if_le, xr_if_lt, xr_imul, xr_lconst, xr_vret, xs_64, xtl_n, xtl_s, xz_i, xz_l, xz_n, xz_r, xa_64, xc_1 gc_6_wantGroup_0, xc_1 gc_6_wantGroup_1, xc_1 gc_6_wantGroup_4, xc_2 gc_6_wantGroup_3, xc_3 gc_6_wantGroup_2, xl_aload0, xl_iload1, xl_iload2, xl_iload3, xl_istore1a, xl_istore1i, xl_istore1n, xl_istore2a, xl_istore2i, xl_istore2n, xl_istore3a, xl_istore3i, xl_istore3n, xm_f, xm_n, xm_t, xn_1, xn_10, xn_3, xn_4, xn_6, xn_8, xo_53_20, xo_53_21, xo_53_22, xp_53_20, xp_53_22, xr_dupi, xr_dupr, xr_goto, xr_iadd, xr_ic_ne, xr_iconst, xr_if_eq, xr_if_le, xr_if_lt, xr_imul, xr_lconst, xr_vret, xs_64, xtl_n, xtl_s, xz_i, xz_l, xz_n, xz_r, zz_b, zz_bn, Classical.not_not, true_and, Nat.reduceAdd, Nat.reduceLeDiff, wb_6_wantGroup_8]
      exact ⟨fun y => rn 100 _ (by rw [if_neg y]), fun y => rn 99 _ (by rw [if_pos y])⟩
theorem sp_6_wantGroup (hT : Tp b (i 34)) (hB : byB (a 63) (i 34) = b) (hc0 : 0 ≤ c) (hc1 : c ≤ i 34) (hM : MT b c i) (h40 : i 40 = 1) (h41 : i 41 = g) (g0 : 0 ≤ g) (g1 : g ≤ 20) : (GO b c = true → ∀ a2 i2, sA [64] a a2 → (a2 64 (6 * g) = GV b c 0 ∧ a2 64 (6 * g + 1) = GV b c 1 ∧ a2 64 (6 * g + 2) = GV b c 5 ∧ a2 64 (6 * g + 3) = GV b c 2 ∧ a2 64 (6 * g + 4) = GV b c 3 ∧ a2 64 (6 * g + 5) = GV b c 4) → (∀ j, j < 6 * g → a2 64 j = a 64 j) → sI MG i i2 → i2 40 = 1 → i2 41 = g + 1 → MT b (GC b c) i2 → Q none (HH n xs w a2 i2)) → (GO b c = false → ∀ a2 i2, sA [64] a a2 → sI MG i i2 → i2 40 = 0 → i2 35 = tS b (GC b c) → Q none (HH n xs w a2 i2)) → s_6_wantGroup [.inr (.inr 53)] (HH n xs w a i) Q := by
  intro hQ1 hQ0
  have q1 := tE_in hT hc0 hc1
  have q2 := tE_in hT q1.1 q1.2
  have q3 := tE_in hT q2.1 q2.2
  have q4 := tE_in hT q3.1 q3.2
  have kdb := kdF_b (b := b) (c := c)
  have u63 : ∀ f, dk_up a 64 f 63 = a 63 := fun f => up_n (by decide)
  have up1 : ∀ j : Nat → Int, j 40 = 1 → dk_up j 40 1 = j := fun j hj => by rw [← hj]; exact up_id
  simp (disch := first | assumption | omega | exact zc_lo | exact zc_hi | exact zz_l | exact zz_u | exact zz_r) only [xa_64, xc_1 gc_6_wantGroup_0, xc_1 gc_6_wantGroup_1, xc_1 gc_6_wantGroup_4, xc_2 gc_6_wantGroup_3, xc_3 gc_6_wantGroup_2, xl_aload0, xl_iload1, xl_iload2, xl_iload3, xl_istore1a, xl_istore1i, xl_istore1n, xl_istore2a, xl_istore2i, xl_istore2n, xl_istore3a, xl_istore3i, xl_istore3n, xm_f, xm_n, xm_t, xn_1, xn_10, xn_3, xn_4, xn_6, xn_8, xo_53_20, xo_53_21, xo_53_22, xp_53_20, xp_53_22, xr_dupi, xr_dupr, xr_goto, xr_iadd, xr_ic_ne, xr_iconst, xr_if_eq, xr_if_le, xr_if_lt, xr_imul, xr_lconst, xr_vret, xs_64, xtl_n, xtl_s, xz_i, xz_l, xz_n, xz_r, wb_6_wantGroup_0, wb_6_wantGroup_1, wb_6_wantGroup_2, wb_6_wantGroup_3, wb_6_wantGroup_4, wb_6_wantGroup_5, wb_6_wantGroup_6, wb_6_wantGroup_8, wb_6_wantGroup_9, wb_6_wantGroup_10, ss_6_wantGroup, zz_b, zz_bn, Classical.not_not, true_and, Nat.reduceAdd, Nat.reduceLeDiff, h41, true_implies, false_implies, implies_true, not_true_eq_false, not_false_eq_true, and_true, false_and, and_false, if_true, if_false, Int.reduceEq, Int.reduceSub, Int.reduceAdd, Int.reduceMul, Int.reduceNeg, Int.reduceLT, Int.reduceLE, Int.add_zero]
  refine sp_6_kindHere hM ?_
  by_cases c1 : kdF b c = -1
  · have eO : GO b c = false := by unfold GO; rw [decide_eq_false (fun z => z c1)]; rfl
    have eC : GC b c = c := by unfold GC; rw [if_pos c1]
    rw [eC] at hQ0
    rw [c1]
    have e40 : dk_up i 40 0 40 = 0 := up_s
    simp (disch := first | assumption | omega | exact zc_lo | exact zc_hi | exact zz_l | exact zz_u | exact zz_r) only [xa_64, xc_1 gc_6_wantGroup_0, xc_1 gc_6_wantGroup_1, xc_1 gc_6_wantGroup_4, xc_2 gc_6_wantGroup_3, xc_3 gc_6_wantGroup_2, xl_aload0, xl_iload1, xl_iload2, xl_iload3, xl_istore1a, xl_istore1i, xl_istore1n, xl_istore2a, xl_istore2i, xl_istore2n, xl_istore3a, xl_istore3i, xl_istore3n, xm_f, xm_n, xm_t, xn_1, xn_10, xn_3, xn_4, xn_6, xn_8, xo_53_20, xo_53_21, xo_53_22, xp_53_20, xp_53_22, xr_dupi, xr_dupr, xr_goto, xr_iadd, xr_ic_ne, xr_iconst, xr_if_eq, xr_if_le, xr_if_lt, xr_imul, xr_lconst, xr_vret, xs_64, xtl_n, xtl_s, xz_i, xz_l, xz_n, xz_r, xa_64, xc_1 gc_6_wantGroup_0, xc_1 gc_6_wantGroup_1, xc_1 gc_6_wantGroup_4, xc_2 gc_6_wantGroup_3, xc_3 gc_6_wantGroup_2, xl_aload0, xl_iload1, xl_iload2, xl_iload3, xl_istore1a, xl_istore1i, xl_istore1n, xl_istore2a, xl_istore2i, xl_istore2n, xl_istore3a, xl_istore3i, xl_istore3n, xm_f, xm_n, xm_t, xn_1, xn_10, xn_3, xn_4, xn_6, xn_8, xo_53_20, xo_53_21, xo_53_22, xp_53_20, xp_53_22, xr_dupi, xr_dupr, xr_goto, xr_iadd, xr_ic_ne, xr_iconst, xr_if_eq, xr_if_le, xr_if_lt, xr_imul, xr_lconst, xr_vret, xs_64, xtl_n, xtl_s, xz_i, xz_l, xz_n, xz_r, zz_b, zz_bn, Classical.not_not, true_and, Nat.reduceAdd, Nat.reduceLeDiff, wb_6_wantGroup_1, wb_6_wantGroup_2, h40, e40, ui_s, up_s, eq_self, true_implies, false_implies, implies_true, not_true_eq_false, not_false_eq_true, and_true, false_and, and_false, if_true, if_false, Int.reduceEq, Int.reduceSub, Int.reduceAdd, Int.reduceMul, Int.reduceNeg, Int.reduceLT, Int.reduceLE, Int.add_zero]
    refine mf3 (g := g) up_s (by rw [up_n (by decide)]; exact h41) g0 g1 (fun a2 hs2 => ?_)
    refine hQ0 eO a2 _ (sA_tr (sA_up sA_rf (by decide) _) hs2) (sI_up (sI_up sI_rf (by decide) _) (by decide) _) ?_ ?_
    · rw [up_n (by decide), up_s]
    · rw [up_n (by decide), up_n (by decide)]; exact hM.1
  · have c1b : ¬ kdF b c < 0 := by omega
    simp (disch := first | assumption | omega | exact zc_lo | exact zc_hi | exact zz_l | exact zz_u | exact zz_r) only [xa_64, xc_1 gc_6_wantGroup_0, xc_1 gc_6_wantGroup_1, xc_1 gc_6_wantGroup_4, xc_2 gc_6_wantGroup_3, xc_3 gc_6_wantGroup_2, xl_aload0, xl_iload1, xl_iload2, xl_iload3, xl_istore1a, xl_istore1i, xl_istore1n, xl_istore2a, xl_istore2i, xl_istore2n, xl_istore3a, xl_istore3i, xl_istore3n, xm_f, xm_n, xm_t, xn_1, xn_10, xn_3, xn_4, xn_6, xn_8, xo_53_20, xo_53_21, xo_53_22, xp_53_20, xp_53_22, xr_dupi, xr_dupr, xr_goto, xr_iadd, xr_ic_ne, xr_iconst, xr_if_eq, xr_if_le, xr_if_lt, xr_imul, xr_lconst, xr_vret, xs_64, xtl_n, xtl_s, xz_i, xz_l, xz_n, xz_r, xa_64, xc_1 gc_6_wantGroup_0, xc_1 gc_6_wantGroup_1, xc_1 gc_6_wantGroup_4, xc_2 gc_6_wantGroup_3, xc_3 gc_6_wantGroup_2, xl_aload0, xl_iload1, xl_iload2, xl_iload3, xl_istore1a, xl_istore1i, xl_istore1n, xl_istore2a, xl_istore2i, xl_istore2n, xl_istore3a, xl_istore3i, xl_istore3n, xm_f, xm_n, xm_t, xn_1, xn_10, xn_3, xn_4, xn_6, xn_8, xo_53_20, xo_53_21, xo_53_22, xp_53_20, xp_53_22, xr_dupi, xr_dupr, xr_goto, xr_iadd, xr_ic_ne, xr_iconst, xr_if_eq, xr_if_le, xr_if_lt, xr_imul, xr_lconst, xr_vret, xs_64, xtl_n, xtl_s, xz_i, xz_l, xz_n, xz_r, zz_b, zz_bn, Classical.not_not, true_and, Nat.reduceAdd, Nat.reduceLeDiff, wb_6_wantGroup_2, h40, ui_s, up_s, c1b, eq_self, up1 i h40, true_implies, false_implies, implies_true, not_true_eq_false, not_false_eq_true, and_true, false_and, and_false, if_true, if_false, Int.reduceEq, Int.reduceSub, Int.reduceAdd, Int.reduceMul, Int.reduceNeg, Int.reduceLT, Int.reduceLE, Int.add_zero]
    refine sp_madv hT (by rw [u63]; exact hB) hc0 hc1 hM (fun i3 hs3 hM3 => ?_)
    have f34 : i3 34 = i 34 := hs3 34 (by decide)
    have f40 : i3 40 = 1 := by rw [hs3 40 (by decide)]; exact h40
    have f41 : i3 41 = g := by rw [hs3 41 (by decide)]; exact h41
    have hT3 : Tp b (i3 34) := by rw [f34]; exact hT
    have s3 : sI MG i i3 := sI_w hs3 (by decide)
    simp (disch := first | assumption | omega | exact zc_lo | exact zc_hi | exact zz_l | exact zz_u | exact zz_r) only [xa_64, xc_1 gc_6_wantGroup_0, xc_1 gc_6_wantGroup_1, xc_1 gc_6_wantGroup_4, xc_2 gc_6_wantGroup_3, xc_3 gc_6_wantGroup_2, xl_aload0, xl_iload1, xl_iload2, xl_iload3, xl_istore1a, xl_istore1i, xl_istore1n, xl_istore2a, xl_istore2i, xl_istore2n, xl_istore3a, xl_istore3i, xl_istore3n, xm_f, xm_n, xm_t, xn_1, xn_10, xn_3, xn_4, xn_6, xn_8, xo_53_20, xo_53_21, xo_53_22, xp_53_20, xp_53_22, xr_dupi, xr_dupr, xr_goto, xr_iadd, xr_ic_ne, xr_iconst, xr_if_eq, xr_if_le, xr_if_lt, xr_imul, xr_lconst, xr_vret, xs_64, xtl_n, xtl_s, xz_i, xz_l, xz_n, xz_r, xa_64, xc_1 gc_6_wantGroup_0, xc_1 gc_6_wantGroup_1, xc_1 gc_6_wantGroup_4, xc_2 gc_6_wantGroup_3, xc_3 gc_6_wantGroup_2, xl_aload0, xl_iload1, xl_iload2, xl_iload3, xl_istore1a, xl_istore1i, xl_istore1n, xl_istore2a, xl_istore2i, xl_istore2n, xl_istore3a, xl_istore3i, xl_istore3n, xm_f, xm_n, xm_t, xn_1, xn_10, xn_3, xn_4, xn_6, xn_8, xo_53_20, xo_53_21, xo_53_22, xp_53_20, xp_53_22, xr_dupi, xr_dupr, xr_goto, xr_iadd, xr_ic_ne, xr_iconst, xr_if_eq, xr_if_le, xr_if_lt, xr_imul, xr_lconst, xr_vret, xs_64, xtl_n, xtl_s, xz_i, xz_l, xz_n, xz_r, zz_b, zz_bn, Classical.not_not, true_and, Nat.reduceAdd, Nat.reduceLeDiff, wb_6_wantGroup_3, true_implies, false_implies, implies_true, not_true_eq_false, not_false_eq_true, and_true, false_and, and_false, if_true, if_false, Int.reduceEq, Int.reduceSub, Int.reduceAdd, Int.reduceMul, Int.reduceNeg, Int.reduceLT, Int.reduceLE, Int.add_zero]
    refine sp_want_1 hT3 (by rw [u63, f34]; exact hB) q1.1 (by rw [f34]; exact q1.2) hM3 f40 (by omega) (by omega) (by omega) (by omega) (fun y1 => ?_) (fun y1 => ?_)
    · intro i4 hs4 hM4
      have h34 : i4 34 = i 34 := by rw [hs4 34 (by decide)]; exact f34
      have k40 : i4 40 = 1 := by rw [hs4 40 (by decide)]; exact f40
      have k41 : i4 41 = g := by rw [hs4 41 (by decide)]; exact f41
      have hT4 : Tp b (i4 34) := by rw [h34]; exact hT
      have s4 : sI MG i i4 := sI_tr s3 (sI_w hs4 (by decide))
      cases y2 : isW b (tE b (tE b c)) 7 with
      | false =>
        have eO : GO b c = false := by unfold GO; rw [decide_eq_true c1, y1, y2]; rfl
        have eC : GC b c = tE b (tE b c) := by unfold GC; rw [if_neg c1, y1, y2]; rfl
        rw [eC] at hQ0
        simp (disch := first | assumption | omega | exact zc_lo | exact zc_hi | exact zz_l | exact zz_u | exact zz_r) only [xa_64, xc_1 gc_6_wantGroup_0, xc_1 gc_6_wantGroup_1, xc_1 gc_6_wantGroup_4, xc_2 gc_6_wantGroup_3, xc_3 gc_6_wantGroup_2, xl_aload0, xl_iload1, xl_iload2, xl_iload3, xl_istore1a, xl_istore1i, xl_istore1n, xl_istore2a, xl_istore2i, xl_istore2n, xl_istore3a, xl_istore3i, xl_istore3n, xm_f, xm_n, xm_t, xn_1, xn_10, xn_3, xn_4, xn_6, xn_8, xo_53_20, xo_53_21, xo_53_22, xp_53_20, xp_53_22, xr_dupi, xr_dupr, xr_goto, xr_iadd, xr_ic_ne, xr_iconst, xr_if_eq, xr_if_le, xr_if_lt, xr_imul, xr_lconst, xr_vret, xs_64, xtl_n, xtl_s, xz_i, xz_l, xz_n, xz_r, xa_64, xc_1 gc_6_wantGroup_0, xc_1 gc_6_wantGroup_1, xc_1 gc_6_wantGroup_4, xc_2 gc_6_wantGroup_3, xc_3 gc_6_wantGroup_2, xl_aload0, xl_iload1, xl_iload2, xl_iload3, xl_istore1a, xl_istore1i, xl_istore1n, xl_istore2a, xl_istore2i, xl_istore2n, xl_istore3a, xl_istore3i, xl_istore3n, xm_f, xm_n, xm_t, xn_1, xn_10, xn_3, xn_4, xn_6, xn_8, xo_53_20, xo_53_21, xo_53_22, xp_53_20, xp_53_22, xr_dupi, xr_dupr, xr_goto, xr_iadd, xr_ic_ne, xr_iconst, xr_if_eq, xr_if_le, xr_if_lt, xr_imul, xr_lconst, xr_vret, xs_64, xtl_n, xtl_s, xz_i, xz_l, xz_n, xz_r, zz_b, zz_bn, Classical.not_not, true_and, Nat.reduceAdd, Nat.reduceLeDiff, wb_6_wantGroup_4, k40, eq_self, sp_6_isWord hM4 (v := 7) (W := 3094387) rfl (by omega) (by omega), y2, up_up, up_s, Bool.false_eq_true, true_implies, false_implies, implies_true, not_true_eq_false, not_false_eq_true, and_true, false_and, and_false, if_true, if_false, Int.reduceEq, Int.reduceSub, Int.reduceAdd, Int.reduceMul, Int.reduceNeg, Int.reduceLT, Int.reduceLE, Int.add_zero]
        have e40 : dk_up i4 40 0 40 = 0 := up_s
        simp (disch := first | assumption | omega | exact zc_lo | exact zc_hi | exact zz_l | exact zz_u | exact zz_r) only [xa_64, xc_1 gc_6_wantGroup_0, xc_1 gc_6_wantGroup_1, xc_1 gc_6_wantGroup_4, xc_2 gc_6_wantGroup_3, xc_3 gc_6_wantGroup_2, xl_aload0, xl_iload1, xl_iload2, xl_iload3, xl_istore1a, xl_istore1i, xl_istore1n, xl_istore2a, xl_istore2i, xl_istore2n, xl_istore3a, xl_istore3i, xl_istore3n, xm_f, xm_n, xm_t, xn_1, xn_10, xn_3, xn_4, xn_6, xn_8, xo_53_20, xo_53_21, xo_53_22, xp_53_20, xp_53_22, xr_dupi, xr_dupr, xr_goto, xr_iadd, xr_ic_ne, xr_iconst, xr_if_eq, xr_if_le, xr_if_lt, xr_imul, xr_lconst, xr_vret, xs_64, xtl_n, xtl_s, xz_i, xz_l, xz_n, xz_r, xa_64, xc_1 gc_6_wantGroup_0, xc_1 gc_6_wantGroup_1, xc_1 gc_6_wantGroup_4, xc_2 gc_6_wantGroup_3, xc_3 gc_6_wantGroup_2, xl_aload0, xl_iload1, xl_iload2, xl_iload3, xl_istore1a, xl_istore1i, xl_istore1n, xl_istore2a, xl_istore2i, xl_istore2n, xl_istore3a, xl_istore3i, xl_istore3n, xm_f, xm_n, xm_t, xn_1, xn_10, xn_3, xn_4, xn_6, xn_8, xo_53_20, xo_53_21, xo_53_22, xp_53_20, xp_53_22, xr_dupi, xr_dupr, xr_goto, xr_iadd, xr_ic_ne, xr_iconst, xr_if_eq, xr_if_le, xr_if_lt, xr_imul, xr_lconst, xr_vret, xs_64, xtl_n, xtl_s, xz_i, xz_l, xz_n, xz_r, zz_b, zz_bn, Classical.not_not, true_and, Nat.reduceAdd, Nat.reduceLeDiff, wb_6_wantGroup_5, e40, eq_self, true_implies, false_implies, implies_true, not_true_eq_false, not_false_eq_true, and_true, false_and, and_false, if_true, if_false, Int.reduceEq, Int.reduceSub, Int.reduceAdd, Int.reduceMul, Int.reduceNeg, Int.reduceLT, Int.reduceLE, Int.add_zero]
        refine mf6 (g := g) up_s (by rw [up_n (by decide)]; exact k41) g0 g1 (fun a2 hs2 => ?_)
        refine hQ0 eO a2 _ (sA_tr (sA_up sA_rf (by decide) _) hs2) (sI_up (sI_up s4 (by decide) _) (by decide) _) ?_ ?_
        · rw [up_n (by decide), up_s]
        · rw [up_n (by decide), up_n (by decide)]; exact hM4.1
      | true =>
        simp (disch := first | assumption | omega | exact zc_lo | exact zc_hi | exact zz_l | exact zz_u | exact zz_r) only [xa_64, xc_1 gc_6_wantGroup_0, xc_1 gc_6_wantGroup_1, xc_1 gc_6_wantGroup_4, xc_2 gc_6_wantGroup_3, xc_3 gc_6_wantGroup_2, xl_aload0, xl_iload1, xl_iload2, xl_iload3, xl_istore1a, xl_istore1i, xl_istore1n, xl_istore2a, xl_istore2i, xl_istore2n, xl_istore3a, xl_istore3i, xl_istore3n, xm_f, xm_n, xm_t, xn_1, xn_10, xn_3, xn_4, xn_6, xn_8, xo_53_20, xo_53_21, xo_53_22, xp_53_20, xp_53_22, xr_dupi, xr_dupr, xr_goto, xr_iadd, xr_ic_ne, xr_iconst, xr_if_eq, xr_if_le, xr_if_lt, xr_imul, xr_lconst, xr_vret, xs_64, xtl_n, xtl_s, xz_i, xz_l, xz_n, xz_r, xa_64, xc_1 gc_6_wantGroup_0, xc_1 gc_6_wantGroup_1, xc_1 gc_6_wantGroup_4, xc_2 gc_6_wantGroup_3, xc_3 gc_6_wantGroup_2, xl_aload0, xl_iload1, xl_iload2, xl_iload3, xl_istore1a, xl_istore1i, xl_istore1n, xl_istore2a, xl_istore2i, xl_istore2n, xl_istore3a, xl_istore3i, xl_istore3n, xm_f, xm_n, xm_t, xn_1, xn_10, xn_3, xn_4, xn_6, xn_8, xo_53_20, xo_53_21, xo_53_22, xp_53_20, xp_53_22, xr_dupi, xr_dupr, xr_goto, xr_iadd, xr_ic_ne, xr_iconst, xr_if_eq, xr_if_le, xr_if_lt, xr_imul, xr_lconst, xr_vret, xs_64, xtl_n, xtl_s, xz_i, xz_l, xz_n, xz_r, zz_b, zz_bn, Classical.not_not, true_and, Nat.reduceAdd, Nat.reduceLeDiff, k40, eq_self, sp_6_isWord hM4 (v := 7) (W := 3094387) rfl (by omega) (by omega), y2, up_up, up_s, true_implies, false_implies, implies_true, not_true_eq_false, not_false_eq_true, and_true, false_and, and_false, if_true, if_false, Int.reduceEq, Int.reduceSub, Int.reduceAdd, Int.reduceMul, Int.reduceNeg, Int.reduceLT, Int.reduceLE, Int.add_zero]
        simp (disch := first | assumption | omega | exact zc_lo | exact zc_hi | exact zz_l | exact zz_u | exact zz_r) only [xa_64, xc_1 gc_6_wantGroup_0, xc_1 gc_6_wantGroup_1, xc_1 gc_6_wantGroup_4, xc_2 gc_6_wantGroup_3, xc_3 gc_6_wantGroup_2, xl_aload0, xl_iload1, xl_iload2, xl_iload3, xl_istore1a, xl_istore1i, xl_istore1n, xl_istore2a, xl_istore2i, xl_istore2n, xl_istore3a, xl_istore3i, xl_istore3n, xm_f, xm_n, xm_t, xn_1, xn_10, xn_3, xn_4, xn_6, xn_8, xo_53_20, xo_53_21, xo_53_22, xp_53_20, xp_53_22, xr_dupi, xr_dupr, xr_goto, xr_iadd, xr_ic_ne, xr_iconst, xr_if_eq, xr_if_le, xr_if_lt, xr_imul, xr_lconst, xr_vret, xs_64, xtl_n, xtl_s, xz_i, xz_l, xz_n, xz_r, xa_64, xc_1 gc_6_wantGroup_0, xc_1 gc_6_wantGroup_1, xc_1 gc_6_wantGroup_4, xc_2 gc_6_wantGroup_3, xc_3 gc_6_wantGroup_2, xl_aload0, xl_iload1, xl_iload2, xl_iload3, xl_istore1a, xl_istore1i, xl_istore1n, xl_istore2a, xl_istore2i, xl_istore2n, xl_istore3a, xl_istore3i, xl_istore3n, xm_f, xm_n, xm_t, xn_1, xn_10, xn_3, xn_4, xn_6, xn_8, xo_53_20, xo_53_21, xo_53_22, xp_53_20, xp_53_22, xr_dupi, xr_dupr, xr_goto, xr_iadd, xr_ic_ne, xr_iconst, xr_if_eq, xr_if_le, xr_if_lt, xr_imul, xr_lconst, xr_vret, xs_64, xtl_n, xtl_s, xz_i, xz_l, xz_n, xz_r, zz_b, zz_bn, Classical.not_not, true_and, Nat.reduceAdd, Nat.reduceLeDiff, wb_6_wantGroup_5, up1 i4 k40, k40, eq_self, true_implies, false_implies, implies_true, not_true_eq_false, not_false_eq_true, and_true, false_and, and_false, if_true, if_false, Int.reduceEq, Int.reduceSub, Int.reduceAdd, Int.reduceMul, Int.reduceNeg, Int.reduceLT, Int.reduceLE, Int.add_zero]
        refine sp_madv hT4 (by rw [u63, h34]; exact hB) q2.1 (by rw [h34]; exact q2.2) hM4 (fun i5 hs5 hM5 => ?_)
        have m34 : i5 34 = i 34 := by rw [hs5 34 (by decide)]; exact h34
        have m40 : i5 40 = 1 := by rw [hs5 40 (by decide)]; exact k40
        have m41 : i5 41 = g := by rw [hs5 41 (by decide)]; exact k41
        have hT5 : Tp b (i5 34) := by rw [m34]; exact hT
        have s5 : sI MG i i5 := sI_tr s4 (sI_w hs5 (by decide))
        simp (disch := first | assumption | omega | exact zc_lo | exact zc_hi | exact zz_l | exact zz_u | exact zz_r) only [xa_64, xc_1 gc_6_wantGroup_0, xc_1 gc_6_wantGroup_1, xc_1 gc_6_wantGroup_4, xc_2 gc_6_wantGroup_3, xc_3 gc_6_wantGroup_2, xl_aload0, xl_iload1, xl_iload2, xl_iload3, xl_istore1a, xl_istore1i, xl_istore1n, xl_istore2a, xl_istore2i, xl_istore2n, xl_istore3a, xl_istore3i, xl_istore3n, xm_f, xm_n, xm_t, xn_1, xn_10, xn_3, xn_4, xn_6, xn_8, xo_53_20, xo_53_21, xo_53_22, xp_53_20, xp_53_22, xr_dupi, xr_dupr, xr_goto, xr_iadd, xr_ic_ne, xr_iconst, xr_if_eq, xr_if_le, xr_if_lt, xr_imul, xr_lconst, xr_vret, xs_64, xtl_n, xtl_s, xz_i, xz_l, xz_n, xz_r, xa_64, xc_1 gc_6_wantGroup_0, xc_1 gc_6_wantGroup_1, xc_1 gc_6_wantGroup_4, xc_2 gc_6_wantGroup_3, xc_3 gc_6_wantGroup_2, xl_aload0, xl_iload1, xl_iload2, xl_iload3, xl_istore1a, xl_istore1i, xl_istore1n, xl_istore2a, xl_istore2i, xl_istore2n, xl_istore3a, xl_istore3i, xl_istore3n, xm_f, xm_n, xm_t, xn_1, xn_10, xn_3, xn_4, xn_6, xn_8, xo_53_20, xo_53_21, xo_53_22, xp_53_20, xp_53_22, xr_dupi, xr_dupr, xr_goto, xr_iadd, xr_ic_ne, xr_iconst, xr_if_eq, xr_if_le, xr_if_lt, xr_imul, xr_lconst, xr_vret, xs_64, xtl_n, xtl_s, xz_i, xz_l, xz_n, xz_r, zz_b, zz_bn, Classical.not_not, true_and, Nat.reduceAdd, Nat.reduceLeDiff, wb_6_wantGroup_6, true_implies, false_implies, implies_true, not_true_eq_false, not_false_eq_true, and_true, false_and, and_false, if_true, if_false, Int.reduceEq, Int.reduceSub, Int.reduceAdd, Int.reduceMul, Int.reduceNeg, Int.reduceLT, Int.reduceLE, Int.add_zero]
        refine sp_want_1 hT5 (by rw [u63, m34]; exact hB) q3.1 (by rw [m34]; exact q3.2) hM5 m40 (by omega) (by omega) (by omega) (by omega) (fun y3 => ?_) (fun y3 => ?_)
        · intro i6 hs6 hM6
          have n34 : i6 34 = i 34 := by rw [hs6 34 (by decide)]; exact m34
          have n40 : i6 40 = 1 := by rw [hs6 40 (by decide)]; exact m40
          have n41 : i6 41 = g := by rw [hs6 41 (by decide)]; exact m41
          have hT6 : Tp b (i6 34) := by rw [n34]; exact hT
          have s6 : sI MG i i6 := sI_tr s5 (sI_w hs6 (by decide))
          have eC : GC b c = (opF b 120 (tE b (tE b (tE b (tE b c)))) 50 50 0).2.1 := by unfold GC; rw [if_neg c1, y1, y2, y3]; rfl
          have eO : GO b c = (opF b 120 (tE b (tE b (tE b (tE b c)))) 50 50 0).1 := by unfold GO; rw [decide_eq_true c1, y1, y2, y3]; rfl
          rw [eC] at hQ1 hQ0
          rw [eO] at hQ1 hQ0
          simp (disch := first | assumption | omega | exact zc_lo | exact zc_hi | exact zz_l | exact zz_u | exact zz_r) only [xa_64, xc_1 gc_6_wantGroup_0, xc_1 gc_6_wantGroup_1, xc_1 gc_6_wantGroup_4, xc_2 gc_6_wantGroup_3, xc_3 gc_6_wantGroup_2, xl_aload0, xl_iload1, xl_iload2, xl_iload3, xl_istore1a, xl_istore1i, xl_istore1n, xl_istore2a, xl_istore2i, xl_istore2n, xl_istore3a, xl_istore3i, xl_istore3n, xm_f, xm_n, xm_t, xn_1, xn_10, xn_3, xn_4, xn_6, xn_8, xo_53_20, xo_53_21, xo_53_22, xp_53_20, xp_53_22, xr_dupi, xr_dupr, xr_goto, xr_iadd, xr_ic_ne, xr_iconst, xr_if_eq, xr_if_le, xr_if_lt, xr_imul, xr_lconst, xr_vret, xs_64, xtl_n, xtl_s, xz_i, xz_l, xz_n, xz_r, xa_64, xc_1 gc_6_wantGroup_0, xc_1 gc_6_wantGroup_1, xc_1 gc_6_wantGroup_4, xc_2 gc_6_wantGroup_3, xc_3 gc_6_wantGroup_2, xl_aload0, xl_iload1, xl_iload2, xl_iload3, xl_istore1a, xl_istore1i, xl_istore1n, xl_istore2a, xl_istore2i, xl_istore2n, xl_istore3a, xl_istore3i, xl_istore3n, xm_f, xm_n, xm_t, xn_1, xn_10, xn_3, xn_4, xn_6, xn_8, xo_53_20, xo_53_21, xo_53_22, xp_53_20, xp_53_22, xr_dupi, xr_dupr, xr_goto, xr_iadd, xr_ic_ne, xr_iconst, xr_if_eq, xr_if_le, xr_if_lt, xr_imul, xr_lconst, xr_vret, xs_64, xtl_n, xtl_s, xz_i, xz_l, xz_n, xz_r, zz_b, zz_bn, Classical.not_not, true_and, Nat.reduceAdd, Nat.reduceLeDiff, up_up, up_s, true_implies, false_implies, implies_true, not_true_eq_false, not_false_eq_true, and_true, false_and, and_false, if_true, if_false, Int.reduceEq, Int.reduceSub, Int.reduceAdd, Int.reduceMul, Int.reduceNeg, Int.reduceLT, Int.reduceLE, Int.add_zero]
          have L120 := hT.1
          generalize hA0 : dk_up a 64 (dk_ui (dk_ui (dk_ui (a 64) (6 * g) (kdF b c)) (6 * g + 1) (nu b (tE b c))) (6 * g + 2) (nu b (tE b (tE b (tE b c))))) = A0
          have a0 : A0 64 (6 * g) = kdF b c := by rw [← hA0, up_s, ui_n (by omega), ui_n (by omega), ui_s]
          have a1 : A0 64 (6 * g + 1) = nu b (tE b c) := by rw [← hA0, up_s, ui_n (by omega), ui_s]
          have a2 : A0 64 (6 * g + 2) = nu b (tE b (tE b (tE b c))) := by rw [← hA0, up_s, ui_s]
          have al : ∀ j, j < 6 * g → A0 64 j = a 64 j := fun j hj => by rw [← hA0, up_s, ui_n (by omega), ui_n (by omega), ui_n (by omega)]
          have aS : sA [64] a A0 := by rw [← hA0]; exact sA_up sA_rf (by decide) _
          have rest : ∀ (A1 : Nat → Int → Int) l2 l3, MW A0 g 50 50 0 A1 → dk_WP g_6_wantGroup b_6_wantGroup Q 7 [some (.inr (.inr 53)), some (.inl (6 * g)), l2, l3] [] (HH n xs w A1 i6) := by
            intro A1 l2 l3 hW
            refine mopt (a := A0) (i := i6) hT6 (by rw [aS 63 (by decide), n34]; exact hB) g0 g1 (R := opF b 120 (tE b (tE b (tE b (tE b c)))) 50 50 0) (fun z A7 i7 hW7 hs7 hM7 => ?_) (fun z A7 i7 hs7 hI7 e40 e35 => ?_) n40 n41 120 _ 50 50 0 A1 i6 l2 l3 (by rw [n34]; omega) q4.1 (by rw [n34]; exact q4.2) sI_rf hM6 hW rfl
            · obtain ⟨w1, w2, w3, w4, w5⟩ := hW7
              refine hQ1 z A7 _ (sA_tr aS w1) ⟨?_, ?_, ?_, w2, w3, w4⟩ (fun j hj => ?_) (sI_up (sI_tr s6 (sI_w hs7 (by decide))) (by decide) _) ?_ up_s (MT_up (Or.inr rfl) hM7)
              · rw [w5 _ (by omega) (by omega) (by omega)]; exact a0
              · rw [w5 _ (by omega) (by omega) (by omega)]; exact a1
              · rw [w5 _ (by omega) (by omega) (by omega)]; exact a2
              · rw [w5 _ (by omega) (by omega) (by omega)]; exact al j hj
              · rw [up_n (by decide), hs7 40 (by decide)]; exact n40
            · exact hQ0 z A7 i7 (sA_tr aS hs7) (sI_tr s6 hI7) e40 e35
          refine rest _ _ _ ⟨?_, ?_, ?_, ?_, fun j z1 z2 z3 => ?_⟩
          · intro k hk
            rw [← hA0]
            by_cases e : k = 64
            · subst e; exact absurd (by decide) hk
            · rw [up_n e, up_n e]
          · rw [up_s, ui_n (by omega), ui_n (by omega), ui_s]
          · rw [up_s, ui_n (by omega), ui_s]
          · rw [up_s, ui_s]
          · rw [up_s, ui_n z3, ui_n z2, ui_n z1, ← hA0, up_s]
        · have eO : GO b c = false := by unfold GO; rw [decide_eq_true c1, y1, y2, y3]; rfl
          have eC : GC b c = tE b (tE b (tE b c)) := by unfold GC; rw [if_neg c1, y1, y2, y3]; rfl
          rw [eC] at hQ0
          simp (disch := first | assumption | omega | exact zc_lo | exact zc_hi | exact zz_l | exact zz_u | exact zz_r) only [xa_64, xc_1 gc_6_wantGroup_0, xc_1 gc_6_wantGroup_1, xc_1 gc_6_wantGroup_4, xc_2 gc_6_wantGroup_3, xc_3 gc_6_wantGroup_2, xl_aload0, xl_iload1, xl_iload2, xl_iload3, xl_istore1a, xl_istore1i, xl_istore1n, xl_istore2a, xl_istore2i, xl_istore2n, xl_istore3a, xl_istore3i, xl_istore3n, xm_f, xm_n, xm_t, xn_1, xn_10, xn_3, xn_4, xn_6, xn_8, xo_53_20, xo_53_21, xo_53_22, xp_53_20, xp_53_22, xr_dupi, xr_dupr, xr_goto, xr_iadd, xr_ic_ne, xr_iconst, xr_if_eq, xr_if_le, xr_if_lt, xr_imul, xr_lconst, xr_vret, xs_64, xtl_n, xtl_s, xz_i, xz_l, xz_n, xz_r, xa_64, xc_1 gc_6_wantGroup_0, xc_1 gc_6_wantGroup_1, xc_1 gc_6_wantGroup_4, xc_2 gc_6_wantGroup_3, xc_3 gc_6_wantGroup_2, xl_aload0, xl_iload1, xl_iload2, xl_iload3, xl_istore1a, xl_istore1i, xl_istore1n, xl_istore2a, xl_istore2i, xl_istore2n, xl_istore3a, xl_istore3i, xl_istore3n, xm_f, xm_n, xm_t, xn_1, xn_10, xn_3, xn_4, xn_6, xn_8, xo_53_20, xo_53_21, xo_53_22, xp_53_20, xp_53_22, xr_dupi, xr_dupr, xr_goto, xr_iadd, xr_ic_ne, xr_iconst, xr_if_eq, xr_if_le, xr_if_lt, xr_imul, xr_lconst, xr_vret, xs_64, xtl_n, xtl_s, xz_i, xz_l, xz_n, xz_r, zz_b, zz_bn, Classical.not_not, true_and, Nat.reduceAdd, Nat.reduceLeDiff, up_up, up_s, true_implies, false_implies, implies_true, not_true_eq_false, not_false_eq_true, and_true, false_and, and_false, if_true, if_false, Int.reduceEq, Int.reduceSub, Int.reduceAdd, Int.reduceMul, Int.reduceNeg, Int.reduceLT, Int.reduceLE, Int.add_zero]
          refine mf7 (g := g) up_s (by rw [up_n (by decide)]; exact m41) g0 g1 ?_
          refine hQ0 eO _ _ (sA_up sA_rf (by decide) _) (sI_up (sI_up s5 (by decide) _) (by decide) _) ?_ ?_
          · rw [up_n (by decide), up_s]
          · rw [up_n (by decide), up_n (by decide)]; exact hM5.1
    · have eO : GO b c = false := by unfold GO; rw [decide_eq_true c1, y1]; rfl
      have eC : GC b c = tE b c := by unfold GC; rw [if_neg c1, y1]; rfl
      rw [eC] at hQ0
      have e40 : dk_up i3 40 0 40 = 0 := up_s
      simp (disch := first | assumption | omega | exact zc_lo | exact zc_hi | exact zz_l | exact zz_u | exact zz_r) only [xa_64, xc_1 gc_6_wantGroup_0, xc_1 gc_6_wantGroup_1, xc_1 gc_6_wantGroup_4, xc_2 gc_6_wantGroup_3, xc_3 gc_6_wantGroup_2, xl_aload0, xl_iload1, xl_iload2, xl_iload3, xl_istore1a, xl_istore1i, xl_istore1n, xl_istore2a, xl_istore2i, xl_istore2n, xl_istore3a, xl_istore3i, xl_istore3n, xm_f, xm_n, xm_t, xn_1, xn_10, xn_3, xn_4, xn_6, xn_8, xo_53_20, xo_53_21, xo_53_22, xp_53_20, xp_53_22, xr_dupi, xr_dupr, xr_goto, xr_iadd, xr_ic_ne, xr_iconst, xr_if_eq, xr_if_le, xr_if_lt, xr_imul, xr_lconst, xr_vret, xs_64, xtl_n, xtl_s, xz_i, xz_l, xz_n, xz_r, xa_64, xc_1 gc_6_wantGroup_0, xc_1 gc_6_wantGroup_1, xc_1 gc_6_wantGroup_4, xc_2 gc_6_wantGroup_3, xc_3 gc_6_wantGroup_2, xl_aload0, xl_iload1, xl_iload2, xl_iload3, xl_istore1a, xl_istore1i, xl_istore1n, xl_istore2a, xl_istore2i, xl_istore2n, xl_istore3a, xl_istore3i, xl_istore3n, xm_f, xm_n, xm_t, xn_1, xn_10, xn_3, xn_4, xn_6, xn_8, xo_53_20, xo_53_21, xo_53_22, xp_53_20, xp_53_22, xr_dupi, xr_dupr, xr_goto, xr_iadd, xr_ic_ne, xr_iconst, xr_if_eq, xr_if_le, xr_if_lt, xr_imul, xr_lconst, xr_vret, xs_64, xtl_n, xtl_s, xz_i, xz_l, xz_n, xz_r, zz_b, zz_bn, Classical.not_not, true_and, Nat.reduceAdd, Nat.reduceLeDiff, wb_6_wantGroup_4, e40, eq_self, up_up, up_s, true_implies, false_implies, implies_true, not_true_eq_false, not_false_eq_true, and_true, false_and, and_false, if_true, if_false, Int.reduceEq, Int.reduceSub, Int.reduceAdd, Int.reduceMul, Int.reduceNeg, Int.reduceLT, Int.reduceLE, Int.add_zero]
      refine mf5 (g := g) up_s (by rw [up_n (by decide)]; exact f41) g0 g1 (fun a2 hs2 => ?_)
      refine hQ0 eO a2 _ (sA_tr (sA_up sA_rf (by decide) _) hs2) (sI_up (sI_up s3 (by decide) _) (by decide) _) ?_ ?_
      · rw [up_n (by decide), up_s]
      · rw [up_n (by decide), up_n (by decide)]; exact hM3.1
end GR3
