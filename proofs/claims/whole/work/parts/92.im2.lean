/-! CALLS OF BOTH: images kept and brought back -/
section IM2
variable {N : Int} {n : Nat} {xs : Int → Int} {w : Nat → Nat} {a : Nat → Int → Int} {i : Nat → Int} {Q : dk_Q} {p q : Int → Int} {w2 : Nat → Nat} {a2 : Nat → Int → Int} {i2 : Nat → Int}
theorem sp_moveAll_t : (∀ a2 X, sA [75, 76] a a2 → (∀ j : Int, 0 ≤ j → j < 7 → a2 75 (4 + j) = a 54 j) → (∀ j : Int, 0 ≤ j → j < 120 → a2 75 (11 + j) = a 57 j) → (∀ j : Int, 0 ≤ j → j < 24 → a2 75 (131 + j) = a 58 j) → (∀ j : Int, 0 ≤ j → j < 18 → a2 75 (155 + j) = a 59 j) → (∀ j : Int, 0 ≤ j → j < 6 → a2 75 (173 + j) = a 60 j) → (∀ j : Int, 0 ≤ j → j < 10 → a2 75 (179 + j) = a 61 j) → (a2 75 0 = i 30 ∧ a2 75 1 = i 31 ∧ a2 75 2 = i 32 ∧ a2 75 3 = i 33) → Q none (HH n xs w a2 (dk_up i 43 X))) → s_6_moveAll [.inr (.inr 53), .inl 1] (HH n xs w a i) Q := by
  intro hQ
  have v0 : ∀ y, dk_up i 43 y 30 = i 30 := fun y => up_n (by decide)
  have v1 : ∀ y, dk_up i 43 y 31 = i 31 := fun y => up_n (by decide)
  have v2 : ∀ y, dk_up i 43 y 32 = i 32 := fun y => up_n (by decide)
  have v3 : ∀ y, dk_up i 43 y 33 = i 33 := fun y => up_n (by decide)
  simp (disch := first | assumption | omega | exact zc_lo | exact zc_hi | exact zz_l | exact zz_u | exact zz_r) only [xc_4 gc_6_moveAll_0, xl_aload0, xl_iload1, xm_f, xm_n, xm_t, xo_53_0, xo_53_10, xo_53_11, xo_53_3, xo_53_36, xo_53_4, xo_53_5, xo_53_6, xo_53_7, xo_53_8, xo_53_9, xp_53_35, xr_iconst, xr_vret, xs_54, xs_57, xs_58, xs_59, xs_60, xs_61, xs_76, xtl_n, xtl_s, xz_i, xz_l, xz_n, xz_r, wb_6_moveAll_0, ss_6_moveAll, zz_b, zz_bn, Classical.not_not, true_and, Nat.reduceAdd, Nat.reduceLeDiff, v0, v1, v2, v3, up_up, up_s]
  generalize hS : dk_ui (dk_ui (dk_ui (dk_ui (a 76) 0 (i 30)) 1 (i 31)) 2 (i 32)) 3 (i 33) = S
  have hS0 : S 0 = i 30 := by rw [← hS, ui_n (by decide), ui_n (by decide), ui_n (by decide), ui_s]
  have hS1 : S 1 = i 31 := by rw [← hS, ui_n (by decide), ui_n (by decide), ui_s]
  have hS2 : S 2 = i 32 := by rw [← hS, ui_n (by decide), ui_s]
  have hS3 : S 3 = i 33 := by rw [← hS, ui_s]
  refine sp_mv_t (k := 76) (m := 4) rfl (by decide) rfl up_s (by omega) (by omega) (fun f0 hf0 hg0 => ?_)
  simp (disch := first | assumption | omega | exact zc_lo | exact zc_hi | exact zz_l | exact zz_u | exact zz_r) only [xc_4 gc_6_moveAll_0, xl_aload0, xl_iload1, xm_f, xm_n, xm_t, xo_53_0, xo_53_10, xo_53_11, xo_53_3, xo_53_36, xo_53_4, xo_53_5, xo_53_6, xo_53_7, xo_53_8, xo_53_9, xp_53_35, xr_iconst, xr_vret, xs_54, xs_57, xs_58, xs_59, xs_60, xs_61, xs_76, xtl_n, xtl_s, xz_i, xz_l, xz_n, xz_r, wb_6_moveAll_0, zz_b, zz_bn, Classical.not_not, true_and, Nat.reduceAdd, Nat.reduceLeDiff, up_up]
  rw [up_s] at hf0
  refine sp_mv_t (k := 54) (m := 7) rfl (by decide) rfl up_s (by omega) (by omega) (fun f1 hf1 hg1 => ?_)
  simp (disch := first | assumption | omega | exact zc_lo | exact zc_hi | exact zz_l | exact zz_u | exact zz_r) only [xc_4 gc_6_moveAll_0, xl_aload0, xl_iload1, xm_f, xm_n, xm_t, xo_53_0, xo_53_10, xo_53_11, xo_53_3, xo_53_36, xo_53_4, xo_53_5, xo_53_6, xo_53_7, xo_53_8, xo_53_9, xp_53_35, xr_iconst, xr_vret, xs_54, xs_57, xs_58, xs_59, xs_60, xs_61, xs_76, xtl_n, xtl_s, xz_i, xz_l, xz_n, xz_r, wb_6_moveAll_0, zz_b, zz_bn, Classical.not_not, true_and, Nat.reduceAdd, Nat.reduceLeDiff, up_up]
  rw [up_s] at hg1
  rw [up_n (show ¬ 54 = 75 by decide), up_n (show ¬ 54 = 76 by decide)] at hf1
  refine sp_mv_t (k := 57) (m := 120) rfl (by decide) rfl up_s (by omega) (by omega) (fun f2 hf2 hg2 => ?_)
  simp (disch := first | assumption | omega | exact zc_lo | exact zc_hi | exact zz_l | exact zz_u | exact zz_r) only [xc_4 gc_6_moveAll_0, xl_aload0, xl_iload1, xm_f, xm_n, xm_t, xo_53_0, xo_53_10, xo_53_11, xo_53_3, xo_53_36, xo_53_4, xo_53_5, xo_53_6, xo_53_7, xo_53_8, xo_53_9, xp_53_35, xr_iconst, xr_vret, xs_54, xs_57, xs_58, xs_59, xs_60, xs_61, xs_76, xtl_n, xtl_s, xz_i, xz_l, xz_n, xz_r, wb_6_moveAll_0, zz_b, zz_bn, Classical.not_not, true_and, Nat.reduceAdd, Nat.reduceLeDiff, up_up]
  rw [up_s] at hg2
  rw [up_n (show ¬ 57 = 75 by decide), up_n (show ¬ 57 = 76 by decide)] at hf2
  refine sp_mv_t (k := 58) (m := 24) rfl (by decide) rfl up_s (by omega) (by omega) (fun f3 hf3 hg3 => ?_)
  simp (disch := first | assumption | omega | exact zc_lo | exact zc_hi | exact zz_l | exact zz_u | exact zz_r) only [xc_4 gc_6_moveAll_0, xl_aload0, xl_iload1, xm_f, xm_n, xm_t, xo_53_0, xo_53_10, xo_53_11, xo_53_3, xo_53_36, xo_53_4, xo_53_5, xo_53_6, xo_53_7, xo_53_8, xo_53_9, xp_53_35, xr_iconst, xr_vret, xs_54, xs_57, xs_58, xs_59, xs_60, xs_61, xs_76, xtl_n, xtl_s, xz_i, xz_l, xz_n, xz_r, wb_6_moveAll_0, zz_b, zz_bn, Classical.not_not, true_and, Nat.reduceAdd, Nat.reduceLeDiff, up_up]
  rw [up_s] at hg3
  rw [up_n (show ¬ 58 = 75 by decide), up_n (show ¬ 58 = 76 by decide)] at hf3
  refine sp_mv_t (k := 59) (m := 18) rfl (by decide) rfl up_s (by omega) (by omega) (fun f4 hf4 hg4 => ?_)
  simp (disch := first | assumption | omega | exact zc_lo | exact zc_hi | exact zz_l | exact zz_u | exact zz_r) only [xc_4 gc_6_moveAll_0, xl_aload0, xl_iload1, xm_f, xm_n, xm_t, xo_53_0, xo_53_10, xo_53_11, xo_53_3, xo_53_36, xo_53_4, xo_53_5, xo_53_6, xo_53_7, xo_53_8, xo_53_9, xp_53_35, xr_iconst, xr_vret, xs_54, xs_57, xs_58, xs_59, xs_60, xs_61, xs_76, xtl_n, xtl_s, xz_i, xz_l, xz_n, xz_r, wb_6_moveAll_0, zz_b, zz_bn, Classical.not_not, true_and, Nat.reduceAdd, Nat.reduceLeDiff, up_up]
  rw [up_s] at hg4
  rw [up_n (show ¬ 59 = 75 by decide), up_n (show ¬ 59 = 76 by decide)] at hf4
  refine sp_mv_t (k := 60) (m := 6) rfl (by decide) rfl up_s (by omega) (by omega) (fun f5 hf5 hg5 => ?_)
  simp (disch := first | assumption | omega | exact zc_lo | exact zc_hi | exact zz_l | exact zz_u | exact zz_r) only [xc_4 gc_6_moveAll_0, xl_aload0, xl_iload1, xm_f, xm_n, xm_t, xo_53_0, xo_53_10, xo_53_11, xo_53_3, xo_53_36, xo_53_4, xo_53_5, xo_53_6, xo_53_7, xo_53_8, xo_53_9, xp_53_35, xr_iconst, xr_vret, xs_54, xs_57, xs_58, xs_59, xs_60, xs_61, xs_76, xtl_n, xtl_s, xz_i, xz_l, xz_n, xz_r, wb_6_moveAll_0, zz_b, zz_bn, Classical.not_not, true_and, Nat.reduceAdd, Nat.reduceLeDiff, up_up]
  rw [up_s] at hg5
  rw [up_n (show ¬ 60 = 75 by decide), up_n (show ¬ 60 = 76 by decide)] at hf5
  refine sp_mv_t (k := 61) (m := 10) rfl (by decide) rfl up_s (by omega) (by omega) (fun f6 hf6 hg6 => ?_)
  simp (disch := first | assumption | omega | exact zc_lo | exact zc_hi | exact zz_l | exact zz_u | exact zz_r) only [xc_4 gc_6_moveAll_0, xl_aload0, xl_iload1, xm_f, xm_n, xm_t, xo_53_0, xo_53_10, xo_53_11, xo_53_3, xo_53_36, xo_53_4, xo_53_5, xo_53_6, xo_53_7, xo_53_8, xo_53_9, xp_53_35, xr_iconst, xr_vret, xs_54, xs_57, xs_58, xs_59, xs_60, xs_61, xs_76, xtl_n, xtl_s, xz_i, xz_l, xz_n, xz_r, wb_6_moveAll_0, zz_b, zz_bn, Classical.not_not, true_and, Nat.reduceAdd, Nat.reduceLeDiff, up_up]
  rw [up_s] at hg6
  rw [up_n (show ¬ 61 = 75 by decide), up_n (show ¬ 61 = 76 by decide)] at hf6
  refine hQ _ _ (sA_up (sA_up sA_rf (by decide) _) (by decide) _) ?_ ?_ ?_ ?_ ?_ ?_ ⟨?_, ?_, ?_, ?_⟩
  · intro j j1 j2
    rw [up_s, hg6 _ (by omega), hg5 _ (by omega), hg4 _ (by omega), hg3 _ (by omega), hg2 _ (by omega)]
    have e := hf1 j j1 (by omega)
    rw [← e]
    congr 1
  · intro j j1 j2
    rw [up_s, hg6 _ (by omega), hg5 _ (by omega), hg4 _ (by omega), hg3 _ (by omega)]
    have e := hf2 j j1 (by omega)
    rw [← e]
    congr 1
  · intro j j1 j2
    rw [up_s, hg6 _ (by omega), hg5 _ (by omega), hg4 _ (by omega)]
    have e := hf3 j j1 (by omega)
    rw [← e]
    congr 1
  · intro j j1 j2
    rw [up_s, hg6 _ (by omega), hg5 _ (by omega)]
    have e := hf4 j j1 (by omega)
    rw [← e]
    congr 1
  · intro j j1 j2
    rw [up_s, hg6 _ (by omega)]
    have e := hf5 j j1 (by omega)
    rw [← e]
    congr 1
  · intro j j1 j2
    rw [up_s]
    have e := hf6 j j1 (by omega)
    rw [← e]
    congr 1
  · rw [up_s, hg6 _ (by omega), hg5 _ (by omega), hg4 _ (by omega), hg3 _ (by omega), hg2 _ (by omega), hg1 _ (by omega)]
    have e := hf0 0 (by omega) (by omega)
    rw [hS0] at e
    exact e
  · rw [up_s, hg6 _ (by omega), hg5 _ (by omega), hg4 _ (by omega), hg3 _ (by omega), hg2 _ (by omega), hg1 _ (by omega)]
    have e := hf0 1 (by omega) (by omega)
    rw [hS1] at e
    exact e
  · rw [up_s, hg6 _ (by omega), hg5 _ (by omega), hg4 _ (by omega), hg3 _ (by omega), hg2 _ (by omega), hg1 _ (by omega)]
    have e := hf0 2 (by omega) (by omega)
    rw [hS2] at e
    exact e
  · rw [up_s, hg6 _ (by omega), hg5 _ (by omega), hg4 _ (by omega), hg3 _ (by omega), hg2 _ (by omega), hg1 _ (by omega)]
    have e := hf0 3 (by omega) (by omega)
    rw [hS3] at e
    exact e
theorem sp_moveAll_f : (∀ a2 X, sA [76, 54, 57, 58, 59, 60, 61] a a2 → (∀ j : Int, 0 ≤ j → j < 4 → a2 76 j = a 75 (0 + j)) → (∀ j : Int, 0 ≤ j → j < 7 → a2 54 j = a 75 (4 + j)) → (∀ j : Int, 0 ≤ j → j < 120 → a2 57 j = a 75 (11 + j)) → (∀ j : Int, 0 ≤ j → j < 24 → a2 58 j = a 75 (131 + j)) → (∀ j : Int, 0 ≤ j → j < 18 → a2 59 j = a 75 (155 + j)) → (∀ j : Int, 0 ≤ j → j < 6 → a2 60 j = a 75 (173 + j)) → (∀ j : Int, 0 ≤ j → j < 10 → a2 61 j = a 75 (179 + j)) → Q none (HH n xs w a2 (dk_up i 43 X))) → s_6_moveAll [.inr (.inr 53), .inl 0] (HH n xs w a i) Q := by
  intro hQ
  simp (disch := first | assumption | omega | exact zc_lo | exact zc_hi | exact zz_l | exact zz_u | exact zz_r) only [xc_4 gc_6_moveAll_0, xl_aload0, xl_iload1, xm_f, xm_n, xm_t, xo_53_0, xo_53_10, xo_53_11, xo_53_3, xo_53_36, xo_53_4, xo_53_5, xo_53_6, xo_53_7, xo_53_8, xo_53_9, xp_53_35, xr_iconst, xr_vret, xs_54, xs_57, xs_58, xs_59, xs_60, xs_61, xs_76, xtl_n, xtl_s, xz_i, xz_l, xz_n, xz_r, wb_6_moveAll_0, ss_6_moveAll, zz_b, zz_bn, Classical.not_not, true_and, Nat.reduceAdd, Nat.reduceLeDiff, up_up, up_s]
  generalize dk_ui (dk_ui (dk_ui (dk_ui (a 76) 0 (dk_up i 43 0 30)) 1 (dk_up i 43 0 31)) 2 (dk_up i 43 0 32)) 3 (dk_up i 43 0 33) = S
  refine sp_mv_f (k := 76) (m := 4) rfl (by decide) rfl up_s (by omega) (by omega) (fun f0 hf0 => ?_)
  simp (disch := first | assumption | omega | exact zc_lo | exact zc_hi | exact zz_l | exact zz_u | exact zz_r) only [xc_4 gc_6_moveAll_0, xl_aload0, xl_iload1, xm_f, xm_n, xm_t, xo_53_0, xo_53_10, xo_53_11, xo_53_3, xo_53_36, xo_53_4, xo_53_5, xo_53_6, xo_53_7, xo_53_8, xo_53_9, xp_53_35, xr_iconst, xr_vret, xs_54, xs_57, xs_58, xs_59, xs_60, xs_61, xs_76, xtl_n, xtl_s, xz_i, xz_l, xz_n, xz_r, wb_6_moveAll_0, zz_b, zz_bn, Classical.not_not, true_and, Nat.reduceAdd, Nat.reduceLeDiff, up_up]
  rw [up_n (show ¬ 75 = 76 by decide)] at hf0
  refine sp_mv_f (k := 54) (m := 7) rfl (by decide) rfl up_s (by omega) (by omega) (fun f1 hf1 => ?_)
  simp (disch := first | assumption | omega | exact zc_lo | exact zc_hi | exact zz_l | exact zz_u | exact zz_r) only [xc_4 gc_6_moveAll_0, xl_aload0, xl_iload1, xm_f, xm_n, xm_t, xo_53_0, xo_53_10, xo_53_11, xo_53_3, xo_53_36, xo_53_4, xo_53_5, xo_53_6, xo_53_7, xo_53_8, xo_53_9, xp_53_35, xr_iconst, xr_vret, xs_54, xs_57, xs_58, xs_59, xs_60, xs_61, xs_76, xtl_n, xtl_s, xz_i, xz_l, xz_n, xz_r, wb_6_moveAll_0, zz_b, zz_bn, Classical.not_not, true_and, Nat.reduceAdd, Nat.reduceLeDiff, up_up]
  rw [up_n (show ¬ 75 = 76 by decide)] at hf1
  refine sp_mv_f (k := 57) (m := 120) rfl (by decide) rfl up_s (by omega) (by omega) (fun f2 hf2 => ?_)
  simp (disch := first | assumption | omega | exact zc_lo | exact zc_hi | exact zz_l | exact zz_u | exact zz_r) only [xc_4 gc_6_moveAll_0, xl_aload0, xl_iload1, xm_f, xm_n, xm_t, xo_53_0, xo_53_10, xo_53_11, xo_53_3, xo_53_36, xo_53_4, xo_53_5, xo_53_6, xo_53_7, xo_53_8, xo_53_9, xp_53_35, xr_iconst, xr_vret, xs_54, xs_57, xs_58, xs_59, xs_60, xs_61, xs_76, xtl_n, xtl_s, xz_i, xz_l, xz_n, xz_r, wb_6_moveAll_0, zz_b, zz_bn, Classical.not_not, true_and, Nat.reduceAdd, Nat.reduceLeDiff, up_up]
  rw [up_n (show ¬ 75 = 54 by decide), up_n (show ¬ 75 = 76 by decide)] at hf2
  refine sp_mv_f (k := 58) (m := 24) rfl (by decide) rfl up_s (by omega) (by omega) (fun f3 hf3 => ?_)
  simp (disch := first | assumption | omega | exact zc_lo | exact zc_hi | exact zz_l | exact zz_u | exact zz_r) only [xc_4 gc_6_moveAll_0, xl_aload0, xl_iload1, xm_f, xm_n, xm_t, xo_53_0, xo_53_10, xo_53_11, xo_53_3, xo_53_36, xo_53_4, xo_53_5, xo_53_6, xo_53_7, xo_53_8, xo_53_9, xp_53_35, xr_iconst, xr_vret, xs_54, xs_57, xs_58, xs_59, xs_60, xs_61, xs_76, xtl_n, xtl_s, xz_i, xz_l, xz_n, xz_r, wb_6_moveAll_0, zz_b, zz_bn, Classical.not_not, true_and, Nat.reduceAdd, Nat.reduceLeDiff, up_up]
  rw [up_n (show ¬ 75 = 57 by decide), up_n (show ¬ 75 = 54 by decide), up_n (show ¬ 75 = 76 by decide)] at hf3
  refine sp_mv_f (k := 59) (m := 18) rfl (by decide) rfl up_s (by omega) (by omega) (fun f4 hf4 => ?_)
  simp (disch := first | assumption | omega | exact zc_lo | exact zc_hi | exact zz_l | exact zz_u | exact zz_r) only [xc_4 gc_6_moveAll_0, xl_aload0, xl_iload1, xm_f, xm_n, xm_t, xo_53_0, xo_53_10, xo_53_11, xo_53_3, xo_53_36, xo_53_4, xo_53_5, xo_53_6, xo_53_7, xo_53_8, xo_53_9, xp_53_35, xr_iconst, xr_vret, xs_54, xs_57, xs_58, xs_59, xs_60, xs_61, xs_76, xtl_n, xtl_s, xz_i, xz_l, xz_n, xz_r, wb_6_moveAll_0, zz_b, zz_bn, Classical.not_not, true_and, Nat.reduceAdd, Nat.reduceLeDiff, up_up]
  rw [up_n (show ¬ 75 = 58 by decide), up_n (show ¬ 75 = 57 by decide), up_n (show ¬ 75 = 54 by decide), up_n (show ¬ 75 = 76 by decide)] at hf4
  refine sp_mv_f (k := 60) (m := 6) rfl (by decide) rfl up_s (by omega) (by omega) (fun f5 hf5 => ?_)
  simp (disch := first | assumption | omega | exact zc_lo | exact zc_hi | exact zz_l | exact zz_u | exact zz_r) only [xc_4 gc_6_moveAll_0, xl_aload0, xl_iload1, xm_f, xm_n, xm_t, xo_53_0, xo_53_10, xo_53_11, xo_53_3, xo_53_36, xo_53_4, xo_53_5, xo_53_6, xo_53_7, xo_53_8, xo_53_9, xp_53_35, xr_iconst, xr_vret, xs_54, xs_57, xs_58, xs_59, xs_60, xs_61, xs_76, xtl_n, xtl_s, xz_i, xz_l, xz_n, xz_r, wb_6_moveAll_0, zz_b, zz_bn, Classical.not_not, true_and, Nat.reduceAdd, Nat.reduceLeDiff, up_up]
  rw [up_n (show ¬ 75 = 59 by decide), up_n (show ¬ 75 = 58 by decide), up_n (show ¬ 75 = 57 by decide), up_n (show ¬ 75 = 54 by decide), up_n (show ¬ 75 = 76 by decide)] at hf5
  refine sp_mv_f (k := 61) (m := 10) rfl (by decide) rfl up_s (by omega) (by omega) (fun f6 hf6 => ?_)
  simp (disch := first | assumption | omega | exact zc_lo | exact zc_hi | exact zz_l | exact zz_u | exact zz_r) only [xc_4 gc_6_moveAll_0, xl_aload0, xl_iload1, xm_f, xm_n, xm_t, xo_53_0, xo_53_10, xo_53_11, xo_53_3, xo_53_36, xo_53_4, xo_53_5, xo_53_6, xo_53_7, xo_53_8, xo_53_9, xp_53_35, xr_iconst, xr_vret, xs_54, xs_57, xs_58, xs_59, xs_60, xs_61, xs_76, xtl_n, xtl_s, xz_i, xz_l, xz_n, xz_r, wb_6_moveAll_0, zz_b, zz_bn, Classical.not_not, true_and, Nat.reduceAdd, Nat.reduceLeDiff, up_up]
  rw [up_n (show ¬ 75 = 60 by decide), up_n (show ¬ 75 = 59 by decide), up_n (show ¬ 75 = 58 by decide), up_n (show ¬ 75 = 57 by decide), up_n (show ¬ 75 = 54 by decide), up_n (show ¬ 75 = 76 by decide)] at hf6
  refine hQ _ _ (sA_up (sA_up (sA_up (sA_up (sA_up (sA_up (sA_up sA_rf (by decide) _) (by decide) _) (by decide) _) (by decide) _) (by decide) _) (by decide) _) (by decide) _) ?_ ?_ ?_ ?_ ?_ ?_ ?_
  · intro j j1 j2
    rw [up_n (show ¬ 76 = 61 by decide), up_n (show ¬ 76 = 60 by decide), up_n (show ¬ 76 = 59 by decide), up_n (show ¬ 76 = 58 by decide), up_n (show ¬ 76 = 57 by decide), up_n (show ¬ 76 = 54 by decide), up_s, hf0 j j1 (by omega)]
  · intro j j1 j2
    rw [up_n (show ¬ 54 = 61 by decide), up_n (show ¬ 54 = 60 by decide), up_n (show ¬ 54 = 59 by decide), up_n (show ¬ 54 = 58 by decide), up_n (show ¬ 54 = 57 by decide), up_s, hf1 j j1 (by omega)]
    congr 1
  · intro j j1 j2
    rw [up_n (show ¬ 57 = 61 by decide), up_n (show ¬ 57 = 60 by decide), up_n (show ¬ 57 = 59 by decide), up_n (show ¬ 57 = 58 by decide), up_s, hf2 j j1 (by omega)]
    congr 1
  · intro j j1 j2
    rw [up_n (show ¬ 58 = 61 by decide), up_n (show ¬ 58 = 60 by decide), up_n (show ¬ 58 = 59 by decide), up_s, hf3 j j1 (by omega)]
    congr 1
  · intro j j1 j2
    rw [up_n (show ¬ 59 = 61 by decide), up_n (show ¬ 59 = 60 by decide), up_s, hf4 j j1 (by omega)]
    congr 1
  · intro j j1 j2
    rw [up_n (show ¬ 60 = 61 by decide), up_s, hf5 j j1 (by omega)]
    congr 1
  · intro j j1 j2
    rw [up_s, hf6 j j1 (by omega)]
    congr 1
theorem Inv_k (h : Inv N w a i) (hA : sA [15, 16, 17, 18, 19, 20, 21, 22, 23, 24, 25, 26, 75, 76] a a2) (hI : sI [4, 5, 6, 7, 8, 42, 43] i i2) (hg : (i2 8 = 0 ∨ i2 8 = 1) ∧ i2 42 = i2 8 ∧ (i2 8 = 1 → colN (kc a2) (kk i2) ∧ agr (kc a2) (kk i2) (km a2) (kn a2))) : Inv (N + 1) w a2 i2 := by
  have hf := fi_ok h
  have hm : mv a2 = mv a := by
    unfold mv
    rw [hA 54 (by decide), hA 57 (by decide), hA 58 (by decide), hA 59 (by decide), hA 60 (by decide), hA 61 (by decide)]
  have hmi : ∀ j, j ≤ 3 → mi i2 j = mi i j := by
    intro j hj
    refine hI (30 + j) ?_
    intro z
    simp only [List.mem_cons, List.not_mem_nil, or_false] at z
    omega
  have hcE : cE a a2 := fun j z1 z2 => hA j (by intro z; simp only [List.mem_cons, List.not_mem_nil, or_false] at z; omega)
  have hkE : kE i i2 := fun j z => hI j (by intro z; simp only [List.mem_cons, List.not_mem_nil, or_false] at z; omega)
  obtain ⟨g1, g2, g3, g4, g5, g6, -, g8⟩ := h
  refine ⟨g1, colN_E hcE hkE g2, ?_, hg, ?_, ?_, ?_, ?_⟩
  · rw [hm]
    obtain ⟨q1, q2, q3, q4, q5, q6⟩ := g3
    refine ⟨fun j hj => by rw [hmi j hj, hkE j hj]; exact q1 j hj, ?_, ?_, ?_, ?_, ?_⟩
    · rw [hcE 2 (by omega) (by omega)]; exact q2
    · rw [hkE 0 (by omega), hcE 3 (by omega) (by omega), hcE 4 (by omega) (by omega), hcE 5 (by omega) (by omega), hcE 6 (by omega) (by omega), hcE 7 (by omega) (by omega), hcE 8 (by omega) (by omega)]; exact q3
    · rw [hkE 1 (by omega), hcE 9 (by omega) (by omega), hcE 10 (by omega) (by omega), hcE 11 (by omega) (by omega)]; exact q4
    · rw [hkE 2 (by omega), hcE 12 (by omega) (by omega)]; exact q5
    · rw [hcE 13 (by omega) (by omega)]; exact q6
  · rw [hI 9 (by decide), hI 34 (by decide), hA 28 (by decide), hA 63 (by decide)]; exact g5
  · rw [hI 16 (by decide), hI 17 (by decide), hI 18 (by decide), hI 19 (by decide), hI 20 (by decide), hI 21 (by decide), hI 22 (by decide), hI 23 (by decide), hA 35 (by decide), hA 36 (by decide), hA 37 (by decide), hA 38 (by decide), hA 71 (by decide), hA 72 (by decide), hA 73 (by decide)]; exact g6
  · rw [hA 52 (by decide), hA 62 (by decide)]; exact hf
  · rw [hA 55 (by decide), hA 56 (by decide)]; exact g8
theorem Inv_u (h : Inv N w a i) (hA : sA [2, 3, 4, 5, 6, 7, 8, 9, 10, 11, 12, 13, 54, 57, 58, 59, 60, 61, 76] a a2) (hI : sI [0, 1, 2, 3, 30, 31, 32, 33, 43] i i2) (hc : colN a2 i2) (hag : agr a2 i2 (mv a2) (mi i2)) : Inv (N + 1) w a2 i2 := by
  have hf := fi_ok h
  have hkc : kc a2 = kc a := by
    unfold kc
    rw [hA 15 (by decide), hA 16 (by decide), hA 17 (by decide), hA 18 (by decide), hA 19 (by decide), hA 20 (by decide), hA 21 (by decide), hA 22 (by decide), hA 23 (by decide), hA 24 (by decide), hA 25 (by decide), hA 26 (by decide)]
  have hkk : kk i2 = kk i := by
    unfold kk
    rw [hI 4 (by decide), hI 5 (by decide), hI 6 (by decide), hI 7 (by decide)]
  have hkm : km a2 = km a := by unfold km; rw [hA 75 (by decide)]
  have hkn : kn a2 = kn a := by unfold kn; rw [hA 75 (by decide)]
  obtain ⟨g1, g2, g3, g4, g5, g6, -, g8⟩ := h
  refine ⟨g1, hc, hag, ?_, ?_, ?_, ?_, ?_⟩
  · rw [hI 8 (by decide), hI 42 (by decide), hkc, hkk, hkm, hkn]; exact g4
  · rw [hI 9 (by decide), hI 34 (by decide), hA 28 (by decide), hA 63 (by decide)]; exact g5
  · rw [hI 16 (by decide), hI 17 (by decide), hI 18 (by decide), hI 19 (by decide), hI 20 (by decide), hI 21 (by decide), hI 22 (by decide), hI 23 (by decide), hA 35 (by decide), hA 36 (by decide), hA 37 (by decide), hA 38 (by decide), hA 71 (by decide), hA 72 (by decide), hA 73 (by decide)]; exact g6
  · rw [hA 52 (by decide), hA 62 (by decide)]; exact hf
  · rw [hA 55 (by decide), hA 56 (by decide)]; exact g8
theorem op_image (h : Inv N w a i) : s_5_image [.inr (.inr 0)] (HH n xs w a i) (fun r h => s_6_image [.inr (.inr 53)] h (OPQ n xs N r)) := by
  have hc := h.2.1
  have hag := h.2.2.1
  have hmc := colN_A hag hc
  obtain ⟨⟨p1, p2⟩, ⟨s1, s2⟩, ⟨v1, v2⟩, ⟨n1, n2⟩, ⟨o1, o2⟩, ⟨d1, d2⟩, ⟨e1, e2⟩, ⟨k1, k2⟩, hr, ⟨m1, m2⟩, hd, ⟨b1, b2⟩, hb, hs, hz⟩ := id hc
  obtain ⟨hkE, hA2, hA3, hA4, hA5, hA6⟩ := id hag
  have K0 : i 30 = i 0 := hkE 0 (by omega)
  have K1 : i 31 = i 1 := hkE 1 (by omega)
  have K2 : i 32 = i 2 := hkE 2 (by omega)
  have K3 : i 33 = i 3 := hkE 3 (by omega)
  have R0 : a 54 0 = a 2 0 := hA2 0 (by omega) (by omega)
  have R1 : a 54 1 = a 2 1 := hA2 1 (by omega) (by omega)
  have R2 : a 54 2 = a 2 2 := hA2 2 (by omega) (by omega)
  have R3 : a 54 3 = a 2 3 := hA2 3 (by omega) (by omega)
  have R4 : a 54 4 = a 2 4 := hA2 4 (by omega) (by omega)
  have R5 : a 54 5 = a 2 5 := hA2 5 (by omega) (by omega)
  have R6 : a 54 6 = a 2 6 := hA2 6 (by omega) (by omega)
  simp (disch := first | assumption | omega | exact zc_lo | exact zc_hi | exact zz_l | exact zz_u | exact zz_r) only [xc_2 gc_5_image_0, xl_aload0, xm_f, xm_n, xm_t, xo_0_0, xo_0_1, xp_0_2, xr_iconst, xr_iret, xtl_n, xtl_s, xz_i, xz_l, xz_n, xz_r, wb_5_image_0, ss_5_image, zz_b, zz_bn, Classical.not_not, true_and, Nat.reduceAdd, Nat.reduceLeDiff, true_implies, false_implies, implies_true, not_true_eq_false, not_false_eq_true, and_true, false_and, and_false, if_true, if_false, Int.reduceEq, Int.reduceSub, Int.reduceAdd, Int.reduceMul, Int.reduceNeg, Int.reduceLT, Int.reduceLE, Int.add_zero]
  refine sp_0_becomeAs_14 (by omega) (by omega) (by omega) (by omega) (by omega) (by omega) (by omega) (by omega) (fun a3 hs3 t2 t3 t4 t5 t6 t7 t8 t9 t10 t11 t12 t13 => ?_)
  simp (disch := first | assumption | omega | exact zc_lo | exact zc_hi | exact zz_l | exact zz_u | exact zz_r) only [xc_2 gc_5_image_0, xl_aload0, xm_f, xm_n, xm_t, xo_0_0, xo_0_1, xp_0_2, xr_iconst, xr_iret, xtl_n, xtl_s, xz_i, xz_l, xz_n, xz_r, wb_5_image_0, zz_b, zz_bn, Classical.not_not, true_and, Nat.reduceAdd, Nat.reduceLeDiff, true_implies, false_implies, implies_true, not_true_eq_false, not_false_eq_true, and_true, false_and, and_false, if_true, if_false, Int.reduceEq, Int.reduceSub, Int.reduceAdd, Int.reduceMul, Int.reduceNeg, Int.reduceLT, Int.reduceLE, Int.add_zero]
  generalize hi3 : dk_up (dk_up (dk_up (dk_up (dk_up i 4 (i 0)) 5 (i 1)) 6 (i 2)) 7 (i 3)) 8 1 = i3
  have f4 : i3 4 = i 0 := by rw [← hi3, up_n (by decide), up_n (by decide), up_n (by decide), up_n (by decide), up_s]
  have f5 : i3 5 = i 1 := by rw [← hi3, up_n (by decide), up_n (by decide), up_n (by decide), up_s]
  have f6 : i3 6 = i 2 := by rw [← hi3, up_n (by decide), up_n (by decide), up_s]
  have f7 : i3 7 = i 3 := by rw [← hi3, up_n (by decide), up_s]
  have f8 : i3 8 = 1 := by rw [← hi3, up_s]
  have hsI : sI [4, 5, 6, 7, 8] i i3 := by rw [← hi3]; exact sI_up (sI_up (sI_up (sI_up (sI_up sI_rf (by decide) _) (by decide) _) (by decide) _) (by decide) _) (by decide) _
  simp (disch := first | assumption | omega | exact zc_lo | exact zc_hi | exact zz_l | exact zz_u | exact zz_r) only [xc_2 gc_6_image_0, xl_aload0, xm_f, xm_n, xm_t, xp_53_33, xr_iconst, xr_iret, xtl_n, xtl_s, xz_i, xz_l, xz_n, xz_r, wb_6_image_0, ss_6_image, zz_b, zz_bn, Classical.not_not, true_and, Nat.reduceAdd, Nat.reduceLeDiff, true_implies, false_implies, implies_true, not_true_eq_false, not_false_eq_true, and_true, false_and, and_false, if_true, if_false, Int.reduceEq, Int.reduceSub, Int.reduceAdd, Int.reduceMul, Int.reduceNeg, Int.reduceLT, Int.reduceLE, Int.add_zero]
  refine sp_moveAll_t (fun a4 X hs4 m54 m57 m58 m59 m60 m61 m76 => ?_)
  simp (disch := first | assumption | omega | exact zc_lo | exact zc_hi | exact zz_l | exact zz_u | exact zz_r) only [xc_2 gc_6_image_0, xl_aload0, xm_f, xm_n, xm_t, xp_53_33, xr_iconst, xr_iret, xtl_n, xtl_s, xz_i, xz_l, xz_n, xz_r, wb_6_image_0, zz_b, zz_bn, Classical.not_not, true_and, Nat.reduceAdd, Nat.reduceLeDiff, true_implies, false_implies, implies_true, not_true_eq_false, not_false_eq_true, and_true, false_and, and_false, if_true, if_false, Int.reduceEq, Int.reduceSub, Int.reduceAdd, Int.reduceMul, Int.reduceNeg, Int.reduceLT, Int.reduceLE, Int.add_zero]
  refine OPQ_i (by omega) (by omega) ?_
  have hA : sA [15, 16, 17, 18, 19, 20, 21, 22, 23, 24, 25, 26, 75, 76] a a4 := sA_tr (sA_w hs3 (by decide)) (sA_w hs4 (by decide))
  refine Inv_k h hA (sI_up (sI_up (sI_w hsI (by decide)) (by decide) _) (by decide) _) ?_
  have r30 : i3 30 = i 30 := hsI 30 (by decide)
  have r31 : i3 31 = i 31 := hsI 31 (by decide)
  have r32 : i3 32 = i 32 := hsI 32 (by decide)
  have r33 : i3 33 = i 33 := hsI 33 (by decide)
  rw [r30, r31, r32, r33] at m76
  have e54 : a3 54 = a 54 := hs3 54 (by decide)
  have e57 : a3 57 = a 57 := hs3 57 (by decide)
  have e58 : a3 58 = a 58 := hs3 58 (by decide)
  have e59 : a3 59 = a 59 := hs3 59 (by decide)
  have e60 : a3 60 = a 60 := hs3 60 (by decide)
  have e61 : a3 61 = a 61 := hs3 61 (by decide)
  rw [e54] at m54
  rw [e57] at m57
  rw [e58] at m58
  rw [e59] at m59
  rw [e60] at m60
  rw [e61] at m61
  have kA : ∀ k, 15 ≤ k → k ≤ 26 → a4 k = a3 k := fun k z1 z2 => hs4 k (by intro z; simp only [List.mem_cons, List.not_mem_nil, or_false] at z; omega)
  have ag1 : agr a i (kc a4) (kk (dk_up (dk_up i3 43 X) 42 1)) := by
    refine ⟨fun j hj => ?_, fun j z1 z2 => ?_, fun r z1 z2 => ⟨?_, ?_, ?_, ?_, ?_, ?_⟩, fun d z1 z2 => ⟨?_, ?_, ?_⟩, fun b z1 z2 => ?_, fun s z1 z2 => ?_⟩
    · match j, hj with
      | 0, _ => exact f4
      | 1, _ => exact f5
      | 2, _ => exact f6
      | 3, _ => exact f7
    · show a4 15 j = a 2 j
      rw [kA 15 (by omega) (by omega)]; exact t2 j z1 z2
    · show a4 16 r = a 3 r
      rw [kA 16 (by omega) (by omega)]; exact t3 r z1 (by omega)
    · show a4 17 r = a 4 r
      rw [kA 17 (by omega) (by omega)]; exact t4 r z1 (by omega)
    · show a4 18 r = a 5 r
      rw [kA 18 (by omega) (by omega)]; exact t5 r z1 (by omega)
    · show a4 19 r = a 6 r
      rw [kA 19 (by omega) (by omega)]; exact t6 r z1 (by omega)
    · show a4 20 r = a 7 r
      rw [kA 20 (by omega) (by omega)]; exact t7 r z1 (by omega)
    · show a4 21 r = a 8 r
      rw [kA 21 (by omega) (by omega)]; exact t8 r z1 (by omega)
    · show a4 22 d = a 9 d
      rw [kA 22 (by omega) (by omega)]; exact t9 d z1 (by omega)
    · show a4 23 d = a 10 d
      rw [kA 23 (by omega) (by omega)]; exact t10 d z1 (by omega)
    · show a4 24 d = a 11 d
      rw [kA 24 (by omega) (by omega)]; exact t11 d z1 (by omega)
    · show a4 25 b = a 12 b
      rw [kA 25 (by omega) (by omega)]; exact t12 b z1 (by omega)
    · show a4 26 s = a 13 s
      rw [kA 26 (by omega) (by omega)]; exact t13 s z1 z2
  have ag2 : agr (mv a) (mi i) (km a4) (kn a4) := by
    have q0 : mi i 0 = i 0 := K0
    have q1 : mi i 1 = i 1 := K1
    have q2 : mi i 2 = i 2 := K2
    refine ⟨fun j hj => ?_, fun j z1 z2 => m54 j z1 z2, fun r z1 z2 => ?_, fun d z1 z2 => ?_, fun b z1 z2 => m60 b z1 (by omega), fun s z1 z2 => m61 s z1 z2⟩
    · match j, hj with
      | 0, _ => exact m76.1
      | 1, _ => exact m76.2.1
      | 2, _ => exact m76.2.2.1
      | 3, _ => exact m76.2.2.2
    · exact ⟨m57 _ (by omega) (by omega), m57 _ (by omega) (by omega), m57 _ (by omega) (by omega), m57 _ (by omega) (by omega), m57 _ (by omega) (by omega), m58 r z1 (by omega)⟩
    · exact ⟨m59 _ (by omega) (by omega), m59 _ (by omega) (by omega), m59 _ (by omega) (by omega)⟩
  have e8 : dk_up (dk_up i3 43 X) 42 1 8 = 1 := by rw [up_n (by decide), up_n (by decide)]; exact f8
  refine ⟨Or.inr e8, by rw [up_s, e8], fun _ => ⟨colN_A ag1 hc, agr_e ag1 (agr_t hag ag2)⟩⟩
theorem op_undo (h : Inv N w a i) : s_5_undo [.inr (.inr 0)] (HH n xs w a i) (fun r h => s_6_undo [.inr (.inr 53)] h (OPQ n xs N r)) := by
  obtain ⟨q1, q2, q3⟩ := h.2.2.2.1
  rcases q1 with q1 | q1
  · simp (disch := first | assumption | omega | exact zc_lo | exact zc_hi | exact zz_l | exact zz_u | exact zz_r) only [xc_2 gc_5_undo_0, xc_2 gc_5_undo_1, xl_aload0, xm_f, xm_n, xm_t, xn_1, xo_0_0, xo_0_1, xo_0_2, xo_1_1, xr_iconst, xr_if_ne, xr_iret, xtl_n, xtl_s, xz_i, xz_l, xz_n, xz_r, wb_5_undo_0, wb_5_undo_1, ss_5_undo, xa_76, xc_2 gc_6_undo_0, xc_2 gc_6_undo_1, xl_aload0, xm_f, xm_n, xm_t, xn_1, xo_53_3, xo_53_33, xo_53_36, xp_53_10, xp_53_3, xp_53_6, xp_53_8, xr_iconst, xr_if_ne, xr_iret, xtl_n, xtl_s, xz_i, xz_l, xz_n, xz_r, wb_6_undo_0, wb_6_undo_1, ss_6_undo, zz_b, zz_bn, Classical.not_not, true_and, Nat.reduceAdd, Nat.reduceLeDiff, q1, q2, sp_5_finding, sp_6_finds, eq_self, true_implies, false_implies, implies_true, not_true_eq_false, not_false_eq_true, and_true, false_and, and_false, if_true, if_false, Int.reduceEq, Int.reduceSub, Int.reduceAdd, Int.reduceMul, Int.reduceNeg, Int.reduceLT, Int.reduceLE, Int.add_zero]
    exact fnd h 3 (by omega) (by omega)
  · obtain ⟨hkc, hka⟩ := q3 q1
    have hkc2 := hkc
    obtain ⟨⟨p1, p2⟩, ⟨s1, s2⟩, ⟨v1, v2⟩, ⟨n1, n2⟩, ⟨o1, o2⟩, ⟨d1, d2⟩, ⟨e1, e2⟩, ⟨k1, k2⟩, hr, ⟨m1, m2⟩, hd, ⟨b1, b2⟩, hb, hs, hz⟩ := id hkc
    have b4 : -2147483648 ≤ i 4 ∧ i 4 ≤ 2147483647 := by have z1 : 0 ≤ i 4 := k1; have z2 : i 4 ≤ 24 := k2; omega
    have b5 : -2147483648 ≤ i 5 ∧ i 5 ≤ 2147483647 := by have z1 : 0 ≤ i 5 := m1; have z2 : i 5 ≤ 6 := m2; omega
    have b6 : -2147483648 ≤ i 6 ∧ i 6 ≤ 2147483647 := by have z1 : 0 ≤ i 6 := b1; have z2 : i 6 ≤ 6 := b2; omega
    have b7 : -2147483648 ≤ i 7 ∧ i 7 ≤ 2147483647 := hz
    have K4 : 0 ≤ i 4 ∧ i 4 ≤ 24 := ⟨k1, k2⟩
    have K5 : 0 ≤ i 5 ∧ i 5 ≤ 6 := ⟨m1, m2⟩
    have K6 : 0 ≤ i 6 ∧ i 6 ≤ 6 := ⟨b1, b2⟩
    simp (disch := first | assumption | omega | exact zc_lo | exact zc_hi | exact zz_l | exact zz_u | exact zz_r) only [xc_2 gc_5_undo_0, xc_2 gc_5_undo_1, xl_aload0, xm_f, xm_n, xm_t, xn_1, xo_0_0, xo_0_1, xo_0_2, xo_1_1, xr_iconst, xr_if_ne, xr_iret, xtl_n, xtl_s, xz_i, xz_l, xz_n, xz_r, wb_5_undo_0, wb_5_undo_1, ss_5_undo, zz_b, zz_bn, Classical.not_not, true_and, Nat.reduceAdd, Nat.reduceLeDiff, q1, eq_self, true_implies, false_implies, implies_true, not_true_eq_false, not_false_eq_true, and_true, false_and, and_false, if_true, if_false, Int.reduceEq, Int.reduceSub, Int.reduceAdd, Int.reduceMul, Int.reduceNeg, Int.reduceLT, Int.reduceLE, Int.add_zero]
    refine sp_0_becomeAs_1 b4.1 b4.2 b5.1 b5.2 b6.1 b6.2 b7.1 b7.2 (fun a3 hs3 t2 t3 t4 t5 t6 t7 t8 t9 t10 t11 t12 t13 => ?_)
    generalize hi3 : dk_up (dk_up (dk_up (dk_up i 0 (i 4)) 1 (i 5)) 2 (i 6)) 3 (i 7) = i3
    have f0 : i3 0 = i 4 := by rw [← hi3, up_n (by decide), up_n (by decide), up_n (by decide), up_s]
    have f1 : i3 1 = i 5 := by rw [← hi3, up_n (by decide), up_n (by decide), up_s]
    have f2 : i3 2 = i 6 := by rw [← hi3, up_n (by decide), up_s]
    have f3 : i3 3 = i 7 := by rw [← hi3, up_s]
    have hsI : sI [0, 1, 2, 3] i i3 := by rw [← hi3]; exact sI_up (sI_up (sI_up (sI_up sI_rf (by decide) _) (by decide) _) (by decide) _) (by decide) _
    have e42 : i3 42 = 1 := by rw [hsI 42 (by decide), q2, q1]
    simp (disch := first | assumption | omega | exact zc_lo | exact zc_hi | exact zz_l | exact zz_u | exact zz_r) only [xc_2 gc_5_undo_0, xc_2 gc_5_undo_1, xl_aload0, xm_f, xm_n, xm_t, xn_1, xo_0_0, xo_0_1, xo_0_2, xo_1_1, xr_iconst, xr_if_ne, xr_iret, xtl_n, xtl_s, xz_i, xz_l, xz_n, xz_r, wb_5_undo_0, wb_5_undo_1, xa_76, xc_2 gc_6_undo_0, xc_2 gc_6_undo_1, xl_aload0, xm_f, xm_n, xm_t, xn_1, xo_53_3, xo_53_33, xo_53_36, xp_53_10, xp_53_3, xp_53_6, xp_53_8, xr_iconst, xr_if_ne, xr_iret, xtl_n, xtl_s, xz_i, xz_l, xz_n, xz_r, wb_6_undo_0, wb_6_undo_1, ss_6_undo, zz_b, zz_bn, Classical.not_not, true_and, Nat.reduceAdd, Nat.reduceLeDiff, f0, e42, eq_self, true_implies, false_implies, implies_true, not_true_eq_false, not_false_eq_true, and_true, false_and, and_false, if_true, if_false, Int.reduceEq, Int.reduceSub, Int.reduceAdd, Int.reduceMul, Int.reduceNeg, Int.reduceLT, Int.reduceLE, Int.add_zero]
    refine sp_moveAll_f (fun a4 X hs4 m76 m54 m57 m58 m59 m60 m61 => ?_)
    have e75 : a3 75 = a 75 := hs3 75 (by decide)
    rw [e75] at m76 m54 m57 m58 m59 m60 m61
    obtain ⟨ka1, ka2, ka3, ka4, ka5, ka6⟩ := id hka
    have n0 : a4 76 0 = i 4 := (m76 0 (by omega) (by omega)).trans (ka1 0 (by omega))
    have n1 : a4 76 1 = i 5 := (m76 1 (by omega) (by omega)).trans (ka1 1 (by omega))
    have n2 : a4 76 2 = i 6 := (m76 2 (by omega) (by omega)).trans (ka1 2 (by omega))
    have n3 : a4 76 3 = i 7 := (m76 3 (by omega) (by omega)).trans (ka1 3 (by omega))
    simp (disch := first | assumption | omega | exact zc_lo | exact zc_hi | exact zz_l | exact zz_u | exact zz_r) only [xa_76, xc_2 gc_6_undo_0, xc_2 gc_6_undo_1, xl_aload0, xm_f, xm_n, xm_t, xn_1, xo_53_3, xo_53_33, xo_53_36, xp_53_10, xp_53_3, xp_53_6, xp_53_8, xr_iconst, xr_if_ne, xr_iret, xtl_n, xtl_s, xz_i, xz_l, xz_n, xz_r, wb_6_undo_0, wb_6_undo_1, zz_b, zz_bn, Classical.not_not, true_and, Nat.reduceAdd, Nat.reduceLeDiff, n0, n1, n2, n3, true_implies, false_implies, implies_true, not_true_eq_false, not_false_eq_true, and_true, false_and, and_false, if_true, if_false, Int.reduceEq, Int.reduceSub, Int.reduceAdd, Int.reduceMul, Int.reduceNeg, Int.reduceLT, Int.reduceLE, Int.add_zero]
    rw [up_n (show ¬ 30 = 33 by decide), up_n (show ¬ 30 = 32 by decide), up_n (show ¬ 30 = 31 by decide), up_s]
    refine OPQ_i (by omega) (by omega) ?_
    have hA : sA [2, 3, 4, 5, 6, 7, 8, 9, 10, 11, 12, 13, 54, 57, 58, 59, 60, 61, 76] a a4 := sA_tr (sA_w hs3 (by decide)) (sA_w hs4 (by decide))
    have kA : ∀ k, 2 ≤ k → k ≤ 13 → a4 k = a3 k := fun k z1 z2 => hs4 k (by intro z; simp only [List.mem_cons, List.not_mem_nil, or_false] at z; omega)
    generalize hi4 : dk_up (dk_up (dk_up (dk_up (dk_up i3 43 X) 30 (i 4)) 31 (i 5)) 32 (i 6)) 33 (i 7) = i4
    have g0 : i4 0 = i 4 := by rw [← hi4, up_n (by decide), up_n (by decide), up_n (by decide), up_n (by decide), up_n (by decide)]; exact f0
    have g1 : i4 1 = i 5 := by rw [← hi4, up_n (by decide), up_n (by decide), up_n (by decide), up_n (by decide), up_n (by decide)]; exact f1
    have g2 : i4 2 = i 6 := by rw [← hi4, up_n (by decide), up_n (by decide), up_n (by decide), up_n (by decide), up_n (by decide)]; exact f2
    have g3 : i4 3 = i 7 := by rw [← hi4, up_n (by decide), up_n (by decide), up_n (by decide), up_n (by decide), up_n (by decide)]; exact f3
    have g30 : i4 30 = i 4 := by rw [← hi4, up_n (by decide), up_n (by decide), up_n (by decide), up_s]
    have g31 : i4 31 = i 5 := by rw [← hi4, up_n (by decide), up_n (by decide), up_s]
    have g32 : i4 32 = i 6 := by rw [← hi4, up_n (by decide), up_s]
    have g33 : i4 33 = i 7 := by rw [← hi4, up_s]
    have hsI4 : sI [0, 1, 2, 3, 30, 31, 32, 33, 43] i i4 := by
      rw [← hi4]
      exact sI_up (sI_up (sI_up (sI_up (sI_up (sI_w hsI (by decide)) (by decide) _) (by decide) _) (by decide) _) (by decide) _) (by decide) _
    have ag1 : agr (kc a) (kk i) a4 i4 := by
      refine ⟨fun j hj => ?_, fun j z1 z2 => ?_, fun r z1 z2 => ?_, fun d z1 z2 => ?_, fun b z1 z2 => ?_, fun s z1 z2 => ?_⟩
      · match j, hj with
        | 0, _ => exact g0
        | 1, _ => exact g1
        | 2, _ => exact g2
        | 3, _ => exact g3
      · rw [kA 2 (by omega) (by omega)]; exact t2 j z1 z2
      · have z2 : r < i 4 := z2
        rw [kA 3 (by omega) (by omega), kA 4 (by omega) (by omega), kA 5 (by omega) (by omega), kA 6 (by omega) (by omega), kA 7 (by omega) (by omega), kA 8 (by omega) (by omega)]
        exact ⟨t3 r z1 (by omega), t4 r z1 (by omega), t5 r z1 (by omega), t6 r z1 (by omega), t7 r z1 (by omega), t8 r z1 (by omega)⟩
      · have z2 : d < i 5 := z2
        rw [kA 9 (by omega) (by omega), kA 10 (by omega) (by omega), kA 11 (by omega) (by omega)]
        exact ⟨t9 d z1 (by omega), t10 d z1 (by omega), t11 d z1 (by omega)⟩
      · have z2 : b < i 6 := z2
        rw [kA 12 (by omega) (by omega)]; exact t12 b z1 (by omega)
      · rw [kA 13 (by omega) (by omega)]; exact t13 s z1 z2
    have w0 : kn a 0 = i 4 := ka1 0 (by omega)
    have w1 : kn a 1 = i 5 := ka1 1 (by omega)
    have w2 : kn a 2 = i 6 := ka1 2 (by omega)
    have w3 : kn a 3 = i 7 := ka1 3 (by omega)
    have ag2 : agr (km a) (kn a) (mv a4) (mi i4) := by
      refine ⟨fun j hj => ?_, fun j z1 z2 => m54 j z1 z2, fun r z1 z2 => ?_, fun d z1 z2 => ?_, fun b z1 z2 => m60 b z1 (by omega), fun s z1 z2 => m61 s z1 z2⟩
      · match j, hj with
        | 0, _ => exact g30.trans w0.symm
        | 1, _ => exact g31.trans w1.symm
        | 2, _ => exact g32.trans w2.symm
        | 3, _ => exact g33.trans w3.symm
      · exact ⟨m57 _ (by omega) (by omega), m57 _ (by omega) (by omega), m57 _ (by omega) (by omega), m57 _ (by omega) (by omega), m57 _ (by omega) (by omega), m58 r z1 (by omega)⟩
      · exact ⟨m59 _ (by omega) (by omega), m59 _ (by omega) (by omega), m59 _ (by omega) (by omega)⟩
    exact Inv_u h hA hsI4 (colN_A ag1 hkc2) (agr_e ag1 (agr_t hka ag2))
end IM2
