/-! CALLS OF BOTH: sheets made, copied, loaded, judged -/
section SH2
variable {N : Int} {n : Nat} {xs : Int → Int} {w : Nat → Nat} {a : Nat → Int → Int} {i : Nat → Int} {Q : dk_Q} {p q : Int → Int} {w2 : Nat → Nat} {a2 : Nat → Int → Int} {i2 : Nat → Int}
theorem op_sheet (h : Inv N w a i) {x y z : Int} (x1 : -2147483648 ≤ x) (x2 : x ≤ 2147483647) (y1 : -2147483648 ≤ y) (y2 : y ≤ 2147483647) (z1 : -2147483648 ≤ z) (z2 : z ≤ 2147483647) : s_5_sheet [.inr (.inr 0), .inl x, .inl y, .inl z] (HH n xs w a i) (fun r h => s_6_sheet [.inr (.inr 53), .inl x, .inl y, .inl z] h (OPQ n xs N r)) := by
  by_cases c1 : 0 ≤ x ∧ x ≤ 3
  · obtain ⟨s, rfl⟩ := nat_of c1.1
    have hs : s < 4 := by omega
    by_cases c2 : y = 0 ∨ y = 8 ∨ y = 16 ∨ y = 32
    · -- behind the bits
      have mdl : ∀ {Q : dk_Q} {w a i}, ((z < 0 → dk_WP g_6_sheet b_6_sheet Q 2 [some (.inr (.inr 53)), some (.inl s), some (.inl y), some (.inl z), none] [] (HH n xs w a i)) ∧ (¬ z < 0 → dk_WP g_6_sheet b_6_sheet Q 2 [some (.inr (.inr 53)), some (.inl s), some (.inl y), some (.inl z), none] [] (HH n xs w a i))) → s_6_sheet [.inr (.inr 53), .inl s, .inl y, .inl z] (HH n xs w a i) Q := by
        intro Q w a i hq
        have hq2 : dk_WP g_6_sheet b_6_sheet Q 2 [some (.inr (.inr 53)), some (.inl s), some (.inl y), some (.inl z), none] [] (HH n xs w a i) := by
          by_cases c : z < 0
          · exact hq.1 c
          · exact hq.2 c
        simp (disch := first | assumption | omega | exact zc_lo | exact zc_hi | exact zz_l | exact zz_u | exact zz_r) only [xa_71, xa_72, xa_73, xc_1 gc_6_sheet_0, xc_2 gc_6_sheet_1, xl_aload0, xl_iinc4a, xl_iinc4i, xl_iinc4n, xl_iload1, xl_iload2, xl_iload3, xl_iload4, xl_istore4a, xl_istore4i, xl_istore4n, xm_f, xm_n, xm_t, xn_1, xn_2, xn_3, xn_4, xn_5, xn_8, xo_53_29, xo_53_30, xo_53_31, xr_goto, xr_iadd, xr_ic_eq, xr_ic_ge, xr_ic_le, xr_iconst, xr_if_eq, xr_if_ge, xr_if_ne, xr_imul, xr_iret, xs_71, xs_72, xs_73, xtl_n, xtl_s, xz_i, xz_l, xz_n, xz_r, zz_b, zz_bn, Classical.not_not, true_and, Nat.reduceAdd, Nat.reduceLeDiff, ss_6_sheet, wb_6_sheet_0, sp_6_isSheet, c1, true_implies, false_implies, implies_true, not_true_eq_false, not_false_eq_true, and_true, false_and, and_false, if_true, if_false, Int.reduceEq, Int.reduceSub, Int.reduceAdd, Int.reduceMul, Int.reduceNeg, Int.reduceLT, Int.reduceLE, Int.add_zero]
        refine ⟨fun c => hq2, fun c3 => ⟨fun c => hq2, fun c4 => ⟨fun c => hq2, fun c5 => ⟨fun c => hq2, fun c6 => ?_⟩⟩⟩⟩
        omega
      have cls : ∀ {Q : dk_Q}, dk_WP g_5_sheet b_5_sheet Q 2 [some (.inr (.inr 0)), some (.inl s), some (.inl y), some (.inl z)] [] (HH n xs w a i) → s_5_sheet [.inr (.inr 0), .inl s, .inl y, .inl z] (HH n xs w a i) Q := by
        intro Q hq2
        simp (disch := first | assumption | omega | exact zc_lo | exact zc_hi | exact zz_l | exact zz_u | exact zz_r) only [xa_30, xc_1 gc_5_sheet_0, xc_2 gc_5_sheet_1, xc_3 gc_5_sheet_2, xl_aload0, xl_iload1, xl_iload2, xl_iload3, xm_f, xm_n, xm_t, xn_1, xn_2, xn_3, xn_4, xo_0_4, xo_31_1, xo_32_1, xo_33_1, xo_34_1, xr_goto, xr_ic_eq, xr_ic_le, xr_iconst, xr_if_eq, xr_if_ge, xr_iret, xtl_n, xtl_s, xz_i, xz_l, xz_n, xz_r, zz_b, zz_bn, Classical.not_not, true_and, Nat.reduceAdd, Nat.reduceLeDiff, ss_5_sheet, wb_5_sheet_0, sp_5_isSheet, c1, true_implies, false_implies, implies_true, not_true_eq_false, not_false_eq_true, and_true, false_and, and_false, if_true, if_false, Int.reduceEq, Int.reduceSub, Int.reduceAdd, Int.reduceMul, Int.reduceNeg, Int.reduceLT, Int.reduceLE, Int.add_zero]
        refine ⟨fun c => hq2, fun c3 => ⟨fun c => hq2, fun c4 => ⟨fun c => hq2, fun c5 => ⟨fun c => hq2, fun c6 => ?_⟩⟩⟩⟩
        omega
      refine cls ?_
      by_cases c3 : z < 0
      · have c4 : ¬ 0 ≤ z := by omega
        simp (disch := first | assumption | omega | exact zc_lo | exact zc_hi | exact zz_l | exact zz_u | exact zz_r) only [xa_30, xc_1 gc_5_sheet_0, xc_2 gc_5_sheet_1, xc_3 gc_5_sheet_2, xl_aload0, xl_iload1, xl_iload2, xl_iload3, xm_f, xm_n, xm_t, xn_1, xn_2, xn_3, xn_4, xo_0_4, xo_31_1, xo_32_1, xo_33_1, xo_34_1, xr_goto, xr_ic_eq, xr_ic_le, xr_iconst, xr_if_eq, xr_if_ge, xr_iret, xtl_n, xtl_s, xz_i, xz_l, xz_n, xz_r, wb_5_sheet_0, wb_5_sheet_1, wb_5_sheet_2, wb_5_sheet_3, wb_5_sheet_4, zz_b, zz_bn, Classical.not_not, true_and, Nat.reduceAdd, Nat.reduceLeDiff, c4, sp_5_finding, true_implies, false_implies, implies_true, not_true_eq_false, not_false_eq_true, and_true, false_and, and_false, if_true, if_false, Int.reduceEq, Int.reduceSub, Int.reduceAdd, Int.reduceMul, Int.reduceNeg, Int.reduceLT, Int.reduceLE, Int.add_zero]
        refine mdl ⟨fun _ => ?_, fun c => absurd c3 c⟩
        simp (disch := first | assumption | omega | exact zc_lo | exact zc_hi | exact zz_l | exact zz_u | exact zz_r) only [xa_71, xa_72, xa_73, xc_1 gc_6_sheet_0, xc_2 gc_6_sheet_1, xl_aload0, xl_iinc4a, xl_iinc4i, xl_iinc4n, xl_iload1, xl_iload2, xl_iload3, xl_iload4, xl_istore4a, xl_istore4i, xl_istore4n, xm_f, xm_n, xm_t, xn_1, xn_2, xn_3, xn_4, xn_5, xn_8, xo_53_29, xo_53_30, xo_53_31, xr_goto, xr_iadd, xr_ic_eq, xr_ic_ge, xr_ic_le, xr_iconst, xr_if_eq, xr_if_ge, xr_if_ne, xr_imul, xr_iret, xs_71, xs_72, xs_73, xtl_n, xtl_s, xz_i, xz_l, xz_n, xz_r, wb_6_sheet_0, wb_6_sheet_1, wb_6_sheet_2, wb_6_sheet_3, wb_6_sheet_4, wb_6_sheet_5, wb_6_sheet_6, wb_6_sheet_8, zz_b, zz_bn, Classical.not_not, true_and, Nat.reduceAdd, Nat.reduceLeDiff, c4, sp_6_finds, true_implies, false_implies, implies_true, not_true_eq_false, not_false_eq_true, and_true, false_and, and_false, if_true, if_false, Int.reduceEq, Int.reduceSub, Int.reduceAdd, Int.reduceMul, Int.reduceNeg, Int.reduceLT, Int.reduceLE, Int.add_zero]
        exact fnd h 6 (by omega) (by omega)
      · have c4 : 0 ≤ z := by omega
        by_cases c5 : z ≤ 40
        · simp (disch := first | assumption | omega | exact zc_lo | exact zc_hi | exact zz_l | exact zz_u | exact zz_r) only [xa_30, xc_1 gc_5_sheet_0, xc_2 gc_5_sheet_1, xc_3 gc_5_sheet_2, xl_aload0, xl_iload1, xl_iload2, xl_iload3, xm_f, xm_n, xm_t, xn_1, xn_2, xn_3, xn_4, xo_0_4, xo_31_1, xo_32_1, xo_33_1, xo_34_1, xr_goto, xr_ic_eq, xr_ic_le, xr_iconst, xr_if_eq, xr_if_ge, xr_iret, xtl_n, xtl_s, xz_i, xz_l, xz_n, xz_r, wb_5_sheet_0, wb_5_sheet_1, wb_5_sheet_2, wb_5_sheet_3, wb_5_sheet_4, zz_b, zz_bn, Classical.not_not, true_and, Nat.reduceAdd, Nat.reduceLeDiff, c4, c5, e31, true_implies, false_implies, implies_true, not_true_eq_false, not_false_eq_true, and_true, false_and, and_false, if_true, if_false, Int.reduceEq, Int.reduceSub, Int.reduceAdd, Int.reduceMul, Int.reduceNeg, Int.reduceLT, Int.reduceLE, Int.add_zero]
          refine sp_mka hs y1 y2 c4 c5 (fun f hf => ?_)
          have e20 : dk_up (dk_up i (16 + s) y) (20 + s) (if y = 0 then 0 else z) (20 + s) = if y = 0 then 0 else z := up_s
          simp (disch := first | assumption | omega | exact zc_lo | exact zc_hi | exact zz_l | exact zz_u | exact zz_r) only [xa_30, xc_1 gc_5_sheet_0, xc_2 gc_5_sheet_1, xc_3 gc_5_sheet_2, xl_aload0, xl_iload1, xl_iload2, xl_iload3, xm_f, xm_n, xm_t, xn_1, xn_2, xn_3, xn_4, xo_0_4, xo_31_1, xo_32_1, xo_33_1, xo_34_1, xr_goto, xr_ic_eq, xr_ic_le, xr_iconst, xr_if_eq, xr_if_ge, xr_iret, xtl_n, xtl_s, xz_i, xz_l, xz_n, xz_r, wb_5_sheet_0, wb_5_sheet_1, wb_5_sheet_2, wb_5_sheet_3, wb_5_sheet_4, zz_b, zz_bn, Classical.not_not, true_and, Nat.reduceAdd, Nat.reduceLeDiff, e31, xg_1 hs, e20, true_implies, false_implies, implies_true, not_true_eq_false, not_false_eq_true, and_true, false_and, and_false, if_true, if_false, Int.reduceEq, Int.reduceSub, Int.reduceAdd, Int.reduceMul, Int.reduceNeg, Int.reduceLT, Int.reduceLE, Int.add_zero]
          refine mdl ⟨fun c => absurd c c3, fun _ => ?_⟩
          have s0 : (0 : Int) ≤ s := by omega
          have s4 : (s : Int) < 4 := by omega
          -- the reference's rows
          have key : ∀ d : Nat, d ≤ 40 → ∀ (g : Int → Int) (l2 l3 : Option dk_V) (u v : Int → Int), u s = y → v s = (if y = 0 then 0 else z) → (∀ j, ¬ j = (s : Int) → u j = a 71 j ∧ v j = a 72 j) → (∀ j : Int, 0 ≤ j → j < d → g (40 * (s : Int) + j) = 0) → (∀ j : Int, j < 40 * (s : Int) ∨ 40 * (s : Int) + 40 ≤ j → g j = a 73 j) → dk_WP g_6_sheet b_6_sheet (OPQ n xs N (some (.inl (if y = 0 then 0 else z)))) 7 [some (.inr (.inr 53)), some (.inl s), l2, l3, some (.inl d)] [] (HH n xs w (dk_up (dk_up (dk_up (dk_up a (35 + s) f) 71 u) 72 v) 73 g) (dk_up (dk_up i (16 + s) y) (20 + s) (if y = 0 then 0 else z))) := by
            refine lp_up ?_ ?_
            · intro g l2 l3 u v hu hv huv hg hg2
              have e72 : dk_up (dk_up (dk_up (dk_up a (35 + s) f) 71 u) 72 v) 73 g 72 (s : Int) = if y = 0 then 0 else z := by rw [up_n (by decide), up_s]; exact hv
              have hb : 0 ≤ (if y = 0 then (0 : Int) else z) ∧ (if y = 0 then (0 : Int) else z) ≤ 40 := by split <;> omega
              rw [wb_6_sheet_7]
              simp (disch := first | assumption | omega | exact zc_lo | exact zc_hi | exact zz_l | exact zz_u | exact zz_r) only [xa_71, xa_72, xa_73, xc_1 gc_6_sheet_0, xc_2 gc_6_sheet_1, xl_aload0, xl_iinc4a, xl_iinc4i, xl_iinc4n, xl_iload1, xl_iload2, xl_iload3, xl_iload4, xl_istore4a, xl_istore4i, xl_istore4n, xm_f, xm_n, xm_t, xn_1, xn_2, xn_3, xn_4, xn_5, xn_8, xo_53_29, xo_53_30, xo_53_31, xr_goto, xr_iadd, xr_ic_eq, xr_ic_ge, xr_ic_le, xr_iconst, xr_if_eq, xr_if_ge, xr_if_ne, xr_imul, xr_iret, xs_71, xs_72, xs_73, xtl_n, xtl_s, xz_i, xz_l, xz_n, xz_r, wb_6_sheet_0, wb_6_sheet_1, wb_6_sheet_2, wb_6_sheet_3, wb_6_sheet_4, wb_6_sheet_5, wb_6_sheet_6, wb_6_sheet_8, zz_b, zz_bn, Classical.not_not, true_and, Nat.reduceAdd, Nat.reduceLeDiff, e72]
              refine ⟨fun _ => ?_, fun c => absurd (by omega) c⟩
              refine OPQ_i (by omega) (by omega) (Inv_s h (sA_up (sA_up (sA_up (sA_up sA_rf (mem_ST hs) _) (by decide) _) (by decide) _) (by decide) _) (sI_up (sI_up sI_rf (mem_SU hs) _) (mem_SV hs) _) (fun t ht => ?_))
              obtain ⟨tb, tz, tbz, teb, tez, tf⟩ := shA h t ht
              unfold shS sh1
              rw [up_n (show ¬ 35 + t = 73 by omega), up_n (show ¬ 35 + t = 72 by omega), up_n (show ¬ 35 + t = 71 by omega), up_n (show ¬ 71 = 73 by decide), up_n (show ¬ 71 = 72 by decide), up_s, up_n (show ¬ 72 = 73 by decide), up_s, up_s, up_n (show ¬ 16 + t = 20 + s by omega)]
              by_cases e : t = s
              · subst e
                rw [up_s, up_s, up_s, hu, hv]
                refine ⟨c2, hb, fun c => by rw [if_pos c], rfl, rfl, fun j j1 j2 => ?_⟩
                rw [hf j j1 j2]
                exact ⟨by omega, hg j j1 j2⟩
              · obtain ⟨hu2, hv2⟩ := huv t (by omega)
                rw [up_n (show ¬ 16 + t = 16 + s by omega), up_n (show ¬ 20 + t = 20 + s by omega), up_n (show ¬ 20 + t = 16 + s by omega), up_n (show ¬ 35 + t = 35 + s by omega), hu2, hv2]
                refine ⟨tb, tz, tbz, teb, tez, fun j j1 j2 => ?_⟩
                obtain ⟨tf1, tf2⟩ := tf j j1 j2
                simp only
                rw [hg2 _ (by omega)]
                exact ⟨tf1, tf2⟩
            · intro d hdm ih g l2 l3 u v hu hv huv hg hg2
              have e73 : dk_up (dk_up (dk_up (dk_up a (35 + s) f) 71 u) 72 v) 73 g 73 = g := up_s
              rw [wb_6_sheet_7]
              simp (disch := first | assumption | omega | exact zc_lo | exact zc_hi | exact zz_l | exact zz_u | exact zz_r) only [xa_71, xa_72, xa_73, xc_1 gc_6_sheet_0, xc_2 gc_6_sheet_1, xl_aload0, xl_iinc4a, xl_iinc4i, xl_iinc4n, xl_iload1, xl_iload2, xl_iload3, xl_iload4, xl_istore4a, xl_istore4i, xl_istore4n, xm_f, xm_n, xm_t, xn_1, xn_2, xn_3, xn_4, xn_5, xn_8, xo_53_29, xo_53_30, xo_53_31, xr_goto, xr_iadd, xr_ic_eq, xr_ic_ge, xr_ic_le, xr_iconst, xr_if_eq, xr_if_ge, xr_if_ne, xr_imul, xr_iret, xs_71, xs_72, xs_73, xtl_n, xtl_s, xz_i, xz_l, xz_n, xz_r, wb_6_sheet_0, wb_6_sheet_1, wb_6_sheet_2, wb_6_sheet_3, wb_6_sheet_4, wb_6_sheet_5, wb_6_sheet_6, wb_6_sheet_8, zz_b, zz_bn, Classical.not_not, true_and, Nat.reduceAdd, Nat.reduceLeDiff, e73, up_up]
              refine ⟨fun c => absurd c (by omega), fun _ => ?_⟩
              rw [cs d]
              refine ih _ _ _ u v hu hv huv (fun j j1 j2 => ?_) (fun j hj => ?_)
              · by_cases e : j = d
                · subst e; rw [ui_s]
                · rw [ui_n (by omega)]; exact hg j j1 (by omega)
              · rw [ui_n (by omega)]; exact hg2 j hj
          have u71 : dk_up a (35 + s) f 71 = a 71 := up_n (by omega)
          have u72 : ∀ g, dk_up (dk_up a (35 + s) f) 71 g 72 = a 72 := fun g => by rw [up_n (by decide), up_n (by omega)]
          have u73 : ∀ g k, dk_up (dk_up (dk_up a (35 + s) f) 71 g) 72 k 73 = a 73 := fun g k => by rw [up_n (by decide), up_n (by decide), up_n (by omega)]
          have fin : ∀ zz, zz = (if y = 0 then 0 else z) → ∀ l2 l3, dk_WP g_6_sheet b_6_sheet (OPQ n xs N (some (.inl (if y = 0 then 0 else z)))) 7 [some (.inr (.inr 53)), some (.inl s), l2, l3, some (.inl 0)] [] (HH n xs w (dk_up (dk_up (dk_up a (35 + s) f) 71 (dk_ui (a 71) s y)) 72 (dk_ui (a 72) s zz)) (dk_up (dk_up i (16 + s) y) (20 + s) (if y = 0 then 0 else z))) := by
            intro zz hzz l2 l3
            have q := key 0 (Nat.zero_le _) (a 73) l2 l3 (dk_ui (a 71) s y) (dk_ui (a 72) s zz) ui_s (by rw [ui_s]; exact hzz) (fun j hj => ⟨ui_n hj, ui_n hj⟩) (fun j j1 j2 => by omega) (fun _ _ => rfl)
            have e1 : dk_up (dk_up (dk_up (dk_up a (35 + s) f) 71 (dk_ui (a 71) s y)) 72 (dk_ui (a 72) s zz)) 73 (a 73) = dk_up (dk_up (dk_up a (35 + s) f) 71 (dk_ui (a 71) s y)) 72 (dk_ui (a 72) s zz) := by
              have := u73 (dk_ui (a 71) s y) (dk_ui (a 72) s zz)
              rw [← this, up_id]
            rw [e1] at q
            exact q
          simp (disch := first | assumption | omega | exact zc_lo | exact zc_hi | exact zz_l | exact zz_u | exact zz_r) only [xa_71, xa_72, xa_73, xc_1 gc_6_sheet_0, xc_2 gc_6_sheet_1, xl_aload0, xl_iinc4a, xl_iinc4i, xl_iinc4n, xl_iload1, xl_iload2, xl_iload3, xl_iload4, xl_istore4a, xl_istore4i, xl_istore4n, xm_f, xm_n, xm_t, xn_1, xn_2, xn_3, xn_4, xn_5, xn_8, xo_53_29, xo_53_30, xo_53_31, xr_goto, xr_iadd, xr_ic_eq, xr_ic_ge, xr_ic_le, xr_iconst, xr_if_eq, xr_if_ge, xr_if_ne, xr_imul, xr_iret, xs_71, xs_72, xs_73, xtl_n, xtl_s, xz_i, xz_l, xz_n, xz_r, wb_6_sheet_0, wb_6_sheet_1, wb_6_sheet_2, wb_6_sheet_3, wb_6_sheet_4, wb_6_sheet_5, wb_6_sheet_6, wb_6_sheet_8, zz_b, zz_bn, Classical.not_not, true_and, Nat.reduceAdd, Nat.reduceLeDiff, c4, c5, u71, u72, true_implies, false_implies, implies_true, not_true_eq_false, not_false_eq_true, and_true, false_and, and_false, if_true, if_false, Int.reduceEq, Int.reduceSub, Int.reduceAdd, Int.reduceMul, Int.reduceNeg, Int.reduceLT, Int.reduceLE, Int.add_zero]
          refine ⟨fun c => fin z (by rw [if_neg c]) _ _, fun c => fin 0 (by rw [if_pos c]) _ _⟩
        · simp (disch := first | assumption | omega | exact zc_lo | exact zc_hi | exact zz_l | exact zz_u | exact zz_r) only [xa_30, xc_1 gc_5_sheet_0, xc_2 gc_5_sheet_1, xc_3 gc_5_sheet_2, xl_aload0, xl_iload1, xl_iload2, xl_iload3, xm_f, xm_n, xm_t, xn_1, xn_2, xn_3, xn_4, xo_0_4, xo_31_1, xo_32_1, xo_33_1, xo_34_1, xr_goto, xr_ic_eq, xr_ic_le, xr_iconst, xr_if_eq, xr_if_ge, xr_iret, xtl_n, xtl_s, xz_i, xz_l, xz_n, xz_r, wb_5_sheet_0, wb_5_sheet_1, wb_5_sheet_2, wb_5_sheet_3, wb_5_sheet_4, zz_b, zz_bn, Classical.not_not, true_and, Nat.reduceAdd, Nat.reduceLeDiff, c4, c5, sp_5_finding, true_implies, false_implies, implies_true, not_true_eq_false, not_false_eq_true, and_true, false_and, and_false, if_true, if_false, Int.reduceEq, Int.reduceSub, Int.reduceAdd, Int.reduceMul, Int.reduceNeg, Int.reduceLT, Int.reduceLE, Int.add_zero]
          refine mdl ⟨fun c => absurd c c3, fun _ => ?_⟩
          simp (disch := first | assumption | omega | exact zc_lo | exact zc_hi | exact zz_l | exact zz_u | exact zz_r) only [xa_71, xa_72, xa_73, xc_1 gc_6_sheet_0, xc_2 gc_6_sheet_1, xl_aload0, xl_iinc4a, xl_iinc4i, xl_iinc4n, xl_iload1, xl_iload2, xl_iload3, xl_iload4, xl_istore4a, xl_istore4i, xl_istore4n, xm_f, xm_n, xm_t, xn_1, xn_2, xn_3, xn_4, xn_5, xn_8, xo_53_29, xo_53_30, xo_53_31, xr_goto, xr_iadd, xr_ic_eq, xr_ic_ge, xr_ic_le, xr_iconst, xr_if_eq, xr_if_ge, xr_if_ne, xr_imul, xr_iret, xs_71, xs_72, xs_73, xtl_n, xtl_s, xz_i, xz_l, xz_n, xz_r, wb_6_sheet_0, wb_6_sheet_1, wb_6_sheet_2, wb_6_sheet_3, wb_6_sheet_4, wb_6_sheet_5, wb_6_sheet_6, wb_6_sheet_8, zz_b, zz_bn, Classical.not_not, true_and, Nat.reduceAdd, Nat.reduceLeDiff, c4, c5, sp_6_finds, true_implies, false_implies, implies_true, not_true_eq_false, not_false_eq_true, and_true, false_and, and_false, if_true, if_false, Int.reduceEq, Int.reduceSub, Int.reduceAdd, Int.reduceMul, Int.reduceNeg, Int.reduceLT, Int.reduceLE, Int.add_zero]
          exact fnd h 0 (by omega) (by omega)
    · have n0 : ¬ y = 0 := by omega
      have n8 : ¬ y = 8 := by omega
      have n16 : ¬ y = 16 := by omega
      have n32 : ¬ y = 32 := by omega
      simp (disch := first | assumption | omega | exact zc_lo | exact zc_hi | exact zz_l | exact zz_u | exact zz_r) only [xa_30, xc_1 gc_5_sheet_0, xc_2 gc_5_sheet_1, xc_3 gc_5_sheet_2, xl_aload0, xl_iload1, xl_iload2, xl_iload3, xm_f, xm_n, xm_t, xn_1, xn_2, xn_3, xn_4, xo_0_4, xo_31_1, xo_32_1, xo_33_1, xo_34_1, xr_goto, xr_ic_eq, xr_ic_le, xr_iconst, xr_if_eq, xr_if_ge, xr_iret, xtl_n, xtl_s, xz_i, xz_l, xz_n, xz_r, wb_5_sheet_0, wb_5_sheet_1, wb_5_sheet_2, wb_5_sheet_3, wb_5_sheet_4, ss_5_sheet, xa_71, xa_72, xa_73, xc_1 gc_6_sheet_0, xc_2 gc_6_sheet_1, xl_aload0, xl_iinc4a, xl_iinc4i, xl_iinc4n, xl_iload1, xl_iload2, xl_iload3, xl_iload4, xl_istore4a, xl_istore4i, xl_istore4n, xm_f, xm_n, xm_t, xn_1, xn_2, xn_3, xn_4, xn_5, xn_8, xo_53_29, xo_53_30, xo_53_31, xr_goto, xr_iadd, xr_ic_eq, xr_ic_ge, xr_ic_le, xr_iconst, xr_if_eq, xr_if_ge, xr_if_ne, xr_imul, xr_iret, xs_71, xs_72, xs_73, xtl_n, xtl_s, xz_i, xz_l, xz_n, xz_r, wb_6_sheet_0, wb_6_sheet_1, wb_6_sheet_2, wb_6_sheet_3, wb_6_sheet_4, wb_6_sheet_5, wb_6_sheet_6, wb_6_sheet_8, ss_6_sheet, zz_b, zz_bn, Classical.not_not, true_and, Nat.reduceAdd, Nat.reduceLeDiff, sp_5_isSheet, sp_6_isSheet, c1, n0, n8, n16, n32, sp_5_finding, sp_6_finds, true_implies, false_implies, implies_true, not_true_eq_false, not_false_eq_true, and_true, false_and, and_false, if_true, if_false, Int.reduceEq, Int.reduceSub, Int.reduceAdd, Int.reduceMul, Int.reduceNeg, Int.reduceLT, Int.reduceLE, Int.add_zero]
      exact fnd h 0 (by omega) (by omega)
  · simp (disch := first | assumption | omega | exact zc_lo | exact zc_hi | exact zz_l | exact zz_u | exact zz_r) only [xa_30, xc_1 gc_5_sheet_0, xc_2 gc_5_sheet_1, xc_3 gc_5_sheet_2, xl_aload0, xl_iload1, xl_iload2, xl_iload3, xm_f, xm_n, xm_t, xn_1, xn_2, xn_3, xn_4, xo_0_4, xo_31_1, xo_32_1, xo_33_1, xo_34_1, xr_goto, xr_ic_eq, xr_ic_le, xr_iconst, xr_if_eq, xr_if_ge, xr_iret, xtl_n, xtl_s, xz_i, xz_l, xz_n, xz_r, wb_5_sheet_0, wb_5_sheet_1, wb_5_sheet_2, wb_5_sheet_3, wb_5_sheet_4, ss_5_sheet, xa_71, xa_72, xa_73, xc_1 gc_6_sheet_0, xc_2 gc_6_sheet_1, xl_aload0, xl_iinc4a, xl_iinc4i, xl_iinc4n, xl_iload1, xl_iload2, xl_iload3, xl_iload4, xl_istore4a, xl_istore4i, xl_istore4n, xm_f, xm_n, xm_t, xn_1, xn_2, xn_3, xn_4, xn_5, xn_8, xo_53_29, xo_53_30, xo_53_31, xr_goto, xr_iadd, xr_ic_eq, xr_ic_ge, xr_ic_le, xr_iconst, xr_if_eq, xr_if_ge, xr_if_ne, xr_imul, xr_iret, xs_71, xs_72, xs_73, xtl_n, xtl_s, xz_i, xz_l, xz_n, xz_r, wb_6_sheet_0, wb_6_sheet_1, wb_6_sheet_2, wb_6_sheet_3, wb_6_sheet_4, wb_6_sheet_5, wb_6_sheet_6, wb_6_sheet_8, ss_6_sheet, zz_b, zz_bn, Classical.not_not, true_and, Nat.reduceAdd, Nat.reduceLeDiff, sp_5_isSheet, sp_6_isSheet, c1, sp_5_finding, sp_6_finds, true_implies, false_implies, implies_true, not_true_eq_false, not_false_eq_true, and_true, false_and, and_false, if_true, if_false, Int.reduceEq, Int.reduceSub, Int.reduceAdd, Int.reduceMul, Int.reduceNeg, Int.reduceLT, Int.reduceLE, Int.add_zero]
    exact fnd h 0 (by omega) (by omega)
theorem op_load (h : Inv N w a i) {x : Int} (x1 : -2147483648 ≤ x) (x2 : x ≤ 2147483647) : s_5_load [.inr (.inr 0), .inl x] (HH n xs w a i) (fun r h => s_6_load [.inr (.inr 53), .inl x] h (OPQ n xs N r)) := by
  have hc := h.2.1
  have hag := h.2.2.1
  have hmc := colN_A hag hc
  obtain ⟨⟨p1, p2⟩, ⟨s1, s2⟩, ⟨v1, v2⟩, ⟨n1, n2⟩, ⟨o1, o2⟩, ⟨d1, d2⟩, ⟨e1, e2⟩, ⟨k1, k2⟩, hr, ⟨m1, m2⟩, hd, ⟨b1, b2⟩, hb, hs, hz⟩ := id hc
  obtain ⟨hkE, hA2, hA3, hA4, hA5, hA6⟩ := id hag
  have K0 : i 30 = i 0 := hkE 0 (by omega)
  have K1 : i 31 = i 1 := hkE 1 (by omega)
  have K2 : i 32 = i 2 := hkE 2 (by omega)
  have K3 : i 33 = i 3 := hkE 3 (by omega)
  have R0 : a 54 0 = a 2 0 := hA2 0 (by omega) (by omega)
  have R1 : a 54 1 = a 2 1 := hA2 1 (by omega) (by omega)
  have R2 : a 54 2 = a 2 2 := hA2 2 (by omega) (by omega)
  have R3 : a 54 3 = a 2 3 := hA2 3 (by omega) (by omega)
  have R4 : a 54 4 = a 2 4 := hA2 4 (by omega) (by omega)
  have R5 : a 54 5 = a 2 5 := hA2 5 (by omega) (by omega)
  have R6 : a 54 6 = a 2 6 := hA2 6 (by omega) (by omega)
  by_cases c1 : 0 ≤ x ∧ x ≤ 3
  · obtain ⟨s, rfl⟩ := nat_of c1.1
    have hs4 : s < 4 := by omega
    obtain ⟨tb, ⟨tz1, tz2⟩, tbz, eb, ez, hf⟩ := shA h s hs4
    have tb2 : -2147483648 ≤ i (16 + s) ∧ i (16 + s) ≤ 2147483647 := by omega
    obtain ⟨tb3, tb4⟩ := tb2
    by_cases c2 : i (16 + s) = 0
    · simp (disch := first | assumption | omega | exact zc_lo | exact zc_hi | exact zz_l | exact zz_u | exact zz_r) only [xa_30, xa_35, xa_36, xa_37, xa_38, xa_8, xc_1 gc_5_load_0, xc_1 gc_5_load_2, xc_2 gc_5_load_1, xc_2 gc_5_load_3, xc_2 gc_5_load_4, xl_aload0, xl_iinc3a, xl_iinc3i, xl_iinc3n, xl_iload1, xl_iload2, xl_iload3, xl_istore2a, xl_istore2i, xl_istore2n, xl_istore3a, xl_istore3i, xl_istore3n, xm_f, xm_n, xm_t, xn_1, xn_2, xn_4, xo_0_0, xo_0_4, xo_1_1, xo_1_7, xo_31_1, xo_31_2, xo_32_1, xo_32_2, xo_33_1, xo_33_2, xo_34_1, xo_34_2, xr_goto, xr_ic_ge, xr_iconst, xr_if_eq, xr_if_ne, xr_iret, xs_35, xs_36, xs_37, xs_38, xs_8, xtl_n, xtl_s, xz_i, xz_l, xz_n, xz_r, wb_5_load_0, wb_5_load_1, wb_5_load_2, wb_5_load_4, ss_5_load, xa_58, xa_71, xa_72, xa_73, xc_1 gc_6_load_0, xc_2 gc_6_load_1, xc_2 gc_6_load_2, xl_aload0, xl_iinc3a, xl_iinc3i, xl_iinc3n, xl_iload1, xl_iload2, xl_iload3, xl_istore2a, xl_istore2i, xl_istore2n, xl_istore3a, xl_istore3i, xl_istore3n, xm_f, xm_n, xm_t, xn_1, xn_2, xn_3, xn_6, xo_53_29, xo_53_3, xo_53_30, xo_53_31, xo_53_5, xr_goto, xr_i2l, xr_iadd, xr_ic_ge, xr_iconst, xr_if_ne, xr_imul, xr_iret, xs_58, xs_71, xs_72, xs_73, xtl_n, xtl_s, xz_i, xz_l, xz_n, xz_r, wb_6_load_0, wb_6_load_1, wb_6_load_2, wb_6_load_3, wb_6_load_4, wb_6_load_6, ss_6_load, zz_b, zz_bn, Classical.not_not, true_and, Nat.reduceAdd, Nat.reduceLeDiff, sp_5_isSheet, sp_6_isSheet, c1, e31, sp_mis hs4 tb3 tb4, c2, sp_5_finding, sp_6_finds, up_n (show ¬ 71 = 52 by decide), eb, eq_self, true_implies, false_implies, implies_true, not_true_eq_false, not_false_eq_true, and_true, false_and, and_false, if_true, if_false, Int.reduceEq, Int.reduceSub, Int.reduceAdd, Int.reduceMul, Int.reduceNeg, Int.reduceLT, Int.reduceLE, Int.add_zero]
      exact fnd h 5 (by omega) (by omega)
    · obtain ⟨m, hm⟩ := nat_of (show 0 ≤ mn (i (20 + s)) (i 0) by unfold mn; split <;> omega)
      have hmb : (m : Int) ≤ i (20 + s) ∧ (m : Int) ≤ i 0 := by unfold mn at hm; split at hm <;> omega
      have ob : ∀ d : Int, 0 ≤ d → d < i 0 → -(a 2 0) < 2 * a 8 d ∧ 2 * a 8 d ≤ a 2 0 := fun d j1 j2 => (hr d j1 j2).2.2.2.2.2
      have s0 : (0 : Int) ≤ s := by omega
      -- the reference
      have mdl : ∀ f, (∀ r : Int, 0 ≤ r → r < m → f r = wr (a (35 + s) r) (a 2 0)) → (∀ r : Int, m ≤ r → f r = a 8 r) → s_6_load [.inr (.inr 53), .inl s] (HH n xs w (dk_up a 8 f) i) (OPQ n xs N (some (.inl m))) := by
        intro f hf1 hf2
        have u71 : dk_up a 8 f 71 = a 71 := up_n (by decide)
        have u72 : dk_up a 8 f 72 = a 72 := up_n (by decide)
        have key : ∀ d, d ≤ m → ∀ g, (∀ r : Int, 0 ≤ r → r < d → g r = wr (a (35 + s) r) (a 2 0)) → (∀ r : Int, d ≤ r → g r = a 58 r) → dk_WP g_6_load b_6_load (OPQ n xs N (some (.inl m))) 5 [some (.inr (.inr 53)), some (.inl s), some (.inl m), some (.inl d)] [] (HH n xs w (dk_up (dk_up a 8 f) 58 g) i) := by
          refine lp_up ?_ ?_
          · intro g hg hg2
            rw [wb_6_load_5]
            simp (disch := first | assumption | omega | exact zc_lo | exact zc_hi | exact zz_l | exact zz_u | exact zz_r) only [xa_58, xa_71, xa_72, xa_73, xc_1 gc_6_load_0, xc_2 gc_6_load_1, xc_2 gc_6_load_2, xl_aload0, xl_iinc3a, xl_iinc3i, xl_iinc3n, xl_iload1, xl_iload2, xl_iload3, xl_istore2a, xl_istore2i, xl_istore2n, xl_istore3a, xl_istore3i, xl_istore3n, xm_f, xm_n, xm_t, xn_1, xn_2, xn_3, xn_6, xo_53_29, xo_53_3, xo_53_30, xo_53_31, xo_53_5, xr_goto, xr_i2l, xr_iadd, xr_ic_ge, xr_iconst, xr_if_ne, xr_imul, xr_iret, xs_58, xs_71, xs_72, xs_73, xtl_n, xtl_s, xz_i, xz_l, xz_n, xz_r, wb_6_load_0, wb_6_load_1, wb_6_load_2, wb_6_load_3, wb_6_load_4, wb_6_load_6, zz_b, zz_bn, Classical.not_not, true_and, Nat.reduceAdd, Nat.reduceLeDiff]
            refine ⟨fun _ => ?_, fun c => absurd (by omega) c⟩
            refine OPQ_i (by omega) (by omega) (Inv_out h (fun r j1 j2 => ?_) (fun r j1 j2 => ?_))
            · by_cases c : r < m
              · rw [hf1 r j1 c]; exact wr_bd _ (by omega)
              · rw [hf2 r (by omega)]; exact ob r j1 j2
            · by_cases c : r < m
              · rw [hf1 r j1 c, hg r j1 c]
              · rw [hf2 r (by omega), hg2 r (by omega)]; exact (hA3 r j1 j2).2.2.2.2.2
          · intro d hdm ih g hg hg2
            obtain ⟨nb, ne⟩ := hf d (by omega) (by omega)
            have u73 : dk_up (dk_up a 8 f) 58 g 73 (40 * (s : Int) + d) = a (35 + s) d := by rw [up_n (by decide), up_n (by decide)]; exact ne
            have u54 : dk_up (dk_up a 8 f) 58 g 54 = a 54 := by rw [up_n (by decide), up_n (by decide)]
            have P1 : 100 ≤ dk_up (dk_up a 8 f) 58 g 54 0 := by rw [u54, R0]; exact p1
            have P2 : dk_up (dk_up a 8 f) 58 g 54 0 ≤ 2000 := by rw [u54, R0]; exact p2
            rw [wb_6_load_5]
            simp (disch := first | assumption | omega | exact zc_lo | exact zc_hi | exact zz_l | exact zz_u | exact zz_r) only [xa_58, xa_71, xa_72, xa_73, xc_1 gc_6_load_0, xc_2 gc_6_load_1, xc_2 gc_6_load_2, xl_aload0, xl_iinc3a, xl_iinc3i, xl_iinc3n, xl_iload1, xl_iload2, xl_iload3, xl_istore2a, xl_istore2i, xl_istore2n, xl_istore3a, xl_istore3i, xl_istore3n, xm_f, xm_n, xm_t, xn_1, xn_2, xn_3, xn_6, xo_53_29, xo_53_3, xo_53_30, xo_53_31, xo_53_5, xr_goto, xr_i2l, xr_iadd, xr_ic_ge, xr_iconst, xr_if_ne, xr_imul, xr_iret, xs_58, xs_71, xs_72, xs_73, xtl_n, xtl_s, xz_i, xz_l, xz_n, xz_r, wb_6_load_0, wb_6_load_1, wb_6_load_2, wb_6_load_3, wb_6_load_4, wb_6_load_6, zz_b, zz_bn, Classical.not_not, true_and, Nat.reduceAdd, Nat.reduceLeDiff, u73, u54, R0, sp_6_wrapped, up_up, up_s]
            refine ⟨fun c => absurd c (by omega), fun _ => ?_⟩
            rw [cs d]
            refine ih _ (fun r j1 j2 => ?_) (fun r j1 => ?_)
            · by_cases e : r = d
              · subst e; rw [ui_s]
              · rw [ui_n e]; exact hg r j1 (by omega)
            · rw [ui_n (by omega)]; exact hg2 r (by omega)
        have e58 : dk_up (dk_up a 8 f) 58 (a 58) = dk_up a 8 f := by
          have : a 58 = dk_up a 8 f 58 := (up_n (by decide)).symm
          rw [this, up_id]
        have q := key 0 (Nat.zero_le _) (a 58) (fun r j1 j2 => by omega) (fun _ _ => rfl)
        rw [e58] at q
        simp (disch := first | assumption | omega | exact zc_lo | exact zc_hi | exact zz_l | exact zz_u | exact zz_r) only [xa_58, xa_71, xa_72, xa_73, xc_1 gc_6_load_0, xc_2 gc_6_load_1, xc_2 gc_6_load_2, xl_aload0, xl_iinc3a, xl_iinc3i, xl_iinc3n, xl_iload1, xl_iload2, xl_iload3, xl_istore2a, xl_istore2i, xl_istore2n, xl_istore3a, xl_istore3i, xl_istore3n, xm_f, xm_n, xm_t, xn_1, xn_2, xn_3, xn_6, xo_53_29, xo_53_3, xo_53_30, xo_53_31, xo_53_5, xr_goto, xr_i2l, xr_iadd, xr_ic_ge, xr_iconst, xr_if_ne, xr_imul, xr_iret, xs_58, xs_71, xs_72, xs_73, xtl_n, xtl_s, xz_i, xz_l, xz_n, xz_r, wb_6_load_0, wb_6_load_1, wb_6_load_2, wb_6_load_3, wb_6_load_4, wb_6_load_6, ss_6_load, zz_b, zz_bn, Classical.not_not, true_and, Nat.reduceAdd, Nat.reduceLeDiff, sp_6_isSheet, c1, u71, u72, eb, ez, c2, true_implies, false_implies, implies_true, not_true_eq_false, not_false_eq_true, and_true, false_and, and_false, if_true, if_false, Int.reduceEq, Int.reduceSub, Int.reduceAdd, Int.reduceMul, Int.reduceNeg, Int.reduceLT, Int.reduceLE, Int.add_zero]
        refine ⟨fun c => ?_, fun c => ?_⟩
        · have e : (m : Int) = i 30 := by rw [← hm]; unfold mn; split <;> omega
          rw [← e]
          exact q
        · have e : (m : Int) = i (20 + s) := by rw [← hm]; unfold mn; split <;> omega
          rw [← e]
          exact q
      have key : ∀ d, d ≤ m → ∀ f, (∀ r : Int, 0 ≤ r → r < d → f r = wr (a (35 + s) r) (a 2 0)) → (∀ r : Int, d ≤ r → f r = a 8 r) → dk_WP g_5_load b_5_load (fun r h => s_6_load [.inr (.inr 53), .inl s] h (OPQ n xs N r)) 3 [some (.inr (.inr 0)), some (.inl s), some (.inl m), some (.inl d)] [] (HH n xs w (dk_up a 8 f) i) := by
        refine lp_up ?_ ?_
        · intro f hf1 hf2
          rw [wb_5_load_3]
          simp (disch := first | assumption | omega | exact zc_lo | exact zc_hi | exact zz_l | exact zz_u | exact zz_r) only [xa_30, xa_35, xa_36, xa_37, xa_38, xa_8, xc_1 gc_5_load_0, xc_1 gc_5_load_2, xc_2 gc_5_load_1, xc_2 gc_5_load_3, xc_2 gc_5_load_4, xl_aload0, xl_iinc3a, xl_iinc3i, xl_iinc3n, xl_iload1, xl_iload2, xl_iload3, xl_istore2a, xl_istore2i, xl_istore2n, xl_istore3a, xl_istore3i, xl_istore3n, xm_f, xm_n, xm_t, xn_1, xn_2, xn_4, xo_0_0, xo_0_4, xo_1_1, xo_1_7, xo_31_1, xo_31_2, xo_32_1, xo_32_2, xo_33_1, xo_33_2, xo_34_1, xo_34_2, xr_goto, xr_ic_ge, xr_iconst, xr_if_eq, xr_if_ne, xr_iret, xs_35, xs_36, xs_37, xs_38, xs_8, xtl_n, xtl_s, xz_i, xz_l, xz_n, xz_r, wb_5_load_0, wb_5_load_1, wb_5_load_2, wb_5_load_4, zz_b, zz_bn, Classical.not_not, true_and, Nat.reduceAdd, Nat.reduceLeDiff]
          exact ⟨fun _ => mdl f hf1 hf2, fun c => absurd (by omega) c⟩
        · intro d hdm ih f hf1 hf2
          obtain ⟨nb, ne⟩ := hf d (by omega) (by omega)
          have d0 : (0 : Int) ≤ d := by omega
          have d40 : (d : Int) < ((40 : Nat) : Int) := by omega
          have u2 : dk_up a 8 f 2 = a 2 := up_n (by decide)
          have u35 : dk_up a 8 f (35 + s) = a (35 + s) := up_n (by omega)
          have P1 : 100 ≤ dk_up a 8 f 2 0 := by rw [u2]; exact p1
          have P2 : dk_up a 8 f 2 0 ≤ 2000 := by rw [u2]; exact p2
          rw [wb_5_load_3]
          simp (disch := first | assumption | omega | exact zc_lo | exact zc_hi | exact zz_l | exact zz_u | exact zz_r) only [xa_30, xa_35, xa_36, xa_37, xa_38, xa_8, xc_1 gc_5_load_0, xc_1 gc_5_load_2, xc_2 gc_5_load_1, xc_2 gc_5_load_3, xc_2 gc_5_load_4, xl_aload0, xl_iinc3a, xl_iinc3i, xl_iinc3n, xl_iload1, xl_iload2, xl_iload3, xl_istore2a, xl_istore2i, xl_istore2n, xl_istore3a, xl_istore3i, xl_istore3n, xm_f, xm_n, xm_t, xn_1, xn_2, xn_4, xo_0_0, xo_0_4, xo_1_1, xo_1_7, xo_31_1, xo_31_2, xo_32_1, xo_32_2, xo_33_1, xo_33_2, xo_34_1, xo_34_2, xr_goto, xr_ic_ge, xr_iconst, xr_if_eq, xr_if_ne, xr_iret, xs_35, xs_36, xs_37, xs_38, xs_8, xtl_n, xtl_s, xz_i, xz_l, xz_n, xz_r, wb_5_load_0, wb_5_load_1, wb_5_load_2, wb_5_load_4, zz_b, zz_bn, Classical.not_not, true_and, Nat.reduceAdd, Nat.reduceLeDiff, e31, xg_2 hs4, xa_w (hl40 hs4) d0 d40 (by omega), u2, u35, sp_0_wrap, up_up, up_s]
          refine ⟨fun c => absurd c (by omega), fun _ => ?_⟩
          rw [cs d]
          refine ih _ (fun r j1 j2 => ?_) (fun r j1 => ?_)
          · by_cases e : r = d
            · subst e; rw [ui_s]
            · rw [ui_n e]; exact hf1 r j1 (by omega)
          · rw [ui_n (by omega)]; exact hf2 r (by omega)
      have q := key 0 (Nat.zero_le _) (a 8) (fun r j1 j2 => by omega) (fun _ _ => rfl)
      rw [up_id, ← hm] at q
      simp (disch := first | assumption | omega | exact zc_lo | exact zc_hi | exact zz_l | exact zz_u | exact zz_r) only [xa_30, xa_35, xa_36, xa_37, xa_38, xa_8, xc_1 gc_5_load_0, xc_1 gc_5_load_2, xc_2 gc_5_load_1, xc_2 gc_5_load_3, xc_2 gc_5_load_4, xl_aload0, xl_iinc3a, xl_iinc3i, xl_iinc3n, xl_iload1, xl_iload2, xl_iload3, xl_istore2a, xl_istore2i, xl_istore2n, xl_istore3a, xl_istore3i, xl_istore3n, xm_f, xm_n, xm_t, xn_1, xn_2, xn_4, xo_0_0, xo_0_4, xo_1_1, xo_1_7, xo_31_1, xo_31_2, xo_32_1, xo_32_2, xo_33_1, xo_33_2, xo_34_1, xo_34_2, xr_goto, xr_ic_ge, xr_iconst, xr_if_eq, xr_if_ne, xr_iret, xs_35, xs_36, xs_37, xs_38, xs_8, xtl_n, xtl_s, xz_i, xz_l, xz_n, xz_r, wb_5_load_0, wb_5_load_1, wb_5_load_2, wb_5_load_4, ss_5_load, zz_b, zz_bn, Classical.not_not, true_and, Nat.reduceAdd, Nat.reduceLeDiff, sp_5_isSheet, c1, e31, sp_mis hs4 tb3 tb4, c2, xg_1 hs4, sp_8_min, true_implies, false_implies, implies_true, not_true_eq_false, not_false_eq_true, and_true, false_and, and_false, if_true, if_false, Int.reduceEq, Int.reduceSub, Int.reduceAdd, Int.reduceMul, Int.reduceNeg, Int.reduceLT, Int.reduceLE, Int.add_zero]
      exact q
  · simp (disch := first | assumption | omega | exact zc_lo | exact zc_hi | exact zz_l | exact zz_u | exact zz_r) only [xa_30, xa_35, xa_36, xa_37, xa_38, xa_8, xc_1 gc_5_load_0, xc_1 gc_5_load_2, xc_2 gc_5_load_1, xc_2 gc_5_load_3, xc_2 gc_5_load_4, xl_aload0, xl_iinc3a, xl_iinc3i, xl_iinc3n, xl_iload1, xl_iload2, xl_iload3, xl_istore2a, xl_istore2i, xl_istore2n, xl_istore3a, xl_istore3i, xl_istore3n, xm_f, xm_n, xm_t, xn_1, xn_2, xn_4, xo_0_0, xo_0_4, xo_1_1, xo_1_7, xo_31_1, xo_31_2, xo_32_1, xo_32_2, xo_33_1, xo_33_2, xo_34_1, xo_34_2, xr_goto, xr_ic_ge, xr_iconst, xr_if_eq, xr_if_ne, xr_iret, xs_35, xs_36, xs_37, xs_38, xs_8, xtl_n, xtl_s, xz_i, xz_l, xz_n, xz_r, wb_5_load_0, wb_5_load_1, wb_5_load_2, wb_5_load_4, ss_5_load, xa_58, xa_71, xa_72, xa_73, xc_1 gc_6_load_0, xc_2 gc_6_load_1, xc_2 gc_6_load_2, xl_aload0, xl_iinc3a, xl_iinc3i, xl_iinc3n, xl_iload1, xl_iload2, xl_iload3, xl_istore2a, xl_istore2i, xl_istore2n, xl_istore3a, xl_istore3i, xl_istore3n, xm_f, xm_n, xm_t, xn_1, xn_2, xn_3, xn_6, xo_53_29, xo_53_3, xo_53_30, xo_53_31, xo_53_5, xr_goto, xr_i2l, xr_iadd, xr_ic_ge, xr_iconst, xr_if_ne, xr_imul, xr_iret, xs_58, xs_71, xs_72, xs_73, xtl_n, xtl_s, xz_i, xz_l, xz_n, xz_r, wb_6_load_0, wb_6_load_1, wb_6_load_2, wb_6_load_3, wb_6_load_4, wb_6_load_6, ss_6_load, zz_b, zz_bn, Classical.not_not, true_and, Nat.reduceAdd, Nat.reduceLeDiff, sp_5_isSheet, sp_6_isSheet, c1, sp_5_finding, sp_6_finds, true_implies, false_implies, implies_true, not_true_eq_false, not_false_eq_true, and_true, false_and, and_false, if_true, if_false, Int.reduceEq, Int.reduceSub, Int.reduceAdd, Int.reduceMul, Int.reduceNeg, Int.reduceLT, Int.reduceLE, Int.add_zero]
    exact fnd h 0 (by omega) (by omega)
/-- what a sheet says of a march -/
theorem md_judge (hc : colN a i) (hag : agr a i (mv a) (mi i)) (hF : Fr a i p q w2 a2 i2) {s Z : Nat} (hs : s < 4) {f : Int → Int} (hb : ¬ a2 71 s = 0) (hb2 : -2147483648 ≤ a2 71 s ∧ a2 71 s ≤ 2147483647) (hz : a2 72 s = Z) (hZ : Z ≤ 40) (hf : ∀ j : Int, 0 ≤ j → j < 40 → (-2147483648 ≤ f j ∧ f j ≤ 2147483647) ∧ a2 73 (40 * (s : Int) + j) = f j) (hn : ¬ i 0 = 0) : (∀ a3 (k : Nat), Fr a i p q w2 a3 i2 → k < Z → ¬ f k = wo a i (k + 1) → (∀ j : Nat, j < k → f j = wo a i (j + 1)) → Q (some (.inl k)) (HH n xs w2 a3 i2)) → (∀ a3, Fr a i p q w2 a3 i2 → (∀ j : Nat, j < Z → f j = wo a i (j + 1)) → Q (some (.inl (-1))) (HH n xs w2 a3 i2)) → s_6_judge [.inr (.inr 53), .inl s] (HH n xs w2 a2 i2) Q := by
  intro hQ hQ2
  have c1 : 0 ≤ (s : Int) ∧ (s : Int) ≤ 3 := by omega
  obtain ⟨hm1, hm2, hm3, hm4, hm5⟩ := Fr_m hc hag hF
  have hk := k24 hc
  have b30 : 0 ≤ i2 30 ∧ i2 30 ≤ 24 := by omega
  have n30 : ¬ i2 30 = 0 := by rw [hm3]; exact hn
  simp (disch := first | assumption | omega | exact zc_lo | exact zc_hi | exact zz_l | exact zz_u | exact zz_r) only [xa_71, xa_72, xa_73, xc_1 gc_6_judge_0, xc_1 gc_6_judge_2, xc_1 gc_6_judge_3, xc_1 gc_6_judge_4, xc_2 gc_6_judge_1, xl_aload0, xl_iinc2a, xl_iinc2i, xl_iinc2n, xl_iload1, xl_iload2, xl_istore2a, xl_istore2i, xl_istore2n, xm_f, xm_n, xm_t, xn_1, xn_2, xn_3, xn_5, xn_6, xo_53_29, xo_53_3, xo_53_30, xo_53_31, xr_goto, xr_iadd, xr_ic_eq, xr_ic_ge, xr_iconst, xr_if_ne, xr_imul, xr_iret, xtl_n, xtl_s, xz_i, xz_l, xz_n, xz_r, wb_6_judge_0, wb_6_judge_1, wb_6_judge_2, wb_6_judge_3, wb_6_judge_5, wb_6_judge_6, ss_6_judge, zz_b, zz_bn, Classical.not_not, true_and, Nat.reduceAdd, Nat.reduceLeDiff, sp_6_isSheet, c1, hb, n30, true_implies, false_implies, implies_true, not_true_eq_false, not_false_eq_true, and_true, false_and, and_false, if_true, if_false, Int.reduceEq, Int.reduceSub, Int.reduceAdd, Int.reduceMul, Int.reduceNeg, Int.reduceLT, Int.reduceLE, Int.add_zero]
  refine sp_mbeg hc hag hF (fun a3 hM3 hs3 => ?_)
  simp (disch := first | assumption | omega | exact zc_lo | exact zc_hi | exact zz_l | exact zz_u | exact zz_r) only [xa_71, xa_72, xa_73, xc_1 gc_6_judge_0, xc_1 gc_6_judge_2, xc_1 gc_6_judge_3, xc_1 gc_6_judge_4, xc_2 gc_6_judge_1, xl_aload0, xl_iinc2a, xl_iinc2i, xl_iinc2n, xl_iload1, xl_iload2, xl_istore2a, xl_istore2i, xl_istore2n, xm_f, xm_n, xm_t, xn_1, xn_2, xn_3, xn_5, xn_6, xo_53_29, xo_53_3, xo_53_30, xo_53_31, xr_goto, xr_iadd, xr_ic_eq, xr_ic_ge, xr_iconst, xr_if_ne, xr_imul, xr_iret, xtl_n, xtl_s, xz_i, xz_l, xz_n, xz_r, wb_6_judge_0, wb_6_judge_1, wb_6_judge_2, wb_6_judge_3, wb_6_judge_5, wb_6_judge_6, zz_b, zz_bn, Classical.not_not, true_and, Nat.reduceAdd, Nat.reduceLeDiff, true_implies, false_implies, implies_true, not_true_eq_false, not_false_eq_true, and_true, false_and, and_false, if_true, if_false, Int.reduceEq, Int.reduceSub, Int.reduceAdd, Int.reduceMul, Int.reduceNeg, Int.reduceLT, Int.reduceLE, Int.add_zero]
  have key : ∀ d, d ≤ Z → ∀ a4, Mk a i p q d w2 a4 i2 → sA [65, 66] a2 a4 → (∀ j : Nat, j < d → f j = wo a i (j + 1)) → dk_WP g_6_judge b_6_judge Q 4 [some (.inr (.inr 53)), some (.inl s), some (.inl d)] [] (HH n xs w2 a4 i2) := by
    refine lp_up ?_ ?_
    · intro a4 hM4 hs4 hyes
      have e72 : a4 72 s = Z := by rw [hs4 72 (by decide)]; exact hz
      rw [wb_6_judge_4]
      simp (disch := first | assumption | omega | exact zc_lo | exact zc_hi | exact zz_l | exact zz_u | exact zz_r) only [xa_71, xa_72, xa_73, xc_1 gc_6_judge_0, xc_1 gc_6_judge_2, xc_1 gc_6_judge_3, xc_1 gc_6_judge_4, xc_2 gc_6_judge_1, xl_aload0, xl_iinc2a, xl_iinc2i, xl_iinc2n, xl_iload1, xl_iload2, xl_istore2a, xl_istore2i, xl_istore2n, xm_f, xm_n, xm_t, xn_1, xn_2, xn_3, xn_5, xn_6, xo_53_29, xo_53_3, xo_53_30, xo_53_31, xr_goto, xr_iadd, xr_ic_eq, xr_ic_ge, xr_iconst, xr_if_ne, xr_imul, xr_iret, xtl_n, xtl_s, xz_i, xz_l, xz_n, xz_r, wb_6_judge_0, wb_6_judge_1, wb_6_judge_2, wb_6_judge_3, wb_6_judge_5, wb_6_judge_6, zz_b, zz_bn, Classical.not_not, true_and, Nat.reduceAdd, Nat.reduceLeDiff, e72]
      exact ⟨fun _ => hQ2 a4 hM4.1 hyes, fun c => absurd (by omega) c⟩
    · intro d hdm ih a4 hM4 hs4 hyes
      have e72 : a4 72 s = Z := by rw [hs4 72 (by decide)]; exact hz
      have wb := wo_b hc (d + 1)
      obtain ⟨nb, ne⟩ := hf d (by omega) (by omega)
      rw [wb_6_judge_4]
      simp (disch := first | assumption | omega | exact zc_lo | exact zc_hi | exact zz_l | exact zz_u | exact zz_r) only [xa_71, xa_72, xa_73, xc_1 gc_6_judge_0, xc_1 gc_6_judge_2, xc_1 gc_6_judge_3, xc_1 gc_6_judge_4, xc_2 gc_6_judge_1, xl_aload0, xl_iinc2a, xl_iinc2i, xl_iinc2n, xl_iload1, xl_iload2, xl_istore2a, xl_istore2i, xl_istore2n, xm_f, xm_n, xm_t, xn_1, xn_2, xn_3, xn_5, xn_6, xo_53_29, xo_53_3, xo_53_30, xo_53_31, xr_goto, xr_iadd, xr_ic_eq, xr_ic_ge, xr_iconst, xr_if_ne, xr_imul, xr_iret, xtl_n, xtl_s, xz_i, xz_l, xz_n, xz_r, wb_6_judge_0, wb_6_judge_1, wb_6_judge_2, wb_6_judge_3, wb_6_judge_5, wb_6_judge_6, zz_b, zz_bn, Classical.not_not, true_and, Nat.reduceAdd, Nat.reduceLeDiff, e72]
      refine ⟨fun c => absurd c (by omega), fun _ => ?_⟩
      refine sp_mgo hc hag hM4 (fun a5 hM5 hs5 => ?_)
      have e73 : a5 73 (40 * (s : Int) + d) = f d := by rw [hs5 73 (by decide), hs4 73 (by decide)]; exact ne
      simp (disch := first | assumption | omega | exact zc_lo | exact zc_hi | exact zz_l | exact zz_u | exact zz_r) only [xa_71, xa_72, xa_73, xc_1 gc_6_judge_0, xc_1 gc_6_judge_2, xc_1 gc_6_judge_3, xc_1 gc_6_judge_4, xc_2 gc_6_judge_1, xl_aload0, xl_iinc2a, xl_iinc2i, xl_iinc2n, xl_iload1, xl_iload2, xl_istore2a, xl_istore2i, xl_istore2n, xm_f, xm_n, xm_t, xn_1, xn_2, xn_3, xn_5, xn_6, xo_53_29, xo_53_3, xo_53_30, xo_53_31, xr_goto, xr_iadd, xr_ic_eq, xr_ic_ge, xr_iconst, xr_if_ne, xr_imul, xr_iret, xtl_n, xtl_s, xz_i, xz_l, xz_n, xz_r, wb_6_judge_0, wb_6_judge_1, wb_6_judge_2, wb_6_judge_3, wb_6_judge_5, wb_6_judge_6, zz_b, zz_bn, Classical.not_not, true_and, Nat.reduceAdd, Nat.reduceLeDiff, e73]
      refine sp_mwst hc hag hM5 ?_
      simp (disch := first | assumption | omega | exact zc_lo | exact zc_hi | exact zz_l | exact zz_u | exact zz_r) only [xa_71, xa_72, xa_73, xc_1 gc_6_judge_0, xc_1 gc_6_judge_2, xc_1 gc_6_judge_3, xc_1 gc_6_judge_4, xc_2 gc_6_judge_1, xl_aload0, xl_iinc2a, xl_iinc2i, xl_iinc2n, xl_iload1, xl_iload2, xl_istore2a, xl_istore2i, xl_istore2n, xm_f, xm_n, xm_t, xn_1, xn_2, xn_3, xn_5, xn_6, xo_53_29, xo_53_3, xo_53_30, xo_53_31, xr_goto, xr_iadd, xr_ic_eq, xr_ic_ge, xr_iconst, xr_if_ne, xr_imul, xr_iret, xtl_n, xtl_s, xz_i, xz_l, xz_n, xz_r, wb_6_judge_0, wb_6_judge_1, wb_6_judge_2, wb_6_judge_3, wb_6_judge_5, wb_6_judge_6, zz_b, zz_bn, Classical.not_not, true_and, Nat.reduceAdd, Nat.reduceLeDiff]
      refine ⟨fun c => ?_, fun c => hQ a5 d hM5.1 (by omega) c hyes⟩
      rw [cs d]
      refine ih a5 hM5 (sA_tr hs4 hs5) (fun j hj => ?_)
      by_cases e : j = d
      · subst e; exact c
      · exact hyes j (by omega)
  exact key 0 (Nat.zero_le _) a3 hM3 (sA_w hs3 (by decide)) (fun j hj => absurd hj (Nat.not_lt_zero j))
theorem op_judge (h : Inv N w a i) {x : Int} (x1 : -2147483648 ≤ x) (x2 : x ≤ 2147483647) : s_5_judge [.inr (.inr 0), .inl x] (HH n xs w a i) (fun r h => s_6_judge [.inr (.inr 53), .inl x] h (OPQ n xs N r)) := by
  have hc := h.2.1
  have hag := h.2.2.1
  have hk := k24 hc
  have K0 : i 30 = i 0 := hag.1 0 (by omega)
  have b30 : 0 ≤ i 30 ∧ i 30 ≤ 24 := by omega
  by_cases c1 : 0 ≤ x ∧ x ≤ 3
  · obtain ⟨s, rfl⟩ := nat_of c1.1
    have hs4 : s < 4 := by omega
    obtain ⟨tb, ⟨tz1, tz2⟩, tbz, eb, ez, hf⟩ := shA h s hs4
    have tb2 : -2147483648 ≤ i (16 + s) ∧ i (16 + s) ≤ 2147483647 := by omega
    obtain ⟨tb3, tb4⟩ := tb2
    have s0 : (0 : Int) ≤ s := by omega
    by_cases c2 : i (16 + s) = 0
    · simp (disch := first | assumption | omega | exact zc_lo | exact zc_hi | exact zz_l | exact zz_u | exact zz_r) only [xa_30, xa_35, xa_36, xa_37, xa_38, xc_1 gc_5_judge_0, xc_1 gc_5_judge_2, xc_1 gc_5_judge_3, xc_1 gc_5_judge_4, xc_2 gc_5_judge_1, xc_2 gc_5_judge_5, xl_aload0, xl_iinc2a, xl_iinc2i, xl_iinc2n, xl_iload1, xl_iload2, xl_istore2a, xl_istore2i, xl_istore2n, xm_f, xm_n, xm_t, xn_1, xn_2, xn_3, xn_5, xn_6, xo_0_0, xo_0_4, xo_0_6, xo_1_1, xo_31_1, xo_31_2, xo_32_1, xo_32_2, xo_33_1, xo_33_2, xo_34_1, xo_34_2, xo_44_2, xo_47_2, xr_goto, xr_ic_eq, xr_ic_ge, xr_iconst, xr_if_eq, xr_if_ne, xr_iret, xr_pop, xtl_n, xtl_s, xz_i, xz_l, xz_n, xz_r, wb_5_judge_0, wb_5_judge_1, wb_5_judge_2, wb_5_judge_3, wb_5_judge_5, wb_5_judge_6, ss_5_judge, xa_71, xa_72, xa_73, xc_1 gc_6_judge_0, xc_1 gc_6_judge_2, xc_1 gc_6_judge_3, xc_1 gc_6_judge_4, xc_2 gc_6_judge_1, xl_aload0, xl_iinc2a, xl_iinc2i, xl_iinc2n, xl_iload1, xl_iload2, xl_istore2a, xl_istore2i, xl_istore2n, xm_f, xm_n, xm_t, xn_1, xn_2, xn_3, xn_5, xn_6, xo_53_29, xo_53_3, xo_53_30, xo_53_31, xr_goto, xr_iadd, xr_ic_eq, xr_ic_ge, xr_iconst, xr_if_ne, xr_imul, xr_iret, xtl_n, xtl_s, xz_i, xz_l, xz_n, xz_r, wb_6_judge_0, wb_6_judge_1, wb_6_judge_2, wb_6_judge_3, wb_6_judge_5, wb_6_judge_6, ss_6_judge, zz_b, zz_bn, Classical.not_not, true_and, Nat.reduceAdd, Nat.reduceLeDiff, sp_5_isSheet, sp_6_isSheet, c1, e31, sp_mis hs4 tb3 tb4, c2, sp_5_finding, sp_6_finds, up_n (show ¬ 71 = 52 by decide), eb, eq_self, true_implies, false_implies, implies_true, not_true_eq_false, not_false_eq_true, and_true, false_and, and_false, if_true, if_false, Int.reduceEq, Int.reduceSub, Int.reduceAdd, Int.reduceMul, Int.reduceNeg, Int.reduceLT, Int.reduceLE, Int.add_zero]
      exact fnd h 5 (by omega) (by omega)
    · by_cases c3 : i 0 = 0
      · simp (disch := first | assumption | omega | exact zc_lo | exact zc_hi | exact zz_l | exact zz_u | exact zz_r) only [xa_30, xa_35, xa_36, xa_37, xa_38, xc_1 gc_5_judge_0, xc_1 gc_5_judge_2, xc_1 gc_5_judge_3, xc_1 gc_5_judge_4, xc_2 gc_5_judge_1, xc_2 gc_5_judge_5, xl_aload0, xl_iinc2a, xl_iinc2i, xl_iinc2n, xl_iload1, xl_iload2, xl_istore2a, xl_istore2i, xl_istore2n, xm_f, xm_n, xm_t, xn_1, xn_2, xn_3, xn_5, xn_6, xo_0_0, xo_0_4, xo_0_6, xo_1_1, xo_31_1, xo_31_2, xo_32_1, xo_32_2, xo_33_1, xo_33_2, xo_34_1, xo_34_2, xo_44_2, xo_47_2, xr_goto, xr_ic_eq, xr_ic_ge, xr_iconst, xr_if_eq, xr_if_ne, xr_iret, xr_pop, xtl_n, xtl_s, xz_i, xz_l, xz_n, xz_r, wb_5_judge_0, wb_5_judge_1, wb_5_judge_2, wb_5_judge_3, wb_5_judge_5, wb_5_judge_6, ss_5_judge, xa_71, xa_72, xa_73, xc_1 gc_6_judge_0, xc_1 gc_6_judge_2, xc_1 gc_6_judge_3, xc_1 gc_6_judge_4, xc_2 gc_6_judge_1, xl_aload0, xl_iinc2a, xl_iinc2i, xl_iinc2n, xl_iload1, xl_iload2, xl_istore2a, xl_istore2i, xl_istore2n, xm_f, xm_n, xm_t, xn_1, xn_2, xn_3, xn_5, xn_6, xo_53_29, xo_53_3, xo_53_30, xo_53_31, xr_goto, xr_iadd, xr_ic_eq, xr_ic_ge, xr_iconst, xr_if_ne, xr_imul, xr_iret, xtl_n, xtl_s, xz_i, xz_l, xz_n, xz_r, wb_6_judge_0, wb_6_judge_1, wb_6_judge_2, wb_6_judge_3, wb_6_judge_5, wb_6_judge_6, ss_6_judge, zz_b, zz_bn, Classical.not_not, true_and, Nat.reduceAdd, Nat.reduceLeDiff, sp_5_isSheet, sp_6_isSheet, c1, e31, sp_mis hs4 tb3 tb4, c2, c3, K0, sp_5_finding, sp_6_finds, up_n (show ¬ 71 = 52 by decide), eb, eq_self, true_implies, false_implies, implies_true, not_true_eq_false, not_false_eq_true, and_true, false_and, and_false, if_true, if_false, Int.reduceEq, Int.reduceSub, Int.reduceAdd, Int.reduceMul, Int.reduceNeg, Int.reduceLT, Int.reduceLE, Int.add_zero]
        exact fnd h 3 (by omega) (by omega)
      · obtain ⟨Z, hZ⟩ := nat_of tz1
        have mj : ∀ {w3 a3 i3} {Q : dk_Q}, Fr a i (a 52) (a 62) w3 a3 i3 → (∀ a4 (k : Nat), Fr a i (a 52) (a 62) w3 a4 i3 → k < Z → ¬ a (35 + s) k = wo a i (k + 1) → (∀ j : Nat, j < k → a (35 + s) j = wo a i (j + 1)) → Q (some (.inl k)) (HH n xs w3 a4 i3)) → (∀ a4, Fr a i (a 52) (a 62) w3 a4 i3 → (∀ j : Nat, j < Z → a (35 + s) j = wo a i (j + 1)) → Q (some (.inl (-1))) (HH n xs w3 a4 i3)) → s_6_judge [.inr (.inr 53), .inl s] (HH n xs w3 a3 i3) Q := by
          intro w3 a3 i3 Q hF3 hQ hQ2
          refine md_judge hc hag hF3 hs4 (Z := Z) (f := a (35 + s)) ?_ ?_ ?_ (by omega) (fun j j1 j2 => ?_) c3 hQ hQ2
          · rw [hF3.2.2.1 71 (by decide), eb]; exact c2
          · rw [hF3.2.2.1 71 (by decide), eb]; exact ⟨tb3, tb4⟩
          · rw [hF3.2.2.1 72 (by decide), ez]; exact hZ
          · rw [hF3.2.2.1 73 (by decide)]; exact hf j j1 j2
        simp (disch := first | assumption | omega | exact zc_lo | exact zc_hi | exact zz_l | exact zz_u | exact zz_r) only [xa_30, xa_35, xa_36, xa_37, xa_38, xc_1 gc_5_judge_0, xc_1 gc_5_judge_2, xc_1 gc_5_judge_3, xc_1 gc_5_judge_4, xc_2 gc_5_judge_1, xc_2 gc_5_judge_5, xl_aload0, xl_iinc2a, xl_iinc2i, xl_iinc2n, xl_iload1, xl_iload2, xl_istore2a, xl_istore2i, xl_istore2n, xm_f, xm_n, xm_t, xn_1, xn_2, xn_3, xn_5, xn_6, xo_0_0, xo_0_4, xo_0_6, xo_1_1, xo_31_1, xo_31_2, xo_32_1, xo_32_2, xo_33_1, xo_33_2, xo_34_1, xo_34_2, xo_44_2, xo_47_2, xr_goto, xr_ic_eq, xr_ic_ge, xr_iconst, xr_if_eq, xr_if_ne, xr_iret, xr_pop, xtl_n, xtl_s, xz_i, xz_l, xz_n, xz_r, wb_5_judge_0, wb_5_judge_1, wb_5_judge_2, wb_5_judge_3, wb_5_judge_5, wb_5_judge_6, ss_5_judge, zz_b, zz_bn, Classical.not_not, true_and, Nat.reduceAdd, Nat.reduceLeDiff, sp_5_isSheet, c1, e31, sp_mis hs4 tb3 tb4, c2, c3, true_implies, false_implies, implies_true, not_true_eq_false, not_false_eq_true, and_true, false_and, and_false, if_true, if_false, Int.reduceEq, Int.reduceSub, Int.reduceAdd, Int.reduceMul, Int.reduceNeg, Int.reduceLT, Int.reduceLE, Int.add_zero]
        refine sp_set hc (Fr_rf h) (fun a3 i3 hW3 _ _ => ?_)
        simp (disch := first | assumption | omega | exact zc_lo | exact zc_hi | exact zz_l | exact zz_u | exact zz_r) only [xa_30, xa_35, xa_36, xa_37, xa_38, xc_1 gc_5_judge_0, xc_1 gc_5_judge_2, xc_1 gc_5_judge_3, xc_1 gc_5_judge_4, xc_2 gc_5_judge_1, xc_2 gc_5_judge_5, xl_aload0, xl_iinc2a, xl_iinc2i, xl_iinc2n, xl_iload1, xl_iload2, xl_istore2a, xl_istore2i, xl_istore2n, xm_f, xm_n, xm_t, xn_1, xn_2, xn_3, xn_5, xn_6, xo_0_0, xo_0_4, xo_0_6, xo_1_1, xo_31_1, xo_31_2, xo_32_1, xo_32_2, xo_33_1, xo_33_2, xo_34_1, xo_34_2, xo_44_2, xo_47_2, xr_goto, xr_ic_eq, xr_ic_ge, xr_iconst, xr_if_eq, xr_if_ne, xr_iret, xr_pop, xtl_n, xtl_s, xz_i, xz_l, xz_n, xz_r, wb_5_judge_0, wb_5_judge_1, wb_5_judge_2, wb_5_judge_3, wb_5_judge_5, wb_5_judge_6, zz_b, zz_bn, Classical.not_not, true_and, Nat.reduceAdd, Nat.reduceLeDiff, true_implies, false_implies, implies_true, not_true_eq_false, not_false_eq_true, and_true, false_and, and_false, if_true, if_false, Int.reduceEq, Int.reduceSub, Int.reduceAdd, Int.reduceMul, Int.reduceNeg, Int.reduceLT, Int.reduceLE, Int.add_zero]
        have key : ∀ d, d ≤ Z → ∀ w4 a4, Wk a i (a 52) (a 62) d w4 a4 i3 → (∀ j : Nat, j < d → a (35 + s) j = wo a i (j + 1)) → dk_WP g_5_judge b_5_judge (fun r h => s_6_judge [.inr (.inr 53), .inl s] h (OPQ n xs N r)) 4 [some (.inr (.inr 0)), some (.inl s), some (.inl d)] [] (HH n xs w4 a4 i3) := by
          refine lp_up ?_ ?_
          · intro w4 a4 hW4 hyes
            have e20 : i3 (20 + s) = Z := by rw [hW4.1.2.2.2.1 (20 + s) (by simp only [SJ, List.mem_cons, List.not_mem_nil, or_false]; omega)]; exact hZ
            rw [wb_5_judge_4]
            simp (disch := first | assumption | omega | exact zc_lo | exact zc_hi | exact zz_l | exact zz_u | exact zz_r) only [xa_30, xa_35, xa_36, xa_37, xa_38, xc_1 gc_5_judge_0, xc_1 gc_5_judge_2, xc_1 gc_5_judge_3, xc_1 gc_5_judge_4, xc_2 gc_5_judge_1, xc_2 gc_5_judge_5, xl_aload0, xl_iinc2a, xl_iinc2i, xl_iinc2n, xl_iload1, xl_iload2, xl_istore2a, xl_istore2i, xl_istore2n, xm_f, xm_n, xm_t, xn_1, xn_2, xn_3, xn_5, xn_6, xo_0_0, xo_0_4, xo_0_6, xo_1_1, xo_31_1, xo_31_2, xo_32_1, xo_32_2, xo_33_1, xo_33_2, xo_34_1, xo_34_2, xo_44_2, xo_47_2, xr_goto, xr_ic_eq, xr_ic_ge, xr_iconst, xr_if_eq, xr_if_ne, xr_iret, xr_pop, xtl_n, xtl_s, xz_i, xz_l, xz_n, xz_r, wb_5_judge_0, wb_5_judge_1, wb_5_judge_2, wb_5_judge_3, wb_5_judge_5, wb_5_judge_6, zz_b, zz_bn, Classical.not_not, true_and, Nat.reduceAdd, Nat.reduceLeDiff, e31, xg_1 hs4, e20]
            refine ⟨fun _ => ?_, fun c => absurd (by omega) c⟩
            exact mj hW4.1 (fun a5 k _ hk1 hk2 _ => absurd (hyes k hk1) hk2) (fun a5 hF5 _ => OPQ_f h hF5 (by omega) (by omega))
          · intro d hdm ih w4 a4 hW4 hyes
            have e20 : i3 (20 + s) = Z := by rw [hW4.1.2.2.2.1 (20 + s) (by simp only [SJ, List.mem_cons, List.not_mem_nil, or_false]; omega)]; exact hZ
            have wb := wo_b hc (d + 1)
            obtain ⟨nb, ne⟩ := hf d (by omega) (by omega)
            have d0 : (0 : Int) ≤ d := by omega
            have d40 : (d : Int) < ((40 : Nat) : Int) := by omega
            rw [wb_5_judge_4]
            simp (disch := first | assumption | omega | exact zc_lo | exact zc_hi | exact zz_l | exact zz_u | exact zz_r) only [xa_30, xa_35, xa_36, xa_37, xa_38, xc_1 gc_5_judge_0, xc_1 gc_5_judge_2, xc_1 gc_5_judge_3, xc_1 gc_5_judge_4, xc_2 gc_5_judge_1, xc_2 gc_5_judge_5, xl_aload0, xl_iinc2a, xl_iinc2i, xl_iinc2n, xl_iload1, xl_iload2, xl_istore2a, xl_istore2i, xl_istore2n, xm_f, xm_n, xm_t, xn_1, xn_2, xn_3, xn_5, xn_6, xo_0_0, xo_0_4, xo_0_6, xo_1_1, xo_31_1, xo_31_2, xo_32_1, xo_32_2, xo_33_1, xo_33_2, xo_34_1, xo_34_2, xo_44_2, xo_47_2, xr_goto, xr_ic_eq, xr_ic_ge, xr_iconst, xr_if_eq, xr_if_ne, xr_iret, xr_pop, xtl_n, xtl_s, xz_i, xz_l, xz_n, xz_r, wb_5_judge_0, wb_5_judge_1, wb_5_judge_2, wb_5_judge_3, wb_5_judge_5, wb_5_judge_6, zz_b, zz_bn, Classical.not_not, true_and, Nat.reduceAdd, Nat.reduceLeDiff, e31, xg_1 hs4, e20]
            refine ⟨fun c => absurd c (by omega), fun _ => ?_⟩
            refine sp_stp hc hW4 (fun w5 a5 y hW5 _ _ _ => ?_)
            have e35 : a5 (35 + s) = a (35 + s) := hW5.1.2.2.1 (35 + s) (by simp only [SD, List.mem_cons, List.not_mem_nil, or_false]; omega)
            simp (disch := first | assumption | omega | exact zc_lo | exact zc_hi | exact zz_l | exact zz_u | exact zz_r) only [xa_30, xa_35, xa_36, xa_37, xa_38, xc_1 gc_5_judge_0, xc_1 gc_5_judge_2, xc_1 gc_5_judge_3, xc_1 gc_5_judge_4, xc_2 gc_5_judge_1, xc_2 gc_5_judge_5, xl_aload0, xl_iinc2a, xl_iinc2i, xl_iinc2n, xl_iload1, xl_iload2, xl_istore2a, xl_istore2i, xl_istore2n, xm_f, xm_n, xm_t, xn_1, xn_2, xn_3, xn_5, xn_6, xo_0_0, xo_0_4, xo_0_6, xo_1_1, xo_31_1, xo_31_2, xo_32_1, xo_32_2, xo_33_1, xo_33_2, xo_34_1, xo_34_2, xo_44_2, xo_47_2, xr_goto, xr_ic_eq, xr_ic_ge, xr_iconst, xr_if_eq, xr_if_ne, xr_iret, xr_pop, xtl_n, xtl_s, xz_i, xz_l, xz_n, xz_r, wb_5_judge_0, wb_5_judge_1, wb_5_judge_2, wb_5_judge_3, wb_5_judge_5, wb_5_judge_6, zz_b, zz_bn, Classical.not_not, true_and, Nat.reduceAdd, Nat.reduceLeDiff, e31, xg_2 hs4, xa_w (hl40 hs4) d0 d40 (by omega), e35]
            refine sp_wst hc hW5 ?_
            simp (disch := first | assumption | omega | exact zc_lo | exact zc_hi | exact zz_l | exact zz_u | exact zz_r) only [xa_30, xa_35, xa_36, xa_37, xa_38, xc_1 gc_5_judge_0, xc_1 gc_5_judge_2, xc_1 gc_5_judge_3, xc_1 gc_5_judge_4, xc_2 gc_5_judge_1, xc_2 gc_5_judge_5, xl_aload0, xl_iinc2a, xl_iinc2i, xl_iinc2n, xl_iload1, xl_iload2, xl_istore2a, xl_istore2i, xl_istore2n, xm_f, xm_n, xm_t, xn_1, xn_2, xn_3, xn_5, xn_6, xo_0_0, xo_0_4, xo_0_6, xo_1_1, xo_31_1, xo_31_2, xo_32_1, xo_32_2, xo_33_1, xo_33_2, xo_34_1, xo_34_2, xo_44_2, xo_47_2, xr_goto, xr_ic_eq, xr_ic_ge, xr_iconst, xr_if_eq, xr_if_ne, xr_iret, xr_pop, xtl_n, xtl_s, xz_i, xz_l, xz_n, xz_r, wb_5_judge_0, wb_5_judge_1, wb_5_judge_2, wb_5_judge_3, wb_5_judge_5, wb_5_judge_6, zz_b, zz_bn, Classical.not_not, true_and, Nat.reduceAdd, Nat.reduceLeDiff]
            refine ⟨fun c => ?_, fun c => ?_⟩
            · rw [cs d]
              refine ih w5 a5 hW5 (fun j hj => ?_)
              by_cases e : j = d
              · subst e; exact c
              · exact hyes j (by omega)
            · refine mj hW5.1 (fun a6 k hF6 hk1 hk2 hk3 => ?_) (fun a6 _ hall => absurd (hall d (by omega)) c)
              have e : k = d := by
                rcases Nat.lt_trichotomy k d with j | j | j
                · exact absurd (hyes k j) hk2
                · exact j
                · exact absurd (hk3 d j) c
              subst e
              exact OPQ_f h hF6 (by omega) (by omega)
        exact key 0 (Nat.zero_le _) w a3 hW3 (fun j hj => absurd hj (Nat.not_lt_zero j))
  · simp (disch := first | assumption | omega | exact zc_lo | exact zc_hi | exact zz_l | exact zz_u | exact zz_r) only [xa_30, xa_35, xa_36, xa_37, xa_38, xc_1 gc_5_judge_0, xc_1 gc_5_judge_2, xc_1 gc_5_judge_3, xc_1 gc_5_judge_4, xc_2 gc_5_judge_1, xc_2 gc_5_judge_5, xl_aload0, xl_iinc2a, xl_iinc2i, xl_iinc2n, xl_iload1, xl_iload2, xl_istore2a, xl_istore2i, xl_istore2n, xm_f, xm_n, xm_t, xn_1, xn_2, xn_3, xn_5, xn_6, xo_0_0, xo_0_4, xo_0_6, xo_1_1, xo_31_1, xo_31_2, xo_32_1, xo_32_2, xo_33_1, xo_33_2, xo_34_1, xo_34_2, xo_44_2, xo_47_2, xr_goto, xr_ic_eq, xr_ic_ge, xr_iconst, xr_if_eq, xr_if_ne, xr_iret, xr_pop, xtl_n, xtl_s, xz_i, xz_l, xz_n, xz_r, wb_5_judge_0, wb_5_judge_1, wb_5_judge_2, wb_5_judge_3, wb_5_judge_5, wb_5_judge_6, ss_5_judge, xa_71, xa_72, xa_73, xc_1 gc_6_judge_0, xc_1 gc_6_judge_2, xc_1 gc_6_judge_3, xc_1 gc_6_judge_4, xc_2 gc_6_judge_1, xl_aload0, xl_iinc2a, xl_iinc2i, xl_iinc2n, xl_iload1, xl_iload2, xl_istore2a, xl_istore2i, xl_istore2n, xm_f, xm_n, xm_t, xn_1, xn_2, xn_3, xn_5, xn_6, xo_53_29, xo_53_3, xo_53_30, xo_53_31, xr_goto, xr_iadd, xr_ic_eq, xr_ic_ge, xr_iconst, xr_if_ne, xr_imul, xr_iret, xtl_n, xtl_s, xz_i, xz_l, xz_n, xz_r, wb_6_judge_0, wb_6_judge_1, wb_6_judge_2, wb_6_judge_3, wb_6_judge_5, wb_6_judge_6, ss_6_judge, zz_b, zz_bn, Classical.not_not, true_and, Nat.reduceAdd, Nat.reduceLeDiff, sp_5_isSheet, sp_6_isSheet, c1, sp_5_finding, sp_6_finds, true_implies, false_implies, implies_true, not_true_eq_false, not_false_eq_true, and_true, false_and, and_false, if_true, if_false, Int.reduceEq, Int.reduceSub, Int.reduceAdd, Int.reduceMul, Int.reduceNeg, Int.reduceLT, Int.reduceLE, Int.add_zero]
    exact fnd h 0 (by omega) (by omega)
end SH2
