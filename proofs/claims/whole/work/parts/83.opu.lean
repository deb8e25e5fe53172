/-! CALLS OF BOTH: where two drums had best stand -/
section OU1
variable {N : Int} {n : Nat} {xs : Int → Int} {w : Nat → Nat} {a : Nat → Int → Int} {i : Nat → Int} {Q : dk_Q} {p q : Int → Int} {w2 : Nat → Nat} {a2 : Nat → Int → Int} {i2 : Nat → Int} {t : Nat} {r : Int} {c c2 : Nat → Int → Int} {g G : Int → Int}
def boF (a : Nat → Int → Int) (i : Nat → Int) (x y : Int) (M : Nat) (A B : Nat) : Int := wo (dk_up a 9 (dk_ui (dk_ui (a 9) x (a 4 A)) y (a 4 B))) i M
theorem colN_b (hc : colN a i) {x y : Int} {A B : Int} (h0 : 0 ≤ A) (h1 : A < i 0) (h2 : 0 ≤ B) (h3 : B < i 0) : colN (dk_up a 9 (dk_ui (dk_ui (a 9) x (a 4 A)) y (a 4 B))) i := by
  have hcc := hc
  obtain ⟨⟨p1, p2⟩, ⟨s1, s2⟩, ⟨v1, v2⟩, ⟨n1, n2⟩, ⟨o1, o2⟩, ⟨d1, d2⟩, ⟨e1, e2⟩, ⟨k1, k2⟩, hr, ⟨m1, m2⟩, hd, ⟨b1, b2⟩, hb, hs, hz⟩ := id hc
  obtain ⟨-, ⟨r1, r2⟩, -⟩ := hr A h0 h1
  obtain ⟨-, ⟨r3, r4⟩, -⟩ := hr B h2 h3
  refine colN_9 hcc (fun d z1 z2 => ?_)
  by_cases e : d = y
  · subst e; rw [ui_s]; omega
  · rw [ui_n e]
    by_cases e : d = x
    · subst e; rw [ui_s]; omega
    · rw [ui_n e]; exact (hd d z1 z2).1
theorem boF_b (hc : colN a i) {x y : Int} {M A B : Nat} (h1 : (A : Int) < i 0) (h2 : (B : Int) < i 0) : 0 ≤ boF a i x y M A B ∧ boF a i x y M A B ≤ 1000 := wo_b (colN_b hc (by omega) h1 (by omega) h2) M
theorem ui_2 {f h : Int → Int} {x y u v : Int} (hg : ∀ j, ¬ j = x → ¬ j = y → f j = h j) : dk_ui (dk_ui f x u) y v = dk_ui (dk_ui h x u) y v := by
  funext j
  by_cases e : j = y
  · subst e; rw [ui_s, ui_s]
  · rw [ui_n e, ui_n e]
    by_cases e2 : j = x
    · subst e2; rw [ui_s, ui_s]
    · rw [ui_n e2, ui_n e2]; exact hg j e2 e
theorem ui_3 {f h : Int → Int} {x y u v : Int} (hx : f x = u) (hg : ∀ j, ¬ j = x → ¬ j = y → f j = h j) : dk_ui f y v = dk_ui (dk_ui h x u) y v := by
  funext j
  by_cases e : j = y
  · subst e; rw [ui_s, ui_s]
  · rw [ui_n e, ui_n e]
    by_cases e2 : j = x
    · subst e2; rw [ui_s]; exact hx
    · rw [ui_n e2]; exact hg j e2 e
theorem ui_22 {f : Int → Int} {x y : Int} : dk_ui (dk_ui f x (f x)) y (f y) = f := by rw [ui_id, ui_id]
theorem bo_ok (hc : colN a i) {x y : Int} {M m A B : Nat} (hm : i 0 = m) (hA : A < m) (hB : B ≤ m) : okF (inF (boF a i x y M A) (fun B => 100 * (A : Int) + B) (outF (boF a i x y M) m A) B) := by
  have hk := k24 hc
  exact inF_ok (outF_ok (by omega) (fun A B hA hB => boF_b hc (by omega) (by omega)) A (by omega)) (fun r hr => boF_b hc (by omega) (by omega)) (fun r hr => by omega) B hB
theorem cl_both (h : Inv N w a i) {x y : Int} {M m : Nat} (x1 : -2147483648 ≤ x) (x2 : x ≤ 2147483647) (y1 : -2147483648 ≤ y) (y2 : y ≤ 2147483647) (c1 : (0 ≤ x ∧ x < i 1) ∧ (0 ≤ y ∧ y < i 1) ∧ ¬ x = y) (hM : M ≤ 9) (hn : ¬ i 0 = 0) (hm : i 0 = m) : (∀ w3 a3 i3, Fr a i (a 52) (a 62) w3 a3 i3 → Q (some (.inl (outF (boF a i x y M) m m).2)) (HH n xs w3 a3 i3)) → s_5_both [.inr (.inr 0), .inl x, .inl y, .inl M] (HH n xs w a i) Q := by
  intro hQ
  have hF0 := Fr_rf h
  have t0 := hh_moV.1
  have hc := h.2.1
  have hag := h.2.2.1
  have hmc := colN_A hag hc
  obtain ⟨⟨p1, p2⟩, ⟨s1, s2⟩, ⟨v1, v2⟩, ⟨n1, n2⟩, ⟨o1, o2⟩, ⟨d1, d2⟩, ⟨e1, e2⟩, ⟨k1, k2⟩, hr, ⟨m1, m2⟩, hd, ⟨b1, b2⟩, hb, hs, hz⟩ := id hc
  obtain ⟨hkE, hA2, hA3, hA4, hA5, hA6⟩ := id hag
  have K0 : i 30 = i 0 := hkE 0 (by omega)
  have K1 : i 31 = i 1 := hkE 1 (by omega)
  have K2 : i 32 = i 2 := hkE 2 (by omega)
  have K3 : i 33 = i 3 := hkE 3 (by omega)
  have R0 : a 54 0 = a 2 0 := hA2 0 (by omega) (by omega)
  have R1 : a 54 1 = a 2 1 := hA2 1 (by omega) (by omega)
  have R2 : a 54 2 = a 2 2 := hA2 2 (by omega) (by omega)
  have R3 : a 54 3 = a 2 3 := hA2 3 (by omega) (by omega)
  have R4 : a 54 4 = a 2 4 := hA2 4 (by omega) (by omega)
  have R5 : a 54 5 = a 2 5 := hA2 5 (by omega) (by omega)
  have R6 : a 54 6 = a 2 6 := hA2 6 (by omega) (by omega)
  have c2 : (0 : Int) ≤ M ∧ (M : Int) ≤ 9 := by omega
  have x0 := c1.1.1
  have x6 : x < 6 := by omega
  have y0 := c1.2.1.1
  have y6 : y < 6 := by omega
  have nxy := c1.2.2
  simp (disch := first | assumption | omega | exact zc_lo | exact zc_hi | exact zz_l | exact zz_u | exact zz_r) only [xa_102, xa_4, xa_9, xc_1 gc_5_both_3, xc_2 gc_5_both_2, xc_2 gc_5_both_4, xc_3 gc_5_both_0, xc_3 gc_5_both_1, xl_aload0, xl_iinc8a, xl_iinc8i, xl_iinc8n, xl_iinc9a, xl_iinc9i, xl_iinc9n, xl_iload1, xl_iload10, xl_iload2, xl_iload3, xl_iload4, xl_iload5, xl_iload6, xl_iload7, xl_iload8, xl_iload9, xl_istore10a, xl_istore10i, xl_istore10n, xl_istore4a, xl_istore4i, xl_istore4n, xl_istore5a, xl_istore5i, xl_istore5n, xl_istore6a, xl_istore6i, xl_istore6n, xl_istore7a, xl_istore7i, xl_istore7n, xl_istore8a, xl_istore8i, xl_istore8n, xl_istore9a, xl_istore9i, xl_istore9n, xm_f, xm_n, xm_t, xn_1, xn_2, xn_3, xn_6, xn_7, xn_8, xo_0_0, xo_0_5, xo_1_1, xo_1_3, xo_1_9, xr_goto, xr_iadd, xr_ic_ge, xr_iconst, xr_if_eq, xr_if_ne, xr_imul, xr_iret, xr_ref, xs_4, xs_9, xtl_n, xtl_s, xz_i, xz_l, xz_n, xz_r, wb_5_both_0, wb_5_both_1, wb_5_both_2, wb_5_both_3, wb_5_both_6, wb_5_both_7, wb_5_both_8, ss_5_both, zz_b, zz_bn, Classical.not_not, true_and, Nat.reduceAdd, Nat.reduceLeDiff, sp_5_areTwoDrums, sp_5_isWithin, c1, c2, hn, true_implies, false_implies, implies_true, not_true_eq_false, not_false_eq_true, and_true, false_and, and_false, if_true, if_false, Int.reduceEq, Int.reduceSub, Int.reduceAdd, Int.reduceMul, Int.reduceNeg, Int.reduceLT, Int.reduceLE, Int.add_zero]
  refine sp_1_prepare hc (fun a3 hs3 hSP => ?_)
  simp (disch := first | assumption | omega | exact zc_lo | exact zc_hi | exact zz_l | exact zz_u | exact zz_r) only [xa_102, xa_4, xa_9, xc_1 gc_5_both_3, xc_2 gc_5_both_2, xc_2 gc_5_both_4, xc_3 gc_5_both_0, xc_3 gc_5_both_1, xl_aload0, xl_iinc8a, xl_iinc8i, xl_iinc8n, xl_iinc9a, xl_iinc9i, xl_iinc9n, xl_iload1, xl_iload10, xl_iload2, xl_iload3, xl_iload4, xl_iload5, xl_iload6, xl_iload7, xl_iload8, xl_iload9, xl_istore10a, xl_istore10i, xl_istore10n, xl_istore4a, xl_istore4i, xl_istore4n, xl_istore5a, xl_istore5i, xl_istore5n, xl_istore6a, xl_istore6i, xl_istore6n, xl_istore7a, xl_istore7i, xl_istore7n, xl_istore8a, xl_istore8i, xl_istore8n, xl_istore9a, xl_istore9i, xl_istore9n, xm_f, xm_n, xm_t, xn_1, xn_2, xn_3, xn_6, xn_7, xn_8, xo_0_0, xo_0_5, xo_1_1, xo_1_3, xo_1_9, xr_goto, xr_iadd, xr_ic_ge, xr_iconst, xr_if_eq, xr_if_ne, xr_imul, xr_iret, xr_ref, xs_4, xs_9, xtl_n, xtl_s, xz_i, xz_l, xz_n, xz_r, wb_5_both_0, wb_5_both_1, wb_5_both_2, wb_5_both_3, wb_5_both_6, wb_5_both_7, wb_5_both_8, zz_b, zz_bn, Classical.not_not, true_and, Nat.reduceAdd, Nat.reduceLeDiff, t0, true_implies, false_implies, implies_true, not_true_eq_false, not_false_eq_true, and_true, false_and, and_false, if_true, if_false, Int.reduceEq, Int.reduceSub, Int.reduceAdd, Int.reduceMul, Int.reduceNeg, Int.reduceLT, Int.reduceLE, Int.add_zero]
  have hF3 : Fr a i (a 52) (a 62) w a3 (dk_up i 24 (a 2 0)) := Fr_i (Fr_sA hF0 hs3 (by decide)) (sI_up (js := [24]) sI_rf (by simp) _) (by decide)
  have hS3 : spq a i a3 (dk_up i 24 (a 2 0)) := ⟨hSP.1, fun r z1 z2 => (hSP.2 r z1 z2).2⟩
  generalize dk_up i 24 (a 2 0) = i3 at hF3 hS3
  have key : ∀ A, A ≤ m → ∀ (w4 : Nat → Nat) (a4 : Nat → Int → Int) (g : Int → Int) (l9 l10 : Option dk_V), (∀ j, ¬ j = x → ¬ j = y → g j = a 9 j) → Fr (dk_up a 9 g) i (a 52) (a 62) w4 a4 i3 → spq a i a4 i3 → dk_WP g_5_both b_5_both Q 4 [some (.inr (.inr 0)), some (.inl x), some (.inl y), some (.inl M), some (.inl (a 9 x)), some (.inl (a 9 y)), some (.inl (outF (boF a i x y M) m A).2), some (.inl (outF (boF a i x y M) m A).1), some (.inl A), l9, l10] [] (HH n xs w4 a4 i3) := by
    refine lp_up ?_ ?_
    · intro w4 a4 g l9 l10 hg hF4 hS4
      have K0 : i3 0 = i 0 := Fr_kE hF4 0 (by omega)
      have E9 : a4 9 = g := by rw [hF4.2.2.1 9 (by decide), up_s]
      rw [wb_5_both_4]
      simp (disch := first | assumption | omega | exact zc_lo | exact zc_hi | exact zz_l | exact zz_u | exact zz_r) only [xa_102, xa_4, xa_9, xc_1 gc_5_both_3, xc_2 gc_5_both_2, xc_2 gc_5_both_4, xc_3 gc_5_both_0, xc_3 gc_5_both_1, xl_aload0, xl_iinc8a, xl_iinc8i, xl_iinc8n, xl_iinc9a, xl_iinc9i, xl_iinc9n, xl_iload1, xl_iload10, xl_iload2, xl_iload3, xl_iload4, xl_iload5, xl_iload6, xl_iload7, xl_iload8, xl_iload9, xl_istore10a, xl_istore10i, xl_istore10n, xl_istore4a, xl_istore4i, xl_istore4n, xl_istore5a, xl_istore5i, xl_istore5n, xl_istore6a, xl_istore6i, xl_istore6n, xl_istore7a, xl_istore7i, xl_istore7n, xl_istore8a, xl_istore8i, xl_istore8n, xl_istore9a, xl_istore9i, xl_istore9n, xm_f, xm_n, xm_t, xn_1, xn_2, xn_3, xn_6, xn_7, xn_8, xo_0_0, xo_0_5, xo_1_1, xo_1_3, xo_1_9, xr_goto, xr_iadd, xr_ic_ge, xr_iconst, xr_if_eq, xr_if_ne, xr_imul, xr_iret, xr_ref, xs_4, xs_9, xtl_n, xtl_s, xz_i, xz_l, xz_n, xz_r, wb_5_both_0, wb_5_both_1, wb_5_both_2, wb_5_both_3, wb_5_both_6, wb_5_both_7, wb_5_both_8, zz_b, zz_bn, Classical.not_not, true_and, Nat.reduceAdd, Nat.reduceLeDiff, K0, E9, up_s]
      refine ⟨fun _ => ?_, fun z => absurd (by omega) z⟩
      have hF5 := Fr_k (G := dk_ui (dk_ui g x (a 9 x)) y (a 9 y)) (by decide) (by decide) hF4
      rw [ui_2 hg, ui_22, up_id] at hF5
      rw [up_up, ui_2 hg, ui_22]
      exact hQ _ _ _ hF5
    · intro A hAm ih w4 a4 g l9 l10 hg hF4 hS4
      have K0 : i3 0 = i 0 := Fr_kE hF4 0 (by omega)
      have E9 : a4 9 = g := by rw [hF4.2.2.1 9 (by decide), up_s]
      have E4 : a4 4 = a 4 := by rw [hF4.2.2.1 4 (by decide), up_n (by decide)]
      rw [wb_5_both_4]
      simp (disch := first | assumption | omega | exact zc_lo | exact zc_hi | exact zz_l | exact zz_u | exact zz_r) only [xa_102, xa_4, xa_9, xc_1 gc_5_both_3, xc_2 gc_5_both_2, xc_2 gc_5_both_4, xc_3 gc_5_both_0, xc_3 gc_5_both_1, xl_aload0, xl_iinc8a, xl_iinc8i, xl_iinc8n, xl_iinc9a, xl_iinc9i, xl_iinc9n, xl_iload1, xl_iload10, xl_iload2, xl_iload3, xl_iload4, xl_iload5, xl_iload6, xl_iload7, xl_iload8, xl_iload9, xl_istore10a, xl_istore10i, xl_istore10n, xl_istore4a, xl_istore4i, xl_istore4n, xl_istore5a, xl_istore5i, xl_istore5n, xl_istore6a, xl_istore6i, xl_istore6n, xl_istore7a, xl_istore7i, xl_istore7n, xl_istore8a, xl_istore8i, xl_istore8n, xl_istore9a, xl_istore9i, xl_istore9n, xm_f, xm_n, xm_t, xn_1, xn_2, xn_3, xn_6, xn_7, xn_8, xo_0_0, xo_0_5, xo_1_1, xo_1_3, xo_1_9, xr_goto, xr_iadd, xr_ic_ge, xr_iconst, xr_if_eq, xr_if_ne, xr_imul, xr_iret, xr_ref, xs_4, xs_9, xtl_n, xtl_s, xz_i, xz_l, xz_n, xz_r, wb_5_both_0, wb_5_both_1, wb_5_both_2, wb_5_both_3, wb_5_both_6, wb_5_both_7, wb_5_both_8, zz_b, zz_bn, Classical.not_not, true_and, Nat.reduceAdd, Nat.reduceLeDiff, K0, E9, E4]
      refine ⟨fun z => absurd z (by omega), fun _ => ?_⟩
      have key2 : ∀ B, B ≤ m → ∀ (w5 : Nat → Nat) (a5 : Nat → Int → Int) (g : Int → Int) (l10 : Option dk_V), g x = a 4 A → (∀ j, ¬ j = x → ¬ j = y → g j = a 9 j) → Fr (dk_up a 9 g) i (a 52) (a 62) w5 a5 i3 → spq a i a5 i3 → dk_WP g_5_both b_5_both Q 5 [some (.inr (.inr 0)), some (.inl x), some (.inl y), some (.inl M), some (.inl (a 9 x)), some (.inl (a 9 y)), some (.inl (inF (boF a i x y M A) (fun B => 100 * (A : Int) + B) (outF (boF a i x y M) m A) B).2), some (.inl (inF (boF a i x y M A) (fun B => 100 * (A : Int) + B) (outF (boF a i x y M) m A) B).1), some (.inl A), some (.inl B), l10] [] (HH n xs w5 a5 i3) := by
        refine lp_up ?_ ?_
        · intro w5 a5 g l10 hgx hg hF5 hS5
          rw [wb_5_both_5]
          simp (disch := first | assumption | omega | exact zc_lo | exact zc_hi | exact zz_l | exact zz_u | exact zz_r) only [xa_102, xa_4, xa_9, xc_1 gc_5_both_3, xc_2 gc_5_both_2, xc_2 gc_5_both_4, xc_3 gc_5_both_0, xc_3 gc_5_both_1, xl_aload0, xl_iinc8a, xl_iinc8i, xl_iinc8n, xl_iinc9a, xl_iinc9i, xl_iinc9n, xl_iload1, xl_iload10, xl_iload2, xl_iload3, xl_iload4, xl_iload5, xl_iload6, xl_iload7, xl_iload8, xl_iload9, xl_istore10a, xl_istore10i, xl_istore10n, xl_istore4a, xl_istore4i, xl_istore4n, xl_istore5a, xl_istore5i, xl_istore5n, xl_istore6a, xl_istore6i, xl_istore6n, xl_istore7a, xl_istore7i, xl_istore7n, xl_istore8a, xl_istore8i, xl_istore8n, xl_istore9a, xl_istore9i, xl_istore9n, xm_f, xm_n, xm_t, xn_1, xn_2, xn_3, xn_6, xn_7, xn_8, xo_0_0, xo_0_5, xo_1_1, xo_1_3, xo_1_9, xr_goto, xr_iadd, xr_ic_ge, xr_iconst, xr_if_eq, xr_if_ne, xr_imul, xr_iret, xr_ref, xs_4, xs_9, xtl_n, xtl_s, xz_i, xz_l, xz_n, xz_r, wb_5_both_0, wb_5_both_1, wb_5_both_2, wb_5_both_3, wb_5_both_6, wb_5_both_7, wb_5_both_8, zz_b, zz_bn, Classical.not_not, true_and, Nat.reduceAdd, Nat.reduceLeDiff, K0]
          refine ⟨fun _ => ?_, fun z => absurd (by omega) z⟩
          rw [cs A]
          exact ih w5 a5 g _ _ hg hF5 hS5
        · intro B hBm ih2 w5 a5 g l10 hgx hg hF5 hS5
          have E9 : a5 9 = g := by rw [hF5.2.2.1 9 (by decide), up_s]
          have E4 : a5 4 = a 4 := by rw [hF5.2.2.1 4 (by decide), up_n (by decide)]
          have pb := boF_b hc (x := x) (y := y) (M := M) (A := A) (B := B) (by omega) (by omega)
          obtain ⟨⟨ob1, ob2⟩, ob3, ob4⟩ := bo_ok hc (x := x) (y := y) (M := M) (A := A) (B := B) hm hAm (by omega)
          rw [wb_5_both_5]
          simp (disch := first | assumption | omega | exact zc_lo | exact zc_hi | exact zz_l | exact zz_u | exact zz_r) only [xa_102, xa_4, xa_9, xc_1 gc_5_both_3, xc_2 gc_5_both_2, xc_2 gc_5_both_4, xc_3 gc_5_both_0, xc_3 gc_5_both_1, xl_aload0, xl_iinc8a, xl_iinc8i, xl_iinc8n, xl_iinc9a, xl_iinc9i, xl_iinc9n, xl_iload1, xl_iload10, xl_iload2, xl_iload3, xl_iload4, xl_iload5, xl_iload6, xl_iload7, xl_iload8, xl_iload9, xl_istore10a, xl_istore10i, xl_istore10n, xl_istore4a, xl_istore4i, xl_istore4n, xl_istore5a, xl_istore5i, xl_istore5n, xl_istore6a, xl_istore6i, xl_istore6n, xl_istore7a, xl_istore7i, xl_istore7n, xl_istore8a, xl_istore8i, xl_istore8n, xl_istore9a, xl_istore9i, xl_istore9n, xm_f, xm_n, xm_t, xn_1, xn_2, xn_3, xn_6, xn_7, xn_8, xo_0_0, xo_0_5, xo_1_1, xo_1_3, xo_1_9, xr_goto, xr_iadd, xr_ic_ge, xr_iconst, xr_if_eq, xr_if_ne, xr_imul, xr_iret, xr_ref, xs_4, xs_9, xtl_n, xtl_s, xz_i, xz_l, xz_n, xz_r, wb_5_both_0, wb_5_both_1, wb_5_both_2, wb_5_both_3, wb_5_both_6, wb_5_both_7, wb_5_both_8, zz_b, zz_bn, Classical.not_not, true_and, Nat.reduceAdd, Nat.reduceLeDiff, K0, E9, E4]
          refine ⟨fun z => absurd z (by omega), fun _ => ?_⟩
          have hF6 := Fr_k (G := dk_ui (dk_ui (a 9) x (a 4 A)) y (a 4 B)) (by decide) (by decide) hF5
          rw [ui_3 hgx hg]
          refine sp_wwd (colN_b hc (by omega) (by omega) (by omega) (by omega)) hF6 (spq_9 (spq_s (up_n (by decide)) (up_n (by decide)) (up_n (by decide)) hS5)) (by omega) (fun w7 a7 hF7 hS7 => ?_)
          have ih3 := fun l10 => ih2 w7 a7 _ l10 (by rw [ui_n nxy, ui_s]) (fun j hj hj2 => by rw [ui_n hj2, ui_n hj]) hF7 (spq_0 hS7)
          rw [show wo (dk_up a 9 (dk_ui (dk_ui (a 9) x (a 4 A)) y (a 4 B))) i M = boF a i x y M A B from rfl]
          simp (disch := first | assumption | omega | exact zc_lo | exact zc_hi | exact zz_l | exact zz_u | exact zz_r) only [xa_102, xa_4, xa_9, xc_1 gc_5_both_3, xc_2 gc_5_both_2, xc_2 gc_5_both_4, xc_3 gc_5_both_0, xc_3 gc_5_both_1, xl_aload0, xl_iinc8a, xl_iinc8i, xl_iinc8n, xl_iinc9a, xl_iinc9i, xl_iinc9n, xl_iload1, xl_iload10, xl_iload2, xl_iload3, xl_iload4, xl_iload5, xl_iload6, xl_iload7, xl_iload8, xl_iload9, xl_istore10a, xl_istore10i, xl_istore10n, xl_istore4a, xl_istore4i, xl_istore4n, xl_istore5a, xl_istore5i, xl_istore5n, xl_istore6a, xl_istore6i, xl_istore6n, xl_istore7a, xl_istore7i, xl_istore7n, xl_istore8a, xl_istore8i, xl_istore8n, xl_istore9a, xl_istore9i, xl_istore9n, xm_f, xm_n, xm_t, xn_1, xn_2, xn_3, xn_6, xn_7, xn_8, xo_0_0, xo_0_5, xo_1_1, xo_1_3, xo_1_9, xr_goto, xr_iadd, xr_ic_ge, xr_iconst, xr_if_eq, xr_if_ne, xr_imul, xr_iret, xr_ref, xs_4, xs_9, xtl_n, xtl_s, xz_i, xz_l, xz_n, xz_r, wb_5_both_0, wb_5_both_1, wb_5_both_2, wb_5_both_3, wb_5_both_6, wb_5_both_7, wb_5_both_8, zz_b, zz_bn, Classical.not_not, true_and, Nat.reduceAdd, Nat.reduceLeDiff]
          rw [cs B]
          refine ⟨fun z => ?_, fun z => ?_⟩
          · rw [inF_n (by omega)] at ih3; exact ih3 _
          · rw [inF_p (by omega)] at ih3; exact ih3 _
      have hF5 := Fr_k (G := dk_ui g x (a 4 A)) (by decide) (by decide) hF4
      exact key2 0 (Nat.zero_le _) w4 _ _ _ ui_s (fun j hj hj2 => by rw [ui_n hj]; exact hg j hj hj2) hF5 (spq_s (up_n (by decide)) (up_n (by decide)) (up_n (by decide)) hS4)
  exact key 0 (Nat.zero_le _) w a3 (a 9) none none (fun _ _ _ => rfl) (by rw [up_id]; exact hF3) hS3
theorem md_both (hc : colN a i) (hag : agr a i (mv a) (mi i)) (hF : Fr a i p q w2 a2 i2) {x y : Int} {M m : Nat} (x1 : -2147483648 ≤ x) (x2 : x ≤ 2147483647) (y1 : -2147483648 ≤ y) (y2 : y ≤ 2147483647) (c1 : (0 ≤ x ∧ x < i 1) ∧ (0 ≤ y ∧ y < i 1) ∧ ¬ x = y) (hM : M ≤ 9) (hn : ¬ i 0 = 0) (hm : i 0 = m) : (∀ a3, Fr a i p q w2 a3 i2 → Q (some (.inl (outF (boF a i x y M) m m).2)) (HH n xs w2 a3 i2)) → s_6_both [.inr (.inr 53), .inl x, .inl y, .inl M] (HH n xs w2 a2 i2) Q := by
  intro hQ
  have hk := k24 hc
  obtain ⟨hm1, hm2, hm3, hm4, hm5⟩ := Fr_m hc hag hF
  have e31 : i2 31 = i 1 := by rw [show i2 31 = mi i2 1 from rfl, Fr_mi hF 1 (by omega)]; exact hag.1 1 (by omega)
  have m6 : i 1 ≤ 6 := hc.2.2.2.2.2.2.2.2.2.1.2
  have b31 : 0 ≤ i2 31 ∧ i2 31 ≤ 6 := by omega
  have c1b : (0 ≤ x ∧ x ≤ i2 31 - 1) ∧ (0 ≤ y ∧ y ≤ i2 31 - 1) ∧ ¬ x = y := by omega
  have c2 : (0 : Int) ≤ M ∧ (M : Int) ≤ 9 := by omega
  have hn2 : ¬ i2 30 = 0 := by rw [hm3]; exact hn
  have x0 : 0 ≤ 3 * x := by omega
  have x18 : 3 * x < 18 := by omega
  have y0 : 0 ≤ 3 * y := by omega
  have y18 : 3 * y < 18 := by omega
  have nxy := c1.2.2
  have b30 : 0 ≤ i2 30 ∧ i2 30 ≤ 24 := by omega
  have E59 : a2 59 = a 59 := hF.2.2.1 59 (by decide)
  simp (disch := first | assumption | omega | exact zc_lo | exact zc_hi | exact zz_l | exact zz_u | exact zz_r) only [xa_59, xc_2 gc_6_both_2, xc_2 gc_6_both_4, xc_3 gc_6_both_0, xc_3 gc_6_both_1, xc_3 gc_6_both_3, xl_aload0, xl_iinc8a, xl_iinc8i, xl_iinc8n, xl_iinc9a, xl_iinc9i, xl_iinc9n, xl_iload1, xl_iload10, xl_iload2, xl_iload3, xl_iload4, xl_iload5, xl_iload6, xl_iload7, xl_iload8, xl_iload9, xl_istore10a, xl_istore10i, xl_istore10n, xl_istore4a, xl_istore4i, xl_istore4n, xl_istore5a, xl_istore5i, xl_istore5n, xl_istore6a, xl_istore6i, xl_istore6n, xl_istore7a, xl_istore7i, xl_istore7n, xl_istore8a, xl_istore8i, xl_istore8n, xl_istore9a, xl_istore9i, xl_istore9n, xm_f, xm_n, xm_t, xn_1, xn_2, xn_3, xn_6, xn_7, xn_8, xn_9, xo_53_3, xo_53_7, xr_goto, xr_iadd, xr_ic_ge, xr_iconst, xr_if_eq, xr_if_lt, xr_if_ne, xr_imul, xr_iret, xs_59, xtl_n, xtl_s, xz_i, xz_l, xz_n, xz_r, wb_6_both_0, wb_6_both_1, wb_6_both_2, wb_6_both_3, wb_6_both_6, wb_6_both_7, wb_6_both_8, wb_6_both_9, ss_6_both, zz_b, zz_bn, Classical.not_not, true_and, Nat.reduceAdd, Nat.reduceLeDiff, sp_6_areTwo, sp_6_in, c1b, c2, hn2, E59, true_implies, false_implies, implies_true, not_true_eq_false, not_false_eq_true, and_true, false_and, and_false, if_true, if_false, Int.reduceEq, Int.reduceSub, Int.reduceAdd, Int.reduceMul, Int.reduceNeg, Int.reduceLT, Int.reduceLE, Int.add_zero]
  have key : ∀ A, A ≤ m → ∀ (a4 : Nat → Int → Int) (g : Int → Int) (fe be : Int) (l9 l10 : Option dk_V), rlF (outF (boF a i x y M) m A) fe be → (∀ j, ¬ j = 3 * x → ¬ j = 3 * y → g j = a 59 j) → Fr (dk_up a 59 g) i p q w2 a4 i2 → dk_WP g_6_both b_6_both Q 4 [some (.inr (.inr 53)), some (.inl x), some (.inl y), some (.inl M), some (.inl (a 59 (3 * x))), some (.inl (a 59 (3 * y))), some (.inl be), some (.inl fe), some (.inl A), l9, l10] [] (HH n xs w2 a4 i2) := by
    refine lp_up ?_ ?_
    · intro a4 g fe be l9 l10 hrl hg hF4
      have F59 : a4 59 = g := by rw [hF4.2.2.1 59 (by decide), up_s]
      rw [wb_6_both_4]
      simp (disch := first | assumption | omega | exact zc_lo | exact zc_hi | exact zz_l | exact zz_u | exact zz_r) only [xa_59, xc_2 gc_6_both_2, xc_2 gc_6_both_4, xc_3 gc_6_both_0, xc_3 gc_6_both_1, xc_3 gc_6_both_3, xl_aload0, xl_iinc8a, xl_iinc8i, xl_iinc8n, xl_iinc9a, xl_iinc9i, xl_iinc9n, xl_iload1, xl_iload10, xl_iload2, xl_iload3, xl_iload4, xl_iload5, xl_iload6, xl_iload7, xl_iload8, xl_iload9, xl_istore10a, xl_istore10i, xl_istore10n, xl_istore4a, xl_istore4i, xl_istore4n, xl_istore5a, xl_istore5i, xl_istore5n, xl_istore6a, xl_istore6i, xl_istore6n, xl_istore7a, xl_istore7i, xl_istore7n, xl_istore8a, xl_istore8i, xl_istore8n, xl_istore9a, xl_istore9i, xl_istore9n, xm_f, xm_n, xm_t, xn_1, xn_2, xn_3, xn_6, xn_7, xn_8, xn_9, xo_53_3, xo_53_7, xr_goto, xr_iadd, xr_ic_ge, xr_iconst, xr_if_eq, xr_if_lt, xr_if_ne, xr_imul, xr_iret, xs_59, xtl_n, xtl_s, xz_i, xz_l, xz_n, xz_r, wb_6_both_0, wb_6_both_1, wb_6_both_2, wb_6_both_3, wb_6_both_6, wb_6_both_7, wb_6_both_8, wb_6_both_9, zz_b, zz_bn, Classical.not_not, true_and, Nat.reduceAdd, Nat.reduceLeDiff, hm3, F59, up_s]
      refine ⟨fun _ => ?_, fun z => absurd (by omega) z⟩
      have hF5 := Fr_k (G := dk_ui (dk_ui g (3 * x) (a 59 (3 * x))) (3 * y) (a 59 (3 * y))) (by decide) (by decide) hF4
      rw [ui_2 hg, ui_22, up_id] at hF5
      rw [up_up, ui_2 hg, ui_22, hrl.1]
      exact hQ _ hF5
    · intro A hAm ih a4 g fe be l9 l10 hrl hg hF4
      rw [wb_6_both_4]
      simp (disch := first | assumption | omega | exact zc_lo | exact zc_hi | exact zz_l | exact zz_u | exact zz_r) only [xa_59, xc_2 gc_6_both_2, xc_2 gc_6_both_4, xc_3 gc_6_both_0, xc_3 gc_6_both_1, xc_3 gc_6_both_3, xl_aload0, xl_iinc8a, xl_iinc8i, xl_iinc8n, xl_iinc9a, xl_iinc9i, xl_iinc9n, xl_iload1, xl_iload10, xl_iload2, xl_iload3, xl_iload4, xl_iload5, xl_iload6, xl_iload7, xl_iload8, xl_iload9, xl_istore10a, xl_istore10i, xl_istore10n, xl_istore4a, xl_istore4i, xl_istore4n, xl_istore5a, xl_istore5i, xl_istore5n, xl_istore6a, xl_istore6i, xl_istore6n, xl_istore7a, xl_istore7i, xl_istore7n, xl_istore8a, xl_istore8i, xl_istore8n, xl_istore9a, xl_istore9i, xl_istore9n, xm_f, xm_n, xm_t, xn_1, xn_2, xn_3, xn_6, xn_7, xn_8, xn_9, xo_53_3, xo_53_7, xr_goto, xr_iadd, xr_ic_ge, xr_iconst, xr_if_eq, xr_if_lt, xr_if_ne, xr_imul, xr_iret, xs_59, xtl_n, xtl_s, xz_i, xz_l, xz_n, xz_r, wb_6_both_0, wb_6_both_1, wb_6_both_2, wb_6_both_3, wb_6_both_6, wb_6_both_7, wb_6_both_8, wb_6_both_9, zz_b, zz_bn, Classical.not_not, true_and, Nat.reduceAdd, Nat.reduceLeDiff, hm3]
      refine ⟨fun z => absurd z (by omega), fun _ => ?_⟩
      have key2 : ∀ B, B ≤ m → ∀ (a5 : Nat → Int → Int) (g : Int → Int) (fe be : Int) (l10 : Option dk_V), rlF (inF (boF a i x y M A) (fun B => 100 * (A : Int) + B) (outF (boF a i x y M) m A) B) fe be → (∀ j, ¬ j = 3 * x → ¬ j = 3 * y → g j = a 59 j) → Fr (dk_up a 59 g) i p q w2 a5 i2 → dk_WP g_6_both b_6_both Q 5 [some (.inr (.inr 53)), some (.inl x), some (.inl y), some (.inl M), some (.inl (a 59 (3 * x))), some (.inl (a 59 (3 * y))), some (.inl be), some (.inl fe), some (.inl A), some (.inl B), l10] [] (HH n xs w2 a5 i2) := by
        refine lp_up ?_ ?_
        · intro a5 g fe be l10 hrl hg hF5
          rw [wb_6_both_5]
          simp (disch := first | assumption | omega | exact zc_lo | exact zc_hi | exact zz_l | exact zz_u | exact zz_r) only [xa_59, xc_2 gc_6_both_2, xc_2 gc_6_both_4, xc_3 gc_6_both_0, xc_3 gc_6_both_1, xc_3 gc_6_both_3, xl_aload0, xl_iinc8a, xl_iinc8i, xl_iinc8n, xl_iinc9a, xl_iinc9i, xl_iinc9n, xl_iload1, xl_iload10, xl_iload2, xl_iload3, xl_iload4, xl_iload5, xl_iload6, xl_iload7, xl_iload8, xl_iload9, xl_istore10a, xl_istore10i, xl_istore10n, xl_istore4a, xl_istore4i, xl_istore4n, xl_istore5a, xl_istore5i, xl_istore5n, xl_istore6a, xl_istore6i, xl_istore6n, xl_istore7a, xl_istore7i, xl_istore7n, xl_istore8a, xl_istore8i, xl_istore8n, xl_istore9a, xl_istore9i, xl_istore9n, xm_f, xm_n, xm_t, xn_1, xn_2, xn_3, xn_6, xn_7, xn_8, xn_9, xo_53_3, xo_53_7, xr_goto, xr_iadd, xr_ic_ge, xr_iconst, xr_if_eq, xr_if_lt, xr_if_ne, xr_imul, xr_iret, xs_59, xtl_n, xtl_s, xz_i, xz_l, xz_n, xz_r, wb_6_both_0, wb_6_both_1, wb_6_both_2, wb_6_both_3, wb_6_both_6, wb_6_both_7, wb_6_both_8, wb_6_both_9, zz_b, zz_bn, Classical.not_not, true_and, Nat.reduceAdd, Nat.reduceLeDiff, hm3]
          refine ⟨fun _ => ?_, fun z => absurd (by omega) z⟩
          rw [cs A]
          exact ih a5 g fe be _ _ hrl hg hF5
        · intro B hBm ih2 a5 g fe be l10 hrl hg hF5
          have F59 : a5 59 = g := by rw [hF5.2.2.1 59 (by decide), up_s]
          have F57 : a5 57 = a 57 := by rw [hF5.2.2.1 57 (by decide), up_n (by decide)]
          have F57A : a 57 (5 * (A : Int) + 1) = a 4 A := (hag.2.2.1 A (by omega) (by omega)).2.1
          have F57B : a 57 (5 * (B : Int) + 1) = a 4 B := (hag.2.2.1 B (by omega) (by omega)).2.1
          have pb := boF_b hc (x := x) (y := y) (M := M) (A := A) (B := B) (by omega) (by omega)
          obtain ⟨⟨ob1, ob2⟩, ob3, ob4⟩ := bo_ok hc (x := x) (y := y) (M := M) (A := A) (B := B) hm hAm (by omega)
          obtain ⟨rl1, rl2⟩ := hrl
          have feb : -1 ≤ fe ∧ fe ≤ 1000 := by omega
          have hF6 := Fr_k (G := dk_ui (dk_ui g (3 * x) (a 4 A)) (3 * y) (a 4 B)) (by decide) (by decide) hF5
          have hag6 : agr (dk_up a 9 (dk_ui (dk_ui (a 9) x (a 4 A)) y (a 4 B))) i (mv (dk_up a5 59 (dk_ui (dk_ui g (3 * x) (a 4 A)) (3 * y) (a 4 B)))) (mi i2) := by
            refine agr_9 hag hF6 (fun e z1 z2 => ?_)
            rw [ui_n (show ¬ 3 * e + 1 = 3 * y by omega), ui_n (show ¬ 3 * e + 2 = 3 * y by omega), ui_n (show ¬ 3 * e + 1 = 3 * x by omega), ui_n (show ¬ 3 * e + 2 = 3 * x by omega), hg _ (show ¬ 3 * e + 1 = 3 * x by omega) (show ¬ 3 * e + 1 = 3 * y by omega), hg _ (show ¬ 3 * e + 2 = 3 * x by omega) (show ¬ 3 * e + 2 = 3 * y by omega)]
            refine ⟨?_, rfl, rfl⟩
            by_cases e2 : e = y
            · subst e2; rw [ui_s, ui_s]
            · rw [ui_n e2, ui_n (by omega)]
              by_cases e1 : e = x
              · subst e1; rw [ui_s, ui_s]
              · rw [ui_n e1, ui_n (by omega), hg _ (by omega) (by omega)]; exact (hag.2.2.2.1 e z1 z2).1
          have u57 : ∀ f, dk_up a5 59 f 57 = a 57 := fun f => by rw [up_n (by decide)]; exact F57
          rw [wb_6_both_5]
          simp (disch := first | assumption | omega | exact zc_lo | exact zc_hi | exact zz_l | exact zz_u | exact zz_r) only [xa_59, xc_2 gc_6_both_2, xc_2 gc_6_both_4, xc_3 gc_6_both_0, xc_3 gc_6_both_1, xc_3 gc_6_both_3, xl_aload0, xl_iinc8a, xl_iinc8i, xl_iinc8n, xl_iinc9a, xl_iinc9i, xl_iinc9n, xl_iload1, xl_iload10, xl_iload2, xl_iload3, xl_iload4, xl_iload5, xl_iload6, xl_iload7, xl_iload8, xl_iload9, xl_istore10a, xl_istore10i, xl_istore10n, xl_istore4a, xl_istore4i, xl_istore4n, xl_istore5a, xl_istore5i, xl_istore5n, xl_istore6a, xl_istore6i, xl_istore6n, xl_istore7a, xl_istore7i, xl_istore7n, xl_istore8a, xl_istore8i, xl_istore8n, xl_istore9a, xl_istore9i, xl_istore9n, xm_f, xm_n, xm_t, xn_1, xn_2, xn_3, xn_6, xn_7, xn_8, xn_9, xo_53_3, xo_53_7, xr_goto, xr_iadd, xr_ic_ge, xr_iconst, xr_if_eq, xr_if_lt, xr_if_ne, xr_imul, xr_iret, xs_59, xtl_n, xtl_s, xz_i, xz_l, xz_n, xz_r, wb_6_both_0, wb_6_both_1, wb_6_both_2, wb_6_both_3, wb_6_both_6, wb_6_both_7, wb_6_both_8, wb_6_both_9, zz_b, zz_bn, Classical.not_not, true_and, Nat.reduceAdd, Nat.reduceLeDiff, hm3, F59, F57, F57A, F57B, u57, up_s, sp_6_its]
          refine ⟨fun z => absurd z (by omega), fun _ => ?_⟩
          rw [up_up]
          refine sp_mwbD (colN_b hc (by omega) (by omega) (by omega) (by omega)) hag6 (by omega) (fun a7 hs7 => ?_)
          rw [show wo (dk_up a 9 (dk_ui (dk_ui (a 9) x (a 4 A)) y (a 4 B))) i M = boF a i x y M A B from rfl]
          have hF7 := Fr_sA hF6 hs7 (by decide)
          have ih3 := fun fe be l10 hr => ih2 a7 _ fe be l10 hr (fun j hj hj2 => by rw [ui_n hj2, ui_n hj]; exact hg j hj hj2) hF7
          simp (disch := first | assumption | omega | exact zc_lo | exact zc_hi | exact zz_l | exact zz_u | exact zz_r) only [xa_59, xc_2 gc_6_both_2, xc_2 gc_6_both_4, xc_3 gc_6_both_0, xc_3 gc_6_both_1, xc_3 gc_6_both_3, xl_aload0, xl_iinc8a, xl_iinc8i, xl_iinc8n, xl_iinc9a, xl_iinc9i, xl_iinc9n, xl_iload1, xl_iload10, xl_iload2, xl_iload3, xl_iload4, xl_iload5, xl_iload6, xl_iload7, xl_iload8, xl_iload9, xl_istore10a, xl_istore10i, xl_istore10n, xl_istore4a, xl_istore4i, xl_istore4n, xl_istore5a, xl_istore5i, xl_istore5n, xl_istore6a, xl_istore6i, xl_istore6n, xl_istore7a, xl_istore7i, xl_istore7n, xl_istore8a, xl_istore8i, xl_istore8n, xl_istore9a, xl_istore9i, xl_istore9n, xm_f, xm_n, xm_t, xn_1, xn_2, xn_3, xn_6, xn_7, xn_8, xn_9, xo_53_3, xo_53_7, xr_goto, xr_iadd, xr_ic_ge, xr_iconst, xr_if_eq, xr_if_lt, xr_if_ne, xr_imul, xr_iret, xs_59, xtl_n, xtl_s, xz_i, xz_l, xz_n, xz_r, wb_6_both_0, wb_6_both_1, wb_6_both_2, wb_6_both_3, wb_6_both_6, wb_6_both_7, wb_6_both_8, wb_6_both_9, zz_b, zz_bn, Classical.not_not, true_and, Nat.reduceAdd, Nat.reduceLeDiff]
          rw [cs B]
          have take : boF a i x y M A B < (inF (boF a i x y M A) (fun B => 100 * (A : Int) + B) (outF (boF a i x y M) m A) B).1 → ∀ l10, dk_WP g_6_both b_6_both Q 5 [some (.inr (.inr 53)), some (.inl x), some (.inl y), some (.inl M), some (.inl (a 59 (3 * x))), some (.inl (a 59 (3 * y))), some (.inl (100 * (A : Int) + B)), some (.inl (boF a i x y M A B)), some (.inl A), some (.inl ((B + 1 : Nat) : Int)), l10] [] (HH n xs w2 a7 i2) := fun z l10 => ih3 _ _ l10 (by rw [inF_p z]; exact ⟨rfl, Or.inr ⟨rfl, pb.1, pb.2⟩⟩)
          refine ⟨fun z => take (by omega) _, fun z => ⟨fun z2 => ?_, fun z2 => take (by omega) _⟩⟩
          exact ih3 _ _ _ (by rw [inF_n (by omega)]; exact ⟨rl1, rl2⟩)
      exact key2 0 (Nat.zero_le _) a4 g fe be _ hrl hg hF4
  exact key 0 (Nat.zero_le _) a2 (a 59) (-1) 0 none none ⟨rfl, Or.inl ⟨rfl, rfl⟩⟩ (fun _ _ _ => rfl) (by rw [up_id]; exact hF)
theorem op_both (h : Inv N w a i) {x y z : Int} (x1 : -2147483648 ≤ x) (x2 : x ≤ 2147483647) (y1 : -2147483648 ≤ y) (y2 : y ≤ 2147483647) (z1 : -2147483648 ≤ z) (z2 : z ≤ 2147483647) : s_5_both [.inr (.inr 0), .inl x, .inl y, .inl z] (HH n xs w a i) (fun r h => s_6_both [.inr (.inr 53), .inl x, .inl y, .inl z] h (OPQ n xs N r)) := by
  have hc := h.2.1
  have hag := h.2.2.1
  have hmc := colN_A hag hc
  obtain ⟨⟨p1, p2⟩, ⟨s1, s2⟩, ⟨v1, v2⟩, ⟨n1, n2⟩, ⟨o1, o2⟩, ⟨d1, d2⟩, ⟨e1, e2⟩, ⟨k1, k2⟩, hr, ⟨m1, m2⟩, hd, ⟨b1, b2⟩, hb, hs, hz⟩ := id hc
  obtain ⟨hkE, hA2, hA3, hA4, hA5, hA6⟩ := id hag
  have K0 : i 30 = i 0 := hkE 0 (by omega)
  have K1 : i 31 = i 1 := hkE 1 (by omega)
  have K2 : i 32 = i 2 := hkE 2 (by omega)
  have K3 : i 33 = i 3 := hkE 3 (by omega)
  have R0 : a 54 0 = a 2 0 := hA2 0 (by omega) (by omega)
  have R1 : a 54 1 = a 2 1 := hA2 1 (by omega) (by omega)
  have R2 : a 54 2 = a 2 2 := hA2 2 (by omega) (by omega)
  have R3 : a 54 3 = a 2 3 := hA2 3 (by omega) (by omega)
  have R4 : a 54 4 = a 2 4 := hA2 4 (by omega) (by omega)
  have R5 : a 54 5 = a 2 5 := hA2 5 (by omega) (by omega)
  have R6 : a 54 6 = a 2 6 := hA2 6 (by omega) (by omega)
  by_cases c1 : (0 ≤ x ∧ x < i 1) ∧ (0 ≤ y ∧ y < i 1) ∧ ¬ x = y
  · have c1b : (0 ≤ x ∧ x ≤ i 31 - 1) ∧ (0 ≤ y ∧ y ≤ i 31 - 1) ∧ ¬ x = y := by omega
    by_cases c2 : 0 ≤ z ∧ z ≤ 9
    · by_cases c3 : i 0 = 0
      · simp (disch := first | assumption | omega | exact zc_lo | exact zc_hi | exact zz_l | exact zz_u | exact zz_r) only [xa_102, xa_4, xa_9, xc_1 gc_5_both_3, xc_2 gc_5_both_2, xc_2 gc_5_both_4, xc_3 gc_5_both_0, xc_3 gc_5_both_1, xl_aload0, xl_iinc8a, xl_iinc8i, xl_iinc8n, xl_iinc9a, xl_iinc9i, xl_iinc9n, xl_iload1, xl_iload10, xl_iload2, xl_iload3, xl_iload4, xl_iload5, xl_iload6, xl_iload7, xl_iload8, xl_iload9, xl_istore10a, xl_istore10i, xl_istore10n, xl_istore4a, xl_istore4i, xl_istore4n, xl_istore5a, xl_istore5i, xl_istore5n, xl_istore6a, xl_istore6i, xl_istore6n, xl_istore7a, xl_istore7i, xl_istore7n, xl_istore8a, xl_istore8i, xl_istore8n, xl_istore9a, xl_istore9i, xl_istore9n, xm_f, xm_n, xm_t, xn_1, xn_2, xn_3, xn_6, xn_7, xn_8, xo_0_0, xo_0_5, xo_1_1, xo_1_3, xo_1_9, xr_goto, xr_iadd, xr_ic_ge, xr_iconst, xr_if_eq, xr_if_ne, xr_imul, xr_iret, xr_ref, xs_4, xs_9, xtl_n, xtl_s, xz_i, xz_l, xz_n, xz_r, wb_5_both_0, wb_5_both_1, wb_5_both_2, wb_5_both_3, wb_5_both_6, wb_5_both_7, wb_5_both_8, ss_5_both, xa_59, xc_2 gc_6_both_2, xc_2 gc_6_both_4, xc_3 gc_6_both_0, xc_3 gc_6_both_1, xc_3 gc_6_both_3, xl_aload0, xl_iinc8a, xl_iinc8i, xl_iinc8n, xl_iinc9a, xl_iinc9i, xl_iinc9n, xl_iload1, xl_iload10, xl_iload2, xl_iload3, xl_iload4, xl_iload5, xl_iload6, xl_iload7, xl_iload8, xl_iload9, xl_istore10a, xl_istore10i, xl_istore10n, xl_istore4a, xl_istore4i, xl_istore4n, xl_istore5a, xl_istore5i, xl_istore5n, xl_istore6a, xl_istore6i, xl_istore6n, xl_istore7a, xl_istore7i, xl_istore7n, xl_istore8a, xl_istore8i, xl_istore8n, xl_istore9a, xl_istore9i, xl_istore9n, xm_f, xm_n, xm_t, xn_1, xn_2, xn_3, xn_6, xn_7, xn_8, xn_9, xo_53_3, xo_53_7, xr_goto, xr_iadd, xr_ic_ge, xr_iconst, xr_if_eq, xr_if_lt, xr_if_ne, xr_imul, xr_iret, xs_59, xtl_n, xtl_s, xz_i, xz_l, xz_n, xz_r, wb_6_both_0, wb_6_both_1, wb_6_both_2, wb_6_both_3, wb_6_both_6, wb_6_both_7, wb_6_both_8, wb_6_both_9, ss_6_both, zz_b, zz_bn, Classical.not_not, true_and, Nat.reduceAdd, Nat.reduceLeDiff, sp_5_areTwoDrums, sp_6_areTwo, sp_5_isWithin, sp_6_in, sp_5_finding, sp_6_finds, c1, c1b, c2, c3, K0, eq_self, true_implies, false_implies, implies_true, not_true_eq_false, not_false_eq_true, and_true, false_and, and_false, if_true, if_false, Int.reduceEq, Int.reduceSub, Int.reduceAdd, Int.reduceMul, Int.reduceNeg, Int.reduceLT, Int.reduceLE, Int.add_zero]
        exact fnd h 3 (by omega) (by omega)
      · obtain ⟨M, rfl⟩ := nat_of c2.1
        obtain ⟨m, hm⟩ := nat_of k1
        have ob := outF_ok (f := boF a i x y M) (m := m) (by omega) (fun A B hA hB => boF_b hc (by omega) (by omega)) m (Nat.le_refl m)
        obtain ⟨⟨ob1, ob2⟩, ob3, ob4⟩ := ob
        refine cl_both h x1 x2 y1 y2 c1 (by omega) c3 hm (fun w3 a3 i3 hF3 => ?_)
        exact md_both hc hag hF3 x1 x2 y1 y2 c1 (by omega) c3 hm (fun a4 hF4 => OPQ_f h hF4 (by omega) (by omega))
    · simp (disch := first | assumption | omega | exact zc_lo | exact zc_hi | exact zz_l | exact zz_u | exact zz_r) only [xa_102, xa_4, xa_9, xc_1 gc_5_both_3, xc_2 gc_5_both_2, xc_2 gc_5_both_4, xc_3 gc_5_both_0, xc_3 gc_5_both_1, xl_aload0, xl_iinc8a, xl_iinc8i, xl_iinc8n, xl_iinc9a, xl_iinc9i, xl_iinc9n, xl_iload1, xl_iload10, xl_iload2, xl_iload3, xl_iload4, xl_iload5, xl_iload6, xl_iload7, xl_iload8, xl_iload9, xl_istore10a, xl_istore10i, xl_istore10n, xl_istore4a, xl_istore4i, xl_istore4n, xl_istore5a, xl_istore5i, xl_istore5n, xl_istore6a, xl_istore6i, xl_istore6n, xl_istore7a, xl_istore7i, xl_istore7n, xl_istore8a, xl_istore8i, xl_istore8n, xl_istore9a, xl_istore9i, xl_istore9n, xm_f, xm_n, xm_t, xn_1, xn_2, xn_3, xn_6, xn_7, xn_8, xo_0_0, xo_0_5, xo_1_1, xo_1_3, xo_1_9, xr_goto, xr_iadd, xr_ic_ge, xr_iconst, xr_if_eq, xr_if_ne, xr_imul, xr_iret, xr_ref, xs_4, xs_9, xtl_n, xtl_s, xz_i, xz_l, xz_n, xz_r, wb_5_both_0, wb_5_both_1, wb_5_both_2, wb_5_both_3, wb_5_both_6, wb_5_both_7, wb_5_both_8, ss_5_both, xa_59, xc_2 gc_6_both_2, xc_2 gc_6_both_4, xc_3 gc_6_both_0, xc_3 gc_6_both_1, xc_3 gc_6_both_3, xl_aload0, xl_iinc8a, xl_iinc8i, xl_iinc8n, xl_iinc9a, xl_iinc9i, xl_iinc9n, xl_iload1, xl_iload10, xl_iload2, xl_iload3, xl_iload4, xl_iload5, xl_iload6, xl_iload7, xl_iload8, xl_iload9, xl_istore10a, xl_istore10i, xl_istore10n, xl_istore4a, xl_istore4i, xl_istore4n, xl_istore5a, xl_istore5i, xl_istore5n, xl_istore6a, xl_istore6i, xl_istore6n, xl_istore7a, xl_istore7i, xl_istore7n, xl_istore8a, xl_istore8i, xl_istore8n, xl_istore9a, xl_istore9i, xl_istore9n, xm_f, xm_n, xm_t, xn_1, xn_2, xn_3, xn_6, xn_7, xn_8, xn_9, xo_53_3, xo_53_7, xr_goto, xr_iadd, xr_ic_ge, xr_iconst, xr_if_eq, xr_if_lt, xr_if_ne, xr_imul, xr_iret, xs_59, xtl_n, xtl_s, xz_i, xz_l, xz_n, xz_r, wb_6_both_0, wb_6_both_1, wb_6_both_2, wb_6_both_3, wb_6_both_6, wb_6_both_7, wb_6_both_8, wb_6_both_9, ss_6_both, zz_b, zz_bn, Classical.not_not, true_and, Nat.reduceAdd, Nat.reduceLeDiff, sp_5_areTwoDrums, sp_6_areTwo, sp_5_isWithin, sp_6_in, sp_5_finding, sp_6_finds, c1, c1b, c2, true_implies, false_implies, implies_true, not_true_eq_false, not_false_eq_true, and_true, false_and, and_false, if_true, if_false, Int.reduceEq, Int.reduceSub, Int.reduceAdd, Int.reduceMul, Int.reduceNeg, Int.reduceLT, Int.reduceLE, Int.add_zero]
      exact fnd h 0 (by omega) (by omega)
  · have c1b : ¬ ((0 ≤ x ∧ x ≤ i 31 - 1) ∧ (0 ≤ y ∧ y ≤ i 31 - 1) ∧ ¬ x = y) := by omega
    simp (disch := first | assumption | omega | exact zc_lo | exact zc_hi | exact zz_l | exact zz_u | exact zz_r) only [xa_102, xa_4, xa_9, xc_1 gc_5_both_3, xc_2 gc_5_both_2, xc_2 gc_5_both_4, xc_3 gc_5_both_0, xc_3 gc_5_both_1, xl_aload0, xl_iinc8a, xl_iinc8i, xl_iinc8n, xl_iinc9a, xl_iinc9i, xl_iinc9n, xl_iload1, xl_iload10, xl_iload2, xl_iload3, xl_iload4, xl_iload5, xl_iload6, xl_iload7, xl_iload8, xl_iload9, xl_istore10a, xl_istore10i, xl_istore10n, xl_istore4a, xl_istore4i, xl_istore4n, xl_istore5a, xl_istore5i, xl_istore5n, xl_istore6a, xl_istore6i, xl_istore6n, xl_istore7a, xl_istore7i, xl_istore7n, xl_istore8a, xl_istore8i, xl_istore8n, xl_istore9a, xl_istore9i, xl_istore9n, xm_f, xm_n, xm_t, xn_1, xn_2, xn_3, xn_6, xn_7, xn_8, xo_0_0, xo_0_5, xo_1_1, xo_1_3, xo_1_9, xr_goto, xr_iadd, xr_ic_ge, xr_iconst, xr_if_eq, xr_if_ne, xr_imul, xr_iret, xr_ref, xs_4, xs_9, xtl_n, xtl_s, xz_i, xz_l, xz_n, xz_r, wb_5_both_0, wb_5_both_1, wb_5_both_2, wb_5_both_3, wb_5_both_6, wb_5_both_7, wb_5_both_8, ss_5_both, xa_59, xc_2 gc_6_both_2, xc_2 gc_6_both_4, xc_3 gc_6_both_0, xc_3 gc_6_both_1, xc_3 gc_6_both_3, xl_aload0, xl_iinc8a, xl_iinc8i, xl_iinc8n, xl_iinc9a, xl_iinc9i, xl_iinc9n, xl_iload1, xl_iload10, xl_iload2, xl_iload3, xl_iload4, xl_iload5, xl_iload6, xl_iload7, xl_iload8, xl_iload9, xl_istore10a, xl_istore10i, xl_istore10n, xl_istore4a, xl_istore4i, xl_istore4n, xl_istore5a, xl_istore5i, xl_istore5n, xl_istore6a, xl_istore6i, xl_istore6n, xl_istore7a, xl_istore7i, xl_istore7n, xl_istore8a, xl_istore8i, xl_istore8n, xl_istore9a, xl_istore9i, xl_istore9n, xm_f, xm_n, xm_t, xn_1, xn_2, xn_3, xn_6, xn_7, xn_8, xn_9, xo_53_3, xo_53_7, xr_goto, xr_iadd, xr_ic_ge, xr_iconst, xr_if_eq, xr_if_lt, xr_if_ne, xr_imul, xr_iret, xs_59, xtl_n, xtl_s, xz_i, xz_l, xz_n, xz_r, wb_6_both_0, wb_6_both_1, wb_6_both_2, wb_6_both_3, wb_6_both_6, wb_6_both_7, wb_6_both_8, wb_6_both_9, ss_6_both, zz_b, zz_bn, Classical.not_not, true_and, Nat.reduceAdd, Nat.reduceLeDiff, sp_5_areTwoDrums, sp_6_areTwo, sp_5_isWithin, sp_6_in, sp_5_finding, sp_6_finds, c1, c1b, true_implies, false_implies, implies_true, not_true_eq_false, not_false_eq_true, and_true, false_and, and_false, if_true, if_false, Int.reduceEq, Int.reduceSub, Int.reduceAdd, Int.reduceMul, Int.reduceNeg, Int.reduceLT, Int.reduceLE, Int.add_zero]
    exact fnd h 0 (by omega) (by omega)
end OU1
