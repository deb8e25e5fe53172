/-! CALLS OF BOTH: a column that falls in -/
def CI : List Nat := [0, 9, 10, 11, 12, 13, 14, 15, 30, 34, 35, 36, 37, 38, 39, 40, 41]
section CO1
variable {N : Int} {n : Nat} {xs : Int → Int} {w : Nat → Nat} {a : Nat → Int → Int} {i : Nat → Int} {Q : dk_Q} {b : Int → Int} {a2 : Nat → Int → Int} {i2 : Nat → Int}
theorem Inv_w (h : Inv N w a i) (hA : sA SC a a2) (hI : sI (9 :: 34 :: SJ) i i2) (h9 : i2 9 = 0) (h34 : i2 34 = 0) : Inv N w a2 i2 := by
  have hI2 : sI SJ i (dk_up (dk_up i2 9 (i 9)) 34 (i 34)) := fun j hj => by
    by_cases e1 : j = 34
    · subst e1; rw [up_s]
    · rw [up_n e1]
      by_cases e2 : j = 9
      · subst e2; rw [up_s]
      · rw [up_n e2]
        refine hI j (fun z => ?_)
        simp only [List.mem_cons] at z
        rcases z with z | z | z
        · exact e2 z
        · exact e1 z
        · exact hj z
  have q := Inv_scr h h.1.1 h.1.2 hA hI2
  obtain ⟨g1, g2, g3, g4, ⟨g5, g5b, g5c⟩, g6, g7, g8⟩ := q
  have e : i2 = dk_up (dk_up (dk_up (dk_up i2 9 (i 9)) 34 (i 34)) 9 0) 34 0 := by
    funext j
    by_cases e1 : j = 34
    · subst e1; rw [up_s]; exact h34
    · rw [up_n e1]
      by_cases e2 : j = 9
      · subst e2; rw [up_s]; exact h9
      · rw [up_n e2, up_n e1, up_n e2]
  rw [e]
  generalize dk_up (dk_up i2 9 (i 9)) 34 (i 34) = i3 at g2 g3 g4 g5 g5b g5c g6
  exact ⟨g1, g2, agr_I g3 (fun j hj => by rw [up_n (by omega), up_n (by omega)]) (fun j hj => by rw [up_n (by omega), up_n (by omega)]), g4, ⟨by rw [up_n (by decide), up_s]; omega, by rw [up_s, up_n (by decide), up_s], fun j z1 z2 => by rw [up_n (by decide), up_s] at z2; omega⟩, g6, g7, g8⟩
theorem Inv_f2 (h : Inv N w a i) {k : Int} (k1 : 0 ≤ k) (k2 : k < 7) (h52 : a2 52 = bm (a 52) k) (h62 : a2 62 = bm (a 62) k) (ho : ∀ j, ¬ j = 52 → ¬ j = 62 → a2 j = a j) : Inv (N + 1) w a2 i := by
  have q := Inv_fi h k1 k2
  have e : dk_up (dk_up a 52 (dk_ui (a 52) k (a 52 k + 1))) 62 (dk_ui (dk_up a 52 (dk_ui (a 52) k (a 52 k + 1)) 62) k (dk_up a 52 (dk_ui (a 52) k (a 52 k + 1)) 62 k + 1)) = a2 := by
    rw [up_n (show ¬ 62 = 52 by decide)]
    funext j
    by_cases e1 : j = 62
    · subst e1; rw [up_s, h62]; rfl
    · rw [up_n e1]
      by_cases e2 : j = 52
      · subst e2; rw [up_s, h52]; rfl
      · rw [up_n e2]; exact (ho j e2 e1).symm
  rw [e] at q
  exact q
theorem Inv_c (h : Inv N w a i) (hA : sA [3, 4, 5, 6, 7, 8, 29, 57, 58, 64] a a2) (hI : sI CI i i2) (h9 : i2 9 = 0) (h34 : i2 34 = 0) (hc : colN a2 i2) (hag : agr a2 i2 (mv a2) (mi i2)) : Inv (N + 1) w a2 i2 := by
  have hf := fi_ok h
  have hkc : kc a2 = kc a := by
    unfold kc
    rw [hA 15 (by decide), hA 16 (by decide), hA 17 (by decide), hA 18 (by decide), hA 19 (by decide), hA 20 (by decide), hA 21 (by decide), hA 22 (by decide), hA 23 (by decide), hA 24 (by decide), hA 25 (by decide), hA 26 (by decide)]
  have hkk : kk i2 = kk i := by
    unfold kk
    rw [hI 4 (by decide), hI 5 (by decide), hI 6 (by decide), hI 7 (by decide)]
  have hkm : km a2 = km a := by unfold km; rw [hA 75 (by decide)]
  have hkn : kn a2 = kn a := by unfold kn; rw [hA 75 (by decide)]
  obtain ⟨g1, g2, g3, g4, g5, g6, -, g8⟩ := h
  refine ⟨g1, hc, hag, ?_, ?_, ?_, ?_, ?_⟩
  · rw [hI 8 (by decide), hI 42 (by decide), hkc, hkk, hkm, hkn]; exact g4
  · rw [h9, h34]; exact ⟨by omega, rfl, fun j z1 z2 => by omega⟩
  · rw [hI 16 (by decide), hI 17 (by decide), hI 18 (by decide), hI 19 (by decide), hI 20 (by decide), hI 21 (by decide), hI 22 (by decide), hI 23 (by decide), hA 35 (by decide), hA 36 (by decide), hA 37 (by decide), hA 38 (by decide), hA 71 (by decide), hA 72 (by decide), hA 73 (by decide)]; exact g6
  · rw [hA 52 (by decide), hA 62 (by decide)]; exact hf
  · rw [hA 55 (by decide), hA 56 (by decide)]; exact g8
theorem stop_u {g h : Nat} (h1 : Pre b g) (h2 : ¬ (GO b (cur b g) = true ∧ tK b (GC b (cur b g)) = 3)) (h3 : Pre b h) (h4 : ¬ (GO b (cur b h) = true ∧ tK b (GC b (cur b h)) = 3)) : g = h := by
  rcases Nat.lt_trichotomy g h with z | z | z
  · exact absurd (h3 g z) h2
  · exact z
  · exact absurd (h1 h z) h4
/-- how many the reference would have -/
theorem md_many (hT : ∃ L, Tp b L) {g : Nat} (hP : Pre b g) (hG : GO b (cur b g) = true) {R : Int} (hR : 0 ≤ R) (hR2 : R ≤ 24) (h0 : i 30 = R) (h41 : i 41 = g + 1) (hv : ∀ h : Nat, h ≤ g → a 64 (6 * (h : Int) + 1) = GV b (cur b h) 1) : (∀ (l1 l3 : Option dk_V), R + smG b (g + 1) ≤ 24 → dk_WP g_6_column b_6_column Q 9 [some (.inr (.inr 53)), l1, some (.inl 0), l3] [] (HH n xs w a i)) → (24 < R + smG b (g + 1) → s_6_finds [.inr (.inr 53), .inl 1] (HH n xs w a i) Q) → ∀ l1 l2 l3, dk_WP g_6_column b_6_column Q 5 [some (.inr (.inr 53)), l1, l2, l3] [] (HH n xs w a i) := by
  intro hQ hQ2 l1 l2 l3
  obtain ⟨L, hT⟩ := hT
  have gos : ∀ h : Nat, h < g + 1 → GO b (cur b h) = true := fun h hh => by
    by_cases e : h = g
    · subst e; exact hG
    · exact (hP h (by omega)).1
  have g10 := Pre_11 hT hP
  simp (disch := first | assumption | omega | exact zc_lo | exact zc_hi | exact zz_l | exact zz_u | exact zz_r) only [xa_57, xa_58, xa_64, xc_1 gc_6_column_0, xc_1 gc_6_column_1, xc_2 gc_6_column_2, xc_3 gc_6_column_3, xl_aload0, xl_iinc2a, xl_iinc2i, xl_iinc2n, xl_iinc3a, xl_iinc3i, xl_iinc3n, xl_iload1, xl_iload2, xl_iload3, xl_istore1a, xl_istore1i, xl_istore1n, xl_istore2a, xl_istore2i, xl_istore2n, xl_istore3a, xl_istore3i, xl_istore3n, xm_f, xm_n, xm_t, xn_11, xn_13, xn_14, xn_2, xn_3, xn_5, xn_7, xn_8, xo_53_15, xo_53_17, xo_53_19, xo_53_20, xo_53_21, xo_53_22, xo_53_3, xo_53_4, xo_53_5, xp_53_14, xp_53_16, xp_53_20, xp_53_22, xp_53_3, xr_dupi, xr_dupr, xr_goto, xr_iadd, xr_ic_ge, xr_ic_le, xr_ic_ne, xr_iconst, xr_if_eq, xr_if_ne, xr_imul, xr_iret, xr_isub, xs_57, xs_58, xs_64, xtl_n, xtl_s, xz_i, xz_l, xz_n, xz_r, zz_b, zz_bn, Classical.not_not, true_and, Nat.reduceAdd, Nat.reduceLeDiff, wb_6_column_5, h0, true_implies, false_implies, implies_true, not_true_eq_false, not_false_eq_true, and_true, false_and, and_false, if_true, if_false, Int.reduceEq, Int.reduceSub, Int.reduceAdd, Int.reduceMul, Int.reduceNeg, Int.reduceLT, Int.reduceLE, Int.add_zero]
  refine lp_up (m := g + 1) (P := fun d => ∀ l3, dk_WP g_6_column b_6_column Q 6 [some (.inr (.inr 53)), some (.inl (R + smG b d)), some (.inl d), l3] [] (HH n xs w a i)) ?_ ?_ 0 (Nat.zero_le _) _ |> (fun q => by
    rw [show R + smG b 0 = R by have : smG b 0 = 0 := rfl; omega] at q
    exact q)
  · intro l3
    have sb := smG_b hT (g + 1) gos
    rw [wb_6_column_6]
    simp (disch := first | assumption | omega | exact zc_lo | exact zc_hi | exact zz_l | exact zz_u | exact zz_r) only [xa_57, xa_58, xa_64, xc_1 gc_6_column_0, xc_1 gc_6_column_1, xc_2 gc_6_column_2, xc_3 gc_6_column_3, xl_aload0, xl_iinc2a, xl_iinc2i, xl_iinc2n, xl_iinc3a, xl_iinc3i, xl_iinc3n, xl_iload1, xl_iload2, xl_iload3, xl_istore1a, xl_istore1i, xl_istore1n, xl_istore2a, xl_istore2i, xl_istore2n, xl_istore3a, xl_istore3i, xl_istore3n, xm_f, xm_n, xm_t, xn_11, xn_13, xn_14, xn_2, xn_3, xn_5, xn_7, xn_8, xo_53_15, xo_53_17, xo_53_19, xo_53_20, xo_53_21, xo_53_22, xo_53_3, xo_53_4, xo_53_5, xp_53_14, xp_53_16, xp_53_20, xp_53_22, xp_53_3, xr_dupi, xr_dupr, xr_goto, xr_iadd, xr_ic_ge, xr_ic_le, xr_ic_ne, xr_iconst, xr_if_eq, xr_if_ne, xr_imul, xr_iret, xr_isub, xs_57, xs_58, xs_64, xtl_n, xtl_s, xz_i, xz_l, xz_n, xz_r, zz_b, zz_bn, Classical.not_not, true_and, Nat.reduceAdd, Nat.reduceLeDiff, h41, wb_6_column_7, wb_6_column_8]
    refine ⟨fun _ => ⟨fun z => hQ _ _ z, fun z => ?_⟩, fun z => absurd (by omega) z⟩
    have q := hQ2 (by omega)
    rw [sp_6_finds (by omega) (by omega)] at q ⊢
    simp (disch := first | assumption | omega | exact zc_lo | exact zc_hi | exact zz_l | exact zz_u | exact zz_r) only [xa_57, xa_58, xa_64, xc_1 gc_6_column_0, xc_1 gc_6_column_1, xc_2 gc_6_column_2, xc_3 gc_6_column_3, xl_aload0, xl_iinc2a, xl_iinc2i, xl_iinc2n, xl_iinc3a, xl_iinc3i, xl_iinc3n, xl_iload1, xl_iload2, xl_iload3, xl_istore1a, xl_istore1i, xl_istore1n, xl_istore2a, xl_istore2i, xl_istore2n, xl_istore3a, xl_istore3i, xl_istore3n, xm_f, xm_n, xm_t, xn_11, xn_13, xn_14, xn_2, xn_3, xn_5, xn_7, xn_8, xo_53_15, xo_53_17, xo_53_19, xo_53_20, xo_53_21, xo_53_22, xo_53_3, xo_53_4, xo_53_5, xp_53_14, xp_53_16, xp_53_20, xp_53_22, xp_53_3, xr_dupi, xr_dupr, xr_goto, xr_iadd, xr_ic_ge, xr_ic_le, xr_ic_ne, xr_iconst, xr_if_eq, xr_if_ne, xr_imul, xr_iret, xr_isub, xs_57, xs_58, xs_64, xtl_n, xtl_s, xz_i, xz_l, xz_n, xz_r, zz_b, zz_bn, Classical.not_not, true_and, Nat.reduceAdd, Nat.reduceLeDiff]
    exact q
  · intro d hdm ih l3
    have sb := smG_b hT d (fun h hh => gos h (by omega))
    have e64 := hv d (by omega)
    have ih := fun l3 => ih l3
    rw [show smG b (d + 1) = smG b d + GV b (cur b d) 1 from rfl] at ih
    rw [wb_6_column_6]
    simp (disch := first | assumption | omega | exact zc_lo | exact zc_hi | exact zz_l | exact zz_u | exact zz_r) only [xa_57, xa_58, xa_64, xc_1 gc_6_column_0, xc_1 gc_6_column_1, xc_2 gc_6_column_2, xc_3 gc_6_column_3, xl_aload0, xl_iinc2a, xl_iinc2i, xl_iinc2n, xl_iinc3a, xl_iinc3i, xl_iinc3n, xl_iload1, xl_iload2, xl_iload3, xl_istore1a, xl_istore1i, xl_istore1n, xl_istore2a, xl_istore2i, xl_istore2n, xl_istore3a, xl_istore3i, xl_istore3n, xm_f, xm_n, xm_t, xn_11, xn_13, xn_14, xn_2, xn_3, xn_5, xn_7, xn_8, xo_53_15, xo_53_17, xo_53_19, xo_53_20, xo_53_21, xo_53_22, xo_53_3, xo_53_4, xo_53_5, xp_53_14, xp_53_16, xp_53_20, xp_53_22, xp_53_3, xr_dupi, xr_dupr, xr_goto, xr_iadd, xr_ic_ge, xr_ic_le, xr_ic_ne, xr_iconst, xr_if_eq, xr_if_ne, xr_imul, xr_iret, xr_isub, xs_57, xs_58, xs_64, xtl_n, xtl_s, xz_i, xz_l, xz_n, xz_r, zz_b, zz_bn, Classical.not_not, true_and, Nat.reduceAdd, Nat.reduceLeDiff, h41, e64]
    rw [cs d]
    refine ⟨fun z => absurd z (by omega), fun _ => ?_⟩
    have q := ih none
    rw [← Int.add_assoc] at q
    exact q
theorem op_column (h : Inv N w a i) : s_5_column [.inr (.inr 0)] (HH n xs w a i) (fun r h => s_6_column [.inr (.inr 53)] h (OPQ n xs N r)) := by
  have hc := h.2.1
  have hag := h.2.2.1
  have hmc := colN_A hag hc
  obtain ⟨⟨p1, p2⟩, ⟨s1, s2⟩, ⟨v1, v2⟩, ⟨n1, n2⟩, ⟨o1, o2⟩, ⟨d1, d2⟩, ⟨e1, e2⟩, ⟨k1, k2⟩, hr, ⟨m1, m2⟩, hd, ⟨b1, b2⟩, hb, hs, hz⟩ := id hc
  obtain ⟨hkE, hA2, hA3, hA4, hA5, hA6⟩ := id hag
  have K0 : i 30 = i 0 := hkE 0 (by omega)
  have K1 : i 31 = i 1 := hkE 1 (by omega)
  have K2 : i 32 = i 2 := hkE 2 (by omega)
  have K3 : i 33 = i 3 := hkE 3 (by omega)
  have R0 : a 54 0 = a 2 0 := hA2 0 (by omega) (by omega)
  have R1 : a 54 1 = a 2 1 := hA2 1 (by omega) (by omega)
  have R2 : a 54 2 = a 2 2 := hA2 2 (by omega) (by omega)
  have R3 : a 54 3 = a 2 3 := hA2 3 (by omega) (by omega)
  have R4 : a 54 4 = a 2 4 := hA2 4 (by omega) (by omega)
  have R5 : a 54 5 = a 2 5 := hA2 5 (by omega) (by omega)
  have R6 : a 54 6 = a 2 6 := hA2 6 (by omega) (by omega)
  obtain ⟨-, -, -, -, ⟨⟨L0, L1⟩, hL, hTape⟩, -, -, -⟩ := id h
  generalize hB : byB (a 28) (i 9) = b
  have hT : Tp b (i 9) := by rw [← hB]; exact Tp_of ⟨L0, L1⟩ (fun j z1 z2 => (hTape j z1 z2).1)
  have hBm : byB (a 63) (i 34) = b := by
    rw [← hB, hL]
    funext s
    unfold byB
    by_cases z : 0 ≤ s ∧ s < i 9
    · rw [if_pos z, if_pos z]; exact (hTape s z.1 z.2).2
    · rw [if_neg z, if_neg z]
  have sub1 : ∀ k ∈ TG, k ∈ 9 :: 34 :: SJ := by decide
  have sub2 : ∀ k ∈ MH, k ∈ 9 :: 34 :: SJ := by decide
  simp (disch := first | assumption | omega | exact zc_lo | exact zc_hi | exact zz_l | exact zz_u | exact zz_r) only [xc_1 gc_5_column_0, xc_2 gc_5_column_1, xc_3 gc_5_column_2, xc_3 gc_5_column_3, xl_aload0, xl_iinc2a, xl_iinc2i, xl_iinc2n, xl_iinc3a, xl_iinc3i, xl_iinc3n, xl_iload1, xl_iload2, xl_iload3, xl_istore1a, xl_istore1i, xl_istore1n, xl_istore2a, xl_istore2i, xl_istore2n, xl_istore3a, xl_istore3i, xl_istore3n, xm_f, xm_n, xm_t, xn_1, xn_2, xn_5, xn_6, xo_0_0, xo_0_3, xo_1_1, xo_27_2, xo_27_3, xp_27_1, xr_goto, xr_ic_eq, xr_ic_ge, xr_ic_le, xr_iconst, xr_iret, xr_isub, xtl_n, xtl_s, xz_i, xz_l, xz_n, xz_r, wb_5_column_0, wb_5_column_1, wb_5_column_2, wb_5_column_5, wb_5_column_6, ss_5_column, zz_b, zz_bn, Classical.not_not, true_and, Nat.reduceAdd, Nat.reduceLeDiff, true_implies, false_implies, implies_true, not_true_eq_false, not_false_eq_true, and_true, false_and, and_false, if_true, if_false, Int.reduceEq, Int.reduceSub, Int.reduceAdd, Int.reduceMul, Int.reduceNeg, Int.reduceLT, Int.reduceLE, Int.add_zero]
  refine sp_3_readText hT hB (fun a3 i3 g hs3 hI3 hP hno => ?_) (fun a3 i3 g hs3 hI3 hP hG ht0 k10 k11 hv => ?_)
  · -- a text that isn't right
    have cb := cur_in hT g
    have gb := GC_in hT cb.1 cb.2
    have s1 := tS_ge (b := b) (c := GC b (cur b g))
    have s2 := tS_le hT gb.2
    have n1 : ¬ tS b (GC b (cur b g)) = -1 := by omega
    simp (disch := first | assumption | omega | exact zc_lo | exact zc_hi | exact zz_l | exact zz_u | exact zz_r) only [xc_1 gc_5_column_0, xc_2 gc_5_column_1, xc_3 gc_5_column_2, xc_3 gc_5_column_3, xl_aload0, xl_iinc2a, xl_iinc2i, xl_iinc2n, xl_iinc3a, xl_iinc3i, xl_iinc3n, xl_iload1, xl_iload2, xl_iload3, xl_istore1a, xl_istore1i, xl_istore1n, xl_istore2a, xl_istore2i, xl_istore2n, xl_istore3a, xl_istore3i, xl_istore3n, xm_f, xm_n, xm_t, xn_1, xn_2, xn_5, xn_6, xo_0_0, xo_0_3, xo_1_1, xo_27_2, xo_27_3, xp_27_1, xr_goto, xr_ic_eq, xr_ic_ge, xr_ic_le, xr_iconst, xr_iret, xr_isub, xtl_n, xtl_s, xz_i, xz_l, xz_n, xz_r, wb_5_column_0, wb_5_column_1, wb_5_column_2, wb_5_column_5, wb_5_column_6, zz_b, zz_bn, Classical.not_not, true_and, Nat.reduceAdd, Nat.reduceLeDiff, n1, true_implies, false_implies, implies_true, not_true_eq_false, not_false_eq_true, and_true, false_and, and_false, if_true, if_false, Int.reduceEq, Int.reduceSub, Int.reduceAdd, Int.reduceMul, Int.reduceNeg, Int.reduceLT, Int.reduceLE, Int.add_zero]
    have e34 : dk_up i3 9 0 34 = i 9 := by rw [up_n (by decide), hI3 34 (by decide)]; exact hL
    have hs9 : sI (9 :: 34 :: SJ) i (dk_up i3 9 0) := sI_up (sI_w hI3 sub1) (by simp) _
    refine md_text (i := dk_up i3 9 0) (a := a3) (by rw [e34]; exact hT) (by rw [e34, hs3 63 (by decide), ← hL]; exact hBm) (fun a4 i4 g2 hs4 hI4 k34 hP2 hno2 => ?_) (fun a4 i4 g2 hs4 hI4 k34 hP2 hG2 ht2 => ?_)
    · have e : g2 = g := stop_u hP2 (fun q => hno2 ⟨q.1, Or.inl q.2⟩) hP (fun q => hno ⟨q.1, Or.inl q.2⟩)
      subst e
      refine OPQ_i (by omega) (by omega) (Inv_1 (Inv_w h (sA_tr (sA_w hs3 (by decide)) (sA_w hs4 (by decide))) (sI_tr hs9 (sI_w hI4 sub2)) ?_ k34))
      rw [hI4 9 (by decide), up_s]
    · have e : g2 = g := stop_u hP2 (fun q => by omega) hP (fun q => hno ⟨q.1, Or.inl q.2⟩)
      subst e
      exact absurd ⟨hG2, Or.inr ht2⟩ hno
  · -- a right one
    have gos : ∀ k : Nat, k < g + 1 → GO b (cur b k) = true := fun k hk => by
      by_cases e : k = g
      · subst e; exact hG
      · exact (hP k (by omega)).1
    have g10 := Pre_11 hT hP
    have sb := smG_b hT (g + 1) gos
    have nstop : ¬ (GO b (cur b g) = true ∧ tK b (GC b (cur b g)) = 3) := fun q => by omega
    have e0 : dk_up i3 9 0 0 = i 0 := by rw [up_n (by decide), hI3 0 (by decide)]
    have e11 : dk_up i3 9 0 11 = smG b (g + 1) := by rw [up_n (by decide)]; exact k11
    have e10 : dk_up i3 9 0 10 = g + 1 := by rw [up_n (by decide)]; exact k10
    have e30 : dk_up i3 9 0 30 = i 0 := by rw [up_n (by decide), hI3 30 (by decide)]; exact K0
    have e34 : dk_up i3 9 0 34 = i 9 := by rw [up_n (by decide), hI3 34 (by decide)]; exact hL
    have e9 : dk_up i3 9 0 9 = 0 := up_s
    have hs9 : sI (9 :: 34 :: SJ) i (dk_up i3 9 0) := sI_up (sI_w hI3 sub1) (by simp) _
    by_cases full : smG b (g + 1) ≤ 24 - i 0
    · simp (disch := first | assumption | omega | exact zc_lo | exact zc_hi | exact zz_l | exact zz_u | exact zz_r) only [xc_1 gc_5_column_0, xc_2 gc_5_column_1, xc_3 gc_5_column_2, xc_3 gc_5_column_3, xl_aload0, xl_iinc2a, xl_iinc2i, xl_iinc2n, xl_iinc3a, xl_iinc3i, xl_iinc3n, xl_iload1, xl_iload2, xl_iload3, xl_istore1a, xl_istore1i, xl_istore1n, xl_istore2a, xl_istore2i, xl_istore2n, xl_istore3a, xl_istore3i, xl_istore3n, xm_f, xm_n, xm_t, xn_1, xn_2, xn_5, xn_6, xo_0_0, xo_0_3, xo_1_1, xo_27_2, xo_27_3, xp_27_1, xr_goto, xr_ic_eq, xr_ic_ge, xr_ic_le, xr_iconst, xr_iret, xr_isub, xtl_n, xtl_s, xz_i, xz_l, xz_n, xz_r, wb_5_column_0, wb_5_column_1, wb_5_column_2, wb_5_column_5, wb_5_column_6, zz_b, zz_bn, Classical.not_not, true_and, Nat.reduceAdd, Nat.reduceLeDiff, e0, e11, full, eq_self, true_implies, false_implies, implies_true, not_true_eq_false, not_false_eq_true, and_true, false_and, and_false, if_true, if_false, Int.reduceEq, Int.reduceSub, Int.reduceAdd, Int.reduceMul, Int.reduceNeg, Int.reduceLT, Int.reduceLE, Int.add_zero]
      refine cl_fill ⟨_, hT⟩ hP hG k1 (by omega) e0 e10 hv (fun a4 i4 hs4 hI4 f0 hF4 hU4 => ?_) _ _
      have f34 : i4 34 = i 9 := by rw [hI4 34 (by decide)]; exact e34
      refine md_text (i := i4) (a := a4) (by rw [f34]; exact hT) (by rw [f34, hs4 63 (by decide), hs3 63 (by decide), ← hL]; exact hBm) (fun a5 i5 g2 hs5 hI5 k34 hP2 hno2 => ?_) (fun a5 i5 g2 hs5 hI5 k34 hP2 hG2 ht2 k41 hv5 l1 l2 l3 => ?_)
      · have e : g2 = g := stop_u hP2 (fun q => hno2 ⟨q.1, Or.inl q.2⟩) hP nstop
        subst e
        exact absurd ⟨hG, Or.inr ht0⟩ hno2
      · have e : g2 = g := stop_u hP2 (fun q => by omega) hP nstop
        subst e
        have f30 : i5 30 = i 0 := by rw [hI5 30 (by decide), hI4 30 (by decide)]; exact e30
        refine md_many ⟨_, hT⟩ hP hG k1 k2 f30 k41 (fun k hk => (hv5 k hk).2.1) (fun l1 l3 _ => ?_) (fun z => by omega) _ _ _
        refine md_fill ⟨_, hT⟩ hP hG k1 (by omega) f30 k41 hv5 (fun a6 i6 hs6 hI6 m30 hF6 hU6 => ?_) _ _
        refine OPQ_i (by omega) (by omega) ?_
        have A4 : ∀ k, 2 ≤ k → k ≤ 13 → a6 k = a4 k := fun k z1 z2 => by rw [hs6 k (by intro z; simp only [List.mem_cons, List.not_mem_nil, or_false] at z; omega), hs5 k (by intro z; simp only [List.mem_cons, List.not_mem_nil, or_false] at z; omega)]
        have A0 : ∀ k, 2 ≤ k → k ≤ 13 → ¬ (3 ≤ k ∧ k ≤ 8) → a6 k = a k := fun k z1 z2 z3 => by rw [A4 k z1 z2, hs4 k (by intro z; simp only [List.mem_cons, List.not_mem_nil, or_false] at z; omega), hs3 k (by intro z; simp only [List.mem_cons, List.not_mem_nil, or_false] at z; omega)]
        have hF : FI a6 b (g2 + 1) (i 0) (smG b (g2 + 1)) := by
          unfold FI at hF4 ⊢
          rw [A4 3 (by omega) (by omega), A4 4 (by omega) (by omega), A4 5 (by omega) (by omega), A4 6 (by omega) (by omega), A4 7 (by omega) (by omega), A4 8 (by omega) (by omega)]
          exact hF4
        have hU : Un a6 a (i 0) := by
          unfold Un at hU4 ⊢
          rw [A4 3 (by omega) (by omega), A4 4 (by omega) (by omega), A4 5 (by omega) (by omega), A4 6 (by omega) (by omega), A4 7 (by omega) (by omega), A4 8 (by omega) (by omega)]
          rw [hs3 3 (by decide), hs3 4 (by decide), hs3 5 (by decide), hs3 6 (by decide), hs3 7 (by decide), hs3 8 (by decide)] at hU4
          exact hU4
        have mv5 : mv a5 = mv a := by
          have q : ∀ k, 54 ≤ k → k ≤ 61 → a5 k = a k := fun k z1 z2 => by rw [hs5 k (by intro z; simp only [List.mem_cons, List.not_mem_nil, or_false] at z; omega), hs4 k (by intro z; simp only [List.mem_cons, List.not_mem_nil, or_false] at z; omega), hs3 k (by intro z; simp only [List.mem_cons, List.not_mem_nil, or_false] at z; omega)]
          unfold mv
          rw [q 54 (by omega) (by omega), q 57 (by omega) (by omega), q 58 (by omega) (by omega), q 59 (by omega) (by omega), q 60 (by omega) (by omega), q 61 (by omega) (by omega)]
        rw [mv5] at hU6
        have g0 : i6 0 = i 0 + smG b (g2 + 1) := by rw [hI6 0 (by decide), hI5 0 (by decide)]; exact f0
        have I6 : ∀ k, k ∉ CI → i6 k = i k := fun k hk => by
          have n1 : k ∉ [30] := fun z => hk (by simp only [CI, List.mem_cons, List.not_mem_nil, or_false] at z ⊢; omega)
          have n2 : k ∉ MH := fun z => hk (by simp only [CI, MH, List.mem_cons, List.not_mem_nil, or_false] at z ⊢; omega)
          have n3 : k ∉ [0] := fun z => hk (by simp only [CI, List.mem_cons, List.not_mem_nil, or_false] at z ⊢; omega)
          have n4 : ¬ k = 9 := fun z => hk (by simp only [CI, List.mem_cons, List.not_mem_nil, or_false]; omega)
          have n5 : k ∉ TG := fun z => hk (by simp only [CI, TG, List.mem_cons, List.not_mem_nil, or_false] at z ⊢; omega)
          rw [hI6 k n1, hI5 k n2, hI4 k n3, up_n n4, hI3 k n5]
        have g1 : i6 1 = i 1 := I6 1 (by decide)
        have g2e : i6 2 = i 2 := I6 2 (by decide)
        have g3 : i6 3 = i 3 := I6 3 (by decide)
        have g9 : i6 9 = 0 := by rw [hI6 9 (by decide), hI5 9 (by decide), hI4 9 (by decide)]; exact e9
        have g34 : i6 34 = 0 := by rw [hI6 34 (by decide)]; exact k34
        have rk := FI_c hT gos k1 hF hU (A0 2 (by omega) (by omega) (by omega)) (by rw [A0 2 (by omega) (by omega) (by omega)]; omega) hr
        have al := FI_a k1 hF hF6 hU hU6 (fun r z1 z2 => hA3 r z1 z2)
        have hcol : colN a6 i6 := by
          unfold colN
          rw [g0, g1, g2e, g3, A0 2 (by omega) (by omega) (by omega), A0 9 (by omega) (by omega) (by omega), A0 10 (by omega) (by omega) (by omega), A0 11 (by omega) (by omega) (by omega), A0 12 (by omega) (by omega) (by omega), A0 13 (by omega) (by omega) (by omega)]
          refine ⟨⟨p1, p2⟩, ⟨s1, s2⟩, ⟨v1, v2⟩, ⟨n1, n2⟩, ⟨o1, o2⟩, ⟨d1, d2⟩, ⟨e1, e2⟩, ⟨by omega, by omega⟩, fun r z1 z2 => ?_, ⟨m1, m2⟩, hd, ⟨b1, b2⟩, hb, fun s z1 z2 => ?_, hz⟩
          · obtain ⟨m, rfl⟩ := nat_of z1
            exact rk m z2
          · rcases hs s z1 z2 with q | q
            · exact Or.inl q
            · exact Or.inr (by omega)
        have B6 : ∀ k, k = 54 ∨ k = 59 ∨ k = 60 ∨ k = 61 → a6 k = a k := fun k z1 => by
          rw [hs6 k (by intro z; simp only [List.mem_cons, List.not_mem_nil, or_false] at z; omega), hs5 k (by intro z; simp only [List.mem_cons, List.not_mem_nil, or_false] at z; omega), hs4 k (by intro z; simp only [List.mem_cons, List.not_mem_nil, or_false] at z; omega), hs3 k (by intro z; simp only [List.mem_cons, List.not_mem_nil, or_false] at z; omega)]
        have hagr : agr a6 i6 (mv a6) (mi i6) := by
          refine ⟨fun j hj => ?_, fun j z1 z2 => ?_, fun r z1 z2 => ?_, fun d z1 z2 => ?_, fun q z1 z2 => ?_, fun s z1 z2 => ?_⟩
          · match j, hj with
            | 0, _ => exact m30.trans g0.symm
            | 1, _ => exact ((I6 31 (by decide)).trans K1).trans g1.symm
            | 2, _ => exact ((I6 32 (by decide)).trans K2).trans g2e.symm
            | 3, _ => exact ((I6 33 (by decide)).trans K3).trans g3.symm
          · show a6 54 j = a6 2 j
            rw [B6 54 (Or.inl rfl), A0 2 (by omega) (by omega) (by omega)]; exact hA2 j z1 z2
          · rw [g0] at z2
            obtain ⟨m, rfl⟩ := nat_of z1
            exact al m z2
          · rw [g1] at z2
            show a6 59 (3 * d) = a6 9 d ∧ a6 59 (3 * d + 1) = a6 10 d ∧ a6 59 (3 * d + 2) = a6 11 d
            rw [B6 59 (Or.inr (Or.inl rfl)), A0 9 (by omega) (by omega) (by omega), A0 10 (by omega) (by omega) (by omega), A0 11 (by omega) (by omega) (by omega)]
            exact hA4 d z1 z2
          · rw [g2e] at z2
            show a6 60 q = a6 12 q
            rw [B6 60 (Or.inr (Or.inr (Or.inl rfl))), A0 12 (by omega) (by omega) (by omega)]; exact hA5 q z1 z2
          · show a6 61 s = a6 13 s
            rw [B6 61 (Or.inr (Or.inr (Or.inr rfl))), A0 13 (by omega) (by omega) (by omega)]; exact hA6 s z1 z2
        exact Inv_c h (sA_tr (sA_tr (sA_tr (sA_w hs3 (by decide)) (sA_w hs4 (by decide))) (sA_w hs5 (by decide))) (sA_w hs6 (by decide))) I6 g9 g34 hcol hagr
    · simp (disch := first | assumption | omega | exact zc_lo | exact zc_hi | exact zz_l | exact zz_u | exact zz_r) only [xc_1 gc_5_column_0, xc_2 gc_5_column_1, xc_3 gc_5_column_2, xc_3 gc_5_column_3, xl_aload0, xl_iinc2a, xl_iinc2i, xl_iinc2n, xl_iinc3a, xl_iinc3i, xl_iinc3n, xl_iload1, xl_iload2, xl_iload3, xl_istore1a, xl_istore1i, xl_istore1n, xl_istore2a, xl_istore2i, xl_istore2n, xl_istore3a, xl_istore3i, xl_istore3n, xm_f, xm_n, xm_t, xn_1, xn_2, xn_5, xn_6, xo_0_0, xo_0_3, xo_1_1, xo_27_2, xo_27_3, xp_27_1, xr_goto, xr_ic_eq, xr_ic_ge, xr_ic_le, xr_iconst, xr_iret, xr_isub, xtl_n, xtl_s, xz_i, xz_l, xz_n, xz_r, wb_5_column_0, wb_5_column_1, wb_5_column_2, wb_5_column_5, wb_5_column_6, zz_b, zz_bn, Classical.not_not, true_and, Nat.reduceAdd, Nat.reduceLeDiff, e0, e11, full, sp_5_finding, true_implies, false_implies, implies_true, not_true_eq_false, not_false_eq_true, and_true, false_and, and_false, if_true, if_false, Int.reduceEq, Int.reduceSub, Int.reduceAdd, Int.reduceMul, Int.reduceNeg, Int.reduceLT, Int.reduceLE, Int.add_zero]
      have u63 : ∀ f, dk_up a3 52 f 63 = a 63 := fun f => by rw [up_n (by decide)]; exact hs3 63 (by decide)
      refine md_text (i := dk_up i3 9 0) (a := dk_up a3 52 (dk_ui (a3 52) 1 (a3 52 1 + 1))) (by rw [e34]; exact hT) (by rw [e34, u63, ← hL]; exact hBm) (fun a5 i5 g2 hs5 hI5 k34 hP2 hno2 => ?_) (fun a5 i5 g2 hs5 hI5 k34 hP2 hG2 ht2 k41 hv5 l1 l2 l3 => ?_)
      · have e : g2 = g := stop_u hP2 (fun q => hno2 ⟨q.1, Or.inl q.2⟩) hP nstop
        subst e
        exact absurd ⟨hG, Or.inr ht0⟩ hno2
      · have e : g2 = g := stop_u hP2 (fun q => by omega) hP nstop
        subst e
        have f30 : i5 30 = i 0 := by rw [hI5 30 (by decide)]; exact e30
        refine md_many ⟨_, hT⟩ hP hG k1 k2 f30 k41 (fun k hk => (hv5 k hk).2.1) (fun l1 l3 z => by omega) (fun _ => ?_) _ _ _
        rw [sp_6_finds (by omega) (by omega)]
        have h52 : a5 52 = bm (a 52) 1 := by rw [hs5 52 (by decide), up_s, hs3 52 (by decide)]; rfl
        have h62 : a5 62 = a 62 := by rw [hs5 62 (by decide), up_n (by decide), hs3 62 (by decide)]
        have hA : sA SC a (dk_up a5 52 (a 52)) := fun k hk => by
          by_cases e : k = 52
          · subst e; rw [up_s]
          · rw [up_n e, hs5 k (fun z => hk (by simp only [SC, List.mem_cons, List.not_mem_nil, or_false] at z ⊢; omega)), up_n e, hs3 k (fun z => hk (by simp only [SC, List.mem_cons, List.not_mem_nil, or_false] at z ⊢; omega))]
        have hI := Inv_w h hA (sI_tr hs9 (sI_w hI5 sub2)) (by rw [hI5 9 (by decide)]; exact e9) k34
        refine OPQ_i (by omega) (by omega) (Inv_f2 hI (k := 1) (by omega) (by omega) ?_ ?_ (fun j z1 z2 => ?_))
        · rw [up_n (by decide), h52, up_s]
        · rw [up_s, up_n (show ¬ 62 = 52 by decide)]; rfl
        · rw [up_n z2, up_n z1]
end CO1
