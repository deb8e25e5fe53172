/-! TEXTS: whole texts of both readers -/
def cur (b : Int → Int) : Nat → Int
  | 0 => 0
  | g + 1 => tE b (GC b (cur b g))
def Pre (b : Int → Int) (g : Nat) : Prop := ∀ h : Nat, h < g → GO b (cur b h) = true ∧ tK b (GC b (cur b h)) = 3
def smG (b : Int → Int) : Nat → Int
  | 0 => 0
  | g + 1 => smG b g + GV b (cur b g) 1
section TX0
variable {b : Int → Int} {L c : Int}
theorem GC_in (hT : Tp b L) (hc0 : 0 ≤ c) (hc1 : c ≤ L) : c ≤ GC b c ∧ GC b c ≤ L := by
  have q1 := tE_in hT hc0 hc1
  have q2 := tE_in hT q1.1 q1.2
  have q3 := tE_in hT q2.1 q2.2
  have q4 := tE_in hT q3.1 q3.2
  have e1 := tE_ge0 (b := b) (c := c)
  have e2 := tS_ge (b := b) (c := c)
  have e3 := tE_ge0 (b := b) (c := tE b c)
  have e4 := tS_ge (b := b) (c := tE b c)
  have e5 := tE_ge0 (b := b) (c := tE b (tE b c))
  have e6 := tS_ge (b := b) (c := tE b (tE b c))
  have e7 := tE_ge0 (b := b) (c := tE b (tE b (tE b c)))
  have e8 := tS_ge (b := b) (c := tE b (tE b (tE b c)))
  have q5 := (opF_b hT 120 (tE b (tE b (tE b (tE b c)))) 50 50 0 q4.1 q4.2 (by omega) (by omega) (by omega)).1
  unfold GC
  (repeat' split) <;> omega
theorem GO_parts (h : GO b c = true) : ¬ kdF b c = -1 ∧ nOK b (tE b c) 1 24 = true ∧ isW b (tE b (tE b c)) 7 = true ∧ nOK b (tE b (tE b (tE b c))) 1 200 = true := by
  unfold GO at h
  simp only [Bool.and_eq_true, decide_eq_true_eq] at h
  exact ⟨h.1, h.2.1, h.2.2.1, h.2.2.2.1⟩
theorem GO_len (hT : Tp b L) (hc0 : 0 ≤ c) (hc1 : c ≤ L) (h : GO b c = true) : c + 10 ≤ GC b c := by
  obtain ⟨h1, h2, h3, h4⟩ := GO_parts h
  have q1 := tE_in hT hc0 hc1
  have q2 := tE_in hT q1.1 q1.2
  have q3 := tE_in hT q2.1 q2.2
  have q4 := tE_in hT q3.1 q3.2
  have e2 := tS_ge (b := b) (c := c)
  have e4 := tS_ge (b := b) (c := tE b c)
  have e6 := tS_ge (b := b) (c := tE b (tE b c))
  have e8 := tS_ge (b := b) (c := tE b (tE b (tE b c)))
  obtain ⟨v, hv, hw⟩ := kdF_w h1
  have l1 := (isW_len hv hw).1
  have n2 := nOK_t.mp h2
  have n4 := nOK_t.mp h4
  have l2 := tE_ge (b := b) (c := tE b c) (by omega)
  have l3 := (isW_len (by omega) h3).2 rfl
  have l4 := tE_ge (b := b) (c := tE b (tE b (tE b c))) (by omega)
  have q5 := (opF_b hT 120 (tE b (tE b (tE b (tE b c)))) 50 50 0 q4.1 q4.2 (by omega) (by omega) (by omega)).1
  have eC : GC b c = (opF b 120 (tE b (tE b (tE b (tE b c)))) 50 50 0).2.1 := by unfold GC; rw [if_neg h1, h2, h3, h4]; rfl
  omega
theorem GV_b (hT : Tp b L) (hc0 : 0 ≤ c) (hc1 : c ≤ L) (h : GO b c = true) : (0 ≤ GV b c 0 ∧ GV b c 0 ≤ 6) ∧ (1 ≤ GV b c 1 ∧ GV b c 1 ≤ 24) ∧ (0 ≤ GV b c 2 ∧ GV b c 2 ≤ 100) ∧ (0 ≤ GV b c 3 ∧ GV b c 3 ≤ 100) ∧ (0 ≤ GV b c 4 ∧ GV b c 4 ≤ 99) ∧ (1 ≤ GV b c 5 ∧ GV b c 5 ≤ 200) := by
  obtain ⟨h1, h2, h3, h4⟩ := GO_parts h
  have q1 := tE_in hT hc0 hc1
  have q2 := tE_in hT q1.1 q1.2
  have q3 := tE_in hT q2.1 q2.2
  have q4 := tE_in hT q3.1 q3.2
  have q5 := (opF_b hT 120 (tE b (tE b (tE b (tE b c)))) 50 50 0 q4.1 q4.2 (by omega) (by omega) (by omega)).2
  have n2 := nOK_t.mp h2
  have n4 := nOK_t.mp h4
  have kb := kdF_b (b := b) (c := c)
  exact ⟨⟨by show 0 ≤ kdF b c; omega, kb.2⟩, n2.2, q5.1, q5.2.1, q5.2.2, n4.2⟩
theorem cur_in (hT : Tp b L) : ∀ g : Nat, 0 ≤ cur b g ∧ cur b g ≤ L
  | 0 => by have := hT.1; simp only [cur]; omega
  | g + 1 => by
    have q := cur_in hT g
    have q2 := GC_in hT q.1 q.2
    exact tE_in hT (by omega) q2.2
theorem cur_len (hT : Tp b L) : ∀ g : Nat, Pre b g → 11 * (g : Int) ≤ cur b g
  | 0, _ => by simp only [cur]; omega
  | g + 1, h => by
    have q := cur_len hT g (fun k hk => h k (by omega))
    have q2 := cur_in hT g
    obtain ⟨h1, h2⟩ := h g (by omega)
    have q3 := GO_len hT q2.1 q2.2 h1
    have q4 := tE_ge (b := b) (c := GC b (cur b g)) (by omega)
    have q5 := tS_ge (b := b) (c := GC b (cur b g))
    have e : cur b (g + 1) = tE b (GC b (cur b g)) := rfl
    omega
theorem Pre_11 (hT : Tp b L) {g : Nat} (h : Pre b g) : g ≤ 10 := by
  have q := cur_len hT g h
  have q2 := cur_in hT g
  have := hT.1
  omega
theorem smG_b (hT : Tp b L) : ∀ g : Nat, (∀ h : Nat, h < g → GO b (cur b h) = true) → (g : Int) ≤ smG b g ∧ smG b g ≤ 24 * g
  | 0, _ => by simp only [smG]; omega
  | g + 1, h => by
    have q := smG_b hT g (fun k hk => h k (by omega))
    have q2 := cur_in hT g
    have q3 := (GV_b hT q2.1 q2.2 (h g (by omega))).2.1
    unfold smG
    omega
theorem Pre_s {g : Nat} (h : Pre b g) (h1 : GO b (cur b g) = true) (h2 : tK b (GC b (cur b g)) = 3) : Pre b (g + 1) := fun k hk => by
  by_cases e : k = g
  · subst e; exact ⟨h1, h2⟩
  · exact h k (by omega)
end TX0
section TX1
variable {N : Int} {n : Nat} {xs : Int → Int} {w : Nat → Nat} {a : Nat → Int → Int} {i : Nat → Int} {Q : dk_Q} {b : Int → Int}
theorem sp_3_readText (hT : Tp b (i 9)) (hB : byB (a 28) (i 9) = b) : (∀ a2 i2 (g : Nat), sA [29] a a2 → sI TG i i2 → Pre b g → ¬ (GO b (cur b g) = true ∧ (tK b (GC b (cur b g)) = 3 ∨ tK b (GC b (cur b g)) = 0)) → Q (some (.inl (tS b (GC b (cur b g))))) (HH n xs w a2 i2)) → (∀ a2 i2 (g : Nat), sA [29] a a2 → sI TG i i2 → Pre b g → GO b (cur b g) = true → tK b (GC b (cur b g)) = 0 → i2 10 = g + 1 → i2 11 = smG b (g + 1) → (∀ h : Nat, h ≤ g → ∀ k : Nat, k < 6 → a2 29 ((h : Int) * 6 + k) = GV b (cur b h) k) → Q (some (.inl (-1))) (HH n xs w a2 i2)) → s_3_readText [.inr (.inr 27)] (HH n xs w a i) Q := by
  intro hQ0 hQ1
  have L120 := hT.1
  simp (disch := first | assumption | omega | exact zc_lo | exact zc_hi | exact zz_l | exact zz_u | exact zz_r) only [xc_1 gc_3_readText_0, xc_1 gc_3_readText_1, xl_aload0, xl_iinc1a, xl_iinc1i, xl_iinc1n, xl_iload1, xl_istore1a, xl_istore1i, xl_istore1n, xm_f, xm_n, xm_t, xn_2, xn_3, xn_4, xn_5, xo_27_5, xo_27_6, xp_27_2, xp_27_3, xp_27_7, xr_goto, xr_ic_eq, xr_ic_ge, xr_iconst, xr_if_ne, xr_iret, xtl_n, xtl_s, xz_i, xz_l, xz_n, xz_r, wb_3_readText_0, wb_3_readText_2, wb_3_readText_3, wb_3_readText_4, wb_3_readText_5, ss_3_readText, zz_b, zz_bn, Classical.not_not, true_and, Nat.reduceAdd, Nat.reduceLeDiff, true_implies, false_implies, implies_true, not_true_eq_false, not_false_eq_true, and_true, false_and, and_false, if_true, if_false, Int.reduceEq, Int.reduceSub, Int.reduceAdd, Int.reduceMul, Int.reduceNeg, Int.reduceLT, Int.reduceLE, Int.add_zero]
  have e9 : dk_up (dk_up (dk_up i 10 0) 11 0) 14 0 9 = i 9 := by rw [up_n (by decide), up_n (by decide), up_n (by decide)]
  have e14 : dk_up (dk_up (dk_up i 10 0) 11 0) 14 0 14 = 0 := up_s
  refine sp_3_nextToken (by rw [e9, hB]; exact hT) (by rw [e14]; omega) (by rw [e14, e9]; omega) (fun i2 hs2 hC2 => ?_)
  rw [e9, e14, hB] at hC2
  simp (disch := first | assumption | omega | exact zc_lo | exact zc_hi | exact zz_l | exact zz_u | exact zz_r) only [xc_1 gc_3_readText_0, xc_1 gc_3_readText_1, xl_aload0, xl_iinc1a, xl_iinc1i, xl_iinc1n, xl_iload1, xl_istore1a, xl_istore1i, xl_istore1n, xm_f, xm_n, xm_t, xn_2, xn_3, xn_4, xn_5, xo_27_5, xo_27_6, xp_27_2, xp_27_3, xp_27_7, xr_goto, xr_ic_eq, xr_ic_ge, xr_iconst, xr_if_ne, xr_iret, xtl_n, xtl_s, xz_i, xz_l, xz_n, xz_r, wb_3_readText_0, wb_3_readText_2, wb_3_readText_3, wb_3_readText_4, wb_3_readText_5, zz_b, zz_bn, Classical.not_not, true_and, Nat.reduceAdd, Nat.reduceLeDiff, true_implies, false_implies, implies_true, not_true_eq_false, not_false_eq_true, and_true, false_and, and_false, if_true, if_false, Int.reduceEq, Int.reduceSub, Int.reduceAdd, Int.reduceMul, Int.reduceNeg, Int.reduceLT, Int.reduceLE, Int.add_zero]
  have s2 : sI TG i i2 := sI_tr (sI_up (sI_up (sI_up sI_rf (by decide) _) (by decide) _) (by decide) _) (sI_w hs2 (by decide))
  have g10 : i2 10 = 0 := by rw [hs2 10 (by decide), up_n (by decide), up_n (by decide), up_s]
  have g11 : i2 11 = 0 := by rw [hs2 11 (by decide), up_n (by decide), up_s]
  refine lp_up (m := 11) (P := fun d => ∀ a3 i3, sA [29] a a3 → sI TG i i3 → Pre b d → i3 10 = d → i3 11 = smG b d → CT b (cur b d) i3 → (∀ h : Nat, h < d → ∀ k : Nat, k < 6 → a3 29 ((h : Int) * 6 + k) = GV b (cur b h) k) → dk_WP g_3_readText b_3_readText Q 1 [some (.inr (.inr 27)), some (.inl d)] [] (HH n xs w a3 i3)) ?_ ?_ 0 (Nat.zero_le _) a i2 sA_rf s2 (fun k hk => absurd hk (Nat.not_lt_zero k)) g10 g11 hC2 (fun k hk => absurd hk (Nat.not_lt_zero k))
  · intro a3 i3 hs3 hI3 hP h10 h11 hC3 hv
    have := Pre_11 hT hP
    omega
  · intro d hdm ih a3 i3 hs3 hI3 hP h10 h11 hC3 hv
    have cb := cur_in hT d
    have f9 : i3 9 = i 9 := hI3 9 (by decide)
    have hT3 : Tp b (i3 9) := by rw [f9]; exact hT
    have hB3 : byB (a3 28) (i3 9) = b := by rw [f9, hs3 28 (by decide)]; exact hB
    have sb := smG_b hT d (fun k hk => (hP k hk).1)
    rw [wb_3_readText_1]
    simp (disch := first | assumption | omega | exact zc_lo | exact zc_hi | exact zz_l | exact zz_u | exact zz_r) only [xc_1 gc_3_readText_0, xc_1 gc_3_readText_1, xl_aload0, xl_iinc1a, xl_iinc1i, xl_iinc1n, xl_iload1, xl_istore1a, xl_istore1i, xl_istore1n, xm_f, xm_n, xm_t, xn_2, xn_3, xn_4, xn_5, xo_27_5, xo_27_6, xp_27_2, xp_27_3, xp_27_7, xr_goto, xr_ic_eq, xr_ic_ge, xr_iconst, xr_if_ne, xr_iret, xtl_n, xtl_s, xz_i, xz_l, xz_n, xz_r, wb_3_readText_0, wb_3_readText_2, wb_3_readText_3, wb_3_readText_4, wb_3_readText_5, zz_b, zz_bn, Classical.not_not, true_and, Nat.reduceAdd, Nat.reduceLeDiff]
    refine ⟨fun z => absurd z (by omega), fun _ => ?_⟩
    refine sp_3_readGroup hT3 hB3 cb.1 (by rw [f9]; exact cb.2) hC3 h10 (by omega) (by omega) (by omega) (fun y a4 i4 hs4 hv4 ho4 hI4 k10 k11 hC4 => ?_) (fun y a4 i4 hs4 hI4 k13 => ?_)
    · have gb := GC_in hT cb.1 cb.2
      have k9 : i4 9 = i 9 := by rw [hI4 9 (by decide)]; exact f9
      have hT4 : Tp b (i4 9) := by rw [k9]; exact hT
      have cq := CT_b hT4 (by omega) (by rw [k9]; exact gb.2) hC4
      have tkb := tK_b (b := b) (c := GC b (cur b d))
      have e12 := hC4.1
      have e13 := hC4.2.1
      have vals : ∀ h : Nat, h ≤ d → ∀ k : Nat, k < 6 → a4 29 ((h : Int) * 6 + k) = GV b (cur b h) k := fun h hh k hk => by
        by_cases e : h = d
        · subst e; exact hv4 k hk
        · rw [ho4 _ (by omega)]; exact hv h (by omega) k hk
      have sum : i4 11 = smG b (d + 1) := by rw [k11, h11]; rfl
      simp (disch := first | assumption | omega | exact zc_lo | exact zc_hi | exact zz_l | exact zz_u | exact zz_r) only [xc_1 gc_3_readText_0, xc_1 gc_3_readText_1, xl_aload0, xl_iinc1a, xl_iinc1i, xl_iinc1n, xl_iload1, xl_istore1a, xl_istore1i, xl_istore1n, xm_f, xm_n, xm_t, xn_2, xn_3, xn_4, xn_5, xo_27_5, xo_27_6, xp_27_2, xp_27_3, xp_27_7, xr_goto, xr_ic_eq, xr_ic_ge, xr_iconst, xr_if_ne, xr_iret, xtl_n, xtl_s, xz_i, xz_l, xz_n, xz_r, wb_3_readText_0, wb_3_readText_2, wb_3_readText_3, wb_3_readText_4, wb_3_readText_5, zz_b, zz_bn, Classical.not_not, true_and, Nat.reduceAdd, Nat.reduceLeDiff, eq_self, e12, true_implies, false_implies, implies_true, not_true_eq_false, not_false_eq_true, and_true, false_and, and_false, if_true, if_false, Int.reduceEq, Int.reduceSub, Int.reduceAdd, Int.reduceMul, Int.reduceNeg, Int.reduceLT, Int.reduceLE, Int.add_zero]
      refine ⟨fun z => ⟨fun z2 => ?_, fun z2 => ?_⟩, fun z => ?_⟩
      · refine sp_next hT4 (by rw [k9, hs4 28 (by decide), hs3 28 (by decide)]; exact hB) (by omega) (by rw [k9]; exact gb.2) hC4 (fun i5 hs5 hC5 => ?_)
        simp (disch := first | assumption | omega | exact zc_lo | exact zc_hi | exact zz_l | exact zz_u | exact zz_r) only [xc_1 gc_3_readText_0, xc_1 gc_3_readText_1, xl_aload0, xl_iinc1a, xl_iinc1i, xl_iinc1n, xl_iload1, xl_istore1a, xl_istore1i, xl_istore1n, xm_f, xm_n, xm_t, xn_2, xn_3, xn_4, xn_5, xo_27_5, xo_27_6, xp_27_2, xp_27_3, xp_27_7, xr_goto, xr_ic_eq, xr_ic_ge, xr_iconst, xr_if_ne, xr_iret, xtl_n, xtl_s, xz_i, xz_l, xz_n, xz_r, wb_3_readText_0, wb_3_readText_2, wb_3_readText_3, wb_3_readText_4, wb_3_readText_5, zz_b, zz_bn, Classical.not_not, true_and, Nat.reduceAdd, Nat.reduceLeDiff, true_implies, false_implies, implies_true, not_true_eq_false, not_false_eq_true, and_true, false_and, and_false, if_true, if_false, Int.reduceEq, Int.reduceSub, Int.reduceAdd, Int.reduceMul, Int.reduceNeg, Int.reduceLT, Int.reduceLE, Int.add_zero]
        rw [cs d]
        exact ih a4 i5 (sA_tr hs3 hs4) (sI_tr (sI_tr hI3 hI4) (sI_w hs5 (by decide))) (Pre_s hP y z2) (by rw [hs5 10 (by decide), k10]; omega) (by rw [hs5 11 (by decide)]; exact sum) hC5 (fun h hh k hk => vals h (by omega) k hk)
      · rw [e13]
        exact hQ0 a4 i4 d (sA_tr hs3 hs4) (sI_tr hI3 hI4) hP (fun q => by omega)
      · exact hQ1 a4 i4 d (sA_tr hs3 hs4) (sI_tr hI3 hI4) hP y z k10 sum vals
    · simp (disch := first | assumption | omega | exact zc_lo | exact zc_hi | exact zz_l | exact zz_u | exact zz_r) only [xc_1 gc_3_readText_0, xc_1 gc_3_readText_1, xl_aload0, xl_iinc1a, xl_iinc1i, xl_iinc1n, xl_iload1, xl_istore1a, xl_istore1i, xl_istore1n, xm_f, xm_n, xm_t, xn_2, xn_3, xn_4, xn_5, xo_27_5, xo_27_6, xp_27_2, xp_27_3, xp_27_7, xr_goto, xr_ic_eq, xr_ic_ge, xr_iconst, xr_if_ne, xr_iret, xtl_n, xtl_s, xz_i, xz_l, xz_n, xz_r, wb_3_readText_0, wb_3_readText_2, wb_3_readText_3, wb_3_readText_4, wb_3_readText_5, zz_b, zz_bn, Classical.not_not, true_and, Nat.reduceAdd, Nat.reduceLeDiff, eq_self, k13, true_implies, false_implies, implies_true, not_true_eq_false, not_false_eq_true, and_true, false_and, and_false, if_true, if_false, Int.reduceEq, Int.reduceSub, Int.reduceAdd, Int.reduceMul, Int.reduceNeg, Int.reduceLT, Int.reduceLE, Int.add_zero]
      exact hQ0 a4 i4 d (sA_tr hs3 hs4) (sI_tr hI3 hI4) hP (fun q => by rw [y] at q; exact absurd q.1 Bool.false_ne_true)
def MH : List Nat := [34, 35, 36, 37, 38, 39, 40, 41]
theorem srF_3 {k : Int} (hk : 0 ≤ k ∧ k ≤ 5) : srF k = 3 ↔ (k = 3 ∨ k = 4 ∨ k = 5) := by
  unfold srF
  constructor
  · intro h; (repeat' split at h) <;> omega
  · intro h; rw [if_neg (by omega), if_neg (by omega), if_neg (by omega)]
theorem md_text (hT : Tp b (i 34)) (hB : byB (a 63) (i 34) = b) (hQ0 : ∀ a2 i2 (g : Nat), sA [64] a a2 → sI MH i i2 → i2 34 = 0 → Pre b g → ¬ (GO b (cur b g) = true ∧ (tK b (GC b (cur b g)) = 3 ∨ tK b (GC b (cur b g)) = 0)) → Q (some (.inl (-1 - tS b (GC b (cur b g))))) (HH n xs w a2 i2)) (hQ1 : ∀ a2 i2 (g : Nat), sA [64] a a2 → sI MH i i2 → i2 34 = 0 → Pre b g → GO b (cur b g) = true → tK b (GC b (cur b g)) = 0 → i2 41 = g + 1 → (∀ h : Nat, h ≤ g → a2 64 (6 * (h : Int)) = GV b (cur b h) 0 ∧ a2 64 (6 * (h : Int) + 1) = GV b (cur b h) 1 ∧ a2 64 (6 * (h : Int) + 2) = GV b (cur b h) 5 ∧ a2 64 (6 * (h : Int) + 3) = GV b (cur b h) 2 ∧ a2 64 (6 * (h : Int) + 4) = GV b (cur b h) 3 ∧ a2 64 (6 * (h : Int) + 5) = GV b (cur b h) 4) → ∀ l1 l2 l3, dk_WP g_6_column b_6_column Q 5 [some (.inr (.inr 53)), l1, l2, l3] [] (HH n xs w a2 i2)) : s_6_column [.inr (.inr 53)] (HH n xs w a i) Q := by
  have L120 := hT.1
  -- where a text isn't right
  have bad : ∀ (a2 : Nat → Int → Int) (i2 : Nat → Int) (l1 l2 l3 : Option dk_V) (g : Nat), sA [64] a a2 → sI MG i i2 → i2 40 = 0 → i2 35 = tS b (GC b (cur b g)) → Pre b g → ¬ (GO b (cur b g) = true ∧ (tK b (GC b (cur b g)) = 3 ∨ tK b (GC b (cur b g)) = 0)) → dk_WP g_6_column b_6_column Q 2 [some (.inr (.inr 53)), l1, l2, l3] [] (HH n xs w a2 i2) := by
    intro a2 i2 l1 l2 l3 g hs hI h40 h35 hP hno
    have up0 : dk_up i2 40 0 = i2 := by rw [← h40]; exact up_id
    have e40 : dk_up i2 34 0 40 = 0 := by rw [up_n (by decide)]; exact h40
    have e35 : dk_up i2 34 0 35 = tS b (GC b (cur b g)) := by rw [up_n (by decide)]; exact h35
    simp (disch := first | assumption | omega | exact zc_lo | exact zc_hi | exact zz_l | exact zz_u | exact zz_r) only [xa_57, xa_58, xa_64, xc_1 gc_6_column_0, xc_1 gc_6_column_1, xc_2 gc_6_column_2, xc_3 gc_6_column_3, xl_aload0, xl_iinc2a, xl_iinc2i, xl_iinc2n, xl_iinc3a, xl_iinc3i, xl_iinc3n, xl_iload1, xl_iload2, xl_iload3, xl_istore1a, xl_istore1i, xl_istore1n, xl_istore2a, xl_istore2i, xl_istore2n, xl_istore3a, xl_istore3i, xl_istore3n, xm_f, xm_n, xm_t, xn_11, xn_13, xn_14, xn_2, xn_3, xn_5, xn_7, xn_8, xo_53_15, xo_53_17, xo_53_19, xo_53_20, xo_53_21, xo_53_22, xo_53_3, xo_53_4, xo_53_5, xp_53_14, xp_53_16, xp_53_20, xp_53_22, xp_53_3, xr_dupi, xr_dupr, xr_goto, xr_iadd, xr_ic_ge, xr_ic_le, xr_ic_ne, xr_iconst, xr_if_eq, xr_if_ne, xr_imul, xr_iret, xr_isub, xs_57, xs_58, xs_64, xtl_n, xtl_s, xz_i, xz_l, xz_n, xz_r, zz_b, zz_bn, Classical.not_not, true_and, Nat.reduceAdd, Nat.reduceLeDiff, wb_6_column_2, wb_6_column_3, wb_6_column_4, h40, up0, e40, e35, eq_self, true_implies, false_implies, implies_true, not_true_eq_false, not_false_eq_true, and_true, false_and, and_false, if_true, if_false, Int.reduceEq, Int.reduceSub, Int.reduceAdd, Int.reduceMul, Int.reduceNeg, Int.reduceLT, Int.reduceLE, Int.add_zero]
    exact hQ0 a2 _ g hs (sI_up (sI_w hI (by decide)) (by decide) _) up_s hP hno
  -- one group more
  have key : ∀ (f : Nat) (g : Nat) (a2 : Nat → Int → Int) (i2 : Nat → Int) (is : List dk_N) (l1 l2 l3 : Option dk_V), g + f = 12 → is = [.inr (7, 1, 1)] ∨ is = [.inr (7, 1, 0)] → sA [64] a a2 → sI MG i i2 → Pre b g → i2 40 = 1 → i2 41 = g → MT b (cur b g) i2 → (∀ h : Nat, h < g → a2 64 (6 * (h : Int)) = GV b (cur b h) 0 ∧ a2 64 (6 * (h : Int) + 1) = GV b (cur b h) 1 ∧ a2 64 (6 * (h : Int) + 2) = GV b (cur b h) 5 ∧ a2 64 (6 * (h : Int) + 3) = GV b (cur b h) 2 ∧ a2 64 (6 * (h : Int) + 4) = GV b (cur b h) 3 ∧ a2 64 (6 * (h : Int) + 5) = GV b (cur b h) 4) → s_6_wantGroup [.inr (.inr 53)] (HH n xs w a2 i2) (fun r h2 => dk_r g_6_column Q (dk_WP g_6_column b_6_column Q) is [some (.inr (.inr 53)), l1, l2, l3] (r.toList ++ []) h2) := by
    intro f
    induction f with
    | zero =>
      intro g a2 i2 is l1 l2 l3 hf _ _ _ hP
      have := Pre_11 hT hP
      omega
    | succ f ih =>
      intro g a2 i2 is l1 l2 l3 hf his hs hI hP h40 h41 hM hv
      have cb := cur_in hT g
      have g10 := Pre_11 hT hP
      have e34 : i2 34 = i 34 := hI 34 (by decide)
      have hT2 : Tp b (i2 34) := by rw [e34]; exact hT
      have gb := GC_in hT cb.1 cb.2
      have go1 : ∀ (a3 : Nat → Int → Int) (i3 : Nat → Int), dk_WP g_6_column b_6_column Q 1 [some (.inr (.inr 53)), l1, l2, l3] [] (HH n xs w a3 i3) → dk_r g_6_column Q (dk_WP g_6_column b_6_column Q) is [some (.inr (.inr 53)), l1, l2, l3] ((none : Option dk_V).toList ++ []) (HH n xs w a3 i3) := by
        intro a3 i3 q
        rcases his with rfl | rfl
        · exact q
        · exact q
      refine sp_6_wantGroup hT2 (by rw [e34, hs 63 (by decide)]; exact hB) cb.1 (by rw [e34]; exact cb.2) hM h40 h41 (by omega) (by omega) (fun y a3 i3 hs3 hv3 ho3 hI3 k40 k41 hM3 => ?_) (fun y a3 i3 hs3 hI3 k40 k35 => ?_)
      · refine go1 a3 i3 ?_
        have k34 : i3 34 = i 34 := by rw [hI3 34 (by decide)]; exact e34
        have hT3 : Tp b (i3 34) := by rw [k34]; exact hT
        obtain ⟨m35, m36, m37, m38, m38c, ⟨m39, m39x⟩, m39b, m39c⟩ := id hM3
        have sb := srF_b (tK b (GC b (cur b g)))
        have tkb := tK_b (b := b) (c := GC b (cur b g))
        have t4 := tK_4 (c := GC b (cur b g)) hT (by omega)
        have vals : ∀ h : Nat, h ≤ g → a3 64 (6 * (h : Int)) = GV b (cur b h) 0 ∧ a3 64 (6 * (h : Int) + 1) = GV b (cur b h) 1 ∧ a3 64 (6 * (h : Int) + 2) = GV b (cur b h) 5 ∧ a3 64 (6 * (h : Int) + 3) = GV b (cur b h) 2 ∧ a3 64 (6 * (h : Int) + 4) = GV b (cur b h) 3 ∧ a3 64 (6 * (h : Int) + 5) = GV b (cur b h) 4 := fun h hh => by
          by_cases e : h = g
          · subst e; exact hv3
          · rw [ho3 _ (by omega), ho3 _ (by omega), ho3 _ (by omega), ho3 _ (by omega), ho3 _ (by omega), ho3 _ (by omega)]
            exact hv h (by omega)
        by_cases t3 : tK b (GC b (cur b g)) = 3
        · have s3 : srF (tK b (GC b (cur b g))) = 3 := by rw [t3]; rfl
          have v59 : i3 39 = 59 := by rw [m39c (by omega)]; exact tkF_3.mp t3
          rw [wb_6_column_1]
          simp (disch := first | assumption | omega | exact zc_lo | exact zc_hi | exact zz_l | exact zz_u | exact zz_r) only [xa_57, xa_58, xa_64, xc_1 gc_6_column_0, xc_1 gc_6_column_1, xc_2 gc_6_column_2, xc_3 gc_6_column_3, xl_aload0, xl_iinc2a, xl_iinc2i, xl_iinc2n, xl_iinc3a, xl_iinc3i, xl_iinc3n, xl_iload1, xl_iload2, xl_iload3, xl_istore1a, xl_istore1i, xl_istore1n, xl_istore2a, xl_istore2i, xl_istore2n, xl_istore3a, xl_istore3i, xl_istore3n, xm_f, xm_n, xm_t, xn_11, xn_13, xn_14, xn_2, xn_3, xn_5, xn_7, xn_8, xo_53_15, xo_53_17, xo_53_19, xo_53_20, xo_53_21, xo_53_22, xo_53_3, xo_53_4, xo_53_5, xp_53_14, xp_53_16, xp_53_20, xp_53_22, xp_53_3, xr_dupi, xr_dupr, xr_goto, xr_iadd, xr_ic_ge, xr_ic_le, xr_ic_ne, xr_iconst, xr_if_eq, xr_if_ne, xr_imul, xr_iret, xr_isub, xs_57, xs_58, xs_64, xtl_n, xtl_s, xz_i, xz_l, xz_n, xz_r, zz_b, zz_bn, Classical.not_not, true_and, Nat.reduceAdd, Nat.reduceLeDiff, k40, m37, s3, v59, eq_self, true_implies, false_implies, implies_true, not_true_eq_false, not_false_eq_true, and_true, false_and, and_false, if_true, if_false, Int.reduceEq, Int.reduceSub, Int.reduceAdd, Int.reduceMul, Int.reduceNeg, Int.reduceLT, Int.reduceLE, Int.add_zero]
          refine sp_madv hT3 (by rw [k34, hs3 63 (by decide), hs 63 (by decide)]; exact hB) (by omega) (by rw [k34]; exact gb.2) hM3 (fun i4 hs4 hM4 => ?_)
          simp (disch := first | assumption | omega | exact zc_lo | exact zc_hi | exact zz_l | exact zz_u | exact zz_r) only [xa_57, xa_58, xa_64, xc_1 gc_6_column_0, xc_1 gc_6_column_1, xc_2 gc_6_column_2, xc_3 gc_6_column_3, xl_aload0, xl_iinc2a, xl_iinc2i, xl_iinc2n, xl_iinc3a, xl_iinc3i, xl_iinc3n, xl_iload1, xl_iload2, xl_iload3, xl_istore1a, xl_istore1i, xl_istore1n, xl_istore2a, xl_istore2i, xl_istore2n, xl_istore3a, xl_istore3i, xl_istore3n, xm_f, xm_n, xm_t, xn_11, xn_13, xn_14, xn_2, xn_3, xn_5, xn_7, xn_8, xo_53_15, xo_53_17, xo_53_19, xo_53_20, xo_53_21, xo_53_22, xo_53_3, xo_53_4, xo_53_5, xp_53_14, xp_53_16, xp_53_20, xp_53_22, xp_53_3, xr_dupi, xr_dupr, xr_goto, xr_iadd, xr_ic_ge, xr_ic_le, xr_ic_ne, xr_iconst, xr_if_eq, xr_if_ne, xr_imul, xr_iret, xr_isub, xs_57, xs_58, xs_64, xtl_n, xtl_s, xz_i, xz_l, xz_n, xz_r, zz_b, zz_bn, Classical.not_not, true_and, Nat.reduceAdd, Nat.reduceLeDiff, true_implies, false_implies, implies_true, not_true_eq_false, not_false_eq_true, and_true, false_and, and_false, if_true, if_false, Int.reduceEq, Int.reduceSub, Int.reduceAdd, Int.reduceMul, Int.reduceNeg, Int.reduceLT, Int.reduceLE, Int.add_zero]
          exact ih (g + 1) a3 i4 _ _ _ _ (by omega) (by first | exact Or.inr rfl | exact Or.inl rfl) (sA_tr hs hs3) (sI_tr (sI_tr hI hI3) (sI_w hs4 (by decide))) (Pre_s hP y t3) (by rw [hs4 40 (by decide)]; exact k40) (by rw [hs4 41 (by decide), k41]; omega) hM4 (fun h hh => vals h (by omega))
        · -- the text ends here, or isn't right
          have out : dk_WP g_6_column b_6_column Q 2 [some (.inr (.inr 53)), none, none, none] [] (HH n xs w a3 i3) := by
            by_cases t0 : tK b (GC b (cur b g)) = 0
            · have s0 : srF (tK b (GC b (cur b g))) = 0 := by rw [t0]; rfl
              have up1 : dk_up i3 40 1 = i3 := by rw [← k40]; exact up_id
              have e40 : dk_up i3 34 0 40 = 1 := by rw [up_n (by decide)]; exact k40
              simp (disch := first | assumption | omega | exact zc_lo | exact zc_hi | exact zz_l | exact zz_u | exact zz_r) only [xa_57, xa_58, xa_64, xc_1 gc_6_column_0, xc_1 gc_6_column_1, xc_2 gc_6_column_2, xc_3 gc_6_column_3, xl_aload0, xl_iinc2a, xl_iinc2i, xl_iinc2n, xl_iinc3a, xl_iinc3i, xl_iinc3n, xl_iload1, xl_iload2, xl_iload3, xl_istore1a, xl_istore1i, xl_istore1n, xl_istore2a, xl_istore2i, xl_istore2n, xl_istore3a, xl_istore3i, xl_istore3n, xm_f, xm_n, xm_t, xn_11, xn_13, xn_14, xn_2, xn_3, xn_5, xn_7, xn_8, xo_53_15, xo_53_17, xo_53_19, xo_53_20, xo_53_21, xo_53_22, xo_53_3, xo_53_4, xo_53_5, xp_53_14, xp_53_16, xp_53_20, xp_53_22, xp_53_3, xr_dupi, xr_dupr, xr_goto, xr_iadd, xr_ic_ge, xr_ic_le, xr_ic_ne, xr_iconst, xr_if_eq, xr_if_ne, xr_imul, xr_iret, xr_isub, xs_57, xs_58, xs_64, xtl_n, xtl_s, xz_i, xz_l, xz_n, xz_r, zz_b, zz_bn, Classical.not_not, true_and, Nat.reduceAdd, Nat.reduceLeDiff, wb_6_column_2, wb_6_column_4, k40, m37, s0, up1, e40, eq_self, true_implies, false_implies, implies_true, not_true_eq_false, not_false_eq_true, and_true, false_and, and_false, if_true, if_false, Int.reduceEq, Int.reduceSub, Int.reduceAdd, Int.reduceMul, Int.reduceNeg, Int.reduceLT, Int.reduceLE, Int.add_zero]
              exact hQ1 a3 _ g (sA_tr hs hs3) (sI_up (sI_w (sI_tr hI hI3) (by decide)) (by decide) _) up_s hP y t0 (by rw [up_n (by decide)]; exact k41) vals _ _ _
            · have s0 : ¬ srF (tK b (GC b (cur b g))) = 0 := fun z => t0 (srF_0.mp z)
              have e40 : dk_up (dk_up i3 40 0) 34 0 40 = 0 := by rw [up_n (by decide), up_s]
              have e35 : dk_up (dk_up i3 40 0) 34 0 35 = tS b (GC b (cur b g)) := by rw [up_n (by decide), up_n (by decide)]; exact m35
              simp (disch := first | assumption | omega | exact zc_lo | exact zc_hi | exact zz_l | exact zz_u | exact zz_r) only [xa_57, xa_58, xa_64, xc_1 gc_6_column_0, xc_1 gc_6_column_1, xc_2 gc_6_column_2, xc_3 gc_6_column_3, xl_aload0, xl_iinc2a, xl_iinc2i, xl_iinc2n, xl_iinc3a, xl_iinc3i, xl_iinc3n, xl_iload1, xl_iload2, xl_iload3, xl_istore1a, xl_istore1i, xl_istore1n, xl_istore2a, xl_istore2i, xl_istore2n, xl_istore3a, xl_istore3i, xl_istore3n, xm_f, xm_n, xm_t, xn_11, xn_13, xn_14, xn_2, xn_3, xn_5, xn_7, xn_8, xo_53_15, xo_53_17, xo_53_19, xo_53_20, xo_53_21, xo_53_22, xo_53_3, xo_53_4, xo_53_5, xp_53_14, xp_53_16, xp_53_20, xp_53_22, xp_53_3, xr_dupi, xr_dupr, xr_goto, xr_iadd, xr_ic_ge, xr_ic_le, xr_ic_ne, xr_iconst, xr_if_eq, xr_if_ne, xr_imul, xr_iret, xr_isub, xs_57, xs_58, xs_64, xtl_n, xtl_s, xz_i, xz_l, xz_n, xz_r, zz_b, zz_bn, Classical.not_not, true_and, Nat.reduceAdd, Nat.reduceLeDiff, wb_6_column_2, wb_6_column_3, wb_6_column_4, k40, m37, s0, e40, e35, eq_self, true_implies, false_implies, implies_true, not_true_eq_false, not_false_eq_true, and_true, false_and, and_false, if_true, if_false, Int.reduceEq, Int.reduceSub, Int.reduceAdd, Int.reduceMul, Int.reduceNeg, Int.reduceLT, Int.reduceLE, Int.add_zero]
              exact hQ0 a3 _ g (sA_tr hs hs3) (sI_up (sI_up (sI_w (sI_tr hI hI3) (by decide)) (by decide) _) (by decide) _) up_s hP (fun q => by omega)
          by_cases s3 : srF (tK b (GC b (cur b g))) = 3
          · have t5 : tK b (GC b (cur b g)) = 5 := by have := (srF_3 tkb).mp s3; omega
            have v59 : ¬ i3 39 = 59 := by
              rw [m39c (by omega)]
              intro z
              exact t3 (tkF_3.mpr z)
            rw [wb_6_column_1]
            simp (disch := first | assumption | omega | exact zc_lo | exact zc_hi | exact zz_l | exact zz_u | exact zz_r) only [xa_57, xa_58, xa_64, xc_1 gc_6_column_0, xc_1 gc_6_column_1, xc_2 gc_6_column_2, xc_3 gc_6_column_3, xl_aload0, xl_iinc2a, xl_iinc2i, xl_iinc2n, xl_iinc3a, xl_iinc3i, xl_iinc3n, xl_iload1, xl_iload2, xl_iload3, xl_istore1a, xl_istore1i, xl_istore1n, xl_istore2a, xl_istore2i, xl_istore2n, xl_istore3a, xl_istore3i, xl_istore3n, xm_f, xm_n, xm_t, xn_11, xn_13, xn_14, xn_2, xn_3, xn_5, xn_7, xn_8, xo_53_15, xo_53_17, xo_53_19, xo_53_20, xo_53_21, xo_53_22, xo_53_3, xo_53_4, xo_53_5, xp_53_14, xp_53_16, xp_53_20, xp_53_22, xp_53_3, xr_dupi, xr_dupr, xr_goto, xr_iadd, xr_ic_ge, xr_ic_le, xr_ic_ne, xr_iconst, xr_if_eq, xr_if_ne, xr_imul, xr_iret, xr_isub, xs_57, xs_58, xs_64, xtl_n, xtl_s, xz_i, xz_l, xz_n, xz_r, zz_b, zz_bn, Classical.not_not, true_and, Nat.reduceAdd, Nat.reduceLeDiff, k40, m37, s3, v59, eq_self, true_implies, false_implies, implies_true, not_true_eq_false, not_false_eq_true, and_true, false_and, and_false, if_true, if_false, Int.reduceEq, Int.reduceSub, Int.reduceAdd, Int.reduceMul, Int.reduceNeg, Int.reduceLT, Int.reduceLE, Int.add_zero]
            exact out
          · rw [wb_6_column_1]
            simp (disch := first | assumption | omega | exact zc_lo | exact zc_hi | exact zz_l | exact zz_u | exact zz_r) only [xa_57, xa_58, xa_64, xc_1 gc_6_column_0, xc_1 gc_6_column_1, xc_2 gc_6_column_2, xc_3 gc_6_column_3, xl_aload0, xl_iinc2a, xl_iinc2i, xl_iinc2n, xl_iinc3a, xl_iinc3i, xl_iinc3n, xl_iload1, xl_iload2, xl_iload3, xl_istore1a, xl_istore1i, xl_istore1n, xl_istore2a, xl_istore2i, xl_istore2n, xl_istore3a, xl_istore3i, xl_istore3n, xm_f, xm_n, xm_t, xn_11, xn_13, xn_14, xn_2, xn_3, xn_5, xn_7, xn_8, xo_53_15, xo_53_17, xo_53_19, xo_53_20, xo_53_21, xo_53_22, xo_53_3, xo_53_4, xo_53_5, xp_53_14, xp_53_16, xp_53_20, xp_53_22, xp_53_3, xr_dupi, xr_dupr, xr_goto, xr_iadd, xr_ic_ge, xr_ic_le, xr_ic_ne, xr_iconst, xr_if_eq, xr_if_ne, xr_imul, xr_iret, xr_isub, xs_57, xs_58, xs_64, xtl_n, xtl_s, xz_i, xz_l, xz_n, xz_r, zz_b, zz_bn, Classical.not_not, true_and, Nat.reduceAdd, Nat.reduceLeDiff, k40, m37, s3, eq_self, true_implies, false_implies, implies_true, not_true_eq_false, not_false_eq_true, and_true, false_and, and_false, if_true, if_false, Int.reduceEq, Int.reduceSub, Int.reduceAdd, Int.reduceMul, Int.reduceNeg, Int.reduceLT, Int.reduceLE, Int.add_zero]
            exact out
      · refine go1 a3 i3 ?_
        rw [wb_6_column_1]
        simp (disch := first | assumption | omega | exact zc_lo | exact zc_hi | exact zz_l | exact zz_u | exact zz_r) only [xa_57, xa_58, xa_64, xc_1 gc_6_column_0, xc_1 gc_6_column_1, xc_2 gc_6_column_2, xc_3 gc_6_column_3, xl_aload0, xl_iinc2a, xl_iinc2i, xl_iinc2n, xl_iinc3a, xl_iinc3i, xl_iinc3n, xl_iload1, xl_iload2, xl_iload3, xl_istore1a, xl_istore1i, xl_istore1n, xl_istore2a, xl_istore2i, xl_istore2n, xl_istore3a, xl_istore3i, xl_istore3n, xm_f, xm_n, xm_t, xn_11, xn_13, xn_14, xn_2, xn_3, xn_5, xn_7, xn_8, xo_53_15, xo_53_17, xo_53_19, xo_53_20, xo_53_21, xo_53_22, xo_53_3, xo_53_4, xo_53_5, xp_53_14, xp_53_16, xp_53_20, xp_53_22, xp_53_3, xr_dupi, xr_dupr, xr_goto, xr_iadd, xr_ic_ge, xr_ic_le, xr_ic_ne, xr_iconst, xr_if_eq, xr_if_ne, xr_imul, xr_iret, xr_isub, xs_57, xs_58, xs_64, xtl_n, xtl_s, xz_i, xz_l, xz_n, xz_r, zz_b, zz_bn, Classical.not_not, true_and, Nat.reduceAdd, Nat.reduceLeDiff, k40, eq_self, true_implies, false_implies, implies_true, not_true_eq_false, not_false_eq_true, and_true, false_and, and_false, if_true, if_false, Int.reduceEq, Int.reduceSub, Int.reduceAdd, Int.reduceMul, Int.reduceNeg, Int.reduceLT, Int.reduceLE, Int.add_zero]
        exact bad a3 i3 _ _ _ g (sA_tr hs hs3) (sI_tr hI hI3) k40 k35 hP (fun q => by rw [y] at q; exact absurd q.1 Bool.false_ne_true)
  simp (disch := first | assumption | omega | exact zc_lo | exact zc_hi | exact zz_l | exact zz_u | exact zz_r) only [xa_57, xa_58, xa_64, xc_1 gc_6_column_0, xc_1 gc_6_column_1, xc_2 gc_6_column_2, xc_3 gc_6_column_3, xl_aload0, xl_iinc2a, xl_iinc2i, xl_iinc2n, xl_iinc3a, xl_iinc3i, xl_iinc3n, xl_iload1, xl_iload2, xl_iload3, xl_istore1a, xl_istore1i, xl_istore1n, xl_istore2a, xl_istore2i, xl_istore2n, xl_istore3a, xl_istore3i, xl_istore3n, xm_f, xm_n, xm_t, xn_11, xn_13, xn_14, xn_2, xn_3, xn_5, xn_7, xn_8, xo_53_15, xo_53_17, xo_53_19, xo_53_20, xo_53_21, xo_53_22, xo_53_3, xo_53_4, xo_53_5, xp_53_14, xp_53_16, xp_53_20, xp_53_22, xp_53_3, xr_dupi, xr_dupr, xr_goto, xr_iadd, xr_ic_ge, xr_ic_le, xr_ic_ne, xr_iconst, xr_if_eq, xr_if_ne, xr_imul, xr_iret, xr_isub, xs_57, xs_58, xs_64, xtl_n, xtl_s, xz_i, xz_l, xz_n, xz_r, zz_b, zz_bn, Classical.not_not, true_and, Nat.reduceAdd, Nat.reduceLeDiff, ss_6_column, wb_6_column_0, true_implies, false_implies, implies_true, not_true_eq_false, not_false_eq_true, and_true, false_and, and_false, if_true, if_false, Int.reduceEq, Int.reduceSub, Int.reduceAdd, Int.reduceMul, Int.reduceNeg, Int.reduceLT, Int.reduceLE, Int.add_zero]
  have e34 : dk_up (dk_up (dk_up i 36 0) 40 1) 41 0 34 = i 34 := by rw [up_n (by decide), up_n (by decide), up_n (by decide)]
  have e36 : dk_up (dk_up (dk_up i 36 0) 40 1) 41 0 36 = 0 := by rw [up_n (by decide), up_n (by decide), up_s]
  refine sp_6_advance (by rw [e34, hB]; exact hT) (by rw [e36]; omega) (by rw [e36, e34]; omega) (fun i2 hs2 hM2 => ?_)
  rw [e34, e36, hB] at hM2
  simp (disch := first | assumption | omega | exact zc_lo | exact zc_hi | exact zz_l | exact zz_u | exact zz_r) only [xa_57, xa_58, xa_64, xc_1 gc_6_column_0, xc_1 gc_6_column_1, xc_2 gc_6_column_2, xc_3 gc_6_column_3, xl_aload0, xl_iinc2a, xl_iinc2i, xl_iinc2n, xl_iinc3a, xl_iinc3i, xl_iinc3n, xl_iload1, xl_iload2, xl_iload3, xl_istore1a, xl_istore1i, xl_istore1n, xl_istore2a, xl_istore2i, xl_istore2n, xl_istore3a, xl_istore3i, xl_istore3n, xm_f, xm_n, xm_t, xn_11, xn_13, xn_14, xn_2, xn_3, xn_5, xn_7, xn_8, xo_53_15, xo_53_17, xo_53_19, xo_53_20, xo_53_21, xo_53_22, xo_53_3, xo_53_4, xo_53_5, xp_53_14, xp_53_16, xp_53_20, xp_53_22, xp_53_3, xr_dupi, xr_dupr, xr_goto, xr_iadd, xr_ic_ge, xr_ic_le, xr_ic_ne, xr_iconst, xr_if_eq, xr_if_ne, xr_imul, xr_iret, xr_isub, xs_57, xs_58, xs_64, xtl_n, xtl_s, xz_i, xz_l, xz_n, xz_r, zz_b, zz_bn, Classical.not_not, true_and, Nat.reduceAdd, Nat.reduceLeDiff, true_implies, false_implies, implies_true, not_true_eq_false, not_false_eq_true, and_true, false_and, and_false, if_true, if_false, Int.reduceEq, Int.reduceSub, Int.reduceAdd, Int.reduceMul, Int.reduceNeg, Int.reduceLT, Int.reduceLE, Int.add_zero]
  have s2 : sI MG i i2 := sI_tr (sI_up (sI_up (sI_up sI_rf (by decide) _) (by decide) _) (by decide) _) (sI_w hs2 (by decide))
  exact key 12 0 a i2 _ _ _ _ (by omega) (by first | exact Or.inr rfl | exact Or.inl rfl) sA_rf s2 (fun k hk => absurd hk (Nat.not_lt_zero k)) (by rw [hs2 40 (by decide), up_n (by decide), up_s]) (by rw [hs2 41 (by decide), up_s]; rfl) hM2 (fun k hk => absurd hk (Nat.not_lt_zero k))
end TX1
