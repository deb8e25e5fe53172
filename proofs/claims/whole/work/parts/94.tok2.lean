/-! TEXTS: tokens of the reference; words of both -/
def srF (k : Int) : Int := if k = 0 then 0 else if k = 1 then 1 else if k = 2 then 2 else 3
def TM : List Nat := [35, 36, 37, 38, 39]
/-- the reference's token at a cursor -/
def MT (b : Int → Int) (c : Int) (i : Nat → Int) : Prop := i 35 = tS b c ∧ i 36 = tE b c ∧ i 37 = srF (tK b c) ∧ (-1 ≤ i 38 ∧ i 38 ≤ 282429536481) ∧ (tK b c = 1 → i 38 = wdK b (tS b c) (tE b c - tS b c).toNat) ∧ (-1 ≤ i 39 ∧ i 39 ≤ 100000) ∧ (tK b c = 2 → i 39 = nuM b 120 (tS b c) 0) ∧ (¬ tK b c = 2 → i 39 = b (tS b c))
theorem wdK_b {b : Int → Int} {s : Int} {k : Nat} (h : ∀ j : Nat, j < k → 97 ≤ b (s + j) ∧ b (s + j) ≤ 122) : -1 ≤ wdK b s k ∧ wdK b s k ≤ 282429536481 := by
  unfold wdK
  split
  · have q := encF_b (c := fun j => b (s + j)) k h
    have e : (27 : Int) ^ k ≤ 282429536481 := by
      rcases (show k = 0 ∨ k = 1 ∨ k = 2 ∨ k = 3 ∨ k = 4 ∨ k = 5 ∨ k = 6 ∨ k = 7 ∨ k = 8 by omega) with rfl | rfl | rfl | rfl | rfl | rfl | rfl | rfl | rfl <;> decide
    omega
  · omega
section TK2
variable {N : Int} {n : Nat} {xs : Int → Int} {w : Nat → Nat} {a : Nat → Int → Int} {i : Nat → Int} {Q : dk_Q}
theorem sp_6_advance (hT : Tp (byB (a 63) (i 34)) (i 34)) (h0 : 0 ≤ i 36) (h1 : i 36 ≤ i 34) : (∀ i2, sI TM i i2 → MT (byB (a 63) (i 34)) (i 36) i2 → Q none (HH n xs w a i2)) → s_6_advance [.inr (.inr 53)] (HH n xs w a i) Q := by
  intro hQ
  have hTT := hT
  obtain ⟨⟨L0, L1⟩, hb, hL, hP⟩ := hT
  generalize hc : i 36 = c at hQ h0 h1
  -- what is read at a place, as long as the tape is the same
  have bya : ∀ (i2 : Nat → Int) {k : Int} {Q : dk_Q}, i2 34 = i 34 → 0 ≤ k → k ≤ 2147483647 → s_6_byteAt [.inr (.inr 53), .inl k] (HH n xs w a i2) Q = Q (some (.inl (byB (a 63) (i 34) k))) (HH n xs w a i2) := by
    intro i2 k Q e k0 k1
    rw [sp_6_byteAt k0 k1 (by rw [e]; exact ⟨L0, L1⟩), e]
  generalize hbb : byB (a 63) (i 34) = b at hQ hTT hb hL hP bya
  have hSL := tS_le hTT h1
  have hSg := tS_ge (b := b) (c := c)
  have hEL := tE_le hTT h1
  have kb := tK_b (b := b) (c := c)
  have k4 := tK_4 hTT h0
  -- digits
  have lp3 : ∀ (f : Nat) (e v : Int) (i2 : Nat → Int), i 34 - e ≤ f → 0 ≤ e → e ≤ i 34 → sI TM i i2 → i2 35 = tS b c → i2 36 = e → i2 37 = 2 → tK b c = 2 → (-1 ≤ i2 38 ∧ i2 38 ≤ 282429536481) → i2 39 = v → (0 ≤ v ∧ v ≤ 100000) → ruF b 2 f e = tE b c → nuM b f e v = nuM b 120 (tS b c) 0 → dk_WP g_6_advance b_6_advance Q 12 [some (.inr (.inr 53)), none] [] (HH n xs w a i2) := by
    intro f
    induction f with
    | zero =>
      intro e v i2 hf e0 eL hs g35 g36 g37 hk g38 g39 hv hE hN
      have g34 : i2 34 = i 34 := hs 34 (by decide)
      have bb := hb e
      have bn := hL e (by omega)
      have nd : ¬ (48 ≤ b e ∧ b e ≤ 57) := by omega
      rw [wb_6_advance_12]
      simp (disch := first | assumption | omega | exact zc_lo | exact zc_hi | exact zz_l | exact zz_u | exact zz_r) only [xc_1 gc_6_advance_1, xc_1 gc_6_advance_2, xc_2 gc_6_advance_0, xl_aload0, xl_iload1, xl_istore1a, xl_istore1i, xl_istore1n, xm_f, xm_n, xm_t, xn_10, xn_12, xn_13, xn_15, xn_2, xn_3, xn_4, xn_5, xn_7, xn_9, xo_53_15, xo_53_16, xo_53_17, xo_53_18, xo_53_19, xp_53_15, xp_53_16, xp_53_17, xp_53_18, xp_53_19, xr_dupi, xr_dupr, xr_goto, xr_i2l, xr_iadd, xr_ic_ge, xr_ic_le, xr_ic_ne, xr_iconst, xr_if_eq, xr_if_ge, xr_imul, xr_isub, xr_ladd, xr_lconst, xr_lmul, xr_lsub, xr_vret, xtl_n, xtl_s, xz_i, xz_l, xz_n, xz_r, wb_6_advance_0, wb_6_advance_2, wb_6_advance_3, wb_6_advance_4, wb_6_advance_5, wb_6_advance_6, wb_6_advance_7, wb_6_advance_8, wb_6_advance_10, wb_6_advance_11, wb_6_advance_13, wb_6_advance_14, wb_6_advance_15, zz_b, zz_bn, Classical.not_not, true_and, Nat.reduceAdd, Nat.reduceLeDiff, g36, g37, bya i2 g34, sp_6_isDigit, nd, eq_self, true_implies, false_implies, implies_true, not_true_eq_false, not_false_eq_true, and_true, false_and, and_false, if_true, if_false, Int.reduceEq, Int.reduceSub, Int.reduceAdd, Int.reduceMul, Int.reduceNeg, Int.reduceLT, Int.reduceLE, Int.add_zero]
      refine hQ i2 hs ⟨g35, by rw [g36]; exact hE, by rw [g37, hk]; rfl, g38, fun z => by omega, by rw [g39]; omega, fun _ => by rw [g39]; exact hN, fun z => absurd hk z⟩
    | succ f ih =>
      intro e v i2 hf e0 eL hs g35 g36 g37 hk g38 g39 hv hE hN
      have g34 : i2 34 = i 34 := hs 34 (by decide)
      have bb := hb e
      by_cases nd : 48 ≤ b e ∧ b e ≤ 57
      · have z3 : tkF (b e) = 2 := tkF_2.mpr nd
        have eL2 : e < i 34 := by
          by_cases y : e < i 34
          · exact y
          · have := hL e (by omega); omega
        rw [ruF_y z3] at hE
        rw [nuM, if_pos z3] at hN
        rw [wb_6_advance_12]
        simp (disch := first | assumption | omega | exact zc_lo | exact zc_hi | exact zz_l | exact zz_u | exact zz_r) only [xc_1 gc_6_advance_1, xc_1 gc_6_advance_2, xc_2 gc_6_advance_0, xl_aload0, xl_iload1, xl_istore1a, xl_istore1i, xl_istore1n, xm_f, xm_n, xm_t, xn_10, xn_12, xn_13, xn_15, xn_2, xn_3, xn_4, xn_5, xn_7, xn_9, xo_53_15, xo_53_16, xo_53_17, xo_53_18, xo_53_19, xp_53_15, xp_53_16, xp_53_17, xp_53_18, xp_53_19, xr_dupi, xr_dupr, xr_goto, xr_i2l, xr_iadd, xr_ic_ge, xr_ic_le, xr_ic_ne, xr_iconst, xr_if_eq, xr_if_ge, xr_imul, xr_isub, xr_ladd, xr_lconst, xr_lmul, xr_lsub, xr_vret, xtl_n, xtl_s, xz_i, xz_l, xz_n, xz_r, wb_6_advance_0, wb_6_advance_2, wb_6_advance_3, wb_6_advance_4, wb_6_advance_5, wb_6_advance_6, wb_6_advance_7, wb_6_advance_8, wb_6_advance_10, wb_6_advance_11, wb_6_advance_13, wb_6_advance_14, wb_6_advance_15, zz_b, zz_bn, Classical.not_not, true_and, Nat.reduceAdd, Nat.reduceLeDiff, g36, g37, g39, bya i2 g34, sp_6_isDigit, nd, eq_self, up_n (show ¬ 36 = 39 by decide), true_implies, false_implies, implies_true, not_true_eq_false, not_false_eq_true, and_true, false_and, and_false, if_true, if_false, Int.reduceEq, Int.reduceSub, Int.reduceAdd, Int.reduceMul, Int.reduceNeg, Int.reduceLT, Int.reduceLE, Int.add_zero]
        have nx : ∀ y : Int, y = (if 9999 < v then 10000 else 10 * v + b e - 48) → dk_WP g_6_advance b_6_advance Q 12 [some (.inr (.inr 53)), none] [] (HH n xs w a (dk_up (dk_up i2 39 y) 36 (e + 1))) := by
          intro y hy
          refine ih (e + 1) y _ (by omega) (by omega) (by omega) (sI_up (sI_up hs (by decide) _) (by decide) _) ?_ up_s ?_ hk ?_ ?_ ?_ hE (by rw [hy]; exact hN)
          · rw [up_n (by decide), up_n (by decide)]; exact g35
          · rw [up_n (by decide), up_n (by decide)]; exact g37
          · rw [up_n (by decide), up_n (by decide)]; exact g38
          · rw [up_n (by decide), up_s]
          · rw [hy]; split <;> omega
        refine ⟨fun y => ?_, fun y => ?_⟩
        · have y2 : ¬ 9999 < v := by omega
          exact nx _ (by rw [if_neg y2])
        · exact nx _ (by rw [if_pos (by omega)])
      · have z3 : ¬ tkF (b e) = 2 := fun z => nd (tkF_2.mp z)
        rw [ruF_n z3] at hE
        rw [nuM, if_neg z3] at hN
        rw [wb_6_advance_12]
        simp (disch := first | assumption | omega | exact zc_lo | exact zc_hi | exact zz_l | exact zz_u | exact zz_r) only [xc_1 gc_6_advance_1, xc_1 gc_6_advance_2, xc_2 gc_6_advance_0, xl_aload0, xl_iload1, xl_istore1a, xl_istore1i, xl_istore1n, xm_f, xm_n, xm_t, xn_10, xn_12, xn_13, xn_15, xn_2, xn_3, xn_4, xn_5, xn_7, xn_9, xo_53_15, xo_53_16, xo_53_17, xo_53_18, xo_53_19, xp_53_15, xp_53_16, xp_53_17, xp_53_18, xp_53_19, xr_dupi, xr_dupr, xr_goto, xr_i2l, xr_iadd, xr_ic_ge, xr_ic_le, xr_ic_ne, xr_iconst, xr_if_eq, xr_if_ge, xr_imul, xr_isub, xr_ladd, xr_lconst, xr_lmul, xr_lsub, xr_vret, xtl_n, xtl_s, xz_i, xz_l, xz_n, xz_r, wb_6_advance_0, wb_6_advance_2, wb_6_advance_3, wb_6_advance_4, wb_6_advance_5, wb_6_advance_6, wb_6_advance_7, wb_6_advance_8, wb_6_advance_10, wb_6_advance_11, wb_6_advance_13, wb_6_advance_14, wb_6_advance_15, zz_b, zz_bn, Classical.not_not, true_and, Nat.reduceAdd, Nat.reduceLeDiff, g36, g37, bya i2 g34, sp_6_isDigit, nd, eq_self, true_implies, false_implies, implies_true, not_true_eq_false, not_false_eq_true, and_true, false_and, and_false, if_true, if_false, Int.reduceEq, Int.reduceSub, Int.reduceAdd, Int.reduceMul, Int.reduceNeg, Int.reduceLT, Int.reduceLE, Int.add_zero]
        refine hQ i2 hs ⟨g35, by rw [g36]; exact hE, by rw [g37, hk]; rfl, g38, fun z => by omega, by rw [g39]; omega, fun _ => by rw [g39]; exact hN, fun z => absurd hk z⟩
  -- letters
  have lp2 : ∀ (f : Nat) (j : Nat) (i2 : Nat → Int), i 34 - (tS b c + j) ≤ f → tS b c + j ≤ i 34 → sI TM i i2 → i2 35 = tS b c → i2 36 = tS b c + j → i2 37 = 1 → tK b c = 1 → i2 38 = wdK b (tS b c) j → (∀ k : Nat, k < j → 97 ≤ b (tS b c + k) ∧ b (tS b c + k) ≤ 122) → i2 39 = b (tS b c) → ruF b 1 f (tS b c + j) = tE b c → dk_WP g_6_advance b_6_advance Q 9 [some (.inr (.inr 53)), none] [] (HH n xs w a i2) := by
    intro f
    have fin : ∀ (j : Nat) (i2 : Nat → Int), sI TM i i2 → i2 35 = tS b c → i2 36 = tS b c + j → i2 37 = 1 → tK b c = 1 → i2 38 = wdK b (tS b c) j → (∀ k : Nat, k < j → 97 ≤ b (tS b c + k) ∧ b (tS b c + k) ≤ 122) → i2 39 = b (tS b c) → tS b c + j = tE b c → dk_WP g_6_advance b_6_advance Q 12 [some (.inr (.inr 53)), none] [] (HH n xs w a i2) := by
      intro j i2 hs g35 g36 g37 hk g38 hl g39 hE
      have wb := wdK_b hl
      have bb := hb (tS b c)
      rw [wb_6_advance_12]
      simp (disch := first | assumption | omega | exact zc_lo | exact zc_hi | exact zz_l | exact zz_u | exact zz_r) only [xc_1 gc_6_advance_1, xc_1 gc_6_advance_2, xc_2 gc_6_advance_0, xl_aload0, xl_iload1, xl_istore1a, xl_istore1i, xl_istore1n, xm_f, xm_n, xm_t, xn_10, xn_12, xn_13, xn_15, xn_2, xn_3, xn_4, xn_5, xn_7, xn_9, xo_53_15, xo_53_16, xo_53_17, xo_53_18, xo_53_19, xp_53_15, xp_53_16, xp_53_17, xp_53_18, xp_53_19, xr_dupi, xr_dupr, xr_goto, xr_i2l, xr_iadd, xr_ic_ge, xr_ic_le, xr_ic_ne, xr_iconst, xr_if_eq, xr_if_ge, xr_imul, xr_isub, xr_ladd, xr_lconst, xr_lmul, xr_lsub, xr_vret, xtl_n, xtl_s, xz_i, xz_l, xz_n, xz_r, wb_6_advance_0, wb_6_advance_2, wb_6_advance_3, wb_6_advance_4, wb_6_advance_5, wb_6_advance_6, wb_6_advance_7, wb_6_advance_8, wb_6_advance_10, wb_6_advance_11, wb_6_advance_13, wb_6_advance_14, wb_6_advance_15, zz_b, zz_bn, Classical.not_not, true_and, Nat.reduceAdd, Nat.reduceLeDiff, g37, true_implies, false_implies, implies_true, not_true_eq_false, not_false_eq_true, and_true, false_and, and_false, if_true, if_false, Int.reduceEq, Int.reduceSub, Int.reduceAdd, Int.reduceMul, Int.reduceNeg, Int.reduceLT, Int.reduceLE, Int.add_zero]
      refine hQ i2 hs ⟨g35, by rw [g36]; exact hE, by rw [g37, hk]; rfl, by rw [g38]; exact wb, fun _ => ?_, by rw [g39]; omega, fun z => by omega, fun _ => g39⟩
      rw [g38, ← hE]
      congr 1
      omega
    induction f with
    | zero =>
      intro j i2 hf eL hs g35 g36 g37 hk g38 hl g39 hE
      have g34 : i2 34 = i 34 := hs 34 (by decide)
      have bb := hb (tS b c + j)
      have bn := hL (tS b c + j) (by omega)
      have nd : ¬ (97 ≤ b (tS b c + j) ∧ b (tS b c + j) ≤ 122) := by omega
      rw [wb_6_advance_9]
      simp (disch := first | assumption | omega | exact zc_lo | exact zc_hi | exact zz_l | exact zz_u | exact zz_r) only [xc_1 gc_6_advance_1, xc_1 gc_6_advance_2, xc_2 gc_6_advance_0, xl_aload0, xl_iload1, xl_istore1a, xl_istore1i, xl_istore1n, xm_f, xm_n, xm_t, xn_10, xn_12, xn_13, xn_15, xn_2, xn_3, xn_4, xn_5, xn_7, xn_9, xo_53_15, xo_53_16, xo_53_17, xo_53_18, xo_53_19, xp_53_15, xp_53_16, xp_53_17, xp_53_18, xp_53_19, xr_dupi, xr_dupr, xr_goto, xr_i2l, xr_iadd, xr_ic_ge, xr_ic_le, xr_ic_ne, xr_iconst, xr_if_eq, xr_if_ge, xr_imul, xr_isub, xr_ladd, xr_lconst, xr_lmul, xr_lsub, xr_vret, xtl_n, xtl_s, xz_i, xz_l, xz_n, xz_r, zz_b, zz_bn, Classical.not_not, true_and, Nat.reduceAdd, Nat.reduceLeDiff, g36, g37, bya i2 g34, sp_6_isLetter, nd, eq_self, true_implies, false_implies, implies_true, not_true_eq_false, not_false_eq_true, and_true, false_and, and_false, if_true, if_false, Int.reduceEq, Int.reduceSub, Int.reduceAdd, Int.reduceMul, Int.reduceNeg, Int.reduceLT, Int.reduceLE, Int.add_zero]
      exact fin j i2 hs g35 g36 g37 hk g38 hl g39 hE
    | succ f ih =>
      intro j i2 hf eL hs g35 g36 g37 hk g38 hl g39 hE
      have g34 : i2 34 = i 34 := hs 34 (by decide)
      have bb := hb (tS b c + j)
      have wb := wdK_b hl
      by_cases nd : 97 ≤ b (tS b c + j) ∧ b (tS b c + j) ≤ 122
      · have z3 : tkF (b (tS b c + j)) = 1 := tkF_1.mpr nd
        have eL2 : tS b c + j < i 34 := by
          by_cases y : tS b c + j < i 34
          · exact y
          · have := hL (tS b c + j) (by omega); omega
        rw [ruF_y z3] at hE
        rw [wb_6_advance_9]
        have ej : tS b c + (j : Int) - tS b c = j := by omega
        simp (disch := first | assumption | omega | exact zc_lo | exact zc_hi | exact zz_l | exact zz_u | exact zz_r) only [xc_1 gc_6_advance_1, xc_1 gc_6_advance_2, xc_2 gc_6_advance_0, xl_aload0, xl_iload1, xl_istore1a, xl_istore1i, xl_istore1n, xm_f, xm_n, xm_t, xn_10, xn_12, xn_13, xn_15, xn_2, xn_3, xn_4, xn_5, xn_7, xn_9, xo_53_15, xo_53_16, xo_53_17, xo_53_18, xo_53_19, xp_53_15, xp_53_16, xp_53_17, xp_53_18, xp_53_19, xr_dupi, xr_dupr, xr_goto, xr_i2l, xr_iadd, xr_ic_ge, xr_ic_le, xr_ic_ne, xr_iconst, xr_if_eq, xr_if_ge, xr_imul, xr_isub, xr_ladd, xr_lconst, xr_lmul, xr_lsub, xr_vret, xtl_n, xtl_s, xz_i, xz_l, xz_n, xz_r, zz_b, zz_bn, Classical.not_not, true_and, Nat.reduceAdd, Nat.reduceLeDiff, g35, g36, g37, g38, bya i2 g34, sp_6_isLetter, nd, eq_self, ej, up_n (show ¬ 36 = 38 by decide), wb_6_advance_10, wb_6_advance_11, true_implies, false_implies, implies_true, not_true_eq_false, not_false_eq_true, and_true, false_and, and_false, if_true, if_false, Int.reduceEq, Int.reduceSub, Int.reduceAdd, Int.reduceMul, Int.reduceNeg, Int.reduceLT, Int.reduceLE, Int.add_zero]
        have nx : ∀ y : Int, y = wdK b (tS b c) (j + 1) → dk_WP g_6_advance b_6_advance Q 9 [some (.inr (.inr 53)), none] [] (HH n xs w a (dk_up (dk_up i2 38 y) 36 (tS b c + j + 1))) := by
          intro y hy
          refine ih (j + 1) _ (by omega) (by omega) (sI_up (sI_up hs (by decide) _) (by decide) _) ?_ ?_ ?_ hk ?_ (fun k hk2 => ?_) ?_ ?_
          · rw [up_n (by decide), up_n (by decide)]; exact g35
          · rw [up_s]; omega
          · rw [up_n (by decide), up_n (by decide)]; exact g37
          · rw [up_n (by decide), up_s]; exact hy
          · by_cases e : k = j
            · subst e; exact nd
            · exact hl k (by omega)
          · rw [up_n (by decide), up_n (by decide)]; exact g39
          · rw [show tS b c + ((j + 1 : Nat) : Int) = tS b c + j + 1 by omega]; exact hE
        refine ⟨fun y => nx _ ?_, fun y => nx _ ?_⟩
        · unfold wdK
          rw [if_neg (by omega)]
        · unfold wdK
          rw [if_pos (by omega), if_pos (by omega), encF]
      · have z3 : ¬ tkF (b (tS b c + j)) = 1 := fun z => nd (tkF_1.mp z)
        rw [ruF_n z3] at hE
        rw [wb_6_advance_9]
        simp (disch := first | assumption | omega | exact zc_lo | exact zc_hi | exact zz_l | exact zz_u | exact zz_r) only [xc_1 gc_6_advance_1, xc_1 gc_6_advance_2, xc_2 gc_6_advance_0, xl_aload0, xl_iload1, xl_istore1a, xl_istore1i, xl_istore1n, xm_f, xm_n, xm_t, xn_10, xn_12, xn_13, xn_15, xn_2, xn_3, xn_4, xn_5, xn_7, xn_9, xo_53_15, xo_53_16, xo_53_17, xo_53_18, xo_53_19, xp_53_15, xp_53_16, xp_53_17, xp_53_18, xp_53_19, xr_dupi, xr_dupr, xr_goto, xr_i2l, xr_iadd, xr_ic_ge, xr_ic_le, xr_ic_ne, xr_iconst, xr_if_eq, xr_if_ge, xr_imul, xr_isub, xr_ladd, xr_lconst, xr_lmul, xr_lsub, xr_vret, xtl_n, xtl_s, xz_i, xz_l, xz_n, xz_r, zz_b, zz_bn, Classical.not_not, true_and, Nat.reduceAdd, Nat.reduceLeDiff, g36, g37, bya i2 g34, sp_6_isLetter, nd, eq_self, true_implies, false_implies, implies_true, not_true_eq_false, not_false_eq_true, and_true, false_and, and_false, if_true, if_false, Int.reduceEq, Int.reduceSub, Int.reduceAdd, Int.reduceMul, Int.reduceNeg, Int.reduceLT, Int.reduceLE, Int.add_zero]
        exact fin j i2 hs g35 g36 g37 hk g38 hl g39 hE
  -- behind the sort
  have srt : ∀ (k : Int) (i2 : Nat → Int), k = srF (tK b c) → sI TM i i2 → i2 35 = tS b c → i2 36 = tS b c → dk_WP g_6_advance b_6_advance Q 6 [some (.inr (.inr 53)), some (.inl (b (tS b c)))] [.inl k, .inr (.inr 53)] (HH n xs w a i2) := by
    intro k i2 hk hs g35 g36
    have bb := hb (tS b c)
    have kb2 : 0 ≤ k ∧ k ≤ 3 := by rw [hk]; unfold srF; (repeat' split) <;> omega
    have f37 : ∀ x y z, dk_up (dk_up (dk_up i2 37 x) 38 y) 39 z 37 = x := fun x y z => by rw [up_n (by decide), up_n (by decide), up_s]
    have f36 : ∀ x y z, dk_up (dk_up (dk_up i2 37 x) 38 y) 39 z 36 = tS b c := fun x y z => by rw [up_n (by decide), up_n (by decide), up_n (by decide)]; exact g36
    have f35 : ∀ x y z, dk_up (dk_up (dk_up i2 37 x) 38 y) 39 z 35 = tS b c := fun x y z => by rw [up_n (by decide), up_n (by decide), up_n (by decide)]; exact g35
    have f38 : ∀ x y z, dk_up (dk_up (dk_up i2 37 x) 38 y) 39 z 38 = y := fun x y z => by rw [up_n (by decide), up_s]
    have f39 : ∀ x y z, dk_up (dk_up (dk_up i2 37 x) 38 y) 39 z 39 = z := fun x y z => up_s
    have hs4 : ∀ x y z, sI TM i (dk_up (dk_up (dk_up i2 37 x) 38 y) 39 z) := fun x y z => sI_up (sI_up (sI_up hs (by decide) _) (by decide) _) (by decide) _
    have e37 : ∀ x y, dk_up (dk_up i2 37 x) 38 y 37 = x := fun x y => by rw [up_n (by decide), up_s]
    rcases (show tK b c = 0 ∨ tK b c = 1 ∨ tK b c = 2 ∨ tK b c = 3 ∨ tK b c = 5 by omega) with t | t | t | t | t
    · have hk2 : k = 0 := by rw [hk, t]; rfl
      subst hk2
      simp (disch := first | assumption | omega | exact zc_lo | exact zc_hi | exact zz_l | exact zz_u | exact zz_r) only [xc_1 gc_6_advance_1, xc_1 gc_6_advance_2, xc_2 gc_6_advance_0, xl_aload0, xl_iload1, xl_istore1a, xl_istore1i, xl_istore1n, xm_f, xm_n, xm_t, xn_10, xn_12, xn_13, xn_15, xn_2, xn_3, xn_4, xn_5, xn_7, xn_9, xo_53_15, xo_53_16, xo_53_17, xo_53_18, xo_53_19, xp_53_15, xp_53_16, xp_53_17, xp_53_18, xp_53_19, xr_dupi, xr_dupr, xr_goto, xr_i2l, xr_iadd, xr_ic_ge, xr_ic_le, xr_ic_ne, xr_iconst, xr_if_eq, xr_if_ge, xr_imul, xr_isub, xr_ladd, xr_lconst, xr_lmul, xr_lsub, xr_vret, xtl_n, xtl_s, xz_i, xz_l, xz_n, xz_r, zz_b, zz_bn, Classical.not_not, true_and, Nat.reduceAdd, Nat.reduceLeDiff, wb_6_advance_6, wb_6_advance_7, wb_6_advance_8, e37, f37, true_implies, false_implies, implies_true, not_true_eq_false, not_false_eq_true, and_true, false_and, and_false, if_true, if_false, Int.reduceEq, Int.reduceSub, Int.reduceAdd, Int.reduceMul, Int.reduceNeg, Int.reduceLT, Int.reduceLE, Int.add_zero]
      rw [wb_6_advance_9]
      simp (disch := first | assumption | omega | exact zc_lo | exact zc_hi | exact zz_l | exact zz_u | exact zz_r) only [xc_1 gc_6_advance_1, xc_1 gc_6_advance_2, xc_2 gc_6_advance_0, xl_aload0, xl_iload1, xl_istore1a, xl_istore1i, xl_istore1n, xm_f, xm_n, xm_t, xn_10, xn_12, xn_13, xn_15, xn_2, xn_3, xn_4, xn_5, xn_7, xn_9, xo_53_15, xo_53_16, xo_53_17, xo_53_18, xo_53_19, xp_53_15, xp_53_16, xp_53_17, xp_53_18, xp_53_19, xr_dupi, xr_dupr, xr_goto, xr_i2l, xr_iadd, xr_ic_ge, xr_ic_le, xr_ic_ne, xr_iconst, xr_if_eq, xr_if_ge, xr_imul, xr_isub, xr_ladd, xr_lconst, xr_lmul, xr_lsub, xr_vret, xtl_n, xtl_s, xz_i, xz_l, xz_n, xz_r, zz_b, zz_bn, Classical.not_not, true_and, Nat.reduceAdd, Nat.reduceLeDiff, f37, true_implies, false_implies, implies_true, not_true_eq_false, not_false_eq_true, and_true, false_and, and_false, if_true, if_false, Int.reduceEq, Int.reduceSub, Int.reduceAdd, Int.reduceMul, Int.reduceNeg, Int.reduceLT, Int.reduceLE, Int.add_zero]
      rw [wb_6_advance_12]
      simp (disch := first | assumption | omega | exact zc_lo | exact zc_hi | exact zz_l | exact zz_u | exact zz_r) only [xc_1 gc_6_advance_1, xc_1 gc_6_advance_2, xc_2 gc_6_advance_0, xl_aload0, xl_iload1, xl_istore1a, xl_istore1i, xl_istore1n, xm_f, xm_n, xm_t, xn_10, xn_12, xn_13, xn_15, xn_2, xn_3, xn_4, xn_5, xn_7, xn_9, xo_53_15, xo_53_16, xo_53_17, xo_53_18, xo_53_19, xp_53_15, xp_53_16, xp_53_17, xp_53_18, xp_53_19, xr_dupi, xr_dupr, xr_goto, xr_i2l, xr_iadd, xr_ic_ge, xr_ic_le, xr_ic_ne, xr_iconst, xr_if_eq, xr_if_ge, xr_imul, xr_isub, xr_ladd, xr_lconst, xr_lmul, xr_lsub, xr_vret, xtl_n, xtl_s, xz_i, xz_l, xz_n, xz_r, wb_6_advance_0, wb_6_advance_2, wb_6_advance_3, wb_6_advance_4, wb_6_advance_5, wb_6_advance_6, wb_6_advance_7, wb_6_advance_8, wb_6_advance_10, wb_6_advance_11, wb_6_advance_13, wb_6_advance_14, wb_6_advance_15, zz_b, zz_bn, Classical.not_not, true_and, Nat.reduceAdd, Nat.reduceLeDiff, f37, true_implies, false_implies, implies_true, not_true_eq_false, not_false_eq_true, and_true, false_and, and_false, if_true, if_false, Int.reduceEq, Int.reduceSub, Int.reduceAdd, Int.reduceMul, Int.reduceNeg, Int.reduceLT, Int.reduceLE, Int.add_zero]
      refine hQ _ (hs4 _ _ _) ⟨f35 _ _ _, ?_, by rw [f37, t]; rfl, by rw [f38]; omega, fun z => by omega, by rw [f39]; omega, fun z => by omega, fun _ => f39 _ _ _⟩
      rw [f36]
      unfold tE
      rw [if_neg (by omega), if_pos t]
    · have hk2 : k = 1 := by rw [hk, t]; rfl
      subst hk2
      simp (disch := first | assumption | omega | exact zc_lo | exact zc_hi | exact zz_l | exact zz_u | exact zz_r) only [xc_1 gc_6_advance_1, xc_1 gc_6_advance_2, xc_2 gc_6_advance_0, xl_aload0, xl_iload1, xl_istore1a, xl_istore1i, xl_istore1n, xm_f, xm_n, xm_t, xn_10, xn_12, xn_13, xn_15, xn_2, xn_3, xn_4, xn_5, xn_7, xn_9, xo_53_15, xo_53_16, xo_53_17, xo_53_18, xo_53_19, xp_53_15, xp_53_16, xp_53_17, xp_53_18, xp_53_19, xr_dupi, xr_dupr, xr_goto, xr_i2l, xr_iadd, xr_ic_ge, xr_ic_le, xr_ic_ne, xr_iconst, xr_if_eq, xr_if_ge, xr_imul, xr_isub, xr_ladd, xr_lconst, xr_lmul, xr_lsub, xr_vret, xtl_n, xtl_s, xz_i, xz_l, xz_n, xz_r, zz_b, zz_bn, Classical.not_not, true_and, Nat.reduceAdd, Nat.reduceLeDiff, wb_6_advance_6, wb_6_advance_7, wb_6_advance_8, e37, f37, true_implies, false_implies, implies_true, not_true_eq_false, not_false_eq_true, and_true, false_and, and_false, if_true, if_false, Int.reduceEq, Int.reduceSub, Int.reduceAdd, Int.reduceMul, Int.reduceNeg, Int.reduceLT, Int.reduceLE, Int.add_zero]
      have q := lp2 120 0 _ (by omega) (by omega) (hs4 1 0 (b (tS b c))) (f35 _ _ _) (by rw [f36]; omega) (f37 _ _ _) t (by rw [f38]; rfl) (fun k hk => absurd hk (Nat.not_lt_zero k)) (f39 _ _ _) (by rw [show tS b c + ((0 : Nat) : Int) = tS b c by omega, tE_12 (by omega), t])
      rw [wb_6_advance_9] at q ⊢
      exact q
    · have hk2 : k = 2 := by rw [hk, t]; rfl
      subst hk2
      simp (disch := first | assumption | omega | exact zc_lo | exact zc_hi | exact zz_l | exact zz_u | exact zz_r) only [xc_1 gc_6_advance_1, xc_1 gc_6_advance_2, xc_2 gc_6_advance_0, xl_aload0, xl_iload1, xl_istore1a, xl_istore1i, xl_istore1n, xm_f, xm_n, xm_t, xn_10, xn_12, xn_13, xn_15, xn_2, xn_3, xn_4, xn_5, xn_7, xn_9, xo_53_15, xo_53_16, xo_53_17, xo_53_18, xo_53_19, xp_53_15, xp_53_16, xp_53_17, xp_53_18, xp_53_19, xr_dupi, xr_dupr, xr_goto, xr_i2l, xr_iadd, xr_ic_ge, xr_ic_le, xr_ic_ne, xr_iconst, xr_if_eq, xr_if_ge, xr_imul, xr_isub, xr_ladd, xr_lconst, xr_lmul, xr_lsub, xr_vret, xtl_n, xtl_s, xz_i, xz_l, xz_n, xz_r, zz_b, zz_bn, Classical.not_not, true_and, Nat.reduceAdd, Nat.reduceLeDiff, wb_6_advance_6, wb_6_advance_7, wb_6_advance_8, e37, f37, eq_self, true_implies, false_implies, implies_true, not_true_eq_false, not_false_eq_true, and_true, false_and, and_false, if_true, if_false, Int.reduceEq, Int.reduceSub, Int.reduceAdd, Int.reduceMul, Int.reduceNeg, Int.reduceLT, Int.reduceLE, Int.add_zero]
      rw [wb_6_advance_9]
      simp (disch := first | assumption | omega | exact zc_lo | exact zc_hi | exact zz_l | exact zz_u | exact zz_r) only [xc_1 gc_6_advance_1, xc_1 gc_6_advance_2, xc_2 gc_6_advance_0, xl_aload0, xl_iload1, xl_istore1a, xl_istore1i, xl_istore1n, xm_f, xm_n, xm_t, xn_10, xn_12, xn_13, xn_15, xn_2, xn_3, xn_4, xn_5, xn_7, xn_9, xo_53_15, xo_53_16, xo_53_17, xo_53_18, xo_53_19, xp_53_15, xp_53_16, xp_53_17, xp_53_18, xp_53_19, xr_dupi, xr_dupr, xr_goto, xr_i2l, xr_iadd, xr_ic_ge, xr_ic_le, xr_ic_ne, xr_iconst, xr_if_eq, xr_if_ge, xr_imul, xr_isub, xr_ladd, xr_lconst, xr_lmul, xr_lsub, xr_vret, xtl_n, xtl_s, xz_i, xz_l, xz_n, xz_r, zz_b, zz_bn, Classical.not_not, true_and, Nat.reduceAdd, Nat.reduceLeDiff, f37, true_implies, false_implies, implies_true, not_true_eq_false, not_false_eq_true, and_true, false_and, and_false, if_true, if_false, Int.reduceEq, Int.reduceSub, Int.reduceAdd, Int.reduceMul, Int.reduceNeg, Int.reduceLT, Int.reduceLE, Int.add_zero]
      exact lp3 120 (tS b c) 0 _ (by omega) (by omega) hSL (hs4 _ _ _) (f35 _ _ _) (f36 _ _ _) (f37 _ _ _) t (by rw [f38]; omega) (f39 _ _ _) (by omega) (by rw [tE_12 (by omega), t]) rfl
    all_goals (
      have hk2 : k = 3 := by rw [hk, t]; rfl
      subst hk2
      have u37 : ∀ x y z, dk_up (dk_up (dk_up (dk_up i2 37 x) 38 y) 39 z) 36 (tS b c + 1) 37 = x := fun x y z => by rw [up_n (by decide), f37]
      simp (disch := first | assumption | omega | exact zc_lo | exact zc_hi | exact zz_l | exact zz_u | exact zz_r) only [xc_1 gc_6_advance_1, xc_1 gc_6_advance_2, xc_2 gc_6_advance_0, xl_aload0, xl_iload1, xl_istore1a, xl_istore1i, xl_istore1n, xm_f, xm_n, xm_t, xn_10, xn_12, xn_13, xn_15, xn_2, xn_3, xn_4, xn_5, xn_7, xn_9, xo_53_15, xo_53_16, xo_53_17, xo_53_18, xo_53_19, xp_53_15, xp_53_16, xp_53_17, xp_53_18, xp_53_19, xr_dupi, xr_dupr, xr_goto, xr_i2l, xr_iadd, xr_ic_ge, xr_ic_le, xr_ic_ne, xr_iconst, xr_if_eq, xr_if_ge, xr_imul, xr_isub, xr_ladd, xr_lconst, xr_lmul, xr_lsub, xr_vret, xtl_n, xtl_s, xz_i, xz_l, xz_n, xz_r, zz_b, zz_bn, Classical.not_not, true_and, Nat.reduceAdd, Nat.reduceLeDiff, wb_6_advance_6, wb_6_advance_7, wb_6_advance_8, e37, f37, f36, eq_self, true_implies, false_implies, implies_true, not_true_eq_false, not_false_eq_true, and_true, false_and, and_false, if_true, if_false, Int.reduceEq, Int.reduceSub, Int.reduceAdd, Int.reduceMul, Int.reduceNeg, Int.reduceLT, Int.reduceLE, Int.add_zero]
      rw [wb_6_advance_9]
      simp (disch := first | assumption | omega | exact zc_lo | exact zc_hi | exact zz_l | exact zz_u | exact zz_r) only [xc_1 gc_6_advance_1, xc_1 gc_6_advance_2, xc_2 gc_6_advance_0, xl_aload0, xl_iload1, xl_istore1a, xl_istore1i, xl_istore1n, xm_f, xm_n, xm_t, xn_10, xn_12, xn_13, xn_15, xn_2, xn_3, xn_4, xn_5, xn_7, xn_9, xo_53_15, xo_53_16, xo_53_17, xo_53_18, xo_53_19, xp_53_15, xp_53_16, xp_53_17, xp_53_18, xp_53_19, xr_dupi, xr_dupr, xr_goto, xr_i2l, xr_iadd, xr_ic_ge, xr_ic_le, xr_ic_ne, xr_iconst, xr_if_eq, xr_if_ge, xr_imul, xr_isub, xr_ladd, xr_lconst, xr_lmul, xr_lsub, xr_vret, xtl_n, xtl_s, xz_i, xz_l, xz_n, xz_r, zz_b, zz_bn, Classical.not_not, true_and, Nat.reduceAdd, Nat.reduceLeDiff, u37, true_implies, false_implies, implies_true, not_true_eq_false, not_false_eq_true, and_true, false_and, and_false, if_true, if_false, Int.reduceEq, Int.reduceSub, Int.reduceAdd, Int.reduceMul, Int.reduceNeg, Int.reduceLT, Int.reduceLE, Int.add_zero]
      rw [wb_6_advance_12]
      simp (disch := first | assumption | omega | exact zc_lo | exact zc_hi | exact zz_l | exact zz_u | exact zz_r) only [xc_1 gc_6_advance_1, xc_1 gc_6_advance_2, xc_2 gc_6_advance_0, xl_aload0, xl_iload1, xl_istore1a, xl_istore1i, xl_istore1n, xm_f, xm_n, xm_t, xn_10, xn_12, xn_13, xn_15, xn_2, xn_3, xn_4, xn_5, xn_7, xn_9, xo_53_15, xo_53_16, xo_53_17, xo_53_18, xo_53_19, xp_53_15, xp_53_16, xp_53_17, xp_53_18, xp_53_19, xr_dupi, xr_dupr, xr_goto, xr_i2l, xr_iadd, xr_ic_ge, xr_ic_le, xr_ic_ne, xr_iconst, xr_if_eq, xr_if_ge, xr_imul, xr_isub, xr_ladd, xr_lconst, xr_lmul, xr_lsub, xr_vret, xtl_n, xtl_s, xz_i, xz_l, xz_n, xz_r, wb_6_advance_0, wb_6_advance_2, wb_6_advance_3, wb_6_advance_4, wb_6_advance_5, wb_6_advance_6, wb_6_advance_7, wb_6_advance_8, wb_6_advance_10, wb_6_advance_11, wb_6_advance_13, wb_6_advance_14, wb_6_advance_15, zz_b, zz_bn, Classical.not_not, true_and, Nat.reduceAdd, Nat.reduceLeDiff, u37, true_implies, false_implies, implies_true, not_true_eq_false, not_false_eq_true, and_true, false_and, and_false, if_true, if_false, Int.reduceEq, Int.reduceSub, Int.reduceAdd, Int.reduceMul, Int.reduceNeg, Int.reduceLT, Int.reduceLE, Int.add_zero]
      refine hQ _ (sI_up (hs4 _ _ _) (by decide) _) ⟨by rw [up_n (by decide), f35], ?_, by rw [u37, t]; rfl, by rw [up_n (by decide), f38]; omega, fun z => by omega, by rw [up_n (by decide), f39]; omega, fun z => by omega, fun _ => by rw [up_n (by decide), f39]⟩
      rw [up_s]
      unfold tE
      rw [if_pos (by omega)])
  -- behind the blanks
  have mid : ∀ (i2 : Nat → Int), sI TM i i2 → i2 35 = tS b c → dk_WP g_6_advance b_6_advance Q 2 [some (.inr (.inr 53)), none] [] (HH n xs w a i2) := by
    intro i2 hs g35
    have bb := hb (tS b c)
    have e34 : ∀ y, dk_up i2 36 y 34 = i 34 := fun y => by rw [up_n (by decide)]; exact hs 34 (by decide)
    have e35 : ∀ y, dk_up i2 36 y 35 = tS b c := fun y => by rw [up_n (by decide)]; exact g35
    have e36 : ∀ y, dk_up i2 36 y 36 = y := fun y => up_s
    have hs3 : sI TM i (dk_up i2 36 (tS b c)) := sI_up hs (by decide) _
    have sr : ∀ k, k = srF (tK b c) → dk_WP g_6_advance b_6_advance Q 6 [some (.inr (.inr 53)), some (.inl (b (tS b c)))] [.inl k, .inr (.inr 53)] (HH n xs w a (dk_up i2 36 (tS b c))) := fun k hk => srt k _ hk hs3 (e35 _) (e36 _)
    simp (disch := first | assumption | omega | exact zc_lo | exact zc_hi | exact zz_l | exact zz_u | exact zz_r) only [xc_1 gc_6_advance_1, xc_1 gc_6_advance_2, xc_2 gc_6_advance_0, xl_aload0, xl_iload1, xl_istore1a, xl_istore1i, xl_istore1n, xm_f, xm_n, xm_t, xn_10, xn_12, xn_13, xn_15, xn_2, xn_3, xn_4, xn_5, xn_7, xn_9, xo_53_15, xo_53_16, xo_53_17, xo_53_18, xo_53_19, xp_53_15, xp_53_16, xp_53_17, xp_53_18, xp_53_19, xr_dupi, xr_dupr, xr_goto, xr_i2l, xr_iadd, xr_ic_ge, xr_ic_le, xr_ic_ne, xr_iconst, xr_if_eq, xr_if_ge, xr_imul, xr_isub, xr_ladd, xr_lconst, xr_lmul, xr_lsub, xr_vret, xtl_n, xtl_s, xz_i, xz_l, xz_n, xz_r, zz_b, zz_bn, Classical.not_not, true_and, Nat.reduceAdd, Nat.reduceLeDiff, wb_6_advance_2, wb_6_advance_3, wb_6_advance_4, wb_6_advance_5, g35, e35, bya (dk_up i2 36 (tS b c)) (e34 _), sp_6_isLetter, sp_6_isDigit]
    refine ⟨fun z => ⟨fun z2 => ⟨fun z3 => sr 3 ?_, fun z3 => sr 2 ?_⟩, fun z2 => sr 1 ?_⟩, fun z => sr 0 ?_⟩
    · have t0 : ¬ tK b c = 0 := fun y => by have := tkF_0.mp y; omega
      have t1 : ¬ tK b c = 1 := fun y => z2 (tkF_1.mp y)
      have t2 : ¬ tK b c = 2 := fun y => z3 (tkF_2.mp y)
      unfold srF
      rw [if_neg t0, if_neg t1, if_neg t2]
    · have t2 : tK b c = 2 := tkF_2.mpr z3
      rw [t2]; rfl
    · have t1 : tK b c = 1 := tkF_1.mpr z2
      rw [t1]; rfl
    · have t0 : tK b c = 0 := tkF_0.mpr (by omega)
      rw [t0]; rfl
  -- the blanks
  have lp1 : ∀ (f : Nat) (s : Int) (i2 : Nat → Int), i 34 - s ≤ f → 0 ≤ s → s ≤ i 34 → sI TM i i2 → i2 35 = s → ruF b 4 f s = tS b c → dk_WP g_6_advance b_6_advance Q 1 [some (.inr (.inr 53)), none] [] (HH n xs w a i2) := by
    intro f
    induction f with
    | zero =>
      intro s i2 hf s0 sL hs g35 hS
      have g34 : i2 34 = i 34 := hs 34 (by decide)
      have bb := hb s
      have bn := hL s (by omega)
      rw [wb_6_advance_1]
      simp (disch := first | assumption | omega | exact zc_lo | exact zc_hi | exact zz_l | exact zz_u | exact zz_r) only [xc_1 gc_6_advance_1, xc_1 gc_6_advance_2, xc_2 gc_6_advance_0, xl_aload0, xl_iload1, xl_istore1a, xl_istore1i, xl_istore1n, xm_f, xm_n, xm_t, xn_10, xn_12, xn_13, xn_15, xn_2, xn_3, xn_4, xn_5, xn_7, xn_9, xo_53_15, xo_53_16, xo_53_17, xo_53_18, xo_53_19, xp_53_15, xp_53_16, xp_53_17, xp_53_18, xp_53_19, xr_dupi, xr_dupr, xr_goto, xr_i2l, xr_iadd, xr_ic_ge, xr_ic_le, xr_ic_ne, xr_iconst, xr_if_eq, xr_if_ge, xr_imul, xr_isub, xr_ladd, xr_lconst, xr_lmul, xr_lsub, xr_vret, xtl_n, xtl_s, xz_i, xz_l, xz_n, xz_r, zz_b, zz_bn, Classical.not_not, true_and, Nat.reduceAdd, Nat.reduceLeDiff, g35, bya i2 g34]
      exact ⟨fun _ => mid i2 hs (by rw [g35]; exact hS), fun z => absurd z (by omega)⟩
    | succ f ih =>
      intro s i2 hf s0 sL hs g35 hS
      have g34 : i2 34 = i 34 := hs 34 (by decide)
      have bb := hb s
      rw [wb_6_advance_1]
      simp (disch := first | assumption | omega | exact zc_lo | exact zc_hi | exact zz_l | exact zz_u | exact zz_r) only [xc_1 gc_6_advance_1, xc_1 gc_6_advance_2, xc_2 gc_6_advance_0, xl_aload0, xl_iload1, xl_istore1a, xl_istore1i, xl_istore1n, xm_f, xm_n, xm_t, xn_10, xn_12, xn_13, xn_15, xn_2, xn_3, xn_4, xn_5, xn_7, xn_9, xo_53_15, xo_53_16, xo_53_17, xo_53_18, xo_53_19, xp_53_15, xp_53_16, xp_53_17, xp_53_18, xp_53_19, xr_dupi, xr_dupr, xr_goto, xr_i2l, xr_iadd, xr_ic_ge, xr_ic_le, xr_ic_ne, xr_iconst, xr_if_eq, xr_if_ge, xr_imul, xr_isub, xr_ladd, xr_lconst, xr_lmul, xr_lsub, xr_vret, xtl_n, xtl_s, xz_i, xz_l, xz_n, xz_r, zz_b, zz_bn, Classical.not_not, true_and, Nat.reduceAdd, Nat.reduceLeDiff, g35, bya i2 g34]
      refine ⟨fun z2 => ?_, fun z2 => ?_⟩
      · rw [ruF_n (fun y => z2 (tkF_4.mp y))] at hS
        exact mid i2 hs (by rw [g35]; exact hS)
      · rw [ruF_y (tkF_4.mpr z2)] at hS
        have z3 : s < i 34 := by
          by_cases y : s < i 34
          · exact y
          · have := hL s (by omega); omega
        exact ih (s + 1) _ (by omega) (by omega) (by omega) (sI_up hs (by decide) _) up_s hS
  simp (disch := first | assumption | omega | exact zc_lo | exact zc_hi | exact zz_l | exact zz_u | exact zz_r) only [xc_1 gc_6_advance_1, xc_1 gc_6_advance_2, xc_2 gc_6_advance_0, xl_aload0, xl_iload1, xl_istore1a, xl_istore1i, xl_istore1n, xm_f, xm_n, xm_t, xn_10, xn_12, xn_13, xn_15, xn_2, xn_3, xn_4, xn_5, xn_7, xn_9, xo_53_15, xo_53_16, xo_53_17, xo_53_18, xo_53_19, xp_53_15, xp_53_16, xp_53_17, xp_53_18, xp_53_19, xr_dupi, xr_dupr, xr_goto, xr_i2l, xr_iadd, xr_ic_ge, xr_ic_le, xr_ic_ne, xr_iconst, xr_if_eq, xr_if_ge, xr_imul, xr_isub, xr_ladd, xr_lconst, xr_lmul, xr_lsub, xr_vret, xtl_n, xtl_s, xz_i, xz_l, xz_n, xz_r, zz_b, zz_bn, Classical.not_not, true_and, Nat.reduceAdd, Nat.reduceLeDiff, ss_6_advance, wb_6_advance_0, hc]
  exact lp1 120 c _ (by omega) h0 h1 (sI_up sI_rf (by decide) _) up_s rfl
end TK2
