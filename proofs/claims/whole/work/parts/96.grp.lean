/-! TEXTS: groups of the class' reader -/
def nu (b : Int → Int) (c : Int) : Int := nuC b 120 (tS b c) 0
def nOK (b : Int → Int) (c lo hi : Int) : Bool := decide (tK b c = 2) && (decide (lo ≤ nu b c) && decide (nu b c ≤ hi))
theorem nOK_t {b : Int → Int} {c lo hi : Int} : nOK b c lo hi = true ↔ (tK b c = 2 ∧ lo ≤ nu b c ∧ nu b c ≤ hi) := by
  unfold nOK
  simp only [Bool.and_eq_true, decide_eq_true_eq]
theorem nOK_f {b : Int → Int} {c lo hi : Int} (h : ¬ (tK b c = 2 ∧ lo ≤ nu b c ∧ nu b c ≤ hi)) : nOK b c lo hi = false := by
  cases e : nOK b c lo hi with
  | false => rfl
  | true => exact absurd (nOK_t.mp e) h
/-- options: whether they are right, the cursor behind them, part, share, drift -/
def opF (b : Int → Int) : Nat → Int → Int → Int → Int → Bool × Int × Int × Int × Int
  | 0, c, p, s, d => (true, c, p, s, d)
  | f + 1, c, p, s, d => if moF b c = 0 then (true, c, p, s, d) else if nOK b (tE b c) 0 (if moF b c = 4 then 99 else 100) = true then opF b f (tE b (tE b c)) (if moF b c = 2 then nu b (tE b c) else p) (if moF b c = 3 then nu b (tE b c) else s) (if moF b c = 4 then nu b (tE b c) else d) else (false, tE b c, p, s, d)
theorem opF_0 {b : Int → Int} {f : Nat} {c p s d : Int} (h : moF b c = 0) : opF b f c p s d = (true, c, p, s, d) := by
  cases f with
  | zero => rfl
  | succ f => rw [opF, if_pos h]
theorem opF_y {b : Int → Int} {f : Nat} {c p s d : Int} (h : ¬ moF b c = 0) (h2 : nOK b (tE b c) 0 (if moF b c = 4 then 99 else 100) = true) : opF b (f + 1) c p s d = opF b f (tE b (tE b c)) (if moF b c = 2 then nu b (tE b c) else p) (if moF b c = 3 then nu b (tE b c) else s) (if moF b c = 4 then nu b (tE b c) else d) := by rw [opF, if_neg h, if_pos h2]
theorem opF_n {b : Int → Int} {f : Nat} {c p s d : Int} (h : ¬ moF b c = 0) (h2 : nOK b (tE b c) 0 (if moF b c = 4 then 99 else 100) = false) : opF b (f + 1) c p s d = (false, tE b c, p, s, d) := by
  rw [opF, if_neg h, if_neg (by rw [h2]; exact Bool.false_ne_true)]
theorem opF_b {b : Int → Int} {L : Int} (hT : Tp b L) : ∀ (f : Nat) (c p s d : Int), 0 ≤ c → c ≤ L → (0 ≤ p ∧ p ≤ 100) → (0 ≤ s ∧ s ≤ 100) → (0 ≤ d ∧ d ≤ 99) → (c ≤ (opF b f c p s d).2.1 ∧ (opF b f c p s d).2.1 ≤ L) ∧ (0 ≤ (opF b f c p s d).2.2.1 ∧ (opF b f c p s d).2.2.1 ≤ 100) ∧ (0 ≤ (opF b f c p s d).2.2.2.1 ∧ (opF b f c p s d).2.2.2.1 ≤ 100) ∧ (0 ≤ (opF b f c p s d).2.2.2.2 ∧ (opF b f c p s d).2.2.2.2 ≤ 99)
  | 0, c, p, s, d, h0, h1, hp, hs, hd => by simp only [opF]; omega
  | f + 1, c, p, s, d, h0, h1, hp, hs, hd => by
    by_cases z : moF b c = 0
    · rw [opF_0 z]; simp only; omega
    · have e1 := tE_ge0 (b := b) (c := c)
      have e2 := tS_ge (b := b) (c := c)
      have e3 := tE_le hT h1
      have e4 := tE_ge0 (b := b) (c := tE b c)
      have e5 := tS_ge (b := b) (c := tE b c)
      have e6 := tE_le hT e3
      cases z2 : nOK b (tE b c) 0 (if moF b c = 4 then 99 else 100) with
      | true =>
        rw [opF_y z z2]
        have q := nOK_t.mp z2
        have q2 : nu b (tE b c) ≤ 100 := by have := q.2.2; split at this <;> omega
        have q3 : moF b c = 4 → nu b (tE b c) ≤ 99 := fun y => by have := q.2.2; rw [if_pos y] at this; exact this
        have r := opF_b hT f (tE b (tE b c)) (if moF b c = 2 then nu b (tE b c) else p) (if moF b c = 3 then nu b (tE b c) else s) (if moF b c = 4 then nu b (tE b c) else d) (by omega) (by omega) (by split <;> omega) (by split <;> omega) (by
          split
          · rename_i y; have := q3 y; omega
          · omega)
        omega
      | false =>
        rw [opF_n z z2]; simp only; omega
/-- a group: whether it is right, the cursor behind it (or where it isn't), its numbers -/
def GO (b : Int → Int) (c : Int) : Bool := decide (¬ kdF b c = -1) && (nOK b (tE b c) 1 24 && (isW b (tE b (tE b c)) 7 && (nOK b (tE b (tE b (tE b c))) 1 200 && (opF b 120 (tE b (tE b (tE b (tE b c)))) 50 50 0).1)))
def GC (b : Int → Int) (c : Int) : Int := if kdF b c = -1 then c else if nOK b (tE b c) 1 24 = false then tE b c else if isW b (tE b (tE b c)) 7 = false then tE b (tE b c) else if nOK b (tE b (tE b (tE b c))) 1 200 = false then tE b (tE b (tE b c)) else (opF b 120 (tE b (tE b (tE b (tE b c)))) 50 50 0).2.1
def GV (b : Int → Int) (c : Int) (k : Nat) : Int := match k with
  | 0 => kdF b c
  | 1 => nu b (tE b c)
  | 2 => (opF b 120 (tE b (tE b (tE b (tE b c)))) 50 50 0).2.2.1
  | 3 => (opF b 120 (tE b (tE b (tE b (tE b c)))) 50 50 0).2.2.2.1
  | 4 => (opF b 120 (tE b (tE b (tE b (tE b c)))) 50 50 0).2.2.2.2
  | _ => nu b (tE b (tE b (tE b c)))
section GR1
variable {N : Int} {n : Nat} {xs : Int → Int} {w : Nat → Nat} {a : Nat → Int → Int} {i : Nat → Int} {Q : dk_Q} {b : Int → Int} {c g : Int}
theorem CT_b (hT : Tp b (i 9)) (hc0 : 0 ≤ c) (hc1 : c ≤ i 9) (hC : CT b c i) : (0 ≤ i 12 ∧ i 12 ≤ 5) ∧ (0 ≤ i 13 ∧ i 13 ≤ 120) ∧ (0 ≤ i 14 ∧ i 14 ≤ i 9) ∧ i 9 ≤ 120 := by
  obtain ⟨g12, g13, g14, g15, g16⟩ := hC
  have kb := tK_b (b := b) (c := c)
  have hSL := tS_le hT hc1
  have hSg := tS_ge (b := b) (c := c)
  have hEL := tE_le hT hc1
  have hEg := tE_ge0 (b := b) (c := c)
  have := hT.1
  omega
theorem sp_3_note {k v : Int} (hg : i 10 = g) (g0 : 0 ≤ g) (g1 : g ≤ 10) (k0 : 0 ≤ k) (k1 : k ≤ 5) : s_3_note [.inr (.inr 27), .inl k, .inl v] (HH n xs w a i) Q = Q none (HH n xs w (dk_up a 29 (dk_ui (a 29) (g * 6 + k) v)) i) := by
  simp (disch := first | assumption | omega | exact zc_lo | exact zc_hi | exact zz_l | exact zz_u | exact zz_r) only [xl_aload0, xl_iload1, xl_iload2, xm_f, xm_n, xm_t, xo_27_2, xo_27_4, xr_iadd, xr_iconst, xr_imul, xr_vret, xs_29, xtl_n, xtl_s, xz_i, xz_l, xz_n, xz_r, wb_3_note_0, ss_3_note, zz_b, zz_bn, Classical.not_not, true_and, Nat.reduceAdd, Nat.reduceLeDiff, hg]
/-- the class reads on -/
theorem sp_next (hT : Tp b (i 9)) (hB : byB (a 28) (i 9) = b) (hc0 : 0 ≤ c) (hc1 : c ≤ i 9) (hC : CT b c i) : (∀ i2, sI TC i i2 → CT b (tE b c) i2 → Q none (HH n xs w a i2)) → s_3_nextToken [.inr (.inr 27)] (HH n xs w a i) Q := by
  intro hQ
  have q := CT_b hT hc0 hc1 hC
  refine sp_3_nextToken (by rw [hB]; exact hT) (by omega) (by omega) (fun i2 hs h2 => ?_)
  rw [hB, hC.2.2.1] at h2
  exact hQ i2 hs h2
theorem sp_3_readNumber (hT : Tp b (i 9)) (hB : byB (a 28) (i 9) = b) (hc0 : 0 ≤ c) (hc1 : c ≤ i 9) (hC : CT b c i) (hg : i 10 = g) (g0 : 0 ≤ g) (g1 : g ≤ 10) {k lo hi : Int} (k0 : 0 ≤ k) (k1 : k ≤ 5) (l0 : 0 ≤ lo) (l1 : lo ≤ 200) (l2 : 0 ≤ hi) (l3 : hi ≤ 200) : (nOK b c lo hi = true → ∀ i2, sI TC i i2 → CT b (tE b c) i2 → Q (some (.inl 1)) (HH n xs w (dk_up a 29 (dk_ui (a 29) (g * 6 + k) (nu b c))) i2)) → (nOK b c lo hi = false → Q (some (.inl 0)) (HH n xs w a i)) → s_3_readNumber [.inr (.inr 27), .inl k, .inl lo, .inl hi] (HH n xs w a i) Q := by
  intro hQ1 hQ0
  have q := CT_b hT hc0 hc1 hC
  obtain ⟨g12, g13, g14, g15, g16⟩ := id hC
  have kb := tK_b (b := b) (c := c)
  by_cases c1 : tK b c = 2
  · have en : i 15 = nu b c := g16 c1
    have nb : 0 ≤ nu b c ∧ nu b c ≤ 10000 := by omega
    by_cases c2 : nu b c < lo
    · simp (disch := first | assumption | omega | exact zc_lo | exact zc_hi | exact zz_l | exact zz_u | exact zz_r) only [xc_1 gc_3_readNumber_1, xc_3 gc_3_readNumber_0, xl_aload0, xl_iload1, xl_iload2, xl_iload3, xm_f, xm_n, xm_t, xn_1, xn_2, xo_27_5, xo_27_8, xr_goto, xr_ic_le, xr_ic_lt, xr_ic_ne, xr_iconst, xr_zret, xtl_n, xtl_s, xz_i, xz_l, xz_n, xz_r, wb_3_readNumber_0, wb_3_readNumber_1, wb_3_readNumber_2, ss_3_readNumber, zz_b, zz_bn, Classical.not_not, true_and, Nat.reduceAdd, Nat.reduceLeDiff, g12, c1, en, c2, eq_self, true_implies, false_implies, implies_true, not_true_eq_false, not_false_eq_true, and_true, false_and, and_false, if_true, if_false, Int.reduceEq, Int.reduceSub, Int.reduceAdd, Int.reduceMul, Int.reduceNeg, Int.reduceLT, Int.reduceLE, Int.add_zero]
      exact hQ0 (nOK_f (by omega))
    · by_cases c3 : nu b c ≤ hi
      · simp (disch := first | assumption | omega | exact zc_lo | exact zc_hi | exact zz_l | exact zz_u | exact zz_r) only [xc_1 gc_3_readNumber_1, xc_3 gc_3_readNumber_0, xl_aload0, xl_iload1, xl_iload2, xl_iload3, xm_f, xm_n, xm_t, xn_1, xn_2, xo_27_5, xo_27_8, xr_goto, xr_ic_le, xr_ic_lt, xr_ic_ne, xr_iconst, xr_zret, xtl_n, xtl_s, xz_i, xz_l, xz_n, xz_r, wb_3_readNumber_0, wb_3_readNumber_1, wb_3_readNumber_2, ss_3_readNumber, zz_b, zz_bn, Classical.not_not, true_and, Nat.reduceAdd, Nat.reduceLeDiff, g12, c1, en, c2, c3, eq_self, sp_3_note hg g0 g1 k0 k1, true_implies, false_implies, implies_true, not_true_eq_false, not_false_eq_true, and_true, false_and, and_false, if_true, if_false, Int.reduceEq, Int.reduceSub, Int.reduceAdd, Int.reduceMul, Int.reduceNeg, Int.reduceLT, Int.reduceLE, Int.add_zero]
        refine sp_next (a := dk_up a 29 (dk_ui (a 29) (g * 6 + k) (nu b c))) hT (by rw [up_n (by decide)]; exact hB) hc0 hc1 hC (fun i2 hs h2 => ?_)
        simp (disch := first | assumption | omega | exact zc_lo | exact zc_hi | exact zz_l | exact zz_u | exact zz_r) only [xc_1 gc_3_readNumber_1, xc_3 gc_3_readNumber_0, xl_aload0, xl_iload1, xl_iload2, xl_iload3, xm_f, xm_n, xm_t, xn_1, xn_2, xo_27_5, xo_27_8, xr_goto, xr_ic_le, xr_ic_lt, xr_ic_ne, xr_iconst, xr_zret, xtl_n, xtl_s, xz_i, xz_l, xz_n, xz_r, wb_3_readNumber_0, wb_3_readNumber_1, wb_3_readNumber_2, zz_b, zz_bn, Classical.not_not, true_and, Nat.reduceAdd, Nat.reduceLeDiff, true_implies, false_implies, implies_true, not_true_eq_false, not_false_eq_true, and_true, false_and, and_false, if_true, if_false, Int.reduceEq, Int.reduceSub, Int.reduceAdd, Int.reduceMul, Int.reduceNeg, Int.reduceLT, Int.reduceLE, Int.add_zero]
        exact hQ1 (nOK_t.mpr (by omega)) i2 hs h2
      · simp (disch := first | assumption | omega | exact zc_lo | exact zc_hi | exact zz_l | exact zz_u | exact zz_r) only [xc_1 gc_3_readNumber_1, xc_3 gc_3_readNumber_0, xl_aload0, xl_iload1, xl_iload2, xl_iload3, xm_f, xm_n, xm_t, xn_1, xn_2, xo_27_5, xo_27_8, xr_goto, xr_ic_le, xr_ic_lt, xr_ic_ne, xr_iconst, xr_zret, xtl_n, xtl_s, xz_i, xz_l, xz_n, xz_r, wb_3_readNumber_0, wb_3_readNumber_1, wb_3_readNumber_2, ss_3_readNumber, zz_b, zz_bn, Classical.not_not, true_and, Nat.reduceAdd, Nat.reduceLeDiff, g12, c1, en, c2, c3, eq_self, true_implies, false_implies, implies_true, not_true_eq_false, not_false_eq_true, and_true, false_and, and_false, if_true, if_false, Int.reduceEq, Int.reduceSub, Int.reduceAdd, Int.reduceMul, Int.reduceNeg, Int.reduceLT, Int.reduceLE, Int.add_zero]
        exact hQ0 (nOK_f (by omega))
  · simp (disch := first | assumption | omega | exact zc_lo | exact zc_hi | exact zz_l | exact zz_u | exact zz_r) only [xc_1 gc_3_readNumber_1, xc_3 gc_3_readNumber_0, xl_aload0, xl_iload1, xl_iload2, xl_iload3, xm_f, xm_n, xm_t, xn_1, xn_2, xo_27_5, xo_27_8, xr_goto, xr_ic_le, xr_ic_lt, xr_ic_ne, xr_iconst, xr_zret, xtl_n, xtl_s, xz_i, xz_l, xz_n, xz_r, wb_3_readNumber_0, wb_3_readNumber_1, wb_3_readNumber_2, ss_3_readNumber, zz_b, zz_bn, Classical.not_not, true_and, Nat.reduceAdd, Nat.reduceLeDiff, g12, c1, true_implies, false_implies, implies_true, not_true_eq_false, not_false_eq_true, and_true, false_and, and_false, if_true, if_false, Int.reduceEq, Int.reduceSub, Int.reduceAdd, Int.reduceMul, Int.reduceNeg, Int.reduceLT, Int.reduceLE, Int.add_zero]
    exact hQ0 (nOK_f (by omega))
/-- the numbers of a group under way: part, share, drift -/
def RW (a : Nat → Int → Int) (g : Int) (p s d : Int) (a2 : Nat → Int → Int) : Prop := sA [29] a a2 ∧ a2 29 (g * 6 + 2) = p ∧ a2 29 (g * 6 + 3) = s ∧ a2 29 (g * 6 + 4) = d ∧ ∀ j, ¬ j = g * 6 + 2 → ¬ j = g * 6 + 3 → ¬ j = g * 6 + 4 → a2 29 j = a 29 j
theorem RW_up {p s d v o : Int} {a2 : Nat → Int → Int} (h : RW a g p s d a2) (ho : 2 ≤ o ∧ o ≤ 4) : RW a g (if o = 2 then v else p) (if o = 3 then v else s) (if o = 4 then v else d) (dk_up a2 29 (dk_ui (a2 29) (g * 6 + o) v)) := by
  obtain ⟨h1, h2, h3, h4, h5⟩ := h
  rcases (show o = 2 ∨ o = 3 ∨ o = 4 by omega) with rfl | rfl | rfl
  · refine ⟨sA_up h1 (by decide) _, ?_, ?_, ?_, fun j z1 z2 z3 => ?_⟩
    · rw [up_s, ui_s]; rfl
    · rw [up_s, ui_n (by omega)]; exact h3
    · rw [up_s, ui_n (by omega)]; exact h4
    · rw [up_s, ui_n z1]; exact h5 j z1 z2 z3
  · refine ⟨sA_up h1 (by decide) _, ?_, ?_, ?_, fun j z1 z2 z3 => ?_⟩
    · rw [up_s, ui_n (by omega)]; exact h2
    · rw [up_s, ui_s]; rfl
    · rw [up_s, ui_n (by omega)]; exact h4
    · rw [up_s, ui_n z2]; exact h5 j z1 z2 z3
  · refine ⟨sA_up h1 (by decide) _, ?_, ?_, ?_, fun j z1 z2 z3 => ?_⟩
    · rw [up_s, ui_n (by omega)]; exact h2
    · rw [up_s, ui_n (by omega)]; exact h3
    · rw [up_s, ui_s]; rfl
    · rw [up_s, ui_n z3]; exact h5 j z1 z2 z3
theorem sp_3_readOptions (hT : Tp b (i 9)) (hB : byB (a 28) (i 9) = b) (hc0 : 0 ≤ c) (hc1 : c ≤ i 9) (hC : CT b c i) (hg : i 10 = g) (g0 : 0 ≤ g) (g1 : g ≤ 10) : (∀ a2 i2, sI TC i i2 → CT b (opF b 120 c 50 50 0).2.1 i2 → RW a g (opF b 120 c 50 50 0).2.2.1 (opF b 120 c 50 50 0).2.2.2.1 (opF b 120 c 50 50 0).2.2.2.2 a2 → Q (some (.inl (if (opF b 120 c 50 50 0).1 = true then 1 else 0))) (HH n xs w a2 i2)) → s_3_readOptions [.inr (.inr 27)] (HH n xs w a i) Q := by
  intro hQ
  generalize hR : opF b 120 c 50 50 0 = R at hQ
  simp (disch := first | assumption | omega | exact zc_lo | exact zc_hi | exact zz_l | exact zz_u | exact zz_r) only [xc_1 gc_3_readOptions_1, xc_1 gc_3_readOptions_2, xc_3 gc_3_readOptions_0, xc_4 gc_3_readOptions_3, xl_aload0, xl_iinc1a, xl_iinc1i, xl_iinc1n, xl_iload1, xl_iload2, xl_istore1a, xl_istore1i, xl_istore1n, xl_istore2a, xl_istore2i, xl_istore2n, xm_f, xm_n, xm_t, xn_2, xn_3, xn_5, xn_6, xr_goto, xr_ic_ge, xr_ic_ne, xr_iconst, xr_if_ne, xr_zret, xtl_n, xtl_s, xz_i, xz_l, xz_n, xz_r, wb_3_readOptions_0, wb_3_readOptions_2, wb_3_readOptions_3, wb_3_readOptions_4, wb_3_readOptions_5, wb_3_readOptions_6, ss_3_readOptions, zz_b, zz_bn, Classical.not_not, true_and, Nat.reduceAdd, Nat.reduceLeDiff, sp_3_note hg g0 g1 (show (0 : Int) ≤ 2 by omega) (show (2 : Int) ≤ 5 by omega), sp_3_note hg g0 g1 (show (0 : Int) ≤ 3 by omega) (show (3 : Int) ≤ 5 by omega), sp_3_note hg g0 g1 (show (0 : Int) ≤ 4 by omega) (show (4 : Int) ≤ 5 by omega), up_up, up_s, true_implies, false_implies, implies_true, not_true_eq_false, not_false_eq_true, and_true, false_and, and_false, if_true, if_false, Int.reduceEq, Int.reduceSub, Int.reduceAdd, Int.reduceMul, Int.reduceNeg, Int.reduceLT, Int.reduceLE, Int.add_zero]
  have key : ∀ (f : Nat), f ≤ 120 → ∀ (c p s d e : Int) (a2 : Nat → Int → Int) (i2 : Nat → Int) (l2 : Option dk_V), e + f = 120 → 0 ≤ c → c ≤ i 9 → sI TC i i2 → CT b c i2 → RW a g p s d a2 → opF b f c p s d = R → dk_WP g_3_readOptions b_3_readOptions Q 1 [some (.inr (.inr 27)), some (.inl e), l2] [] (HH n xs w a2 i2) := by
    intro f
    induction f with
    | zero =>
      intro _ c p s d e a2 i2 l2 he hc0 hc1 hs hC2 hW hR2
      rw [wb_3_readOptions_1]
      simp (disch := first | assumption | omega | exact zc_lo | exact zc_hi | exact zz_l | exact zz_u | exact zz_r) only [xc_1 gc_3_readOptions_1, xc_1 gc_3_readOptions_2, xc_3 gc_3_readOptions_0, xc_4 gc_3_readOptions_3, xl_aload0, xl_iinc1a, xl_iinc1i, xl_iinc1n, xl_iload1, xl_iload2, xl_istore1a, xl_istore1i, xl_istore1n, xl_istore2a, xl_istore2i, xl_istore2n, xm_f, xm_n, xm_t, xn_2, xn_3, xn_5, xn_6, xr_goto, xr_ic_ge, xr_ic_ne, xr_iconst, xr_if_ne, xr_zret, xtl_n, xtl_s, xz_i, xz_l, xz_n, xz_r, wb_3_readOptions_0, wb_3_readOptions_2, wb_3_readOptions_3, wb_3_readOptions_4, wb_3_readOptions_5, wb_3_readOptions_6, zz_b, zz_bn, Classical.not_not, true_and, Nat.reduceAdd, Nat.reduceLeDiff]
      refine ⟨fun _ => ?_, fun z => absurd (by omega) z⟩
      rw [← hR2] at hQ
      exact hQ a2 i2 hs hC2 hW
    | succ f ih =>
      intro hf c p s d e a2 i2 l2 he hc0 hc1 hs hC2 hW hR2
      have e9 : i2 9 = i 9 := hs 9 (by decide)
      have e10 : i2 10 = g := by rw [hs 10 (by decide)]; exact hg
      have hT2 : Tp b (i2 9) := by rw [e9]; exact hT
      have hB2 : byB (a2 28) (i2 9) = b := by rw [e9, hW.1 28 (by decide)]; exact hB
      have hc12 : c ≤ i2 9 := by rw [e9]; exact hc1
      have L120 := hT.1
      rw [wb_3_readOptions_1]
      simp (disch := first | assumption | omega | exact zc_lo | exact zc_hi | exact zz_l | exact zz_u | exact zz_r) only [xc_1 gc_3_readOptions_1, xc_1 gc_3_readOptions_2, xc_3 gc_3_readOptions_0, xc_4 gc_3_readOptions_3, xl_aload0, xl_iinc1a, xl_iinc1i, xl_iinc1n, xl_iload1, xl_iload2, xl_istore1a, xl_istore1i, xl_istore1n, xl_istore2a, xl_istore2i, xl_istore2n, xm_f, xm_n, xm_t, xn_2, xn_3, xn_5, xn_6, xr_goto, xr_ic_ge, xr_ic_ne, xr_iconst, xr_if_ne, xr_zret, xtl_n, xtl_s, xz_i, xz_l, xz_n, xz_r, wb_3_readOptions_0, wb_3_readOptions_2, wb_3_readOptions_3, wb_3_readOptions_4, wb_3_readOptions_5, wb_3_readOptions_6, zz_b, zz_bn, Classical.not_not, true_and, Nat.reduceAdd, Nat.reduceLeDiff]
      refine ⟨fun z => absurd z (by omega), fun _ => ?_⟩
      refine sp_3_optionHere hT2 hB2 hc0 hc12 hC2 ?_
      have mb := moF_b (b := b) (c := c)
      by_cases z : moF b c = 0
      · rw [if_pos z]
        simp (disch := first | assumption | omega | exact zc_lo | exact zc_hi | exact zz_l | exact zz_u | exact zz_r) only [xc_1 gc_3_readOptions_1, xc_1 gc_3_readOptions_2, xc_3 gc_3_readOptions_0, xc_4 gc_3_readOptions_3, xl_aload0, xl_iinc1a, xl_iinc1i, xl_iinc1n, xl_iload1, xl_iload2, xl_istore1a, xl_istore1i, xl_istore1n, xl_istore2a, xl_istore2i, xl_istore2n, xm_f, xm_n, xm_t, xn_2, xn_3, xn_5, xn_6, xr_goto, xr_ic_ge, xr_ic_ne, xr_iconst, xr_if_ne, xr_zret, xtl_n, xtl_s, xz_i, xz_l, xz_n, xz_r, wb_3_readOptions_0, wb_3_readOptions_2, wb_3_readOptions_3, wb_3_readOptions_4, wb_3_readOptions_5, wb_3_readOptions_6, zz_b, zz_bn, Classical.not_not, true_and, Nat.reduceAdd, Nat.reduceLeDiff, eq_self, true_implies, false_implies, implies_true, not_true_eq_false, not_false_eq_true, and_true, false_and, and_false, if_true, if_false, Int.reduceEq, Int.reduceSub, Int.reduceAdd, Int.reduceMul, Int.reduceNeg, Int.reduceLT, Int.reduceLE, Int.add_zero]
        rw [opF_0 z] at hR2
        rw [← hR2] at hQ
        exact hQ a2 i2 hs hC2 hW
      · rw [if_neg z]
        have mb2 : 2 ≤ moF b c ∧ moF b c ≤ 4 := by omega
        have nm : ¬ moF b c = -1 := by omega
        simp (disch := first | assumption | omega | exact zc_lo | exact zc_hi | exact zz_l | exact zz_u | exact zz_r) only [xc_1 gc_3_readOptions_1, xc_1 gc_3_readOptions_2, xc_3 gc_3_readOptions_0, xc_4 gc_3_readOptions_3, xl_aload0, xl_iinc1a, xl_iinc1i, xl_iinc1n, xl_iload1, xl_iload2, xl_istore1a, xl_istore1i, xl_istore1n, xl_istore2a, xl_istore2i, xl_istore2n, xm_f, xm_n, xm_t, xn_2, xn_3, xn_5, xn_6, xr_goto, xr_ic_ge, xr_ic_ne, xr_iconst, xr_if_ne, xr_zret, xtl_n, xtl_s, xz_i, xz_l, xz_n, xz_r, wb_3_readOptions_0, wb_3_readOptions_2, wb_3_readOptions_3, wb_3_readOptions_4, wb_3_readOptions_5, wb_3_readOptions_6, zz_b, zz_bn, Classical.not_not, true_and, Nat.reduceAdd, Nat.reduceLeDiff, nm, true_implies, false_implies, implies_true, not_true_eq_false, not_false_eq_true, and_true, false_and, and_false, if_true, if_false, Int.reduceEq, Int.reduceSub, Int.reduceAdd, Int.reduceMul, Int.reduceNeg, Int.reduceLT, Int.reduceLE, Int.add_zero]
        have c1 : 0 ≤ tE b c ∧ tE b c ≤ i 9 := by
          have e1 := tE_ge0 (b := b) (c := c)
          have e2 := tS_ge (b := b) (c := c)
          have e3 := tE_le hT hc1
          omega
        refine sp_next hT2 hB2 hc0 hc12 hC2 (fun i3 hs3 hC3 => ?_)
        have f9 : i3 9 = i 9 := by rw [hs3 9 (by decide)]; exact e9
        have f10 : i3 10 = g := by rw [hs3 10 (by decide)]; exact e10
        have hT3 : Tp b (i3 9) := by rw [f9]; exact hT
        have hB3 : byB (a2 28) (i3 9) = b := by rw [f9, hW.1 28 (by decide)]; exact hB
        have rn : ∀ hi : Int, hi = (if moF b c = 4 then 99 else 100) → s_3_readNumber [.inr (.inr 27), .inl (moF b c), .inl 0, .inl hi] (HH n xs w a2 i3) (fun r h2 => dk_r g_3_readOptions Q (dk_WP g_3_readOptions b_3_readOptions Q) [.inl (.ifCond .ne 5), .inl (.iconst 0), .inl .lreturn] [some (.inr (.inr 27)), some (.inl e), none] (r.toList ++ []) h2) := by
          intro hi hhi
          have hib : 0 ≤ hi ∧ hi ≤ 200 := by rw [hhi]; split <;> omega
          refine sp_3_readNumber hT3 hB3 c1.1 (by rw [f9]; exact c1.2) hC3 f10 g0 g1 (by omega) (by omega) (by omega) (by omega) hib.1 hib.2 (fun y => ?_) (fun y => ?_)
          · intro i4 hs4 hC4
            simp (disch := first | assumption | omega | exact zc_lo | exact zc_hi | exact zz_l | exact zz_u | exact zz_r) only [xc_1 gc_3_readOptions_1, xc_1 gc_3_readOptions_2, xc_3 gc_3_readOptions_0, xc_4 gc_3_readOptions_3, xl_aload0, xl_iinc1a, xl_iinc1i, xl_iinc1n, xl_iload1, xl_iload2, xl_istore1a, xl_istore1i, xl_istore1n, xl_istore2a, xl_istore2i, xl_istore2n, xm_f, xm_n, xm_t, xn_2, xn_3, xn_5, xn_6, xr_goto, xr_ic_ge, xr_ic_ne, xr_iconst, xr_if_ne, xr_zret, xtl_n, xtl_s, xz_i, xz_l, xz_n, xz_r, wb_3_readOptions_0, wb_3_readOptions_2, wb_3_readOptions_3, wb_3_readOptions_4, wb_3_readOptions_5, wb_3_readOptions_6, zz_b, zz_bn, Classical.not_not, true_and, Nat.reduceAdd, Nat.reduceLeDiff, eq_self, true_implies, false_implies, implies_true, not_true_eq_false, not_false_eq_true, and_true, false_and, and_false, if_true, if_false, Int.reduceEq, Int.reduceSub, Int.reduceAdd, Int.reduceMul, Int.reduceNeg, Int.reduceLT, Int.reduceLE, Int.add_zero]
            rw [hhi] at y
            rw [opF_y z y] at hR2
            have e4 := tE_ge0 (b := b) (c := tE b c)
            have e5 := tS_ge (b := b) (c := tE b c)
            have e6 := tE_le hT c1.2
            exact ih (by omega) _ _ _ _ (e + 1) _ i4 none (by omega) (by omega) e6 (sI_tr (sI_tr hs hs3) hs4) hC4 (RW_up hW mb2) hR2
          · simp (disch := first | assumption | omega | exact zc_lo | exact zc_hi | exact zz_l | exact zz_u | exact zz_r) only [xc_1 gc_3_readOptions_1, xc_1 gc_3_readOptions_2, xc_3 gc_3_readOptions_0, xc_4 gc_3_readOptions_3, xl_aload0, xl_iinc1a, xl_iinc1i, xl_iinc1n, xl_iload1, xl_iload2, xl_istore1a, xl_istore1i, xl_istore1n, xl_istore2a, xl_istore2i, xl_istore2n, xm_f, xm_n, xm_t, xn_2, xn_3, xn_5, xn_6, xr_goto, xr_ic_ge, xr_ic_ne, xr_iconst, xr_if_ne, xr_zret, xtl_n, xtl_s, xz_i, xz_l, xz_n, xz_r, wb_3_readOptions_0, wb_3_readOptions_2, wb_3_readOptions_3, wb_3_readOptions_4, wb_3_readOptions_5, wb_3_readOptions_6, zz_b, zz_bn, Classical.not_not, true_and, Nat.reduceAdd, Nat.reduceLeDiff, eq_self, true_implies, false_implies, implies_true, not_true_eq_false, not_false_eq_true, and_true, false_and, and_false, if_true, if_false, Int.reduceEq, Int.reduceSub, Int.reduceAdd, Int.reduceMul, Int.reduceNeg, Int.reduceLT, Int.reduceLE, Int.add_zero]
            rw [hhi] at y
            rw [opF_n z y] at hR2
            rw [← hR2] at hQ
            exact hQ a2 i3 (sI_tr hs hs3) hC3 hW
        simp (disch := first | assumption | omega | exact zc_lo | exact zc_hi | exact zz_l | exact zz_u | exact zz_r) only [xc_1 gc_3_readOptions_1, xc_1 gc_3_readOptions_2, xc_3 gc_3_readOptions_0, xc_4 gc_3_readOptions_3, xl_aload0, xl_iinc1a, xl_iinc1i, xl_iinc1n, xl_iload1, xl_iload2, xl_istore1a, xl_istore1i, xl_istore1n, xl_istore2a, xl_istore2i, xl_istore2n, xm_f, xm_n, xm_t, xn_2, xn_3, xn_5, xn_6, xr_goto, xr_ic_ge, xr_ic_ne, xr_iconst, xr_if_ne, xr_zret, xtl_n, xtl_s, xz_i, xz_l, xz_n, xz_r, wb_3_readOptions_0, wb_3_readOptions_2, wb_3_readOptions_3, wb_3_readOptions_4, wb_3_readOptions_5, wb_3_readOptions_6, zz_b, zz_bn, Classical.not_not, true_and, Nat.reduceAdd, Nat.reduceLeDiff]
        refine ⟨fun y => rn 100 (by rw [if_neg y]), fun y => ?_⟩
        have q := rn 99 (by rw [if_pos y])
        exact q
  have q := CT_b hT hc0 hc1 hC
  refine key 120 (Nat.le_refl _) c 50 50 0 0 _ i none (by omega) hc0 hc1 sI_rf hC ?_ hR
  refine ⟨sA_up sA_rf (by decide) _, ?_, ?_, ?_, fun j z1 z2 z3 => ?_⟩
  · rw [up_s, ui_n (by omega), ui_n (by omega), ui_s]
  · rw [up_s, ui_n (by omega), ui_s]
  · rw [up_s, ui_s]
  · rw [up_s, ui_n z3, ui_n z2, ui_n z1]
end GR1
