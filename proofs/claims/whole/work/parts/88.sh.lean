/-! SHEETS of both -/
def cvF (b v : Int) : Int := if b = 8 then v.bmod 256 else if b = 16 then v.bmod 65536 else v
theorem cvF_b {b v : Int} (h1 : -2147483648 ≤ v) (h2 : v ≤ 2147483647) : -2147483648 ≤ cvF b v ∧ cvF b v ≤ 2147483647 := by
  have q1 := Int.le_bmod (x := v) (m := 256) (by omega)
  have q2 := Int.bmod_lt (x := v) (m := 256) (by omega)
  have q3 := Int.le_bmod (x := v) (m := 65536) (by omega)
  have q4 := Int.bmod_lt (x := v) (m := 65536) (by omega)
  unfold cvF
  split
  · omega
  · split <;> omega
section XG
variable {G : List (Nat × dk_S)} {R : dk_Q} {J : Nat → dk_L → List dk_V → dk_H → Prop} {is : List dk_N} {L : dk_L} {S : List dk_V} {n : Nat} {xs : Int → Int} {w : Nat → Nat} {a : Nat → Int → Int} {i : Nat → Int} {s : Nat} {Q : dk_Q}
theorem xg_0 (hs : s < 4) : dk_r G R J (.inr (0, 2, 0) :: is) L (.inr (.inr (31 + s)) :: S) (HH n xs w a i) = dk_r G R J is L (.inl (i (16 + s)) :: S) (HH n xs w a i) := match s, hs with
  | 0, _ => xo_31_0
  | 1, _ => xo_32_0
  | 2, _ => xo_33_0
  | 3, _ => xo_34_0
theorem xg_1 (hs : s < 4) : dk_r G R J (.inr (0, 2, 1) :: is) L (.inr (.inr (31 + s)) :: S) (HH n xs w a i) = dk_r G R J is L (.inl (i (20 + s)) :: S) (HH n xs w a i) := match s, hs with
  | 0, _ => xo_31_1
  | 1, _ => xo_32_1
  | 2, _ => xo_33_1
  | 3, _ => xo_34_1
theorem xg_2 (hs : s < 4) : dk_r G R J (.inr (0, 2, 2) :: is) L (.inr (.inr (31 + s)) :: S) (HH n xs w a i) = dk_r G R J is L (.inr (.inr (35 + s)) :: S) (HH n xs w a i) := match s, hs with
  | 0, _ => xo_31_2
  | 1, _ => xo_32_2
  | 2, _ => xo_33_2
  | 3, _ => xo_34_2
theorem hl40 (hs : s < 4) : hh_len (35 + s) = some (0, 40) := match s, hs with
  | 0, _ => rfl
  | 1, _ => rfl
  | 2, _ => rfl
  | 3, _ => rfl
theorem e31 (s : Nat) : (31 + (s : Int)).toNat = 31 + s := by omega
theorem xlen_w {k m : Nat} (hk : hh_len k = some (0, m)) : dk_r G R J (.inl .arraylength :: is) L (.inr (.inr k) :: S) (HH n xs w a i) = dk_r G R J is L (.inl m :: S) (HH n xs w a i) := by
  have e1 : dk_rd (HH n xs w a i k) = some (m, a k) := by rw [HH_at hk]; rfl
  have e2 : dk_1 (.inl .arraylength) L (.inr (.inr k) :: S) (HH n xs w a i) = some (True, L, .inl m :: S, (HH n xs w a i)) := by
    show dk_bd (dk_rd (HH n xs w a i k)) _ = _
    rw [e1]
    rfl
  rw [dk_r_s rfl, e2]
  exact propext ⟨fun q => q.2, fun q => ⟨trivial, q⟩⟩
theorem sp_9_fill {k m : Nat} (hk : hh_len k = some (0, m)) (hm : m < 2147483648) {v : Int} : (∀ f, (∀ j : Int, 0 ≤ j → j < m → f j = v) → Q none (HH n xs w (dk_up a k f) i)) → s_9_fill [.inr (.inr k), .inl v] (HH n xs w a i) Q := by
  intro hQ
  simp (disch := first | assumption | omega | exact zc_lo | exact zc_hi | exact zz_l | exact zz_u | exact zz_r) only [xl_aload0, xl_iinc2a, xl_iinc2i, xl_iinc2n, xl_iload1, xl_iload2, xl_iload3, xl_istore2a, xl_istore2i, xl_istore2n, xl_istore3a, xl_istore3i, xl_istore3n, xm_f, xm_n, xm_t, xn_2, xo_len100, xr_goto, xr_ic_ge, xr_iconst, xr_vret, xtl_n, xtl_s, xz_i, xz_l, xz_n, xz_r, wb_9_fill_0, wb_9_fill_2, ss_9_fill, zz_b, zz_bn, Classical.not_not, true_and, Nat.reduceAdd, Nat.reduceLeDiff, xlen_w hk]
  have key : ∀ d, d ≤ m → ∀ f, (∀ j : Int, 0 ≤ j → j < d → f j = v) → dk_WP g_9_fill b_9_fill Q 1 [some (.inr (.inr k)), some (.inl v), some (.inl d), some (.inl m)] [] (HH n xs w (dk_up a k f) i) := by
    refine lp_up ?_ ?_
    · intro f hf
      rw [wb_9_fill_1]
      simp (disch := first | assumption | omega | exact zc_lo | exact zc_hi | exact zz_l | exact zz_u | exact zz_r) only [xl_aload0, xl_iinc2a, xl_iinc2i, xl_iinc2n, xl_iload1, xl_iload2, xl_iload3, xl_istore2a, xl_istore2i, xl_istore2n, xl_istore3a, xl_istore3i, xl_istore3n, xm_f, xm_n, xm_t, xn_2, xo_len100, xr_goto, xr_ic_ge, xr_iconst, xr_vret, xtl_n, xtl_s, xz_i, xz_l, xz_n, xz_r, wb_9_fill_0, wb_9_fill_2, zz_b, zz_bn, Classical.not_not, true_and, Nat.reduceAdd, Nat.reduceLeDiff]
      exact ⟨fun _ => hQ f hf, fun z => absurd (by omega) z⟩
    · intro d hdm ih f hf
      have d0 : (0 : Int) ≤ d := by omega
      have dm : (d : Int) < m := by omega
      rw [wb_9_fill_1]
      simp (disch := first | assumption | omega | exact zc_lo | exact zc_hi | exact zz_l | exact zz_u | exact zz_r) only [xl_aload0, xl_iinc2a, xl_iinc2i, xl_iinc2n, xl_iload1, xl_iload2, xl_iload3, xl_istore2a, xl_istore2i, xl_istore2n, xl_istore3a, xl_istore3i, xl_istore3n, xm_f, xm_n, xm_t, xn_2, xo_len100, xr_goto, xr_ic_ge, xr_iconst, xr_vret, xtl_n, xtl_s, xz_i, xz_l, xz_n, xz_r, wb_9_fill_0, wb_9_fill_2, zz_b, zz_bn, Classical.not_not, true_and, Nat.reduceAdd, Nat.reduceLeDiff, xs_w hk d0 dm (by omega)]
      rw [cs d, up_up, up_s]
      refine ⟨fun z => absurd z (by omega), fun _ => ih _ (fun j z1 z2 => ?_)⟩
      by_cases e : j = d
      · subst e; rw [ui_s]
      · rw [ui_n e]; exact hf j z1 (by omega)
  have q := key 0 (Nat.zero_le _) (a k) (fun j z1 z2 => by omega)
  rw [up_id] at q
  exact q
theorem sp_mis_31 (h1 : -2147483648 ≤ i 16) (h2 : i 16 ≤ 2147483647) : s_2_isMissing [.inr (.inr 31)] (HH n xs w a i) Q = Q (some (.inl (if i 16 = 0 then 1 else 0))) (HH n xs w a i) := by
  simp (disch := first | assumption | omega | exact zc_lo | exact zc_hi | exact zz_l | exact zz_u | exact zz_r) only [xl_aload0, xm_f, xm_n, xm_t, xn_1, xo_31_0, xo_32_0, xo_33_0, xo_34_0, xr_goto, xr_iconst, xr_if_ne, xr_zret, xtl_n, xtl_s, xz_i, xz_l, xz_n, xz_r, wb_2_isMissing_0, wb_2_isMissing_1, wb_2_isMissing_2, ss_2_isMissing_31, ss_2_isMissing_32, ss_2_isMissing_33, ss_2_isMissing_34, zz_b, zz_bn, Classical.not_not, true_and, Nat.reduceAdd, Nat.reduceLeDiff]
  by_cases c : i 16 = 0 <;> simp only [c, true_implies, false_implies, implies_true, not_true_eq_false, not_false_eq_true, true_and, and_true, false_and, and_false, true_or, or_true, false_or, or_false, Bool.false_eq_true, Classical.not_not, ↓reduceIte]
theorem sp_put_31 {x v : Int} (h1 : -2147483648 ≤ i 16) (h2 : i 16 ≤ 2147483647) (h3 : 0 ≤ x) (h4 : x < 40) : s_2_put [.inr (.inr 31), .inl x, .inl v] (HH n xs w a i) Q = Q none (HH n xs w (dk_up a 35 (dk_ui (a 35) x (cvF (i 16) v))) i) := by
  unfold cvF
  simp (disch := first | assumption | omega | exact zc_lo | exact zc_hi | exact zz_l | exact zz_u | exact zz_r) only [xl_aload0, xl_iload1, xl_iload2, xm_f, xm_n, xm_t, xn_1, xn_2, xo_31_0, xo_31_2, xo_32_0, xo_32_2, xo_33_0, xo_33_2, xo_34_0, xo_34_2, xr_goto, xr_i2b, xr_i2s, xr_ic_ne, xr_iconst, xr_vret, xs_35, xs_36, xs_37, xs_38, xtl_n, xtl_s, xz_i, xz_l, xz_n, xz_r, wb_2_put_0, wb_2_put_1, wb_2_put_2, wb_2_put_3, ss_2_put_31, ss_2_put_32, ss_2_put_33, ss_2_put_34, zz_b, zz_bn, Classical.not_not, true_and, Nat.reduceAdd, Nat.reduceLeDiff]
  by_cases c : i 16 = 8
  · simp only [c, true_implies, false_implies, implies_true, not_true_eq_false, not_false_eq_true, true_and, and_true, false_and, and_false, true_or, or_true, false_or, or_false, Bool.false_eq_true, Classical.not_not, ↓reduceIte]
  · by_cases c2 : i 16 = 16
    · simp only [c2, show ¬ (16 : Int) = 8 by decide, true_implies, false_implies, implies_true, not_true_eq_false, not_false_eq_true, true_and, and_true, false_and, and_false, true_or, or_true, false_or, or_false, Bool.false_eq_true, Classical.not_not, ↓reduceIte]
    · simp only [c, c2, true_implies, false_implies, implies_true, not_true_eq_false, not_false_eq_true, true_and, and_true, false_and, and_false, true_or, or_true, false_or, or_false, Bool.false_eq_true, Classical.not_not, ↓reduceIte]
theorem sp_haf_31 {x v : Int} (x1 : -2147483648 ≤ x) (x2 : x ≤ 2147483647) (v1 : -2147483648 ≤ v) (v2 : v ≤ 2147483647) (h1 : 0 ≤ i 20) (h2 : i 20 ≤ 40) : s_2_hasFrom [.inr (.inr 31), .inl x, .inl v] (HH n xs w a i) Q = Q (some (.inl (if 0 ≤ x ∧ 0 ≤ v ∧ x ≤ i 20 ∧ v ≤ i 20 - x then 1 else 0))) (HH n xs w a i) := by
  by_cases c1 : x < 0
  · have c5 : ¬ 0 ≤ x := by omega
    simp (disch := first | assumption | omega | exact zc_lo | exact zc_hi | exact zz_l | exact zz_u | exact zz_r) only [xl_aload0, xl_iload1, xl_iload2, xm_f, xm_n, xm_t, xn_1, xo_31_1, xo_32_1, xo_33_1, xo_34_1, xr_goto, xr_ic_gt, xr_iconst, xr_if_lt, xr_isub, xr_zret, xtl_n, xtl_s, xz_i, xz_l, xz_n, xz_r, wb_2_hasFrom_0, wb_2_hasFrom_1, wb_2_hasFrom_2, ss_2_hasFrom_31, ss_2_hasFrom_32, ss_2_hasFrom_33, ss_2_hasFrom_34, zz_b, zz_bn, Classical.not_not, true_and, Nat.reduceAdd, Nat.reduceLeDiff, c1, c5, true_implies, false_implies, implies_true, not_true_eq_false, not_false_eq_true, and_true, false_and, and_false, if_true, if_false, Int.reduceEq, Int.reduceSub, Int.reduceAdd, Int.reduceMul, Int.reduceNeg, Int.reduceLT, Int.reduceLE, Int.add_zero]
  · have c5 : 0 ≤ x := by omega
    by_cases c2 : v < 0
    · have c6 : ¬ 0 ≤ v := by omega
      simp (disch := first | assumption | omega | exact zc_lo | exact zc_hi | exact zz_l | exact zz_u | exact zz_r) only [xl_aload0, xl_iload1, xl_iload2, xm_f, xm_n, xm_t, xn_1, xo_31_1, xo_32_1, xo_33_1, xo_34_1, xr_goto, xr_ic_gt, xr_iconst, xr_if_lt, xr_isub, xr_zret, xtl_n, xtl_s, xz_i, xz_l, xz_n, xz_r, wb_2_hasFrom_0, wb_2_hasFrom_1, wb_2_hasFrom_2, ss_2_hasFrom_31, ss_2_hasFrom_32, ss_2_hasFrom_33, ss_2_hasFrom_34, zz_b, zz_bn, Classical.not_not, true_and, Nat.reduceAdd, Nat.reduceLeDiff, c1, c2, c5, c6, true_implies, false_implies, implies_true, not_true_eq_false, not_false_eq_true, and_true, false_and, and_false, if_true, if_false, Int.reduceEq, Int.reduceSub, Int.reduceAdd, Int.reduceMul, Int.reduceNeg, Int.reduceLT, Int.reduceLE, Int.add_zero]
    · have c6 : 0 ≤ v := by omega
      by_cases c3 : i 20 < x
      · have c7 : ¬ x ≤ i 20 := by omega
        simp (disch := first | assumption | omega | exact zc_lo | exact zc_hi | exact zz_l | exact zz_u | exact zz_r) only [xl_aload0, xl_iload1, xl_iload2, xm_f, xm_n, xm_t, xn_1, xo_31_1, xo_32_1, xo_33_1, xo_34_1, xr_goto, xr_ic_gt, xr_iconst, xr_if_lt, xr_isub, xr_zret, xtl_n, xtl_s, xz_i, xz_l, xz_n, xz_r, wb_2_hasFrom_0, wb_2_hasFrom_1, wb_2_hasFrom_2, ss_2_hasFrom_31, ss_2_hasFrom_32, ss_2_hasFrom_33, ss_2_hasFrom_34, zz_b, zz_bn, Classical.not_not, true_and, Nat.reduceAdd, Nat.reduceLeDiff, c1, c2, c3, c5, c6, c7, true_implies, false_implies, implies_true, not_true_eq_false, not_false_eq_true, and_true, false_and, and_false, if_true, if_false, Int.reduceEq, Int.reduceSub, Int.reduceAdd, Int.reduceMul, Int.reduceNeg, Int.reduceLT, Int.reduceLE, Int.add_zero]
      · have c7 : x ≤ i 20 := by omega
        by_cases c4 : i 20 - x < v
        · have c8 : ¬ v ≤ i 20 - x := by omega
          simp (disch := first | assumption | omega | exact zc_lo | exact zc_hi | exact zz_l | exact zz_u | exact zz_r) only [xl_aload0, xl_iload1, xl_iload2, xm_f, xm_n, xm_t, xn_1, xo_31_1, xo_32_1, xo_33_1, xo_34_1, xr_goto, xr_ic_gt, xr_iconst, xr_if_lt, xr_isub, xr_zret, xtl_n, xtl_s, xz_i, xz_l, xz_n, xz_r, wb_2_hasFrom_0, wb_2_hasFrom_1, wb_2_hasFrom_2, ss_2_hasFrom_31, ss_2_hasFrom_32, ss_2_hasFrom_33, ss_2_hasFrom_34, zz_b, zz_bn, Classical.not_not, true_and, Nat.reduceAdd, Nat.reduceLeDiff, c1, c2, c3, c4, c5, c6, c7, c8, true_implies, false_implies, implies_true, not_true_eq_false, not_false_eq_true, and_true, false_and, and_false, if_true, if_false, Int.reduceEq, Int.reduceSub, Int.reduceAdd, Int.reduceMul, Int.reduceNeg, Int.reduceLT, Int.reduceLE, Int.add_zero]
        · have c8 : v ≤ i 20 - x := by omega
          simp (disch := first | assumption | omega | exact zc_lo | exact zc_hi | exact zz_l | exact zz_u | exact zz_r) only [xl_aload0, xl_iload1, xl_iload2, xm_f, xm_n, xm_t, xn_1, xo_31_1, xo_32_1, xo_33_1, xo_34_1, xr_goto, xr_ic_gt, xr_iconst, xr_if_lt, xr_isub, xr_zret, xtl_n, xtl_s, xz_i, xz_l, xz_n, xz_r, wb_2_hasFrom_0, wb_2_hasFrom_1, wb_2_hasFrom_2, ss_2_hasFrom_31, ss_2_hasFrom_32, ss_2_hasFrom_33, ss_2_hasFrom_34, zz_b, zz_bn, Classical.not_not, true_and, Nat.reduceAdd, Nat.reduceLeDiff, c1, c2, c3, c4, c5, c6, c7, c8, true_implies, false_implies, implies_true, not_true_eq_false, not_false_eq_true, and_true, false_and, and_false, if_true, if_false, Int.reduceEq, Int.reduceSub, Int.reduceAdd, Int.reduceMul, Int.reduceNeg, Int.reduceLT, Int.reduceLE, Int.add_zero]
theorem sp_mka_31 {x v : Int} (x1 : -2147483648 ≤ x) (x2 : x ≤ 2147483647) (v1 : 0 ≤ v) (v2 : v ≤ 40) : (∀ f, (∀ j : Int, 0 ≤ j → j < 40 → f j = 0) → Q none (HH n xs w (dk_up a 35 f) (dk_up (dk_up i 16 x) 20 (if x = 0 then 0 else v)))) → s_2_makeAnew [.inr (.inr 31), .inl x, .inl v] (HH n xs w a i) Q := by
  intro hQ
  simp (disch := first | assumption | omega | exact zc_lo | exact zc_hi | exact zz_l | exact zz_u | exact zz_r) only [xc_2 gc_2_makeAnew_0, xl_aload0, xl_iload1, xl_iload2, xm_f, xm_n, xm_t, xn_1, xo_31_2, xo_32_2, xo_33_2, xo_34_2, xp_31_0, xp_31_1, xp_32_0, xp_32_1, xp_33_0, xp_33_1, xp_34_0, xp_34_1, xr_goto, xr_iconst, xr_if_ne, xr_vret, xtl_n, xtl_s, xz_i, xz_l, xz_n, xz_r, wb_2_makeAnew_0, wb_2_makeAnew_1, wb_2_makeAnew_2, ss_2_makeAnew_31, ss_2_makeAnew_32, ss_2_makeAnew_33, ss_2_makeAnew_34, zz_b, zz_bn, Classical.not_not, true_and, Nat.reduceAdd, Nat.reduceLeDiff]
  refine ⟨fun c => ?_, fun c => ?_⟩
  · rw [if_neg c] at hQ
    refine sp_9_fill (m := 40) rfl (by omega) (fun f hf => ?_)
    simp (disch := first | assumption | omega | exact zc_lo | exact zc_hi | exact zz_l | exact zz_u | exact zz_r) only [xc_2 gc_2_makeAnew_0, xl_aload0, xl_iload1, xl_iload2, xm_f, xm_n, xm_t, xn_1, xo_31_2, xo_32_2, xo_33_2, xo_34_2, xp_31_0, xp_31_1, xp_32_0, xp_32_1, xp_33_0, xp_33_1, xp_34_0, xp_34_1, xr_goto, xr_iconst, xr_if_ne, xr_vret, xtl_n, xtl_s, xz_i, xz_l, xz_n, xz_r, wb_2_makeAnew_0, wb_2_makeAnew_1, wb_2_makeAnew_2, zz_b, zz_bn, Classical.not_not, true_and, Nat.reduceAdd, Nat.reduceLeDiff]
    exact hQ f hf
  · rw [if_pos c] at hQ
    refine sp_9_fill (m := 40) rfl (by omega) (fun f hf => ?_)
    simp (disch := first | assumption | omega | exact zc_lo | exact zc_hi | exact zz_l | exact zz_u | exact zz_r) only [xc_2 gc_2_makeAnew_0, xl_aload0, xl_iload1, xl_iload2, xm_f, xm_n, xm_t, xn_1, xo_31_2, xo_32_2, xo_33_2, xo_34_2, xp_31_0, xp_31_1, xp_32_0, xp_32_1, xp_33_0, xp_33_1, xp_34_0, xp_34_1, xr_goto, xr_iconst, xr_if_ne, xr_vret, xtl_n, xtl_s, xz_i, xz_l, xz_n, xz_r, wb_2_makeAnew_0, wb_2_makeAnew_1, wb_2_makeAnew_2, zz_b, zz_bn, Classical.not_not, true_and, Nat.reduceAdd, Nat.reduceLeDiff]
    exact hQ f hf
theorem sp_mis_32 (h1 : -2147483648 ≤ i 17) (h2 : i 17 ≤ 2147483647) : s_2_isMissing [.inr (.inr 32)] (HH n xs w a i) Q = Q (some (.inl (if i 17 = 0 then 1 else 0))) (HH n xs w a i) := by
  simp (disch := first | assumption | omega | exact zc_lo | exact zc_hi | exact zz_l | exact zz_u | exact zz_r) only [xl_aload0, xm_f, xm_n, xm_t, xn_1, xo_31_0, xo_32_0, xo_33_0, xo_34_0, xr_goto, xr_iconst, xr_if_ne, xr_zret, xtl_n, xtl_s, xz_i, xz_l, xz_n, xz_r, wb_2_isMissing_0, wb_2_isMissing_1, wb_2_isMissing_2, ss_2_isMissing_31, ss_2_isMissing_32, ss_2_isMissing_33, ss_2_isMissing_34, zz_b, zz_bn, Classical.not_not, true_and, Nat.reduceAdd, Nat.reduceLeDiff]
  by_cases c : i 17 = 0 <;> simp only [c, true_implies, false_implies, implies_true, not_true_eq_false, not_false_eq_true, true_and, and_true, false_and, and_false, true_or, or_true, false_or, or_false, Bool.false_eq_true, Classical.not_not, ↓reduceIte]
theorem sp_put_32 {x v : Int} (h1 : -2147483648 ≤ i 17) (h2 : i 17 ≤ 2147483647) (h3 : 0 ≤ x) (h4 : x < 40) : s_2_put [.inr (.inr 32), .inl x, .inl v] (HH n xs w a i) Q = Q none (HH n xs w (dk_up a 36 (dk_ui (a 36) x (cvF (i 17) v))) i) := by
  unfold cvF
  simp (disch := first | assumption | omega | exact zc_lo | exact zc_hi | exact zz_l | exact zz_u | exact zz_r) only [xl_aload0, xl_iload1, xl_iload2, xm_f, xm_n, xm_t, xn_1, xn_2, xo_31_0, xo_31_2, xo_32_0, xo_32_2, xo_33_0, xo_33_2, xo_34_0, xo_34_2, xr_goto, xr_i2b, xr_i2s, xr_ic_ne, xr_iconst, xr_vret, xs_35, xs_36, xs_37, xs_38, xtl_n, xtl_s, xz_i, xz_l, xz_n, xz_r, wb_2_put_0, wb_2_put_1, wb_2_put_2, wb_2_put_3, ss_2_put_31, ss_2_put_32, ss_2_put_33, ss_2_put_34, zz_b, zz_bn, Classical.not_not, true_and, Nat.reduceAdd, Nat.reduceLeDiff]
  by_cases c : i 17 = 8
  · simp only [c, true_implies, false_implies, implies_true, not_true_eq_false, not_false_eq_true, true_and, and_true, false_and, and_false, true_or, or_true, false_or, or_false, Bool.false_eq_true, Classical.not_not, ↓reduceIte]
  · by_cases c2 : i 17 = 16
    · simp only [c2, show ¬ (16 : Int) = 8 by decide, true_implies, false_implies, implies_true, not_true_eq_false, not_false_eq_true, true_and, and_true, false_and, and_false, true_or, or_true, false_or, or_false, Bool.false_eq_true, Classical.not_not, ↓reduceIte]
    · simp only [c, c2, true_implies, false_implies, implies_true, not_true_eq_false, not_false_eq_true, true_and, and_true, false_and, and_false, true_or, or_true, false_or, or_false, Bool.false_eq_true, Classical.not_not, ↓reduceIte]
theorem sp_haf_32 {x v : Int} (x1 : -2147483648 ≤ x) (x2 : x ≤ 2147483647) (v1 : -2147483648 ≤ v) (v2 : v ≤ 2147483647) (h1 : 0 ≤ i 21) (h2 : i 21 ≤ 40) : s_2_hasFrom [.inr (.inr 32), .inl x, .inl v] (HH n xs w a i) Q = Q (some (.inl (if 0 ≤ x ∧ 0 ≤ v ∧ x ≤ i 21 ∧ v ≤ i 21 - x then 1 else 0))) (HH n xs w a i) := by
  by_cases c1 : x < 0
  · have c5 : ¬ 0 ≤ x := by omega
    simp (disch := first | assumption | omega | exact zc_lo | exact zc_hi | exact zz_l | exact zz_u | exact zz_r) only [xl_aload0, xl_iload1, xl_iload2, xm_f, xm_n, xm_t, xn_1, xo_31_1, xo_32_1, xo_33_1, xo_34_1, xr_goto, xr_ic_gt, xr_iconst, xr_if_lt, xr_isub, xr_zret, xtl_n, xtl_s, xz_i, xz_l, xz_n, xz_r, wb_2_hasFrom_0, wb_2_hasFrom_1, wb_2_hasFrom_2, ss_2_hasFrom_31, ss_2_hasFrom_32, ss_2_hasFrom_33, ss_2_hasFrom_34, zz_b, zz_bn, Classical.not_not, true_and, Nat.reduceAdd, Nat.reduceLeDiff, c1, c5, true_implies, false_implies, implies_true, not_true_eq_false, not_false_eq_true, and_true, false_and, and_false, if_true, if_false, Int.reduceEq, Int.reduceSub, Int.reduceAdd, Int.reduceMul, Int.reduceNeg, Int.reduceLT, Int.reduceLE, Int.add_zero]
  · have c5 : 0 ≤ x := by omega
    by_cases c2 : v < 0
    · have c6 : ¬ 0 ≤ v := by omega
      simp (disch := first | assumption | omega | exact zc_lo | exact zc_hi | exact zz_l | exact zz_u | exact zz_r) only [xl_aload0, xl_iload1, xl_iload2, xm_f, xm_n, xm_t, xn_1, xo_31_1, xo_32_1, xo_33_1, xo_34_1, xr_goto, xr_ic_gt, xr_iconst, xr_if_lt, xr_isub, xr_zret, xtl_n, xtl_s, xz_i, xz_l, xz_n, xz_r, wb_2_hasFrom_0, wb_2_hasFrom_1, wb_2_hasFrom_2, ss_2_hasFrom_31, ss_2_hasFrom_32, ss_2_hasFrom_33, ss_2_hasFrom_34, zz_b, zz_bn, Classical.not_not, true_and, Nat.reduceAdd, Nat.reduceLeDiff, c1, c2, c5, c6, true_implies, false_implies, implies_true, not_true_eq_false, not_false_eq_true, and_true, false_and, and_false, if_true, if_false, Int.reduceEq, Int.reduceSub, Int.reduceAdd, Int.reduceMul, Int.reduceNeg, Int.reduceLT, Int.reduceLE, Int.add_zero]
    · have c6 : 0 ≤ v := by omega
      by_cases c3 : i 21 < x
      · have c7 : ¬ x ≤ i 21 := by omega
        simp (disch := first | assumption | omega | exact zc_lo | exact zc_hi | exact zz_l | exact zz_u | exact zz_r) only [xl_aload0, xl_iload1, xl_iload2, xm_f, xm_n, xm_t, xn_1, xo_31_1, xo_32_1, xo_33_1, xo_34_1, xr_goto, xr_ic_gt, xr_iconst, xr_if_lt, xr_isub, xr_zret, xtl_n, xtl_s, xz_i, xz_l, xz_n, xz_r, wb_2_hasFrom_0, wb_2_hasFrom_1, wb_2_hasFrom_2, ss_2_hasFrom_31, ss_2_hasFrom_32, ss_2_hasFrom_33, ss_2_hasFrom_34, zz_b, zz_bn, Classical.not_not, true_and, Nat.reduceAdd, Nat.reduceLeDiff, c1, c2, c3, c5, c6, c7, true_implies, false_implies, implies_true, not_true_eq_false, not_false_eq_true, and_true, false_and, and_false, if_true, if_false, Int.reduceEq, Int.reduceSub, Int.reduceAdd, Int.reduceMul, Int.reduceNeg, Int.reduceLT, Int.reduceLE, Int.add_zero]
      · have c7 : x ≤ i 21 := by omega
        by_cases c4 : i 21 - x < v
        · have c8 : ¬ v ≤ i 21 - x := by omega
          simp (disch := first | assumption | omega | exact zc_lo | exact zc_hi | exact zz_l | exact zz_u | exact zz_r) only [xl_aload0, xl_iload1, xl_iload2, xm_f, xm_n, xm_t, xn_1, xo_31_1, xo_32_1, xo_33_1, xo_34_1, xr_goto, xr_ic_gt, xr_iconst, xr_if_lt, xr_isub, xr_zret, xtl_n, xtl_s, xz_i, xz_l, xz_n, xz_r, wb_2_hasFrom_0, wb_2_hasFrom_1, wb_2_hasFrom_2, ss_2_hasFrom_31, ss_2_hasFrom_32, ss_2_hasFrom_33, ss_2_hasFrom_34, zz_b, zz_bn, Classical.not_not, true_and, Nat.reduceAdd, Nat.reduceLeDiff, c1, c2, c3, c4, c5, c6, c7, c8, true_implies, false_implies, implies_true, not_true_eq_false, not_false_eq_true, and_true, false_and, and_false, if_true, if_false, Int.reduceEq, Int.reduceSub, Int.reduceAdd, Int.reduceMul, Int.reduceNeg, Int.reduceLT, Int.reduceLE, Int.add_zero]
        · have c8 : v ≤ i 21 - x := by omega
          simp (disch := first | assumption | omega | exact zc_lo | exact zc_hi | exact zz_l | exact zz_u | exact zz_r) only [xl_aload0, xl_iload1, xl_iload2, xm_f, xm_n, xm_t, xn_1, xo_31_1, xo_32_1, xo_33_1, xo_34_1, xr_goto, xr_ic_gt, xr_iconst, xr_if_lt, xr_isub, xr_zret, xtl_n, xtl_s, xz_i, xz_l, xz_n, xz_r, wb_2_hasFrom_0, wb_2_hasFrom_1, wb_2_hasFrom_2, ss_2_hasFrom_31, ss_2_hasFrom_32, ss_2_hasFrom_33, ss_2_hasFrom_34, zz_b, zz_bn, Classical.not_not, true_and, Nat.reduceAdd, Nat.reduceLeDiff, c1, c2, c3, c4, c5, c6, c7, c8, true_implies, false_implies, implies_true, not_true_eq_false, not_false_eq_true, and_true, false_and, and_false, if_true, if_false, Int.reduceEq, Int.reduceSub, Int.reduceAdd, Int.reduceMul, Int.reduceNeg, Int.reduceLT, Int.reduceLE, Int.add_zero]
theorem sp_mka_32 {x v : Int} (x1 : -2147483648 ≤ x) (x2 : x ≤ 2147483647) (v1 : 0 ≤ v) (v2 : v ≤ 40) : (∀ f, (∀ j : Int, 0 ≤ j → j < 40 → f j = 0) → Q none (HH n xs w (dk_up a 36 f) (dk_up (dk_up i 17 x) 21 (if x = 0 then 0 else v)))) → s_2_makeAnew [.inr (.inr 32), .inl x, .inl v] (HH n xs w a i) Q := by
  intro hQ
  simp (disch := first | assumption | omega | exact zc_lo | exact zc_hi | exact zz_l | exact zz_u | exact zz_r) only [xc_2 gc_2_makeAnew_0, xl_aload0, xl_iload1, xl_iload2, xm_f, xm_n, xm_t, xn_1, xo_31_2, xo_32_2, xo_33_2, xo_34_2, xp_31_0, xp_31_1, xp_32_0, xp_32_1, xp_33_0, xp_33_1, xp_34_0, xp_34_1, xr_goto, xr_iconst, xr_if_ne, xr_vret, xtl_n, xtl_s, xz_i, xz_l, xz_n, xz_r, wb_2_makeAnew_0, wb_2_makeAnew_1, wb_2_makeAnew_2, ss_2_makeAnew_31, ss_2_makeAnew_32, ss_2_makeAnew_33, ss_2_makeAnew_34, zz_b, zz_bn, Classical.not_not, true_and, Nat.reduceAdd, Nat.reduceLeDiff]
  refine ⟨fun c => ?_, fun c => ?_⟩
  · rw [if_neg c] at hQ
    refine sp_9_fill (m := 40) rfl (by omega) (fun f hf => ?_)
    simp (disch := first | assumption | omega | exact zc_lo | exact zc_hi | exact zz_l | exact zz_u | exact zz_r) only [xc_2 gc_2_makeAnew_0, xl_aload0, xl_iload1, xl_iload2, xm_f, xm_n, xm_t, xn_1, xo_31_2, xo_32_2, xo_33_2, xo_34_2, xp_31_0, xp_31_1, xp_32_0, xp_32_1, xp_33_0, xp_33_1, xp_34_0, xp_34_1, xr_goto, xr_iconst, xr_if_ne, xr_vret, xtl_n, xtl_s, xz_i, xz_l, xz_n, xz_r, wb_2_makeAnew_0, wb_2_makeAnew_1, wb_2_makeAnew_2, zz_b, zz_bn, Classical.not_not, true_and, Nat.reduceAdd, Nat.reduceLeDiff]
    exact hQ f hf
  · rw [if_pos c] at hQ
    refine sp_9_fill (m := 40) rfl (by omega) (fun f hf => ?_)
    simp (disch := first | assumption | omega | exact zc_lo | exact zc_hi | exact zz_l | exact zz_u | exact zz_r) only [xc_2 gc_2_makeAnew_0, xl_aload0, xl_iload1, xl_iload2, xm_f, xm_n, xm_t, xn_1, xo_31_2, xo_32_2, xo_33_2, xo_34_2, xp_31_0, xp_31_1, xp_32_0, xp_32_1, xp_33_0, xp_33_1, xp_34_0, xp_34_1, xr_goto, xr_iconst, xr_if_ne, xr_vret, xtl_n, xtl_s, xz_i, xz_l, xz_n, xz_r, wb_2_makeAnew_0, wb_2_makeAnew_1, wb_2_makeAnew_2, zz_b, zz_bn, Classical.not_not, true_and, Nat.reduceAdd, Nat.reduceLeDiff]
    exact hQ f hf
theorem sp_mis_33 (h1 : -2147483648 ≤ i 18) (h2 : i 18 ≤ 2147483647) : s_2_isMissing [.inr (.inr 33)] (HH n xs w a i) Q = Q (some (.inl (if i 18 = 0 then 1 else 0))) (HH n xs w a i) := by
  simp (disch := first | assumption | omega | exact zc_lo | exact zc_hi | exact zz_l | exact zz_u | exact zz_r) only [xl_aload0, xm_f, xm_n, xm_t, xn_1, xo_31_0, xo_32_0, xo_33_0, xo_34_0, xr_goto, xr_iconst, xr_if_ne, xr_zret, xtl_n, xtl_s, xz_i, xz_l, xz_n, xz_r, wb_2_isMissing_0, wb_2_isMissing_1, wb_2_isMissing_2, ss_2_isMissing_31, ss_2_isMissing_32, ss_2_isMissing_33, ss_2_isMissing_34, zz_b, zz_bn, Classical.not_not, true_and, Nat.reduceAdd, Nat.reduceLeDiff]
  by_cases c : i 18 = 0 <;> simp only [c, true_implies, false_implies, implies_true, not_true_eq_false, not_false_eq_true, true_and, and_true, false_and, and_false, true_or, or_true, false_or, or_false, Bool.false_eq_true, Classical.not_not, ↓reduceIte]
theorem sp_put_33 {x v : Int} (h1 : -2147483648 ≤ i 18) (h2 : i 18 ≤ 2147483647) (h3 : 0 ≤ x) (h4 : x < 40) : s_2_put [.inr (.inr 33), .inl x, .inl v] (HH n xs w a i) Q = Q none (HH n xs w (dk_up a 37 (dk_ui (a 37) x (cvF (i 18) v))) i) := by
  unfold cvF
  simp (disch := first | assumption | omega | exact zc_lo | exact zc_hi | exact zz_l | exact zz_u | exact zz_r) only [xl_aload0, xl_iload1, xl_iload2, xm_f, xm_n, xm_t, xn_1, xn_2, xo_31_0, xo_31_2, xo_32_0, xo_32_2, xo_33_0, xo_33_2, xo_34_0, xo_34_2, xr_goto, xr_i2b, xr_i2s, xr_ic_ne, xr_iconst, xr_vret, xs_35, xs_36, xs_37, xs_38, xtl_n, xtl_s, xz_i, xz_l, xz_n, xz_r, wb_2_put_0, wb_2_put_1, wb_2_put_2, wb_2_put_3, ss_2_put_31, ss_2_put_32, ss_2_put_33, ss_2_put_34, zz_b, zz_bn, Classical.not_not, true_and, Nat.reduceAdd, Nat.reduceLeDiff]
  by_cases c : i 18 = 8
  · simp only [c, true_implies, false_implies, implies_true, not_true_eq_false, not_false_eq_true, true_and, and_true, false_and, and_false, true_or, or_true, false_or, or_false, Bool.false_eq_true, Classical.not_not, ↓reduceIte]
  · by_cases c2 : i 18 = 16
    · simp only [c2, show ¬ (16 : Int) = 8 by decide, true_implies, false_implies, implies_true, not_true_eq_false, not_false_eq_true, true_and, and_true, false_and, and_false, true_or, or_true, false_or, or_false, Bool.false_eq_true, Classical.not_not, ↓reduceIte]
    · simp only [c, c2, true_implies, false_implies, implies_true, not_true_eq_false, not_false_eq_true, true_and, and_true, false_and, and_false, true_or, or_true, false_or, or_false, Bool.false_eq_true, Classical.not_not, ↓reduceIte]
theorem sp_haf_33 {x v : Int} (x1 : -2147483648 ≤ x) (x2 : x ≤ 2147483647) (v1 : -2147483648 ≤ v) (v2 : v ≤ 2147483647) (h1 : 0 ≤ i 22) (h2 : i 22 ≤ 40) : s_2_hasFrom [.inr (.inr 33), .inl x, .inl v] (HH n xs w a i) Q = Q (some (.inl (if 0 ≤ x ∧ 0 ≤ v ∧ x ≤ i 22 ∧ v ≤ i 22 - x then 1 else 0))) (HH n xs w a i) := by
  by_cases c1 : x < 0
  · have c5 : ¬ 0 ≤ x := by omega
    simp (disch := first | assumption | omega | exact zc_lo | exact zc_hi | exact zz_l | exact zz_u | exact zz_r) only [xl_aload0, xl_iload1, xl_iload2, xm_f, xm_n, xm_t, xn_1, xo_31_1, xo_32_1, xo_33_1, xo_34_1, xr_goto, xr_ic_gt, xr_iconst, xr_if_lt, xr_isub, xr_zret, xtl_n, xtl_s, xz_i, xz_l, xz_n, xz_r, wb_2_hasFrom_0, wb_2_hasFrom_1, wb_2_hasFrom_2, ss_2_hasFrom_31, ss_2_hasFrom_32, ss_2_hasFrom_33, ss_2_hasFrom_34, zz_b, zz_bn, Classical.not_not, true_and, Nat.reduceAdd, Nat.reduceLeDiff, c1, c5, true_implies, false_implies, implies_true, not_true_eq_false, not_false_eq_true, and_true, false_and, and_false, if_true, if_false, Int.reduceEq, Int.reduceSub, Int.reduceAdd, Int.reduceMul, Int.reduceNeg, Int.reduceLT, Int.reduceLE, Int.add_zero]
  · have c5 : 0 ≤ x := by omega
    by_cases c2 : v < 0
    · have c6 : ¬ 0 ≤ v := by omega
      simp (disch := first | assumption | omega | exact zc_lo | exact zc_hi | exact zz_l | exact zz_u | exact zz_r) only [xl_aload0, xl_iload1, xl_iload2, xm_f, xm_n, xm_t, xn_1, xo_31_1, xo_32_1, xo_33_1, xo_34_1, xr_goto, xr_ic_gt, xr_iconst, xr_if_lt, xr_isub, xr_zret, xtl_n, xtl_s, xz_i, xz_l, xz_n, xz_r, wb_2_hasFrom_0, wb_2_hasFrom_1, wb_2_hasFrom_2, ss_2_hasFrom_31, ss_2_hasFrom_32, ss_2_hasFrom_33, ss_2_hasFrom_34, zz_b, zz_bn, Classical.not_not, true_and, Nat.reduceAdd, Nat.reduceLeDiff, c1, c2, c5, c6, true_implies, false_implies, implies_true, not_true_eq_false, not_false_eq_true, and_true, false_and, and_false, if_true, if_false, Int.reduceEq, Int.reduceSub, Int.reduceAdd, Int.reduceMul, Int.reduceNeg, Int.reduceLT, Int.reduceLE, Int.add_zero]
    · have c6 : 0 ≤ v := by omega
      by_cases c3 : i 22 < x
      · have c7 : ¬ x ≤ i 22 := by omega
        simp (disch := first | assumption | omega | exact zc_lo | exact zc_hi | exact zz_l | exact zz_u | exact zz_r) only [xl_aload0, xl_iload1, xl_iload2, xm_f, xm_n, xm_t, xn_1, xo_31_1, xo_32_1, xo_33_1, xo_34_1, xr_goto, xr_ic_gt, xr_iconst, xr_if_lt, xr_isub, xr_zret, xtl_n, xtl_s, xz_i, xz_l, xz_n, xz_r, wb_2_hasFrom_0, wb_2_hasFrom_1, wb_2_hasFrom_2, ss_2_hasFrom_31, ss_2_hasFrom_32, ss_2_hasFrom_33, ss_2_hasFrom_34, zz_b, zz_bn, Classical.not_not, true_and, Nat.reduceAdd, Nat.reduceLeDiff, c1, c2, c3, c5, c6, c7, true_implies, false_implies, implies_true, not_true_eq_false, not_false_eq_true, and_true, false_and, and_false, if_true, if_false, Int.reduceEq, Int.reduceSub, Int.reduceAdd, Int.reduceMul, Int.reduceNeg, Int.reduceLT, Int.reduceLE, Int.add_zero]
      · have c7 : x ≤ i 22 := by omega
        by_cases c4 : i 22 - x < v
        · have c8 : ¬ v ≤ i 22 - x := by omega
          simp (disch := first | assumption | omega | exact zc_lo | exact zc_hi | exact zz_l | exact zz_u | exact zz_r) only [xl_aload0, xl_iload1, xl_iload2, xm_f, xm_n, xm_t, xn_1, xo_31_1, xo_32_1, xo_33_1, xo_34_1, xr_goto, xr_ic_gt, xr_iconst, xr_if_lt, xr_isub, xr_zret, xtl_n, xtl_s, xz_i, xz_l, xz_n, xz_r, wb_2_hasFrom_0, wb_2_hasFrom_1, wb_2_hasFrom_2, ss_2_hasFrom_31, ss_2_hasFrom_32, ss_2_hasFrom_33, ss_2_hasFrom_34, zz_b, zz_bn, Classical.not_not, true_and, Nat.reduceAdd, Nat.reduceLeDiff, c1, c2, c3, c4, c5, c6, c7, c8, true_implies, false_implies, implies_true, not_true_eq_false, not_false_eq_true, and_true, false_and, and_false, if_true, if_false, Int.reduceEq, Int.reduceSub, Int.reduceAdd, Int.reduceMul, Int.reduceNeg, Int.reduceLT, Int.reduceLE, Int.add_zero]
        · have c8 : v ≤ i 22 - x := by omega
          simp (disch := first | assumption | omega | exact zc_lo | exact zc_hi | exact zz_l | exact zz_u | exact zz_r) only [xl_aload0, xl_iload1, xl_iload2, xm_f, xm_n, xm_t, xn_1, xo_31_1, xo_32_1, xo_33_1, xo_34_1, xr_goto, xr_ic_gt, xr_iconst, xr_if_lt, xr_isub, xr_zret, xtl_n, xtl_s, xz_i, xz_l, xz_n, xz_r, wb_2_hasFrom_0, wb_2_hasFrom_1, wb_2_hasFrom_2, ss_2_hasFrom_31, ss_2_hasFrom_32, ss_2_hasFrom_33, ss_2_hasFrom_34, zz_b, zz_bn, Classical.not_not, true_and, Nat.reduceAdd, Nat.reduceLeDiff, c1, c2, c3, c4, c5, c6, c7, c8, true_implies, false_implies, implies_true, not_true_eq_false, not_false_eq_true, and_true, false_and, and_false, if_true, if_false, Int.reduceEq, Int.reduceSub, Int.reduceAdd, Int.reduceMul, Int.reduceNeg, Int.reduceLT, Int.reduceLE, Int.add_zero]
theorem sp_mka_33 {x v : Int} (x1 : -2147483648 ≤ x) (x2 : x ≤ 2147483647) (v1 : 0 ≤ v) (v2 : v ≤ 40) : (∀ f, (∀ j : Int, 0 ≤ j → j < 40 → f j = 0) → Q none (HH n xs w (dk_up a 37 f) (dk_up (dk_up i 18 x) 22 (if x = 0 then 0 else v)))) → s_2_makeAnew [.inr (.inr 33), .inl x, .inl v] (HH n xs w a i) Q := by
  intro hQ
  simp (disch := first | assumption | omega | exact zc_lo | exact zc_hi | exact zz_l | exact zz_u | exact zz_r) only [xc_2 gc_2_makeAnew_0, xl_aload0, xl_iload1, xl_iload2, xm_f, xm_n, xm_t, xn_1, xo_31_2, xo_32_2, xo_33_2, xo_34_2, xp_31_0, xp_31_1, xp_32_0, xp_32_1, xp_33_0, xp_33_1, xp_34_0, xp_34_1, xr_goto, xr_iconst, xr_if_ne, xr_vret, xtl_n, xtl_s, xz_i, xz_l, xz_n, xz_r, wb_2_makeAnew_0, wb_2_makeAnew_1, wb_2_makeAnew_2, ss_2_makeAnew_31, ss_2_makeAnew_32, ss_2_makeAnew_33, ss_2_makeAnew_34, zz_b, zz_bn, Classical.not_not, true_and, Nat.reduceAdd, Nat.reduceLeDiff]
  refine ⟨fun c => ?_, fun c => ?_⟩
  · rw [if_neg c] at hQ
    refine sp_9_fill (m := 40) rfl (by omega) (fun f hf => ?_)
    simp (disch := first | assumption | omega | exact zc_lo | exact zc_hi | exact zz_l | exact zz_u | exact zz_r) only [xc_2 gc_2_makeAnew_0, xl_aload0, xl_iload1, xl_iload2, xm_f, xm_n, xm_t, xn_1, xo_31_2, xo_32_2, xo_33_2, xo_34_2, xp_31_0, xp_31_1, xp_32_0, xp_32_1, xp_33_0, xp_33_1, xp_34_0, xp_34_1, xr_goto, xr_iconst, xr_if_ne, xr_vret, xtl_n, xtl_s, xz_i, xz_l, xz_n, xz_r, wb_2_makeAnew_0, wb_2_makeAnew_1, wb_2_makeAnew_2, zz_b, zz_bn, Classical.not_not, true_and, Nat.reduceAdd, Nat.reduceLeDiff]
    exact hQ f hf
  · rw [if_pos c] at hQ
    refine sp_9_fill (m := 40) rfl (by omega) (fun f hf => ?_)
    simp (disch := first | assumption | omega | exact zc_lo | exact zc_hi | exact zz_l | exact zz_u | exact zz_r) only [xc_2 gc_2_makeAnew_0, xl_aload0, xl_iload1, xl_iload2, xm_f, xm_n, xm_t, xn_1, xo_31_2, xo_32_2, xo_33_2, xo_34_2, xp_31_0, xp_31_1, xp_32_0, xp_32_1, xp_33_0, xp_33_1, xp_34_0, xp_34_1, xr_goto, xr_iconst, xr_if_ne, xr_vret, xtl_n, xtl_s, xz_i, xz_l, xz_n, xz_r, wb_2_makeAnew_0, wb_2_makeAnew_1, wb_2_makeAnew_2, zz_b, zz_bn, Classical.not_not, true_and, Nat.reduceAdd, Nat.reduceLeDiff]
    exact hQ f hf
theorem sp_mis_34 (h1 : -2147483648 ≤ i 19) (h2 : i 19 ≤ 2147483647) : s_2_isMissing [.inr (.inr 34)] (HH n xs w a i) Q = Q (some (.inl (if i 19 = 0 then 1 else 0))) (HH n xs w a i) := by
  simp (disch := first | assumption | omega | exact zc_lo | exact zc_hi | exact zz_l | exact zz_u | exact zz_r) only [xl_aload0, xm_f, xm_n, xm_t, xn_1, xo_31_0, xo_32_0, xo_33_0, xo_34_0, xr_goto, xr_iconst, xr_if_ne, xr_zret, xtl_n, xtl_s, xz_i, xz_l, xz_n, xz_r, wb_2_isMissing_0, wb_2_isMissing_1, wb_2_isMissing_2, ss_2_isMissing_31, ss_2_isMissing_32, ss_2_isMissing_33, ss_2_isMissing_34, zz_b, zz_bn, Classical.not_not, true_and, Nat.reduceAdd, Nat.reduceLeDiff]
  by_cases c : i 19 = 0 <;> simp only [c, true_implies, false_implies, implies_true, not_true_eq_false, not_false_eq_true, true_and, and_true, false_and, and_false, true_or, or_true, false_or, or_false, Bool.false_eq_true, Classical.not_not, ↓reduceIte]
theorem sp_put_34 {x v : Int} (h1 : -2147483648 ≤ i 19) (h2 : i 19 ≤ 2147483647) (h3 : 0 ≤ x) (h4 : x < 40) : s_2_put [.inr (.inr 34), .inl x, .inl v] (HH n xs w a i) Q = Q none (HH n xs w (dk_up a 38 (dk_ui (a 38) x (cvF (i 19) v))) i) := by
  unfold cvF
  simp (disch := first | assumption | omega | exact zc_lo | exact zc_hi | exact zz_l | exact zz_u | exact zz_r) only [xl_aload0, xl_iload1, xl_iload2, xm_f, xm_n, xm_t, xn_1, xn_2, xo_31_0, xo_31_2, xo_32_0, xo_32_2, xo_33_0, xo_33_2, xo_34_0, xo_34_2, xr_goto, xr_i2b, xr_i2s, xr_ic_ne, xr_iconst, xr_vret, xs_35, xs_36, xs_37, xs_38, xtl_n, xtl_s, xz_i, xz_l, xz_n, xz_r, wb_2_put_0, wb_2_put_1, wb_2_put_2, wb_2_put_3, ss_2_put_31, ss_2_put_32, ss_2_put_33, ss_2_put_34, zz_b, zz_bn, Classical.not_not, true_and, Nat.reduceAdd, Nat.reduceLeDiff]
  by_cases c : i 19 = 8
  · simp only [c, true_implies, false_implies, implies_true, not_true_eq_false, not_false_eq_true, true_and, and_true, false_and, and_false, true_or, or_true, false_or, or_false, Bool.false_eq_true, Classical.not_not, ↓reduceIte]
  · by_cases c2 : i 19 = 16
    · simp only [c2, show ¬ (16 : Int) = 8 by decide, true_implies, false_implies, implies_true, not_true_eq_false, not_false_eq_true, true_and, and_true, false_and, and_false, true_or, or_true, false_or, or_false, Bool.false_eq_true, Classical.not_not, ↓reduceIte]
    · simp only [c, c2, true_implies, false_implies, implies_true, not_true_eq_false, not_false_eq_true, true_and, and_true, false_and, and_false, true_or, or_true, false_or, or_false, Bool.false_eq_true, Classical.not_not, ↓reduceIte]
theorem sp_haf_34 {x v : Int} (x1 : -2147483648 ≤ x) (x2 : x ≤ 2147483647) (v1 : -2147483648 ≤ v) (v2 : v ≤ 2147483647) (h1 : 0 ≤ i 23) (h2 : i 23 ≤ 40) : s_2_hasFrom [.inr (.inr 34), .inl x, .inl v] (HH n xs w a i) Q = Q (some (.inl (if 0 ≤ x ∧ 0 ≤ v ∧ x ≤ i 23 ∧ v ≤ i 23 - x then 1 else 0))) (HH n xs w a i) := by
  by_cases c1 : x < 0
  · have c5 : ¬ 0 ≤ x := by omega
    simp (disch := first | assumption | omega | exact zc_lo | exact zc_hi | exact zz_l | exact zz_u | exact zz_r) only [xl_aload0, xl_iload1, xl_iload2, xm_f, xm_n, xm_t, xn_1, xo_31_1, xo_32_1, xo_33_1, xo_34_1, xr_goto, xr_ic_gt, xr_iconst, xr_if_lt, xr_isub, xr_zret, xtl_n, xtl_s, xz_i, xz_l, xz_n, xz_r, wb_2_hasFrom_0, wb_2_hasFrom_1, wb_2_hasFrom_2, ss_2_hasFrom_31, ss_2_hasFrom_32, ss_2_hasFrom_33, ss_2_hasFrom_34, zz_b, zz_bn, Classical.not_not, true_and, Nat.reduceAdd, Nat.reduceLeDiff, c1, c5, true_implies, false_implies, implies_true, not_true_eq_false, not_false_eq_true, and_true, false_and, and_false, if_true, if_false, Int.reduceEq, Int.reduceSub, Int.reduceAdd, Int.reduceMul, Int.reduceNeg, Int.reduceLT, Int.reduceLE, Int.add_zero]
  · have c5 : 0 ≤ x := by omega
    by_cases c2 : v < 0
    · have c6 : ¬ 0 ≤ v := by omega
      simp (disch := first | assumption | omega | exact zc_lo | exact zc_hi | exact zz_l | exact zz_u | exact zz_r) only [xl_aload0, xl_iload1, xl_iload2, xm_f, xm_n, xm_t, xn_1, xo_31_1, xo_32_1, xo_33_1, xo_34_1, xr_goto, xr_ic_gt, xr_iconst, xr_if_lt, xr_isub, xr_zret, xtl_n, xtl_s, xz_i, xz_l, xz_n, xz_r, wb_2_hasFrom_0, wb_2_hasFrom_1, wb_2_hasFrom_2, ss_2_hasFrom_31, ss_2_hasFrom_32, ss_2_hasFrom_33, ss_2_hasFrom_34, zz_b, zz_bn, Classical.not_not, true_and, Nat.reduceAdd, Nat.reduceLeDiff, c1, c2, c5, c6, true_implies, false_implies, implies_true, not_true_eq_false, not_false_eq_true, and_true, false_and, and_false, if_true, if_false, Int.reduceEq, Int.reduceSub, Int.reduceAdd, Int.reduceMul, Int.reduceNeg, Int.reduceLT, Int.reduceLE, Int.add_zero]
    · have c6 : 0 ≤ v := by omega
      by_cases c3 : i 23 < x
      · have c7 : ¬ x ≤ i 23 := by omega
        simp (disch := first | assumption | omega | exact zc_lo | exact zc_hi | exact zz_l | exact zz_u | exact zz_r) only [xl_aload0, xl_iload1, xl_iload2, xm_f, xm_n, xm_t, xn_1, xo_31_1, xo_32_1, xo_33_1, xo_34_1, xr_goto, xr_ic_gt, xr_iconst, xr_if_lt, xr_isub, xr_zret, xtl_n, xtl_s, xz_i, xz_l, xz_n, xz_r, wb_2_hasFrom_0, wb_2_hasFrom_1, wb_2_hasFrom_2, ss_2_hasFrom_31, ss_2_hasFrom_32, ss_2_hasFrom_33, ss_2_hasFrom_34, zz_b, zz_bn, Classical.not_not, true_and, Nat.reduceAdd, Nat.reduceLeDiff, c1, c2, c3, c5, c6, c7, true_implies, false_implies, implies_true, not_true_eq_false, not_false_eq_true, and_true, false_and, and_false, if_true, if_false, Int.reduceEq, Int.reduceSub, Int.reduceAdd, Int.reduceMul, Int.reduceNeg, Int.reduceLT, Int.reduceLE, Int.add_zero]
      · have c7 : x ≤ i 23 := by omega
        by_cases c4 : i 23 - x < v
        · have c8 : ¬ v ≤ i 23 - x := by omega
          simp (disch := first | assumption | omega | exact zc_lo | exact zc_hi | exact zz_l | exact zz_u | exact zz_r) only [xl_aload0, xl_iload1, xl_iload2, xm_f, xm_n, xm_t, xn_1, xo_31_1, xo_32_1, xo_33_1, xo_34_1, xr_goto, xr_ic_gt, xr_iconst, xr_if_lt, xr_isub, xr_zret, xtl_n, xtl_s, xz_i, xz_l, xz_n, xz_r, wb_2_hasFrom_0, wb_2_hasFrom_1, wb_2_hasFrom_2, ss_2_hasFrom_31, ss_2_hasFrom_32, ss_2_hasFrom_33, ss_2_hasFrom_34, zz_b, zz_bn, Classical.not_not, true_and, Nat.reduceAdd, Nat.reduceLeDiff, c1, c2, c3, c4, c5, c6, c7, c8, true_implies, false_implies, implies_true, not_true_eq_false, not_false_eq_true, and_true, false_and, and_false, if_true, if_false, Int.reduceEq, Int.reduceSub, Int.reduceAdd, Int.reduceMul, Int.reduceNeg, Int.reduceLT, Int.reduceLE, Int.add_zero]
        · have c8 : v ≤ i 23 - x := by omega
          simp (disch := first | assumption | omega | exact zc_lo | exact zc_hi | exact zz_l | exact zz_u | exact zz_r) only [xl_aload0, xl_iload1, xl_iload2, xm_f, xm_n, xm_t, xn_1, xo_31_1, xo_32_1, xo_33_1, xo_34_1, xr_goto, xr_ic_gt, xr_iconst, xr_if_lt, xr_isub, xr_zret, xtl_n, xtl_s, xz_i, xz_l, xz_n, xz_r, wb_2_hasFrom_0, wb_2_hasFrom_1, wb_2_hasFrom_2, ss_2_hasFrom_31, ss_2_hasFrom_32, ss_2_hasFrom_33, ss_2_hasFrom_34, zz_b, zz_bn, Classical.not_not, true_and, Nat.reduceAdd, Nat.reduceLeDiff, c1, c2, c3, c4, c5, c6, c7, c8, true_implies, false_implies, implies_true, not_true_eq_false, not_false_eq_true, and_true, false_and, and_false, if_true, if_false, Int.reduceEq, Int.reduceSub, Int.reduceAdd, Int.reduceMul, Int.reduceNeg, Int.reduceLT, Int.reduceLE, Int.add_zero]
theorem sp_mka_34 {x v : Int} (x1 : -2147483648 ≤ x) (x2 : x ≤ 2147483647) (v1 : 0 ≤ v) (v2 : v ≤ 40) : (∀ f, (∀ j : Int, 0 ≤ j → j < 40 → f j = 0) → Q none (HH n xs w (dk_up a 38 f) (dk_up (dk_up i 19 x) 23 (if x = 0 then 0 else v)))) → s_2_makeAnew [.inr (.inr 34), .inl x, .inl v] (HH n xs w a i) Q := by
  intro hQ
  simp (disch := first | assumption | omega | exact zc_lo | exact zc_hi | exact zz_l | exact zz_u | exact zz_r) only [xc_2 gc_2_makeAnew_0, xl_aload0, xl_iload1, xl_iload2, xm_f, xm_n, xm_t, xn_1, xo_31_2, xo_32_2, xo_33_2, xo_34_2, xp_31_0, xp_31_1, xp_32_0, xp_32_1, xp_33_0, xp_33_1, xp_34_0, xp_34_1, xr_goto, xr_iconst, xr_if_ne, xr_vret, xtl_n, xtl_s, xz_i, xz_l, xz_n, xz_r, wb_2_makeAnew_0, wb_2_makeAnew_1, wb_2_makeAnew_2, ss_2_makeAnew_31, ss_2_makeAnew_32, ss_2_makeAnew_33, ss_2_makeAnew_34, zz_b, zz_bn, Classical.not_not, true_and, Nat.reduceAdd, Nat.reduceLeDiff]
  refine ⟨fun c => ?_, fun c => ?_⟩
  · rw [if_neg c] at hQ
    refine sp_9_fill (m := 40) rfl (by omega) (fun f hf => ?_)
    simp (disch := first | assumption | omega | exact zc_lo | exact zc_hi | exact zz_l | exact zz_u | exact zz_r) only [xc_2 gc_2_makeAnew_0, xl_aload0, xl_iload1, xl_iload2, xm_f, xm_n, xm_t, xn_1, xo_31_2, xo_32_2, xo_33_2, xo_34_2, xp_31_0, xp_31_1, xp_32_0, xp_32_1, xp_33_0, xp_33_1, xp_34_0, xp_34_1, xr_goto, xr_iconst, xr_if_ne, xr_vret, xtl_n, xtl_s, xz_i, xz_l, xz_n, xz_r, wb_2_makeAnew_0, wb_2_makeAnew_1, wb_2_makeAnew_2, zz_b, zz_bn, Classical.not_not, true_and, Nat.reduceAdd, Nat.reduceLeDiff]
    exact hQ f hf
  · rw [if_pos c] at hQ
    refine sp_9_fill (m := 40) rfl (by omega) (fun f hf => ?_)
    simp (disch := first | assumption | omega | exact zc_lo | exact zc_hi | exact zz_l | exact zz_u | exact zz_r) only [xc_2 gc_2_makeAnew_0, xl_aload0, xl_iload1, xl_iload2, xm_f, xm_n, xm_t, xn_1, xo_31_2, xo_32_2, xo_33_2, xo_34_2, xp_31_0, xp_31_1, xp_32_0, xp_32_1, xp_33_0, xp_33_1, xp_34_0, xp_34_1, xr_goto, xr_iconst, xr_if_ne, xr_vret, xtl_n, xtl_s, xz_i, xz_l, xz_n, xz_r, wb_2_makeAnew_0, wb_2_makeAnew_1, wb_2_makeAnew_2, zz_b, zz_bn, Classical.not_not, true_and, Nat.reduceAdd, Nat.reduceLeDiff]
    exact hQ f hf
theorem sp_mis (hs : s < 4) (h1 : -2147483648 ≤ i (16 + s)) (h2 : i (16 + s) ≤ 2147483647) : s_2_isMissing [.inr (.inr (31 + s))] (HH n xs w a i) Q = Q (some (.inl (if i (16 + s) = 0 then 1 else 0))) (HH n xs w a i) := match s, hs, h1, h2 with
  | 0, _, h1, h2 => sp_mis_31 h1 h2
  | 1, _, h1, h2 => sp_mis_32 h1 h2
  | 2, _, h1, h2 => sp_mis_33 h1 h2
  | 3, _, h1, h2 => sp_mis_34 h1 h2
theorem sp_put {x v : Int} (hs : s < 4) (h1 : -2147483648 ≤ i (16 + s)) (h2 : i (16 + s) ≤ 2147483647) (h3 : 0 ≤ x) (h4 : x < 40) : s_2_put [.inr (.inr (31 + s)), .inl x, .inl v] (HH n xs w a i) Q = Q none (HH n xs w (dk_up a (35 + s) (dk_ui (a (35 + s)) x (cvF (i (16 + s)) v))) i) := match s, hs, h1, h2 with
  | 0, _, h1, h2 => sp_put_31 h1 h2 h3 h4
  | 1, _, h1, h2 => sp_put_32 h1 h2 h3 h4
  | 2, _, h1, h2 => sp_put_33 h1 h2 h3 h4
  | 3, _, h1, h2 => sp_put_34 h1 h2 h3 h4
theorem sp_haf {x v : Int} (hs : s < 4) (x1 : -2147483648 ≤ x) (x2 : x ≤ 2147483647) (v1 : -2147483648 ≤ v) (v2 : v ≤ 2147483647) (h1 : 0 ≤ i (20 + s)) (h2 : i (20 + s) ≤ 40) : s_2_hasFrom [.inr (.inr (31 + s)), .inl x, .inl v] (HH n xs w a i) Q = Q (some (.inl (if 0 ≤ x ∧ 0 ≤ v ∧ x ≤ i (20 + s) ∧ v ≤ i (20 + s) - x then 1 else 0))) (HH n xs w a i) := match s, hs, h1, h2 with
  | 0, _, h1, h2 => sp_haf_31 x1 x2 v1 v2 h1 h2
  | 1, _, h1, h2 => sp_haf_32 x1 x2 v1 v2 h1 h2
  | 2, _, h1, h2 => sp_haf_33 x1 x2 v1 v2 h1 h2
  | 3, _, h1, h2 => sp_haf_34 x1 x2 v1 v2 h1 h2
theorem sp_mka {x v : Int} (hs : s < 4) (x1 : -2147483648 ≤ x) (x2 : x ≤ 2147483647) (v1 : 0 ≤ v) (v2 : v ≤ 40) : (∀ f, (∀ j : Int, 0 ≤ j → j < 40 → f j = 0) → Q none (HH n xs w (dk_up a (35 + s) f) (dk_up (dk_up i (16 + s) x) (20 + s) (if x = 0 then 0 else v)))) → s_2_makeAnew [.inr (.inr (31 + s)), .inl x, .inl v] (HH n xs w a i) Q := match s, hs with
  | 0, _ => sp_mka_31 x1 x2 v1 v2
  | 1, _ => sp_mka_32 x1 x2 v1 v2
  | 2, _ => sp_mka_33 x1 x2 v1 v2
  | 3, _ => sp_mka_34 x1 x2 v1 v2
end XG
def ST : List Nat := [35, 36, 37, 38, 71, 72, 73, 74]
def SU : List Nat := [16, 17, 18, 19, 20, 21, 22, 23]
section SH1
variable {N : Int} {n : Nat} {xs : Int → Int} {w : Nat → Nat} {a : Nat → Int → Int} {i : Nat → Int} {Q : dk_Q} {p q : Int → Int} {w2 : Nat → Nat} {a2 : Nat → Int → Int} {i2 : Nat → Int}
def shS (a : Nat → Int → Int) (i : Nat → Int) (s : Nat) : Prop := sh1 (i (16 + s)) (i (20 + s)) (a (35 + s)) (a 71 s) (a 72 s) (fun j => a 73 (40 * (s : Int) + j))
theorem shA (h : Inv N w a i) : ∀ s : Nat, s < 4 → shS a i s := fun s hs => match s, hs with
  | 0, _ => h.2.2.2.2.2.1.1
  | 1, _ => h.2.2.2.2.2.1.2.1
  | 2, _ => h.2.2.2.2.2.1.2.2.1
  | 3, _ => h.2.2.2.2.2.1.2.2.2
theorem Inv_s (h : Inv N w a i) (hA : sA ST a a2) (hI : sI SU i i2) (hS : ∀ s : Nat, s < 4 → shS a2 i2 s) : Inv (N + 1) w a2 i2 := by
  have hf := fi_ok h
  have hm : mv a2 = mv a := by
    unfold mv
    rw [hA 54 (by decide), hA 57 (by decide), hA 58 (by decide), hA 59 (by decide), hA 60 (by decide), hA 61 (by decide)]
  have hmi : ∀ j, j ≤ 3 → mi i2 j = mi i j := by
    intro j hj
    refine hI (30 + j) ?_
    intro z
    simp only [SU, List.mem_cons, List.not_mem_nil, or_false] at z
    omega
  have hcE : cE a a2 := fun j z1 z2 => hA j (by intro z; simp only [ST, List.mem_cons, List.not_mem_nil, or_false] at z; omega)
  have hkE : kE i i2 := fun j z => hI j (by intro z; simp only [SU, List.mem_cons, List.not_mem_nil, or_false] at z; omega)
  have hkc : kc a2 = kc a := by
    unfold kc
    rw [hA 15 (by decide), hA 16 (by decide), hA 17 (by decide), hA 18 (by decide), hA 19 (by decide), hA 20 (by decide), hA 21 (by decide), hA 22 (by decide), hA 23 (by decide), hA 24 (by decide), hA 25 (by decide), hA 26 (by decide)]
  have hkk : kk i2 = kk i := by
    unfold kk
    rw [hI 4 (by decide), hI 5 (by decide), hI 6 (by decide), hI 7 (by decide)]
  have hkm : km a2 = km a := by unfold km; rw [hA 75 (by decide)]
  have hkn : kn a2 = kn a := by unfold kn; rw [hA 75 (by decide)]
  obtain ⟨g1, g2, g3, g4, g5, g6, -, g8⟩ := h
  refine ⟨g1, colN_E hcE hkE g2, ?_, ?_, ?_, ⟨hS 0 (by omega), hS 1 (by omega), hS 2 (by omega), hS 3 (by omega)⟩, ?_, ?_⟩
  · rw [hm]
    obtain ⟨q1, q2, q3, q4, q5, q6⟩ := g3
    refine ⟨fun j hj => by rw [hmi j hj, hkE j hj]; exact q1 j hj, ?_, ?_, ?_, ?_, ?_⟩
    · rw [hcE 2 (by omega) (by omega)]; exact q2
    · rw [hkE 0 (by omega), hcE 3 (by omega) (by omega), hcE 4 (by omega) (by omega), hcE 5 (by omega) (by omega), hcE 6 (by omega) (by omega), hcE 7 (by omega) (by omega), hcE 8 (by omega) (by omega)]; exact q3
    · rw [hkE 1 (by omega), hcE 9 (by omega) (by omega), hcE 10 (by omega) (by omega), hcE 11 (by omega) (by omega)]; exact q4
    · rw [hkE 2 (by omega), hcE 12 (by omega) (by omega)]; exact q5
    · rw [hcE 13 (by omega) (by omega)]; exact q6
  · rw [hI 8 (by decide), hI 42 (by decide), hkc, hkk, hkm, hkn]; exact g4
  · rw [hI 9 (by decide), hI 34 (by decide), hA 28 (by decide), hA 63 (by decide)]; exact g5
  · rw [hA 52 (by decide), hA 62 (by decide)]; exact hf
  · rw [hA 55 (by decide), hA 56 (by decide)]; exact g8
theorem mem_ST {s : Nat} (hs : s < 4) : 35 + s ∈ ST := by simp only [ST, List.mem_cons, List.not_mem_nil, or_false]; omega
theorem mem_SU {s : Nat} (hs : s < 4) : 16 + s ∈ SU := by simp only [SU, List.mem_cons, List.not_mem_nil, or_false]; omega
theorem mem_SV {s : Nat} (hs : s < 4) : 20 + s ∈ SU := by simp only [SU, List.mem_cons, List.not_mem_nil, or_false]; omega
theorem op_write (h : Inv N w a i) {x y z : Int} (x1 : -2147483648 ≤ x) (x2 : x ≤ 2147483647) (y1 : -2147483648 ≤ y) (y2 : y ≤ 2147483647) (z1 : -2147483648 ≤ z) (z2 : z ≤ 2147483647) : s_5_write [.inr (.inr 0), .inl x, .inl y, .inl z] (HH n xs w a i) (fun r h => s_6_write [.inr (.inr 53), .inl x, .inl y, .inl z] h (OPQ n xs N r)) := by
  by_cases c1 : 0 ≤ x ∧ x ≤ 3
  · obtain ⟨s, rfl⟩ := nat_of c1.1
    have hs : s < 4 := by omega
    obtain ⟨hb, ⟨hz1, hz2⟩, hbz, eb, ez, hf⟩ := shA h s hs
    have hb2 : -2147483648 ≤ i (16 + s) ∧ i (16 + s) ≤ 2147483647 := by omega
    obtain ⟨hb3, hb4⟩ := hb2
    by_cases c2 : i (16 + s) = 0
    · simp (disch := first | assumption | omega | exact zc_lo | exact zc_hi | exact zz_l | exact zz_u | exact zz_r) only [xa_30, xc_1 gc_5_write_0, xc_1 gc_5_write_2, xc_2 gc_5_write_1, xc_3 gc_5_write_3, xc_3 gc_5_write_4, xl_aload0, xl_iload1, xl_iload2, xl_iload3, xm_f, xm_n, xm_t, xn_1, xn_2, xn_3, xo_0_4, xo_31_1, xo_32_1, xo_33_1, xo_34_1, xr_iconst, xr_if_eq, xr_if_ne, xr_iret, xr_isub, xtl_n, xtl_s, xz_i, xz_l, xz_n, xz_r, wb_5_write_0, wb_5_write_1, wb_5_write_2, wb_5_write_3, ss_5_write, xa_71, xa_72, xa_73, xc_1 gc_6_write_0, xc_2 gc_6_write_1, xc_3 gc_6_write_2, xl_aload0, xl_iload1, xl_iload2, xl_iload3, xm_f, xm_n, xm_t, xn_1, xn_2, xn_3, xn_4, xn_5, xo_53_29, xo_53_30, xo_53_31, xr_goto, xr_i2b, xr_i2s, xr_iadd, xr_ic_ne, xr_iconst, xr_if_ne, xr_imul, xr_iret, xr_isub, xs_71, xs_72, xs_73, xtl_n, xtl_s, xz_i, xz_l, xz_n, xz_r, wb_6_write_0, wb_6_write_1, wb_6_write_2, wb_6_write_3, wb_6_write_4, wb_6_write_5, wb_6_write_6, ss_6_write, zz_b, zz_bn, Classical.not_not, true_and, Nat.reduceAdd, Nat.reduceLeDiff, sp_5_isSheet, sp_6_isSheet, c1, e31, sp_mis hs hb3 hb4, c2, sp_5_finding, sp_6_finds, up_n (show ¬ 71 = 52 by decide), eb, eq_self, true_implies, false_implies, implies_true, not_true_eq_false, not_false_eq_true, and_true, false_and, and_false, if_true, if_false, Int.reduceEq, Int.reduceSub, Int.reduceAdd, Int.reduceMul, Int.reduceNeg, Int.reduceLT, Int.reduceLE, Int.add_zero]
      exact fnd h 5 (by omega) (by omega)
    · by_cases c3 : 0 ≤ y ∧ y ≤ i (20 + s) - 1
      · have y0 := c3.1
        have y40 : y < 40 := by omega
        have cb := cvF_b (b := i (16 + s)) z1 z2
        have n71 : ¬ 71 = 35 + s := by omega
        have n72 : ¬ 72 = 35 + s := by omega
        have n73 : ¬ 73 = 35 + s := by omega
        have fin : ∀ c, c = cvF (i (16 + s)) z → OPQ n xs N (some (.inl 1)) (some (.inl 1)) (HH n xs w (dk_up (dk_up a (35 + s) (dk_ui (a (35 + s)) y (cvF (i (16 + s)) z))) 73 (dk_ui (a 73) (40 * (s : Int) + y) c)) i) := by
          intro c hc
          rw [hc]
          refine OPQ_i (by omega) (by omega) (Inv_s h (sA_up (sA_up sA_rf (mem_ST hs) _) (by decide) _) sI_rf (fun t ht => ?_))
          obtain ⟨tb, tz, tbz, teb, tez, tf⟩ := shA h t ht
          refine ⟨tb, tz, tbz, ?_, ?_, fun j j1 j2 => ?_⟩
          · rw [up_n (by omega), up_n (by omega)]; exact teb
          · rw [up_n (by omega), up_n (by omega)]; exact tez
          · simp only
            rw [up_n (by omega), up_s]
            obtain ⟨tf1, tf2⟩ := tf j j1 j2
            by_cases e : t = s
            · subst e
              rw [up_s]
              by_cases e2 : j = y
              · subst e2; rw [ui_s, ui_s]; exact ⟨cb, rfl⟩
              · rw [ui_n e2, ui_n (by omega)]; exact ⟨tf1, tf2⟩
            · rw [up_n (by omega), ui_n (by omega)]; exact ⟨tf1, tf2⟩
        simp (disch := first | assumption | omega | exact zc_lo | exact zc_hi | exact zz_l | exact zz_u | exact zz_r) only [xa_30, xc_1 gc_5_write_0, xc_1 gc_5_write_2, xc_2 gc_5_write_1, xc_3 gc_5_write_3, xc_3 gc_5_write_4, xl_aload0, xl_iload1, xl_iload2, xl_iload3, xm_f, xm_n, xm_t, xn_1, xn_2, xn_3, xo_0_4, xo_31_1, xo_32_1, xo_33_1, xo_34_1, xr_iconst, xr_if_eq, xr_if_ne, xr_iret, xr_isub, xtl_n, xtl_s, xz_i, xz_l, xz_n, xz_r, wb_5_write_0, wb_5_write_1, wb_5_write_2, wb_5_write_3, ss_5_write, xa_71, xa_72, xa_73, xc_1 gc_6_write_0, xc_2 gc_6_write_1, xc_3 gc_6_write_2, xl_aload0, xl_iload1, xl_iload2, xl_iload3, xm_f, xm_n, xm_t, xn_1, xn_2, xn_3, xn_4, xn_5, xo_53_29, xo_53_30, xo_53_31, xr_goto, xr_i2b, xr_i2s, xr_iadd, xr_ic_ne, xr_iconst, xr_if_ne, xr_imul, xr_iret, xr_isub, xs_71, xs_72, xs_73, xtl_n, xtl_s, xz_i, xz_l, xz_n, xz_r, wb_6_write_0, wb_6_write_1, wb_6_write_2, wb_6_write_3, wb_6_write_4, wb_6_write_5, wb_6_write_6, ss_6_write, zz_b, zz_bn, Classical.not_not, true_and, Nat.reduceAdd, Nat.reduceLeDiff, sp_5_isSheet, sp_6_isSheet, sp_5_isWithin, sp_6_in, c1, e31, sp_mis hs hb3 hb4, c2, xg_1 hs, c3, sp_put hs hb3 hb4 y0 y40, up_n n71, up_n n72, up_n n73, eb, ez, eq_self, true_implies, false_implies, implies_true, not_true_eq_false, not_false_eq_true, and_true, false_and, and_false, if_true, if_false, Int.reduceEq, Int.reduceSub, Int.reduceAdd, Int.reduceMul, Int.reduceNeg, Int.reduceLT, Int.reduceLE, Int.add_zero]
        refine ⟨fun c4 => ⟨fun c5 => fin _ ?_, fun c5 => fin _ ?_⟩, fun c4 => fin _ ?_⟩
        · unfold cvF; rw [if_neg c4, if_neg c5]
        · unfold cvF; rw [if_neg c4, if_pos c5]
        · unfold cvF; rw [if_pos c4]
      · simp (disch := first | assumption | omega | exact zc_lo | exact zc_hi | exact zz_l | exact zz_u | exact zz_r) only [xa_30, xc_1 gc_5_write_0, xc_1 gc_5_write_2, xc_2 gc_5_write_1, xc_3 gc_5_write_3, xc_3 gc_5_write_4, xl_aload0, xl_iload1, xl_iload2, xl_iload3, xm_f, xm_n, xm_t, xn_1, xn_2, xn_3, xo_0_4, xo_31_1, xo_32_1, xo_33_1, xo_34_1, xr_iconst, xr_if_eq, xr_if_ne, xr_iret, xr_isub, xtl_n, xtl_s, xz_i, xz_l, xz_n, xz_r, wb_5_write_0, wb_5_write_1, wb_5_write_2, wb_5_write_3, ss_5_write, xa_71, xa_72, xa_73, xc_1 gc_6_write_0, xc_2 gc_6_write_1, xc_3 gc_6_write_2, xl_aload0, xl_iload1, xl_iload2, xl_iload3, xm_f, xm_n, xm_t, xn_1, xn_2, xn_3, xn_4, xn_5, xo_53_29, xo_53_30, xo_53_31, xr_goto, xr_i2b, xr_i2s, xr_iadd, xr_ic_ne, xr_iconst, xr_if_ne, xr_imul, xr_iret, xr_isub, xs_71, xs_72, xs_73, xtl_n, xtl_s, xz_i, xz_l, xz_n, xz_r, wb_6_write_0, wb_6_write_1, wb_6_write_2, wb_6_write_3, wb_6_write_4, wb_6_write_5, wb_6_write_6, ss_6_write, zz_b, zz_bn, Classical.not_not, true_and, Nat.reduceAdd, Nat.reduceLeDiff, sp_5_isSheet, sp_6_isSheet, sp_5_isWithin, sp_6_in, c1, e31, sp_mis hs hb3 hb4, c2, xg_1 hs, c3, sp_5_finding, sp_6_finds, up_n (show ¬ 71 = 52 by decide), up_n (show ¬ 72 = 52 by decide), eb, ez, eq_self, true_implies, false_implies, implies_true, not_true_eq_false, not_false_eq_true, and_true, false_and, and_false, if_true, if_false, Int.reduceEq, Int.reduceSub, Int.reduceAdd, Int.reduceMul, Int.reduceNeg, Int.reduceLT, Int.reduceLE, Int.add_zero]
        exact fnd h 0 (by omega) (by omega)
  · simp (disch := first | assumption | omega | exact zc_lo | exact zc_hi | exact zz_l | exact zz_u | exact zz_r) only [xa_30, xc_1 gc_5_write_0, xc_1 gc_5_write_2, xc_2 gc_5_write_1, xc_3 gc_5_write_3, xc_3 gc_5_write_4, xl_aload0, xl_iload1, xl_iload2, xl_iload3, xm_f, xm_n, xm_t, xn_1, xn_2, xn_3, xo_0_4, xo_31_1, xo_32_1, xo_33_1, xo_34_1, xr_iconst, xr_if_eq, xr_if_ne, xr_iret, xr_isub, xtl_n, xtl_s, xz_i, xz_l, xz_n, xz_r, wb_5_write_0, wb_5_write_1, wb_5_write_2, wb_5_write_3, ss_5_write, xa_71, xa_72, xa_73, xc_1 gc_6_write_0, xc_2 gc_6_write_1, xc_3 gc_6_write_2, xl_aload0, xl_iload1, xl_iload2, xl_iload3, xm_f, xm_n, xm_t, xn_1, xn_2, xn_3, xn_4, xn_5, xo_53_29, xo_53_30, xo_53_31, xr_goto, xr_i2b, xr_i2s, xr_iadd, xr_ic_ne, xr_iconst, xr_if_ne, xr_imul, xr_iret, xr_isub, xs_71, xs_72, xs_73, xtl_n, xtl_s, xz_i, xz_l, xz_n, xz_r, wb_6_write_0, wb_6_write_1, wb_6_write_2, wb_6_write_3, wb_6_write_4, wb_6_write_5, wb_6_write_6, ss_6_write, zz_b, zz_bn, Classical.not_not, true_and, Nat.reduceAdd, Nat.reduceLeDiff, sp_5_isSheet, sp_6_isSheet, c1, sp_5_finding, sp_6_finds, true_implies, false_implies, implies_true, not_true_eq_false, not_false_eq_true, and_true, false_and, and_false, if_true, if_false, Int.reduceEq, Int.reduceSub, Int.reduceAdd, Int.reduceMul, Int.reduceNeg, Int.reduceLT, Int.reduceLE, Int.add_zero]
    exact fnd h 0 (by omega) (by omega)
end SH1
