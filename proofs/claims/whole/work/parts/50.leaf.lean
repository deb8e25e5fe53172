/-! SMALL METHODS of both sides -/
theorem zz_b {c : Prop} [Decidable c] : ((if c then (1 : Int) else 0) = 0) = ¬ c := by by_cases h : c <;> simp [h]
theorem zz_bn {c : Prop} [Decidable c] : (¬ (if c then (1 : Int) else 0) = 0) = c := by by_cases h : c <;> simp [h]
theorem zz_l {c : Prop} [Decidable c] : -2147483648 ≤ (if c then (1 : Int) else 0) := by by_cases h : c <;> simp [h]
theorem zz_u {c : Prop} [Decidable c] : (if c then (1 : Int) else 0) ≤ 2147483647 := by by_cases h : c <;> simp [h]
theorem zz_r {c : Prop} [Decidable c] : (if c then (1 : Int) else 0) = 0 ∨ (if c then (1 : Int) else 0) = 1 := by by_cases h : c <;> simp [h]
theorem zc_lo {x y : Int} : -2147483648 ≤ dk_cmp x y := by unfold dk_cmp; split <;> (try split) <;> omega
theorem zc_hi {x y : Int} : dk_cmp x y ≤ 2147483647 := by unfold dk_cmp; split <;> (try split) <;> omega
theorem zc_ge {x y : Int} : (0 ≤ dk_cmp x y) = (y ≤ x) := propext (by unfold dk_cmp; split <;> (try split) <;> omega)
theorem zc_le {x y : Int} : (dk_cmp x y ≤ 0) = (x ≤ y) := propext (by unfold dk_cmp; split <;> (try split) <;> omega)
theorem zc_eq {x y : Int} : (dk_cmp x y = 0) = (x = y) := propext (by unfold dk_cmp; split <;> (try split) <;> omega)
def ab (x : Int) : Int := if x < 0 then -x else x
def mx (x y : Int) : Int := if x < y then y else x
def mn (x y : Int) : Int := if y < x then y else x
theorem ab_bd {x p : Int} (h1 : -p ≤ x) (h2 : x ≤ p) : 0 ≤ ab x ∧ ab x ≤ p := by unfold ab; split <;> omega
/-- WRAPPED -/
def wr (x p : Int) : Int := if p < 2 * (x % p) then x % p - p else x % p
theorem wr_bd (x : Int) {p : Int} (hp : 0 < p) : -p < 2 * wr x p ∧ 2 * wr x p ≤ p := by
  have h1 := Int.emod_nonneg x (show p ≠ 0 by omega)
  have h2 := Int.emod_lt_of_pos x hp
  unfold wr
  split <;> omega
theorem wr_tm (x : Int) {p : Int} (hp : 0 < p) : (x.tmod p = x % p ∧ 0 ≤ x.tmod p) ∨ (x.tmod p = x % p - p ∧ x.tmod p < 0 ∧ -p < x.tmod p) := by
  have h1 := Int.emod_nonneg x (show p ≠ 0 by omega)
  have h2 := Int.emod_lt_of_pos x hp
  have h3 := Int.emod_add_mul_ediv x p
  by_cases hx : 0 ≤ x
  · left
    rw [Int.tmod_eq_emod_of_nonneg hx]
    exact ⟨rfl, h1⟩
  · have h4 : x.tmod p = -((-x) % p) := by
      rw [← Int.tmod_eq_emod_of_nonneg (by omega : 0 ≤ -x), Int.neg_tmod]
      omega
    have h5 := Int.emod_nonneg (-x) (show p ≠ 0 by omega)
    have h6 := Int.emod_lt_of_pos (-x) hp
    by_cases h0 : x % p = 0
    · left
      have h7 : (-x) % p = 0 := Int.emod_eq_zero_of_dvd (Int.dvd_neg.mpr (Int.dvd_of_emod_eq_zero h0))
      omega
    · right
      have h7 : (-x) % p = p - x % p := by
        have e1 : -x = (p - x % p) + p * (-(x / p) - 1) := by
          rw [Int.mul_sub, Int.mul_neg]
          omega
        rw [e1, Int.add_mul_emod_self_left]
        exact Int.emod_eq_of_lt (by omega) (by omega)
      omega
theorem wr_c (x : Int) {p : Int} (hp : 0 < p) : (if p < 2 * x.tmod p then x.tmod p - p else if 2 * x.tmod p ≤ -p then x.tmod p + p else x.tmod p) = wr x p := by
  have h1 := Int.emod_nonneg x (show p ≠ 0 by omega)
  have h2 := Int.emod_lt_of_pos x hp
  unfold wr
  rcases wr_tm x hp with ⟨e, h⟩ | ⟨e, h, h3⟩
  · rw [e]
    split
    · rfl
    · rw [if_neg (by omega)]
  · rw [if_neg (by omega)]
    split
    · rw [e, if_neg (by omega)]; omega
    · rw [e, if_pos (by omega)]
theorem wr_m (x : Int) {p : Int} (hp : 0 < p) : (if p < 2 * (if x.tmod p < 0 then x.tmod p + p else x.tmod p) then (if x.tmod p < 0 then x.tmod p + p else x.tmod p) - p else (if x.tmod p < 0 then x.tmod p + p else x.tmod p)) = wr x p := by
  unfold wr
  rcases wr_tm x hp with ⟨e, h⟩ | ⟨e, h, h3⟩
  · have h0 : ¬ x.tmod p < 0 := by omega
    rw [e] at h0
    simp only [e, h0, if_false]
  · rw [if_pos h, e, show x % p - p + p = x % p by omega]
section LF
variable {h : dk_H} {Q : dk_Q} {n : Nat} {xs : Int → Int} {w : Nat → Nat} {a : Nat → Int → Int} {i : Nat → Int}
theorem sp_5_isWithin {v lo hi : Int} (h1 : -2147483648 ≤ v) (h2 : v ≤ 2147483647) (h3 : -2147483648 ≤ lo) (h4 : lo ≤ 2147483647) (h5 : -2147483648 ≤ hi) (h6 : hi ≤ 2147483647) : s_5_isWithin [.inl v, .inl lo, .inl hi] h Q = Q (some (.inl (if lo ≤ v ∧ v ≤ hi then 1 else 0))) h := by
  simp (disch := first | assumption | omega | exact zc_lo | exact zc_hi | exact zz_l | exact zz_u | exact zz_r) only [xl_iload0, xl_iload1, xl_iload2, xm_f, xm_n, xm_t, xn_1, xr_goto, xr_ic_gt, xr_ic_lt, xr_iconst, xr_zret, xtl_n, xtl_s, xz_i, xz_l, xz_n, xz_r, wb_5_isWithin_0, wb_5_isWithin_1, wb_5_isWithin_2, ss_5_isWithin, zz_b, zz_bn, Classical.not_not, true_and, Nat.reduceAdd, Nat.reduceLeDiff]
  by_cases c1 : v < lo <;> by_cases c2 : hi < v <;> simp [c1, c2] <;> first | (rw [if_neg (by omega)]; done) | (rw [if_pos (by omega)]; done) | skip
theorem sp_6_in {v lo hi : Int} (h1 : -2147483648 ≤ v) (h2 : v ≤ 2147483647) (h3 : -2147483648 ≤ lo) (h4 : lo ≤ 2147483647) (h5 : -2147483648 ≤ hi) (h6 : hi ≤ 2147483647) : s_6_in [.inl v, .inl lo, .inl hi] h Q = Q (some (.inl (if lo ≤ v ∧ v ≤ hi then 1 else 0))) h := by
  simp (disch := first | assumption | omega | exact zc_lo | exact zc_hi | exact zz_l | exact zz_u | exact zz_r) only [xl_iload0, xl_iload1, xl_iload2, xm_f, xm_n, xm_t, xn_1, xr_goto, xr_ic_gt, xr_ic_lt, xr_iconst, xr_zret, xtl_n, xtl_s, xz_i, xz_l, xz_n, xz_r, wb_6_in_0, wb_6_in_1, wb_6_in_2, ss_6_in, zz_b, zz_bn, Classical.not_not, true_and, Nat.reduceAdd, Nat.reduceLeDiff]
  by_cases c1 : v < lo <;> by_cases c2 : hi < v <;> simp [c1, c2] <;> first | (rw [if_neg (by omega)]; done) | (rw [if_pos (by omega)]; done) | skip
theorem sp_5_isPlace {v : Int} (h1 : -2147483648 ≤ v) (h2 : v ≤ 2147483647) : s_5_isPlace [.inl v] h Q = Q (some (.inl (if 0 ≤ v ∧ v ≤ 4999 then 1 else 0))) h := by
  simp (disch := first | assumption | omega | exact zc_lo | exact zc_hi | exact zz_l | exact zz_u | exact zz_r) only [xc_3 gc_5_isPlace_0, xl_iload0, xm_f, xm_n, xm_t, xr_iconst, xr_zret, xtl_n, xtl_s, xz_i, xz_l, xz_n, xz_r, wb_5_isPlace_0, ss_5_isPlace, zz_b, zz_bn, Classical.not_not, true_and, Nat.reduceAdd, Nat.reduceLeDiff, sp_5_isWithin, zz_r]
theorem sp_5_isMarch {v : Int} (h1 : -2147483648 ≤ v) (h2 : v ≤ 2147483647) : s_5_isMarch [.inl v] h Q = Q (some (.inl (if 0 ≤ v ∧ v ≤ 200 then 1 else 0))) h := by
  simp (disch := first | assumption | omega | exact zc_lo | exact zc_hi | exact zz_l | exact zz_u | exact zz_r) only [xc_3 gc_5_isMarch_0, xl_iload0, xm_f, xm_n, xm_t, xr_iconst, xr_zret, xtl_n, xtl_s, xz_i, xz_l, xz_n, xz_r, wb_5_isMarch_0, ss_5_isMarch, zz_b, zz_bn, Classical.not_not, true_and, Nat.reduceAdd, Nat.reduceLeDiff, sp_5_isWithin]
theorem sp_5_isSheet {v : Int} (h1 : -2147483648 ≤ v) (h2 : v ≤ 2147483647) : s_5_isSheet [.inl v] h Q = Q (some (.inl (if 0 ≤ v ∧ v ≤ 3 then 1 else 0))) h := by
  simp (disch := first | assumption | omega | exact zc_lo | exact zc_hi | exact zz_l | exact zz_u | exact zz_r) only [xc_3 gc_5_isSheet_0, xl_iload0, xm_f, xm_n, xm_t, xr_iconst, xr_zret, xtl_n, xtl_s, xz_i, xz_l, xz_n, xz_r, wb_5_isSheet_0, ss_5_isSheet, zz_b, zz_bn, Classical.not_not, true_and, Nat.reduceAdd, Nat.reduceLeDiff, sp_5_isWithin]
theorem sp_5_finding {k : Int} (h1 : 0 ≤ k) (h2 : k < 7) : s_5_finding [.inr (.inr 0), .inl k] (HH n xs w a i) Q = Q (some (.inl (-1000001 - k))) (HH n xs w (dk_up a 52 (dk_ui (a 52) k (a 52 k + 1))) i) := by
  simp (disch := first | assumption | omega | exact zc_lo | exact zc_hi | exact zz_l | exact zz_u | exact zz_r) only [xa_52, xl_aload0, xl_iload1, xm_f, xm_n, xm_t, xo_0_10, xr_dup2, xr_iadd, xr_iconst, xr_iret, xr_isub, xs_52, xtl_n, xtl_s, xz_i, xz_l, xz_n, xz_r, wb_5_finding_0, ss_5_finding, zz_b, zz_bn, Classical.not_not, true_and, Nat.reduceAdd, Nat.reduceLeDiff]
theorem sp_6_finds {k : Int} (h1 : 0 ≤ k) (h2 : k < 7) : s_6_finds [.inr (.inr 53), .inl k] (HH n xs w a i) Q = Q (some (.inl (-1000001 - k))) (HH n xs w (dk_up a 62 (dk_ui (a 62) k (a 62 k + 1))) i) := by
  simp (disch := first | assumption | omega | exact zc_lo | exact zc_hi | exact zz_l | exact zz_u | exact zz_r) only [xa_62, xl_aload0, xl_iload1, xm_f, xm_n, xm_t, xo_53_12, xr_dup2, xr_iadd, xr_iconst, xr_iret, xr_isub, xs_62, xtl_n, xtl_s, xz_i, xz_l, xz_n, xz_r, wb_6_finds_0, ss_6_finds, zz_b, zz_bn, Classical.not_not, true_and, Nat.reduceAdd, Nat.reduceLeDiff]
theorem sp_5_wrapped {x p : Int} (h1 : -2147483648 ≤ x) (h2 : x ≤ 2147483647) (h3 : 100 ≤ p) (h4 : p ≤ 2000) : s_5_wrapped [.inl x, .inl p] h Q = Q (some (.inl (wr x p))) h := by
  have hb : -2000 ≤ x.tmod p ∧ x.tmod p ≤ 2000 := by
    have q1 := Int.emod_nonneg x (show p ≠ 0 by omega)
    have q2 := Int.emod_lt_of_pos x (show 0 < p by omega)
    rcases wr_tm x (show 0 < p by omega) with h | h <;> omega
  obtain ⟨hb1, hb2⟩ := hb
  rw [← wr_c x (by omega)]
  have c0 : (1 : Int) ≤ p := by omega
  simp (disch := first | assumption | omega | exact zc_lo | exact zc_hi | exact zz_l | exact zz_u | exact zz_r) only [xl_iload0, xl_iload1, xl_iload2, xl_istore2a, xl_istore2i, xl_istore2n, xm_f, xm_n, xm_t, xn_1, xn_2, xn_3, xr_goto, xr_iadd, xr_ic_ge, xr_ic_gt, xr_ic_le, xr_iconst, xr_imul, xr_ineg, xr_irem, xr_iret, xr_isub, xtl_n, xtl_s, xz_i, xz_l, xz_n, xz_r, wb_5_wrapped_0, wb_5_wrapped_1, wb_5_wrapped_2, wb_5_wrapped_3, wb_5_wrapped_4, ss_5_wrapped, zz_b, zz_bn, Classical.not_not, true_and, Nat.reduceAdd, Nat.reduceLeDiff]
  by_cases c1 : p < 2 * x.tmod p
  · have c2 : ¬ 2 * x.tmod p ≤ p := by omega
    simp only [c0, c1, c2, true_implies, false_implies, implies_true, not_true_eq_false, not_false_eq_true, true_and, and_true, false_and, and_false, true_or, or_true, false_or, or_false, Bool.false_eq_true, Classical.not_not, ↓reduceIte]
  · have c3 : 2 * x.tmod p ≤ p := by omega
    by_cases c2 : 2 * x.tmod p ≤ -p
    · have c4 : ¬ -p < 2 * x.tmod p := by omega
      simp only [c0, c1, c2, c3, c4, true_implies, false_implies, implies_true, not_true_eq_false, not_false_eq_true, true_and, and_true, false_and, and_false, true_or, or_true, false_or, or_false, Bool.false_eq_true, Classical.not_not, ↓reduceIte]
    · have c4 : -p < 2 * x.tmod p := by omega
      simp only [c0, c1, c2, c3, c4, true_implies, false_implies, implies_true, not_true_eq_false, not_false_eq_true, true_and, and_true, false_and, and_false, true_or, or_true, false_or, or_false, Bool.false_eq_true, Classical.not_not, ↓reduceIte]
theorem sp_0_wrap {x : Int} (h1 : -2147483648 ≤ x) (h2 : x ≤ 2147483647) (h3 : 100 ≤ a 2 0) (h4 : a 2 0 ≤ 2000) : s_0_wrap [.inr (.inr 1), .inl x] (HH n xs w a i) Q = Q (some (.inl (wr x (a 2 0)))) (HH n xs w a i) := by
  simp (disch := first | assumption | omega | exact zc_lo | exact zc_hi | exact zz_l | exact zz_u | exact zz_r) only [xa_2, xc_2 gc_0_wrap_0, xl_aload0, xl_iload1, xm_f, xm_n, xm_t, xo_1_0, xr_iconst, xr_iret, xtl_n, xtl_s, xz_i, xz_l, xz_n, xz_r, wb_0_wrap_0, ss_0_wrap_1, ss_0_wrap_14, zz_b, zz_bn, Classical.not_not, true_and, Nat.reduceAdd, Nat.reduceLeDiff, sp_5_wrapped, Nat.zero_le]
theorem sp_0_roundPace {x : Int} (h1 : -2147483648 ≤ x) (h2 : x ≤ 2147483647) (h3 : 100 ≤ a 2 0) (h4 : a 2 0 ≤ 2000) : s_0_roundPace [.inr (.inr 1), .inl x] (HH n xs w a i) Q = Q (some (.inl (x % a 2 0))) (HH n xs w a i) := by
  have q1 := Int.emod_nonneg x (show a 2 0 ≠ 0 by omega)
  have q2 := Int.emod_lt_of_pos x (show 0 < a 2 0 by omega)
  have hw : wr x (a 2 0) = if a 2 0 < 2 * (x % a 2 0) then x % a 2 0 - a 2 0 else x % a 2 0 := rfl
  by_cases c1 : a 2 0 < 2 * (x % a 2 0)
  · rw [if_pos c1] at hw
    have c2 : ¬ 0 ≤ x % a 2 0 - a 2 0 := by omega
    simp (disch := first | assumption | omega | exact zc_lo | exact zc_hi | exact zz_l | exact zz_u | exact zz_r) only [xa_2, xc_2 gc_0_roundPace_0, xl_aload0, xl_iload1, xl_iload2, xl_istore2a, xl_istore2i, xl_istore2n, xm_f, xm_n, xm_t, xn_1, xo_1_0, xr_goto, xr_iadd, xr_iconst, xr_if_ge, xr_iret, xtl_n, xtl_s, xz_i, xz_l, xz_n, xz_r, wb_0_roundPace_0, wb_0_roundPace_1, wb_0_roundPace_2, ss_0_roundPace_1, ss_0_roundPace_14, zz_b, zz_bn, Classical.not_not, true_and, Nat.reduceAdd, Nat.reduceLeDiff, sp_0_wrap, hw]
    simp only [c2, show x % a 2 0 - a 2 0 + a 2 0 = x % a 2 0 by omega, true_implies, false_implies, implies_true, not_true_eq_false, not_false_eq_true, true_and, and_true, false_and, and_false, true_or, or_true, false_or, or_false, Bool.false_eq_true, Classical.not_not, ↓reduceIte]
  · rw [if_neg c1] at hw
    simp (disch := first | assumption | omega | exact zc_lo | exact zc_hi | exact zz_l | exact zz_u | exact zz_r) only [xa_2, xc_2 gc_0_roundPace_0, xl_aload0, xl_iload1, xl_iload2, xl_istore2a, xl_istore2i, xl_istore2n, xm_f, xm_n, xm_t, xn_1, xo_1_0, xr_goto, xr_iadd, xr_iconst, xr_if_ge, xr_iret, xtl_n, xtl_s, xz_i, xz_l, xz_n, xz_r, wb_0_roundPace_0, wb_0_roundPace_1, wb_0_roundPace_2, ss_0_roundPace_1, ss_0_roundPace_14, zz_b, zz_bn, Classical.not_not, true_and, Nat.reduceAdd, Nat.reduceLeDiff, sp_0_wrap, hw]
    simp only [q1, true_implies, false_implies, implies_true, not_true_eq_false, not_false_eq_true, true_and, and_true, false_and, and_false, true_or, or_true, false_or, or_false, Bool.false_eq_true, Classical.not_not, ↓reduceIte]
theorem sp_6_wrappedBy {x p : Int} (h1 : -4000000000 ≤ x) (h2 : x ≤ 4000000000) (h3 : 100 ≤ p) (h4 : p ≤ 2000) : s_6_wrappedBy [.inr (.inl x), .inl p] h Q = Q (some (.inl (wr x p))) h := by
  have hb : -2000 ≤ x.tmod p ∧ x.tmod p ≤ 2000 := by
    have q1 := Int.emod_nonneg x (show p ≠ 0 by omega)
    have q2 := Int.emod_lt_of_pos x (show 0 < p by omega)
    rcases wr_tm x (show 0 < p by omega) with h | h <;> omega
  obtain ⟨hb1, hb2⟩ := hb
  rw [← wr_m x (by omega)]
  simp (disch := first | assumption | omega | exact zc_lo | exact zc_hi | exact zz_l | exact zz_u | exact zz_r) only [xl_iload2, xl_lload0, xl_lload3, xl_lstore3a, xl_lstore3i, xl_lstore3n, xm_f, xm_n, xm_t, xn_1, xn_3, xr_goto, xr_i2l, xr_if_ge, xr_if_le, xr_iret, xr_l2i, xr_ladd, xr_lcmp, xr_lconst, xr_lmul, xr_lrem, xr_lsub, xtl_n, xtl_s, xz_i, xz_l, xz_n, xz_r, wb_6_wrappedBy_0, wb_6_wrappedBy_1, wb_6_wrappedBy_2, wb_6_wrappedBy_3, wb_6_wrappedBy_4, ss_6_wrappedBy, zz_b, zz_bn, Classical.not_not, true_and, Nat.reduceAdd, Nat.reduceLeDiff, zc_ge, zc_le]
  by_cases c1 : 0 ≤ x.tmod p
  · have c2 : ¬ x.tmod p < 0 := by omega
    by_cases c3 : p < 2 * x.tmod p
    · have c4 : ¬ 2 * x.tmod p ≤ p := by omega
      simp only [c1, c2, c3, c4, true_implies, false_implies, implies_true, not_true_eq_false, not_false_eq_true, true_and, and_true, false_and, and_false, true_or, or_true, false_or, or_false, Bool.false_eq_true, Classical.not_not, ↓reduceIte]
    · have c4 : 2 * x.tmod p ≤ p := by omega
      simp only [c1, c2, c3, c4, true_implies, false_implies, implies_true, not_true_eq_false, not_false_eq_true, true_and, and_true, false_and, and_false, true_or, or_true, false_or, or_false, Bool.false_eq_true, Classical.not_not, ↓reduceIte]
  · have c2 : x.tmod p < 0 := by omega
    by_cases c3 : p < 2 * (x.tmod p + p)
    · have c4 : ¬ 2 * (x.tmod p + p) ≤ p := by omega
      simp only [c1, c2, c3, c4, true_implies, false_implies, implies_true, not_true_eq_false, not_false_eq_true, true_and, and_true, false_and, and_false, true_or, or_true, false_or, or_false, Bool.false_eq_true, Classical.not_not, ↓reduceIte]
    · have c4 : 2 * (x.tmod p + p) ≤ p := by omega
      simp only [c1, c2, c3, c4, true_implies, false_implies, implies_true, not_true_eq_false, not_false_eq_true, true_and, and_true, false_and, and_false, true_or, or_true, false_or, or_false, Bool.false_eq_true, Classical.not_not, ↓reduceIte]
theorem sp_6_wrapped {x : Int} (h1 : -4000000000 ≤ x) (h2 : x ≤ 4000000000) (h3 : 100 ≤ a 54 0) (h4 : a 54 0 ≤ 2000) : s_6_wrapped [.inr (.inr 53), .inr (.inl x)] (HH n xs w a i) Q = Q (some (.inl (wr x (a 54 0)))) (HH n xs w a i) := by
  simp (disch := first | assumption | omega | exact zc_lo | exact zc_hi | exact zz_l | exact zz_u | exact zz_r) only [xa_54, xc_2 gc_6_wrapped_0, xl_aload0, xl_lload1, xm_f, xm_n, xm_t, xo_53_0, xr_iconst, xr_iret, xtl_n, xtl_s, xz_i, xz_l, xz_n, xz_r, wb_6_wrapped_0, ss_6_wrapped, zz_b, zz_bn, Classical.not_not, true_and, Nat.reduceAdd, Nat.reduceLeDiff, sp_6_wrappedBy, Nat.zero_le]
theorem sp_8_abs {x : Int} (h1 : -2147483648 ≤ x) (h2 : x ≤ 2147483647) : s_8_abs [.inl x] h Q = Q (some (.inl (ab x))) h := by
  unfold ab
  simp (disch := first | assumption | omega | exact zc_lo | exact zc_hi | exact zz_l | exact zz_u | exact zz_r) only [xl_iload0, xm_f, xm_n, xm_t, xn_1, xr_goto, xr_if_ge, xr_ineg, xr_iret, xtl_n, xtl_s, xz_i, xz_l, xz_n, xz_r, wb_8_abs_0, wb_8_abs_1, wb_8_abs_2, ss_8_abs, zz_b, zz_bn, Classical.not_not, true_and, Nat.reduceAdd, Nat.reduceLeDiff]
  by_cases c1 : 0 ≤ x
  · have c2 : ¬ x < 0 := by omega
    simp only [c1, c2, true_implies, false_implies, implies_true, not_true_eq_false, not_false_eq_true, true_and, and_true, false_and, and_false, true_or, or_true, false_or, or_false, Bool.false_eq_true, Classical.not_not, ↓reduceIte]
  · have c2 : x < 0 := by omega
    simp only [c1, c2, true_implies, false_implies, implies_true, not_true_eq_false, not_false_eq_true, true_and, and_true, false_and, and_false, true_or, or_true, false_or, or_false, Bool.false_eq_true, Classical.not_not, ↓reduceIte]
theorem sp_8_max {x y : Int} (h1 : -2147483648 ≤ x) (h2 : x ≤ 2147483647) (h3 : -2147483648 ≤ y) (h4 : y ≤ 2147483647) : s_8_max [.inl x, .inl y] h Q = Q (some (.inl (mx x y))) h := by
  unfold mx
  simp (disch := first | assumption | omega | exact zc_lo | exact zc_hi | exact zz_l | exact zz_u | exact zz_r) only [xl_iload0, xl_iload1, xm_f, xm_n, xm_t, xn_1, xr_goto, xr_ic_lt, xr_iret, xtl_n, xtl_s, xz_i, xz_l, xz_n, xz_r, wb_8_max_0, wb_8_max_1, wb_8_max_2, ss_8_max, zz_b, zz_bn, Classical.not_not, true_and, Nat.reduceAdd, Nat.reduceLeDiff]
  by_cases c1 : x < y <;> simp only [c1, true_implies, false_implies, implies_true, not_true_eq_false, not_false_eq_true, true_and, and_true, false_and, and_false, true_or, or_true, false_or, or_false, Bool.false_eq_true, Classical.not_not, ↓reduceIte]
theorem sp_8_min {x y : Int} (h1 : -2147483648 ≤ x) (h2 : x ≤ 2147483647) (h3 : -2147483648 ≤ y) (h4 : y ≤ 2147483647) : s_8_min [.inl x, .inl y] h Q = Q (some (.inl (mn x y))) h := by
  unfold mn
  simp (disch := first | assumption | omega | exact zc_lo | exact zc_hi | exact zz_l | exact zz_u | exact zz_r) only [xl_iload0, xl_iload1, xm_f, xm_n, xm_t, xn_1, xr_goto, xr_ic_gt, xr_iret, xtl_n, xtl_s, xz_i, xz_l, xz_n, xz_r, wb_8_min_0, wb_8_min_1, wb_8_min_2, ss_8_min, zz_b, zz_bn, Classical.not_not, true_and, Nat.reduceAdd, Nat.reduceLeDiff]
  by_cases c1 : y < x <;> simp only [c1, true_implies, false_implies, implies_true, not_true_eq_false, not_false_eq_true, true_and, and_true, false_and, and_false, true_or, or_true, false_or, or_false, Bool.false_eq_true, Classical.not_not, ↓reduceIte]
theorem sp_6_size {x : Int} (h1 : -2147483648 ≤ x) (h2 : x ≤ 2147483647) : s_6_size [.inl x] h Q = Q (some (.inl (ab x))) h := by
  unfold ab
  simp (disch := first | assumption | omega | exact zc_lo | exact zc_hi | exact zz_l | exact zz_u | exact zz_r) only [xl_iload0, xm_f, xm_n, xm_t, xn_1, xr_goto, xr_if_ge, xr_ineg, xr_iret, xtl_n, xtl_s, xz_i, xz_l, xz_n, xz_r, wb_6_size_0, wb_6_size_1, wb_6_size_2, ss_6_size, zz_b, zz_bn, Classical.not_not, true_and, Nat.reduceAdd, Nat.reduceLeDiff]
  by_cases c1 : 0 ≤ x
  · have c2 : ¬ x < 0 := by omega
    simp only [c1, c2, true_implies, false_implies, implies_true, not_true_eq_false, not_false_eq_true, true_and, and_true, false_and, and_false, true_or, or_true, false_or, or_false, Bool.false_eq_true, Classical.not_not, ↓reduceIte]
  · have c2 : x < 0 := by omega
    simp only [c1, c2, true_implies, false_implies, implies_true, not_true_eq_false, not_false_eq_true, true_and, and_true, false_and, and_false, true_or, or_true, false_or, or_false, Bool.false_eq_true, Classical.not_not, ↓reduceIte]
theorem sp_6_isPlace {v : Int} (h1 : -2147483648 ≤ v) (h2 : v ≤ 2147483647) : s_6_isPlace [.inl v] h Q = Q (some (.inl (if 0 ≤ v ∧ v ≤ 4999 then 1 else 0))) h := by
  simp (disch := first | assumption | omega | exact zc_lo | exact zc_hi | exact zz_l | exact zz_u | exact zz_r) only [xc_3 gc_6_isPlace_0, xl_iload0, xm_f, xm_n, xm_t, xr_iconst, xr_zret, xtl_n, xtl_s, xz_i, xz_l, xz_n, xz_r, wb_6_isPlace_0, ss_6_isPlace, zz_b, zz_bn, Classical.not_not, true_and, Nat.reduceAdd, Nat.reduceLeDiff, sp_6_in, Nat.zero_le]
theorem sp_6_isSheet {v : Int} (h1 : -2147483648 ≤ v) (h2 : v ≤ 2147483647) : s_6_isSheet [.inl v] h Q = Q (some (.inl (if 0 ≤ v ∧ v ≤ 3 then 1 else 0))) h := by
  simp (disch := first | assumption | omega | exact zc_lo | exact zc_hi | exact zz_l | exact zz_u | exact zz_r) only [xc_3 gc_6_isSheet_0, xl_iload0, xm_f, xm_n, xm_t, xr_iconst, xr_zret, xtl_n, xtl_s, xz_i, xz_l, xz_n, xz_r, wb_6_isSheet_0, ss_6_isSheet, zz_b, zz_bn, Classical.not_not, true_and, Nat.reduceAdd, Nat.reduceLeDiff, sp_6_in, Nat.zero_le]
theorem sp_6_isLetter {v : Int} (h1 : -2147483648 ≤ v) (h2 : v ≤ 2147483647) : s_6_isLetter [.inl v] h Q = Q (some (.inl (if 97 ≤ v ∧ v ≤ 122 then 1 else 0))) h := by
  simp (disch := first | assumption | omega | exact zc_lo | exact zc_hi | exact zz_l | exact zz_u | exact zz_r) only [xc_3 gc_6_isLetter_0, xl_iload0, xm_f, xm_n, xm_t, xr_iconst, xr_zret, xtl_n, xtl_s, xz_i, xz_l, xz_n, xz_r, wb_6_isLetter_0, ss_6_isLetter, zz_b, zz_bn, Classical.not_not, true_and, Nat.reduceAdd, Nat.reduceLeDiff, sp_6_in, Nat.zero_le]
theorem sp_6_isDigit {v : Int} (h1 : -2147483648 ≤ v) (h2 : v ≤ 2147483647) : s_6_isDigit [.inl v] h Q = Q (some (.inl (if 48 ≤ v ∧ v ≤ 57 then 1 else 0))) h := by
  simp (disch := first | assumption | omega | exact zc_lo | exact zc_hi | exact zz_l | exact zz_u | exact zz_r) only [xc_3 gc_6_isDigit_0, xl_iload0, xm_f, xm_n, xm_t, xr_iconst, xr_zret, xtl_n, xtl_s, xz_i, xz_l, xz_n, xz_r, wb_6_isDigit_0, ss_6_isDigit, zz_b, zz_bn, Classical.not_not, true_and, Nat.reduceAdd, Nat.reduceLeDiff, sp_6_in, Nat.zero_le]
theorem sp_6_isRank {v : Int} (h1 : -2147483648 ≤ v) (h2 : v ≤ 2147483647) (h3 : 0 ≤ i 30) (h4 : i 30 ≤ 24) : s_6_isRank [.inr (.inr 53), .inl v] (HH n xs w a i) Q = Q (some (.inl (if 0 ≤ v ∧ v ≤ i 30 - 1 then 1 else 0))) (HH n xs w a i) := by
  simp (disch := first | assumption | omega | exact zc_lo | exact zc_hi | exact zz_l | exact zz_u | exact zz_r) only [xc_3 gc_6_isRank_0, xl_aload0, xl_iload1, xm_f, xm_n, xm_t, xo_53_3, xr_iconst, xr_isub, xr_zret, xtl_n, xtl_s, xz_i, xz_l, xz_n, xz_r, wb_6_isRank_0, ss_6_isRank, zz_b, zz_bn, Classical.not_not, true_and, Nat.reduceAdd, Nat.reduceLeDiff, sp_6_in, Nat.zero_le]
theorem sp_6_isDrum {v : Int} (h1 : -2147483648 ≤ v) (h2 : v ≤ 2147483647) (h3 : 0 ≤ i 31) (h4 : i 31 ≤ 6) : s_6_isDrum [.inr (.inr 53), .inl v] (HH n xs w a i) Q = Q (some (.inl (if 0 ≤ v ∧ v ≤ i 31 - 1 then 1 else 0))) (HH n xs w a i) := by
  simp (disch := first | assumption | omega | exact zc_lo | exact zc_hi | exact zz_l | exact zz_u | exact zz_r) only [xc_3 gc_6_isDrum_0, xl_aload0, xl_iload1, xm_f, xm_n, xm_t, xo_53_6, xr_iconst, xr_isub, xr_zret, xtl_n, xtl_s, xz_i, xz_l, xz_n, xz_r, wb_6_isDrum_0, ss_6_isDrum, zz_b, zz_bn, Classical.not_not, true_and, Nat.reduceAdd, Nat.reduceLeDiff, sp_6_in, Nat.zero_le]
theorem sp_6_its {r k : Int} (h1 : 0 ≤ 5 * r + k) (h2 : 5 * r + k < 120) : s_6_its [.inr (.inr 53), .inl r, .inl k] (HH n xs w a i) Q = Q (some (.inl (a 57 (5 * r + k)))) (HH n xs w a i) := by
  simp (disch := first | assumption | omega | exact zc_lo | exact zc_hi | exact zz_l | exact zz_u | exact zz_r) only [xa_57, xl_aload0, xl_iload1, xl_iload2, xm_f, xm_n, xm_t, xo_53_4, xr_iadd, xr_iconst, xr_imul, xr_iret, xtl_n, xtl_s, xz_i, xz_l, xz_n, xz_r, wb_6_its_0, ss_6_its, zz_b, zz_bn, Classical.not_not, true_and, Nat.reduceAdd, Nat.reduceLeDiff]
theorem sp_0_hasRank {v : Int} (h1 : -2147483648 ≤ v) (h2 : v ≤ 2147483647) (h3 : 0 ≤ i 0) (h4 : i 0 ≤ 24) : s_0_hasRank [.inr (.inr 1), .inl v] (HH n xs w a i) Q = Q (some (.inl (if 0 ≤ v ∧ v < i 0 then 1 else 0))) (HH n xs w a i) := by
  simp (disch := first | assumption | omega | exact zc_lo | exact zc_hi | exact zz_l | exact zz_u | exact zz_r) only [xl_aload0, xl_iload1, xm_f, xm_n, xm_t, xn_1, xo_1_1, xr_goto, xr_ic_ge, xr_iconst, xr_if_lt, xr_zret, xtl_n, xtl_s, xz_i, xz_l, xz_n, xz_r, wb_0_hasRank_0, wb_0_hasRank_1, wb_0_hasRank_2, ss_0_hasRank_1, ss_0_hasRank_14, zz_b, zz_bn, Classical.not_not, true_and, Nat.reduceAdd, Nat.reduceLeDiff]
  by_cases c1 : v < 0
  · have c2 : ¬ 0 ≤ v := by omega
    simp only [c1, c2, true_implies, false_implies, implies_true, not_true_eq_false, not_false_eq_true, true_and, and_true, false_and, and_false, true_or, or_true, false_or, or_false, Bool.false_eq_true, Classical.not_not, ↓reduceIte]
  · have c2 : 0 ≤ v := by omega
    by_cases c3 : v < i 0
    · have c4 : ¬ i 0 ≤ v := by omega
      simp only [c1, c2, c3, c4, true_implies, false_implies, implies_true, not_true_eq_false, not_false_eq_true, true_and, and_true, false_and, and_false, true_or, or_true, false_or, or_false, Bool.false_eq_true, Classical.not_not, ↓reduceIte]
    · have c4 : i 0 ≤ v := by omega
      simp only [c1, c2, c3, c4, true_implies, false_implies, implies_true, not_true_eq_false, not_false_eq_true, true_and, and_true, false_and, and_false, true_or, or_true, false_or, or_false, Bool.false_eq_true, Classical.not_not, ↓reduceIte]
theorem sp_0_hasDrum {v : Int} (h1 : -2147483648 ≤ v) (h2 : v ≤ 2147483647) (h3 : 0 ≤ i 1) (h4 : i 1 ≤ 6) : s_0_hasDrum [.inr (.inr 1), .inl v] (HH n xs w a i) Q = Q (some (.inl (if 0 ≤ v ∧ v < i 1 then 1 else 0))) (HH n xs w a i) := by
  simp (disch := first | assumption | omega | exact zc_lo | exact zc_hi | exact zz_l | exact zz_u | exact zz_r) only [xl_aload0, xl_iload1, xm_f, xm_n, xm_t, xn_1, xo_1_8, xr_goto, xr_ic_ge, xr_iconst, xr_if_lt, xr_zret, xtl_n, xtl_s, xz_i, xz_l, xz_n, xz_r, wb_0_hasDrum_0, wb_0_hasDrum_1, wb_0_hasDrum_2, ss_0_hasDrum_1, ss_0_hasDrum_14, zz_b, zz_bn, Classical.not_not, true_and, Nat.reduceAdd, Nat.reduceLeDiff]
  by_cases c1 : v < 0
  · have c2 : ¬ 0 ≤ v := by omega
    simp only [c1, c2, true_implies, false_implies, implies_true, not_true_eq_false, not_false_eq_true, true_and, and_true, false_and, and_false, true_or, or_true, false_or, or_false, Bool.false_eq_true, Classical.not_not, ↓reduceIte]
  · have c2 : 0 ≤ v := by omega
    by_cases c3 : v < i 1
    · have c4 : ¬ i 1 ≤ v := by omega
      simp only [c1, c2, c3, c4, true_implies, false_implies, implies_true, not_true_eq_false, not_false_eq_true, true_and, and_true, false_and, and_false, true_or, or_true, false_or, or_false, Bool.false_eq_true, Classical.not_not, ↓reduceIte]
    · have c4 : i 1 ≤ v := by omega
      simp only [c1, c2, c3, c4, true_implies, false_implies, implies_true, not_true_eq_false, not_false_eq_true, true_and, and_true, false_and, and_false, true_or, or_true, false_or, or_false, Bool.false_eq_true, Classical.not_not, ↓reduceIte]
/-- LAG by speed and wind -/
def lagF (sp wd f t : Int) : Int := if f < t then ((t - f) * 1000).tdiv (sp + wd) else ((f - t) * 1000).tdiv (sp - wd)
theorem tdiv_bd {x y : Int} (h0 : 0 ≤ x) (h1 : 1 ≤ y) : 0 ≤ x.tdiv y ∧ x.tdiv y ≤ x := by
  rw [Int.tdiv_eq_ediv_of_nonneg h0]
  exact ⟨Int.ediv_nonneg h0 (by omega), Int.ediv_le_self _ h0⟩
theorem lagF_bd {sp wd f t : Int} (h1 : 500 ≤ sp) (h2 : sp ≤ 2000) (h3 : -200 ≤ wd) (h4 : wd ≤ 200) (h5 : 0 ≤ f) (h6 : f ≤ 4999) (h7 : 0 ≤ t) (h8 : t ≤ 4999) : 0 ≤ lagF sp wd f t ∧ lagF sp wd f t ≤ 4999000 := by
  unfold lagF
  split
  · have := tdiv_bd (x := (t - f) * 1000) (y := sp + wd) (by omega) (by omega)
    omega
  · have := tdiv_bd (x := (f - t) * 1000) (y := sp - wd) (by omega) (by omega)
    omega
theorem sp_0_lagBetween {f t : Int} (h1 : 500 ≤ a 2 1) (h2 : a 2 1 ≤ 2000) (h3 : -200 ≤ a 2 2) (h4 : a 2 2 ≤ 200) (h5 : 0 ≤ f) (h6 : f ≤ 4999) (h7 : 0 ≤ t) (h8 : t ≤ 4999) : s_0_lagBetween [.inr (.inr 1), .inl f, .inl t] (HH n xs w a i) Q = Q (some (.inl (lagF (a 2 1) (a 2 2) f t))) (HH n xs w a i) := by
  unfold lagF
  by_cases c1 : f < t
  · have c2 : ¬ t ≤ f := by omega
    have e : ab (t - f) = t - f := by unfold ab; rw [if_neg (by omega)]
    have c3 : ¬ a 2 1 + a 2 2 ≤ 0 := by omega
    have c4 : ¬ a 2 1 - a 2 2 ≤ 0 := by omega
    simp (disch := first | assumption | omega | exact zc_lo | exact zc_hi | exact zz_l | exact zz_u | exact zz_r) only [xa_2, xc_1 gc_0_lagBetween_0, xl_aload0, xl_iload1, xl_iload2, xl_iload3, xl_istore3a, xl_istore3i, xl_istore3n, xm_f, xm_n, xm_t, xn_1, xn_3, xo_1_0, xr_goto, xr_iadd, xr_ic_le, xr_iconst, xr_idiv, xr_if_le, xr_imul, xr_iret, xr_isub, xtl_n, xtl_s, xz_i, xz_l, xz_n, xz_r, wb_0_lagBetween_0, wb_0_lagBetween_1, wb_0_lagBetween_2, wb_0_lagBetween_3, wb_0_lagBetween_4, ss_0_lagBetween_1, ss_0_lagBetween_14, zz_b, zz_bn, Classical.not_not, true_and, Nat.reduceAdd, Nat.reduceLeDiff, sp_8_abs, e]
    simp only [c1, c2, c3, c4, true_implies, false_implies, implies_true, not_true_eq_false, not_false_eq_true, true_and, and_true, false_and, and_false, true_or, or_true, false_or, or_false, Bool.false_eq_true, Classical.not_not, ↓reduceIte]
  · have c2 : t ≤ f := by omega
    have e : ab (t - f) = f - t := by unfold ab; split <;> omega
    have c3 : ¬ a 2 1 + a 2 2 ≤ 0 := by omega
    have c4 : ¬ a 2 1 - a 2 2 ≤ 0 := by omega
    simp (disch := first | assumption | omega | exact zc_lo | exact zc_hi | exact zz_l | exact zz_u | exact zz_r) only [xa_2, xc_1 gc_0_lagBetween_0, xl_aload0, xl_iload1, xl_iload2, xl_iload3, xl_istore3a, xl_istore3i, xl_istore3n, xm_f, xm_n, xm_t, xn_1, xn_3, xo_1_0, xr_goto, xr_iadd, xr_ic_le, xr_iconst, xr_idiv, xr_if_le, xr_imul, xr_iret, xr_isub, xtl_n, xtl_s, xz_i, xz_l, xz_n, xz_r, wb_0_lagBetween_0, wb_0_lagBetween_1, wb_0_lagBetween_2, wb_0_lagBetween_3, wb_0_lagBetween_4, ss_0_lagBetween_1, ss_0_lagBetween_14, zz_b, zz_bn, Classical.not_not, true_and, Nat.reduceAdd, Nat.reduceLeDiff, sp_8_abs, e]
    simp only [c1, c2, c3, c4, true_implies, false_implies, implies_true, not_true_eq_false, not_false_eq_true, true_and, and_true, false_and, and_false, true_or, or_true, false_or, or_false, Bool.false_eq_true, Classical.not_not, ↓reduceIte]
theorem sp_6_lagOf {f t : Int} (h1 : 500 ≤ a 54 1) (h2 : a 54 1 ≤ 2000) (h3 : -200 ≤ a 54 2) (h4 : a 54 2 ≤ 200) (h5 : 0 ≤ f) (h6 : f ≤ 4999) (h7 : 0 ≤ t) (h8 : t ≤ 4999) : s_6_lagOf [.inr (.inr 53), .inl f, .inl t] (HH n xs w a i) Q = Q (some (.inl (lagF (a 54 1) (a 54 2) f t))) (HH n xs w a i) := by
  unfold lagF
  simp (disch := first | assumption | omega | exact zc_lo | exact zc_hi | exact zz_l | exact zz_u | exact zz_r) only [xa_54, xl_aload0, xl_iload1, xl_iload2, xm_f, xm_n, xm_t, xn_1, xo_53_0, xr_goto, xr_iadd, xr_ic_le, xr_iconst, xr_idiv, xr_imul, xr_iret, xr_isub, xtl_n, xtl_s, xz_i, xz_l, xz_n, xz_r, wb_6_lagOf_0, wb_6_lagOf_1, wb_6_lagOf_2, ss_6_lagOf, zz_b, zz_bn, Classical.not_not, true_and, Nat.reduceAdd, Nat.reduceLeDiff]
  by_cases c1 : f < t
  · have c2 : ¬ t ≤ f := by omega
    simp only [c1, c2, true_implies, false_implies, implies_true, not_true_eq_false, not_false_eq_true, true_and, and_true, false_and, and_false, true_or, or_true, false_or, or_false, Bool.false_eq_true, Classical.not_not, ↓reduceIte]
  · have c2 : t ≤ f := by omega
    simp only [c1, c2, true_implies, false_implies, implies_true, not_true_eq_false, not_false_eq_true, true_and, and_true, false_and, and_false, true_or, or_true, false_or, or_false, Bool.false_eq_true, Classical.not_not, ↓reduceIte]
end LF
