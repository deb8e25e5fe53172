/-! SMALL METHODS of both sides -/
section LF
variable {h : dk_H} {Q : dk_Q} {n : Nat} {xs : Int → Int} {w : Nat → Nat} {a : Nat → Int → Int} {i : Nat → Int}
theorem sp_5_isWithin {v lo hi : Int} (h1 : -2147483648 ≤ v) (h2 : v ≤ 2147483647) (h3 : -2147483648 ≤ lo) (h4 : lo ≤ 2147483647) (h5 : -2147483648 ≤ hi) (h6 : hi ≤ 2147483647) : s_5_isWithin [.inl v, .inl lo, .inl hi] h Q = Q (some (.inl (if lo ≤ v ∧ v ≤ hi then 1 else 0))) h := by
  simp (disch := first | assumption | omega) only [xl_iload0, xl_iload1, xl_iload2, xm_f, xm_n, xm_t, xn_1, xr_goto, xr_ic_gt, xr_ic_lt, xr_iconst, xr_zret, xtl_n, xtl_s, xz_i, xz_l, xz_n, xz_r, wb_5_isWithin_0, wb_5_isWithin_1, wb_5_isWithin_2, ss_5_isWithin]
  by_cases c1 : v < lo <;> by_cases c2 : hi < v <;> simp [c1, c2] <;> first | (rw [if_neg (by omega)]; done) | (rw [if_pos (by omega)]; done) | skip
end LF
