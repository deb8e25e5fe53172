/-! THE LAW: its loop -/
theorem lw_andB (x y : Int) : -2147483648 ≤ dk_and x y ∧ dk_and x y ≤ 2147483647 := by
  have h : ∀ z : Int32, -2147483648 ≤ z.toInt ∧ z.toInt ≤ 2147483647 := fun z => ⟨Int32.le_toInt z, by have := Int32.toInt_lt z; omega⟩
  exact h _
theorem lw_loop {Rq : dk_Q} {P : Nat → dk_L → List dk_V → dk_H → Prop} {n : Nat} {xs : Int → Int} (hH : lw_H Rq P n xs) (hR : ∀ h, Rq (some (.inl 1)) h) : ∀ (d : Nat) (N : Int) (w : Nat → Nat) (a : Nat → Int → Int) (i : Nat → Int), 0 ≤ N → N ≤ 64 → (n : Int) - 6 < 6 * N + 6 * d → Inv N w a i → P 0 (lL (6 * N)) [] (HH n xs w a i) := by
  intro d
  induction d with
  | zero =>
    intro N w a i h0 h64 hd hI
    have hn := hH.2.2.2
    refine lw_blk hH rfl (fun hq => ?_)
    unfold lL
    rw [xl_iload3, xl_aload0, xo_len100, xr_iconst, xr_isub, xr_ic_gt (by omega) (by omega) (by omega) (by omega)]
    refine ⟨fun z => ?_, fun z => absurd z (by omega)⟩
    refine lw_blk (k := 6 * N) hH rfl (fun hq => ?_)
    rw [xr_iconst, xr_zret (Or.inr rfl)]
    exact hR _
  | succ d ih =>
    intro N w a i h0 h64 hd hI
    have hn := hH.2.2.2
    refine lw_blk hH rfl (fun hq => ?_)
    unfold lL
    rw [xl_iload3, xl_aload0, xo_len100, xr_iconst, xr_isub, xr_ic_gt (by omega) (by omega) (by omega) (by omega)]
    refine ⟨fun z => ?_, fun z => ?_⟩
    · refine lw_blk (k := 6 * N) hH rfl (fun hq => ?_)
      rw [xr_iconst, xr_zret (Or.inr rfl)]
      exact hR _
    · have hend : ∀ w a i, Inv (N + 1) w a i → P 85 (lL (6 * N)) [] (HH n xs w a i) := by
        intro w a i hI2
        refine lw_blk hH rfl (fun hq => ?_)
        unfold lL
        rw [xl_iinc3a, xr_goto]
        have e : 6 * N + 6 = 6 * (N + 1) := by omega
        rw [e]
        exact ih (N + 1) w a i (by omega) (by omega) (by omega) hI2
      rw [xl_aload0, xl_iload3, xa_100 (by omega) (by omega) (by omega), xr_iconst, xr_iand, xr_sw (lw_andB _ _).1 (lw_andB _ _).2]
      refine ⟨fun _ => hend w a i (Inv_N hI (by omega)), ?_⟩
      show dk_sw _ _ [1, 3, 5, 7, 9, 11, 13, 15, 17, 19, 21, 23, 25, 27, 29, 31, 33, 35, 37, 39, 41, 43, 45, 47, 49, 51, 53, 55, 57, 59, 61, 63, 65, 67, 69, 71, 73, 75, 77, 79, 81, 83] 0
      simp only [xw_t, xw_n]
      exact ⟨fun _ => lc_rule hH hI (by omega) (by omega) hend, fun _ => lc_feed hH hI (by omega) (by omega) hend, fun _ => lc_wipe hH hI (by omega) (by omega) hend, fun _ => lc_column hH hI (by omega) (by omega) hend, fun _ => lc_rankOf hH hI (by omega) (by omega) hend, fun _ => lc_change hH hI (by omega) (by omega) hend, fun _ => lc_drum hH hI (by omega) (by omega) hend, fun _ => lc_drumOf hH hI (by omega) (by omega) hend, fun _ => lc_carry hH hI (by omega) (by omega) hend, fun _ => lc_bend hH hI (by omega) (by omega) hend, fun _ => lc_lag hH hI (by omega) (by omega) hend, fun _ => lc_tread hH hI (by omega) (by omega) hend, fun _ => lc_march hH hI (by omega) (by omega) hend, fun _ => lc_worst hH hI (by omega) (by omega) hend, fun _ => lc_right hH hI (by omega) (by omega) hend, fun _ => lc_settles hH hI (by omega) (by omega) hend, fun _ => lc_round hH hI (by omega) (by omega) hend, fun _ => lc_better hH hI (by omega) (by omega) hend, fun _ => lc_place hH hI (by omega) (by omega) hend, fun _ => lc_both hH hI (by omega) (by omega) hend, fun _ => lc_two hH hI (by omega) (by omega) hend, fun _ => lc_opposite hH hI (by omega) (by omega) hend, fun _ => lc_edges hH hI (by omega) (by omega) hend, fun _ => lc_slip hH hI (by omega) (by omega) hend, fun _ => lc_begin hH hI (by omega) (by omega) hend, fun _ => lc_apart hH hI (by omega) (by omega) hend, fun _ => lc_bridge hH hI (by omega) (by omega) hend, fun _ => lc_broken hH hI (by omega) (by omega) hend, fun _ => lc_seed hH hI (by omega) (by omega) hend, fun _ => lc_shake hH hI (by omega) (by omega) hend, fun _ => lc_hold hH hI (by omega) (by omega) hend, fun _ => lc_as hH hI (by omega) (by omega) hend, fun _ => lc_sheet hH hI (by omega) (by omega) hend, fun _ => lc_write hH hI (by omega) (by omega) hend, fun _ => lc_copy hH hI (by omega) (by omega) hend, fun _ => lc_load hH hI (by omega) (by omega) hend, fun _ => lc_judge hH hI (by omega) (by omega) hend, fun _ => lc_image hH hI (by omega) (by omega) hend, fun _ => lc_undo hH hI (by omega) (by omega) hend, fun _ => lc_tear hH hI (by omega) (by omega) hend, fun _ => lc_count hH hI (by omega) (by omega) hend, fun _ => lc_status hH hI (by omega) (by omega) (by omega) hend, trivial⟩
