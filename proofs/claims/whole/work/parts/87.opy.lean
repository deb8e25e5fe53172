/-! CALLS OF BOTH: ranks shaken; bytes fed -/
def zF (z : Int) : Nat → Int
  | 0 => z
  | k + 1 => dk_nm (zF z k * 1103515245 + 12345)
def shF (a : Nat → Int → Int) (z x : Int) (r : Nat) : Int := wr (a 8 r - x + (zF z (r + 1) % 4294967296 / 2 ^ (8 : Int).toNat).tmod (2 * x + 1)) (a 2 0)
theorem zF_b {z : Int} (h1 : -2147483648 ≤ z) (h2 : z ≤ 2147483647) : ∀ k, -2147483648 ≤ zF z k ∧ zF z k ≤ 2147483647
  | 0 => ⟨h1, h2⟩
  | k + 1 => dk_nm_bd _
theorem sd_b {y x : Int} (hx : 0 ≤ x ∧ x ≤ 999) : (0 ≤ y % 4294967296 / 2 ^ (8 : Int).toNat ∧ y % 4294967296 / 2 ^ (8 : Int).toNat ≤ 16777216) ∧ 0 ≤ (y % 4294967296 / 2 ^ (8 : Int).toNat).tmod (2 * x + 1) ∧ (y % 4294967296 / 2 ^ (8 : Int).toNat).tmod (2 * x + 1) ≤ 1998 := by
  have e : y % 4294967296 / 2 ^ (8 : Int).toNat = y % 4294967296 / 256 := rfl
  rw [e]
  have h0 : 0 ≤ y % 4294967296 / 256 := by omega
  refine ⟨by omega, Int.tmod_nonneg _ h0, ?_⟩
  have := Int.tmod_lt_of_pos (y % 4294967296 / 256) (show 0 < 2 * x + 1 by omega)
  omega
section OY1
variable {N : Int} {n : Nat} {xs : Int → Int} {w : Nat → Nat} {a : Nat → Int → Int} {i : Nat → Int} {Q : dk_Q} {p q : Int → Int} {w2 : Nat → Nat} {a2 : Nat → Int → Int} {i2 : Nat → Int} {t : Nat} {r : Int}
theorem Inv_z (h : Inv N w a i) {z : Int} (z1 : -2147483648 ≤ z) (z2 : z ≤ 2147483647) : Inv N w a (dk_up (dk_up i 3 z) 33 z) := by
  have hc := h.2.1
  have hag := h.2.2.1
  have hmc := colN_A hag hc
  obtain ⟨⟨p1, p2⟩, ⟨s1, s2⟩, ⟨v1, v2⟩, ⟨n1, n2⟩, ⟨o1, o2⟩, ⟨d1, d2⟩, ⟨e1, e2⟩, ⟨k1, k2⟩, hr, ⟨m1, m2⟩, hd, ⟨b1, b2⟩, hb, hs, hz⟩ := id hc
  obtain ⟨hkE, hA2, hA3, hA4, hA5, hA6⟩ := id hag
  have K0 : i 30 = i 0 := hkE 0 (by omega)
  have K1 : i 31 = i 1 := hkE 1 (by omega)
  have K2 : i 32 = i 2 := hkE 2 (by omega)
  have K3 : i 33 = i 3 := hkE 3 (by omega)
  have R0 : a 54 0 = a 2 0 := hA2 0 (by omega) (by omega)
  have R1 : a 54 1 = a 2 1 := hA2 1 (by omega) (by omega)
  have R2 : a 54 2 = a 2 2 := hA2 2 (by omega) (by omega)
  have R3 : a 54 3 = a 2 3 := hA2 3 (by omega) (by omega)
  have R4 : a 54 4 = a 2 4 := hA2 4 (by omega) (by omega)
  have R5 : a 54 5 = a 2 5 := hA2 5 (by omega) (by omega)
  have R6 : a 54 6 = a 2 6 := hA2 6 (by omega) (by omega)
  obtain ⟨g1, g2, g3, g4, g5, g6, g7, g8⟩ := h
  refine ⟨g1, ?_, ?_, g4, g5, g6, g7, g8⟩
  · exact ⟨⟨p1, p2⟩, ⟨s1, s2⟩, ⟨v1, v2⟩, ⟨n1, n2⟩, ⟨o1, o2⟩, ⟨d1, d2⟩, ⟨e1, e2⟩, ⟨k1, k2⟩, hr, ⟨m1, m2⟩, hd, ⟨b1, b2⟩, hb, hs, ⟨z1, z2⟩⟩
  · refine ⟨fun j hj => ?_, hA2, hA3, hA4, hA5, hA6⟩
    match j, hj with
    | 0, _ => exact K0
    | 1, _ => exact K1
    | 2, _ => exact K2
    | 3, _ => rfl
theorem sp_0_draw {z : Int} : s_0_draw [.inr (.inr 1)] (HH n xs w a (dk_up i 3 z)) Q = Q (some (.inl (dk_nm (z * 1103515245 + 12345) % 4294967296 / 2 ^ (8 : Int).toNat))) (HH n xs w a (dk_up i 3 (dk_nm (z * 1103515245 + 12345)))) := by
  simp (disch := first | assumption | omega | exact zc_lo | exact zc_hi | exact zz_l | exact zz_u | exact zz_r) only [xl_aload0, xm_f, xm_n, xm_t, xo_1_15, xq_1_15, xr_iadd, xr_iconst, xr_imul, xr_iret, xr_iushr, xtl_n, xtl_s, xz_i, xz_l, xz_n, xz_r, wb_0_draw_0, ss_0_draw_1, ss_0_draw_14, zz_b, zz_bn, Classical.not_not, true_and, Nat.reduceAdd, Nat.reduceLeDiff, xq_1_15, up_s, up_up]
theorem op_shake (h : Inv N w a i) {x : Int} (x1 : -2147483648 ≤ x) (x2 : x ≤ 2147483647) : s_5_shake [.inr (.inr 0), .inl x] (HH n xs w a i) (fun r h => s_6_shake [.inr (.inr 53), .inl x] h (OPQ n xs N r)) := by
  have hc := h.2.1
  have hag := h.2.2.1
  have hmc := colN_A hag hc
  obtain ⟨⟨p1, p2⟩, ⟨s1, s2⟩, ⟨v1, v2⟩, ⟨n1, n2⟩, ⟨o1, o2⟩, ⟨d1, d2⟩, ⟨e1, e2⟩, ⟨k1, k2⟩, hr, ⟨m1, m2⟩, hd, ⟨b1, b2⟩, hb, hs, hz⟩ := id hc
  obtain ⟨hkE, hA2, hA3, hA4, hA5, hA6⟩ := id hag
  have K0 : i 30 = i 0 := hkE 0 (by omega)
  have K1 : i 31 = i 1 := hkE 1 (by omega)
  have K2 : i 32 = i 2 := hkE 2 (by omega)
  have K3 : i 33 = i 3 := hkE 3 (by omega)
  have R0 : a 54 0 = a 2 0 := hA2 0 (by omega) (by omega)
  have R1 : a 54 1 = a 2 1 := hA2 1 (by omega) (by omega)
  have R2 : a 54 2 = a 2 2 := hA2 2 (by omega) (by omega)
  have R3 : a 54 3 = a 2 3 := hA2 3 (by omega) (by omega)
  have R4 : a 54 4 = a 2 4 := hA2 4 (by omega) (by omega)
  have R5 : a 54 5 = a 2 5 := hA2 5 (by omega) (by omega)
  have R6 : a 54 6 = a 2 6 := hA2 6 (by omega) (by omega)
  by_cases c1 : 0 ≤ x ∧ x ≤ 999
  · obtain ⟨m, hm⟩ := nat_of k1
    have zb := zF_b (z := i 3) hz.1 hz.2
    have ob : ∀ r, 0 ≤ r → r < i 0 → -1000 ≤ a 8 r ∧ a 8 r ≤ 1000 := fun r z1 z2 => by have := (hr r z1 z2).2.2.2.2.2; omega
    have sw : ∀ d : Nat, -(a 2 0) < 2 * shF a (i 3) x d ∧ 2 * shF a (i 3) x d ≤ a 2 0 := fun d => wr_bd _ (by omega)
    -- the reference
    have mdl : ∀ f, (∀ r : Int, 0 ≤ r → r < i 0 → f r = shF a (i 3) x r.toNat) → ∀ e, e = woF f (i 0).toNat → s_6_shake [.inr (.inr 53), .inl x] (HH n xs w (dk_up a 8 f) (dk_up i 3 (zF (i 3) m))) (OPQ n xs N (some (.inl e))) := by
      intro f hf e he
      have key : ∀ d, d ≤ m → ∀ g, (∀ r : Int, 0 ≤ r → r < d → g r = shF a (i 3) x r.toNat) → (∀ r : Int, d ≤ r → g r = a 58 r) → dk_WP g_6_shake b_6_shake (OPQ n xs N (some (.inl e))) 2 [some (.inr (.inr 53)), some (.inl x), some (.inl d)] [] (HH n xs w (dk_up (dk_up a 8 f) 58 g) (dk_up (dk_up i 3 (zF (i 3) m)) 33 (zF (i 3) d))) := by
        refine lp_up ?_ ?_
        · intro g hg hg2
          have hI := Inv_out (Inv_z h (zb m).1 (zb m).2) (f := f) (g := g) (fun r z1 z2 => by rw [hf r z1 z2]; exact sw _) (fun r z1 z2 => by
            have z2 : r < i 0 := z2
            rw [hg r z1 (by omega), hf r z1 z2])
          have hF := Fr_rf hI
          have hc2 := hI.2.1
          have hag2 := hI.2.2.1
          have e30 : dk_up (dk_up i 3 (zF (i 3) m)) 33 (zF (i 3) m) 30 = i 30 := by rw [up_n (by decide), up_n (by decide)]
          have e0 : dk_up (dk_up i 3 (zF (i 3) m)) 33 (zF (i 3) m) 0 = i 0 := by rw [up_n (by decide), up_n (by decide)]
          rw [wb_6_shake_2]
          simp (disch := first | assumption | omega | exact zc_lo | exact zc_hi | exact zz_l | exact zz_u | exact zz_r) only [xa_58, xc_1 gc_6_shake_3, xc_1 gc_6_shake_4, xc_2 gc_6_shake_1, xc_2 gc_6_shake_2, xc_3 gc_6_shake_0, xl_aload0, xl_iinc2a, xl_iinc2i, xl_iinc2n, xl_iload1, xl_iload2, xl_istore2a, xl_istore2i, xl_istore2n, xm_f, xm_n, xm_t, xn_1, xn_3, xo_53_10, xo_53_3, xo_53_5, xq_53_10, xr_goto, xr_i2l, xr_iadd, xr_ic_ge, xr_iconst, xr_if_ne, xr_imul, xr_irem, xr_iret, xr_iushr, xr_ladd, xr_lsub, xs_58, xtl_n, xtl_s, xz_i, xz_l, xz_n, xz_r, wb_6_shake_0, wb_6_shake_1, wb_6_shake_3, zz_b, zz_bn, Classical.not_not, true_and, Nat.reduceAdd, Nat.reduceLeDiff, e30]
          refine ⟨fun _ => ?_, fun z => absurd (by omega) z⟩
          refine sp_mbeg hc2 hag2 hF (fun a3 hM3 hs3 => ?_)
          simp (disch := first | assumption | omega | exact zc_lo | exact zc_hi | exact zz_l | exact zz_u | exact zz_r) only [xa_58, xc_1 gc_6_shake_3, xc_1 gc_6_shake_4, xc_2 gc_6_shake_1, xc_2 gc_6_shake_2, xc_3 gc_6_shake_0, xl_aload0, xl_iinc2a, xl_iinc2i, xl_iinc2n, xl_iload1, xl_iload2, xl_istore2a, xl_istore2i, xl_istore2n, xm_f, xm_n, xm_t, xn_1, xn_3, xo_53_10, xo_53_3, xo_53_5, xq_53_10, xr_goto, xr_i2l, xr_iadd, xr_ic_ge, xr_iconst, xr_if_ne, xr_imul, xr_irem, xr_iret, xr_iushr, xr_ladd, xr_lsub, xs_58, xtl_n, xtl_s, xz_i, xz_l, xz_n, xz_r, wb_6_shake_0, wb_6_shake_1, wb_6_shake_3, zz_b, zz_bn, Classical.not_not, true_and, Nat.reduceAdd, Nat.reduceLeDiff]
          refine sp_mwst hc2 hag2 hM3 ?_
          simp (disch := first | assumption | omega | exact zc_lo | exact zc_hi | exact zz_l | exact zz_u | exact zz_r) only [xa_58, xc_1 gc_6_shake_3, xc_1 gc_6_shake_4, xc_2 gc_6_shake_1, xc_2 gc_6_shake_2, xc_3 gc_6_shake_0, xl_aload0, xl_iinc2a, xl_iinc2i, xl_iinc2n, xl_iload1, xl_iload2, xl_istore2a, xl_istore2i, xl_istore2n, xm_f, xm_n, xm_t, xn_1, xn_3, xo_53_10, xo_53_3, xo_53_5, xq_53_10, xr_goto, xr_i2l, xr_iadd, xr_ic_ge, xr_iconst, xr_if_ne, xr_imul, xr_irem, xr_iret, xr_iushr, xr_ladd, xr_lsub, xs_58, xtl_n, xtl_s, xz_i, xz_l, xz_n, xz_r, wb_6_shake_0, wb_6_shake_1, wb_6_shake_3, zz_b, zz_bn, Classical.not_not, true_and, Nat.reduceAdd, Nat.reduceLeDiff]
          have ew : wo (dk_up (dk_up a 8 f) 58 g) (dk_up (dk_up i 3 (zF (i 3) m)) 33 (zF (i 3) m)) 0 = e := by
            rw [he]
            unfold wo
            rw [e0]
            exact woF_o _ (fun r z1 z2 => rfl)
          have wb := wo_b hc2 0
          rw [ew] at wb ⊢
          exact OPQ_i (by omega) (by omega) (Inv_f hI hM3.1)
        · intro d hdm ih g hg hg2
          have e30 : dk_up (dk_up i 3 (zF (i 3) m)) 33 (zF (i 3) d) 30 = i 30 := by rw [up_n (by decide), up_n (by decide)]
          have e33 : ∀ y, dk_up (dk_up i 3 (zF (i 3) m)) 33 y 33 = y := fun y => up_s
          have e54 : dk_up (dk_up a 8 f) 58 g 54 = a 54 := by rw [up_n (by decide), up_n (by decide)]
          have e58 : dk_up (dk_up a 8 f) 58 g 58 = g := up_s
          have gd : g d = a 58 d := hg2 d (by omega)
          have ad : a 58 d = a 8 d := (hA3 d (by omega) (by omega)).2.2.2.2.2
          have bd := ob d (by omega) (by omega)
          have zd := sd_b (y := dk_nm (zF (i 3) d * 1103515245 + 12345)) c1
          obtain ⟨⟨zd1, zd2⟩, zd3, zd4⟩ := zd
          have P1 : 100 ≤ dk_up (dk_up a 8 f) 58 g 54 0 := by rw [e54, R0]; exact p1
          have P2 : dk_up (dk_up a 8 f) 58 g 54 0 ≤ 2000 := by rw [e54, R0]; exact p2
          rw [wb_6_shake_2]
          simp (disch := first | assumption | omega | exact zc_lo | exact zc_hi | exact zz_l | exact zz_u | exact zz_r) only [xa_58, xc_1 gc_6_shake_3, xc_1 gc_6_shake_4, xc_2 gc_6_shake_1, xc_2 gc_6_shake_2, xc_3 gc_6_shake_0, xl_aload0, xl_iinc2a, xl_iinc2i, xl_iinc2n, xl_iload1, xl_iload2, xl_istore2a, xl_istore2i, xl_istore2n, xm_f, xm_n, xm_t, xn_1, xn_3, xo_53_10, xo_53_3, xo_53_5, xq_53_10, xr_goto, xr_i2l, xr_iadd, xr_ic_ge, xr_iconst, xr_if_ne, xr_imul, xr_irem, xr_iret, xr_iushr, xr_ladd, xr_lsub, xs_58, xtl_n, xtl_s, xz_i, xz_l, xz_n, xz_r, wb_6_shake_0, wb_6_shake_1, wb_6_shake_3, zz_b, zz_bn, Classical.not_not, true_and, Nat.reduceAdd, Nat.reduceLeDiff, xq_53_10, e30, e33, e54, e58, up_up, gd, ad, sp_6_wrapped, R0]
          refine ⟨fun z => absurd z (by omega), fun _ => ?_⟩
          rw [cs d]
          have q := ih (dk_ui g d (shF a (i 3) x d)) (fun r z1 z2 => by
            by_cases e : r = d
            · subst e; rw [ui_s, show (d : Int).toNat = d by omega]
            · rw [ui_n e]; exact hg r z1 (by omega)) (fun r z => by rw [ui_n (by omega)]; exact hg2 r (by omega))
          exact q
      simp (disch := first | assumption | omega | exact zc_lo | exact zc_hi | exact zz_l | exact zz_u | exact zz_r) only [xa_58, xc_1 gc_6_shake_3, xc_1 gc_6_shake_4, xc_2 gc_6_shake_1, xc_2 gc_6_shake_2, xc_3 gc_6_shake_0, xl_aload0, xl_iinc2a, xl_iinc2i, xl_iinc2n, xl_iload1, xl_iload2, xl_istore2a, xl_istore2i, xl_istore2n, xm_f, xm_n, xm_t, xn_1, xn_3, xo_53_10, xo_53_3, xo_53_5, xq_53_10, xr_goto, xr_i2l, xr_iadd, xr_ic_ge, xr_iconst, xr_if_ne, xr_imul, xr_irem, xr_iret, xr_iushr, xr_ladd, xr_lsub, xs_58, xtl_n, xtl_s, xz_i, xz_l, xz_n, xz_r, wb_6_shake_0, wb_6_shake_1, wb_6_shake_3, ss_6_shake, zz_b, zz_bn, Classical.not_not, true_and, Nat.reduceAdd, Nat.reduceLeDiff, sp_6_in, c1, true_implies, false_implies, implies_true, not_true_eq_false, not_false_eq_true, and_true, false_and, and_false, if_true, if_false, Int.reduceEq, Int.reduceSub, Int.reduceAdd, Int.reduceMul, Int.reduceNeg, Int.reduceLT, Int.reduceLE, Int.add_zero]
      have q := key 0 (Nat.zero_le _) (a 58) (fun r z1 z2 => by omega) (fun _ _ => rfl)
      have e1 : dk_up (dk_up a 8 f) 58 (a 58) = dk_up a 8 f := by
        have : a 58 = dk_up a 8 f 58 := (up_n (by decide)).symm
        rw [this, up_id]
      have e2 : dk_up (dk_up i 3 (zF (i 3) m)) 33 (zF (i 3) 0) = dk_up i 3 (zF (i 3) m) := by
        have : zF (i 3) 0 = dk_up i 3 (zF (i 3) m) 33 := by rw [up_n (by decide), K3]; rfl
        rw [this, up_id]
      rw [e1, e2] at q
      exact q
    -- the class
    have key : ∀ d, d ≤ m → ∀ f, (∀ r : Int, 0 ≤ r → r < d → f r = shF a (i 3) x r.toNat) → (∀ r : Int, d ≤ r → f r = a 8 r) → dk_WP g_5_shake b_5_shake (fun r h => s_6_shake [.inr (.inr 53), .inl x] h (OPQ n xs N r)) 2 [some (.inr (.inr 0)), some (.inl x), some (.inl d)] [] (HH n xs w (dk_up a 8 f) (dk_up i 3 (zF (i 3) d))) := by
      refine lp_up ?_ ?_
      · intro f hf hf2
        have e0 : dk_up i 3 (zF (i 3) m) 0 = i 0 := up_n (by decide)
        rw [wb_5_shake_2]
        simp (disch := first | assumption | omega | exact zc_lo | exact zc_hi | exact zz_l | exact zz_u | exact zz_r) only [xa_8, xc_1 gc_5_shake_2, xc_2 gc_5_shake_1, xc_2 gc_5_shake_3, xc_2 gc_5_shake_4, xc_3 gc_5_shake_0, xl_aload0, xl_iinc2a, xl_iinc2i, xl_iinc2n, xl_iload1, xl_iload2, xl_istore2a, xl_istore2i, xl_istore2n, xm_f, xm_n, xm_t, xn_1, xn_3, xo_0_0, xo_1_1, xo_1_7, xr_goto, xr_iadd, xr_ic_ge, xr_iconst, xr_if_ne, xr_imul, xr_irem, xr_iret, xr_isub, xs_8, xtl_n, xtl_s, xz_i, xz_l, xz_n, xz_r, wb_5_shake_0, wb_5_shake_1, wb_5_shake_3, zz_b, zz_bn, Classical.not_not, true_and, Nat.reduceAdd, Nat.reduceLeDiff, e0]
        refine ⟨fun _ => ?_, fun z => absurd (by omega) z⟩
        refine sp_0_worstOf (q0 := 8) (by rw [e0]; exact ⟨k1, k2⟩) rfl (fun r z1 z2 => ?_) ?_
        · rw [e0] at z2
          rw [up_s, hf r z1 (by omega)]
          have := sw r.toNat
          omega
        · simp (disch := first | assumption | omega | exact zc_lo | exact zc_hi | exact zz_l | exact zz_u | exact zz_r) only [xa_8, xc_1 gc_5_shake_2, xc_2 gc_5_shake_1, xc_2 gc_5_shake_3, xc_2 gc_5_shake_4, xc_3 gc_5_shake_0, xl_aload0, xl_iinc2a, xl_iinc2i, xl_iinc2n, xl_iload1, xl_iload2, xl_istore2a, xl_istore2i, xl_istore2n, xm_f, xm_n, xm_t, xn_1, xn_3, xo_0_0, xo_1_1, xo_1_7, xr_goto, xr_iadd, xr_ic_ge, xr_iconst, xr_if_ne, xr_imul, xr_irem, xr_iret, xr_isub, xs_8, xtl_n, xtl_s, xz_i, xz_l, xz_n, xz_r, wb_5_shake_0, wb_5_shake_1, wb_5_shake_3, zz_b, zz_bn, Classical.not_not, true_and, Nat.reduceAdd, Nat.reduceLeDiff]
          refine mdl f (fun r z1 z2 => hf r z1 (by omega)) _ ?_
          rw [up_s, e0]
      · intro d hdm ih f hf hf2
        have e0 : dk_up i 3 (zF (i 3) d) 0 = i 0 := up_n (by decide)
        have e2 : dk_up a 8 f 2 = a 2 := up_n (by decide)
        have e8 : dk_up a 8 f 8 = f := up_s
        have fd : f d = a 8 d := hf2 d (by omega)
        have bd := ob d (by omega) (by omega)
        have zd := sd_b (y := dk_nm (zF (i 3) d * 1103515245 + 12345)) c1
        obtain ⟨⟨zd1, zd2⟩, zd3, zd4⟩ := zd
        have P1 : 100 ≤ dk_up a 8 f 2 0 := by rw [e2]; exact p1
        have P2 : dk_up a 8 f 2 0 ≤ 2000 := by rw [e2]; exact p2
        rw [wb_5_shake_2]
        simp (disch := first | assumption | omega | exact zc_lo | exact zc_hi | exact zz_l | exact zz_u | exact zz_r) only [xa_8, xc_1 gc_5_shake_2, xc_2 gc_5_shake_1, xc_2 gc_5_shake_3, xc_2 gc_5_shake_4, xc_3 gc_5_shake_0, xl_aload0, xl_iinc2a, xl_iinc2i, xl_iinc2n, xl_iload1, xl_iload2, xl_istore2a, xl_istore2i, xl_istore2n, xm_f, xm_n, xm_t, xn_1, xn_3, xo_0_0, xo_1_1, xo_1_7, xr_goto, xr_iadd, xr_ic_ge, xr_iconst, xr_if_ne, xr_imul, xr_irem, xr_iret, xr_isub, xs_8, xtl_n, xtl_s, xz_i, xz_l, xz_n, xz_r, wb_5_shake_0, wb_5_shake_1, wb_5_shake_3, zz_b, zz_bn, Classical.not_not, true_and, Nat.reduceAdd, Nat.reduceLeDiff, e0, e2, e8, fd, sp_0_draw, sp_0_wrap, up_up]
        refine ⟨fun z => absurd z (by omega), fun _ => ?_⟩
        rw [cs d]
        have q := ih (dk_ui f d (shF a (i 3) x d)) (fun r z1 z2 => by
          by_cases e : r = d
          · subst e; rw [ui_s, show (d : Int).toNat = d by omega]
          · rw [ui_n e]; exact hf r z1 (by omega)) (fun r z => by rw [ui_n (by omega)]; exact hf2 r (by omega))
        exact q
    simp (disch := first | assumption | omega | exact zc_lo | exact zc_hi | exact zz_l | exact zz_u | exact zz_r) only [xa_8, xc_1 gc_5_shake_2, xc_2 gc_5_shake_1, xc_2 gc_5_shake_3, xc_2 gc_5_shake_4, xc_3 gc_5_shake_0, xl_aload0, xl_iinc2a, xl_iinc2i, xl_iinc2n, xl_iload1, xl_iload2, xl_istore2a, xl_istore2i, xl_istore2n, xm_f, xm_n, xm_t, xn_1, xn_3, xo_0_0, xo_1_1, xo_1_7, xr_goto, xr_iadd, xr_ic_ge, xr_iconst, xr_if_ne, xr_imul, xr_irem, xr_iret, xr_isub, xs_8, xtl_n, xtl_s, xz_i, xz_l, xz_n, xz_r, wb_5_shake_0, wb_5_shake_1, wb_5_shake_3, ss_5_shake, zz_b, zz_bn, Classical.not_not, true_and, Nat.reduceAdd, Nat.reduceLeDiff, sp_5_isWithin, c1, true_implies, false_implies, implies_true, not_true_eq_false, not_false_eq_true, and_true, false_and, and_false, if_true, if_false, Int.reduceEq, Int.reduceSub, Int.reduceAdd, Int.reduceMul, Int.reduceNeg, Int.reduceLT, Int.reduceLE, Int.add_zero]
    have q := key 0 (Nat.zero_le _) (a 8) (fun r z1 z2 => by omega) (fun _ _ => rfl)
    rw [up_id, show zF (i 3) 0 = i 3 from rfl, up_id] at q
    exact q
  · simp (disch := first | assumption | omega | exact zc_lo | exact zc_hi | exact zz_l | exact zz_u | exact zz_r) only [xa_8, xc_1 gc_5_shake_2, xc_2 gc_5_shake_1, xc_2 gc_5_shake_3, xc_2 gc_5_shake_4, xc_3 gc_5_shake_0, xl_aload0, xl_iinc2a, xl_iinc2i, xl_iinc2n, xl_iload1, xl_iload2, xl_istore2a, xl_istore2i, xl_istore2n, xm_f, xm_n, xm_t, xn_1, xn_3, xo_0_0, xo_1_1, xo_1_7, xr_goto, xr_iadd, xr_ic_ge, xr_iconst, xr_if_ne, xr_imul, xr_irem, xr_iret, xr_isub, xs_8, xtl_n, xtl_s, xz_i, xz_l, xz_n, xz_r, wb_5_shake_0, wb_5_shake_1, wb_5_shake_3, ss_5_shake, xa_58, xc_1 gc_6_shake_3, xc_1 gc_6_shake_4, xc_2 gc_6_shake_1, xc_2 gc_6_shake_2, xc_3 gc_6_shake_0, xl_aload0, xl_iinc2a, xl_iinc2i, xl_iinc2n, xl_iload1, xl_iload2, xl_istore2a, xl_istore2i, xl_istore2n, xm_f, xm_n, xm_t, xn_1, xn_3, xo_53_10, xo_53_3, xo_53_5, xq_53_10, xr_goto, xr_i2l, xr_iadd, xr_ic_ge, xr_iconst, xr_if_ne, xr_imul, xr_irem, xr_iret, xr_iushr, xr_ladd, xr_lsub, xs_58, xtl_n, xtl_s, xz_i, xz_l, xz_n, xz_r, wb_6_shake_0, wb_6_shake_1, wb_6_shake_3, ss_6_shake, zz_b, zz_bn, Classical.not_not, true_and, Nat.reduceAdd, Nat.reduceLeDiff, sp_5_isWithin, sp_6_in, sp_5_finding, sp_6_finds, c1, true_implies, false_implies, implies_true, not_true_eq_false, not_false_eq_true, and_true, false_and, and_false, if_true, if_false, Int.reduceEq, Int.reduceSub, Int.reduceAdd, Int.reduceMul, Int.reduceNeg, Int.reduceLT, Int.reduceLE, Int.add_zero]
    exact fnd h 0 (by omega) (by omega)
theorem dk_and_255 (y : Int) : dk_and y 255 = y % 256 := by
  have e1 : (Int32.ofInt y &&& Int32.ofInt 255).toBitVec = BitVec.ofInt 32 y &&& BitVec.ofInt 32 255 := rfl
  have e2 : (BitVec.ofInt 32 y &&& BitVec.ofInt 32 255).toNat = (y % 4294967296).toNat % 256 := by
    rw [BitVec.toNat_and, BitVec.toNat_ofInt, show (BitVec.ofInt 32 255).toNat = 2 ^ 8 - 1 from rfl, Nat.and_two_pow_sub_one_eq_mod]
    rfl
  have e3 : dk_and y 255 = (BitVec.ofInt 32 y &&& BitVec.ofInt 32 255).toInt := rfl
  rw [e3, BitVec.toInt_eq_toNat_of_lt (by rw [e2]; omega), e2]
  omega
/-- a byte of a number -/
def byF (x k : Int) : Int := x / 2 ^ (8 * k).toNat % 256
theorem byF_c {x k : Int} (h0 : 0 ≤ k) (h1 : k ≤ 3) : dk_and (x % 4294967296 / 2 ^ (8 * k).toNat) 255 = byF x k := by
  rw [dk_and_255]
  unfold byF
  rcases (show k = 0 ∨ k = 1 ∨ k = 2 ∨ k = 3 by omega) with rfl | rfl | rfl | rfl
  · show x % 4294967296 / 1 % 256 = x / 1 % 256
    omega
  · show x % 4294967296 / 256 % 256 = x / 256 % 256
    omega
  · show x % 4294967296 / 65536 % 256 = x / 65536 % 256
    omega
  · show x % 4294967296 / 16777216 % 256 = x / 16777216 % 256
    omega
theorem byF_m {x k : Int} : dk_and (x / 2 ^ (8 * k).toNat) 255 = byF x k := dk_and_255 _
/-- the tape behind c bytes of m -/
def tpF (f : Int → Int) (x L : Int) (m c : Nat) : Int → Int := fun j => if L ≤ j ∧ j < L + c then byF x ((m : Int) - 1 - (j - L)) else f j
theorem tpF_0 {f : Int → Int} {x L : Int} {m : Nat} : tpF f x L m 0 = f := by
  funext j
  unfold tpF
  rw [if_neg (by omega)]
theorem tpF_1 {f : Int → Int} {x L : Int} {m c : Nat} : dk_ui (tpF f x L m c) (L + c) (byF x ((m : Int) - 1 - c)) = tpF f x L m (c + 1) := by
  funext j
  by_cases e : j = L + c
  · subst e
    rw [ui_s]
    unfold tpF
    rw [if_pos (by omega)]
    congr 1
    omega
  · rw [ui_n e]
    unfold tpF
    by_cases z : L ≤ j ∧ j < L + c
    · rw [if_pos z, if_pos (by omega)]
    · rw [if_neg z, if_neg (by omega)]
theorem op_feed (h : Inv N w a i) {x y : Int} (x1 : -2147483648 ≤ x) (x2 : x ≤ 2147483647) (y1 : -2147483648 ≤ y) (y2 : y ≤ 2147483647) : s_5_feed [.inr (.inr 0), .inl x, .inl y] (HH n xs w a i) (fun r h => s_6_feed [.inr (.inr 53), .inl x, .inl y] h (OPQ n xs N r)) := by
  have hf := fi_ok h
  have hI := h
  obtain ⟨g1, g2, g3, g4, ⟨⟨g5, g5a⟩, g5b, g5c⟩, g6, -, g8⟩ := h
  by_cases c1 : 1 ≤ y ∧ y ≤ 4
  · by_cases c2 : i 9 ≤ 120 - y
    · obtain ⟨m, rfl⟩ := nat_of (show 0 ≤ y by omega)
      have mdl : s_6_feed [.inr (.inr 53), .inl x, .inl m] (HH n xs w (dk_up a 28 (tpF (a 28) x (i 9) m m)) (dk_up i 9 (i 9 + m))) (OPQ n xs N (some (.inl (i 9 + m)))) := by
        have key : ∀ c, c ≤ m → ∀ l2, dk_WP g_6_feed b_6_feed (OPQ n xs N (some (.inl (i 9 + m)))) 3 [some (.inr (.inr 53)), some (.inl x), l2, some (.inl ((m : Int) - 1 - c))] [] (HH n xs w (dk_up (dk_up a 28 (tpF (a 28) x (i 9) m m)) 63 (tpF (a 63) x (i 9) m c)) (dk_up (dk_up i 9 (i 9 + m)) 34 (i 9 + c))) := by
          refine lp_up ?_ ?_
          · intro l2
            have e34 : dk_up (dk_up i 9 (i 9 + m)) 34 (i 9 + m) 34 = i 9 + m := up_s
            rw [wb_6_feed_3]
            simp (disch := first | assumption | omega | exact zc_lo | exact zc_hi | exact zz_l | exact zz_u | exact zz_r) only [xc_2 gc_6_feed_1, xc_3 gc_6_feed_0, xl_aload0, xl_iinc3a, xl_iinc3i, xl_iinc3n, xl_iload1, xl_iload2, xl_iload3, xl_istore3a, xl_istore3i, xl_istore3n, xm_f, xm_n, xm_t, xn_1, xn_2, xn_4, xo_53_13, xo_53_14, xp_53_14, xr_dupi, xr_dupr, xr_goto, xr_iadd, xr_iand, xr_ic_le, xr_iconst, xr_if_lt, xr_if_ne, xr_imul, xr_iret, xr_ishr, xr_isub, xs_63, xtl_n, xtl_s, xz_i, xz_l, xz_n, xz_r, wb_6_feed_0, wb_6_feed_1, wb_6_feed_2, wb_6_feed_4, zz_b, zz_bn, Classical.not_not, true_and, Nat.reduceAdd, Nat.reduceLeDiff, e34]
            refine ⟨fun _ => ?_, fun z => absurd (by omega) z⟩
            refine OPQ_i (by omega) (by omega) ?_
            refine ⟨g1, g2, agr_I g3 (fun j hj => by rw [up_n (by omega), up_n (by omega)]) (fun j hj => by rw [up_n (by omega), up_n (by omega)]), g4, ⟨?_, ?_, fun j z1 z2 => ?_⟩, g6, hf, g8⟩
            · rw [up_n (by decide), up_s]; omega
            · rw [up_s, up_n (by decide), up_s]
            · rw [up_n (by decide), up_s] at z2
              rw [up_n (show ¬ 28 = 63 by decide), up_s, up_s]
              unfold tpF
              by_cases z : i 9 ≤ j ∧ j < i 9 + m
              · rw [if_pos z, if_pos z]
                unfold byF
                exact ⟨by omega, rfl⟩
              · rw [if_neg z, if_neg z]
                exact g5c j z1 (by omega)
          · intro c hcm ih l2
            have e34 : ∀ y, dk_up (dk_up i 9 (i 9 + m)) 34 y 34 = y := fun y => up_s
            have e63 : ∀ f, dk_up (dk_up a 28 (tpF (a 28) x (i 9) m m)) 63 f 63 = f := fun y => up_s
            rw [wb_6_feed_3]
            simp (disch := first | assumption | omega | exact zc_lo | exact zc_hi | exact zz_l | exact zz_u | exact zz_r) only [xc_2 gc_6_feed_1, xc_3 gc_6_feed_0, xl_aload0, xl_iinc3a, xl_iinc3i, xl_iinc3n, xl_iload1, xl_iload2, xl_iload3, xl_istore3a, xl_istore3i, xl_istore3n, xm_f, xm_n, xm_t, xn_1, xn_2, xn_4, xo_53_13, xo_53_14, xp_53_14, xr_dupi, xr_dupr, xr_goto, xr_iadd, xr_iand, xr_ic_le, xr_iconst, xr_if_lt, xr_if_ne, xr_imul, xr_iret, xr_ishr, xr_isub, xs_63, xtl_n, xtl_s, xz_i, xz_l, xz_n, xz_r, wb_6_feed_0, wb_6_feed_1, wb_6_feed_2, wb_6_feed_4, zz_b, zz_bn, Classical.not_not, true_and, Nat.reduceAdd, Nat.reduceLeDiff, e34, e63, byF_m, up_up, tpF_1]
            refine ⟨fun z => absurd z (by omega), fun _ => ?_⟩
            have q := fun l2 => ih l2
            rw [show ((m : Int) - 1 - ((c + 1 : Nat) : Int)) = (m : Int) - 1 - c + -1 by omega, show i 9 + ((c + 1 : Nat) : Int) = i 9 + c + 1 by omega] at q
            exact q _
        have c3 : i 9 + m ≤ 120 := by omega
        have e34 : dk_up i 9 (i 9 + m) 34 = i 9 := by rw [up_n (by decide)]; exact g5b
        simp (disch := first | assumption | omega | exact zc_lo | exact zc_hi | exact zz_l | exact zz_u | exact zz_r) only [xc_2 gc_6_feed_1, xc_3 gc_6_feed_0, xl_aload0, xl_iinc3a, xl_iinc3i, xl_iinc3n, xl_iload1, xl_iload2, xl_iload3, xl_istore3a, xl_istore3i, xl_istore3n, xm_f, xm_n, xm_t, xn_1, xn_2, xn_4, xo_53_13, xo_53_14, xp_53_14, xr_dupi, xr_dupr, xr_goto, xr_iadd, xr_iand, xr_ic_le, xr_iconst, xr_if_lt, xr_if_ne, xr_imul, xr_iret, xr_ishr, xr_isub, xs_63, xtl_n, xtl_s, xz_i, xz_l, xz_n, xz_r, wb_6_feed_0, wb_6_feed_1, wb_6_feed_2, wb_6_feed_4, ss_6_feed, zz_b, zz_bn, Classical.not_not, true_and, Nat.reduceAdd, Nat.reduceLeDiff, sp_6_in, c1, c3, e34, true_implies, false_implies, implies_true, not_true_eq_false, not_false_eq_true, and_true, false_and, and_false, if_true, if_false, Int.reduceEq, Int.reduceSub, Int.reduceAdd, Int.reduceMul, Int.reduceNeg, Int.reduceLT, Int.reduceLE, Int.add_zero]
        have q := fun l2 => key 0 (Nat.zero_le _) l2
        have e1 : dk_up (dk_up a 28 (tpF (a 28) x (i 9) m m)) 63 (tpF (a 63) x (i 9) m 0) = dk_up a 28 (tpF (a 28) x (i 9) m m) := by
          rw [tpF_0]
          have : a 63 = dk_up a 28 (tpF (a 28) x (i 9) m m) 63 := (up_n (by decide)).symm
          rw [this, up_id]
        have e2 : dk_up (dk_up i 9 (i 9 + m)) 34 (i 9 + ((0 : Nat) : Int)) = dk_up i 9 (i 9 + m) := by
          have : i 9 + ((0 : Nat) : Int) = dk_up i 9 (i 9 + m) 34 := by rw [e34]; omega
          rw [this, up_id]
        rw [e1, e2, show ((m : Int) - 1 - ((0 : Nat) : Int)) = (m : Int) - 1 by omega] at q
        exact q _
      have key : ∀ c, c ≤ m → ∀ l2, dk_WP g_5_feed b_5_feed (fun r h => s_6_feed [.inr (.inr 53), .inl x, .inl m] h (OPQ n xs N r)) 3 [some (.inr (.inr 0)), some (.inl x), l2, some (.inl ((m : Int) - 1 - c))] [] (HH n xs w (dk_up a 28 (tpF (a 28) x (i 9) m c)) (dk_up i 9 (i 9 + c))) := by
        refine lp_up ?_ ?_
        · intro l2
          have e9 : dk_up i 9 (i 9 + m) 9 = i 9 + m := up_s
          rw [wb_5_feed_3]
          simp (disch := first | assumption | omega | exact zc_lo | exact zc_hi | exact zz_l | exact zz_u | exact zz_r) only [xc_2 gc_5_feed_1, xc_3 gc_5_feed_0, xl_aload0, xl_iinc3a, xl_iinc3i, xl_iinc3n, xl_iload1, xl_iload2, xl_iload3, xl_istore3a, xl_istore3i, xl_istore3n, xm_f, xm_n, xm_t, xn_1, xn_2, xn_4, xo_0_3, xo_27_0, xo_27_1, xp_27_1, xr_dupi, xr_dupr, xr_goto, xr_iadd, xr_iand, xr_ic_le, xr_iconst, xr_if_lt, xr_if_ne, xr_imul, xr_iret, xr_isub, xr_iushr, xs_28, xtl_n, xtl_s, xz_i, xz_l, xz_n, xz_r, wb_5_feed_0, wb_5_feed_1, wb_5_feed_2, wb_5_feed_4, zz_b, zz_bn, Classical.not_not, true_and, Nat.reduceAdd, Nat.reduceLeDiff, e9]
          exact ⟨fun _ => mdl, fun z => absurd (by omega) z⟩
        · intro c hcm ih l2
          have e9 : ∀ y, dk_up i 9 y 9 = y := fun y => up_s
          have e28 : ∀ f, dk_up a 28 f 28 = f := fun y => up_s
          have k0 : 0 ≤ (m : Int) - 1 - c := by omega
          have k3 : (m : Int) - 1 - c ≤ 3 := by omega
          rw [wb_5_feed_3]
          simp (disch := first | assumption | omega | exact zc_lo | exact zc_hi | exact zz_l | exact zz_u | exact zz_r) only [xc_2 gc_5_feed_1, xc_3 gc_5_feed_0, xl_aload0, xl_iinc3a, xl_iinc3i, xl_iinc3n, xl_iload1, xl_iload2, xl_iload3, xl_istore3a, xl_istore3i, xl_istore3n, xm_f, xm_n, xm_t, xn_1, xn_2, xn_4, xo_0_3, xo_27_0, xo_27_1, xp_27_1, xr_dupi, xr_dupr, xr_goto, xr_iadd, xr_iand, xr_ic_le, xr_iconst, xr_if_lt, xr_if_ne, xr_imul, xr_iret, xr_isub, xr_iushr, xs_28, xtl_n, xtl_s, xz_i, xz_l, xz_n, xz_r, wb_5_feed_0, wb_5_feed_1, wb_5_feed_2, wb_5_feed_4, zz_b, zz_bn, Classical.not_not, true_and, Nat.reduceAdd, Nat.reduceLeDiff, e9, e28, byF_c k0 k3, up_up, tpF_1]
          refine ⟨fun z => absurd z (by omega), fun _ => ?_⟩
          have q := fun l2 => ih l2
          rw [show ((m : Int) - 1 - ((c + 1 : Nat) : Int)) = (m : Int) - 1 - c + -1 by omega, show i 9 + ((c + 1 : Nat) : Int) = i 9 + c + 1 by omega] at q
          exact q _
      simp (disch := first | assumption | omega | exact zc_lo | exact zc_hi | exact zz_l | exact zz_u | exact zz_r) only [xc_2 gc_5_feed_1, xc_3 gc_5_feed_0, xl_aload0, xl_iinc3a, xl_iinc3i, xl_iinc3n, xl_iload1, xl_iload2, xl_iload3, xl_istore3a, xl_istore3i, xl_istore3n, xm_f, xm_n, xm_t, xn_1, xn_2, xn_4, xo_0_3, xo_27_0, xo_27_1, xp_27_1, xr_dupi, xr_dupr, xr_goto, xr_iadd, xr_iand, xr_ic_le, xr_iconst, xr_if_lt, xr_if_ne, xr_imul, xr_iret, xr_isub, xr_iushr, xs_28, xtl_n, xtl_s, xz_i, xz_l, xz_n, xz_r, wb_5_feed_0, wb_5_feed_1, wb_5_feed_2, wb_5_feed_4, ss_5_feed, zz_b, zz_bn, Classical.not_not, true_and, Nat.reduceAdd, Nat.reduceLeDiff, sp_5_isWithin, c1, c2, true_implies, false_implies, implies_true, not_true_eq_false, not_false_eq_true, and_true, false_and, and_false, if_true, if_false, Int.reduceEq, Int.reduceSub, Int.reduceAdd, Int.reduceMul, Int.reduceNeg, Int.reduceLT, Int.reduceLE, Int.add_zero]
      have q := fun l2 => key 0 (Nat.zero_le _) l2
      rw [tpF_0, up_id, show i 9 + ((0 : Nat) : Int) = i 9 by omega, up_id, show ((m : Int) - 1 - ((0 : Nat) : Int)) = (m : Int) - 1 by omega] at q
      exact q _
    · have c3 : ¬ i 9 + y ≤ 120 := by omega
      simp (disch := first | assumption | omega | exact zc_lo | exact zc_hi | exact zz_l | exact zz_u | exact zz_r) only [xc_2 gc_5_feed_1, xc_3 gc_5_feed_0, xl_aload0, xl_iinc3a, xl_iinc3i, xl_iinc3n, xl_iload1, xl_iload2, xl_iload3, xl_istore3a, xl_istore3i, xl_istore3n, xm_f, xm_n, xm_t, xn_1, xn_2, xn_4, xo_0_3, xo_27_0, xo_27_1, xp_27_1, xr_dupi, xr_dupr, xr_goto, xr_iadd, xr_iand, xr_ic_le, xr_iconst, xr_if_lt, xr_if_ne, xr_imul, xr_iret, xr_isub, xr_iushr, xs_28, xtl_n, xtl_s, xz_i, xz_l, xz_n, xz_r, wb_5_feed_0, wb_5_feed_1, wb_5_feed_2, wb_5_feed_4, ss_5_feed, xc_2 gc_6_feed_1, xc_3 gc_6_feed_0, xl_aload0, xl_iinc3a, xl_iinc3i, xl_iinc3n, xl_iload1, xl_iload2, xl_iload3, xl_istore3a, xl_istore3i, xl_istore3n, xm_f, xm_n, xm_t, xn_1, xn_2, xn_4, xo_53_13, xo_53_14, xp_53_14, xr_dupi, xr_dupr, xr_goto, xr_iadd, xr_iand, xr_ic_le, xr_iconst, xr_if_lt, xr_if_ne, xr_imul, xr_iret, xr_ishr, xr_isub, xs_63, xtl_n, xtl_s, xz_i, xz_l, xz_n, xz_r, wb_6_feed_0, wb_6_feed_1, wb_6_feed_2, wb_6_feed_4, ss_6_feed, zz_b, zz_bn, Classical.not_not, true_and, Nat.reduceAdd, Nat.reduceLeDiff, sp_5_isWithin, sp_6_in, sp_5_finding, sp_6_finds, c1, c2, c3, g5b, true_implies, false_implies, implies_true, not_true_eq_false, not_false_eq_true, and_true, false_and, and_false, if_true, if_false, Int.reduceEq, Int.reduceSub, Int.reduceAdd, Int.reduceMul, Int.reduceNeg, Int.reduceLT, Int.reduceLE, Int.add_zero]
      exact fnd hI 1 (by omega) (by omega)
  · simp (disch := first | assumption | omega | exact zc_lo | exact zc_hi | exact zz_l | exact zz_u | exact zz_r) only [xc_2 gc_5_feed_1, xc_3 gc_5_feed_0, xl_aload0, xl_iinc3a, xl_iinc3i, xl_iinc3n, xl_iload1, xl_iload2, xl_iload3, xl_istore3a, xl_istore3i, xl_istore3n, xm_f, xm_n, xm_t, xn_1, xn_2, xn_4, xo_0_3, xo_27_0, xo_27_1, xp_27_1, xr_dupi, xr_dupr, xr_goto, xr_iadd, xr_iand, xr_ic_le, xr_iconst, xr_if_lt, xr_if_ne, xr_imul, xr_iret, xr_isub, xr_iushr, xs_28, xtl_n, xtl_s, xz_i, xz_l, xz_n, xz_r, wb_5_feed_0, wb_5_feed_1, wb_5_feed_2, wb_5_feed_4, ss_5_feed, xc_2 gc_6_feed_1, xc_3 gc_6_feed_0, xl_aload0, xl_iinc3a, xl_iinc3i, xl_iinc3n, xl_iload1, xl_iload2, xl_iload3, xl_istore3a, xl_istore3i, xl_istore3n, xm_f, xm_n, xm_t, xn_1, xn_2, xn_4, xo_53_13, xo_53_14, xp_53_14, xr_dupi, xr_dupr, xr_goto, xr_iadd, xr_iand, xr_ic_le, xr_iconst, xr_if_lt, xr_if_ne, xr_imul, xr_iret, xr_ishr, xr_isub, xs_63, xtl_n, xtl_s, xz_i, xz_l, xz_n, xz_r, wb_6_feed_0, wb_6_feed_1, wb_6_feed_2, wb_6_feed_4, ss_6_feed, zz_b, zz_bn, Classical.not_not, true_and, Nat.reduceAdd, Nat.reduceLeDiff, sp_5_isWithin, sp_6_in, sp_5_finding, sp_6_finds, c1, true_implies, false_implies, implies_true, not_true_eq_false, not_false_eq_true, and_true, false_and, and_false, if_true, if_false, Int.reduceEq, Int.reduceSub, Int.reduceAdd, Int.reduceMul, Int.reduceNeg, Int.reduceLT, Int.reduceLE, Int.add_zero]
    exact fnd hI 0 (by omega) (by omega)
end OY1
