/-! CALLS OF BOTH: kinds, changes, counts -/
section OPB
variable {N : Int} {n : Nat} {xs : Int → Int} {w : Nat → Nat} {a : Nat → Int → Int} {i : Nat → Int} {Q : dk_Q}
theorem fnd (h : Inv N w a i) (k : Int) (h1 : 0 ≤ k) (h2 : k < 7) : OPQ n xs N (some (.inl (-1000001 - k))) (some (.inl (-1000001 - k))) (HH n xs w (dk_up (dk_up a 52 (dk_ui (a 52) k (a 52 k + 1))) 62 (dk_ui (dk_up a 52 (dk_ui (a 52) k (a 52 k + 1)) 62) k (dk_up a 52 (dk_ui (a 52) k (a 52 k + 1)) 62 k + 1))) i) := OPQ_i (by omega) (by omega) (Inv_fi h h1 h2)
/-- a kind is one, or under one -/
def unP (k u : Int) : Prop := u = 0 ∨ u = k ∨ (u = 1 ∧ k = 4) ∨ (u = 2 ∧ k = 3) ∨ (u = 5 ∧ k = 6)
theorem hh_un0 : hh_un 0 = -1 ∧ hh_un 1 = 0 ∧ hh_un 2 = 0 ∧ hh_un 3 = 2 ∧ hh_un 4 = 1 ∧ hh_un 5 = 0 ∧ hh_un 6 = 5 := by decide
theorem sp_5_isUnder {k u : Int} (h1 : 0 ≤ k) (h2 : k ≤ 6) (h3 : 0 ≤ u) (h4 : u ≤ 6) : (unP k u → Q (some (.inl 1)) (HH n xs w a i)) → (¬ unP k u → Q (some (.inl 0)) (HH n xs w a i)) → s_5_isUnder [.inl k, .inl u] (HH n xs w a i) Q := by
  intro q1 q0
  obtain ⟨u0, u1, u2, u3, u4, u5, u6⟩ := hh_un0
  simp (disch := first | assumption | omega | exact zc_lo | exact zc_hi | exact zz_l | exact zz_u | exact zz_r) only [xa_103, xc_3 gc_5_isUnder_0, xl_iinc3a, xl_iinc3i, xl_iinc3n, xl_iload0, xl_iload1, xl_iload2, xl_iload3, xl_istore2a, xl_istore2i, xl_istore2n, xl_istore3a, xl_istore3i, xl_istore3n, xm_f, xm_n, xm_t, xn_2, xn_3, xr_goto, xr_ic_ge, xr_ic_ne, xr_iconst, xr_if_eq, xr_ref, xr_zret, xtl_n, xtl_s, xz_i, xz_l, xz_n, xz_r, wb_5_isUnder_0, wb_5_isUnder_2, wb_5_isUnder_3, ss_5_isUnder, zz_b, zz_bn, Classical.not_not, true_and, Nat.reduceAdd, Nat.reduceLeDiff]
  have neg : ∀ d : Int, 0 ≤ d → d ≤ 7 → ¬ unP k u → dk_WP g_5_isUnder b_5_isUnder Q 1 [none, some (.inl u), some (.inl (-1)), some (.inl d)] [] (HH n xs w a i) := by
    intro d d0 d7 hn
    rw [wb_5_isUnder_1]
    simp (disch := first | assumption | omega | exact zc_lo | exact zc_hi | exact zz_l | exact zz_u | exact zz_r) only [xa_103, xc_3 gc_5_isUnder_0, xl_iinc3a, xl_iinc3i, xl_iinc3n, xl_iload0, xl_iload1, xl_iload2, xl_iload3, xl_istore2a, xl_istore2i, xl_istore2n, xl_istore3a, xl_istore3i, xl_istore3n, xm_f, xm_n, xm_t, xn_2, xn_3, xr_goto, xr_ic_ge, xr_ic_ne, xr_iconst, xr_if_eq, xr_ref, xr_zret, xtl_n, xtl_s, xz_i, xz_l, xz_n, xz_r, wb_5_isUnder_0, wb_5_isUnder_2, wb_5_isUnder_3, zz_b, zz_bn, Classical.not_not, true_and, Nat.reduceAdd, Nat.reduceLeDiff, sp_5_isWithin]
    exact ⟨fun _ => q0 hn, fun _ => ⟨fun _ => q0 hn, fun z => absurd z (by omega)⟩⟩
  have st : ∀ (l0 : Option dk_V) (k d : Int), 0 ≤ k → k ≤ 6 → 0 ≤ d → d < 7 → (k = u → Q (some (.inl 1)) (HH n xs w a i)) → (¬ k = u → dk_WP g_5_isUnder b_5_isUnder Q 1 [none, some (.inl u), some (.inl (hh_un k)), some (.inl (d + 1))] [] (HH n xs w a i)) → dk_WP g_5_isUnder b_5_isUnder Q 1 [l0, some (.inl u), some (.inl k), some (.inl d)] [] (HH n xs w a i) := by
    intro l0 k d k0 k6 d0 d7 hq hn
    rw [wb_5_isUnder_1]
    simp (disch := first | assumption | omega | exact zc_lo | exact zc_hi | exact zz_l | exact zz_u | exact zz_r) only [xa_103, xc_3 gc_5_isUnder_0, xl_iinc3a, xl_iinc3i, xl_iinc3n, xl_iload0, xl_iload1, xl_iload2, xl_iload3, xl_istore2a, xl_istore2i, xl_istore2n, xl_istore3a, xl_istore3i, xl_istore3n, xm_f, xm_n, xm_t, xn_2, xn_3, xr_goto, xr_ic_ge, xr_ic_ne, xr_iconst, xr_if_eq, xr_ref, xr_zret, xtl_n, xtl_s, xz_i, xz_l, xz_n, xz_r, wb_5_isUnder_0, wb_5_isUnder_2, wb_5_isUnder_3, zz_b, zz_bn, Classical.not_not, true_and, Nat.reduceAdd, Nat.reduceLeDiff, sp_5_isWithin]
    exact ⟨fun z => absurd z (by omega), fun _ => ⟨fun z => absurd ⟨k0, k6⟩ z, fun _ => ⟨fun z => hn z, fun z => hq z⟩⟩⟩
  rcases (show k = 0 ∨ k = 1 ∨ k = 2 ∨ k = 3 ∨ k = 4 ∨ k = 5 ∨ k = 6 by omega) with rfl | rfl | rfl | rfl | rfl | rfl | rfl
  · exact st _ 0 0 (by omega) (by omega) (by omega) (by omega) (fun e => q1 (by unfold unP; omega)) (fun e0 => by rw [u0]; exact neg 1 (by omega) (by omega) (by unfold unP; omega))
  · exact st _ 1 0 (by omega) (by omega) (by omega) (by omega) (fun e => q1 (by unfold unP; omega)) (fun e0 => by rw [u1]; exact st _ 0 1 (by omega) (by omega) (by omega) (by omega) (fun e => q1 (by unfold unP; omega)) (fun e1 => by rw [u0]; exact neg 2 (by omega) (by omega) (by unfold unP; omega)))
  · exact st _ 2 0 (by omega) (by omega) (by omega) (by omega) (fun e => q1 (by unfold unP; omega)) (fun e0 => by rw [u2]; exact st _ 0 1 (by omega) (by omega) (by omega) (by omega) (fun e => q1 (by unfold unP; omega)) (fun e1 => by rw [u0]; exact neg 2 (by omega) (by omega) (by unfold unP; omega)))
  · exact st _ 3 0 (by omega) (by omega) (by omega) (by omega) (fun e => q1 (by unfold unP; omega)) (fun e0 => by rw [u3]; exact st _ 2 1 (by omega) (by omega) (by omega) (by omega) (fun e => q1 (by unfold unP; omega)) (fun e1 => by rw [u2]; exact st _ 0 2 (by omega) (by omega) (by omega) (by omega) (fun e => q1 (by unfold unP; omega)) (fun e2 => by rw [u0]; exact neg 3 (by omega) (by omega) (by unfold unP; omega))))
  · exact st _ 4 0 (by omega) (by omega) (by omega) (by omega) (fun e => q1 (by unfold unP; omega)) (fun e0 => by rw [u4]; exact st _ 1 1 (by omega) (by omega) (by omega) (by omega) (fun e => q1 (by unfold unP; omega)) (fun e1 => by rw [u1]; exact st _ 0 2 (by omega) (by omega) (by omega) (by omega) (fun e => q1 (by unfold unP; omega)) (fun e2 => by rw [u0]; exact neg 3 (by omega) (by omega) (by unfold unP; omega))))
  · exact st _ 5 0 (by omega) (by omega) (by omega) (by omega) (fun e => q1 (by unfold unP; omega)) (fun e0 => by rw [u5]; exact st _ 0 1 (by omega) (by omega) (by omega) (by omega) (fun e => q1 (by unfold unP; omega)) (fun e1 => by rw [u0]; exact neg 2 (by omega) (by omega) (by unfold unP; omega)))
  · exact st _ 6 0 (by omega) (by omega) (by omega) (by omega) (fun e => q1 (by unfold unP; omega)) (fun e0 => by rw [u6]; exact st _ 5 1 (by omega) (by omega) (by omega) (by omega) (fun e => q1 (by unfold unP; omega)) (fun e1 => by rw [u5]; exact st _ 0 2 (by omega) (by omega) (by omega) (by omega) (fun e => q1 (by unfold unP; omega)) (fun e2 => by rw [u0]; exact neg 3 (by omega) (by omega) (by unfold unP; omega))))
theorem op_as (h : Inv N w a i) {x y : Int} (x1 : -2147483648 ≤ x) (x2 : x ≤ 2147483647) (y1 : -2147483648 ≤ y) (y2 : y ≤ 2147483647) : s_5_as [.inr (.inr 0), .inl x, .inl y] (HH n xs w a i) (fun r h => s_6_as [.inr (.inr 53), .inl x, .inl y] h (OPQ n xs N r)) := by
  have hc := h.2.1
  have hag := h.2.2.1
  have hmc := colN_A hag hc
  obtain ⟨⟨p1, p2⟩, ⟨s1, s2⟩, ⟨v1, v2⟩, ⟨n1, n2⟩, ⟨o1, o2⟩, ⟨d1, d2⟩, ⟨e1, e2⟩, ⟨k1, k2⟩, hr, ⟨m1, m2⟩, hd, ⟨b1, b2⟩, hb, hs, hz⟩ := id hc
  obtain ⟨hkE, hA2, hA3, hA4, hA5, hA6⟩ := id hag
  have K0 : i 30 = i 0 := hkE 0 (by omega)
  have K1 : i 31 = i 1 := hkE 1 (by omega)
  have K2 : i 32 = i 2 := hkE 2 (by omega)
  have K3 : i 33 = i 3 := hkE 3 (by omega)
  have R0 : a 54 0 = a 2 0 := hA2 0 (by omega) (by omega)
  have R1 : a 54 1 = a 2 1 := hA2 1 (by omega) (by omega)
  have R2 : a 54 2 = a 2 2 := hA2 2 (by omega) (by omega)
  have R3 : a 54 3 = a 2 3 := hA2 3 (by omega) (by omega)
  have R4 : a 54 4 = a 2 4 := hA2 4 (by omega) (by omega)
  have R5 : a 54 5 = a 2 5 := hA2 5 (by omega) (by omega)
  have R6 : a 54 6 = a 2 6 := hA2 6 (by omega) (by omega)
  by_cases c1 : 0 ≤ x ∧ x ≤ 9
  · by_cases c2 : 0 ≤ y ∧ y ≤ 6
    · have q := hs x c1.1 (by omega)
      have e61 : a 61 x = a 13 x := hA6 x c1.1 (by omega)
      by_cases c3 : 0 ≤ a 13 x ∧ a 13 x < i 0
      · obtain ⟨⟨t1, t2⟩, -⟩ := hr (a 13 x) c3.1 c3.2
        have e3 : a 57 (5 * a 13 x + 0) = a 3 (a 13 x) := (hA3 (a 13 x) c3.1 c3.2).1
        simp only [Int.add_zero] at e3
        simp (disch := first | assumption | omega | exact zc_lo | exact zc_hi | exact zz_l | exact zz_u | exact zz_r) only [xa_13, xa_3, xc_2 gc_5_as_1, xc_2 gc_5_as_2, xc_2 gc_5_as_3, xc_3 gc_5_as_0, xl_aload0, xl_iload1, xl_iload2, xl_iload3, xl_istore3a, xl_istore3i, xl_istore3n, xm_f, xm_n, xm_t, xn_1, xn_2, xn_3, xn_4, xo_0_0, xo_1_14, xo_1_2, xr_goto, xr_iconst, xr_if_eq, xr_if_ne, xr_iret, xtl_n, xtl_s, xz_i, xz_l, xz_n, xz_r, wb_5_as_0, wb_5_as_1, wb_5_as_2, wb_5_as_3, wb_5_as_4, wb_5_as_5, ss_5_as, xa_61, xc_2 gc_6_as_1, xc_3 gc_6_as_0, xc_3 gc_6_as_2, xl_aload0, xl_iload1, xl_iload2, xl_iload3, xl_iload4, xl_iload5, xl_istore3a, xl_istore3i, xl_istore3n, xl_istore4a, xl_istore4i, xl_istore4n, xl_istore5a, xl_istore5i, xl_istore5n, xm_f, xm_n, xm_t, xn_1, xn_2, xn_3, xn_4, xn_5, xn_6, xn_7, xn_9, xo_53_11, xr_goto, xr_ic_eq, xr_ic_ne, xr_iconst, xr_if_eq, xr_if_ge, xr_if_ne, xr_iret, xtl_n, xtl_s, xz_i, xz_l, xz_n, xz_r, wb_6_as_0, wb_6_as_1, wb_6_as_2, wb_6_as_3, wb_6_as_4, wb_6_as_5, wb_6_as_6, wb_6_as_7, wb_6_as_8, wb_6_as_9, wb_6_as_10, ss_6_as, zz_b, zz_bn, Classical.not_not, true_and, Nat.reduceAdd, Nat.reduceLeDiff, sp_5_isWithin, sp_6_in, sp_0_hasRank, c1, c2, c3, true_implies, false_implies, implies_true, not_true_eq_false, not_false_eq_true, and_true, false_and, and_false, if_true, if_false, Int.reduceEq, Int.reduceSub, Int.reduceAdd, Int.reduceMul, Int.reduceNeg, Int.reduceLT, Int.reduceLE, Int.add_zero]
        refine sp_5_isUnder t1 t2 c2.1 c2.2 (fun hu => ?_) (fun hu => ?_)
        · simp (disch := first | assumption | omega | exact zc_lo | exact zc_hi | exact zz_l | exact zz_u | exact zz_r) only [xa_13, xa_3, xc_2 gc_5_as_1, xc_2 gc_5_as_2, xc_2 gc_5_as_3, xc_3 gc_5_as_0, xl_aload0, xl_iload1, xl_iload2, xl_iload3, xl_istore3a, xl_istore3i, xl_istore3n, xm_f, xm_n, xm_t, xn_1, xn_2, xn_3, xn_4, xo_0_0, xo_1_14, xo_1_2, xr_goto, xr_iconst, xr_if_eq, xr_if_ne, xr_iret, xtl_n, xtl_s, xz_i, xz_l, xz_n, xz_r, wb_5_as_0, wb_5_as_1, wb_5_as_2, wb_5_as_3, wb_5_as_4, wb_5_as_5, xa_61, xc_2 gc_6_as_1, xc_3 gc_6_as_0, xc_3 gc_6_as_2, xl_aload0, xl_iload1, xl_iload2, xl_iload3, xl_iload4, xl_iload5, xl_istore3a, xl_istore3i, xl_istore3n, xl_istore4a, xl_istore4i, xl_istore4n, xl_istore5a, xl_istore5i, xl_istore5n, xm_f, xm_n, xm_t, xn_1, xn_2, xn_3, xn_4, xn_5, xn_6, xn_7, xn_9, xo_53_11, xr_goto, xr_ic_eq, xr_ic_ne, xr_iconst, xr_if_eq, xr_if_ge, xr_if_ne, xr_iret, xtl_n, xtl_s, xz_i, xz_l, xz_n, xz_r, wb_6_as_0, wb_6_as_1, wb_6_as_2, wb_6_as_3, wb_6_as_4, wb_6_as_5, wb_6_as_6, wb_6_as_7, wb_6_as_8, wb_6_as_9, wb_6_as_10, ss_6_as, zz_b, zz_bn, Classical.not_not, true_and, Nat.reduceAdd, Nat.reduceLeDiff, sp_5_isWithin, sp_6_in, sp_6_its, c1, c2, e61, c3.1, e3, true_implies, false_implies, implies_true, not_true_eq_false, not_false_eq_true, and_true, false_and, and_false, if_true, if_false, Int.reduceEq, Int.reduceSub, Int.reduceAdd, Int.reduceMul, Int.reduceNeg, Int.reduceLT, Int.reduceLE, Int.add_zero]
          have fin : OPQ n xs N (some (.inl (a 13 x))) (some (.inl (a 13 x))) (HH n xs w a i) := OPQ_i (by omega) (by omega) (Inv_1 h)
          unfold unP at hu
          generalize a 3 (a 13 x) = k at hu t1 t2 ⊢
          repeat' (first | exact fin | (exfalso; omega) | apply And.intro | intro _)
        · simp (disch := first | assumption | omega | exact zc_lo | exact zc_hi | exact zz_l | exact zz_u | exact zz_r) only [xa_13, xa_3, xc_2 gc_5_as_1, xc_2 gc_5_as_2, xc_2 gc_5_as_3, xc_3 gc_5_as_0, xl_aload0, xl_iload1, xl_iload2, xl_iload3, xl_istore3a, xl_istore3i, xl_istore3n, xm_f, xm_n, xm_t, xn_1, xn_2, xn_3, xn_4, xo_0_0, xo_1_14, xo_1_2, xr_goto, xr_iconst, xr_if_eq, xr_if_ne, xr_iret, xtl_n, xtl_s, xz_i, xz_l, xz_n, xz_r, wb_5_as_0, wb_5_as_1, wb_5_as_2, wb_5_as_3, wb_5_as_4, wb_5_as_5, xa_61, xc_2 gc_6_as_1, xc_3 gc_6_as_0, xc_3 gc_6_as_2, xl_aload0, xl_iload1, xl_iload2, xl_iload3, xl_iload4, xl_iload5, xl_istore3a, xl_istore3i, xl_istore3n, xl_istore4a, xl_istore4i, xl_istore4n, xl_istore5a, xl_istore5i, xl_istore5n, xm_f, xm_n, xm_t, xn_1, xn_2, xn_3, xn_4, xn_5, xn_6, xn_7, xn_9, xo_53_11, xr_goto, xr_ic_eq, xr_ic_ne, xr_iconst, xr_if_eq, xr_if_ge, xr_if_ne, xr_iret, xtl_n, xtl_s, xz_i, xz_l, xz_n, xz_r, wb_6_as_0, wb_6_as_1, wb_6_as_2, wb_6_as_3, wb_6_as_4, wb_6_as_5, wb_6_as_6, wb_6_as_7, wb_6_as_8, wb_6_as_9, wb_6_as_10, ss_6_as, zz_b, zz_bn, Classical.not_not, true_and, Nat.reduceAdd, Nat.reduceLeDiff, sp_5_isWithin, sp_6_in, sp_6_its, sp_5_finding, sp_6_finds, c1, c2, up_n (show ¬ 61 = 52 by decide), up_n (show ¬ 57 = 52 by decide), e61, c3.1, e3, true_implies, false_implies, implies_true, not_true_eq_false, not_false_eq_true, and_true, false_and, and_false, if_true, if_false, Int.reduceEq, Int.reduceSub, Int.reduceAdd, Int.reduceMul, Int.reduceNeg, Int.reduceLT, Int.reduceLE, Int.add_zero]
          have fin := fnd (n := n) (xs := xs) h 2 (by omega) (by omega)
          simp only [Int.reduceSub] at fin
          unfold unP at hu
          generalize a 3 (a 13 x) = k at hu t1 t2 ⊢
          repeat' (first | exact fin | (exfalso; omega) | apply And.intro | intro _)
      · have c4 : a 13 x = -1 := by omega
        simp (disch := first | assumption | omega | exact zc_lo | exact zc_hi | exact zz_l | exact zz_u | exact zz_r) only [xa_13, xa_3, xc_2 gc_5_as_1, xc_2 gc_5_as_2, xc_2 gc_5_as_3, xc_3 gc_5_as_0, xl_aload0, xl_iload1, xl_iload2, xl_iload3, xl_istore3a, xl_istore3i, xl_istore3n, xm_f, xm_n, xm_t, xn_1, xn_2, xn_3, xn_4, xo_0_0, xo_1_14, xo_1_2, xr_goto, xr_iconst, xr_if_eq, xr_if_ne, xr_iret, xtl_n, xtl_s, xz_i, xz_l, xz_n, xz_r, wb_5_as_0, wb_5_as_1, wb_5_as_2, wb_5_as_3, wb_5_as_4, wb_5_as_5, ss_5_as, xa_61, xc_2 gc_6_as_1, xc_3 gc_6_as_0, xc_3 gc_6_as_2, xl_aload0, xl_iload1, xl_iload2, xl_iload3, xl_iload4, xl_iload5, xl_istore3a, xl_istore3i, xl_istore3n, xl_istore4a, xl_istore4i, xl_istore4n, xl_istore5a, xl_istore5i, xl_istore5n, xm_f, xm_n, xm_t, xn_1, xn_2, xn_3, xn_4, xn_5, xn_6, xn_7, xn_9, xo_53_11, xr_goto, xr_ic_eq, xr_ic_ne, xr_iconst, xr_if_eq, xr_if_ge, xr_if_ne, xr_iret, xtl_n, xtl_s, xz_i, xz_l, xz_n, xz_r, wb_6_as_0, wb_6_as_1, wb_6_as_2, wb_6_as_3, wb_6_as_4, wb_6_as_5, wb_6_as_6, wb_6_as_7, wb_6_as_8, wb_6_as_9, wb_6_as_10, ss_6_as, zz_b, zz_bn, Classical.not_not, true_and, Nat.reduceAdd, Nat.reduceLeDiff, sp_5_isWithin, sp_6_in, sp_0_hasRank, sp_5_finding, c1, c2, c3, true_implies, false_implies, implies_true, not_true_eq_false, not_false_eq_true, and_true, false_and, and_false, if_true, if_false, Int.reduceEq, Int.reduceSub, Int.reduceAdd, Int.reduceMul, Int.reduceNeg, Int.reduceLT, Int.reduceLE, Int.add_zero]
        simp (disch := first | assumption | omega | exact zc_lo | exact zc_hi | exact zz_l | exact zz_u | exact zz_r) only [xa_13, xa_3, xc_2 gc_5_as_1, xc_2 gc_5_as_2, xc_2 gc_5_as_3, xc_3 gc_5_as_0, xl_aload0, xl_iload1, xl_iload2, xl_iload3, xl_istore3a, xl_istore3i, xl_istore3n, xm_f, xm_n, xm_t, xn_1, xn_2, xn_3, xn_4, xo_0_0, xo_1_14, xo_1_2, xr_goto, xr_iconst, xr_if_eq, xr_if_ne, xr_iret, xtl_n, xtl_s, xz_i, xz_l, xz_n, xz_r, wb_5_as_0, wb_5_as_1, wb_5_as_2, wb_5_as_3, wb_5_as_4, wb_5_as_5, ss_5_as, xa_61, xc_2 gc_6_as_1, xc_3 gc_6_as_0, xc_3 gc_6_as_2, xl_aload0, xl_iload1, xl_iload2, xl_iload3, xl_iload4, xl_iload5, xl_istore3a, xl_istore3i, xl_istore3n, xl_istore4a, xl_istore4i, xl_istore4n, xl_istore5a, xl_istore5i, xl_istore5n, xm_f, xm_n, xm_t, xn_1, xn_2, xn_3, xn_4, xn_5, xn_6, xn_7, xn_9, xo_53_11, xr_goto, xr_ic_eq, xr_ic_ne, xr_iconst, xr_if_eq, xr_if_ge, xr_if_ne, xr_iret, xtl_n, xtl_s, xz_i, xz_l, xz_n, xz_r, wb_6_as_0, wb_6_as_1, wb_6_as_2, wb_6_as_3, wb_6_as_4, wb_6_as_5, wb_6_as_6, wb_6_as_7, wb_6_as_8, wb_6_as_9, wb_6_as_10, ss_6_as, zz_b, zz_bn, Classical.not_not, true_and, Nat.reduceAdd, Nat.reduceLeDiff, sp_5_isWithin, sp_6_in, sp_6_finds, c1, c2, up_n (show ¬ 61 = 52 by decide), e61, c4, true_implies, false_implies, implies_true, not_true_eq_false, not_false_eq_true, and_true, false_and, and_false, if_true, if_false, Int.reduceEq, Int.reduceSub, Int.reduceAdd, Int.reduceMul, Int.reduceNeg, Int.reduceLT, Int.reduceLE, Int.add_zero]
        exact fnd h 5 (by omega) (by omega)
    · simp (disch := first | assumption | omega | exact zc_lo | exact zc_hi | exact zz_l | exact zz_u | exact zz_r) only [xa_13, xa_3, xc_2 gc_5_as_1, xc_2 gc_5_as_2, xc_2 gc_5_as_3, xc_3 gc_5_as_0, xl_aload0, xl_iload1, xl_iload2, xl_iload3, xl_istore3a, xl_istore3i, xl_istore3n, xm_f, xm_n, xm_t, xn_1, xn_2, xn_3, xn_4, xo_0_0, xo_1_14, xo_1_2, xr_goto, xr_iconst, xr_if_eq, xr_if_ne, xr_iret, xtl_n, xtl_s, xz_i, xz_l, xz_n, xz_r, wb_5_as_0, wb_5_as_1, wb_5_as_2, wb_5_as_3, wb_5_as_4, wb_5_as_5, ss_5_as, xa_61, xc_2 gc_6_as_1, xc_3 gc_6_as_0, xc_3 gc_6_as_2, xl_aload0, xl_iload1, xl_iload2, xl_iload3, xl_iload4, xl_iload5, xl_istore3a, xl_istore3i, xl_istore3n, xl_istore4a, xl_istore4i, xl_istore4n, xl_istore5a, xl_istore5i, xl_istore5n, xm_f, xm_n, xm_t, xn_1, xn_2, xn_3, xn_4, xn_5, xn_6, xn_7, xn_9, xo_53_11, xr_goto, xr_ic_eq, xr_ic_ne, xr_iconst, xr_if_eq, xr_if_ge, xr_if_ne, xr_iret, xtl_n, xtl_s, xz_i, xz_l, xz_n, xz_r, wb_6_as_0, wb_6_as_1, wb_6_as_2, wb_6_as_3, wb_6_as_4, wb_6_as_5, wb_6_as_6, wb_6_as_7, wb_6_as_8, wb_6_as_9, wb_6_as_10, ss_6_as, zz_b, zz_bn, Classical.not_not, true_and, Nat.reduceAdd, Nat.reduceLeDiff, sp_5_isWithin, sp_6_in, sp_5_finding, sp_6_finds, c1, c2, true_implies, false_implies, implies_true, not_true_eq_false, not_false_eq_true, and_true, false_and, and_false, if_true, if_false, Int.reduceEq, Int.reduceSub, Int.reduceAdd, Int.reduceMul, Int.reduceNeg, Int.reduceLT, Int.reduceLE, Int.add_zero]
      exact fnd h 0 (by omega) (by omega)
  · simp (disch := first | assumption | omega | exact zc_lo | exact zc_hi | exact zz_l | exact zz_u | exact zz_r) only [xa_13, xa_3, xc_2 gc_5_as_1, xc_2 gc_5_as_2, xc_2 gc_5_as_3, xc_3 gc_5_as_0, xl_aload0, xl_iload1, xl_iload2, xl_iload3, xl_istore3a, xl_istore3i, xl_istore3n, xm_f, xm_n, xm_t, xn_1, xn_2, xn_3, xn_4, xo_0_0, xo_1_14, xo_1_2, xr_goto, xr_iconst, xr_if_eq, xr_if_ne, xr_iret, xtl_n, xtl_s, xz_i, xz_l, xz_n, xz_r, wb_5_as_0, wb_5_as_1, wb_5_as_2, wb_5_as_3, wb_5_as_4, wb_5_as_5, ss_5_as, xa_61, xc_2 gc_6_as_1, xc_3 gc_6_as_0, xc_3 gc_6_as_2, xl_aload0, xl_iload1, xl_iload2, xl_iload3, xl_iload4, xl_iload5, xl_istore3a, xl_istore3i, xl_istore3n, xl_istore4a, xl_istore4i, xl_istore4n, xl_istore5a, xl_istore5i, xl_istore5n, xm_f, xm_n, xm_t, xn_1, xn_2, xn_3, xn_4, xn_5, xn_6, xn_7, xn_9, xo_53_11, xr_goto, xr_ic_eq, xr_ic_ne, xr_iconst, xr_if_eq, xr_if_ge, xr_if_ne, xr_iret, xtl_n, xtl_s, xz_i, xz_l, xz_n, xz_r, wb_6_as_0, wb_6_as_1, wb_6_as_2, wb_6_as_3, wb_6_as_4, wb_6_as_5, wb_6_as_6, wb_6_as_7, wb_6_as_8, wb_6_as_9, wb_6_as_10, ss_6_as, zz_b, zz_bn, Classical.not_not, true_and, Nat.reduceAdd, Nat.reduceLeDiff, sp_5_isWithin, sp_6_in, sp_5_finding, sp_6_finds, c1, true_implies, false_implies, implies_true, not_true_eq_false, not_false_eq_true, and_true, false_and, and_false, if_true, if_false, Int.reduceEq, Int.reduceSub, Int.reduceAdd, Int.reduceMul, Int.reduceNeg, Int.reduceLT, Int.reduceLE, Int.add_zero]
    exact fnd h 0 (by omega) (by omega)
/-- how many spots hold something -/
def spF (f : Int → Int) : Nat → Int
  | 0 => 0
  | s + 1 => if f s = -1 then spF f s else spF f s + 1
theorem spF_bd {f : Int → Int} : ∀ s : Nat, 0 ≤ spF f s ∧ spF f s ≤ s
  | 0 => by simp [spF]
  | s + 1 => by
    have := spF_bd (f := f) s
    unfold spF
    split <;> omega
theorem spF_o {f g : Int → Int} : ∀ s : Nat, (∀ j : Int, 0 ≤ j → j < s → g j = f j) → spF g s = spF f s
  | 0, _ => rfl
  | s + 1, h => by unfold spF; rw [spF_o s (fun j h0 h1 => h j h0 (by omega)), h s (by omega) (by omega)]
theorem sp_0_spotsHeld (hs : ∀ s, 0 ≤ s → s < 10 → a 13 s = -1 ∨ (0 ≤ a 13 s ∧ a 13 s < i 0)) (hk : i 0 ≤ 24) : Q (some (.inl (spF (a 13) 10))) (HH n xs w a i) → s_0_spotsHeld [.inr (.inr 1)] (HH n xs w a i) Q := by
  intro hQ
  simp (disch := first | assumption | omega | exact zc_lo | exact zc_hi | exact zz_l | exact zz_u | exact zz_r) only [xa_13, xl_aload0, xl_iinc1a, xl_iinc1i, xl_iinc1n, xl_iinc2a, xl_iinc2i, xl_iinc2n, xl_iload1, xl_iload2, xl_istore1a, xl_istore1i, xl_istore1n, xl_istore2a, xl_istore2i, xl_istore2n, xm_f, xm_n, xm_t, xn_2, xn_3, xo_1_14, xr_goto, xr_ic_eq, xr_ic_ge, xr_iconst, xr_iret, xtl_n, xtl_s, xz_i, xz_l, xz_n, xz_r, wb_0_spotsHeld_0, wb_0_spotsHeld_2, wb_0_spotsHeld_3, ss_0_spotsHeld_1, ss_0_spotsHeld_14, zz_b, zz_bn, Classical.not_not, true_and, Nat.reduceAdd, Nat.reduceLeDiff]
  refine lp_up (m := 10) (P := fun d => dk_WP g_0_spotsHeld b_0_spotsHeld Q 1 [some (.inr (.inr 1)), some (.inl (spF (a 13) d)), some (.inl d)] [] (HH n xs w a i)) ?_ ?_ 0 (Nat.zero_le _)
  · rw [wb_0_spotsHeld_1]
    simp (disch := first | assumption | omega | exact zc_lo | exact zc_hi | exact zz_l | exact zz_u | exact zz_r) only [xa_13, xl_aload0, xl_iinc1a, xl_iinc1i, xl_iinc1n, xl_iinc2a, xl_iinc2i, xl_iinc2n, xl_iload1, xl_iload2, xl_istore1a, xl_istore1i, xl_istore1n, xl_istore2a, xl_istore2i, xl_istore2n, xm_f, xm_n, xm_t, xn_2, xn_3, xo_1_14, xr_goto, xr_ic_eq, xr_ic_ge, xr_iconst, xr_iret, xtl_n, xtl_s, xz_i, xz_l, xz_n, xz_r, wb_0_spotsHeld_0, wb_0_spotsHeld_2, wb_0_spotsHeld_3, zz_b, zz_bn, Classical.not_not, true_and, Nat.reduceAdd, Nat.reduceLeDiff]
    exact ⟨fun _ => hQ, fun z => absurd (by omega) z⟩
  · intro d hdm ih
    have q := hs d (by omega) (by omega)
    have q2 := spF_bd (f := a 13) d
    rw [spF] at ih
    rw [wb_0_spotsHeld_1]
    simp (disch := first | assumption | omega | exact zc_lo | exact zc_hi | exact zz_l | exact zz_u | exact zz_r) only [xa_13, xl_aload0, xl_iinc1a, xl_iinc1i, xl_iinc1n, xl_iinc2a, xl_iinc2i, xl_iinc2n, xl_iload1, xl_iload2, xl_istore1a, xl_istore1i, xl_istore1n, xl_istore2a, xl_istore2i, xl_istore2n, xm_f, xm_n, xm_t, xn_2, xn_3, xo_1_14, xr_goto, xr_ic_eq, xr_ic_ge, xr_iconst, xr_iret, xtl_n, xtl_s, xz_i, xz_l, xz_n, xz_r, wb_0_spotsHeld_0, wb_0_spotsHeld_2, wb_0_spotsHeld_3, zz_b, zz_bn, Classical.not_not, true_and, Nat.reduceAdd, Nat.reduceLeDiff]
    rw [cs d]
    refine ⟨fun z => absurd z (by omega), fun _ => ⟨fun z => ?_, fun z => ?_⟩⟩
    · rw [if_pos z] at ih; exact ih
    · rw [if_neg z] at ih; exact ih
theorem op_count (h : Inv N w a i) {x : Int} (x1 : -2147483648 ≤ x) (x2 : x ≤ 2147483647) : s_5_count [.inr (.inr 0), .inl x] (HH n xs w a i) (fun r h => s_6_count [.inr (.inr 53), .inl x] h (OPQ n xs N r)) := by
  have hc := h.2.1
  have hag := h.2.2.1
  have hmc := colN_A hag hc
  obtain ⟨⟨p1, p2⟩, ⟨s1, s2⟩, ⟨v1, v2⟩, ⟨n1, n2⟩, ⟨o1, o2⟩, ⟨d1, d2⟩, ⟨e1, e2⟩, ⟨k1, k2⟩, hr, ⟨m1, m2⟩, hd, ⟨b1, b2⟩, hb, hs, hz⟩ := id hc
  obtain ⟨hkE, hA2, hA3, hA4, hA5, hA6⟩ := id hag
  have K0 : i 30 = i 0 := hkE 0 (by omega)
  have K1 : i 31 = i 1 := hkE 1 (by omega)
  have K2 : i 32 = i 2 := hkE 2 (by omega)
  have K3 : i 33 = i 3 := hkE 3 (by omega)
  have R0 : a 54 0 = a 2 0 := hA2 0 (by omega) (by omega)
  have R1 : a 54 1 = a 2 1 := hA2 1 (by omega) (by omega)
  have R2 : a 54 2 = a 2 2 := hA2 2 (by omega) (by omega)
  have R3 : a 54 3 = a 2 3 := hA2 3 (by omega) (by omega)
  have R4 : a 54 4 = a 2 4 := hA2 4 (by omega) (by omega)
  have R5 : a 54 5 = a 2 5 := hA2 5 (by omega) (by omega)
  have R6 : a 54 6 = a 2 6 := hA2 6 (by omega) (by omega)
  have h9 := h.2.2.2.2.1
  by_cases c1 : 0 ≤ x ∧ x ≤ 5
  · rcases (show x = 0 ∨ x = 1 ∨ x = 2 ∨ x = 3 ∨ x = 4 ∨ x = 5 by omega) with rfl | rfl | rfl | rfl | rfl | rfl
    · simp (disch := first | assumption | omega | exact zc_lo | exact zc_hi | exact zz_l | exact zz_u | exact zz_r) only [xc_1 gc_5_count_0, xc_2 gc_5_count_1, xl_aload0, xl_iload1, xm_f, xm_n, xm_t, xn_1, xn_2, xn_3, xn_4, xn_5, xn_6, xn_7, xo_0_0, xo_0_3, xo_1_1, xo_1_12, xo_1_15, xo_1_8, xo_27_1, xr_iconst, xr_iret, xr_sw, xtl_n, xtl_s, xw_n, xw_t, xz_i, xz_l, xz_n, xz_r, wb_5_count_0, wb_5_count_1, wb_5_count_2, wb_5_count_3, wb_5_count_4, wb_5_count_5, wb_5_count_6, wb_5_count_7, ss_5_count, xa_61, xc_2 gc_6_count_0, xl_aload0, xl_iinc3a, xl_iinc3i, xl_iinc3n, xl_iload1, xl_iload2, xl_iload3, xl_istore2a, xl_istore2i, xl_istore2n, xl_istore3a, xl_istore3i, xl_istore3n, xm_f, xm_n, xm_t, xn_1, xn_10, xn_11, xn_2, xn_3, xn_4, xn_5, xn_6, xn_8, xo_53_10, xo_53_11, xo_53_14, xo_53_3, xo_53_6, xo_53_8, xr_goto, xr_iadd, xr_ic_ge, xr_iconst, xr_if_lt, xr_iret, xr_sw, xtl_n, xtl_s, xw_n, xw_t, xz_i, xz_l, xz_n, xz_r, wb_6_count_0, wb_6_count_1, wb_6_count_2, wb_6_count_3, wb_6_count_4, wb_6_count_5, wb_6_count_6, wb_6_count_8, wb_6_count_9, wb_6_count_10, wb_6_count_11, ss_6_count, zz_b, zz_bn, Classical.not_not, true_and, Nat.reduceAdd, Nat.reduceLeDiff, or_false, false_or, K0, true_implies, false_implies, implies_true, not_true_eq_false, not_false_eq_true, and_true, false_and, and_false, if_true, if_false, Int.reduceEq, Int.reduceSub, Int.reduceAdd, Int.reduceMul, Int.reduceNeg, Int.reduceLT, Int.reduceLE, Int.add_zero]
      exact OPQ_i (by omega) (by omega) (Inv_1 h)
    · simp (disch := first | assumption | omega | exact zc_lo | exact zc_hi | exact zz_l | exact zz_u | exact zz_r) only [xc_1 gc_5_count_0, xc_2 gc_5_count_1, xl_aload0, xl_iload1, xm_f, xm_n, xm_t, xn_1, xn_2, xn_3, xn_4, xn_5, xn_6, xn_7, xo_0_0, xo_0_3, xo_1_1, xo_1_12, xo_1_15, xo_1_8, xo_27_1, xr_iconst, xr_iret, xr_sw, xtl_n, xtl_s, xw_n, xw_t, xz_i, xz_l, xz_n, xz_r, wb_5_count_0, wb_5_count_1, wb_5_count_2, wb_5_count_3, wb_5_count_4, wb_5_count_5, wb_5_count_6, wb_5_count_7, ss_5_count, xa_61, xc_2 gc_6_count_0, xl_aload0, xl_iinc3a, xl_iinc3i, xl_iinc3n, xl_iload1, xl_iload2, xl_iload3, xl_istore2a, xl_istore2i, xl_istore2n, xl_istore3a, xl_istore3i, xl_istore3n, xm_f, xm_n, xm_t, xn_1, xn_10, xn_11, xn_2, xn_3, xn_4, xn_5, xn_6, xn_8, xo_53_10, xo_53_11, xo_53_14, xo_53_3, xo_53_6, xo_53_8, xr_goto, xr_iadd, xr_ic_ge, xr_iconst, xr_if_lt, xr_iret, xr_sw, xtl_n, xtl_s, xw_n, xw_t, xz_i, xz_l, xz_n, xz_r, wb_6_count_0, wb_6_count_1, wb_6_count_2, wb_6_count_3, wb_6_count_4, wb_6_count_5, wb_6_count_6, wb_6_count_8, wb_6_count_9, wb_6_count_10, wb_6_count_11, ss_6_count, zz_b, zz_bn, Classical.not_not, true_and, Nat.reduceAdd, Nat.reduceLeDiff, or_false, false_or, K1, true_implies, false_implies, implies_true, not_true_eq_false, not_false_eq_true, and_true, false_and, and_false, if_true, if_false, Int.reduceEq, Int.reduceSub, Int.reduceAdd, Int.reduceMul, Int.reduceNeg, Int.reduceLT, Int.reduceLE, Int.add_zero]
      exact OPQ_i (by omega) (by omega) (Inv_1 h)
    · simp (disch := first | assumption | omega | exact zc_lo | exact zc_hi | exact zz_l | exact zz_u | exact zz_r) only [xc_1 gc_5_count_0, xc_2 gc_5_count_1, xl_aload0, xl_iload1, xm_f, xm_n, xm_t, xn_1, xn_2, xn_3, xn_4, xn_5, xn_6, xn_7, xo_0_0, xo_0_3, xo_1_1, xo_1_12, xo_1_15, xo_1_8, xo_27_1, xr_iconst, xr_iret, xr_sw, xtl_n, xtl_s, xw_n, xw_t, xz_i, xz_l, xz_n, xz_r, wb_5_count_0, wb_5_count_1, wb_5_count_2, wb_5_count_3, wb_5_count_4, wb_5_count_5, wb_5_count_6, wb_5_count_7, ss_5_count, xa_61, xc_2 gc_6_count_0, xl_aload0, xl_iinc3a, xl_iinc3i, xl_iinc3n, xl_iload1, xl_iload2, xl_iload3, xl_istore2a, xl_istore2i, xl_istore2n, xl_istore3a, xl_istore3i, xl_istore3n, xm_f, xm_n, xm_t, xn_1, xn_10, xn_11, xn_2, xn_3, xn_4, xn_5, xn_6, xn_8, xo_53_10, xo_53_11, xo_53_14, xo_53_3, xo_53_6, xo_53_8, xr_goto, xr_iadd, xr_ic_ge, xr_iconst, xr_if_lt, xr_iret, xr_sw, xtl_n, xtl_s, xw_n, xw_t, xz_i, xz_l, xz_n, xz_r, wb_6_count_0, wb_6_count_1, wb_6_count_2, wb_6_count_3, wb_6_count_4, wb_6_count_5, wb_6_count_6, wb_6_count_8, wb_6_count_9, wb_6_count_10, wb_6_count_11, ss_6_count, zz_b, zz_bn, Classical.not_not, true_and, Nat.reduceAdd, Nat.reduceLeDiff, or_false, false_or, K2, true_implies, false_implies, implies_true, not_true_eq_false, not_false_eq_true, and_true, false_and, and_false, if_true, if_false, Int.reduceEq, Int.reduceSub, Int.reduceAdd, Int.reduceMul, Int.reduceNeg, Int.reduceLT, Int.reduceLE, Int.add_zero]
      exact OPQ_i (by omega) (by omega) (Inv_1 h)
    · have e9 := h9.2.1
      simp (disch := first | assumption | omega | exact zc_lo | exact zc_hi | exact zz_l | exact zz_u | exact zz_r) only [xc_1 gc_5_count_0, xc_2 gc_5_count_1, xl_aload0, xl_iload1, xm_f, xm_n, xm_t, xn_1, xn_2, xn_3, xn_4, xn_5, xn_6, xn_7, xo_0_0, xo_0_3, xo_1_1, xo_1_12, xo_1_15, xo_1_8, xo_27_1, xr_iconst, xr_iret, xr_sw, xtl_n, xtl_s, xw_n, xw_t, xz_i, xz_l, xz_n, xz_r, wb_5_count_0, wb_5_count_1, wb_5_count_2, wb_5_count_3, wb_5_count_4, wb_5_count_5, wb_5_count_6, wb_5_count_7, ss_5_count, xa_61, xc_2 gc_6_count_0, xl_aload0, xl_iinc3a, xl_iinc3i, xl_iinc3n, xl_iload1, xl_iload2, xl_iload3, xl_istore2a, xl_istore2i, xl_istore2n, xl_istore3a, xl_istore3i, xl_istore3n, xm_f, xm_n, xm_t, xn_1, xn_10, xn_11, xn_2, xn_3, xn_4, xn_5, xn_6, xn_8, xo_53_10, xo_53_11, xo_53_14, xo_53_3, xo_53_6, xo_53_8, xr_goto, xr_iadd, xr_ic_ge, xr_iconst, xr_if_lt, xr_iret, xr_sw, xtl_n, xtl_s, xw_n, xw_t, xz_i, xz_l, xz_n, xz_r, wb_6_count_0, wb_6_count_1, wb_6_count_2, wb_6_count_3, wb_6_count_4, wb_6_count_5, wb_6_count_6, wb_6_count_8, wb_6_count_9, wb_6_count_10, wb_6_count_11, ss_6_count, zz_b, zz_bn, Classical.not_not, true_and, Nat.reduceAdd, Nat.reduceLeDiff, or_false, false_or, e9, true_implies, false_implies, implies_true, not_true_eq_false, not_false_eq_true, and_true, false_and, and_false, if_true, if_false, Int.reduceEq, Int.reduceSub, Int.reduceAdd, Int.reduceMul, Int.reduceNeg, Int.reduceLT, Int.reduceLE, Int.add_zero]
      exact OPQ_i (by omega) (by omega) (Inv_1 h)
    · simp (disch := first | assumption | omega | exact zc_lo | exact zc_hi | exact zz_l | exact zz_u | exact zz_r) only [xc_1 gc_5_count_0, xc_2 gc_5_count_1, xl_aload0, xl_iload1, xm_f, xm_n, xm_t, xn_1, xn_2, xn_3, xn_4, xn_5, xn_6, xn_7, xo_0_0, xo_0_3, xo_1_1, xo_1_12, xo_1_15, xo_1_8, xo_27_1, xr_iconst, xr_iret, xr_sw, xtl_n, xtl_s, xw_n, xw_t, xz_i, xz_l, xz_n, xz_r, wb_5_count_0, wb_5_count_1, wb_5_count_2, wb_5_count_3, wb_5_count_4, wb_5_count_5, wb_5_count_6, wb_5_count_7, ss_5_count, xa_61, xc_2 gc_6_count_0, xl_aload0, xl_iinc3a, xl_iinc3i, xl_iinc3n, xl_iload1, xl_iload2, xl_iload3, xl_istore2a, xl_istore2i, xl_istore2n, xl_istore3a, xl_istore3i, xl_istore3n, xm_f, xm_n, xm_t, xn_1, xn_10, xn_11, xn_2, xn_3, xn_4, xn_5, xn_6, xn_8, xo_53_10, xo_53_11, xo_53_14, xo_53_3, xo_53_6, xo_53_8, xr_goto, xr_iadd, xr_ic_ge, xr_iconst, xr_if_lt, xr_iret, xr_sw, xtl_n, xtl_s, xw_n, xw_t, xz_i, xz_l, xz_n, xz_r, wb_6_count_0, wb_6_count_1, wb_6_count_2, wb_6_count_3, wb_6_count_4, wb_6_count_5, wb_6_count_6, wb_6_count_8, wb_6_count_9, wb_6_count_10, wb_6_count_11, ss_6_count, zz_b, zz_bn, Classical.not_not, true_and, Nat.reduceAdd, Nat.reduceLeDiff, or_false, false_or, K3, true_implies, false_implies, implies_true, not_true_eq_false, not_false_eq_true, and_true, false_and, and_false, if_true, if_false, Int.reduceEq, Int.reduceSub, Int.reduceAdd, Int.reduceMul, Int.reduceNeg, Int.reduceLT, Int.reduceLE, Int.add_zero]
      exact OPQ_i (by omega) (by omega) (Inv_1 h)
    · simp (disch := first | assumption | omega | exact zc_lo | exact zc_hi | exact zz_l | exact zz_u | exact zz_r) only [xc_1 gc_5_count_0, xc_2 gc_5_count_1, xl_aload0, xl_iload1, xm_f, xm_n, xm_t, xn_1, xn_2, xn_3, xn_4, xn_5, xn_6, xn_7, xo_0_0, xo_0_3, xo_1_1, xo_1_12, xo_1_15, xo_1_8, xo_27_1, xr_iconst, xr_iret, xr_sw, xtl_n, xtl_s, xw_n, xw_t, xz_i, xz_l, xz_n, xz_r, wb_5_count_0, wb_5_count_1, wb_5_count_2, wb_5_count_3, wb_5_count_4, wb_5_count_5, wb_5_count_6, wb_5_count_7, ss_5_count, zz_b, zz_bn, Classical.not_not, true_and, Nat.reduceAdd, Nat.reduceLeDiff, or_false, false_or, true_implies, false_implies, implies_true, not_true_eq_false, not_false_eq_true, and_true, false_and, and_false, if_true, if_false, Int.reduceEq, Int.reduceSub, Int.reduceAdd, Int.reduceMul, Int.reduceNeg, Int.reduceLT, Int.reduceLE, Int.add_zero]
      refine sp_0_spotsHeld hs k2 ?_
      have q2 := spF_bd (f := a 13) 10
      have fin : OPQ n xs N (some (.inl (spF (a 13) 10))) (some (.inl (spF (a 13) 10))) (HH n xs w a i) := OPQ_i (by omega) (by omega) (Inv_1 h)
      simp (disch := first | assumption | omega | exact zc_lo | exact zc_hi | exact zz_l | exact zz_u | exact zz_r) only [xc_1 gc_5_count_0, xc_2 gc_5_count_1, xl_aload0, xl_iload1, xm_f, xm_n, xm_t, xn_1, xn_2, xn_3, xn_4, xn_5, xn_6, xn_7, xo_0_0, xo_0_3, xo_1_1, xo_1_12, xo_1_15, xo_1_8, xo_27_1, xr_iconst, xr_iret, xr_sw, xtl_n, xtl_s, xw_n, xw_t, xz_i, xz_l, xz_n, xz_r, wb_5_count_0, wb_5_count_1, wb_5_count_2, wb_5_count_3, wb_5_count_4, wb_5_count_5, wb_5_count_6, wb_5_count_7, xa_61, xc_2 gc_6_count_0, xl_aload0, xl_iinc3a, xl_iinc3i, xl_iinc3n, xl_iload1, xl_iload2, xl_iload3, xl_istore2a, xl_istore2i, xl_istore2n, xl_istore3a, xl_istore3i, xl_istore3n, xm_f, xm_n, xm_t, xn_1, xn_10, xn_11, xn_2, xn_3, xn_4, xn_5, xn_6, xn_8, xo_53_10, xo_53_11, xo_53_14, xo_53_3, xo_53_6, xo_53_8, xr_goto, xr_iadd, xr_ic_ge, xr_iconst, xr_if_lt, xr_iret, xr_sw, xtl_n, xtl_s, xw_n, xw_t, xz_i, xz_l, xz_n, xz_r, wb_6_count_0, wb_6_count_1, wb_6_count_2, wb_6_count_3, wb_6_count_4, wb_6_count_5, wb_6_count_6, wb_6_count_8, wb_6_count_9, wb_6_count_10, wb_6_count_11, ss_6_count, zz_b, zz_bn, Classical.not_not, true_and, Nat.reduceAdd, Nat.reduceLeDiff, or_false, false_or, true_implies, false_implies, implies_true, not_true_eq_false, not_false_eq_true, and_true, false_and, and_false, if_true, if_false, Int.reduceEq, Int.reduceSub, Int.reduceAdd, Int.reduceMul, Int.reduceNeg, Int.reduceLT, Int.reduceLE, Int.add_zero]
      refine lp_up (m := 10) (P := fun d => ∀ l1, dk_WP g_6_count b_6_count (OPQ n xs N (some (.inl (spF (a 13) 10)))) 7 [some (.inr (.inr 53)), l1, some (.inl (spF (a 13) d)), some (.inl d)] [] (HH n xs w a i)) ?_ ?_ 0 (Nat.zero_le _) _
      · intro l1
        rw [wb_6_count_7]
        simp (disch := first | assumption | omega | exact zc_lo | exact zc_hi | exact zz_l | exact zz_u | exact zz_r) only [xa_61, xc_2 gc_6_count_0, xl_aload0, xl_iinc3a, xl_iinc3i, xl_iinc3n, xl_iload1, xl_iload2, xl_iload3, xl_istore2a, xl_istore2i, xl_istore2n, xl_istore3a, xl_istore3i, xl_istore3n, xm_f, xm_n, xm_t, xn_1, xn_10, xn_11, xn_2, xn_3, xn_4, xn_5, xn_6, xn_8, xo_53_10, xo_53_11, xo_53_14, xo_53_3, xo_53_6, xo_53_8, xr_goto, xr_iadd, xr_ic_ge, xr_iconst, xr_if_lt, xr_iret, xr_sw, xtl_n, xtl_s, xw_n, xw_t, xz_i, xz_l, xz_n, xz_r, wb_6_count_0, wb_6_count_1, wb_6_count_2, wb_6_count_3, wb_6_count_4, wb_6_count_5, wb_6_count_6, wb_6_count_8, wb_6_count_9, wb_6_count_10, wb_6_count_11, zz_b, zz_bn, Classical.not_not, true_and, Nat.reduceAdd, Nat.reduceLeDiff]
        exact ⟨fun _ => fin, fun z => absurd (by omega) z⟩
      · intro d hdm ih l1
        have q := hs d (by omega) (by omega)
        have e61 : a 61 d = a 13 d := hA6 d (by omega) (by omega)
        have q3 := spF_bd (f := a 13) d
        have ih := ih none
        rw [show spF (a 13) (d + 1) = if a 13 d = -1 then spF (a 13) d else spF (a 13) d + 1 from rfl] at ih
        rw [wb_6_count_7]
        simp (disch := first | assumption | omega | exact zc_lo | exact zc_hi | exact zz_l | exact zz_u | exact zz_r) only [xa_61, xc_2 gc_6_count_0, xl_aload0, xl_iinc3a, xl_iinc3i, xl_iinc3n, xl_iload1, xl_iload2, xl_iload3, xl_istore2a, xl_istore2i, xl_istore2n, xl_istore3a, xl_istore3i, xl_istore3n, xm_f, xm_n, xm_t, xn_1, xn_10, xn_11, xn_2, xn_3, xn_4, xn_5, xn_6, xn_8, xo_53_10, xo_53_11, xo_53_14, xo_53_3, xo_53_6, xo_53_8, xr_goto, xr_iadd, xr_ic_ge, xr_iconst, xr_if_lt, xr_iret, xr_sw, xtl_n, xtl_s, xw_n, xw_t, xz_i, xz_l, xz_n, xz_r, wb_6_count_0, wb_6_count_1, wb_6_count_2, wb_6_count_3, wb_6_count_4, wb_6_count_5, wb_6_count_6, wb_6_count_8, wb_6_count_9, wb_6_count_10, wb_6_count_11, zz_b, zz_bn, Classical.not_not, true_and, Nat.reduceAdd, Nat.reduceLeDiff, e61]
        rw [cs d]
        refine ⟨fun z => absurd z (by omega), fun _ => ⟨fun z => ?_, fun z => ?_⟩⟩
        · rw [if_pos (by omega)] at ih; rw [Int.add_zero]; exact ih
        · rw [if_neg (by omega)] at ih; exact ih
  · have c2 : x < 0 ∨ 5 < x := by omega
    have n0 : ¬ x = 0 := by omega
    have n1 : ¬ x = 1 := by omega
    have n2 : ¬ x = 2 := by omega
    have n3 : ¬ x = 3 := by omega
    have n4 : ¬ x = 4 := by omega
    have n5 : ¬ x = 5 := by omega
    simp (disch := first | assumption | omega | exact zc_lo | exact zc_hi | exact zz_l | exact zz_u | exact zz_r) only [xc_1 gc_5_count_0, xc_2 gc_5_count_1, xl_aload0, xl_iload1, xm_f, xm_n, xm_t, xn_1, xn_2, xn_3, xn_4, xn_5, xn_6, xn_7, xo_0_0, xo_0_3, xo_1_1, xo_1_12, xo_1_15, xo_1_8, xo_27_1, xr_iconst, xr_iret, xr_sw, xtl_n, xtl_s, xw_n, xw_t, xz_i, xz_l, xz_n, xz_r, wb_5_count_0, wb_5_count_1, wb_5_count_2, wb_5_count_3, wb_5_count_4, wb_5_count_5, wb_5_count_6, wb_5_count_7, ss_5_count, xa_61, xc_2 gc_6_count_0, xl_aload0, xl_iinc3a, xl_iinc3i, xl_iinc3n, xl_iload1, xl_iload2, xl_iload3, xl_istore2a, xl_istore2i, xl_istore2n, xl_istore3a, xl_istore3i, xl_istore3n, xm_f, xm_n, xm_t, xn_1, xn_10, xn_11, xn_2, xn_3, xn_4, xn_5, xn_6, xn_8, xo_53_10, xo_53_11, xo_53_14, xo_53_3, xo_53_6, xo_53_8, xr_goto, xr_iadd, xr_ic_ge, xr_iconst, xr_if_lt, xr_iret, xr_sw, xtl_n, xtl_s, xw_n, xw_t, xz_i, xz_l, xz_n, xz_r, wb_6_count_0, wb_6_count_1, wb_6_count_2, wb_6_count_3, wb_6_count_4, wb_6_count_5, wb_6_count_6, wb_6_count_8, wb_6_count_9, wb_6_count_10, wb_6_count_11, ss_6_count, zz_b, zz_bn, Classical.not_not, true_and, Nat.reduceAdd, Nat.reduceLeDiff, sp_5_finding, sp_6_finds, c2, n0, n1, n2, n3, n4, n5, or_true, true_implies, false_implies, implies_true, not_true_eq_false, not_false_eq_true, and_true, false_and, and_false, if_true, if_false, Int.reduceEq, Int.reduceSub, Int.reduceAdd, Int.reduceMul, Int.reduceNeg, Int.reduceLT, Int.reduceLE, Int.add_zero]
    exact fnd h 0 (by omega) (by omega)
/-- the findings' sum -/
def fiF (f : Int → Int) : Nat → Int
  | 0 => 0
  | s + 1 => fiF f s + f s
theorem fiF_bd {f : Int → Int} (B : Int) (hB : 0 ≤ B) (hB2 : B ≤ 1000) : ∀ s : Nat, s ≤ 7 → (∀ j : Int, 0 ≤ j → j < 7 → 0 ≤ f j ∧ f j ≤ B) → 0 ≤ fiF f s ∧ fiF f s ≤ 1000 * s
  | 0, _, _ => by simp [fiF]
  | s + 1, hs, h => by
    have q := fiF_bd B hB hB2 s (by omega) h
    have q2 := h s (by omega) (by omega)
    unfold fiF
    omega
def foF (f : Int → Int) (x : Int) : Nat → Int
  | 0 => 0
  | s + 1 => foF f x s + (if x = s then f s else 0)
theorem foF_x {f : Int → Int} {x : Int} (h0 : 0 ≤ x) : ∀ s : Nat, foF f x s = if x < s then f x else 0
  | 0 => by rw [if_neg (by omega)]; rfl
  | s + 1 => by
    unfold foF
    rw [foF_x h0 s]
    by_cases e : x = s
    · subst e; rw [if_neg (by omega), if_pos rfl, if_pos (by omega)]; omega
    · rw [if_neg e]
      by_cases e2 : x < s
      · rw [if_pos e2, if_pos (by omega)]; omega
      · rw [if_neg e2, if_neg (by omega)]; omega
theorem op_status (h : Inv N w a i) (hN : N ≤ 100) {x : Int} (x1 : -2147483648 ≤ x) (x2 : x ≤ 2147483647) : s_5_status [.inr (.inr 0), .inl x] (HH n xs w a i) (fun r h => s_6_status [.inr (.inr 53), .inl x] h (OPQ n xs N r)) := by
  have h7 := h.2.2.2.2.2.2.1.2
  have h0 := h.2.2.2.2.2.2.1.1
  by_cases c1 : -1 ≤ x ∧ x ≤ 6
  · by_cases c2 : x < 0
    · have q7 := fiF_bd (f := a 52) N h0 (by omega) 7 (by omega) (fun j z1 z2 => (h7 j z1 z2).1)
      simp (disch := first | assumption | omega | exact zc_lo | exact zc_hi | exact zz_l | exact zz_u | exact zz_r) only [xa_52, xc_2 gc_5_status_1, xc_3 gc_5_status_0, xl_aload0, xl_iinc3a, xl_iinc3i, xl_iinc3n, xl_iload1, xl_iload2, xl_iload3, xl_istore2a, xl_istore2i, xl_istore2n, xl_istore3a, xl_istore3i, xl_istore3n, xm_f, xm_n, xm_t, xn_1, xn_2, xn_4, xo_0_10, xr_goto, xr_iadd, xr_ic_ge, xr_iconst, xr_if_lt, xr_if_ne, xr_iret, xtl_n, xtl_s, xz_i, xz_l, xz_n, xz_r, wb_5_status_0, wb_5_status_1, wb_5_status_2, wb_5_status_4, ss_5_status, zz_b, zz_bn, Classical.not_not, true_and, Nat.reduceAdd, Nat.reduceLeDiff, sp_5_isWithin, c1, c2, true_implies, false_implies, implies_true, not_true_eq_false, not_false_eq_true, and_true, false_and, and_false, if_true, if_false, Int.reduceEq, Int.reduceSub, Int.reduceAdd, Int.reduceMul, Int.reduceNeg, Int.reduceLT, Int.reduceLE, Int.add_zero]
      refine lp_up (m := 7) (P := fun d => ∀ l1, dk_WP g_5_status b_5_status (fun r h => s_6_status [.inr (.inr 53), .inl x] h (OPQ n xs N r)) 3 [some (.inr (.inr 0)), l1, some (.inl (fiF (a 52) d)), some (.inl d)] [] (HH n xs w a i)) ?_ ?_ 0 (Nat.zero_le _) _
      · intro l1
        rw [wb_5_status_3]
        simp (disch := first | assumption | omega | exact zc_lo | exact zc_hi | exact zz_l | exact zz_u | exact zz_r) only [xa_52, xc_2 gc_5_status_1, xc_3 gc_5_status_0, xl_aload0, xl_iinc3a, xl_iinc3i, xl_iinc3n, xl_iload1, xl_iload2, xl_iload3, xl_istore2a, xl_istore2i, xl_istore2n, xl_istore3a, xl_istore3i, xl_istore3n, xm_f, xm_n, xm_t, xn_1, xn_2, xn_4, xo_0_10, xr_goto, xr_iadd, xr_ic_ge, xr_iconst, xr_if_lt, xr_if_ne, xr_iret, xtl_n, xtl_s, xz_i, xz_l, xz_n, xz_r, wb_5_status_0, wb_5_status_1, wb_5_status_2, wb_5_status_4, zz_b, zz_bn, Classical.not_not, true_and, Nat.reduceAdd, Nat.reduceLeDiff]
        refine ⟨fun _ => ?_, fun z => absurd (by omega) z⟩
        simp (disch := first | assumption | omega | exact zc_lo | exact zc_hi | exact zz_l | exact zz_u | exact zz_r) only [xa_62, xc_2 gc_6_status_1, xc_3 gc_6_status_0, xl_aload0, xl_iinc3a, xl_iinc3i, xl_iinc3n, xl_iload1, xl_iload2, xl_iload3, xl_istore2a, xl_istore2i, xl_istore2n, xl_istore3a, xl_istore3i, xl_istore3n, xm_f, xm_n, xm_t, xn_1, xn_3, xn_4, xn_6, xo_53_12, xr_goto, xr_iadd, xr_ic_ge, xr_ic_ne, xr_iconst, xr_if_lt, xr_if_ne, xr_iret, xtl_n, xtl_s, xz_i, xz_l, xz_n, xz_r, wb_6_status_0, wb_6_status_1, wb_6_status_3, wb_6_status_4, wb_6_status_5, wb_6_status_6, ss_6_status, zz_b, zz_bn, Classical.not_not, true_and, Nat.reduceAdd, Nat.reduceLeDiff, sp_6_in, c1, c2, true_implies, false_implies, implies_true, not_true_eq_false, not_false_eq_true, and_true, false_and, and_false, if_true, if_false, Int.reduceEq, Int.reduceSub, Int.reduceAdd, Int.reduceMul, Int.reduceNeg, Int.reduceLT, Int.reduceLE, Int.add_zero]
        refine lp_up (m := 7) (P := fun d => dk_WP g_6_status b_6_status (OPQ n xs N (some (.inl (fiF (a 52) 7)))) 2 [some (.inr (.inr 53)), some (.inl x), some (.inl (fiF (a 52) d)), some (.inl d)] [] (HH n xs w a i)) ?_ ?_ 0 (Nat.zero_le _)
        · rw [wb_6_status_2]
          simp (disch := first | assumption | omega | exact zc_lo | exact zc_hi | exact zz_l | exact zz_u | exact zz_r) only [xa_62, xc_2 gc_6_status_1, xc_3 gc_6_status_0, xl_aload0, xl_iinc3a, xl_iinc3i, xl_iinc3n, xl_iload1, xl_iload2, xl_iload3, xl_istore2a, xl_istore2i, xl_istore2n, xl_istore3a, xl_istore3i, xl_istore3n, xm_f, xm_n, xm_t, xn_1, xn_3, xn_4, xn_6, xo_53_12, xr_goto, xr_iadd, xr_ic_ge, xr_ic_ne, xr_iconst, xr_if_lt, xr_if_ne, xr_iret, xtl_n, xtl_s, xz_i, xz_l, xz_n, xz_r, wb_6_status_0, wb_6_status_1, wb_6_status_3, wb_6_status_4, wb_6_status_5, wb_6_status_6, zz_b, zz_bn, Classical.not_not, true_and, Nat.reduceAdd, Nat.reduceLeDiff]
          exact ⟨fun _ => OPQ_i (by omega) (by omega) (Inv_1 h), fun z => absurd (by omega) z⟩
        · intro d hdm ih
          obtain ⟨g1, g2⟩ := h7 d (by omega) (by omega)
          have qd := fiF_bd (f := a 52) N h0 (by omega) d (by omega) (fun j z1 z2 => (h7 j z1 z2).1)
          rw [show fiF (a 52) (d + 1) = fiF (a 52) d + a 52 d from rfl] at ih
          rw [wb_6_status_2]
          simp (disch := first | assumption | omega | exact zc_lo | exact zc_hi | exact zz_l | exact zz_u | exact zz_r) only [xa_62, xc_2 gc_6_status_1, xc_3 gc_6_status_0, xl_aload0, xl_iinc3a, xl_iinc3i, xl_iinc3n, xl_iload1, xl_iload2, xl_iload3, xl_istore2a, xl_istore2i, xl_istore2n, xl_istore3a, xl_istore3i, xl_istore3n, xm_f, xm_n, xm_t, xn_1, xn_3, xn_4, xn_6, xo_53_12, xr_goto, xr_iadd, xr_ic_ge, xr_ic_ne, xr_iconst, xr_if_lt, xr_if_ne, xr_iret, xtl_n, xtl_s, xz_i, xz_l, xz_n, xz_r, wb_6_status_0, wb_6_status_1, wb_6_status_3, wb_6_status_4, wb_6_status_5, wb_6_status_6, zz_b, zz_bn, Classical.not_not, true_and, Nat.reduceAdd, Nat.reduceLeDiff, g2]
          rw [cs d]
          exact ⟨fun z => absurd z (by omega), fun _ => ⟨fun _ => ih, fun z => absurd c2 z⟩⟩
      · intro d hdm ih l1
        obtain ⟨g1, g2⟩ := h7 d (by omega) (by omega)
        have qd := fiF_bd (f := a 52) N h0 (by omega) d (by omega) (fun j z1 z2 => (h7 j z1 z2).1)
        have ih := ih none
        rw [show fiF (a 52) (d + 1) = fiF (a 52) d + a 52 d from rfl] at ih
        rw [wb_5_status_3]
        simp (disch := first | assumption | omega | exact zc_lo | exact zc_hi | exact zz_l | exact zz_u | exact zz_r) only [xa_52, xc_2 gc_5_status_1, xc_3 gc_5_status_0, xl_aload0, xl_iinc3a, xl_iinc3i, xl_iinc3n, xl_iload1, xl_iload2, xl_iload3, xl_istore2a, xl_istore2i, xl_istore2n, xl_istore3a, xl_istore3i, xl_istore3n, xm_f, xm_n, xm_t, xn_1, xn_2, xn_4, xo_0_10, xr_goto, xr_iadd, xr_ic_ge, xr_iconst, xr_if_lt, xr_if_ne, xr_iret, xtl_n, xtl_s, xz_i, xz_l, xz_n, xz_r, wb_5_status_0, wb_5_status_1, wb_5_status_2, wb_5_status_4, zz_b, zz_bn, Classical.not_not, true_and, Nat.reduceAdd, Nat.reduceLeDiff]
        rw [cs d]
        exact ⟨fun z => absurd z (by omega), fun _ => ih⟩
    · have q := h7 x (by omega) (by omega)
      simp (disch := first | assumption | omega | exact zc_lo | exact zc_hi | exact zz_l | exact zz_u | exact zz_r) only [xa_52, xc_2 gc_5_status_1, xc_3 gc_5_status_0, xl_aload0, xl_iinc3a, xl_iinc3i, xl_iinc3n, xl_iload1, xl_iload2, xl_iload3, xl_istore2a, xl_istore2i, xl_istore2n, xl_istore3a, xl_istore3i, xl_istore3n, xm_f, xm_n, xm_t, xn_1, xn_2, xn_4, xo_0_10, xr_goto, xr_iadd, xr_ic_ge, xr_iconst, xr_if_lt, xr_if_ne, xr_iret, xtl_n, xtl_s, xz_i, xz_l, xz_n, xz_r, wb_5_status_0, wb_5_status_1, wb_5_status_2, wb_5_status_4, ss_5_status, xa_62, xc_2 gc_6_status_1, xc_3 gc_6_status_0, xl_aload0, xl_iinc3a, xl_iinc3i, xl_iinc3n, xl_iload1, xl_iload2, xl_iload3, xl_istore2a, xl_istore2i, xl_istore2n, xl_istore3a, xl_istore3i, xl_istore3n, xm_f, xm_n, xm_t, xn_1, xn_3, xn_4, xn_6, xo_53_12, xr_goto, xr_iadd, xr_ic_ge, xr_ic_ne, xr_iconst, xr_if_lt, xr_if_ne, xr_iret, xtl_n, xtl_s, xz_i, xz_l, xz_n, xz_r, wb_6_status_0, wb_6_status_1, wb_6_status_3, wb_6_status_4, wb_6_status_5, wb_6_status_6, ss_6_status, zz_b, zz_bn, Classical.not_not, true_and, Nat.reduceAdd, Nat.reduceLeDiff, sp_5_isWithin, sp_6_in, c1, c2, true_implies, false_implies, implies_true, not_true_eq_false, not_false_eq_true, and_true, false_and, and_false, if_true, if_false, Int.reduceEq, Int.reduceSub, Int.reduceAdd, Int.reduceMul, Int.reduceNeg, Int.reduceLT, Int.reduceLE, Int.add_zero]
      have e7 : foF (a 62) x 7 = a 52 x := by rw [foF_x (by omega), if_pos (by omega)]; exact q.2
      have bd : ∀ d : Nat, 0 ≤ foF (a 62) x d ∧ foF (a 62) x d ≤ 1000 := fun d => by
        rw [foF_x (by omega)]
        split <;> omega
      refine lp_up (m := 7) (P := fun d => dk_WP g_6_status b_6_status (OPQ n xs N (some (.inl (a 52 x)))) 2 [some (.inr (.inr 53)), some (.inl x), some (.inl (foF (a 62) x d)), some (.inl d)] [] (HH n xs w a i)) ?_ ?_ 0 (Nat.zero_le _)
      · rw [wb_6_status_2]
        have b7 := bd 7
        simp (disch := first | assumption | omega | exact zc_lo | exact zc_hi | exact zz_l | exact zz_u | exact zz_r) only [xa_62, xc_2 gc_6_status_1, xc_3 gc_6_status_0, xl_aload0, xl_iinc3a, xl_iinc3i, xl_iinc3n, xl_iload1, xl_iload2, xl_iload3, xl_istore2a, xl_istore2i, xl_istore2n, xl_istore3a, xl_istore3i, xl_istore3n, xm_f, xm_n, xm_t, xn_1, xn_3, xn_4, xn_6, xo_53_12, xr_goto, xr_iadd, xr_ic_ge, xr_ic_ne, xr_iconst, xr_if_lt, xr_if_ne, xr_iret, xtl_n, xtl_s, xz_i, xz_l, xz_n, xz_r, wb_6_status_0, wb_6_status_1, wb_6_status_3, wb_6_status_4, wb_6_status_5, wb_6_status_6, zz_b, zz_bn, Classical.not_not, true_and, Nat.reduceAdd, Nat.reduceLeDiff]
        rw [e7]
        exact ⟨fun _ => OPQ_i (by omega) (by omega) (Inv_1 h), fun z => absurd (by omega) z⟩
      · intro d hdm ih
        have bdd := bd d
        rw [show foF (a 62) x (d + 1) = foF (a 62) x d + (if x = d then a 62 d else 0) from rfl] at ih
        rw [wb_6_status_2]
        simp (disch := first | assumption | omega | exact zc_lo | exact zc_hi | exact zz_l | exact zz_u | exact zz_r) only [xa_62, xc_2 gc_6_status_1, xc_3 gc_6_status_0, xl_aload0, xl_iinc3a, xl_iinc3i, xl_iinc3n, xl_iload1, xl_iload2, xl_iload3, xl_istore2a, xl_istore2i, xl_istore2n, xl_istore3a, xl_istore3i, xl_istore3n, xm_f, xm_n, xm_t, xn_1, xn_3, xn_4, xn_6, xo_53_12, xr_goto, xr_iadd, xr_ic_ge, xr_ic_ne, xr_iconst, xr_if_lt, xr_if_ne, xr_iret, xtl_n, xtl_s, xz_i, xz_l, xz_n, xz_r, wb_6_status_0, wb_6_status_1, wb_6_status_3, wb_6_status_4, wb_6_status_5, wb_6_status_6, zz_b, zz_bn, Classical.not_not, true_and, Nat.reduceAdd, Nat.reduceLeDiff]
        rw [cs d]
        refine ⟨fun z => absurd z (by omega), fun _ => ⟨fun z => absurd z c2, fun _ => ⟨fun z => ?_, fun z => ?_⟩⟩⟩
        · rw [if_neg (by omega)] at ih; exact ih
        · rw [if_pos (by omega)] at ih; exact ih
  · simp (disch := first | assumption | omega | exact zc_lo | exact zc_hi | exact zz_l | exact zz_u | exact zz_r) only [xa_52, xc_2 gc_5_status_1, xc_3 gc_5_status_0, xl_aload0, xl_iinc3a, xl_iinc3i, xl_iinc3n, xl_iload1, xl_iload2, xl_iload3, xl_istore2a, xl_istore2i, xl_istore2n, xl_istore3a, xl_istore3i, xl_istore3n, xm_f, xm_n, xm_t, xn_1, xn_2, xn_4, xo_0_10, xr_goto, xr_iadd, xr_ic_ge, xr_iconst, xr_if_lt, xr_if_ne, xr_iret, xtl_n, xtl_s, xz_i, xz_l, xz_n, xz_r, wb_5_status_0, wb_5_status_1, wb_5_status_2, wb_5_status_4, ss_5_status, xa_62, xc_2 gc_6_status_1, xc_3 gc_6_status_0, xl_aload0, xl_iinc3a, xl_iinc3i, xl_iinc3n, xl_iload1, xl_iload2, xl_iload3, xl_istore2a, xl_istore2i, xl_istore2n, xl_istore3a, xl_istore3i, xl_istore3n, xm_f, xm_n, xm_t, xn_1, xn_3, xn_4, xn_6, xo_53_12, xr_goto, xr_iadd, xr_ic_ge, xr_ic_ne, xr_iconst, xr_if_lt, xr_if_ne, xr_iret, xtl_n, xtl_s, xz_i, xz_l, xz_n, xz_r, wb_6_status_0, wb_6_status_1, wb_6_status_3, wb_6_status_4, wb_6_status_5, wb_6_status_6, ss_6_status, zz_b, zz_bn, Classical.not_not, true_and, Nat.reduceAdd, Nat.reduceLeDiff, sp_5_isWithin, sp_6_in, sp_5_finding, sp_6_finds, c1, true_implies, false_implies, implies_true, not_true_eq_false, not_false_eq_true, and_true, false_and, and_false, if_true, if_false, Int.reduceEq, Int.reduceSub, Int.reduceAdd, Int.reduceMul, Int.reduceNeg, Int.reduceLT, Int.reduceLE, Int.add_zero]
    exact fnd h 0 (by omega) (by omega)
end OPB
