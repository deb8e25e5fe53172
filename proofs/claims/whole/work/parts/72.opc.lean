/-! CALLS OF BOTH: rules, changes -/
theorem wr_id {x p : Int} (hp : 0 < p) (h1 : -p < 2 * x) (h2 : 2 * x ≤ p) : wr x p = x := by
  unfold wr
  by_cases h : 0 ≤ x
  · rw [Int.emod_eq_of_lt h (by omega), if_neg (by omega)]
  · have e : x % p = x + p := by
      have e1 : x = (x + p) + p * (-1) := by omega
      have e2 : (x + p + p * (-1)) % p = (x + p) % p := Int.add_mul_emod_self_left _ _ _
      rw [← e1] at e2
      rw [e2]
      exact Int.emod_eq_of_lt (by omega) (by omega)
    rw [e, if_pos (by omega)]
    omega
theorem up_up {α : Type} {f : Nat → α} {k : Nat} {x y : α} : dk_up (dk_up f k x) k y = dk_up f k y := by
  funext j
  by_cases e : j = k
  · subst e; rw [up_s, up_s]
  · rw [up_n e, up_n e, up_n e]
theorem up_id {α : Type} {f : Nat → α} {k : Nat} : dk_up f k (f k) = f := by
  funext j
  by_cases e : j = k
  · subst e; rw [up_s]
  · rw [up_n e]
section OPC
variable {N : Int} {n : Nat} {xs : Int → Int} {w : Nat → Nat} {a : Nat → Int → Int} {i : Nat → Int} {Q : dk_Q}
theorem sp_0_wrapAnew (hp : 100 ≤ a 2 0 ∧ a 2 0 ≤ 2000) (hn : 0 ≤ i 0 ∧ i 0 ≤ 24) (ho : ∀ r, 0 ≤ r → r < i 0 → -1000 ≤ a 8 r ∧ a 8 r ≤ 1000) : (∀ f, (∀ r, 0 ≤ r → r < i 0 → f r = wr (a 8 r) (a 2 0)) → Q none (HH n xs w (dk_up a 8 f) i)) → s_0_wrapAnew [.inr (.inr 1)] (HH n xs w a i) Q := by
  intro hQ
  obtain ⟨m, hm⟩ := nat_of hn.1
  obtain ⟨hp1, hp2⟩ := hp
  have hn2 := hn.2
  simp (disch := first | assumption | omega | exact zc_lo | exact zc_hi | exact zz_l | exact zz_u | exact zz_r) only [xa_8, xc_2 gc_0_wrapAnew_0, xl_aload0, xl_iinc1a, xl_iinc1i, xl_iinc1n, xl_iload1, xl_istore1a, xl_istore1i, xl_istore1n, xm_f, xm_n, xm_t, xn_2, xo_1_1, xo_1_7, xr_goto, xr_ic_ge, xr_iconst, xr_vret, xs_8, xtl_n, xtl_s, xz_i, xz_l, xz_n, xz_r, wb_0_wrapAnew_0, wb_0_wrapAnew_2, ss_0_wrapAnew_1, ss_0_wrapAnew_14, zz_b, zz_bn, Classical.not_not, true_and, Nat.reduceAdd, Nat.reduceLeDiff]
  suffices hP : ∀ d, d ≤ m → ∀ f, (∀ r : Int, 0 ≤ r → r < d → f r = wr (a 8 r) (a 2 0)) → (∀ r : Int, d ≤ r → f r = a 8 r) → dk_WP g_0_wrapAnew b_0_wrapAnew Q 1 [some (.inr (.inr 1)), some (.inl d)] [] (HH n xs w (dk_up a 8 f) i) by
    have q := hP 0 (Nat.zero_le _) (a 8) (fun r z1 z2 => by omega) (fun _ _ => rfl)
    rw [up_id] at q
    exact q
  refine lp_up ?_ ?_
  · intro f hf hg
    rw [wb_0_wrapAnew_1]
    simp (disch := first | assumption | omega | exact zc_lo | exact zc_hi | exact zz_l | exact zz_u | exact zz_r) only [xa_8, xc_2 gc_0_wrapAnew_0, xl_aload0, xl_iinc1a, xl_iinc1i, xl_iinc1n, xl_iload1, xl_istore1a, xl_istore1i, xl_istore1n, xm_f, xm_n, xm_t, xn_2, xo_1_1, xo_1_7, xr_goto, xr_ic_ge, xr_iconst, xr_vret, xs_8, xtl_n, xtl_s, xz_i, xz_l, xz_n, xz_r, wb_0_wrapAnew_0, wb_0_wrapAnew_2, zz_b, zz_bn, Classical.not_not, true_and, Nat.reduceAdd, Nat.reduceLeDiff]
    exact ⟨fun _ => hQ f (fun r z1 z2 => hf r z1 (by omega)), fun z => absurd (by omega) z⟩
  · intro d hdm ih f hf hg
    have q := ho d (by omega) (by omega)
    have e8 : dk_up a 8 f 8 d = a 8 d := by rw [up_s]; exact hg d (by omega)
    have e2 : dk_up a 8 f 2 = a 2 := up_n (by decide)
    have P1 : 100 ≤ dk_up a 8 f 2 0 := by rw [e2]; exact hp1
    have P2 : dk_up a 8 f 2 0 ≤ 2000 := by rw [e2]; exact hp2
    rw [wb_0_wrapAnew_1]
    simp (disch := first | assumption | omega | exact zc_lo | exact zc_hi | exact zz_l | exact zz_u | exact zz_r) only [xa_8, xc_2 gc_0_wrapAnew_0, xl_aload0, xl_iinc1a, xl_iinc1i, xl_iinc1n, xl_iload1, xl_istore1a, xl_istore1i, xl_istore1n, xm_f, xm_n, xm_t, xn_2, xo_1_1, xo_1_7, xr_goto, xr_ic_ge, xr_iconst, xr_vret, xs_8, xtl_n, xtl_s, xz_i, xz_l, xz_n, xz_r, wb_0_wrapAnew_0, wb_0_wrapAnew_2, zz_b, zz_bn, Classical.not_not, true_and, Nat.reduceAdd, Nat.reduceLeDiff, e8, sp_0_wrap]
    rw [cs d, e2, up_up, up_s]
    refine ⟨fun z => absurd z (by omega), fun _ => ih _ (fun r z1 z2 => ?_) (fun r z => ?_)⟩
    · by_cases e : r = d
      · subst e; rw [ui_s]
      · rw [ui_n e]; exact hf r z1 (by omega)
    · rw [ui_n (by omega)]; exact hg r (by omega)
theorem lp_6_rule (hp : 100 ≤ a 54 0 ∧ a 54 0 ≤ 2000) (hn : 0 ≤ i 30 ∧ i 30 ≤ 24) (ho : ∀ r, 0 ≤ r → r < i 30 → -1000 ≤ a 58 r ∧ a 58 r ≤ 1000) {z : Int} {l1 l2 : Option dk_V} : (∀ f, (∀ r, 0 ≤ r → r < i 30 → f r = wr (a 58 r) (a 54 0)) → Q (some (.inl z)) (HH n xs w (dk_up a 58 f) i)) → dk_WP g_6_rule b_6_rule Q 5 [some (.inr (.inr 53)), l1, l2, some (.inl z), some (.inl 0)] [] (HH n xs w a i) := by
  intro hQ
  obtain ⟨m, hm⟩ := nat_of hn.1
  obtain ⟨hp1, hp2⟩ := hp
  have hn2 := hn.2
  suffices hP : ∀ d, d ≤ m → ∀ f (l1 l2 : Option dk_V), (∀ r : Int, 0 ≤ r → r < d → f r = wr (a 58 r) (a 54 0)) → (∀ r : Int, d ≤ r → f r = a 58 r) → dk_WP g_6_rule b_6_rule Q 5 [some (.inr (.inr 53)), l1, l2, some (.inl z), some (.inl d)] [] (HH n xs w (dk_up a 58 f) i) by
    have q := hP 0 (Nat.zero_le _) (a 58) l1 l2 (fun r z1 z2 => by omega) (fun _ _ => rfl)
    rw [up_id] at q
    exact q
  refine lp_up ?_ ?_
  · intro f l1 l2 hf hg
    rw [wb_6_rule_5]
    simp (disch := first | assumption | omega | exact zc_lo | exact zc_hi | exact zz_l | exact zz_u | exact zz_r) only [xa_54, xa_55, xa_56, xa_58, xc_2 gc_6_rule_1, xc_2 gc_6_rule_2, xc_3 gc_6_rule_0, xl_aload0, xl_iinc4a, xl_iinc4i, xl_iinc4n, xl_iload1, xl_iload2, xl_iload3, xl_iload4, xl_istore3a, xl_istore3i, xl_istore3n, xl_istore4a, xl_istore4i, xl_istore4n, xm_f, xm_n, xm_t, xn_1, xn_3, xn_4, xn_6, xo_53_0, xo_53_1, xo_53_2, xo_53_3, xo_53_5, xr_goto, xr_i2l, xr_ic_ge, xr_ic_le, xr_ic_lt, xr_iconst, xr_if_eq, xr_iret, xs_54, xs_55, xs_56, xs_58, xtl_n, xtl_s, xz_i, xz_l, xz_n, xz_r, wb_6_rule_0, wb_6_rule_1, wb_6_rule_2, wb_6_rule_3, wb_6_rule_4, wb_6_rule_6, zz_b, zz_bn, Classical.not_not, true_and, Nat.reduceAdd, Nat.reduceLeDiff]
    exact ⟨fun _ => hQ f (fun r z1 z2 => hf r z1 (by omega)), fun z => absurd (by omega) z⟩
  · intro d hdm ih f l1 l2 hf hg
    have q := ho d (by omega) (by omega)
    have e8 : dk_up a 58 f 58 d = a 58 d := by rw [up_s]; exact hg d (by omega)
    have e2 : dk_up a 58 f 54 = a 54 := up_n (by decide)
    have P1 : 100 ≤ dk_up a 58 f 54 0 := by rw [e2]; exact hp1
    have P2 : dk_up a 58 f 54 0 ≤ 2000 := by rw [e2]; exact hp2
    rw [wb_6_rule_5]
    simp (disch := first | assumption | omega | exact zc_lo | exact zc_hi | exact zz_l | exact zz_u | exact zz_r) only [xa_54, xa_55, xa_56, xa_58, xc_2 gc_6_rule_1, xc_2 gc_6_rule_2, xc_3 gc_6_rule_0, xl_aload0, xl_iinc4a, xl_iinc4i, xl_iinc4n, xl_iload1, xl_iload2, xl_iload3, xl_iload4, xl_istore3a, xl_istore3i, xl_istore3n, xl_istore4a, xl_istore4i, xl_istore4n, xm_f, xm_n, xm_t, xn_1, xn_3, xn_4, xn_6, xo_53_0, xo_53_1, xo_53_2, xo_53_3, xo_53_5, xr_goto, xr_i2l, xr_ic_ge, xr_ic_le, xr_ic_lt, xr_iconst, xr_if_eq, xr_iret, xs_54, xs_55, xs_56, xs_58, xtl_n, xtl_s, xz_i, xz_l, xz_n, xz_r, wb_6_rule_0, wb_6_rule_1, wb_6_rule_2, wb_6_rule_3, wb_6_rule_4, wb_6_rule_6, zz_b, zz_bn, Classical.not_not, true_and, Nat.reduceAdd, Nat.reduceLeDiff, e8, sp_6_wrapped]
    rw [cs d, e2, up_up, up_s]
    refine ⟨fun z => absurd z (by omega), fun _ => ih _ _ _ (fun r z1 z2 => ?_) (fun r z => ?_)⟩
    · by_cases e : r = d
      · subst e; rw [ui_s]
      · rw [ui_n e]; exact hf r z1 (by omega)
    · rw [ui_n (by omega)]; exact hg r (by omega)
theorem hh_leV : hh_le 0 = 100 ∧ hh_le 1 = 500 ∧ hh_le 2 = -200 ∧ hh_le 3 = 0 ∧ hh_le 4 = -999 ∧ hh_le 5 = 0 ∧ hh_le 6 = 0 := by decide
theorem hh_moV : hh_mo 0 = 2000 ∧ hh_mo 1 = 2000 ∧ hh_mo 2 = 200 ∧ hh_mo 3 = 500 ∧ hh_mo 4 = 999 ∧ hh_mo 5 = 999 ∧ hh_mo 6 = 999 := by decide
/-- the invariant with one rule told anew, and what is out -/
theorem Inv_rule (h : Inv N w a i) {x v : Int} (hx : 0 ≤ x ∧ x ≤ 6) (hv : hh_le x ≤ v ∧ v ≤ hh_mo x) {f g : Int → Int} (hf : ∀ r, 0 ≤ r → r < i 0 → -(dk_ui (a 2) x v 0) < 2 * f r ∧ 2 * f r ≤ dk_ui (a 2) x v 0) (hg : ∀ r, 0 ≤ r → r < i 0 → g r = f r) : Inv (N + 1) w (dk_up (dk_up (dk_up (dk_up a 2 (dk_ui (a 2) x v)) 8 f) 54 (dk_ui (a 54) x v)) 58 g) i := by
  have hfi := fi_ok h
  have hc := h.2.1
  have hag := h.2.2.1
  have hmc := colN_A hag hc
  obtain ⟨⟨p1, p2⟩, ⟨s1, s2⟩, ⟨v1, v2⟩, ⟨n1, n2⟩, ⟨o1, o2⟩, ⟨d1, d2⟩, ⟨e1, e2⟩, ⟨k1, k2⟩, hr, ⟨m1, m2⟩, hd, ⟨b1, b2⟩, hb, hs, hz⟩ := id hc
  obtain ⟨hkE, hA2, hA3, hA4, hA5, hA6⟩ := id hag
  have K0 : i 30 = i 0 := hkE 0 (by omega)
  have K1 : i 31 = i 1 := hkE 1 (by omega)
  have K2 : i 32 = i 2 := hkE 2 (by omega)
  have K3 : i 33 = i 3 := hkE 3 (by omega)
  have R0 : a 54 0 = a 2 0 := hA2 0 (by omega) (by omega)
  have R1 : a 54 1 = a 2 1 := hA2 1 (by omega) (by omega)
  have R2 : a 54 2 = a 2 2 := hA2 2 (by omega) (by omega)
  have R3 : a 54 3 = a 2 3 := hA2 3 (by omega) (by omega)
  have R4 : a 54 4 = a 2 4 := hA2 4 (by omega) (by omega)
  have R5 : a 54 5 = a 2 5 := hA2 5 (by omega) (by omega)
  have R6 : a 54 6 = a 2 6 := hA2 6 (by omega) (by omega)
  obtain ⟨l0, l1, l2, l3, l4, l5, l6⟩ := hh_leV
  obtain ⟨t0, t1, t2, t3, t4, t5, t6⟩ := hh_moV
  obtain ⟨g1, -, -, g4, g5, g6, -, g8⟩ := h
  have key : ∀ k : Int, 0 ≤ k → k ≤ 6 → hh_le k ≤ a 2 k → a 2 k ≤ hh_mo k → hh_le k ≤ dk_ui (a 2) x v k ∧ dk_ui (a 2) x v k ≤ hh_mo k := by
    intro k z1 z2 z3 z4
    by_cases e : k = x
    · subst e; rw [ui_s]; exact hv
    · rw [ui_n e]; exact ⟨z3, z4⟩
  refine ⟨g1, ⟨?_, ?_, ?_, ?_, ?_, ?_, ?_, ⟨k1, k2⟩, fun r z1 z2 => ?_, ⟨m1, m2⟩, hd, ⟨b1, b2⟩, hb, hs, hz⟩, ⟨hkE, fun j z1 z2 => ?_, fun r z1 z2 => ?_, hA4, hA5, hA6⟩, g4, g5, g6, hfi, g8⟩
  · have := key 0 (by omega) (by omega) (by omega) (by omega); rw [l0, t0] at this; exact this
  · have := key 1 (by omega) (by omega) (by omega) (by omega); rw [l1, t1] at this; exact this
  · have := key 2 (by omega) (by omega) (by omega) (by omega); rw [l2, t2] at this; exact this
  · have := key 3 (by omega) (by omega) (by omega) (by omega); rw [l3, t3] at this; exact this
  · have := key 4 (by omega) (by omega) (by omega) (by omega); rw [l4, t4] at this; exact this
  · have := key 5 (by omega) (by omega) (by omega) (by omega); rw [l5, t5] at this; exact this
  · have := key 6 (by omega) (by omega) (by omega) (by omega); rw [l6, t6] at this; exact this
  · obtain ⟨q1, q2, q3, q4, q5, -⟩ := hr r z1 z2
    exact ⟨q1, q2, q3, q4, q5, hf r z1 z2⟩
  · show dk_ui (a 54) x v j = dk_ui (a 2) x v j
    by_cases e : j = x
    · subst e; rw [ui_s, ui_s]
    · rw [ui_n e, ui_n e]; exact hA2 j z1 z2
  · obtain ⟨q1, q2, q3, q4, q5, -⟩ := hA3 r z1 z2
    exact ⟨q1, q2, q3, q4, q5, hg r z1 z2⟩
theorem op_rule (h : Inv N w a i) {x y : Int} (x1 : -2147483648 ≤ x) (x2 : x ≤ 2147483647) (y1 : -2147483648 ≤ y) (y2 : y ≤ 2147483647) : s_5_rule [.inr (.inr 0), .inl x, .inl y] (HH n xs w a i) (fun r h => s_6_rule [.inr (.inr 53), .inl x, .inl y] h (OPQ n xs N r)) := by
  have hc := h.2.1
  have hag := h.2.2.1
  have hmc := colN_A hag hc
  obtain ⟨⟨p1, p2⟩, ⟨s1, s2⟩, ⟨v1, v2⟩, ⟨n1, n2⟩, ⟨o1, o2⟩, ⟨d1, d2⟩, ⟨e1, e2⟩, ⟨k1, k2⟩, hr, ⟨m1, m2⟩, hd, ⟨b1, b2⟩, hb, hs, hz⟩ := id hc
  obtain ⟨hkE, hA2, hA3, hA4, hA5, hA6⟩ := id hag
  have K0 : i 30 = i 0 := hkE 0 (by omega)
  have K1 : i 31 = i 1 := hkE 1 (by omega)
  have K2 : i 32 = i 2 := hkE 2 (by omega)
  have K3 : i 33 = i 3 := hkE 3 (by omega)
  have R0 : a 54 0 = a 2 0 := hA2 0 (by omega) (by omega)
  have R1 : a 54 1 = a 2 1 := hA2 1 (by omega) (by omega)
  have R2 : a 54 2 = a 2 2 := hA2 2 (by omega) (by omega)
  have R3 : a 54 3 = a 2 3 := hA2 3 (by omega) (by omega)
  have R4 : a 54 4 = a 2 4 := hA2 4 (by omega) (by omega)
  have R5 : a 54 5 = a 2 5 := hA2 5 (by omega) (by omega)
  have R6 : a 54 6 = a 2 6 := hA2 6 (by omega) (by omega)
  by_cases c1 : 0 ≤ x ∧ x ≤ 6
  · obtain ⟨g55, g56⟩ := h.2.2.2.2.2.2.2 x c1.1 (by omega)
    have bb : -2147483648 ≤ hh_le x ∧ hh_le x ≤ 2147483647 ∧ -2147483648 ≤ hh_mo x ∧ hh_mo x ≤ 2147483647 := by
      obtain ⟨l0, l1, l2, l3, l4, l5, l6⟩ := hh_leV
      obtain ⟨t0, t1, t2, t3, t4, t5, t6⟩ := hh_moV
      rcases (show x = 0 ∨ x = 1 ∨ x = 2 ∨ x = 3 ∨ x = 4 ∨ x = 5 ∨ x = 6 by omega) with rfl | rfl | rfl | rfl | rfl | rfl | rfl <;> omega
    obtain ⟨bb1, bb2, bb3, bb4⟩ := bb
    have er : a 54 x = a 2 x := hA2 x c1.1 (by omega)
    have rb : -2147483648 ≤ a 2 x ∧ a 2 x ≤ 2147483647 := by
      rcases (show x = 0 ∨ x = 1 ∨ x = 2 ∨ x = 3 ∨ x = 4 ∨ x = 5 ∨ x = 6 by omega) with rfl | rfl | rfl | rfl | rfl | rfl | rfl <;> omega
    by_cases c2 : hh_le x ≤ y ∧ y ≤ hh_mo x
    · have c3 : ¬ y < hh_le x := by omega
      have ob : ∀ r, 0 ≤ r → r < i 0 → -1000 ≤ a 8 r ∧ a 8 r ≤ 1000 := fun r z1 z2 => by have := (hr r z1 z2).2.2.2.2.2; omega
      have pc : 100 ≤ dk_ui (a 2) x y 0 ∧ dk_ui (a 2) x y 0 ≤ 2000 := by
        by_cases e : x = 0
        · subst e; rw [ui_s]
          obtain ⟨l0, -⟩ := hh_leV
          obtain ⟨t0, -⟩ := hh_moV
          omega
        · rw [ui_n (fun z => e z.symm)]; exact ⟨p1, p2⟩
      have p54 : dk_ui (a 54) x y 0 = dk_ui (a 2) x y 0 := by
        by_cases e : x = 0
        · subst e; rw [ui_s, ui_s]
        · rw [ui_n (fun z => e z.symm), ui_n (fun z => e z.symm)]; exact R0
      -- the reference, behind what the class did of its own column
      have mdl : ∀ f, (∀ r, 0 ≤ r → r < i 0 → f r = wr (a 8 r) (dk_ui (a 2) x y 0)) → s_6_rule [.inr (.inr 53), .inl x, .inl y] (HH n xs w (dk_up (dk_up a 2 (dk_ui (a 2) x y)) 8 f) i) (OPQ n xs N (some (.inl (a 2 x)))) := by
        intro f hf
        have u55 : dk_up (dk_up a 2 (dk_ui (a 2) x y)) 8 f 55 = a 55 := by rw [up_n (by decide), up_n (by decide)]
        have u56 : dk_up (dk_up a 2 (dk_ui (a 2) x y)) 8 f 56 = a 56 := by rw [up_n (by decide), up_n (by decide)]
        have u54 : dk_up (dk_up a 2 (dk_ui (a 2) x y)) 8 f 54 = a 54 := by rw [up_n (by decide), up_n (by decide)]
        simp (disch := first | assumption | omega | exact zc_lo | exact zc_hi | exact zz_l | exact zz_u | exact zz_r) only [xa_54, xa_55, xa_56, xa_58, xc_2 gc_6_rule_1, xc_2 gc_6_rule_2, xc_3 gc_6_rule_0, xl_aload0, xl_iinc4a, xl_iinc4i, xl_iinc4n, xl_iload1, xl_iload2, xl_iload3, xl_iload4, xl_istore3a, xl_istore3i, xl_istore3n, xl_istore4a, xl_istore4i, xl_istore4n, xm_f, xm_n, xm_t, xn_1, xn_3, xn_4, xn_6, xo_53_0, xo_53_1, xo_53_2, xo_53_3, xo_53_5, xr_goto, xr_i2l, xr_ic_ge, xr_ic_le, xr_ic_lt, xr_iconst, xr_if_eq, xr_iret, xs_54, xs_55, xs_56, xs_58, xtl_n, xtl_s, xz_i, xz_l, xz_n, xz_r, wb_6_rule_0, wb_6_rule_1, wb_6_rule_2, wb_6_rule_3, wb_6_rule_4, wb_6_rule_6, ss_6_rule, zz_b, zz_bn, Classical.not_not, true_and, Nat.reduceAdd, Nat.reduceLeDiff, sp_6_in, c1, c2, c3, u55, u56, u54, g55, g56, er, true_implies, false_implies, implies_true, not_true_eq_false, not_false_eq_true, and_true, false_and, and_false, if_true, if_false, Int.reduceEq, Int.reduceSub, Int.reduceAdd, Int.reduceMul, Int.reduceNeg, Int.reduceLT, Int.reduceLE, Int.add_zero]
        refine lp_6_rule (by rw [up_s, p54]; exact pc) (by omega) (fun r z1 z2 => ?_) (fun g hg => ?_)
        · rw [up_n (by decide), up_n (by decide), up_n (by decide)]
          rw [show a 58 r = a 8 r from (hA3 r z1 (by omega)).2.2.2.2.2]
          exact ob r z1 (by omega)
        · refine OPQ_i rb.1 rb.2 (Inv_rule h c1 c2 (fun r z1 z2 => ?_) (fun r z1 z2 => ?_))
          · rw [hf r z1 z2]; exact wr_bd _ (by omega)
          · rw [hg r z1 (by omega), hf r z1 z2, up_s, p54, up_n (by decide), up_n (by decide), up_n (by decide)]
            rw [show a 58 r = a 8 r from (hA3 r z1 z2).2.2.2.2.2]
      by_cases c4 : x = 0
      · subst c4
        simp (disch := first | assumption | omega | exact zc_lo | exact zc_hi | exact zz_l | exact zz_u | exact zz_r) only [xa_101, xa_102, xa_2, xc_1 gc_5_rule_2, xc_2 gc_5_rule_1, xc_3 gc_5_rule_0, xl_aload0, xl_iload1, xl_iload2, xl_iload3, xl_istore3a, xl_istore3i, xl_istore3n, xm_f, xm_n, xm_t, xn_1, xn_2, xn_3, xo_0_0, xo_1_0, xr_goto, xr_iconst, xr_if_eq, xr_if_ne, xr_iret, xr_ref, xs_2, xtl_n, xtl_s, xz_i, xz_l, xz_n, xz_r, wb_5_rule_0, wb_5_rule_1, wb_5_rule_2, wb_5_rule_3, ss_5_rule, zz_b, zz_bn, Classical.not_not, true_and, Nat.reduceAdd, Nat.reduceLeDiff, sp_5_isWithin, c1, c2, eq_self, true_implies, false_implies, implies_true, not_true_eq_false, not_false_eq_true, and_true, false_and, and_false, if_true, if_false, Int.reduceEq, Int.reduceSub, Int.reduceAdd, Int.reduceMul, Int.reduceNeg, Int.reduceLT, Int.reduceLE, Int.add_zero]
        refine sp_0_wrapAnew (a := dk_up a 2 (dk_ui (a 2) 0 y)) (by rw [up_s]; exact pc) ⟨k1, k2⟩ (fun r z1 z2 => by rw [up_n (by decide)]; exact ob r z1 z2) (fun f hf => ?_)
        simp (disch := first | assumption | omega | exact zc_lo | exact zc_hi | exact zz_l | exact zz_u | exact zz_r) only [xa_101, xa_102, xa_2, xc_1 gc_5_rule_2, xc_2 gc_5_rule_1, xc_3 gc_5_rule_0, xl_aload0, xl_iload1, xl_iload2, xl_iload3, xl_istore3a, xl_istore3i, xl_istore3n, xm_f, xm_n, xm_t, xn_1, xn_2, xn_3, xo_0_0, xo_1_0, xr_goto, xr_iconst, xr_if_eq, xr_if_ne, xr_iret, xr_ref, xs_2, xtl_n, xtl_s, xz_i, xz_l, xz_n, xz_r, wb_5_rule_0, wb_5_rule_1, wb_5_rule_2, wb_5_rule_3, zz_b, zz_bn, Classical.not_not, true_and, Nat.reduceAdd, Nat.reduceLeDiff, true_implies, false_implies, implies_true, not_true_eq_false, not_false_eq_true, and_true, false_and, and_false, if_true, if_false, Int.reduceEq, Int.reduceSub, Int.reduceAdd, Int.reduceMul, Int.reduceNeg, Int.reduceLT, Int.reduceLE, Int.add_zero]
        refine mdl f (fun r z1 z2 => ?_)
        rw [hf r z1 z2, up_n (by decide), up_s]
      · simp (disch := first | assumption | omega | exact zc_lo | exact zc_hi | exact zz_l | exact zz_u | exact zz_r) only [xa_101, xa_102, xa_2, xc_1 gc_5_rule_2, xc_2 gc_5_rule_1, xc_3 gc_5_rule_0, xl_aload0, xl_iload1, xl_iload2, xl_iload3, xl_istore3a, xl_istore3i, xl_istore3n, xm_f, xm_n, xm_t, xn_1, xn_2, xn_3, xo_0_0, xo_1_0, xr_goto, xr_iconst, xr_if_eq, xr_if_ne, xr_iret, xr_ref, xs_2, xtl_n, xtl_s, xz_i, xz_l, xz_n, xz_r, wb_5_rule_0, wb_5_rule_1, wb_5_rule_2, wb_5_rule_3, ss_5_rule, zz_b, zz_bn, Classical.not_not, true_and, Nat.reduceAdd, Nat.reduceLeDiff, sp_5_isWithin, c1, c2, c4, true_implies, false_implies, implies_true, not_true_eq_false, not_false_eq_true, and_true, false_and, and_false, if_true, if_false, Int.reduceEq, Int.reduceSub, Int.reduceAdd, Int.reduceMul, Int.reduceNeg, Int.reduceLT, Int.reduceLE, Int.add_zero]
        have q := mdl (a 8) (fun r z1 z2 => by
          rw [ui_n (fun z => c4 z.symm)]
          have := (hr r z1 z2).2.2.2.2.2
          rw [wr_id (by omega) this.1 this.2])
        have e8 : dk_up (dk_up a 2 (dk_ui (a 2) x y)) 8 (a 8) = dk_up a 2 (dk_ui (a 2) x y) := by
          have : a 8 = dk_up a 2 (dk_ui (a 2) x y) 8 := (up_n (by decide)).symm
          rw [this, up_id]
        rw [e8] at q
        exact q
    · by_cases c3 : y < hh_le x
      · simp (disch := first | assumption | omega | exact zc_lo | exact zc_hi | exact zz_l | exact zz_u | exact zz_r) only [xa_101, xa_102, xa_2, xc_1 gc_5_rule_2, xc_2 gc_5_rule_1, xc_3 gc_5_rule_0, xl_aload0, xl_iload1, xl_iload2, xl_iload3, xl_istore3a, xl_istore3i, xl_istore3n, xm_f, xm_n, xm_t, xn_1, xn_2, xn_3, xo_0_0, xo_1_0, xr_goto, xr_iconst, xr_if_eq, xr_if_ne, xr_iret, xr_ref, xs_2, xtl_n, xtl_s, xz_i, xz_l, xz_n, xz_r, wb_5_rule_0, wb_5_rule_1, wb_5_rule_2, wb_5_rule_3, ss_5_rule, xa_54, xa_55, xa_56, xa_58, xc_2 gc_6_rule_1, xc_2 gc_6_rule_2, xc_3 gc_6_rule_0, xl_aload0, xl_iinc4a, xl_iinc4i, xl_iinc4n, xl_iload1, xl_iload2, xl_iload3, xl_iload4, xl_istore3a, xl_istore3i, xl_istore3n, xl_istore4a, xl_istore4i, xl_istore4n, xm_f, xm_n, xm_t, xn_1, xn_3, xn_4, xn_6, xo_53_0, xo_53_1, xo_53_2, xo_53_3, xo_53_5, xr_goto, xr_i2l, xr_ic_ge, xr_ic_le, xr_ic_lt, xr_iconst, xr_if_eq, xr_iret, xs_54, xs_55, xs_56, xs_58, xtl_n, xtl_s, xz_i, xz_l, xz_n, xz_r, wb_6_rule_0, wb_6_rule_1, wb_6_rule_2, wb_6_rule_3, wb_6_rule_4, wb_6_rule_6, ss_6_rule, zz_b, zz_bn, Classical.not_not, true_and, Nat.reduceAdd, Nat.reduceLeDiff, sp_5_isWithin, sp_6_in, sp_5_finding, sp_6_finds, c1, c2, c3, up_n (show ¬ 55 = 52 by decide), up_n (show ¬ 56 = 52 by decide), g55, g56, true_implies, false_implies, implies_true, not_true_eq_false, not_false_eq_true, and_true, false_and, and_false, if_true, if_false, Int.reduceEq, Int.reduceSub, Int.reduceAdd, Int.reduceMul, Int.reduceNeg, Int.reduceLT, Int.reduceLE, Int.add_zero]
        exact fnd h 0 (by omega) (by omega)
      · have c4 : ¬ y ≤ hh_mo x := by omega
        simp (disch := first | assumption | omega | exact zc_lo | exact zc_hi | exact zz_l | exact zz_u | exact zz_r) only [xa_101, xa_102, xa_2, xc_1 gc_5_rule_2, xc_2 gc_5_rule_1, xc_3 gc_5_rule_0, xl_aload0, xl_iload1, xl_iload2, xl_iload3, xl_istore3a, xl_istore3i, xl_istore3n, xm_f, xm_n, xm_t, xn_1, xn_2, xn_3, xo_0_0, xo_1_0, xr_goto, xr_iconst, xr_if_eq, xr_if_ne, xr_iret, xr_ref, xs_2, xtl_n, xtl_s, xz_i, xz_l, xz_n, xz_r, wb_5_rule_0, wb_5_rule_1, wb_5_rule_2, wb_5_rule_3, ss_5_rule, xa_54, xa_55, xa_56, xa_58, xc_2 gc_6_rule_1, xc_2 gc_6_rule_2, xc_3 gc_6_rule_0, xl_aload0, xl_iinc4a, xl_iinc4i, xl_iinc4n, xl_iload1, xl_iload2, xl_iload3, xl_iload4, xl_istore3a, xl_istore3i, xl_istore3n, xl_istore4a, xl_istore4i, xl_istore4n, xm_f, xm_n, xm_t, xn_1, xn_3, xn_4, xn_6, xo_53_0, xo_53_1, xo_53_2, xo_53_3, xo_53_5, xr_goto, xr_i2l, xr_ic_ge, xr_ic_le, xr_ic_lt, xr_iconst, xr_if_eq, xr_iret, xs_54, xs_55, xs_56, xs_58, xtl_n, xtl_s, xz_i, xz_l, xz_n, xz_r, wb_6_rule_0, wb_6_rule_1, wb_6_rule_2, wb_6_rule_3, wb_6_rule_4, wb_6_rule_6, ss_6_rule, zz_b, zz_bn, Classical.not_not, true_and, Nat.reduceAdd, Nat.reduceLeDiff, sp_5_isWithin, sp_6_in, sp_5_finding, sp_6_finds, c1, c2, c3, c4, up_n (show ¬ 55 = 52 by decide), up_n (show ¬ 56 = 52 by decide), g55, g56, true_implies, false_implies, implies_true, not_true_eq_false, not_false_eq_true, and_true, false_and, and_false, if_true, if_false, Int.reduceEq, Int.reduceSub, Int.reduceAdd, Int.reduceMul, Int.reduceNeg, Int.reduceLT, Int.reduceLE, Int.add_zero]
        exact fnd h 0 (by omega) (by omega)
  · simp (disch := first | assumption | omega | exact zc_lo | exact zc_hi | exact zz_l | exact zz_u | exact zz_r) only [xa_101, xa_102, xa_2, xc_1 gc_5_rule_2, xc_2 gc_5_rule_1, xc_3 gc_5_rule_0, xl_aload0, xl_iload1, xl_iload2, xl_iload3, xl_istore3a, xl_istore3i, xl_istore3n, xm_f, xm_n, xm_t, xn_1, xn_2, xn_3, xo_0_0, xo_1_0, xr_goto, xr_iconst, xr_if_eq, xr_if_ne, xr_iret, xr_ref, xs_2, xtl_n, xtl_s, xz_i, xz_l, xz_n, xz_r, wb_5_rule_0, wb_5_rule_1, wb_5_rule_2, wb_5_rule_3, ss_5_rule, xa_54, xa_55, xa_56, xa_58, xc_2 gc_6_rule_1, xc_2 gc_6_rule_2, xc_3 gc_6_rule_0, xl_aload0, xl_iinc4a, xl_iinc4i, xl_iinc4n, xl_iload1, xl_iload2, xl_iload3, xl_iload4, xl_istore3a, xl_istore3i, xl_istore3n, xl_istore4a, xl_istore4i, xl_istore4n, xm_f, xm_n, xm_t, xn_1, xn_3, xn_4, xn_6, xo_53_0, xo_53_1, xo_53_2, xo_53_3, xo_53_5, xr_goto, xr_i2l, xr_ic_ge, xr_ic_le, xr_ic_lt, xr_iconst, xr_if_eq, xr_iret, xs_54, xs_55, xs_56, xs_58, xtl_n, xtl_s, xz_i, xz_l, xz_n, xz_r, wb_6_rule_0, wb_6_rule_1, wb_6_rule_2, wb_6_rule_3, wb_6_rule_4, wb_6_rule_6, ss_6_rule, zz_b, zz_bn, Classical.not_not, true_and, Nat.reduceAdd, Nat.reduceLeDiff, sp_5_isWithin, sp_6_in, sp_5_finding, sp_6_finds, c1, true_implies, false_implies, implies_true, not_true_eq_false, not_false_eq_true, and_true, false_and, and_false, if_true, if_false, Int.reduceEq, Int.reduceSub, Int.reduceAdd, Int.reduceMul, Int.reduceNeg, Int.reduceLT, Int.reduceLE, Int.add_zero]
    exact fnd h 0 (by omega) (by omega)
end OPC
