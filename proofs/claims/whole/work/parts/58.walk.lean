/-! SENSES PREPARED; TURNS; WALKS -/
def spR (a : Nat → Int → Int) (i : Nat → Int) (a2 : Nat → Int → Int) (r : Int) : Prop := a2 41 r = (if 0 < r ∧ ¬ bnF a i r = true then 1 else 0) ∧ (a 3 r = 4 → a2 42 r = nrF a r (i 0).toNat ∧ ∀ o, 0 ≤ o → o < i 0 → a2 43 (r * 24 + o) = if neB a r o = true then lagF (a 2 1) (a 2 2) (a 4 o) (a 4 r) else -2000000000)
def SP (a : Nat → Int → Int) (i : Nat → Int) (a2 : Nat → Int → Int) (i2 : Nat → Int) : Prop := i2 24 = a 2 0 ∧ ∀ r, 0 ≤ r → r < i 0 → a2 40 r = beF a i r ∧ spR a i a2 r
theorem SP_E {a b a2 : Nat → Int → Int} {i j i2 : Nat → Int} (h : cE a b) (h2 : kE i j) (hs : SP a i a2 i2) : SP b j a2 i2 := by
  refine ⟨by rw [h 2 (by omega) (by omega)]; exact hs.1, fun r h0 h1 => ?_⟩
  rw [h2 0 (by omega)] at h1
  obtain ⟨e1, e2, e3⟩ := hs.2 r h0 h1
  refine ⟨by rw [beF_E h h2]; exact e1, by rw [bnF_E h h2]; exact e2, fun z => ?_⟩
  rw [h 3 (by omega) (by omega)] at z
  obtain ⟨e4, e5⟩ := e3 z
  refine ⟨by rw [nrF_E h, h2 0 (by omega)]; exact e4, fun o z1 z2 => ?_⟩
  rw [h2 0 (by omega)] at z2
  rw [neB_E h, h 2 (by omega) (by omega), h 4 (by omega) (by omega)]
  exact e5 o z1 z2
theorem SP_s {a a2 b2 : Nat → Int → Int} {i i2 : Nat → Int} (h0 : b2 40 = a2 40) (h1 : b2 41 = a2 41) (h2 : b2 42 = a2 42) (h3 : b2 43 = a2 43) (hs : SP a i a2 i2) : SP a i b2 i2 := by
  unfold SP spR at hs ⊢
  rw [h0, h1, h2, h3]
  exact hs
section SN2
variable {Q : dk_Q} {n : Nat} {xs : Int → Int} {w : Nat → Nat} {a : Nat → Int → Int} {i : Nat → Int}
theorem sp_1_prepare (hc : colN a i) : (∀ a2, sA [40, 41, 42, 43] a a2 → SP a i a2 (dk_up i 24 (a 2 0)) → Q none (HH n xs w a2 (dk_up i 24 (a 2 0)))) → s_1_prepare [.inr (.inr 39)] (HH n xs w a i) Q := by
  intro hQ
  obtain ⟨⟨p1, p2⟩, ⟨s1, s2⟩, ⟨v1, v2⟩, ⟨n1, n2⟩, ⟨o1, o2⟩, ⟨d1, d2⟩, ⟨e1, e2⟩, ⟨k1, k2⟩, hr, ⟨m1, m2⟩, hd, ⟨b1, b2⟩, hb, hs, hz⟩ := id hc
  obtain ⟨m, hm⟩ := nat_of k1
  have hk : kE i (dk_up i 24 (a 2 0)) := fun j hj => up_n (by omega)
  simp (disch := first | assumption | omega | exact zc_lo | exact zc_hi | exact zz_l | exact zz_u | exact zz_r) only [xa_2, xa_3, xa_41, xc_1 gc_1_prepare_0, xc_2 gc_1_prepare_1, xc_2 gc_1_prepare_2, xl_aload0, xl_iinc1a, xl_iinc1i, xl_iinc1n, xl_iload1, xl_istore1a, xl_istore1i, xl_istore1n, xm_f, xm_n, xm_t, xn_2, xn_4, xn_5, xo_1_0, xo_1_1, xo_1_2, xo_39_0, xo_39_3, xp_39_1, xr_goto, xr_ic_ge, xr_ic_ne, xr_iconst, xr_if_le, xr_if_ne, xr_vret, xs_2, xs_3, xs_41, xtl_n, xtl_s, xz_i, xz_l, xz_n, xz_r, wb_1_prepare_0, wb_1_prepare_2, wb_1_prepare_3, wb_1_prepare_4, wb_1_prepare_5, ss_1_prepare, zz_b, zz_bn, Classical.not_not, true_and, Nat.reduceAdd, Nat.reduceLeDiff]
  refine sp_1_listen (colN_E (fun _ _ _ => rfl) hk hc) (fun a1 hs1 hb1 => ?_)
  simp (disch := first | assumption | omega | exact zc_lo | exact zc_hi | exact zz_l | exact zz_u | exact zz_r) only [xa_2, xa_3, xa_41, xc_1 gc_1_prepare_0, xc_2 gc_1_prepare_1, xc_2 gc_1_prepare_2, xl_aload0, xl_iinc1a, xl_iinc1i, xl_iinc1n, xl_iload1, xl_istore1a, xl_istore1i, xl_istore1n, xm_f, xm_n, xm_t, xn_2, xn_4, xn_5, xo_1_0, xo_1_1, xo_1_2, xo_39_0, xo_39_3, xp_39_1, xr_goto, xr_ic_ge, xr_ic_ne, xr_iconst, xr_if_le, xr_if_ne, xr_vret, xs_2, xs_3, xs_41, xtl_n, xtl_s, xz_i, xz_l, xz_n, xz_r, wb_1_prepare_0, wb_1_prepare_2, wb_1_prepare_3, wb_1_prepare_4, wb_1_prepare_5, zz_b, zz_bn, Classical.not_not, true_and, Nat.reduceAdd, Nat.reduceLeDiff]
  have hb1 : ∀ r, 0 ≤ r → r < i 0 → a1 40 r = beF a i r := fun r h0 h1 => by
    rw [hb1 r h0 (by rw [hk 0 (by omega)]; exact h1)]
    exact beF_E (fun _ _ _ => rfl) hk
  refine lp_up (m := m) (P := fun d => ∀ a2, sA [40, 41, 42, 43] a a2 → (∀ r, 0 ≤ r → r < i 0 → a2 40 r = beF a i r) → (∀ r : Int, 0 ≤ r → r < d → spR a i a2 r) → dk_WP g_1_prepare b_1_prepare Q 1 [some (.inr (.inr 39)), some (.inl d)] [] (HH n xs w a2 (dk_up i 24 (a 2 0)))) ?_ ?_ 0 (Nat.zero_le _) a1 (sA_w hs1 (by simp)) hb1 (fun r z1 z2 => by omega)
  · intro a2 hs hb2 hf
    have K0 := hk 0 (by omega)
    rw [wb_1_prepare_1]
    simp (disch := first | assumption | omega | exact zc_lo | exact zc_hi | exact zz_l | exact zz_u | exact zz_r) only [xa_2, xa_3, xa_41, xc_1 gc_1_prepare_0, xc_2 gc_1_prepare_1, xc_2 gc_1_prepare_2, xl_aload0, xl_iinc1a, xl_iinc1i, xl_iinc1n, xl_iload1, xl_istore1a, xl_istore1i, xl_istore1n, xm_f, xm_n, xm_t, xn_2, xn_4, xn_5, xo_1_0, xo_1_1, xo_1_2, xo_39_0, xo_39_3, xp_39_1, xr_goto, xr_ic_ge, xr_ic_ne, xr_iconst, xr_if_le, xr_if_ne, xr_vret, xs_2, xs_3, xs_41, xtl_n, xtl_s, xz_i, xz_l, xz_n, xz_r, wb_1_prepare_0, wb_1_prepare_2, wb_1_prepare_3, wb_1_prepare_4, wb_1_prepare_5, zz_b, zz_bn, Classical.not_not, true_and, Nat.reduceAdd, Nat.reduceLeDiff, K0]
    exact ⟨fun _ => hQ a2 hs ⟨up_s, fun r h0 h1 => ⟨hb2 r h0 h1, hf r h0 (by omega)⟩⟩, fun z => by omega⟩
  · intro d hdm ih a2 hs hb2 hf
    have K0 := hk 0 (by omega)
    have hE := cE_of hs (by simp)
    have hcc := colN_E hE hk hc
    have E3 := hE 3 (by omega) (by omega)
    obtain ⟨⟨g1, g2⟩, -⟩ := hr d (by omega) (by omega)
    -- behind the row 'sees'
    have next : ∀ x : Int, x = (if 0 < (d : Int) ∧ ¬ bnF a i d = true then 1 else 0) → dk_WP g_1_prepare b_1_prepare Q 3 [some (.inr (.inr 39)), some (.inl d)] [.inl x, .inl d, .inr (.inr 41)] (HH n xs w a2 (dk_up i 24 (a 2 0))) := by
      intro x hx
      have hx1 : x = 0 ∨ x = 1 := by rw [hx]; exact zz_r
      simp (disch := first | assumption | omega | exact zc_lo | exact zc_hi | exact zz_l | exact zz_u | exact zz_r) only [xa_2, xa_3, xa_41, xc_1 gc_1_prepare_0, xc_2 gc_1_prepare_1, xc_2 gc_1_prepare_2, xl_aload0, xl_iinc1a, xl_iinc1i, xl_iinc1n, xl_iload1, xl_istore1a, xl_istore1i, xl_istore1n, xm_f, xm_n, xm_t, xn_2, xn_4, xn_5, xo_1_0, xo_1_1, xo_1_2, xo_39_0, xo_39_3, xp_39_1, xr_goto, xr_ic_ge, xr_ic_ne, xr_iconst, xr_if_le, xr_if_ne, xr_vret, xs_2, xs_3, xs_41, xtl_n, xtl_s, xz_i, xz_l, xz_n, xz_r, wb_1_prepare_0, wb_1_prepare_2, wb_1_prepare_3, wb_1_prepare_4, wb_1_prepare_5, zz_b, zz_bn, Classical.not_not, true_and, Nat.reduceAdd, Nat.reduceLeDiff, E3, up_n (show ¬ 3 = 41 by decide)]
      have hs2 : sA [40, 41, 42, 43] a (dk_up a2 41 (dk_ui (a2 41) d x)) := sA_up hs (by simp) _
      rw [cs d]
      refine ⟨fun z => ?_, fun z => ?_⟩
      · refine ih _ hs2 (fun r h0 h1 => by rw [up_n (by decide)]; exact hb2 r h0 h1) (fun r h0 h1 => ?_)
        by_cases e : r = d
        · subst e
          exact ⟨by rw [up_s, ui_s]; exact hx, fun z2 => absurd z2 z⟩
        · obtain ⟨f1, f2⟩ := hf r h0 (by omega)
          exact ⟨by rw [up_s, ui_n e]; exact f1, fun z2 => by rw [up_n (by decide), up_n (by decide)]; exact f2 z2⟩
      · have hE2 := cE_of hs2 (by simp)
        refine sp_1_feel (colN_E hE2 hk hc) (by omega) (by rw [K0]; omega) (fun a3 hs3 f1 f2 f3 f4 => ?_)
        simp (disch := first | assumption | omega | exact zc_lo | exact zc_hi | exact zz_l | exact zz_u | exact zz_r) only [xa_2, xa_3, xa_41, xc_1 gc_1_prepare_0, xc_2 gc_1_prepare_1, xc_2 gc_1_prepare_2, xl_aload0, xl_iinc1a, xl_iinc1i, xl_iinc1n, xl_iload1, xl_istore1a, xl_istore1i, xl_istore1n, xm_f, xm_n, xm_t, xn_2, xn_4, xn_5, xo_1_0, xo_1_1, xo_1_2, xo_39_0, xo_39_3, xp_39_1, xr_goto, xr_ic_ge, xr_ic_ne, xr_iconst, xr_if_le, xr_if_ne, xr_vret, xs_2, xs_3, xs_41, xtl_n, xtl_s, xz_i, xz_l, xz_n, xz_r, wb_1_prepare_0, wb_1_prepare_2, wb_1_prepare_3, wb_1_prepare_4, wb_1_prepare_5, zz_b, zz_bn, Classical.not_not, true_and, Nat.reduceAdd, Nat.reduceLeDiff]
        rw [K0] at f1 f2
        rw [nrF_E hE2] at f1
        refine ih a3 (sA_tr hs2 (sA_w hs3 (by simp))) (fun r h0 h1 => by rw [hs3 40 (by simp), up_n (by decide)]; exact hb2 r h0 h1) (fun r h0 h1 => ?_)
        by_cases e : r = d
        · subst e
          refine ⟨by rw [hs3 41 (by simp), up_s, ui_s]; exact hx, fun _ => ⟨f1, fun o z1 z2 => ?_⟩⟩
          have := f2 o z1 z2
          rw [neB_E hE2, hE2 2 (by omega) (by omega), hE2 4 (by omega) (by omega)] at this
          exact this
        · obtain ⟨q1, q2⟩ := hf r h0 (by omega)
          refine ⟨by rw [hs3 41 (by simp), up_s, ui_n e]; exact q1, fun z2 => ?_⟩
          obtain ⟨q3, q4⟩ := q2 z2
          refine ⟨by rw [f3 r e, up_n (by decide)]; exact q3, fun o z1 z3 => ?_⟩
          rw [f4 (r * 24 + o) (by omega), up_n (by decide)]
          exact q4 o z1 z3
    rw [wb_1_prepare_1]
    simp (disch := first | assumption | omega | exact zc_lo | exact zc_hi | exact zz_l | exact zz_u | exact zz_r) only [xa_2, xa_3, xa_41, xc_1 gc_1_prepare_0, xc_2 gc_1_prepare_1, xc_2 gc_1_prepare_2, xl_aload0, xl_iinc1a, xl_iinc1i, xl_iinc1n, xl_iload1, xl_istore1a, xl_istore1i, xl_istore1n, xm_f, xm_n, xm_t, xn_2, xn_4, xn_5, xo_1_0, xo_1_1, xo_1_2, xo_39_0, xo_39_3, xp_39_1, xr_goto, xr_ic_ge, xr_ic_ne, xr_iconst, xr_if_le, xr_if_ne, xr_vret, xs_2, xs_3, xs_41, xtl_n, xtl_s, xz_i, xz_l, xz_n, xz_r, zz_b, zz_bn, Classical.not_not, true_and, Nat.reduceAdd, Nat.reduceLeDiff, K0, wb_1_prepare_2, wb_1_prepare_4, wb_1_prepare_5]
    refine ⟨fun z => by omega, fun _ => ⟨fun z => next 0 (by rw [if_neg (by omega)]), fun z => ?_⟩⟩
    refine sp_0_isBehindBend hcc (by omega) (by rw [K0]; omega) ?_
    rw [bnF_E hE hk]
    simp (disch := first | assumption | omega | exact zc_lo | exact zc_hi | exact zz_l | exact zz_u | exact zz_r) only [xa_2, xa_3, xa_41, xc_1 gc_1_prepare_0, xc_2 gc_1_prepare_1, xc_2 gc_1_prepare_2, xl_aload0, xl_iinc1a, xl_iinc1i, xl_iinc1n, xl_iload1, xl_istore1a, xl_istore1i, xl_istore1n, xm_f, xm_n, xm_t, xn_2, xn_4, xn_5, xo_1_0, xo_1_1, xo_1_2, xo_39_0, xo_39_3, xp_39_1, xr_goto, xr_ic_ge, xr_ic_ne, xr_iconst, xr_if_le, xr_if_ne, xr_vret, xs_2, xs_3, xs_41, xtl_n, xtl_s, xz_i, xz_l, xz_n, xz_r, zz_b, zz_bn, Classical.not_not, true_and, Nat.reduceAdd, Nat.reduceLeDiff, wb_1_prepare_2, wb_1_prepare_4, wb_1_prepare_5]
    exact ⟨fun z2 => next 0 (by rw [if_neg (fun q => q.2 z2)]), fun z2 => next 1 (by rw [if_pos ⟨by omega, z2⟩])⟩
variable {q0 : Nat} {r : Int}
theorem sp_1_turnByEar (hc : colN a i) (hs : SP a i a i) (hq : hh_len q0 = some (0, 24)) (ho : oOK a i (a q0)) (h0 : 0 ≤ r) (h1 : r < i 0) : s_1_turnByEar [.inr (.inr 39), .inl r, .inr (.inr q0)] (HH n xs w a i) Q = Q (some (.inl (earF a i (a q0) r))) (HH n xs w a i) := by
  obtain ⟨e24, hsr⟩ := hs
  obtain ⟨e40, -⟩ := hsr r h0 h1
  have qb := beF_bd hc h0 h1
  have qo := oOK.b hc ho h0 h1
  have qw := wpb hc h0 h1 (beF a i r - a q0 r)
  have r24 : r < 24 := by obtain ⟨⟨p1, p2⟩, ⟨s1, s2⟩, ⟨v1, v2⟩, ⟨n1, n2⟩, ⟨o1, o2⟩, ⟨d1, d2⟩, ⟨e1, e2⟩, ⟨k1, k2⟩, hr, ⟨m1, m2⟩, hd, ⟨b1, b2⟩, hb, hs, hz⟩ := id hc; omega
  obtain ⟨⟨p1, p2⟩, ⟨s1, s2⟩, ⟨v1, v2⟩, ⟨n1, n2⟩, ⟨o1, o2⟩, ⟨d1, d2⟩, ⟨e1, e2⟩, ⟨k1, k2⟩, hr, ⟨m1, m2⟩, hd, ⟨b1, b2⟩, hb, hs, hz⟩ := id hc
  unfold earF
  simp (disch := first | assumption | omega | exact zc_lo | exact zc_hi | exact zz_l | exact zz_u | exact zz_r) only [xa_40, xa_5, xc_2 gc_1_turnByEar_0, xl_aload0, xl_aload2, xl_iload1, xm_f, xm_n, xm_t, xn_1, xo_1_4, xo_39_0, xo_39_1, xo_39_2, xr_ic_ne, xr_iconst, xr_idiv, xr_imul, xr_iret, xr_isub, xtl_n, xtl_s, xz_i, xz_l, xz_n, xz_r, wb_1_turnByEar_0, wb_1_turnByEar_1, ss_1_turnByEar, zz_b, zz_bn, Classical.not_not, true_and, Nat.reduceAdd, Nat.reduceLeDiff, xa_w hq h0 r24 (by omega), e40, e24, sp_5_wrapped]
  by_cases z : beF a i r = -2000000000
  · simp only [z, true_implies, false_implies, implies_true, not_true_eq_false, not_false_eq_true, true_and, and_true, false_and, and_false, true_or, or_true, false_or, or_false, Bool.false_eq_true, Classical.not_not, ↓reduceIte]
  · simp only [z, true_implies, false_implies, implies_true, not_true_eq_false, not_false_eq_true, true_and, and_true, false_and, and_false, true_or, or_true, false_or, or_false, Bool.false_eq_true, Classical.not_not, ↓reduceIte]
theorem sp_1_turnByEye (hc : colN a i) (hs : SP a i a i) (hq : hh_len q0 = some (0, 24)) (ho : oOK a i (a q0)) (h0 : 0 ≤ r) (h1 : r < i 0) : s_1_turnByEye [.inr (.inr 39), .inl r, .inr (.inr q0)] (HH n xs w a i) Q = Q (some (.inl (eyeF a i (a q0) r))) (HH n xs w a i) := by
  obtain ⟨e24, hsr⟩ := hs
  obtain ⟨-, e41, -⟩ := hsr r h0 h1
  have qo := oOK.b hc ho h0 h1
  have qw := wpb hc h0 h1 (a q0 (r - 1) - a q0 r)
  have r24 : r < 24 := by obtain ⟨⟨p1, p2⟩, ⟨s1, s2⟩, ⟨v1, v2⟩, ⟨n1, n2⟩, ⟨o1, o2⟩, ⟨d1, d2⟩, ⟨e1, e2⟩, ⟨k1, k2⟩, hr, ⟨m1, m2⟩, hd, ⟨b1, b2⟩, hb, hs, hz⟩ := id hc; omega
  obtain ⟨⟨p1, p2⟩, ⟨s1, s2⟩, ⟨v1, v2⟩, ⟨n1, n2⟩, ⟨o1, o2⟩, ⟨d1, d2⟩, ⟨e1, e2⟩, ⟨k1, k2⟩, hr, ⟨m1, m2⟩, hd, ⟨b1, b2⟩, hb, hs, hz⟩ := id hc
  unfold eyeF
  by_cases z : r < 1
  · have z0 : r = 0 := by omega
    simp (disch := first | assumption | omega | exact zc_lo | exact zc_hi | exact zz_l | exact zz_u | exact zz_r) only [xa_41, xa_5, xc_2 gc_1_turnByEye_0, xl_aload0, xl_aload2, xl_iload1, xm_f, xm_n, xm_t, xn_1, xn_2, xo_1_4, xo_39_0, xo_39_1, xo_39_3, xr_goto, xr_ic_lt, xr_iconst, xr_idiv, xr_if_ne, xr_imul, xr_iret, xr_isub, xtl_n, xtl_s, xz_i, xz_l, xz_n, xz_r, wb_1_turnByEye_0, wb_1_turnByEye_1, wb_1_turnByEye_2, ss_1_turnByEye, zz_b, zz_bn, Classical.not_not, true_and, Nat.reduceAdd, Nat.reduceLeDiff, xa_w hq h0 r24 (by omega)]
    rw [if_pos (Or.inl z0)]
    simp only [z, true_implies, false_implies, implies_true, not_true_eq_false, not_false_eq_true, true_and, and_true, false_and, and_false, true_or, or_true, false_or, or_false, Bool.false_eq_true, Classical.not_not, ↓reduceIte]
  · have z0 : ¬ r = 0 := by omega
    have z3 : 0 < r := by omega
    have z1 : 0 ≤ r - 1 := by omega
    have z2 : r - 1 < 24 := by omega
    have qo2 := oOK.b hc ho z1 (by omega)
    simp (disch := first | assumption | omega | exact zc_lo | exact zc_hi | exact zz_l | exact zz_u | exact zz_r) only [xa_41, xa_5, xc_2 gc_1_turnByEye_0, xl_aload0, xl_aload2, xl_iload1, xm_f, xm_n, xm_t, xn_1, xn_2, xo_1_4, xo_39_0, xo_39_1, xo_39_3, xr_goto, xr_ic_lt, xr_iconst, xr_idiv, xr_if_ne, xr_imul, xr_iret, xr_isub, xtl_n, xtl_s, xz_i, xz_l, xz_n, xz_r, wb_1_turnByEye_0, wb_1_turnByEye_1, wb_1_turnByEye_2, ss_1_turnByEye, zz_b, zz_bn, Classical.not_not, true_and, Nat.reduceAdd, Nat.reduceLeDiff, xa_w hq h0 r24 (by omega), xa_w hq z1 z2 (by omega), e41, e24, sp_5_wrapped]
    by_cases hb : bnF a i r = true
    · simp only [z, z0, z3, hb, true_implies, false_implies, implies_true, not_true_eq_false, not_false_eq_true, true_and, and_true, false_and, and_false, true_or, or_true, false_or, or_false, Bool.false_eq_true, Classical.not_not, ↓reduceIte]
    · simp only [z, z0, z3, hb, true_implies, false_implies, implies_true, not_true_eq_false, not_false_eq_true, true_and, and_true, false_and, and_false, true_or, or_true, false_or, or_false, Bool.false_eq_true, Classical.not_not, ↓reduceIte]
theorem sp_1_turnByFeet (hc : colN a i) (hs : SP a i a i) (hq : hh_len q0 = some (0, 24)) (ho : oOK a i (a q0)) (h0 : 0 ≤ r) (h1 : r < i 0) (h4 : a 3 r = 4) (hn : ¬ nrF a r (i 0).toNat = 0) : Q (some (.inl (((smF a (a q0) r (i 0).toNat).tdiv (nrF a r (i 0).toNat) * a 5 r).tdiv 100))) (HH n xs w a i) → s_1_turnByFeet [.inr (.inr 39), .inl r, .inr (.inr q0)] (HH n xs w a i) Q := by
  intro hQ
  obtain ⟨e24, hsr⟩ := hs
  obtain ⟨-, -, e3⟩ := hsr r h0 h1
  obtain ⟨e42, e43⟩ := e3 h4
  have qo := oOK.b hc ho h0 h1
  have qn := nrF_bd (c := a) (r := r) (i 0).toNat
  have qf := (feF_bd (o := a q0) hc h0 h1).1 hn
  have r24 : r < 24 := by obtain ⟨⟨p1, p2⟩, ⟨s1, s2⟩, ⟨v1, v2⟩, ⟨n1, n2⟩, ⟨o1, o2⟩, ⟨d1, d2⟩, ⟨e1, e2⟩, ⟨k1, k2⟩, hr, ⟨m1, m2⟩, hd, ⟨b1, b2⟩, hb, hs, hz⟩ := id hc; omega
  have hcc := hc
  obtain ⟨⟨p1, p2⟩, ⟨s1, s2⟩, ⟨v1, v2⟩, ⟨n1, n2⟩, ⟨o1, o2⟩, ⟨d1, d2⟩, ⟨e1, e2⟩, ⟨k1, k2⟩, hr, ⟨m1, m2⟩, hd, ⟨b1, b2⟩, hb, hs, hz⟩ := id hc
  obtain ⟨-, ⟨r1, r2⟩, -⟩ := hr r h0 h1
  obtain ⟨m, hm⟩ := nat_of k1
  have hmt : (i 0).toNat = m := by omega
  have qs := smF_bd (o := a q0) (r := r) hcc m
  rw [hmt] at hQ e42 qn qf hn
  simp (disch := first | assumption | omega | exact zc_lo | exact zc_hi | exact zz_l | exact zz_u | exact zz_r) only [xa_42, xa_43, xa_5, xc_2 gc_1_turnByFeet_0, xl_aload0, xl_aload2, xl_iinc4a, xl_iinc4i, xl_iinc4n, xl_iload1, xl_iload3, xl_iload4, xl_iload5, xl_istore3a, xl_istore3i, xl_istore3n, xl_istore4a, xl_istore4i, xl_istore4n, xl_istore5a, xl_istore5i, xl_istore5n, xm_f, xm_n, xm_t, xn_2, xn_3, xn_4, xo_1_1, xo_1_4, xo_39_0, xo_39_1, xo_39_4, xo_39_5, xr_goto, xr_iadd, xr_ic_eq, xr_ic_ge, xr_iconst, xr_idiv, xr_if_le, xr_imul, xr_iret, xr_isub, xtl_n, xtl_s, xz_i, xz_l, xz_n, xz_r, wb_1_turnByFeet_0, wb_1_turnByFeet_2, wb_1_turnByFeet_3, wb_1_turnByFeet_4, wb_1_turnByFeet_5, ss_1_turnByFeet, zz_b, zz_bn, Classical.not_not, true_and, Nat.reduceAdd, Nat.reduceLeDiff]
  refine lp_up (m := m) (P := fun d => dk_WP g_1_turnByFeet b_1_turnByFeet Q 1 [some (.inr (.inr 39)), some (.inl r), some (.inr (.inr q0)), some (.inl (smF a (a q0) r d)), some (.inl d), none] [] (HH n xs w a i)) ?_ ?_ 0 (Nat.zero_le _)
  · rw [wb_1_turnByFeet_1]
    simp (disch := first | assumption | omega | exact zc_lo | exact zc_hi | exact zz_l | exact zz_u | exact zz_r) only [xa_42, xa_43, xa_5, xc_2 gc_1_turnByFeet_0, xl_aload0, xl_aload2, xl_iinc4a, xl_iinc4i, xl_iinc4n, xl_iload1, xl_iload3, xl_iload4, xl_iload5, xl_istore3a, xl_istore3i, xl_istore3n, xl_istore4a, xl_istore4i, xl_istore4n, xl_istore5a, xl_istore5i, xl_istore5n, xm_f, xm_n, xm_t, xn_2, xn_3, xn_4, xo_1_1, xo_1_4, xo_39_0, xo_39_1, xo_39_4, xo_39_5, xr_goto, xr_iadd, xr_ic_eq, xr_ic_ge, xr_iconst, xr_idiv, xr_if_le, xr_imul, xr_iret, xr_isub, xtl_n, xtl_s, xz_i, xz_l, xz_n, xz_r, wb_1_turnByFeet_0, wb_1_turnByFeet_2, wb_1_turnByFeet_3, wb_1_turnByFeet_4, wb_1_turnByFeet_5, zz_b, zz_bn, Classical.not_not, true_and, Nat.reduceAdd, Nat.reduceLeDiff, e42]
    refine ⟨fun _ => ⟨fun z => by omega, fun z => ?_⟩, fun z => by omega⟩
    exact hQ
  · intro d hdm ih
    have qo2 := oOK.b hcc ho (r := d) (by omega) (by omega)
    have d24 : (d : Int) < 24 := by omega
    have d0 : (0 : Int) ≤ d := by omega
    obtain ⟨-, ⟨g1, g2⟩, -⟩ := hr d (by omega) (by omega)
    have ql := lagF_bd s1 s2 v1 v2 g1 (by omega) r1 (by omega)
    have qs2 := smF_bd (o := a q0) (r := r) hcc d
    have e5 := e43 d (by omega) (by omega)
    rw [smF] at ih
    rw [wb_1_turnByFeet_1]
    by_cases hb : neB a r d = true
    · rw [if_pos hb] at ih e5
      simp (disch := first | assumption | omega | exact zc_lo | exact zc_hi | exact zz_l | exact zz_u | exact zz_r) only [xa_42, xa_43, xa_5, xc_2 gc_1_turnByFeet_0, xl_aload0, xl_aload2, xl_iinc4a, xl_iinc4i, xl_iinc4n, xl_iload1, xl_iload3, xl_iload4, xl_iload5, xl_istore3a, xl_istore3i, xl_istore3n, xl_istore4a, xl_istore4i, xl_istore4n, xl_istore5a, xl_istore5i, xl_istore5n, xm_f, xm_n, xm_t, xn_2, xn_3, xn_4, xo_1_1, xo_1_4, xo_39_0, xo_39_1, xo_39_4, xo_39_5, xr_goto, xr_iadd, xr_ic_eq, xr_ic_ge, xr_iconst, xr_idiv, xr_if_le, xr_imul, xr_iret, xr_isub, xtl_n, xtl_s, xz_i, xz_l, xz_n, xz_r, wb_1_turnByFeet_0, wb_1_turnByFeet_2, wb_1_turnByFeet_3, wb_1_turnByFeet_4, wb_1_turnByFeet_5, zz_b, zz_bn, Classical.not_not, true_and, Nat.reduceAdd, Nat.reduceLeDiff, xa_w hq h0 r24 (by omega), xa_w hq d0 d24 (by omega), e5, e24, sp_5_wrapped]
      rw [cs d]
      exact ⟨fun z => by omega, fun _ => ⟨fun z => by omega, fun _ => ih⟩⟩
    · rw [if_neg hb] at ih e5
      simp (disch := first | assumption | omega | exact zc_lo | exact zc_hi | exact zz_l | exact zz_u | exact zz_r) only [xa_42, xa_43, xa_5, xc_2 gc_1_turnByFeet_0, xl_aload0, xl_aload2, xl_iinc4a, xl_iinc4i, xl_iinc4n, xl_iload1, xl_iload3, xl_iload4, xl_iload5, xl_istore3a, xl_istore3i, xl_istore3n, xl_istore4a, xl_istore4i, xl_istore4n, xl_istore5a, xl_istore5i, xl_istore5n, xm_f, xm_n, xm_t, xn_2, xn_3, xn_4, xo_1_1, xo_1_4, xo_39_0, xo_39_1, xo_39_4, xo_39_5, xr_goto, xr_iadd, xr_ic_eq, xr_ic_ge, xr_iconst, xr_idiv, xr_if_le, xr_imul, xr_iret, xr_isub, xtl_n, xtl_s, xz_i, xz_l, xz_n, xz_r, wb_1_turnByFeet_0, wb_1_turnByFeet_2, wb_1_turnByFeet_3, wb_1_turnByFeet_4, wb_1_turnByFeet_5, zz_b, zz_bn, Classical.not_not, true_and, Nat.reduceAdd, Nat.reduceLeDiff, xa_w hq h0 r24 (by omega), xa_w hq d0 d24 (by omega), e5, e24]
      rw [cs d]
      exact ⟨fun z => by omega, fun _ => ⟨fun _ => ih, fun z => absurd trivial z⟩⟩
theorem sp_1_turnOf (hc : colN a i) (hs : SP a i a i) (hq : hh_len q0 = some (0, 24)) (ho : oOK a i (a q0)) (h0 : 0 ≤ r) (h1 : r < i 0) : Q (some (.inl (tuF a i (a q0) r))) (HH n xs w a i) → s_1_turnOf [.inr (.inr 39), .inl r, .inr (.inr q0)] (HH n xs w a i) Q := by
  intro hQ
  have e24 := hs.1
  obtain ⟨-, -, e3⟩ := hs.2 r h0 h1
  have qo := oOK.b hc ho h0 h1
  have qm := mxb (o := a q0) hc h0 h1
  have r24 : r < 24 := by obtain ⟨⟨p1, p2⟩, ⟨s1, s2⟩, ⟨v1, v2⟩, ⟨n1, n2⟩, ⟨o1, o2⟩, ⟨d1, d2⟩, ⟨e1, e2⟩, ⟨k1, k2⟩, hr, ⟨m1, m2⟩, hd, ⟨b1, b2⟩, hb, hs, hz⟩ := id hc; omega
  have qn := nrF_bd (c := a) (r := r) (i 0).toNat
  have hcc := hc
  have hss := hs
  obtain ⟨⟨p1, p2⟩, ⟨s1, s2⟩, ⟨v1, v2⟩, ⟨n1, n2⟩, ⟨o1, o2⟩, ⟨d1, d2⟩, ⟨e1, e2⟩, ⟨k1, k2⟩, hr, ⟨m1, m2⟩, hd, ⟨b1, b2⟩, hb, hs, hz⟩ := id hc
  obtain ⟨⟨t1, t2⟩, -, -, ⟨r3, r4⟩, -⟩ := hr r h0 h1
  unfold tuF at hQ
  simp (disch := first | assumption | omega | exact zc_lo | exact zc_hi | exact zz_l | exact zz_u | exact zz_r) only [xa_2, xa_3, xa_42, xa_6, xa_7, xc_2 gc_1_turnOf_3, xc_3 gc_1_turnOf_0, xc_3 gc_1_turnOf_1, xc_3 gc_1_turnOf_2, xl_aload0, xl_aload2, xl_iload1, xl_iload3, xl_iload4, xl_istore3a, xl_istore3i, xl_istore3n, xl_istore4a, xl_istore4i, xl_istore4n, xm_f, xm_n, xm_t, xn_1, xn_2, xn_3, xn_4, xn_5, xn_7, xn_8, xn_9, xo_1_0, xo_1_2, xo_1_5, xo_1_6, xo_39_0, xo_39_1, xo_39_4, xr_goto, xr_iadd, xr_iconst, xr_idiv, xr_if_le, xr_imul, xr_iret, xr_isub, xr_sw, xtl_n, xtl_s, xw_n, xw_t, xz_i, xz_l, xz_n, xz_r, wb_1_turnOf_0, wb_1_turnOf_1, wb_1_turnOf_2, wb_1_turnOf_3, wb_1_turnOf_4, wb_1_turnOf_5, wb_1_turnOf_6, wb_1_turnOf_7, wb_1_turnOf_8, wb_1_turnOf_9, ss_1_turnOf, zz_b, zz_bn, Classical.not_not, true_and, Nat.reduceAdd, Nat.reduceLeDiff, sp_1_turnByEar hcc hss hq ho h0 h1, sp_1_turnByEye hcc hss hq ho h0 h1, xa_w hq h0 r24 (by omega), e24, sp_5_wrapped]
  refine ⟨fun z => ?_, fun z => ?_, fun z => ?_, fun z => ?_, fun z => ?_, fun z => ?_, fun z => ?_, trivial⟩
  · rw [if_neg (by omega), if_neg (by omega), if_neg (by omega), if_neg (by omega), if_neg (by omega), if_neg (by omega)] at hQ
    exact hQ
  · rw [if_pos z] at hQ
    exact hQ
  · rw [if_neg (by omega), if_pos (by omega)] at hQ
    exact hQ
  · rw [if_neg (by omega), if_neg (by omega), if_pos (by omega)] at hQ
    exact hQ
  · have z4 : a 3 r = 4 := by omega
    obtain ⟨e42, -⟩ := e3 z4
    rw [if_neg (by omega), if_neg (by omega), if_neg (by omega), if_pos z4] at hQ
    unfold feF at hQ
    simp (disch := first | assumption | omega | exact zc_lo | exact zc_hi | exact zz_l | exact zz_u | exact zz_r) only [xa_2, xa_3, xa_42, xa_6, xa_7, xc_2 gc_1_turnOf_3, xc_3 gc_1_turnOf_0, xc_3 gc_1_turnOf_1, xc_3 gc_1_turnOf_2, xl_aload0, xl_aload2, xl_iload1, xl_iload3, xl_iload4, xl_istore3a, xl_istore3i, xl_istore3n, xl_istore4a, xl_istore4i, xl_istore4n, xm_f, xm_n, xm_t, xn_1, xn_2, xn_3, xn_4, xn_5, xn_7, xn_8, xn_9, xo_1_0, xo_1_2, xo_1_5, xo_1_6, xo_39_0, xo_39_1, xo_39_4, xr_goto, xr_iadd, xr_iconst, xr_idiv, xr_if_le, xr_imul, xr_iret, xr_isub, xr_sw, xtl_n, xtl_s, xw_n, xw_t, xz_i, xz_l, xz_n, xz_r, wb_1_turnOf_0, wb_1_turnOf_1, wb_1_turnOf_2, wb_1_turnOf_3, wb_1_turnOf_4, wb_1_turnOf_5, wb_1_turnOf_6, wb_1_turnOf_7, wb_1_turnOf_8, wb_1_turnOf_9, zz_b, zz_bn, Classical.not_not, true_and, Nat.reduceAdd, Nat.reduceLeDiff, e42, sp_1_turnByEar hcc hss hq ho h0 h1]
    refine ⟨fun z2 => ?_, fun z2 => ?_⟩
    · rw [if_pos (by omega)] at hQ
      exact hQ
    · rw [if_neg (by omega)] at hQ
      refine sp_1_turnByFeet hcc hss hq ho h0 h1 z4 (by omega) ?_
      simp (disch := first | assumption | omega | exact zc_lo | exact zc_hi | exact zz_l | exact zz_u | exact zz_r) only [xa_2, xa_3, xa_42, xa_6, xa_7, xc_2 gc_1_turnOf_3, xc_3 gc_1_turnOf_0, xc_3 gc_1_turnOf_1, xc_3 gc_1_turnOf_2, xl_aload0, xl_aload2, xl_iload1, xl_iload3, xl_iload4, xl_istore3a, xl_istore3i, xl_istore3n, xl_istore4a, xl_istore4i, xl_istore4n, xm_f, xm_n, xm_t, xn_1, xn_2, xn_3, xn_4, xn_5, xn_7, xn_8, xn_9, xo_1_0, xo_1_2, xo_1_5, xo_1_6, xo_39_0, xo_39_1, xo_39_4, xr_goto, xr_iadd, xr_iconst, xr_idiv, xr_if_le, xr_imul, xr_iret, xr_isub, xr_sw, xtl_n, xtl_s, xw_n, xw_t, xz_i, xz_l, xz_n, xz_r, wb_1_turnOf_0, wb_1_turnOf_1, wb_1_turnOf_2, wb_1_turnOf_3, wb_1_turnOf_4, wb_1_turnOf_5, wb_1_turnOf_6, wb_1_turnOf_7, wb_1_turnOf_8, wb_1_turnOf_9, zz_b, zz_bn, Classical.not_not, true_and, Nat.reduceAdd, Nat.reduceLeDiff]
      exact hQ
  · rw [if_neg (by omega), if_neg (by omega), if_neg (by omega), if_neg (by omega), if_pos (by omega)] at hQ
    exact hQ
  · rw [if_neg (by omega), if_neg (by omega), if_neg (by omega), if_neg (by omega), if_neg (by omega), if_pos (by omega)] at hQ
    exact hQ
/-- whether one of the first ranks differs -/
def chF (o f : Int → Int) : Nat → Bool
  | 0 => false
  | r + 1 => chF o f r || decide (¬ f r = o r)
theorem chF_f {o f : Int → Int} : ∀ {m : Nat}, chF o f m = false → ∀ r : Int, 0 ≤ r → r < m → f r = o r
  | 0, _, r, h0, h1 => by omega
  | m + 1, h, r, h0, h1 => by
    simp only [chF, Bool.or_eq_false_iff, decide_eq_false_iff_not, Classical.not_not] at h
    by_cases e : r = m
    · subst e; exact h.2
    · exact chF_f h.1 r h0 (by omega)
theorem chF_t {o f : Int → Int} : ∀ {m : Nat}, chF o f m = true → ¬ ∀ r : Int, 0 ≤ r → r < m → f r = o r
  | 0, h, _ => by simp [chF] at h
  | m + 1, h, z => by
    simp only [chF, Bool.or_eq_true, decide_eq_true_eq] at h
    rcases h with h | h
    · exact chF_t h (fun r h0 h1 => z r h0 (by omega))
    · exact h (z m (by omega) (by omega))
theorem chF_E {o f o2 f2 : Int → Int} : ∀ {m : Nat}, (∀ r : Int, 0 ≤ r → r < m → f2 r = f r ∧ o2 r = o r) → chF o2 f2 m = chF o f m
  | 0, _ => rfl
  | m + 1, h => by
    unfold chF
    rw [chF_E (fun r h0 h1 => h r h0 (by omega)), (h m (by omega) (by omega)).1, (h m (by omega) (by omega)).2]
theorem or_b {p q : Prop} [Decidable p] [Decidable q] : dk_or (if p then 1 else 0) (if q then 1 else 0) = if p ∨ q then 1 else 0 := by
  by_cases h1 : p <;> by_cases h2 : q <;> simp only [h1, h2, if_true, if_false, or_true, or_false, true_or] <;> decide
end SN2
