/-! WALKS: a pace, a march -/
/-- the rows of the two walks -/
def wP (w : Nat → Nat) : Prop := (w 0 = 45 ∧ w 1 = 46) ∨ (w 0 = 46 ∧ w 1 = 45)
def wQ (w : Nat → Nat) : Prop := (w 2 = 48 ∧ w 3 = 49) ∨ (w 2 = 49 ∧ w 3 = 48)
section WK
variable {Q : dk_Q} {n : Nat} {xs : Int → Int} {w : Nat → Nat} {a : Nat → Int → Int} {i : Nat → Int}
theorem sp_4_step_44 (hc : colN a i) (hs : SP a i a i) (hw : wP w) (ho : oOK a i (a (w 0))) : (∀ f, oE i (stF a i (a (w 0))) f → Q (some (.inl (if chF (a (w 0)) f (i 0).toNat = true then 1 else 0))) (HH n xs (dk_up (dk_up w 0 (w 1)) 1 (w 0)) (dk_up a (w 1) f) i)) → s_4_step [.inr (.inr 44)] (HH n xs w a i) Q := by
  intro hQ
  have e24 := hs.1
  have hSP := hs
  have hcc := hc
  have hq0 : hh_len (w 0) = some (0, 24) := by rcases hw with ⟨h1, h2⟩ | ⟨h1, h2⟩ <;> rw [h1] <;> rfl
  have hq1 : hh_len (w 1) = some (0, 24) := by rcases hw with ⟨h1, h2⟩ | ⟨h1, h2⟩ <;> rw [h2] <;> rfl
  have hne : ¬ w 0 = w 1 := by rcases hw with ⟨h1, h2⟩ | ⟨h1, h2⟩ <;> omega
  have hbig : 44 ≤ w 1 := by rcases hw with ⟨h1, h2⟩ | ⟨h1, h2⟩ <;> omega
  obtain ⟨⟨p1, p2⟩, ⟨s1, s2⟩, ⟨v1, v2⟩, ⟨n1, n2⟩, ⟨o1, o2⟩, ⟨d1, d2⟩, ⟨e1, e2⟩, ⟨k1, k2⟩, hr, ⟨m1, m2⟩, hd, ⟨b1, b2⟩, hb, hs, hz⟩ := id hc
  obtain ⟨m, hm⟩ := nat_of k1
  have hmt : (i 0).toNat = m := by omega
  rw [hmt] at hQ
  simp (disch := first | assumption | omega | exact zc_lo | exact zc_hi | exact zz_l | exact zz_u | exact zz_r) only [xc_2 gc_4_step_1, xc_3 gc_4_step_0, xl_aload0, xl_aload2, xl_astore2a, xl_astore2i, xl_astore2n, xl_iinc2a, xl_iinc2i, xl_iinc2n, xl_iload1, xl_iload2, xl_istore1a, xl_istore1i, xl_istore1n, xl_istore2a, xl_istore2i, xl_istore2n, xm_f, xm_n, xm_t, xn_2, xn_4, xo_1_1, xo_39_1, xo_44_0, xo_44_1, xo_44_2, xo_44_3, xo_47_0, xo_47_1, xo_47_2, xo_47_3, xp_44_2, xp_44_3, xp_47_2, xp_47_3, xr_goto, xr_iadd, xr_ic_eq, xr_ic_ge, xr_iconst, xr_ior, xr_zret, xtl_n, xtl_s, xz_i, xz_l, xz_n, xz_r, wb_4_step_0, wb_4_step_2, wb_4_step_3, wb_4_step_4, ss_4_step_44, ss_4_step_47, zz_b, zz_bn, Classical.not_not, true_and, Nat.reduceAdd, Nat.reduceLeDiff]
  have e0 : dk_up a (w 1) (a (w 1)) = a := by
    funext j
    by_cases e : j = w 1
    · subst e; rw [up_s]
    · rw [up_n e]
  suffices hP : ∀ d, d ≤ m → ∀ f, (∀ r : Int, 0 ≤ r → r < d → f r = stF a i (a (w 0)) r) → dk_WP g_4_step b_4_step Q 1 [some (.inr (.inr 44)), some (.inl (if chF (a (w 0)) f d = true then 1 else 0)), some (.inl d)] [] (HH n xs w (dk_up a (w 1) f) i) by
    have q := hP 0 (Nat.zero_le _) (a (w 1)) (fun r z1 z2 => by omega)
    rw [e0] at q
    exact q
  refine lp_up ?_ ?_
  · intro f hf
    rw [wb_4_step_1]
    simp (disch := first | assumption | omega | exact zc_lo | exact zc_hi | exact zz_l | exact zz_u | exact zz_r) only [xc_2 gc_4_step_1, xc_3 gc_4_step_0, xl_aload0, xl_aload2, xl_astore2a, xl_astore2i, xl_astore2n, xl_iinc2a, xl_iinc2i, xl_iinc2n, xl_iload1, xl_iload2, xl_istore1a, xl_istore1i, xl_istore1n, xl_istore2a, xl_istore2i, xl_istore2n, xm_f, xm_n, xm_t, xn_2, xn_4, xo_1_1, xo_39_1, xo_44_0, xo_44_1, xo_44_2, xo_44_3, xo_47_0, xo_47_1, xo_47_2, xo_47_3, xp_44_2, xp_44_3, xp_47_2, xp_47_3, xr_goto, xr_iadd, xr_ic_eq, xr_ic_ge, xr_iconst, xr_ior, xr_zret, xtl_n, xtl_s, xz_i, xz_l, xz_n, xz_r, wb_4_step_0, wb_4_step_2, wb_4_step_3, wb_4_step_4, zz_b, zz_bn, Classical.not_not, true_and, Nat.reduceAdd, Nat.reduceLeDiff]
    exact ⟨fun _ => hQ f (fun r h0 h1 => hf r h0 (by omega)), fun z => by omega⟩
  · intro d hdm ih f hf
    have d0 : (0 : Int) ≤ d := by omega
    have d24 : (d : Int) < 24 := by omega
    have dn : (d : Int) < i 0 := by omega
    have hE : cE a (dk_up a (w 1) f) := fun j h1 h2 => up_n (by omega)
    have e2 : dk_up a (w 1) f (w 0) = a (w 0) := up_n hne
    have hs2 : SP (dk_up a (w 1) f) i (dk_up a (w 1) f) i := SP_E hE (fun _ _ => rfl) (SP_s (up_n (by omega)) (up_n (by omega)) (up_n (by omega)) (up_n (by omega)) hSP)
    have hc2 := colN_E hE (fun _ _ => rfl) hcc
    have ho2 : oOK (dk_up a (w 1) f) i (dk_up a (w 1) f (w 0)) := by rw [e2]; exact oOK_E hE (fun _ _ => rfl) ho
    have qo := oOK.b hcc ho d0 dn
    have qt := tuF_bd hcc ho d0 dn
    have qw := wrb hcc (a (w 0) d + tuF a i (a (w 0)) d)
    rw [wb_4_step_1]
    simp (disch := first | assumption | omega | exact zc_lo | exact zc_hi | exact zz_l | exact zz_u | exact zz_r) only [xc_2 gc_4_step_1, xc_3 gc_4_step_0, xl_aload0, xl_aload2, xl_astore2a, xl_astore2i, xl_astore2n, xl_iinc2a, xl_iinc2i, xl_iinc2n, xl_iload1, xl_iload2, xl_istore1a, xl_istore1i, xl_istore1n, xl_istore2a, xl_istore2i, xl_istore2n, xm_f, xm_n, xm_t, xn_2, xn_4, xo_1_1, xo_39_1, xo_44_0, xo_44_1, xo_44_2, xo_44_3, xo_47_0, xo_47_1, xo_47_2, xo_47_3, xp_44_2, xp_44_3, xp_47_2, xp_47_3, xr_goto, xr_iadd, xr_ic_eq, xr_ic_ge, xr_iconst, xr_ior, xr_zret, xtl_n, xtl_s, xz_i, xz_l, xz_n, xz_r, wb_4_step_0, wb_4_step_2, wb_4_step_3, wb_4_step_4, zz_b, zz_bn, Classical.not_not, true_and, Nat.reduceAdd, Nat.reduceLeDiff, xa_w hq0 d0 d24 (by omega), e2]
    refine ⟨fun z => by omega, fun _ => ?_⟩
    refine sp_1_turnOf hc2 hs2 hq0 ho2 d0 dn ?_
    rw [e2, tuF_E hE (fun _ _ => rfl)]
    simp (disch := first | assumption | omega | exact zc_lo | exact zc_hi | exact zz_l | exact zz_u | exact zz_r) only [xc_2 gc_4_step_1, xc_3 gc_4_step_0, xl_aload0, xl_aload2, xl_astore2a, xl_astore2i, xl_astore2n, xl_iinc2a, xl_iinc2i, xl_iinc2n, xl_iload1, xl_iload2, xl_istore1a, xl_istore1i, xl_istore1n, xl_istore2a, xl_istore2i, xl_istore2n, xm_f, xm_n, xm_t, xn_2, xn_4, xo_1_1, xo_39_1, xo_44_0, xo_44_1, xo_44_2, xo_44_3, xo_47_0, xo_47_1, xo_47_2, xo_47_3, xp_44_2, xp_44_3, xp_47_2, xp_47_3, xr_goto, xr_iadd, xr_ic_eq, xr_ic_ge, xr_iconst, xr_ior, xr_zret, xtl_n, xtl_s, xz_i, xz_l, xz_n, xz_r, wb_4_step_0, wb_4_step_2, wb_4_step_3, wb_4_step_4, zz_b, zz_bn, Classical.not_not, true_and, Nat.reduceAdd, Nat.reduceLeDiff, e24, sp_5_wrapped, xs_w hq1 d0 d24 (by omega), xa_w hq0 d0 d24 (by omega), xa_w hq1 d0 d24 (by omega), up_s, up_n hne, ui_s]
    have fin : ∀ x : Int, x = (if ¬ wr (a (w 0) d + tuF a i (a (w 0)) d) (a 2 0) = a (w 0) d then 1 else 0) → dk_WP g_4_step b_4_step Q 1 [some (.inr (.inr 44)), some (.inl (dk_or (if chF (a (w 0)) f d = true then 1 else 0) x)), some (.inl ((d : Int) + 1))] [] (HH n xs w (dk_up (dk_up a (w 1) f) (w 1) (dk_ui f d (wr (a (w 0) d + tuF a i (a (w 0)) d) (a 2 0)))) i) := by
      intro x hx
      have e3 : dk_up (dk_up a (w 1) f) (w 1) (dk_ui f d (wr (a (w 0) d + tuF a i (a (w 0)) d) (a 2 0))) = dk_up a (w 1) (dk_ui f d (wr (a (w 0) d + tuF a i (a (w 0)) d) (a 2 0))) := by
        funext j
        by_cases e : j = w 1
        · subst e; rw [up_s, up_s]
        · rw [up_n e, up_n e, up_n e]
      have e4 : dk_or (if chF (a (w 0)) f d = true then 1 else 0) x = (if chF (a (w 0)) (dk_ui f d (wr (a (w 0) d + tuF a i (a (w 0)) d) (a 2 0))) (d + 1) = true then 1 else 0) := by
        rw [hx, or_b]
        have e5 : chF (a (w 0)) (dk_ui f d (wr (a (w 0) d + tuF a i (a (w 0)) d) (a 2 0))) d = chF (a (w 0)) f d := chF_E (fun r h0 h1 => ⟨ui_n (by omega), rfl⟩)
        rw [show chF (a (w 0)) (dk_ui f d (wr (a (w 0) d + tuF a i (a (w 0)) d) (a 2 0))) (d + 1) = (chF (a (w 0)) (dk_ui f d (wr (a (w 0) d + tuF a i (a (w 0)) d) (a 2 0))) d || decide (¬ dk_ui f d (wr (a (w 0) d + tuF a i (a (w 0)) d) (a 2 0)) d = a (w 0) d)) from rfl, e5, ui_s]
        simp only [Bool.or_eq_true, decide_eq_true_eq]
      rw [e3, e4, cs d]
      refine ih _ (fun r h0 h1 => ?_)
      by_cases e : r = d
      · subst e; rw [ui_s]; rfl
      · rw [ui_n e]; exact hf r h0 (by omega)
    exact ⟨fun z => fin 0 (by rw [if_neg (fun q => q z)]), fun z => fin 1 (by rw [if_pos z])⟩
theorem sp_4_step_47 (hc : colN a i) (hs : SP a i a i) (hw : wQ w) (ho : oOK a i (a (w 2))) : (∀ f, oE i (stF a i (a (w 2))) f → Q (some (.inl (if chF (a (w 2)) f (i 0).toNat = true then 1 else 0))) (HH n xs (dk_up (dk_up w 2 (w 3)) 3 (w 2)) (dk_up a (w 3) f) i)) → s_4_step [.inr (.inr 47)] (HH n xs w a i) Q := by
  intro hQ
  have e24 := hs.1
  have hSP := hs
  have hcc := hc
  have hq0 : hh_len (w 2) = some (0, 24) := by rcases hw with ⟨h1, h2⟩ | ⟨h1, h2⟩ <;> rw [h1] <;> rfl
  have hq1 : hh_len (w 3) = some (0, 24) := by rcases hw with ⟨h1, h2⟩ | ⟨h1, h2⟩ <;> rw [h2] <;> rfl
  have hne : ¬ w 2 = w 3 := by rcases hw with ⟨h1, h2⟩ | ⟨h1, h2⟩ <;> omega
  have hbig : 44 ≤ w 3 := by rcases hw with ⟨h1, h2⟩ | ⟨h1, h2⟩ <;> omega
  obtain ⟨⟨p1, p2⟩, ⟨s1, s2⟩, ⟨v1, v2⟩, ⟨n1, n2⟩, ⟨o1, o2⟩, ⟨d1, d2⟩, ⟨e1, e2⟩, ⟨k1, k2⟩, hr, ⟨m1, m2⟩, hd, ⟨b1, b2⟩, hb, hs, hz⟩ := id hc
  obtain ⟨m, hm⟩ := nat_of k1
  have hmt : (i 0).toNat = m := by omega
  rw [hmt] at hQ
  simp (disch := first | assumption | omega | exact zc_lo | exact zc_hi | exact zz_l | exact zz_u | exact zz_r) only [xc_2 gc_4_step_1, xc_3 gc_4_step_0, xl_aload0, xl_aload2, xl_astore2a, xl_astore2i, xl_astore2n, xl_iinc2a, xl_iinc2i, xl_iinc2n, xl_iload1, xl_iload2, xl_istore1a, xl_istore1i, xl_istore1n, xl_istore2a, xl_istore2i, xl_istore2n, xm_f, xm_n, xm_t, xn_2, xn_4, xo_1_1, xo_39_1, xo_44_0, xo_44_1, xo_44_2, xo_44_3, xo_47_0, xo_47_1, xo_47_2, xo_47_3, xp_44_2, xp_44_3, xp_47_2, xp_47_3, xr_goto, xr_iadd, xr_ic_eq, xr_ic_ge, xr_iconst, xr_ior, xr_zret, xtl_n, xtl_s, xz_i, xz_l, xz_n, xz_r, wb_4_step_0, wb_4_step_2, wb_4_step_3, wb_4_step_4, ss_4_step_44, ss_4_step_47, zz_b, zz_bn, Classical.not_not, true_and, Nat.reduceAdd, Nat.reduceLeDiff]
  have e0 : dk_up a (w 3) (a (w 3)) = a := by
    funext j
    by_cases e : j = w 3
    · subst e; rw [up_s]
    · rw [up_n e]
  suffices hP : ∀ d, d ≤ m → ∀ f, (∀ r : Int, 0 ≤ r → r < d → f r = stF a i (a (w 2)) r) → dk_WP g_4_step b_4_step Q 1 [some (.inr (.inr 47)), some (.inl (if chF (a (w 2)) f d = true then 1 else 0)), some (.inl d)] [] (HH n xs w (dk_up a (w 3) f) i) by
    have q := hP 0 (Nat.zero_le _) (a (w 3)) (fun r z1 z2 => by omega)
    rw [e0] at q
    exact q
  refine lp_up ?_ ?_
  · intro f hf
    rw [wb_4_step_1]
    simp (disch := first | assumption | omega | exact zc_lo | exact zc_hi | exact zz_l | exact zz_u | exact zz_r) only [xc_2 gc_4_step_1, xc_3 gc_4_step_0, xl_aload0, xl_aload2, xl_astore2a, xl_astore2i, xl_astore2n, xl_iinc2a, xl_iinc2i, xl_iinc2n, xl_iload1, xl_iload2, xl_istore1a, xl_istore1i, xl_istore1n, xl_istore2a, xl_istore2i, xl_istore2n, xm_f, xm_n, xm_t, xn_2, xn_4, xo_1_1, xo_39_1, xo_44_0, xo_44_1, xo_44_2, xo_44_3, xo_47_0, xo_47_1, xo_47_2, xo_47_3, xp_44_2, xp_44_3, xp_47_2, xp_47_3, xr_goto, xr_iadd, xr_ic_eq, xr_ic_ge, xr_iconst, xr_ior, xr_zret, xtl_n, xtl_s, xz_i, xz_l, xz_n, xz_r, wb_4_step_0, wb_4_step_2, wb_4_step_3, wb_4_step_4, zz_b, zz_bn, Classical.not_not, true_and, Nat.reduceAdd, Nat.reduceLeDiff]
    exact ⟨fun _ => hQ f (fun r h0 h1 => hf r h0 (by omega)), fun z => by omega⟩
  · intro d hdm ih f hf
    have d0 : (0 : Int) ≤ d := by omega
    have d24 : (d : Int) < 24 := by omega
    have dn : (d : Int) < i 0 := by omega
    have hE : cE a (dk_up a (w 3) f) := fun j h1 h2 => up_n (by omega)
    have e2 : dk_up a (w 3) f (w 2) = a (w 2) := up_n hne
    have hs2 : SP (dk_up a (w 3) f) i (dk_up a (w 3) f) i := SP_E hE (fun _ _ => rfl) (SP_s (up_n (by omega)) (up_n (by omega)) (up_n (by omega)) (up_n (by omega)) hSP)
    have hc2 := colN_E hE (fun _ _ => rfl) hcc
    have ho2 : oOK (dk_up a (w 3) f) i (dk_up a (w 3) f (w 2)) := by rw [e2]; exact oOK_E hE (fun _ _ => rfl) ho
    have qo := oOK.b hcc ho d0 dn
    have qt := tuF_bd hcc ho d0 dn
    have qw := wrb hcc (a (w 2) d + tuF a i (a (w 2)) d)
    rw [wb_4_step_1]
    simp (disch := first | assumption | omega | exact zc_lo | exact zc_hi | exact zz_l | exact zz_u | exact zz_r) only [xc_2 gc_4_step_1, xc_3 gc_4_step_0, xl_aload0, xl_aload2, xl_astore2a, xl_astore2i, xl_astore2n, xl_iinc2a, xl_iinc2i, xl_iinc2n, xl_iload1, xl_iload2, xl_istore1a, xl_istore1i, xl_istore1n, xl_istore2a, xl_istore2i, xl_istore2n, xm_f, xm_n, xm_t, xn_2, xn_4, xo_1_1, xo_39_1, xo_44_0, xo_44_1, xo_44_2, xo_44_3, xo_47_0, xo_47_1, xo_47_2, xo_47_3, xp_44_2, xp_44_3, xp_47_2, xp_47_3, xr_goto, xr_iadd, xr_ic_eq, xr_ic_ge, xr_iconst, xr_ior, xr_zret, xtl_n, xtl_s, xz_i, xz_l, xz_n, xz_r, wb_4_step_0, wb_4_step_2, wb_4_step_3, wb_4_step_4, zz_b, zz_bn, Classical.not_not, true_and, Nat.reduceAdd, Nat.reduceLeDiff, xa_w hq0 d0 d24 (by omega), e2]
    refine ⟨fun z => by omega, fun _ => ?_⟩
    refine sp_1_turnOf hc2 hs2 hq0 ho2 d0 dn ?_
    rw [e2, tuF_E hE (fun _ _ => rfl)]
    simp (disch := first | assumption | omega | exact zc_lo | exact zc_hi | exact zz_l | exact zz_u | exact zz_r) only [xc_2 gc_4_step_1, xc_3 gc_4_step_0, xl_aload0, xl_aload2, xl_astore2a, xl_astore2i, xl_astore2n, xl_iinc2a, xl_iinc2i, xl_iinc2n, xl_iload1, xl_iload2, xl_istore1a, xl_istore1i, xl_istore1n, xl_istore2a, xl_istore2i, xl_istore2n, xm_f, xm_n, xm_t, xn_2, xn_4, xo_1_1, xo_39_1, xo_44_0, xo_44_1, xo_44_2, xo_44_3, xo_47_0, xo_47_1, xo_47_2, xo_47_3, xp_44_2, xp_44_3, xp_47_2, xp_47_3, xr_goto, xr_iadd, xr_ic_eq, xr_ic_ge, xr_iconst, xr_ior, xr_zret, xtl_n, xtl_s, xz_i, xz_l, xz_n, xz_r, wb_4_step_0, wb_4_step_2, wb_4_step_3, wb_4_step_4, zz_b, zz_bn, Classical.not_not, true_and, Nat.reduceAdd, Nat.reduceLeDiff, e24, sp_5_wrapped, xs_w hq1 d0 d24 (by omega), xa_w hq0 d0 d24 (by omega), xa_w hq1 d0 d24 (by omega), up_s, up_n hne, ui_s]
    have fin : ∀ x : Int, x = (if ¬ wr (a (w 2) d + tuF a i (a (w 2)) d) (a 2 0) = a (w 2) d then 1 else 0) → dk_WP g_4_step b_4_step Q 1 [some (.inr (.inr 47)), some (.inl (dk_or (if chF (a (w 2)) f d = true then 1 else 0) x)), some (.inl ((d : Int) + 1))] [] (HH n xs w (dk_up (dk_up a (w 3) f) (w 3) (dk_ui f d (wr (a (w 2) d + tuF a i (a (w 2)) d) (a 2 0)))) i) := by
      intro x hx
      have e3 : dk_up (dk_up a (w 3) f) (w 3) (dk_ui f d (wr (a (w 2) d + tuF a i (a (w 2)) d) (a 2 0))) = dk_up a (w 3) (dk_ui f d (wr (a (w 2) d + tuF a i (a (w 2)) d) (a 2 0))) := by
        funext j
        by_cases e : j = w 3
        · subst e; rw [up_s, up_s]
        · rw [up_n e, up_n e, up_n e]
      have e4 : dk_or (if chF (a (w 2)) f d = true then 1 else 0) x = (if chF (a (w 2)) (dk_ui f d (wr (a (w 2) d + tuF a i (a (w 2)) d) (a 2 0))) (d + 1) = true then 1 else 0) := by
        rw [hx, or_b]
        have e5 : chF (a (w 2)) (dk_ui f d (wr (a (w 2) d + tuF a i (a (w 2)) d) (a 2 0))) d = chF (a (w 2)) f d := chF_E (fun r h0 h1 => ⟨ui_n (by omega), rfl⟩)
        rw [show chF (a (w 2)) (dk_ui f d (wr (a (w 2) d + tuF a i (a (w 2)) d) (a 2 0))) (d + 1) = (chF (a (w 2)) (dk_ui f d (wr (a (w 2) d + tuF a i (a (w 2)) d) (a 2 0))) d || decide (¬ dk_ui f d (wr (a (w 2) d + tuF a i (a (w 2)) d) (a 2 0)) d = a (w 2) d)) from rfl, e5, ui_s]
        simp only [Bool.or_eq_true, decide_eq_true_eq]
      rw [e3, e4, cs d]
      refine ih _ (fun r h0 h1 => ?_)
      by_cases e : r = d
      · subst e; rw [ui_s]; rfl
      · rw [ui_n e]; exact hf r h0 (by omega)
    exact ⟨fun z => fin 0 (by rw [if_neg (fun q => q z)]), fun z => fin 1 (by rw [if_pos z])⟩
theorem sp_4_start_44 (hw : wP w) : (∀ f, (∀ r, 0 ≤ r → r < 24 → f r = a 8 r) → Q none (HH n xs w (dk_up a (w 0) f) i)) → s_4_start [.inr (.inr 44)] (HH n xs w a i) Q := by
  intro hQ
  have hq0 : hh_len (w 0) = some (0, 24) := by rcases hw with ⟨h1, h2⟩ | ⟨h1, h2⟩ <;> rw [h1] <;> rfl
  simp (disch := first | assumption | omega | exact zc_lo | exact zc_hi | exact zz_l | exact zz_u | exact zz_r) only [xc_5 gc_4_start_0, xl_aload0, xm_f, xm_n, xm_t, xo_1_7, xo_44_0, xo_44_2, xo_47_0, xo_47_2, xr_iconst, xr_vret, xtl_n, xtl_s, xz_i, xz_l, xz_n, xz_r, wb_4_start_0, ss_4_start_44, ss_4_start_47, zz_b, zz_bn, Classical.not_not, true_and, Nat.reduceAdd, Nat.reduceLeDiff]
  unfold s_ac
  have e1 : dk_ar (HH n xs w a i 8) 0 = some (24, a 8) := rfl
  have e2 : dk_ar (HH n xs w a i (w 0)) 0 = some (24, a (w 0)) := by rw [HH_at hq0]; rfl
  simp only [e1, e2]
  refine ⟨by omega, ?_⟩
  rw [HH_ua hq0]
  simp (disch := first | assumption | omega | exact zc_lo | exact zc_hi | exact zz_l | exact zz_u | exact zz_r) only [xc_5 gc_4_start_0, xl_aload0, xm_f, xm_n, xm_t, xo_1_7, xo_44_0, xo_44_2, xo_47_0, xo_47_2, xr_iconst, xr_vret, xtl_n, xtl_s, xz_i, xz_l, xz_n, xz_r, wb_4_start_0, zz_b, zz_bn, Classical.not_not, true_and, Nat.reduceAdd, Nat.reduceLeDiff]
  exact hQ _ (fun r h0 h1 => by rw [if_pos (by omega)]; congr 1; omega)
/-- a walk of N paces; one that changes nothing ends it -/
theorem sp_4_walk_44 (hc : colN a i) (hs : SP a i a i) (hw : wP w) (ho : oOK a i (a (w 0))) {N : Nat} (hN : N ≤ 200) : (∀ w2 a2, wP w2 → (∀ j, ¬ j = 0 → ¬ j = 1 → w2 j = w j) → sA [45, 46] a a2 → oE i (maF a i (a (w 0)) N) (a2 (w2 0)) → Q none (HH n xs w2 a2 i)) → s_4_walk [.inr (.inr 44), .inl N] (HH n xs w a i) Q := by
  intro hQ
  simp (disch := first | assumption | omega | exact zc_lo | exact zc_hi | exact zz_l | exact zz_u | exact zz_r) only [xc_1 gc_4_walk_0, xl_aload0, xl_iinc3a, xl_iinc3i, xl_iinc3n, xl_iload1, xl_iload2, xl_iload3, xl_istore2a, xl_istore2i, xl_istore2n, xl_istore3a, xl_istore3i, xl_istore3n, xm_f, xm_n, xm_t, xn_2, xr_goto, xr_ic_ge, xr_iconst, xr_if_eq, xr_vret, xtl_n, xtl_s, xz_i, xz_l, xz_n, xz_r, wb_4_walk_0, wb_4_walk_2, ss_4_walk_44, ss_4_walk_47, zz_b, zz_bn, Classical.not_not, true_and, Nat.reduceAdd, Nat.reduceLeDiff]
  suffices hP : ∀ d, d ≤ N → ∀ (g : Int) (w2 : Nat → Nat) (a2 : Nat → Int → Int), wP w2 → (∀ j, ¬ j = 0 → ¬ j = 1 → w2 j = w j) → sA [45, 46] a a2 → oE i (maF a i (a (w 0)) d) (a2 (w2 0)) → (g = 0 ∧ oE i (maF a i (a (w 0)) d) (maF a i (a (w 0)) (d + 1)) ∨ g = 1) → dk_WP g_4_walk b_4_walk Q 1 [some (.inr (.inr 44)), some (.inl N), some (.inl g), some (.inl d)] [] (HH n xs w2 a2 i) from hP 0 (Nat.zero_le _) 1 w a hw (fun _ _ _ => rfl) sA_rf (fun _ _ _ => rfl) (Or.inr rfl)
  refine lp_up ?_ ?_
  · intro g w2 a2 hw2 hww hsa hoe hg
    rw [wb_4_walk_1]
    simp (disch := first | assumption | omega | exact zc_lo | exact zc_hi | exact zz_l | exact zz_u | exact zz_r) only [xc_1 gc_4_walk_0, xl_aload0, xl_iinc3a, xl_iinc3i, xl_iinc3n, xl_iload1, xl_iload2, xl_iload3, xl_istore2a, xl_istore2i, xl_istore2n, xl_istore3a, xl_istore3i, xl_istore3n, xm_f, xm_n, xm_t, xn_2, xr_goto, xr_ic_ge, xr_iconst, xr_if_eq, xr_vret, xtl_n, xtl_s, xz_i, xz_l, xz_n, xz_r, wb_4_walk_0, wb_4_walk_2, zz_b, zz_bn, Classical.not_not, true_and, Nat.reduceAdd, Nat.reduceLeDiff]
    exact ⟨fun _ => hQ w2 a2 hw2 hww hsa hoe, fun z => by omega⟩
  · intro d hdm ih g w2 a2 hw2 hww hsa hoe hg
    have hE := cE_of hsa (by simp)
    rw [wb_4_walk_1]
    have hg2 : -2147483648 ≤ g ∧ g ≤ 2147483647 := by rcases hg with ⟨h, -⟩ | h <;> omega
    simp (disch := first | assumption | omega | exact zc_lo | exact zc_hi | exact zz_l | exact zz_u | exact zz_r) only [xc_1 gc_4_walk_0, xl_aload0, xl_iinc3a, xl_iinc3i, xl_iinc3n, xl_iload1, xl_iload2, xl_iload3, xl_istore2a, xl_istore2i, xl_istore2n, xl_istore3a, xl_istore3i, xl_istore3n, xm_f, xm_n, xm_t, xn_2, xr_goto, xr_ic_ge, xr_iconst, xr_if_eq, xr_vret, xtl_n, xtl_s, xz_i, xz_l, xz_n, xz_r, wb_4_walk_0, wb_4_walk_2, zz_b, zz_bn, Classical.not_not, true_and, Nat.reduceAdd, Nat.reduceLeDiff]
    refine ⟨fun z => by omega, fun _ => ⟨fun z => ?_, fun z => ?_⟩⟩
    · rcases hg with ⟨-, hst⟩ | hg
      · refine hQ w2 a2 hw2 hww hsa (fun r h0 h1 => ?_)
        rw [hoe r h0 h1]
        exact (maF_stay hst N (by omega) r h0 h1).symm
      · omega
    · have hc2 := colN_E hE (fun _ _ => rfl) hc
      have hs2 : SP a2 i a2 i := SP_E hE (fun _ _ => rfl) (SP_s (hsa _ (by simp)) (hsa _ (by simp)) (hsa _ (by simp)) (hsa _ (by simp)) hs)
      have ho2 : oOK a2 i (a2 (w2 0)) := oOK_E hE (fun _ _ => rfl) (oOK_o hoe (maF_ok hc ho d))
      refine sp_4_step_44 hc2 hs2 hw2 ho2 (fun f hf => ?_)
      have hne : ¬ w2 0 = w2 1 := by rcases hw2 with ⟨h1, h2⟩ | ⟨h1, h2⟩ <;> omega
      have hin : w2 1 ∈ [45, 46] := by rcases hw2 with ⟨h1, h2⟩ | ⟨h1, h2⟩ <;> rw [h2] <;> simp
      have hf2 : oE i (maF a i (a (w 0)) (d + 1)) f := fun r h0 h1 => by
        rw [hf r h0 h1, stF_E hE (fun _ _ => rfl)]
        exact stF_o hoe r h0 h1
      simp (disch := first | assumption | omega | exact zc_lo | exact zc_hi | exact zz_l | exact zz_u | exact zz_r) only [xc_1 gc_4_walk_0, xl_aload0, xl_iinc3a, xl_iinc3i, xl_iinc3n, xl_iload1, xl_iload2, xl_iload3, xl_istore2a, xl_istore2i, xl_istore2n, xl_istore3a, xl_istore3i, xl_istore3n, xm_f, xm_n, xm_t, xn_2, xr_goto, xr_ic_ge, xr_iconst, xr_if_eq, xr_vret, xtl_n, xtl_s, xz_i, xz_l, xz_n, xz_r, wb_4_walk_0, wb_4_walk_2, zz_b, zz_bn, Classical.not_not, true_and, Nat.reduceAdd, Nat.reduceLeDiff]
      rw [cs d]
      refine ih _ _ _ ?_ ?_ (sA_up hsa hin _) ?_ ?_
      · rcases hw2 with ⟨h1, h2⟩ | ⟨h1, h2⟩
        · exact Or.inr ⟨by rw [up_n (by decide), up_s, h2], by rw [up_s, h1]⟩
        · exact Or.inl ⟨by rw [up_n (by decide), up_s, h2], by rw [up_s, h1]⟩
      · intro j h1 h2
        rw [up_n h2, up_n h1]
        exact hww j h1 h2
      · rw [up_n (show ¬ 0 = 1 by decide), up_s, up_s]
        exact hf2
      · cases hch : chF (a2 (w2 0)) f (i 0).toNat with
        | true => exact Or.inr rfl
        | false =>
          refine Or.inl ⟨rfl, ?_⟩
          have hst : oE i (maF a i (a (w 0)) d) (maF a i (a (w 0)) (d + 1)) := fun r h0 h1 => by
            have := chF_f hch r h0 (by omega)
            rw [hf2 r h0 h1, hoe r h0 h1] at this
            exact this
          exact fun r h0 h1 => stF_o hst r h0 h1
theorem sp_4_start_47 (hw : wQ w) : (∀ f, (∀ r, 0 ≤ r → r < 24 → f r = a 8 r) → Q none (HH n xs w (dk_up a (w 2) f) i)) → s_4_start [.inr (.inr 47)] (HH n xs w a i) Q := by
  intro hQ
  have hq0 : hh_len (w 2) = some (0, 24) := by rcases hw with ⟨h1, h2⟩ | ⟨h1, h2⟩ <;> rw [h1] <;> rfl
  simp (disch := first | assumption | omega | exact zc_lo | exact zc_hi | exact zz_l | exact zz_u | exact zz_r) only [xc_5 gc_4_start_0, xl_aload0, xm_f, xm_n, xm_t, xo_1_7, xo_44_0, xo_44_2, xo_47_0, xo_47_2, xr_iconst, xr_vret, xtl_n, xtl_s, xz_i, xz_l, xz_n, xz_r, wb_4_start_0, ss_4_start_44, ss_4_start_47, zz_b, zz_bn, Classical.not_not, true_and, Nat.reduceAdd, Nat.reduceLeDiff]
  unfold s_ac
  have e1 : dk_ar (HH n xs w a i 8) 0 = some (24, a 8) := rfl
  have e2 : dk_ar (HH n xs w a i (w 2)) 0 = some (24, a (w 2)) := by rw [HH_at hq0]; rfl
  simp only [e1, e2]
  refine ⟨by omega, ?_⟩
  rw [HH_ua hq0]
  simp (disch := first | assumption | omega | exact zc_lo | exact zc_hi | exact zz_l | exact zz_u | exact zz_r) only [xc_5 gc_4_start_0, xl_aload0, xm_f, xm_n, xm_t, xo_1_7, xo_44_0, xo_44_2, xo_47_0, xo_47_2, xr_iconst, xr_vret, xtl_n, xtl_s, xz_i, xz_l, xz_n, xz_r, wb_4_start_0, zz_b, zz_bn, Classical.not_not, true_and, Nat.reduceAdd, Nat.reduceLeDiff]
  exact hQ _ (fun r h0 h1 => by rw [if_pos (by omega)]; congr 1; omega)
/-- a walk of N paces; one that changes nothing ends it -/
theorem sp_4_walk_47 (hc : colN a i) (hs : SP a i a i) (hw : wQ w) (ho : oOK a i (a (w 2))) {N : Nat} (hN : N ≤ 200) : (∀ w2 a2, wQ w2 → (∀ j, ¬ j = 2 → ¬ j = 3 → w2 j = w j) → sA [48, 49] a a2 → oE i (maF a i (a (w 2)) N) (a2 (w2 2)) → Q none (HH n xs w2 a2 i)) → s_4_walk [.inr (.inr 47), .inl N] (HH n xs w a i) Q := by
  intro hQ
  simp (disch := first | assumption | omega | exact zc_lo | exact zc_hi | exact zz_l | exact zz_u | exact zz_r) only [xc_1 gc_4_walk_0, xl_aload0, xl_iinc3a, xl_iinc3i, xl_iinc3n, xl_iload1, xl_iload2, xl_iload3, xl_istore2a, xl_istore2i, xl_istore2n, xl_istore3a, xl_istore3i, xl_istore3n, xm_f, xm_n, xm_t, xn_2, xr_goto, xr_ic_ge, xr_iconst, xr_if_eq, xr_vret, xtl_n, xtl_s, xz_i, xz_l, xz_n, xz_r, wb_4_walk_0, wb_4_walk_2, ss_4_walk_44, ss_4_walk_47, zz_b, zz_bn, Classical.not_not, true_and, Nat.reduceAdd, Nat.reduceLeDiff]
  suffices hP : ∀ d, d ≤ N → ∀ (g : Int) (w2 : Nat → Nat) (a2 : Nat → Int → Int), wQ w2 → (∀ j, ¬ j = 2 → ¬ j = 3 → w2 j = w j) → sA [48, 49] a a2 → oE i (maF a i (a (w 2)) d) (a2 (w2 2)) → (g = 0 ∧ oE i (maF a i (a (w 2)) d) (maF a i (a (w 2)) (d + 1)) ∨ g = 1) → dk_WP g_4_walk b_4_walk Q 1 [some (.inr (.inr 47)), some (.inl N), some (.inl g), some (.inl d)] [] (HH n xs w2 a2 i) from hP 0 (Nat.zero_le _) 1 w a hw (fun _ _ _ => rfl) sA_rf (fun _ _ _ => rfl) (Or.inr rfl)
  refine lp_up ?_ ?_
  · intro g w2 a2 hw2 hww hsa hoe hg
    rw [wb_4_walk_1]
    simp (disch := first | assumption | omega | exact zc_lo | exact zc_hi | exact zz_l | exact zz_u | exact zz_r) only [xc_1 gc_4_walk_0, xl_aload0, xl_iinc3a, xl_iinc3i, xl_iinc3n, xl_iload1, xl_iload2, xl_iload3, xl_istore2a, xl_istore2i, xl_istore2n, xl_istore3a, xl_istore3i, xl_istore3n, xm_f, xm_n, xm_t, xn_2, xr_goto, xr_ic_ge, xr_iconst, xr_if_eq, xr_vret, xtl_n, xtl_s, xz_i, xz_l, xz_n, xz_r, wb_4_walk_0, wb_4_walk_2, zz_b, zz_bn, Classical.not_not, true_and, Nat.reduceAdd, Nat.reduceLeDiff]
    exact ⟨fun _ => hQ w2 a2 hw2 hww hsa hoe, fun z => by omega⟩
  · intro d hdm ih g w2 a2 hw2 hww hsa hoe hg
    have hE := cE_of hsa (by simp)
    rw [wb_4_walk_1]
    have hg2 : -2147483648 ≤ g ∧ g ≤ 2147483647 := by rcases hg with ⟨h, -⟩ | h <;> omega
    simp (disch := first | assumption | omega | exact zc_lo | exact zc_hi | exact zz_l | exact zz_u | exact zz_r) only [xc_1 gc_4_walk_0, xl_aload0, xl_iinc3a, xl_iinc3i, xl_iinc3n, xl_iload1, xl_iload2, xl_iload3, xl_istore2a, xl_istore2i, xl_istore2n, xl_istore3a, xl_istore3i, xl_istore3n, xm_f, xm_n, xm_t, xn_2, xr_goto, xr_ic_ge, xr_iconst, xr_if_eq, xr_vret, xtl_n, xtl_s, xz_i, xz_l, xz_n, xz_r, wb_4_walk_0, wb_4_walk_2, zz_b, zz_bn, Classical.not_not, true_and, Nat.reduceAdd, Nat.reduceLeDiff]
    refine ⟨fun z => by omega, fun _ => ⟨fun z => ?_, fun z => ?_⟩⟩
    · rcases hg with ⟨-, hst⟩ | hg
      · refine hQ w2 a2 hw2 hww hsa (fun r h0 h1 => ?_)
        rw [hoe r h0 h1]
        exact (maF_stay hst N (by omega) r h0 h1).symm
      · omega
    · have hc2 := colN_E hE (fun _ _ => rfl) hc
      have hs2 : SP a2 i a2 i := SP_E hE (fun _ _ => rfl) (SP_s (hsa _ (by simp)) (hsa _ (by simp)) (hsa _ (by simp)) (hsa _ (by simp)) hs)
      have ho2 : oOK a2 i (a2 (w2 2)) := oOK_E hE (fun _ _ => rfl) (oOK_o hoe (maF_ok hc ho d))
      refine sp_4_step_47 hc2 hs2 hw2 ho2 (fun f hf => ?_)
      have hne : ¬ w2 2 = w2 3 := by rcases hw2 with ⟨h1, h2⟩ | ⟨h1, h2⟩ <;> omega
      have hin : w2 3 ∈ [48, 49] := by rcases hw2 with ⟨h1, h2⟩ | ⟨h1, h2⟩ <;> rw [h2] <;> simp
      have hf2 : oE i (maF a i (a (w 2)) (d + 1)) f := fun r h0 h1 => by
        rw [hf r h0 h1, stF_E hE (fun _ _ => rfl)]
        exact stF_o hoe r h0 h1
      simp (disch := first | assumption | omega | exact zc_lo | exact zc_hi | exact zz_l | exact zz_u | exact zz_r) only [xc_1 gc_4_walk_0, xl_aload0, xl_iinc3a, xl_iinc3i, xl_iinc3n, xl_iload1, xl_iload2, xl_iload3, xl_istore2a, xl_istore2i, xl_istore2n, xl_istore3a, xl_istore3i, xl_istore3n, xm_f, xm_n, xm_t, xn_2, xr_goto, xr_ic_ge, xr_iconst, xr_if_eq, xr_vret, xtl_n, xtl_s, xz_i, xz_l, xz_n, xz_r, wb_4_walk_0, wb_4_walk_2, zz_b, zz_bn, Classical.not_not, true_and, Nat.reduceAdd, Nat.reduceLeDiff]
      rw [cs d]
      refine ih _ _ _ ?_ ?_ (sA_up hsa hin _) ?_ ?_
      · rcases hw2 with ⟨h1, h2⟩ | ⟨h1, h2⟩
        · exact Or.inr ⟨by rw [up_n (by decide), up_s, h2], by rw [up_s, h1]⟩
        · exact Or.inl ⟨by rw [up_n (by decide), up_s, h2], by rw [up_s, h1]⟩
      · intro j h1 h2
        rw [up_n h2, up_n h1]
        exact hww j h1 h2
      · rw [up_n (show ¬ 2 = 3 by decide), up_s, up_s]
        exact hf2
      · cases hch : chF (a2 (w2 2)) f (i 0).toNat with
        | true => exact Or.inr rfl
        | false =>
          refine Or.inl ⟨rfl, ?_⟩
          have hst : oE i (maF a i (a (w 2)) d) (maF a i (a (w 2)) (d + 1)) := fun r h0 h1 => by
            have := chF_f hch r h0 (by omega)
            rw [hf2 r h0 h1, hoe r h0 h1] at this
            exact this
          exact fun r h0 h1 => stF_o hst r h0 h1
end WK
