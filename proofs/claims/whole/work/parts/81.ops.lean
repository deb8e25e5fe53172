/-! CALLS OF BOTH: orders (the reference), begin, apart -/
section OS1
variable {N : Int} {n : Nat} {xs : Int → Int} {w : Nat → Nat} {a : Nat → Int → Int} {i : Nat → Int} {Q : dk_Q} {p q : Int → Int} {w2 : Nat → Nat} {a2 : Nat → Int → Int} {i2 : Nat → Int} {t : Nat} {r : Int}
theorem sp_mbn (hc : colN a i) (hag : agr a i (mv a) (mi i)) (hF : Fr a i p q w2 a2 i2) (h0 : 0 ≤ r) (h1 : r < i 0) : Q (some (.inl (if bnF a i r = true then 1 else 0))) (HH n xs w2 a2 i2) → s_6_isBent [.inr (.inr 53), .inl r] (HH n xs w2 a2 i2) Q := by
  intro hQ
  obtain ⟨hm1, hm2, hm3, hm4, hm5⟩ := Fr_m hc hag hF
  refine sp_6_isBent hm1 h0 (by rw [hm3]; exact h1) ?_
  rw [Fr_mv hF, bnF_E (fun _ _ _ => rfl) (Fr_mi hF), bnF_A hag hc h0 h1]
  exact hQ
/-- what the reference tells of orders -/
def Bg (a : Nat → Int → Int) (i : Nat → Int) (x : Int) (a3 : Nat → Int → Int) (r : Int) : Prop := (vrF a i x r = -2000000000 ∧ a3 70 r = 0) ∨ (¬ vrF a i x r = -2000000000 ∧ a3 70 r = 1 ∧ a3 69 r = vrF a i x r)
theorem sp_6_findBegun (hc : colN a i) (hag : agr a i (mv a) (mi i)) (hF : Fr a i p q w2 a2 i2) {x : Int} (hx : 0 ≤ x ∧ x ≤ 2) : (∀ a3, Fr a i p q w2 a3 i2 → (∀ r, 0 ≤ r → r < i 0 → Bg a i x a3 r) → Q none (HH n xs w2 a3 i2)) → s_6_findBegun [.inr (.inr 53), .inl x] (HH n xs w2 a2 i2) Q := by
  intro hQ
  have hk := k24 hc
  obtain ⟨m, hm⟩ := nat_of hk.1
  obtain ⟨hm1, hm2, hm3, hm4, hm5⟩ := Fr_m hc hag hF
  simp (disch := first | assumption | omega | exact zc_lo | exact zc_hi | exact zz_l | exact zz_u | exact zz_r) only [xa_54, xa_59, xa_69, xa_70, xc_2 gc_6_findBegun_0, xc_2 gc_6_findBegun_3, xc_3 gc_6_findBegun_1, xc_3 gc_6_findBegun_2, xl_aload0, xl_iinc2a, xl_iinc2i, xl_iinc2n, xl_iload1, xl_iload2, xl_iload3, xl_iload4, xl_istore2a, xl_istore2i, xl_istore2n, xl_istore3a, xl_istore3i, xl_istore3n, xl_istore4a, xl_istore4i, xl_istore4n, xm_f, xm_n, xm_t, xn_10, xn_12, xn_15, xn_2, xn_3, xn_5, xn_7, xn_8, xn_9, xo_53_0, xo_53_27, xo_53_28, xo_53_3, xo_53_7, xr_goto, xr_iadd, xr_ic_ge, xr_ic_ne, xr_iconst, xr_if_eq, xr_if_ge, xr_if_lt, xr_if_ne, xr_imul, xr_isub, xr_vret, xs_54, xs_59, xs_69, xs_70, xtl_n, xtl_s, xz_i, xz_l, xz_n, xz_r, wb_6_findBegun_0, wb_6_findBegun_2, wb_6_findBegun_3, wb_6_findBegun_4, wb_6_findBegun_5, wb_6_findBegun_6, wb_6_findBegun_7, wb_6_findBegun_8, wb_6_findBegun_9, wb_6_findBegun_10, wb_6_findBegun_11, wb_6_findBegun_12, wb_6_findBegun_13, wb_6_findBegun_14, wb_6_findBegun_15, ss_6_findBegun, zz_b, zz_bn, Classical.not_not, true_and, Nat.reduceAdd, Nat.reduceLeDiff, true_implies, false_implies, implies_true, not_true_eq_false, not_false_eq_true, and_true, false_and, and_false, if_true, if_false, Int.reduceEq, Int.reduceSub, Int.reduceAdd, Int.reduceMul, Int.reduceNeg, Int.reduceLT, Int.reduceLE, Int.add_zero]
  refine lp_up (m := m) (P := fun d => ∀ a3 l3 l4, Fr a i p q w2 a3 i2 → (∀ r : Int, 0 ≤ r → r < d → Bg a i x a3 r) → dk_WP g_6_findBegun b_6_findBegun Q 1 [some (.inr (.inr 53)), some (.inl x), some (.inl d), l3, l4] [] (HH n xs w2 a3 i2)) ?_ ?_ 0 (Nat.zero_le _) a2 none none hF (fun r z1 z2 => by omega)
  · intro a3 l3 l4 hF3 hv
    rw [wb_6_findBegun_1]
    simp (disch := first | assumption | omega | exact zc_lo | exact zc_hi | exact zz_l | exact zz_u | exact zz_r) only [xa_54, xa_59, xa_69, xa_70, xc_2 gc_6_findBegun_0, xc_2 gc_6_findBegun_3, xc_3 gc_6_findBegun_1, xc_3 gc_6_findBegun_2, xl_aload0, xl_iinc2a, xl_iinc2i, xl_iinc2n, xl_iload1, xl_iload2, xl_iload3, xl_iload4, xl_istore2a, xl_istore2i, xl_istore2n, xl_istore3a, xl_istore3i, xl_istore3n, xl_istore4a, xl_istore4i, xl_istore4n, xm_f, xm_n, xm_t, xn_10, xn_12, xn_15, xn_2, xn_3, xn_5, xn_7, xn_8, xn_9, xo_53_0, xo_53_27, xo_53_28, xo_53_3, xo_53_7, xr_goto, xr_iadd, xr_ic_ge, xr_ic_ne, xr_iconst, xr_if_eq, xr_if_ge, xr_if_lt, xr_if_ne, xr_imul, xr_isub, xr_vret, xs_54, xs_59, xs_69, xs_70, xtl_n, xtl_s, xz_i, xz_l, xz_n, xz_r, wb_6_findBegun_0, wb_6_findBegun_2, wb_6_findBegun_3, wb_6_findBegun_4, wb_6_findBegun_5, wb_6_findBegun_6, wb_6_findBegun_7, wb_6_findBegun_8, wb_6_findBegun_9, wb_6_findBegun_10, wb_6_findBegun_11, wb_6_findBegun_12, wb_6_findBegun_13, wb_6_findBegun_14, wb_6_findBegun_15, zz_b, zz_bn, Classical.not_not, true_and, Nat.reduceAdd, Nat.reduceLeDiff, hm3]
    exact ⟨fun _ => hQ a3 hF3 (fun r z1 z2 => hv r z1 (by omega)), fun z => absurd (by omega) z⟩
  · intro d hdm ih a3 l3 l4 hF3 hv
    have dn : (d : Int) < i 0 := by omega
    have db := dF_b hc (r := d) (by omega) dn
    have vb := vrF_bd hc (x := x) (r := d) (by omega) dn
    have fin : ∀ (u y : Int) l3 l4, (vrF a i x d = -2000000000 ∧ u = 0) ∨ (¬ vrF a i x d = -2000000000 ∧ u = 1 ∧ y = vrF a i x d) → dk_WP g_6_findBegun b_6_findBegun Q 1 [some (.inr (.inr 53)), some (.inl x), some (.inl ((d : Int) + 1)), l3, l4] [] (HH n xs w2 (dk_up (dk_up a3 70 (dk_ui (a3 70) d u)) 69 (dk_ui (a3 69) d y)) i2) := by
      intro u y l3 l4 hy
      rw [cs d]
      refine ih _ _ _ (Fr_sA hF3 (sA_up (sA_up (ks := [69, 70]) sA_rf (by simp) _) (by simp) _) (by decide)) (fun r z1 z2 => ?_)
      unfold Bg
      rw [up_s, up_n (show ¬ 70 = 69 by decide), up_s]
      by_cases e : r = d
      · subst e; rw [ui_s, ui_s]; exact hy
      · rw [ui_n e, ui_n e]; exact hv r z1 (by omega)
    rw [wb_6_findBegun_1]
    simp (disch := first | assumption | omega | exact zc_lo | exact zc_hi | exact zz_l | exact zz_u | exact zz_r) only [xa_54, xa_59, xa_69, xa_70, xc_2 gc_6_findBegun_0, xc_2 gc_6_findBegun_3, xc_3 gc_6_findBegun_1, xc_3 gc_6_findBegun_2, xl_aload0, xl_iinc2a, xl_iinc2i, xl_iinc2n, xl_iload1, xl_iload2, xl_iload3, xl_iload4, xl_istore2a, xl_istore2i, xl_istore2n, xl_istore3a, xl_istore3i, xl_istore3n, xl_istore4a, xl_istore4i, xl_istore4n, xm_f, xm_n, xm_t, xn_10, xn_12, xn_15, xn_2, xn_3, xn_5, xn_7, xn_8, xn_9, xo_53_0, xo_53_27, xo_53_28, xo_53_3, xo_53_7, xr_goto, xr_iadd, xr_ic_ge, xr_ic_ne, xr_iconst, xr_if_eq, xr_if_ge, xr_if_lt, xr_if_ne, xr_imul, xr_isub, xr_vret, xs_54, xs_59, xs_69, xs_70, xtl_n, xtl_s, xz_i, xz_l, xz_n, xz_r, wb_6_findBegun_0, wb_6_findBegun_2, wb_6_findBegun_3, wb_6_findBegun_4, wb_6_findBegun_5, wb_6_findBegun_6, wb_6_findBegun_7, wb_6_findBegun_8, wb_6_findBegun_9, wb_6_findBegun_10, wb_6_findBegun_11, wb_6_findBegun_12, wb_6_findBegun_13, wb_6_findBegun_14, wb_6_findBegun_15, zz_b, zz_bn, Classical.not_not, true_and, Nat.reduceAdd, Nat.reduceLeDiff, hm3]
    refine ⟨fun z => absurd z (by omega), fun _ => ?_⟩
    refine sp_mdr hc hag hF3 (by omega) dn ?_
    have u69 : ∀ f, dk_up a3 70 f 69 = a3 69 := fun f => up_n (by decide)
    have hF4 : ∀ u : Int, Fr a i p q w2 (dk_up a3 70 (dk_ui (a3 70) d u)) i2 := fun u => Fr_sA hF3 (sA_up (ks := [70]) sA_rf (by simp) _) (by decide)
    have R1 := Fr_rul hag (hF4 1) (j := 1) (by omega) (by omega)
    have R2 := Fr_rul hag (hF4 1) (j := 2) (by omega) (by omega)
    have R5 := Fr_rul hag (hF4 1) (j := 5) (by omega) (by omega)
    have R6 := Fr_rul hag (hF4 1) (j := 6) (by omega) (by omega)
    have t1 := (Fr_its hag (hF4 1) (r := d) (by omega) dn).2.1
    by_cases c1 : x = 1
    · have ev : vrF a i x d = beF a i d := by unfold vrF; rw [if_pos c1]
      by_cases c2 : dF a i d = -1
      · have eb : beF a i d = -2000000000 := by
          unfold beF
          unfold dF at c2
          rw [if_pos c2]
        rw [c2]
        simp (disch := first | assumption | omega | exact zc_lo | exact zc_hi | exact zz_l | exact zz_u | exact zz_r) only [xa_54, xa_59, xa_69, xa_70, xc_2 gc_6_findBegun_0, xc_2 gc_6_findBegun_3, xc_3 gc_6_findBegun_1, xc_3 gc_6_findBegun_2, xl_aload0, xl_iinc2a, xl_iinc2i, xl_iinc2n, xl_iload1, xl_iload2, xl_iload3, xl_iload4, xl_istore2a, xl_istore2i, xl_istore2n, xl_istore3a, xl_istore3i, xl_istore3n, xl_istore4a, xl_istore4i, xl_istore4n, xm_f, xm_n, xm_t, xn_10, xn_12, xn_15, xn_2, xn_3, xn_5, xn_7, xn_8, xn_9, xo_53_0, xo_53_27, xo_53_28, xo_53_3, xo_53_7, xr_goto, xr_iadd, xr_ic_ge, xr_ic_ne, xr_iconst, xr_if_eq, xr_if_ge, xr_if_lt, xr_if_ne, xr_imul, xr_isub, xr_vret, xs_54, xs_59, xs_69, xs_70, xtl_n, xtl_s, xz_i, xz_l, xz_n, xz_r, wb_6_findBegun_0, wb_6_findBegun_2, wb_6_findBegun_3, wb_6_findBegun_4, wb_6_findBegun_5, wb_6_findBegun_6, wb_6_findBegun_7, wb_6_findBegun_8, wb_6_findBegun_9, wb_6_findBegun_10, wb_6_findBegun_11, wb_6_findBegun_12, wb_6_findBegun_13, wb_6_findBegun_14, wb_6_findBegun_15, zz_b, zz_bn, Classical.not_not, true_and, Nat.reduceAdd, Nat.reduceLeDiff, c1, u69, eq_self, true_implies, false_implies, implies_true, not_true_eq_false, not_false_eq_true, and_true, false_and, and_false, if_true, if_false, Int.reduceEq, Int.reduceSub, Int.reduceAdd, Int.reduceMul, Int.reduceNeg, Int.reduceLT, Int.reduceLE, Int.add_zero]
        have q := fun l3 l4 => fin 0 0 l3 l4 (Or.inl ⟨by rw [ev, eb], rfl⟩)
        rw [c1] at q
        exact q _ _
      · have d0 : 0 ≤ dF a i d := by omega
        have d0b : ¬ dF a i d < 0 := by omega
        obtain ⟨f1, f2, f3⟩ := Fr_drm hag (hF4 1) d0 db.2
        have lb := lgF_b hc (r := d) (by omega) dn d0 db.2
        have eb : beF a i d = lgF a (dF a i d) d - a 11 (dF a i d) := by
          unfold beF
          unfold dF at c2
          rw [if_neg c2]
          rfl
        obtain ⟨⟨p1, p2⟩, ⟨s1, s2⟩, ⟨v1, v2⟩, ⟨n1, n2⟩, ⟨o1, o2⟩, ⟨d1, d2⟩, ⟨e1, e2⟩, ⟨k1, k2⟩, hr, ⟨m1, m2⟩, hd, ⟨b1, b2⟩, hb, hs, hz⟩ := id hc
        obtain ⟨-, ⟨r1, r2⟩, -⟩ := hr d (by omega) dn
        obtain ⟨⟨g1, g2⟩, ⟨g3, g4⟩, g5, g6⟩ := hd (dF a i d) d0 db.2
        simp (disch := first | assumption | omega | exact zc_lo | exact zc_hi | exact zz_l | exact zz_u | exact zz_r) only [xa_54, xa_59, xa_69, xa_70, xc_2 gc_6_findBegun_0, xc_2 gc_6_findBegun_3, xc_3 gc_6_findBegun_1, xc_3 gc_6_findBegun_2, xl_aload0, xl_iinc2a, xl_iinc2i, xl_iinc2n, xl_iload1, xl_iload2, xl_iload3, xl_iload4, xl_istore2a, xl_istore2i, xl_istore2n, xl_istore3a, xl_istore3i, xl_istore3n, xl_istore4a, xl_istore4i, xl_istore4n, xm_f, xm_n, xm_t, xn_10, xn_12, xn_15, xn_2, xn_3, xn_5, xn_7, xn_8, xn_9, xo_53_0, xo_53_27, xo_53_28, xo_53_3, xo_53_7, xr_goto, xr_iadd, xr_ic_ge, xr_ic_ne, xr_iconst, xr_if_eq, xr_if_ge, xr_if_lt, xr_if_ne, xr_imul, xr_isub, xr_vret, xs_54, xs_59, xs_69, xs_70, xtl_n, xtl_s, xz_i, xz_l, xz_n, xz_r, wb_6_findBegun_0, wb_6_findBegun_2, wb_6_findBegun_3, wb_6_findBegun_4, wb_6_findBegun_5, wb_6_findBegun_6, wb_6_findBegun_7, wb_6_findBegun_8, wb_6_findBegun_9, wb_6_findBegun_10, wb_6_findBegun_11, wb_6_findBegun_12, wb_6_findBegun_13, wb_6_findBegun_14, wb_6_findBegun_15, zz_b, zz_bn, Classical.not_not, true_and, Nat.reduceAdd, Nat.reduceLeDiff, c1, d0, d0b, f1, f3, t1, R1, R2, u69, sp_6_its, sp_6_lagOf, true_implies, false_implies, implies_true, not_true_eq_false, not_false_eq_true, and_true, false_and, and_false, if_true, if_false, Int.reduceEq, Int.reduceSub, Int.reduceAdd, Int.reduceMul, Int.reduceNeg, Int.reduceLT, Int.reduceLE, Int.add_zero]
        have q := fun l3 l4 => fin 1 (lgF a (dF a i d) d - a 11 (dF a i d)) l3 l4 (Or.inr ⟨by omega, rfl, by rw [ev, eb]⟩)
        rw [c1] at q
        exact q _ _
    · by_cases c2 : (d : Int) = 0
      · have ev : vrF a i x d = 0 := by
          unfold vrF
          rw [if_neg c1, show (d : Int).toNat = 0 by omega]
          rfl
        simp (disch := first | assumption | omega | exact zc_lo | exact zc_hi | exact zz_l | exact zz_u | exact zz_r) only [xa_54, xa_59, xa_69, xa_70, xc_2 gc_6_findBegun_0, xc_2 gc_6_findBegun_3, xc_3 gc_6_findBegun_1, xc_3 gc_6_findBegun_2, xl_aload0, xl_iinc2a, xl_iinc2i, xl_iinc2n, xl_iload1, xl_iload2, xl_iload3, xl_iload4, xl_istore2a, xl_istore2i, xl_istore2n, xl_istore3a, xl_istore3i, xl_istore3n, xl_istore4a, xl_istore4i, xl_istore4n, xm_f, xm_n, xm_t, xn_10, xn_12, xn_15, xn_2, xn_3, xn_5, xn_7, xn_8, xn_9, xo_53_0, xo_53_27, xo_53_28, xo_53_3, xo_53_7, xr_goto, xr_iadd, xr_ic_ge, xr_ic_ne, xr_iconst, xr_if_eq, xr_if_ge, xr_if_lt, xr_if_ne, xr_imul, xr_isub, xr_vret, xs_54, xs_59, xs_69, xs_70, xtl_n, xtl_s, xz_i, xz_l, xz_n, xz_r, wb_6_findBegun_0, wb_6_findBegun_2, wb_6_findBegun_3, wb_6_findBegun_4, wb_6_findBegun_5, wb_6_findBegun_6, wb_6_findBegun_7, wb_6_findBegun_8, wb_6_findBegun_9, wb_6_findBegun_10, wb_6_findBegun_11, wb_6_findBegun_12, wb_6_findBegun_13, wb_6_findBegun_14, wb_6_findBegun_15, zz_b, zz_bn, Classical.not_not, true_and, Nat.reduceAdd, Nat.reduceLeDiff, u69]
        refine ⟨fun _ => ⟨fun _ => ⟨fun z => absurd c2 z, fun _ => ?_⟩, fun z => absurd z c1⟩, fun z => absurd z c1⟩
        exact fin 1 0 _ _ (Or.inr ⟨by omega, rfl, by rw [ev]⟩)
      · obtain ⟨e, rfl⟩ : ∃ e, d = e + 1 := ⟨d - 1, by omega⟩
        have em : ((e + 1 : Nat) : Int) - 1 = e := by omega
        have ve : vrF a i x e = bgF a i x e := by
          unfold vrF
          rw [if_neg c1, show (e : Int).toNat = e by omega]
        have hb := bgF_bd hc (x := x) e (by omega)
        have hve : a3 69 e = bgF a i x e := by
          rcases hv e (by omega) (by omega) with ⟨z, -⟩ | ⟨-, -, z⟩
          · omega
          · rw [z, ve]
        have nxt : vrF a i x ((e + 1 : Nat) : Int) = bgF a i x e + (if x = 0 ∨ bnF a i ((e : Int) + 1) = true then a 2 5 + lagF (a 2 1) (a 2 2) (a 4 e) (a 4 ((e : Int) + 1)) else a 2 6) := by
          unfold vrF
          rw [if_neg c1, show ((e + 1 : Nat) : Int).toNat = e + 1 by omega]
          rfl
        have hbd := bgF_bd hc (x := x) (e + 1) (by omega)
        have hnv : ¬ vrF a i x ((e + 1 : Nat) : Int) = -2000000000 := by
          have : vrF a i x ((e + 1 : Nat) : Int) = bgF a i x (e + 1) := by
            unfold vrF
            rw [if_neg c1, show ((e + 1 : Nat) : Int).toNat = e + 1 by omega]
          omega
        have t0 := (Fr_its hag (hF4 1) (r := e) (by omega) (by omega)).2.1
        have hcc := hc
        obtain ⟨⟨p1, p2⟩, ⟨s1, s2⟩, ⟨v1, v2⟩, ⟨n1, n2⟩, ⟨o1, o2⟩, ⟨d1, d2⟩, ⟨e1, e2⟩, ⟨k1, k2⟩, hr, ⟨m1, m2⟩, hd, ⟨b1, b2⟩, hb, hs, hz⟩ := id hc
        obtain ⟨-, ⟨r1, r2⟩, -⟩ := hr e (by omega) (by omega)
        obtain ⟨-, ⟨r3, r4⟩, -⟩ := hr ((e + 1 : Nat) : Int) (by omega) (by omega)
        have mouth : (x = 0 ∨ bnF a i ((e : Int) + 1) = true) → ∀ l3 l4, dk_WP g_6_findBegun b_6_findBegun Q 11 [some (.inr (.inr 53)), some (.inl x), some (.inl ((e + 1 : Nat) : Int)), l3, l4] [.inl 1] (HH n xs w2 (dk_up a3 70 (dk_ui (a3 70) ((e + 1 : Nat) : Int) 1)) i2) := by
          intro hz l3 l4
          simp (disch := first | assumption | omega | exact zc_lo | exact zc_hi | exact zz_l | exact zz_u | exact zz_r) only [xa_54, xa_59, xa_69, xa_70, xc_2 gc_6_findBegun_0, xc_2 gc_6_findBegun_3, xc_3 gc_6_findBegun_1, xc_3 gc_6_findBegun_2, xl_aload0, xl_iinc2a, xl_iinc2i, xl_iinc2n, xl_iload1, xl_iload2, xl_iload3, xl_iload4, xl_istore2a, xl_istore2i, xl_istore2n, xl_istore3a, xl_istore3i, xl_istore3n, xl_istore4a, xl_istore4i, xl_istore4n, xm_f, xm_n, xm_t, xn_10, xn_12, xn_15, xn_2, xn_3, xn_5, xn_7, xn_8, xn_9, xo_53_0, xo_53_27, xo_53_28, xo_53_3, xo_53_7, xr_goto, xr_iadd, xr_ic_ge, xr_ic_ne, xr_iconst, xr_if_eq, xr_if_ge, xr_if_lt, xr_if_ne, xr_imul, xr_isub, xr_vret, xs_54, xs_59, xs_69, xs_70, xtl_n, xtl_s, xz_i, xz_l, xz_n, xz_r, wb_6_findBegun_0, wb_6_findBegun_2, wb_6_findBegun_3, wb_6_findBegun_4, wb_6_findBegun_5, wb_6_findBegun_6, wb_6_findBegun_7, wb_6_findBegun_8, wb_6_findBegun_9, wb_6_findBegun_10, wb_6_findBegun_11, wb_6_findBegun_12, wb_6_findBegun_13, wb_6_findBegun_14, wb_6_findBegun_15, zz_b, zz_bn, Classical.not_not, true_and, Nat.reduceAdd, Nat.reduceLeDiff, em, u69, hve, t0, t1, R1, R2, R5, sp_6_its, sp_6_lagOf, true_implies, false_implies, implies_true, not_true_eq_false, not_false_eq_true, and_true, false_and, and_false, if_true, if_false, Int.reduceEq, Int.reduceSub, Int.reduceAdd, Int.reduceMul, Int.reduceNeg, Int.reduceLT, Int.reduceLE, Int.add_zero]
          refine fin _ _ _ _ (Or.inr ⟨hnv, rfl, ?_⟩)
          rw [nxt, if_pos hz, ← cs e]
        have hand : ¬ (x = 0 ∨ bnF a i ((e : Int) + 1) = true) → ∀ l3 l4, dk_WP g_6_findBegun b_6_findBegun Q 11 [some (.inr (.inr 53)), some (.inl x), some (.inl ((e + 1 : Nat) : Int)), l3, l4] [.inl 0] (HH n xs w2 (dk_up a3 70 (dk_ui (a3 70) ((e + 1 : Nat) : Int) 1)) i2) := by
          intro hz l3 l4
          simp (disch := first | assumption | omega | exact zc_lo | exact zc_hi | exact zz_l | exact zz_u | exact zz_r) only [xa_54, xa_59, xa_69, xa_70, xc_2 gc_6_findBegun_0, xc_2 gc_6_findBegun_3, xc_3 gc_6_findBegun_1, xc_3 gc_6_findBegun_2, xl_aload0, xl_iinc2a, xl_iinc2i, xl_iinc2n, xl_iload1, xl_iload2, xl_iload3, xl_iload4, xl_istore2a, xl_istore2i, xl_istore2n, xl_istore3a, xl_istore3i, xl_istore3n, xl_istore4a, xl_istore4i, xl_istore4n, xm_f, xm_n, xm_t, xn_10, xn_12, xn_15, xn_2, xn_3, xn_5, xn_7, xn_8, xn_9, xo_53_0, xo_53_27, xo_53_28, xo_53_3, xo_53_7, xr_goto, xr_iadd, xr_ic_ge, xr_ic_ne, xr_iconst, xr_if_eq, xr_if_ge, xr_if_lt, xr_if_ne, xr_imul, xr_isub, xr_vret, xs_54, xs_59, xs_69, xs_70, xtl_n, xtl_s, xz_i, xz_l, xz_n, xz_r, wb_6_findBegun_0, wb_6_findBegun_2, wb_6_findBegun_3, wb_6_findBegun_4, wb_6_findBegun_5, wb_6_findBegun_6, wb_6_findBegun_7, wb_6_findBegun_8, wb_6_findBegun_9, wb_6_findBegun_10, wb_6_findBegun_11, wb_6_findBegun_12, wb_6_findBegun_13, wb_6_findBegun_14, wb_6_findBegun_15, zz_b, zz_bn, Classical.not_not, true_and, Nat.reduceAdd, Nat.reduceLeDiff, em, u69, hve, R6, eq_self, true_implies, false_implies, implies_true, not_true_eq_false, not_false_eq_true, and_true, false_and, and_false, if_true, if_false, Int.reduceEq, Int.reduceSub, Int.reduceAdd, Int.reduceMul, Int.reduceNeg, Int.reduceLT, Int.reduceLE, Int.add_zero]
          refine fin _ _ _ _ (Or.inr ⟨hnv, rfl, ?_⟩)
          rw [nxt, if_neg hz]
        simp (disch := first | assumption | omega | exact zc_lo | exact zc_hi | exact zz_l | exact zz_u | exact zz_r) only [xa_54, xa_59, xa_69, xa_70, xc_2 gc_6_findBegun_0, xc_2 gc_6_findBegun_3, xc_3 gc_6_findBegun_1, xc_3 gc_6_findBegun_2, xl_aload0, xl_iinc2a, xl_iinc2i, xl_iinc2n, xl_iload1, xl_iload2, xl_iload3, xl_iload4, xl_istore2a, xl_istore2i, xl_istore2n, xl_istore3a, xl_istore3i, xl_istore3n, xl_istore4a, xl_istore4i, xl_istore4n, xm_f, xm_n, xm_t, xn_10, xn_12, xn_15, xn_2, xn_3, xn_5, xn_7, xn_8, xn_9, xo_53_0, xo_53_27, xo_53_28, xo_53_3, xo_53_7, xr_goto, xr_iadd, xr_ic_ge, xr_ic_ne, xr_iconst, xr_if_eq, xr_if_ge, xr_if_lt, xr_if_ne, xr_imul, xr_isub, xr_vret, xs_54, xs_59, xs_69, xs_70, xtl_n, xtl_s, xz_i, xz_l, xz_n, xz_r, zz_b, zz_bn, Classical.not_not, true_and, Nat.reduceAdd, Nat.reduceLeDiff, wb_6_findBegun_2, wb_6_findBegun_3, wb_6_findBegun_4, wb_6_findBegun_7, wb_6_findBegun_8, wb_6_findBegun_9, wb_6_findBegun_10]
        refine ⟨fun _ => ⟨fun _ => ⟨fun _ => ⟨fun z => mouth (Or.inl z) _ _, fun z => ?_⟩, fun z => absurd z c2⟩, fun z => absurd z c1⟩, fun z => absurd z c1⟩
        refine sp_mbn hcc hag (hF4 1) (by omega) (by omega) ?_
        rw [← cs e]
        simp (disch := first | assumption | omega | exact zc_lo | exact zc_hi | exact zz_l | exact zz_u | exact zz_r) only [xa_54, xa_59, xa_69, xa_70, xc_2 gc_6_findBegun_0, xc_2 gc_6_findBegun_3, xc_3 gc_6_findBegun_1, xc_3 gc_6_findBegun_2, xl_aload0, xl_iinc2a, xl_iinc2i, xl_iinc2n, xl_iload1, xl_iload2, xl_iload3, xl_iload4, xl_istore2a, xl_istore2i, xl_istore2n, xl_istore3a, xl_istore3i, xl_istore3n, xl_istore4a, xl_istore4i, xl_istore4n, xm_f, xm_n, xm_t, xn_10, xn_12, xn_15, xn_2, xn_3, xn_5, xn_7, xn_8, xn_9, xo_53_0, xo_53_27, xo_53_28, xo_53_3, xo_53_7, xr_goto, xr_iadd, xr_ic_ge, xr_ic_ne, xr_iconst, xr_if_eq, xr_if_ge, xr_if_lt, xr_if_ne, xr_imul, xr_isub, xr_vret, xs_54, xs_59, xs_69, xs_70, xtl_n, xtl_s, xz_i, xz_l, xz_n, xz_r, zz_b, zz_bn, Classical.not_not, true_and, Nat.reduceAdd, Nat.reduceLeDiff, wb_6_findBegun_9, wb_6_findBegun_10]
        refine ⟨fun z2 => ?_, fun z2 => ?_⟩
        · exact hand (fun q => by rcases q with q | q; exact z q; exact absurd q z2) _ _
        · exact mouth (Or.inr z2) _ _
theorem op_begin (h : Inv N w a i) {x : Int} (x1 : -2147483648 ≤ x) (x2 : x ≤ 2147483647) (r1 : -2147483648 ≤ r) (r2 : r ≤ 2147483647) : s_5_begin [.inr (.inr 0), .inl x, .inl r] (HH n xs w a i) (fun r2 h => s_6_begin [.inr (.inr 53), .inl x, .inl r] h (OPQ n xs N r2)) := by
  have hF := Fr_rf h
  have hc := h.2.1
  have hag := h.2.2.1
  have hmc := colN_A hag hc
  obtain ⟨⟨p1, p2⟩, ⟨s1, s2⟩, ⟨v1, v2⟩, ⟨n1, n2⟩, ⟨o1, o2⟩, ⟨d1, d2⟩, ⟨e1, e2⟩, ⟨k1, k2⟩, hr, ⟨m1, m2⟩, hd, ⟨b1, b2⟩, hb, hs, hz⟩ := id hc
  obtain ⟨hkE, hA2, hA3, hA4, hA5, hA6⟩ := id hag
  have K0 : i 30 = i 0 := hkE 0 (by omega)
  have K1 : i 31 = i 1 := hkE 1 (by omega)
  have K2 : i 32 = i 2 := hkE 2 (by omega)
  have K3 : i 33 = i 3 := hkE 3 (by omega)
  have R0 : a 54 0 = a 2 0 := hA2 0 (by omega) (by omega)
  have R1 : a 54 1 = a 2 1 := hA2 1 (by omega) (by omega)
  have R2 : a 54 2 = a 2 2 := hA2 2 (by omega) (by omega)
  have R3 : a 54 3 = a 2 3 := hA2 3 (by omega) (by omega)
  have R4 : a 54 4 = a 2 4 := hA2 4 (by omega) (by omega)
  have R5 : a 54 5 = a 2 5 := hA2 5 (by omega) (by omega)
  have R6 : a 54 6 = a 2 6 := hA2 6 (by omega) (by omega)
  by_cases c1 : 0 ≤ x ∧ x ≤ 2
  · by_cases c2 : 0 ≤ r ∧ r < i 0
    · have vb := vrF_bd hc (x := x) c2.1 c2.2
      have r24 : r < 24 := by omega
      have r0 : 0 ≤ r := c2.1
      simp (disch := first | assumption | omega | exact zc_lo | exact zc_hi | exact zz_l | exact zz_u | exact zz_r) only [xa_51, xc_2 gc_5_begin_1, xc_2 gc_5_begin_2, xc_2 gc_5_begin_3, xc_3 gc_5_begin_0, xl_aload0, xl_iload1, xl_iload2, xm_f, xm_n, xm_t, xn_1, xn_2, xn_3, xo_0_0, xo_0_9, xr_goto, xr_ic_ne, xr_iconst, xr_if_eq, xr_if_ne, xr_iret, xtl_n, xtl_s, xz_i, xz_l, xz_n, xz_r, wb_5_begin_0, wb_5_begin_1, wb_5_begin_2, wb_5_begin_3, wb_5_begin_4, ss_5_begin, zz_b, zz_bn, Classical.not_not, true_and, Nat.reduceAdd, Nat.reduceLeDiff, sp_5_isWithin, sp_0_hasRank, c1, c2, true_implies, false_implies, implies_true, not_true_eq_false, not_false_eq_true, and_true, false_and, and_false, if_true, if_false, Int.reduceEq, Int.reduceSub, Int.reduceAdd, Int.reduceMul, Int.reduceNeg, Int.reduceLT, Int.reduceLE, Int.add_zero]
      refine sp_5_tellBeginnings hc hF c1 (fun a3 hF3 hv => ?_)
      have ev := hv r c2.1 c2.2
      have mdl : ∀ {p w3 a3 i3}, Fr a i p (a 62) w3 a3 i3 → ∀ (Q : dk_Q), (vrF a i x r = -2000000000 → ∀ a4, Fr a i p (bm (a 62) 3) w3 a4 i3 → Q (some (.inl (-1000001 - 3))) (HH n xs w3 a4 i3)) → (¬ vrF a i x r = -2000000000 → ∀ a4, Fr a i p (a 62) w3 a4 i3 → Q (some (.inl (vrF a i x r))) (HH n xs w3 a4 i3)) → s_6_begin [.inr (.inr 53), .inl x, .inl r] (HH n xs w3 a3 i3) Q := by
        intro p w3 a3 i3 hF3 Q hQ1 hQ2
        obtain ⟨hm1, hm2, hm3, hm4, hm5⟩ := Fr_m hc hag hF3
        have b30 : 0 ≤ i3 30 ∧ i3 30 ≤ 24 := by omega
        have c3 : 0 ≤ r ∧ r ≤ i3 30 - 1 := by omega
        simp (disch := first | assumption | omega | exact zc_lo | exact zc_hi | exact zz_l | exact zz_u | exact zz_r) only [xa_69, xa_70, xc_2 gc_6_begin_1, xc_2 gc_6_begin_2, xc_2 gc_6_begin_3, xc_3 gc_6_begin_0, xl_aload0, xl_iload1, xl_iload2, xm_f, xm_n, xm_t, xn_1, xn_2, xn_3, xo_53_27, xo_53_28, xr_goto, xr_iconst, xr_if_eq, xr_if_ne, xr_iret, xtl_n, xtl_s, xz_i, xz_l, xz_n, xz_r, wb_6_begin_0, wb_6_begin_1, wb_6_begin_2, wb_6_begin_3, wb_6_begin_4, ss_6_begin, zz_b, zz_bn, Classical.not_not, true_and, Nat.reduceAdd, Nat.reduceLeDiff, sp_6_in, sp_6_isRank, c1, c3, true_implies, false_implies, implies_true, not_true_eq_false, not_false_eq_true, and_true, false_and, and_false, if_true, if_false, Int.reduceEq, Int.reduceSub, Int.reduceAdd, Int.reduceMul, Int.reduceNeg, Int.reduceLT, Int.reduceLE, Int.add_zero]
        refine sp_6_findBegun hc hag hF3 c1 (fun a4 hF4 hB => ?_)
        rcases hB r c2.1 c2.2 with ⟨z1, z2⟩ | ⟨z1, z2, z3⟩
        · simp (disch := first | assumption | omega | exact zc_lo | exact zc_hi | exact zz_l | exact zz_u | exact zz_r) only [xa_69, xa_70, xc_2 gc_6_begin_1, xc_2 gc_6_begin_2, xc_2 gc_6_begin_3, xc_3 gc_6_begin_0, xl_aload0, xl_iload1, xl_iload2, xm_f, xm_n, xm_t, xn_1, xn_2, xn_3, xo_53_27, xo_53_28, xr_goto, xr_iconst, xr_if_eq, xr_if_ne, xr_iret, xtl_n, xtl_s, xz_i, xz_l, xz_n, xz_r, wb_6_begin_0, wb_6_begin_1, wb_6_begin_2, wb_6_begin_3, wb_6_begin_4, zz_b, zz_bn, Classical.not_not, true_and, Nat.reduceAdd, Nat.reduceLeDiff, z2, eq_self, true_implies, false_implies, implies_true, not_true_eq_false, not_false_eq_true, and_true, false_and, and_false, if_true, if_false, Int.reduceEq, Int.reduceSub, Int.reduceAdd, Int.reduceMul, Int.reduceNeg, Int.reduceLT, Int.reduceLE, Int.add_zero]
          refine sp_fi6 hF4 (by omega) (by omega) (fun a5 hF5 => ?_)
          simp (disch := first | assumption | omega | exact zc_lo | exact zc_hi | exact zz_l | exact zz_u | exact zz_r) only [xa_69, xa_70, xc_2 gc_6_begin_1, xc_2 gc_6_begin_2, xc_2 gc_6_begin_3, xc_3 gc_6_begin_0, xl_aload0, xl_iload1, xl_iload2, xm_f, xm_n, xm_t, xn_1, xn_2, xn_3, xo_53_27, xo_53_28, xr_goto, xr_iconst, xr_if_eq, xr_if_ne, xr_iret, xtl_n, xtl_s, xz_i, xz_l, xz_n, xz_r, wb_6_begin_0, wb_6_begin_1, wb_6_begin_2, wb_6_begin_3, wb_6_begin_4, zz_b, zz_bn, Classical.not_not, true_and, Nat.reduceAdd, Nat.reduceLeDiff, true_implies, false_implies, implies_true, not_true_eq_false, not_false_eq_true, and_true, false_and, and_false, if_true, if_false, Int.reduceEq, Int.reduceSub, Int.reduceAdd, Int.reduceMul, Int.reduceNeg, Int.reduceLT, Int.reduceLE, Int.add_zero]
          exact hQ1 z1 a5 hF5
        · simp (disch := first | assumption | omega | exact zc_lo | exact zc_hi | exact zz_l | exact zz_u | exact zz_r) only [xa_69, xa_70, xc_2 gc_6_begin_1, xc_2 gc_6_begin_2, xc_2 gc_6_begin_3, xc_3 gc_6_begin_0, xl_aload0, xl_iload1, xl_iload2, xm_f, xm_n, xm_t, xn_1, xn_2, xn_3, xo_53_27, xo_53_28, xr_goto, xr_iconst, xr_if_eq, xr_if_ne, xr_iret, xtl_n, xtl_s, xz_i, xz_l, xz_n, xz_r, wb_6_begin_0, wb_6_begin_1, wb_6_begin_2, wb_6_begin_3, wb_6_begin_4, zz_b, zz_bn, Classical.not_not, true_and, Nat.reduceAdd, Nat.reduceLeDiff, z2, z3, eq_self, true_implies, false_implies, implies_true, not_true_eq_false, not_false_eq_true, and_true, false_and, and_false, if_true, if_false, Int.reduceEq, Int.reduceSub, Int.reduceAdd, Int.reduceMul, Int.reduceNeg, Int.reduceLT, Int.reduceLE, Int.add_zero]
          exact hQ2 z1 a4 hF4
      by_cases c4 : vrF a i x r = -2000000000
      · rw [c4] at ev
        simp (disch := first | assumption | omega | exact zc_lo | exact zc_hi | exact zz_l | exact zz_u | exact zz_r) only [xa_51, xc_2 gc_5_begin_1, xc_2 gc_5_begin_2, xc_2 gc_5_begin_3, xc_3 gc_5_begin_0, xl_aload0, xl_iload1, xl_iload2, xm_f, xm_n, xm_t, xn_1, xn_2, xn_3, xo_0_0, xo_0_9, xr_goto, xr_ic_ne, xr_iconst, xr_if_eq, xr_if_ne, xr_iret, xtl_n, xtl_s, xz_i, xz_l, xz_n, xz_r, wb_5_begin_0, wb_5_begin_1, wb_5_begin_2, wb_5_begin_3, wb_5_begin_4, zz_b, zz_bn, Classical.not_not, true_and, Nat.reduceAdd, Nat.reduceLeDiff, ev, eq_self, true_implies, false_implies, implies_true, not_true_eq_false, not_false_eq_true, and_true, false_and, and_false, if_true, if_false, Int.reduceEq, Int.reduceSub, Int.reduceAdd, Int.reduceMul, Int.reduceNeg, Int.reduceLT, Int.reduceLE, Int.add_zero]
        refine sp_fi5 hF3 (by omega) (by omega) (fun a4 hF4 => ?_)
        simp (disch := first | assumption | omega | exact zc_lo | exact zc_hi | exact zz_l | exact zz_u | exact zz_r) only [xa_51, xc_2 gc_5_begin_1, xc_2 gc_5_begin_2, xc_2 gc_5_begin_3, xc_3 gc_5_begin_0, xl_aload0, xl_iload1, xl_iload2, xm_f, xm_n, xm_t, xn_1, xn_2, xn_3, xo_0_0, xo_0_9, xr_goto, xr_ic_ne, xr_iconst, xr_if_eq, xr_if_ne, xr_iret, xtl_n, xtl_s, xz_i, xz_l, xz_n, xz_r, wb_5_begin_0, wb_5_begin_1, wb_5_begin_2, wb_5_begin_3, wb_5_begin_4, zz_b, zz_bn, Classical.not_not, true_and, Nat.reduceAdd, Nat.reduceLeDiff, true_implies, false_implies, implies_true, not_true_eq_false, not_false_eq_true, and_true, false_and, and_false, if_true, if_false, Int.reduceEq, Int.reduceSub, Int.reduceAdd, Int.reduceMul, Int.reduceNeg, Int.reduceLT, Int.reduceLE, Int.add_zero]
        exact mdl hF4 _ (fun _ a5 hF5 => OPQ_d h (by omega) (by omega) hF5) (fun z => absurd c4 z)
      · have c5 : -2147483648 ≤ vrF a i x r ∧ vrF a i x r ≤ 2147483647 := by omega
        simp (disch := first | assumption | omega | exact zc_lo | exact zc_hi | exact zz_l | exact zz_u | exact zz_r) only [xa_51, xc_2 gc_5_begin_1, xc_2 gc_5_begin_2, xc_2 gc_5_begin_3, xc_3 gc_5_begin_0, xl_aload0, xl_iload1, xl_iload2, xm_f, xm_n, xm_t, xn_1, xn_2, xn_3, xo_0_0, xo_0_9, xr_goto, xr_ic_ne, xr_iconst, xr_if_eq, xr_if_ne, xr_iret, xtl_n, xtl_s, xz_i, xz_l, xz_n, xz_r, wb_5_begin_0, wb_5_begin_1, wb_5_begin_2, wb_5_begin_3, wb_5_begin_4, zz_b, zz_bn, Classical.not_not, true_and, Nat.reduceAdd, Nat.reduceLeDiff, ev, c4, true_implies, false_implies, implies_true, not_true_eq_false, not_false_eq_true, and_true, false_and, and_false, if_true, if_false, Int.reduceEq, Int.reduceSub, Int.reduceAdd, Int.reduceMul, Int.reduceNeg, Int.reduceLT, Int.reduceLE, Int.add_zero]
        exact mdl hF3 _ (fun z => absurd z c4) (fun _ a5 hF5 => OPQ_f h hF5 (by omega) (by omega))
    · have c3 : ¬ (0 ≤ r ∧ r ≤ i 30 - 1) := by omega
      simp (disch := first | assumption | omega | exact zc_lo | exact zc_hi | exact zz_l | exact zz_u | exact zz_r) only [xa_51, xc_2 gc_5_begin_1, xc_2 gc_5_begin_2, xc_2 gc_5_begin_3, xc_3 gc_5_begin_0, xl_aload0, xl_iload1, xl_iload2, xm_f, xm_n, xm_t, xn_1, xn_2, xn_3, xo_0_0, xo_0_9, xr_goto, xr_ic_ne, xr_iconst, xr_if_eq, xr_if_ne, xr_iret, xtl_n, xtl_s, xz_i, xz_l, xz_n, xz_r, wb_5_begin_0, wb_5_begin_1, wb_5_begin_2, wb_5_begin_3, wb_5_begin_4, ss_5_begin, xa_69, xa_70, xc_2 gc_6_begin_1, xc_2 gc_6_begin_2, xc_2 gc_6_begin_3, xc_3 gc_6_begin_0, xl_aload0, xl_iload1, xl_iload2, xm_f, xm_n, xm_t, xn_1, xn_2, xn_3, xo_53_27, xo_53_28, xr_goto, xr_iconst, xr_if_eq, xr_if_ne, xr_iret, xtl_n, xtl_s, xz_i, xz_l, xz_n, xz_r, wb_6_begin_0, wb_6_begin_1, wb_6_begin_2, wb_6_begin_3, wb_6_begin_4, ss_6_begin, zz_b, zz_bn, Classical.not_not, true_and, Nat.reduceAdd, Nat.reduceLeDiff, sp_5_isWithin, sp_0_hasRank, sp_6_in, sp_6_isRank, sp_5_finding, sp_6_finds, c1, c2, c3, true_implies, false_implies, implies_true, not_true_eq_false, not_false_eq_true, and_true, false_and, and_false, if_true, if_false, Int.reduceEq, Int.reduceSub, Int.reduceAdd, Int.reduceMul, Int.reduceNeg, Int.reduceLT, Int.reduceLE, Int.add_zero]
      exact fnd h 0 (by omega) (by omega)
  · simp (disch := first | assumption | omega | exact zc_lo | exact zc_hi | exact zz_l | exact zz_u | exact zz_r) only [xa_51, xc_2 gc_5_begin_1, xc_2 gc_5_begin_2, xc_2 gc_5_begin_3, xc_3 gc_5_begin_0, xl_aload0, xl_iload1, xl_iload2, xm_f, xm_n, xm_t, xn_1, xn_2, xn_3, xo_0_0, xo_0_9, xr_goto, xr_ic_ne, xr_iconst, xr_if_eq, xr_if_ne, xr_iret, xtl_n, xtl_s, xz_i, xz_l, xz_n, xz_r, wb_5_begin_0, wb_5_begin_1, wb_5_begin_2, wb_5_begin_3, wb_5_begin_4, ss_5_begin, xa_69, xa_70, xc_2 gc_6_begin_1, xc_2 gc_6_begin_2, xc_2 gc_6_begin_3, xc_3 gc_6_begin_0, xl_aload0, xl_iload1, xl_iload2, xm_f, xm_n, xm_t, xn_1, xn_2, xn_3, xo_53_27, xo_53_28, xr_goto, xr_iconst, xr_if_eq, xr_if_ne, xr_iret, xtl_n, xtl_s, xz_i, xz_l, xz_n, xz_r, wb_6_begin_0, wb_6_begin_1, wb_6_begin_2, wb_6_begin_3, wb_6_begin_4, ss_6_begin, zz_b, zz_bn, Classical.not_not, true_and, Nat.reduceAdd, Nat.reduceLeDiff, sp_5_isWithin, sp_0_hasRank, sp_6_in, sp_6_isRank, sp_5_finding, sp_6_finds, c1, true_implies, false_implies, implies_true, not_true_eq_false, not_false_eq_true, and_true, false_and, and_false, if_true, if_false, Int.reduceEq, Int.reduceSub, Int.reduceAdd, Int.reduceMul, Int.reduceNeg, Int.reduceLT, Int.reduceLE, Int.add_zero]
    exact fnd h 0 (by omega) (by omega)
/-- whether one has begun, the first, the last -/
def apF (v : Int → Int) : Nat → Bool × Int × Int
  | 0 => (false, 0, 0)
  | r + 1 => if v r = -2000000000 then apF v r else (true, if (apF v r).1 = true then mn (apF v r).2.1 (v r) else v r, if (apF v r).1 = true then mx (apF v r).2.2 (v r) else v r)
theorem apF_bd {v : Int → Int} : ∀ m : Nat, (∀ r : Int, 0 ≤ r → r < m → v r = -2000000000 ∨ (-999 ≤ v r ∧ v r ≤ 120000000)) → (-999 ≤ (apF v m).2.1 ∧ (apF v m).2.1 ≤ 120000000) ∧ (-999 ≤ (apF v m).2.2 ∧ (apF v m).2.2 ≤ 120000000)
  | 0, _ => by simp only [apF]; omega
  | m + 1, h => by
    have q := apF_bd (v := v) m (fun r h0 h1 => h r h0 (by omega))
    have q2 := h m (by omega) (by omega)
    unfold apF mn mx
    split
    · exact q
    · simp only
      refine ⟨?_, ?_⟩
      · split
        · split <;> omega
        · omega
      · split
        · split <;> omega
        · omega
theorem apF_n {v : Int → Int} {r : Nat} (h : v r = -2000000000) : apF v (r + 1) = apF v r := by
  rw [apF, if_pos h]
theorem apF_t {v : Int → Int} {r : Nat} (h : ¬ v r = -2000000000) (h2 : (apF v r).1 = true) : apF v (r + 1) = (true, mn (apF v r).2.1 (v r), mx (apF v r).2.2 (v r)) := by
  rw [apF, if_neg h, if_pos h2, if_pos h2]
theorem apF_f {v : Int → Int} {r : Nat} (h : ¬ v r = -2000000000) (h2 : (apF v r).1 = false) : apF v (r + 1) = (true, v r, v r) := by
  have h3 : ¬ (apF v r).1 = true := by rw [h2]; exact Bool.false_ne_true
  rw [apF, if_neg h, if_neg h3, if_neg h3]
theorem md_apart (hc : colN a i) (hag : agr a i (mv a) (mi i)) (hF : Fr a i p q w2 a2 i2) {x : Int} (c1 : 0 ≤ x ∧ x ≤ 2) {m : Nat} (hm : i 0 = m) : ((apF (vrF a i x) m).1 = false → ∀ a4, Fr a i p (bm q 3) w2 a4 i2 → Q (some (.inl (-1000001 - 3))) (HH n xs w2 a4 i2)) → ((apF (vrF a i x) m).1 = true → ∀ a4, Fr a i p q w2 a4 i2 → Q (some (.inl ((apF (vrF a i x) m).2.2 - (apF (vrF a i x) m).2.1))) (HH n xs w2 a4 i2)) → s_6_apart [.inr (.inr 53), .inl x] (HH n xs w2 a2 i2) Q := by
  intro hQ1 hQ2
  obtain ⟨hm1, hm2, hm3, hm4, hm5⟩ := Fr_m hc hag hF
  have hk := k24 hc
  simp (disch := first | assumption | omega | exact zc_lo | exact zc_hi | exact zz_l | exact zz_u | exact zz_r) only [xa_69, xa_70, xc_2 gc_6_apart_1, xc_2 gc_6_apart_2, xc_3 gc_6_apart_0, xl_aload0, xl_iinc2a, xl_iinc2i, xl_iinc2n, xl_iinc5a, xl_iinc5i, xl_iinc5n, xl_iload1, xl_iload2, xl_iload3, xl_iload4, xl_iload5, xl_istore2a, xl_istore2i, xl_istore2n, xl_istore3a, xl_istore3i, xl_istore3n, xl_istore4a, xl_istore4i, xl_istore4n, xl_istore5a, xl_istore5i, xl_istore5n, xm_f, xm_n, xm_t, xn_1, xn_10, xn_11, xn_3, xn_4, xn_6, xn_7, xn_9, xo_53_27, xo_53_28, xo_53_3, xr_goto, xr_ic_ge, xr_ic_le, xr_iconst, xr_if_eq, xr_if_ne, xr_iret, xr_isub, xtl_n, xtl_s, xz_i, xz_l, xz_n, xz_r, wb_6_apart_0, wb_6_apart_1, wb_6_apart_3, wb_6_apart_4, wb_6_apart_5, wb_6_apart_6, wb_6_apart_7, wb_6_apart_8, wb_6_apart_9, wb_6_apart_10, wb_6_apart_11, wb_6_apart_12, ss_6_apart, zz_b, zz_bn, Classical.not_not, true_and, Nat.reduceAdd, Nat.reduceLeDiff, sp_6_in, c1, true_implies, false_implies, implies_true, not_true_eq_false, not_false_eq_true, and_true, false_and, and_false, if_true, if_false, Int.reduceEq, Int.reduceSub, Int.reduceAdd, Int.reduceMul, Int.reduceNeg, Int.reduceLT, Int.reduceLE, Int.add_zero]
  refine sp_6_findBegun hc hag hF c1 (fun a4 hF4 hB => ?_)
  simp (disch := first | assumption | omega | exact zc_lo | exact zc_hi | exact zz_l | exact zz_u | exact zz_r) only [xa_69, xa_70, xc_2 gc_6_apart_1, xc_2 gc_6_apart_2, xc_3 gc_6_apart_0, xl_aload0, xl_iinc2a, xl_iinc2i, xl_iinc2n, xl_iinc5a, xl_iinc5i, xl_iinc5n, xl_iload1, xl_iload2, xl_iload3, xl_iload4, xl_iload5, xl_istore2a, xl_istore2i, xl_istore2n, xl_istore3a, xl_istore3i, xl_istore3n, xl_istore4a, xl_istore4i, xl_istore4n, xl_istore5a, xl_istore5i, xl_istore5n, xm_f, xm_n, xm_t, xn_1, xn_10, xn_11, xn_3, xn_4, xn_6, xn_7, xn_9, xo_53_27, xo_53_28, xo_53_3, xr_goto, xr_ic_ge, xr_ic_le, xr_iconst, xr_if_eq, xr_if_ne, xr_iret, xr_isub, xtl_n, xtl_s, xz_i, xz_l, xz_n, xz_r, wb_6_apart_0, wb_6_apart_1, wb_6_apart_3, wb_6_apart_4, wb_6_apart_5, wb_6_apart_6, wb_6_apart_7, wb_6_apart_8, wb_6_apart_9, wb_6_apart_10, wb_6_apart_11, wb_6_apart_12, zz_b, zz_bn, Classical.not_not, true_and, Nat.reduceAdd, Nat.reduceLeDiff, true_implies, false_implies, implies_true, not_true_eq_false, not_false_eq_true, and_true, false_and, and_false, if_true, if_false, Int.reduceEq, Int.reduceSub, Int.reduceAdd, Int.reduceMul, Int.reduceNeg, Int.reduceLT, Int.reduceLE, Int.add_zero]
  have vb : ∀ d : Nat, (d : Int) ≤ i 0 → ∀ r : Int, 0 ≤ r → r < d → vrF a i x r = -2000000000 ∨ (-999 ≤ vrF a i x r ∧ vrF a i x r ≤ 120000000) := fun d hd r z1 z2 => vrF_bd hc z1 (by omega)
  have key : ∀ d, d ≤ m → ∀ (c : Int) (l1 : Option dk_V), (0 ≤ c ∧ c ≤ d) → ((apF (vrF a i x) d).1 = true ↔ 0 < c) → dk_WP g_6_apart b_6_apart Q 2 [some (.inr (.inr 53)), l1, some (.inl c), some (.inl (apF (vrF a i x) d).2.1), some (.inl (apF (vrF a i x) d).2.2), some (.inl d)] [] (HH n xs w2 a4 i2) := by
    refine lp_up ?_ ?_
    · intro c l1 hcb hcc
      have ab := apF_bd m (vb m (by omega))
      rw [wb_6_apart_2]
      simp (disch := first | assumption | omega | exact zc_lo | exact zc_hi | exact zz_l | exact zz_u | exact zz_r) only [xa_69, xa_70, xc_2 gc_6_apart_1, xc_2 gc_6_apart_2, xc_3 gc_6_apart_0, xl_aload0, xl_iinc2a, xl_iinc2i, xl_iinc2n, xl_iinc5a, xl_iinc5i, xl_iinc5n, xl_iload1, xl_iload2, xl_iload3, xl_iload4, xl_iload5, xl_istore2a, xl_istore2i, xl_istore2n, xl_istore3a, xl_istore3i, xl_istore3n, xl_istore4a, xl_istore4i, xl_istore4n, xl_istore5a, xl_istore5i, xl_istore5n, xm_f, xm_n, xm_t, xn_1, xn_10, xn_11, xn_3, xn_4, xn_6, xn_7, xn_9, xo_53_27, xo_53_28, xo_53_3, xr_goto, xr_ic_ge, xr_ic_le, xr_iconst, xr_if_eq, xr_if_ne, xr_iret, xr_isub, xtl_n, xtl_s, xz_i, xz_l, xz_n, xz_r, wb_6_apart_0, wb_6_apart_1, wb_6_apart_3, wb_6_apart_4, wb_6_apart_5, wb_6_apart_6, wb_6_apart_7, wb_6_apart_8, wb_6_apart_9, wb_6_apart_10, wb_6_apart_11, wb_6_apart_12, zz_b, zz_bn, Classical.not_not, true_and, Nat.reduceAdd, Nat.reduceLeDiff, hm3]
      refine ⟨fun _ => ⟨fun z => ?_, fun z => ?_⟩, fun z => absurd (by omega) z⟩
      · exact hQ2 (hcc.mpr (by omega)) a4 hF4
      · refine sp_fi6 hF4 (by omega) (by omega) (fun a5 hF5 => ?_)
        simp (disch := first | assumption | omega | exact zc_lo | exact zc_hi | exact zz_l | exact zz_u | exact zz_r) only [xa_69, xa_70, xc_2 gc_6_apart_1, xc_2 gc_6_apart_2, xc_3 gc_6_apart_0, xl_aload0, xl_iinc2a, xl_iinc2i, xl_iinc2n, xl_iinc5a, xl_iinc5i, xl_iinc5n, xl_iload1, xl_iload2, xl_iload3, xl_iload4, xl_iload5, xl_istore2a, xl_istore2i, xl_istore2n, xl_istore3a, xl_istore3i, xl_istore3n, xl_istore4a, xl_istore4i, xl_istore4n, xl_istore5a, xl_istore5i, xl_istore5n, xm_f, xm_n, xm_t, xn_1, xn_10, xn_11, xn_3, xn_4, xn_6, xn_7, xn_9, xo_53_27, xo_53_28, xo_53_3, xr_goto, xr_ic_ge, xr_ic_le, xr_iconst, xr_if_eq, xr_if_ne, xr_iret, xr_isub, xtl_n, xtl_s, xz_i, xz_l, xz_n, xz_r, wb_6_apart_0, wb_6_apart_1, wb_6_apart_3, wb_6_apart_4, wb_6_apart_5, wb_6_apart_6, wb_6_apart_7, wb_6_apart_8, wb_6_apart_9, wb_6_apart_10, wb_6_apart_11, wb_6_apart_12, zz_b, zz_bn, Classical.not_not, true_and, Nat.reduceAdd, Nat.reduceLeDiff]
        refine hQ1 ?_ a5 hF5
        cases e : (apF (vrF a i x) m).1 with
        | false => rfl
        | true => have := hcc.mp e; omega
    · intro d hdm ih c l1 hcb hcc
      have ab := apF_bd d (vb d (by omega))
      have vd := vb (d + 1) (by omega) d (by omega) (by omega)
      rcases hB d (by omega) (by omega) with ⟨y1, y2⟩ | ⟨y1, y2, y3⟩
      · have ih2 := fun l1 => ih c l1 (by omega) (by rw [apF_n y1]; exact hcc)
        rw [apF_n y1] at ih2
        rw [wb_6_apart_2]
        simp (disch := first | assumption | omega | exact zc_lo | exact zc_hi | exact zz_l | exact zz_u | exact zz_r) only [xa_69, xa_70, xc_2 gc_6_apart_1, xc_2 gc_6_apart_2, xc_3 gc_6_apart_0, xl_aload0, xl_iinc2a, xl_iinc2i, xl_iinc2n, xl_iinc5a, xl_iinc5i, xl_iinc5n, xl_iload1, xl_iload2, xl_iload3, xl_iload4, xl_iload5, xl_istore2a, xl_istore2i, xl_istore2n, xl_istore3a, xl_istore3i, xl_istore3n, xl_istore4a, xl_istore4i, xl_istore4n, xl_istore5a, xl_istore5i, xl_istore5n, xm_f, xm_n, xm_t, xn_1, xn_10, xn_11, xn_3, xn_4, xn_6, xn_7, xn_9, xo_53_27, xo_53_28, xo_53_3, xr_goto, xr_ic_ge, xr_ic_le, xr_iconst, xr_if_eq, xr_if_ne, xr_iret, xr_isub, xtl_n, xtl_s, xz_i, xz_l, xz_n, xz_r, wb_6_apart_0, wb_6_apart_1, wb_6_apart_3, wb_6_apart_4, wb_6_apart_5, wb_6_apart_6, wb_6_apart_7, wb_6_apart_8, wb_6_apart_9, wb_6_apart_10, wb_6_apart_11, wb_6_apart_12, zz_b, zz_bn, Classical.not_not, true_and, Nat.reduceAdd, Nat.reduceLeDiff, hm3, y2, eq_self, true_implies, false_implies, implies_true, not_true_eq_false, not_false_eq_true, and_true, false_and, and_false, if_true, if_false, Int.reduceEq, Int.reduceSub, Int.reduceAdd, Int.reduceMul, Int.reduceNeg, Int.reduceLT, Int.reduceLE, Int.add_zero]
        rw [cs d]
        exact ⟨fun z => absurd z (by omega), fun _ => ih2 _⟩
      · cases e : (apF (vrF a i x) d).1 with
        | false =>
          have c0 : c = 0 := by
            by_cases z : 0 < c
            · have := hcc.mpr z; rw [e] at this; exact absurd this Bool.false_ne_true
            · omega
          have ih2 := fun l1 => ih (c + 1) l1 (by omega) (by rw [apF_f y1 e]; exact ⟨fun _ => by omega, fun _ => rfl⟩)
          rw [apF_f y1 e] at ih2
          rw [wb_6_apart_2]
          simp (disch := first | assumption | omega | exact zc_lo | exact zc_hi | exact zz_l | exact zz_u | exact zz_r) only [xa_69, xa_70, xc_2 gc_6_apart_1, xc_2 gc_6_apart_2, xc_3 gc_6_apart_0, xl_aload0, xl_iinc2a, xl_iinc2i, xl_iinc2n, xl_iinc5a, xl_iinc5i, xl_iinc5n, xl_iload1, xl_iload2, xl_iload3, xl_iload4, xl_iload5, xl_istore2a, xl_istore2i, xl_istore2n, xl_istore3a, xl_istore3i, xl_istore3n, xl_istore4a, xl_istore4i, xl_istore4n, xl_istore5a, xl_istore5i, xl_istore5n, xm_f, xm_n, xm_t, xn_1, xn_10, xn_11, xn_3, xn_4, xn_6, xn_7, xn_9, xo_53_27, xo_53_28, xo_53_3, xr_goto, xr_ic_ge, xr_ic_le, xr_iconst, xr_if_eq, xr_if_ne, xr_iret, xr_isub, xtl_n, xtl_s, xz_i, xz_l, xz_n, xz_r, wb_6_apart_0, wb_6_apart_1, wb_6_apart_3, wb_6_apart_4, wb_6_apart_5, wb_6_apart_6, wb_6_apart_7, wb_6_apart_8, wb_6_apart_9, wb_6_apart_10, wb_6_apart_11, wb_6_apart_12, zz_b, zz_bn, Classical.not_not, true_and, Nat.reduceAdd, Nat.reduceLeDiff, hm3, y2, y3, c0, eq_self, true_implies, false_implies, implies_true, not_true_eq_false, not_false_eq_true, and_true, false_and, and_false, if_true, if_false, Int.reduceEq, Int.reduceSub, Int.reduceAdd, Int.reduceMul, Int.reduceNeg, Int.reduceLT, Int.reduceLE, Int.add_zero]
          rw [cs d]
          rw [c0] at ih2
          exact ⟨fun z => absurd z (by omega), fun _ => ih2 _⟩
        | true =>
          have c0 : ¬ c = 0 := by have := hcc.mp e; omega
          have ih2 := fun l1 => ih (c + 1) l1 (by omega) (by rw [apF_t y1 e]; exact ⟨fun _ => by omega, fun _ => rfl⟩)
          rw [apF_t y1 e] at ih2
          unfold mn mx at ih2
          rw [wb_6_apart_2]
          simp (disch := first | assumption | omega | exact zc_lo | exact zc_hi | exact zz_l | exact zz_u | exact zz_r) only [xa_69, xa_70, xc_2 gc_6_apart_1, xc_2 gc_6_apart_2, xc_3 gc_6_apart_0, xl_aload0, xl_iinc2a, xl_iinc2i, xl_iinc2n, xl_iinc5a, xl_iinc5i, xl_iinc5n, xl_iload1, xl_iload2, xl_iload3, xl_iload4, xl_iload5, xl_istore2a, xl_istore2i, xl_istore2n, xl_istore3a, xl_istore3i, xl_istore3n, xl_istore4a, xl_istore4i, xl_istore4n, xl_istore5a, xl_istore5i, xl_istore5n, xm_f, xm_n, xm_t, xn_1, xn_10, xn_11, xn_3, xn_4, xn_6, xn_7, xn_9, xo_53_27, xo_53_28, xo_53_3, xr_goto, xr_ic_ge, xr_ic_le, xr_iconst, xr_if_eq, xr_if_ne, xr_iret, xr_isub, xtl_n, xtl_s, xz_i, xz_l, xz_n, xz_r, wb_6_apart_0, wb_6_apart_1, wb_6_apart_3, wb_6_apart_4, wb_6_apart_5, wb_6_apart_6, wb_6_apart_7, wb_6_apart_8, wb_6_apart_9, wb_6_apart_10, wb_6_apart_11, wb_6_apart_12, zz_b, zz_bn, Classical.not_not, true_and, Nat.reduceAdd, Nat.reduceLeDiff, hm3, y2, y3]
          rw [cs d]
          refine ⟨fun z => absurd z (by omega), fun _ => ⟨fun z => absurd z (by decide), fun _ => ⟨fun z => absurd z c0, fun _ => ⟨fun z => ⟨fun z2 => absurd z2 c0, fun _ => ⟨fun z2 => ?_, fun z2 => ?_⟩⟩, fun z => ⟨fun z2 => absurd z2 c0, fun _ => ⟨fun z2 => ?_, fun z2 => ?_⟩⟩⟩⟩⟩⟩
          · rw [if_neg (by omega), if_neg (by omega)] at ih2; exact ih2 _
          · rw [if_neg (by omega), if_pos (by omega)] at ih2; exact ih2 _
          · rw [if_pos (by omega), if_neg (by omega)] at ih2; exact ih2 _
          · rw [if_pos (by omega), if_pos (by omega)] at ih2; exact ih2 _
  exact key 0 (Nat.zero_le _) 0 _ (by omega) ⟨fun z => absurd z Bool.false_ne_true, fun z => by omega⟩
theorem op_apart (h : Inv N w a i) {x : Int} (x1 : -2147483648 ≤ x) (x2 : x ≤ 2147483647) : s_5_apart [.inr (.inr 0), .inl x] (HH n xs w a i) (fun r2 h => s_6_apart [.inr (.inr 53), .inl x] h (OPQ n xs N r2)) := by
  have hF := Fr_rf h
  have hc := h.2.1
  have hag := h.2.2.1
  have hk := k24 hc
  obtain ⟨m, hm⟩ := nat_of hk.1
  by_cases c1 : 0 ≤ x ∧ x ≤ 2
  · simp (disch := first | assumption | omega | exact zc_lo | exact zc_hi | exact zz_l | exact zz_u | exact zz_r) only [xa_51, xc_2 gc_5_apart_1, xc_2 gc_5_apart_2, xc_2 gc_5_apart_3, xc_2 gc_5_apart_4, xc_3 gc_5_apart_0, xl_aload0, xl_iinc5a, xl_iinc5i, xl_iinc5n, xl_iload1, xl_iload2, xl_iload3, xl_iload4, xl_iload5, xl_iload6, xl_istore2a, xl_istore2i, xl_istore2n, xl_istore3a, xl_istore3i, xl_istore3n, xl_istore4a, xl_istore4i, xl_istore4n, xl_istore5a, xl_istore5i, xl_istore5n, xl_istore6a, xl_istore6i, xl_istore6n, xm_f, xm_n, xm_t, xn_1, xn_3, xn_5, xn_7, xn_8, xn_9, xo_0_0, xo_0_9, xo_1_1, xr_goto, xr_ic_eq, xr_ic_ge, xr_iconst, xr_if_eq, xr_if_ne, xr_iret, xr_isub, xtl_n, xtl_s, xz_i, xz_l, xz_n, xz_r, wb_5_apart_0, wb_5_apart_1, wb_5_apart_3, wb_5_apart_4, wb_5_apart_5, wb_5_apart_6, wb_5_apart_7, wb_5_apart_8, wb_5_apart_9, wb_5_apart_10, ss_5_apart, zz_b, zz_bn, Classical.not_not, true_and, Nat.reduceAdd, Nat.reduceLeDiff, sp_5_isWithin, c1, true_implies, false_implies, implies_true, not_true_eq_false, not_false_eq_true, and_true, false_and, and_false, if_true, if_false, Int.reduceEq, Int.reduceSub, Int.reduceAdd, Int.reduceMul, Int.reduceNeg, Int.reduceLT, Int.reduceLE, Int.add_zero]
    refine sp_5_tellBeginnings hc hF c1 (fun a3 hF3 hv => ?_)
    simp (disch := first | assumption | omega | exact zc_lo | exact zc_hi | exact zz_l | exact zz_u | exact zz_r) only [xa_51, xc_2 gc_5_apart_1, xc_2 gc_5_apart_2, xc_2 gc_5_apart_3, xc_2 gc_5_apart_4, xc_3 gc_5_apart_0, xl_aload0, xl_iinc5a, xl_iinc5i, xl_iinc5n, xl_iload1, xl_iload2, xl_iload3, xl_iload4, xl_iload5, xl_iload6, xl_istore2a, xl_istore2i, xl_istore2n, xl_istore3a, xl_istore3i, xl_istore3n, xl_istore4a, xl_istore4i, xl_istore4n, xl_istore5a, xl_istore5i, xl_istore5n, xl_istore6a, xl_istore6i, xl_istore6n, xm_f, xm_n, xm_t, xn_1, xn_3, xn_5, xn_7, xn_8, xn_9, xo_0_0, xo_0_9, xo_1_1, xr_goto, xr_ic_eq, xr_ic_ge, xr_iconst, xr_if_eq, xr_if_ne, xr_iret, xr_isub, xtl_n, xtl_s, xz_i, xz_l, xz_n, xz_r, wb_5_apart_0, wb_5_apart_1, wb_5_apart_3, wb_5_apart_4, wb_5_apart_5, wb_5_apart_6, wb_5_apart_7, wb_5_apart_8, wb_5_apart_9, wb_5_apart_10, zz_b, zz_bn, Classical.not_not, true_and, Nat.reduceAdd, Nat.reduceLeDiff, true_implies, false_implies, implies_true, not_true_eq_false, not_false_eq_true, and_true, false_and, and_false, if_true, if_false, Int.reduceEq, Int.reduceSub, Int.reduceAdd, Int.reduceMul, Int.reduceNeg, Int.reduceLT, Int.reduceLE, Int.add_zero]
    have vb : ∀ d : Nat, (d : Int) ≤ i 0 → ∀ r : Int, 0 ≤ r → r < d → vrF a i x r = -2000000000 ∨ (-999 ≤ vrF a i x r ∧ vrF a i x r ≤ 120000000) := fun d hd r z1 z2 => vrF_bd hc z1 (by omega)
    have key : ∀ d, d ≤ m → ∀ (l1 l6 : Option dk_V), dk_WP g_5_apart b_5_apart (fun r2 h => s_6_apart [.inr (.inr 53), .inl x] h (OPQ n xs N r2)) 2 [some (.inr (.inr 0)), l1, some (.inl (if (apF (vrF a i x) d).1 = true then 1 else 0)), some (.inl (apF (vrF a i x) d).2.1), some (.inl (apF (vrF a i x) d).2.2), some (.inl d), l6] [] (HH n xs w a3 i) := by
      refine lp_up ?_ ?_
      · intro l1 l6
        have ab := apF_bd m (vb m (by omega))
        rw [wb_5_apart_2]
        simp (disch := first | assumption | omega | exact zc_lo | exact zc_hi | exact zz_l | exact zz_u | exact zz_r) only [xa_51, xc_2 gc_5_apart_1, xc_2 gc_5_apart_2, xc_2 gc_5_apart_3, xc_2 gc_5_apart_4, xc_3 gc_5_apart_0, xl_aload0, xl_iinc5a, xl_iinc5i, xl_iinc5n, xl_iload1, xl_iload2, xl_iload3, xl_iload4, xl_iload5, xl_iload6, xl_istore2a, xl_istore2i, xl_istore2n, xl_istore3a, xl_istore3i, xl_istore3n, xl_istore4a, xl_istore4i, xl_istore4n, xl_istore5a, xl_istore5i, xl_istore5n, xl_istore6a, xl_istore6i, xl_istore6n, xm_f, xm_n, xm_t, xn_1, xn_3, xn_5, xn_7, xn_8, xn_9, xo_0_0, xo_0_9, xo_1_1, xr_goto, xr_ic_eq, xr_ic_ge, xr_iconst, xr_if_eq, xr_if_ne, xr_iret, xr_isub, xtl_n, xtl_s, xz_i, xz_l, xz_n, xz_r, wb_5_apart_0, wb_5_apart_1, wb_5_apart_3, wb_5_apart_4, wb_5_apart_5, wb_5_apart_6, wb_5_apart_7, wb_5_apart_8, wb_5_apart_9, wb_5_apart_10, zz_b, zz_bn, Classical.not_not, true_and, Nat.reduceAdd, Nat.reduceLeDiff]
        refine ⟨fun _ => ⟨fun z => ?_, fun z => ?_⟩, fun z => absurd (by omega) z⟩
        · refine sp_fi5 hF3 (by omega) (by omega) (fun a5 hF5 => ?_)
          simp (disch := first | assumption | omega | exact zc_lo | exact zc_hi | exact zz_l | exact zz_u | exact zz_r) only [xa_51, xc_2 gc_5_apart_1, xc_2 gc_5_apart_2, xc_2 gc_5_apart_3, xc_2 gc_5_apart_4, xc_3 gc_5_apart_0, xl_aload0, xl_iinc5a, xl_iinc5i, xl_iinc5n, xl_iload1, xl_iload2, xl_iload3, xl_iload4, xl_iload5, xl_iload6, xl_istore2a, xl_istore2i, xl_istore2n, xl_istore3a, xl_istore3i, xl_istore3n, xl_istore4a, xl_istore4i, xl_istore4n, xl_istore5a, xl_istore5i, xl_istore5n, xl_istore6a, xl_istore6i, xl_istore6n, xm_f, xm_n, xm_t, xn_1, xn_3, xn_5, xn_7, xn_8, xn_9, xo_0_0, xo_0_9, xo_1_1, xr_goto, xr_ic_eq, xr_ic_ge, xr_iconst, xr_if_eq, xr_if_ne, xr_iret, xr_isub, xtl_n, xtl_s, xz_i, xz_l, xz_n, xz_r, wb_5_apart_0, wb_5_apart_1, wb_5_apart_3, wb_5_apart_4, wb_5_apart_5, wb_5_apart_6, wb_5_apart_7, wb_5_apart_8, wb_5_apart_9, wb_5_apart_10, zz_b, zz_bn, Classical.not_not, true_and, Nat.reduceAdd, Nat.reduceLeDiff]
          refine md_apart hc hag hF5 c1 hm (fun _ a6 hF6 => OPQ_d h (by omega) (by omega) hF6) (fun z2 => absurd z2 z)
        · refine md_apart hc hag hF3 c1 hm (fun z2 => by rw [z] at z2; exact absurd z2 (by decide)) (fun _ a6 hF6 => OPQ_f h hF6 (by omega) (by omega))
      · intro d hdm ih l1 l6
        have ab := apF_bd d (vb d (by omega))
        have vd := vb (d + 1) (by omega) d (by omega) (by omega)
        have ev := hv d (by omega) (by omega)
        by_cases y1 : vrF a i x d = -2000000000
        · have ih2 := ih
          rw [apF_n y1] at ih2
          rw [y1] at ev
          rw [wb_5_apart_2]
          simp (disch := first | assumption | omega | exact zc_lo | exact zc_hi | exact zz_l | exact zz_u | exact zz_r) only [xa_51, xc_2 gc_5_apart_1, xc_2 gc_5_apart_2, xc_2 gc_5_apart_3, xc_2 gc_5_apart_4, xc_3 gc_5_apart_0, xl_aload0, xl_iinc5a, xl_iinc5i, xl_iinc5n, xl_iload1, xl_iload2, xl_iload3, xl_iload4, xl_iload5, xl_iload6, xl_istore2a, xl_istore2i, xl_istore2n, xl_istore3a, xl_istore3i, xl_istore3n, xl_istore4a, xl_istore4i, xl_istore4n, xl_istore5a, xl_istore5i, xl_istore5n, xl_istore6a, xl_istore6i, xl_istore6n, xm_f, xm_n, xm_t, xn_1, xn_3, xn_5, xn_7, xn_8, xn_9, xo_0_0, xo_0_9, xo_1_1, xr_goto, xr_ic_eq, xr_ic_ge, xr_iconst, xr_if_eq, xr_if_ne, xr_iret, xr_isub, xtl_n, xtl_s, xz_i, xz_l, xz_n, xz_r, wb_5_apart_0, wb_5_apart_1, wb_5_apart_3, wb_5_apart_4, wb_5_apart_5, wb_5_apart_6, wb_5_apart_7, wb_5_apart_8, wb_5_apart_9, wb_5_apart_10, zz_b, zz_bn, Classical.not_not, true_and, Nat.reduceAdd, Nat.reduceLeDiff, ev, eq_self, true_implies, false_implies, implies_true, not_true_eq_false, not_false_eq_true, and_true, false_and, and_false, if_true, if_false, Int.reduceEq, Int.reduceSub, Int.reduceAdd, Int.reduceMul, Int.reduceNeg, Int.reduceLT, Int.reduceLE, Int.add_zero]
          rw [cs d]
          exact ⟨fun z => absurd z (by omega), fun _ => ih2 _ _⟩
        · cases e : (apF (vrF a i x) d).1 with
          | false =>
            have ih2 := ih
            rw [apF_f y1 e] at ih2
            rw [wb_5_apart_2]
            simp (disch := first | assumption | omega | exact zc_lo | exact zc_hi | exact zz_l | exact zz_u | exact zz_r) only [xa_51, xc_2 gc_5_apart_1, xc_2 gc_5_apart_2, xc_2 gc_5_apart_3, xc_2 gc_5_apart_4, xc_3 gc_5_apart_0, xl_aload0, xl_iinc5a, xl_iinc5i, xl_iinc5n, xl_iload1, xl_iload2, xl_iload3, xl_iload4, xl_iload5, xl_iload6, xl_istore2a, xl_istore2i, xl_istore2n, xl_istore3a, xl_istore3i, xl_istore3n, xl_istore4a, xl_istore4i, xl_istore4n, xl_istore5a, xl_istore5i, xl_istore5n, xl_istore6a, xl_istore6i, xl_istore6n, xm_f, xm_n, xm_t, xn_1, xn_3, xn_5, xn_7, xn_8, xn_9, xo_0_0, xo_0_9, xo_1_1, xr_goto, xr_ic_eq, xr_ic_ge, xr_iconst, xr_if_eq, xr_if_ne, xr_iret, xr_isub, xtl_n, xtl_s, xz_i, xz_l, xz_n, xz_r, wb_5_apart_0, wb_5_apart_1, wb_5_apart_3, wb_5_apart_4, wb_5_apart_5, wb_5_apart_6, wb_5_apart_7, wb_5_apart_8, wb_5_apart_9, wb_5_apart_10, zz_b, zz_bn, Classical.not_not, true_and, Nat.reduceAdd, Nat.reduceLeDiff, ev, y1, Bool.false_eq_true, eq_self, true_implies, false_implies, implies_true, not_true_eq_false, not_false_eq_true, and_true, false_and, and_false, if_true, if_false, Int.reduceEq, Int.reduceSub, Int.reduceAdd, Int.reduceMul, Int.reduceNeg, Int.reduceLT, Int.reduceLE, Int.add_zero]
            rw [cs d]
            exact ⟨fun z => absurd z (by omega), fun _ => ih2 _ _⟩
          | true =>
            have ih2 := ih
            rw [apF_t y1 e] at ih2
            rw [wb_5_apart_2]
            simp (disch := first | assumption | omega | exact zc_lo | exact zc_hi | exact zz_l | exact zz_u | exact zz_r) only [xa_51, xc_2 gc_5_apart_1, xc_2 gc_5_apart_2, xc_2 gc_5_apart_3, xc_2 gc_5_apart_4, xc_3 gc_5_apart_0, xl_aload0, xl_iinc5a, xl_iinc5i, xl_iinc5n, xl_iload1, xl_iload2, xl_iload3, xl_iload4, xl_iload5, xl_iload6, xl_istore2a, xl_istore2i, xl_istore2n, xl_istore3a, xl_istore3i, xl_istore3n, xl_istore4a, xl_istore4i, xl_istore4n, xl_istore5a, xl_istore5i, xl_istore5n, xl_istore6a, xl_istore6i, xl_istore6n, xm_f, xm_n, xm_t, xn_1, xn_3, xn_5, xn_7, xn_8, xn_9, xo_0_0, xo_0_9, xo_1_1, xr_goto, xr_ic_eq, xr_ic_ge, xr_iconst, xr_if_eq, xr_if_ne, xr_iret, xr_isub, xtl_n, xtl_s, xz_i, xz_l, xz_n, xz_r, wb_5_apart_0, wb_5_apart_1, wb_5_apart_3, wb_5_apart_4, wb_5_apart_5, wb_5_apart_6, wb_5_apart_7, wb_5_apart_8, wb_5_apart_9, wb_5_apart_10, zz_b, zz_bn, Classical.not_not, true_and, Nat.reduceAdd, Nat.reduceLeDiff, ev, y1, sp_8_min, sp_8_max, eq_self, true_implies, false_implies, implies_true, not_true_eq_false, not_false_eq_true, and_true, false_and, and_false, if_true, if_false, Int.reduceEq, Int.reduceSub, Int.reduceAdd, Int.reduceMul, Int.reduceNeg, Int.reduceLT, Int.reduceLE, Int.add_zero]
            rw [cs d]
            exact ⟨fun z => absurd z (by omega), fun _ => ih2 _ _⟩
    exact key 0 (Nat.zero_le _) _ _
  · simp (disch := first | assumption | omega | exact zc_lo | exact zc_hi | exact zz_l | exact zz_u | exact zz_r) only [xa_51, xc_2 gc_5_apart_1, xc_2 gc_5_apart_2, xc_2 gc_5_apart_3, xc_2 gc_5_apart_4, xc_3 gc_5_apart_0, xl_aload0, xl_iinc5a, xl_iinc5i, xl_iinc5n, xl_iload1, xl_iload2, xl_iload3, xl_iload4, xl_iload5, xl_iload6, xl_istore2a, xl_istore2i, xl_istore2n, xl_istore3a, xl_istore3i, xl_istore3n, xl_istore4a, xl_istore4i, xl_istore4n, xl_istore5a, xl_istore5i, xl_istore5n, xl_istore6a, xl_istore6i, xl_istore6n, xm_f, xm_n, xm_t, xn_1, xn_3, xn_5, xn_7, xn_8, xn_9, xo_0_0, xo_0_9, xo_1_1, xr_goto, xr_ic_eq, xr_ic_ge, xr_iconst, xr_if_eq, xr_if_ne, xr_iret, xr_isub, xtl_n, xtl_s, xz_i, xz_l, xz_n, xz_r, wb_5_apart_0, wb_5_apart_1, wb_5_apart_3, wb_5_apart_4, wb_5_apart_5, wb_5_apart_6, wb_5_apart_7, wb_5_apart_8, wb_5_apart_9, wb_5_apart_10, ss_5_apart, xa_69, xa_70, xc_2 gc_6_apart_1, xc_2 gc_6_apart_2, xc_3 gc_6_apart_0, xl_aload0, xl_iinc2a, xl_iinc2i, xl_iinc2n, xl_iinc5a, xl_iinc5i, xl_iinc5n, xl_iload1, xl_iload2, xl_iload3, xl_iload4, xl_iload5, xl_istore2a, xl_istore2i, xl_istore2n, xl_istore3a, xl_istore3i, xl_istore3n, xl_istore4a, xl_istore4i, xl_istore4n, xl_istore5a, xl_istore5i, xl_istore5n, xm_f, xm_n, xm_t, xn_1, xn_10, xn_11, xn_3, xn_4, xn_6, xn_7, xn_9, xo_53_27, xo_53_28, xo_53_3, xr_goto, xr_ic_ge, xr_ic_le, xr_iconst, xr_if_eq, xr_if_ne, xr_iret, xr_isub, xtl_n, xtl_s, xz_i, xz_l, xz_n, xz_r, wb_6_apart_0, wb_6_apart_1, wb_6_apart_3, wb_6_apart_4, wb_6_apart_5, wb_6_apart_6, wb_6_apart_7, wb_6_apart_8, wb_6_apart_9, wb_6_apart_10, wb_6_apart_11, wb_6_apart_12, ss_6_apart, zz_b, zz_bn, Classical.not_not, true_and, Nat.reduceAdd, Nat.reduceLeDiff, sp_5_isWithin, sp_6_in, sp_5_finding, sp_6_finds, c1, true_implies, false_implies, implies_true, not_true_eq_false, not_false_eq_true, and_true, false_and, and_false, if_true, if_false, Int.reduceEq, Int.reduceSub, Int.reduceAdd, Int.reduceMul, Int.reduceNeg, Int.reduceLT, Int.reduceLE, Int.add_zero]
    exact fnd h 0 (by omega) (by omega)
end OS1
