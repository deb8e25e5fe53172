/-! CALLS OF BOTH: images -/
def cpF (f g : Int → Int) (m : Nat) : Int → Int := fun j => if 0 ≤ j ∧ j < 0 + (m : Int) then f (0 + (j - 0)) else g j
theorem cpF_v {f g : Int → Int} {m : Nat} {j : Int} (h0 : 0 ≤ j) (h1 : j < m) : cpF f g m j = f j := by
  unfold cpF
  rw [if_pos (by omega), show 0 + (j - 0) = j by omega]
section IM1
variable {N : Int} {n : Nat} {xs : Int → Int} {w : Nat → Nat} {a : Nat → Int → Int} {i : Nat → Int} {Q : dk_Q} {p q : Int → Int} {w2 : Nat → Nat} {a2 : Nat → Int → Int} {i2 : Nat → Int}
theorem sp_ac {k1 k2 m : Nat} (h1 : hh_len k1 = some (0, m)) (h2 : hh_len k2 = some (0, m)) (hm : m < 1000) {e : Int} (he : e = m) : s_ac [.inr (.inr k1), .inl 0, .inr (.inr k2), .inl 0, .inl e] (HH n xs w a i) Q = Q none (HH n xs w (dk_up a k2 (cpF (a k1) (a k2) m)) i) := by
  subst he
  have u1 : dk_ar (HH n xs w a i k1) 0 = some (m, a k1) := by rw [HH_at h1]; rfl
  have u2 : dk_ar (HH n xs w a i k2) 0 = some (m, a k2) := by rw [HH_at h2]; rfl
  unfold s_ac
  simp only [u1, u2]
  rw [HH_ua h2]
  exact propext ⟨fun q => q.2, fun q => ⟨⟨by omega, by omega, by omega, by omega, by omega, by omega, by omega⟩, q⟩⟩
theorem agr_e {c c2 c3 : Nat → Int → Int} {k k2 k3 : Nat → Int} (h : agr c k c2 k2) (h2 : agr c k c3 k3) : agr c2 k2 c3 k3 := by
  obtain ⟨a1, a2, a3, a4, a5, a6⟩ := h
  obtain ⟨b1, b2, b3, b4, b5, b6⟩ := h2
  refine ⟨fun j hj => by rw [a1 j hj, b1 j hj], fun j z1 z2 => by rw [a2 j z1 z2, b2 j z1 z2], fun r z1 z2 => ?_, fun d z1 z2 => ?_, fun b z1 z2 => ?_, fun s z1 z2 => by rw [a6 s z1 z2, b6 s z1 z2]⟩
  · rw [a1 0 (by omega)] at z2
    obtain ⟨e1, e2, e3, e4, e5, e6⟩ := a3 r z1 z2
    obtain ⟨f1, f2, f3, f4, f5, f6⟩ := b3 r z1 z2
    exact ⟨f1.trans e1.symm, f2.trans e2.symm, f3.trans e3.symm, f4.trans e4.symm, f5.trans e5.symm, f6.trans e6.symm⟩
  · rw [a1 1 (by omega)] at z2
    obtain ⟨e1, e2, e3⟩ := a4 d z1 z2
    obtain ⟨f1, f2, f3⟩ := b4 d z1 z2
    exact ⟨f1.trans e1.symm, f2.trans e2.symm, f3.trans e3.symm⟩
  · rw [a1 2 (by omega)] at z2
    rw [a5 b z1 z2, b5 b z1 z2]
theorem agr_t {c c2 c3 : Nat → Int → Int} {k k2 k3 : Nat → Int} (h : agr c k c2 k2) (h2 : agr c2 k2 c3 k3) : agr c k c3 k3 := by
  obtain ⟨a1, a2, a3, a4, a5, a6⟩ := h
  obtain ⟨b1, b2, b3, b4, b5, b6⟩ := h2
  refine ⟨fun j hj => by rw [b1 j hj, a1 j hj], fun j z1 z2 => by rw [b2 j z1 z2, a2 j z1 z2], fun r z1 z2 => ?_, fun d z1 z2 => ?_, fun b z1 z2 => ?_, fun s z1 z2 => by rw [b6 s z1 z2, a6 s z1 z2]⟩
  · obtain ⟨e1, e2, e3, e4, e5, e6⟩ := a3 r z1 z2
    obtain ⟨f1, f2, f3, f4, f5, f6⟩ := b3 r z1 (by rw [a1 0 (by omega)]; exact z2)
    exact ⟨f1.trans e1, f2.trans e2, f3.trans e3, f4.trans e4, f5.trans e5, f6.trans e6⟩
  · obtain ⟨e1, e2, e3⟩ := a4 d z1 z2
    obtain ⟨f1, f2, f3⟩ := b4 d z1 (by rw [a1 1 (by omega)]; exact z2)
    exact ⟨f1.trans e1, f2.trans e2, f3.trans e3⟩
  · rw [b5 b z1 (by rw [a1 2 (by omega)]; exact z2), a5 b z1 z2]
theorem sp_0_becomeAs_14 (l0 : -2147483648 ≤ i 0) (u0 : i 0 ≤ 2147483647) (l1 : -2147483648 ≤ i 1) (u1 : i 1 ≤ 2147483647) (l2 : -2147483648 ≤ i 2) (u2 : i 2 ≤ 2147483647) (l3 : -2147483648 ≤ i 3) (u3 : i 3 ≤ 2147483647) : (∀ a2, sA [15, 16, 17, 18, 19, 20, 21, 22, 23, 24, 25, 26] a a2 → (∀ j : Int, 0 ≤ j → j < 7 → a2 15 j = a 2 j) → (∀ j : Int, 0 ≤ j → j < 24 → a2 16 j = a 3 j) → (∀ j : Int, 0 ≤ j → j < 24 → a2 17 j = a 4 j) → (∀ j : Int, 0 ≤ j → j < 24 → a2 18 j = a 5 j) → (∀ j : Int, 0 ≤ j → j < 24 → a2 19 j = a 6 j) → (∀ j : Int, 0 ≤ j → j < 24 → a2 20 j = a 7 j) → (∀ j : Int, 0 ≤ j → j < 24 → a2 21 j = a 8 j) → (∀ j : Int, 0 ≤ j → j < 6 → a2 22 j = a 9 j) → (∀ j : Int, 0 ≤ j → j < 6 → a2 23 j = a 10 j) → (∀ j : Int, 0 ≤ j → j < 6 → a2 24 j = a 11 j) → (∀ j : Int, 0 ≤ j → j < 6 → a2 25 j = a 12 j) → (∀ j : Int, 0 ≤ j → j < 10 → a2 26 j = a 13 j) → Q none (HH n xs w a2 (dk_up (dk_up (dk_up (dk_up i 4 (i 0)) 5 (i 1)) 6 (i 2)) 7 (i 3)))) → s_0_becomeAs [.inr (.inr 14), .inr (.inr 1)] (HH n xs w a i) Q := by
  intro hQ
  simp (disch := first | assumption | omega | exact zc_lo | exact zc_hi | exact zz_l | exact zz_u | exact zz_r) only [xc_5 gc_0_becomeAs_0, xl_aload0, xl_aload1, xm_f, xm_n, xm_t, xo_14_0, xo_14_1, xo_14_10, xo_14_11, xo_14_12, xo_14_13, xo_14_14, xo_14_15, xo_14_2, xo_14_3, xo_14_4, xo_14_5, xo_14_6, xo_14_7, xo_14_8, xo_14_9, xo_1_0, xo_1_1, xo_1_10, xo_1_11, xo_1_12, xo_1_13, xo_1_14, xo_1_15, xo_1_2, xo_1_3, xo_1_4, xo_1_5, xo_1_6, xo_1_7, xo_1_8, xo_1_9, xp_14_1, xp_14_12, xp_14_15, xp_14_8, xp_1_1, xp_1_12, xp_1_15, xp_1_8, xr_iconst, xr_vret, xtl_n, xtl_s, xz_i, xz_l, xz_n, xz_r, wb_0_becomeAs_0, ss_0_becomeAs_1, ss_0_becomeAs_14, zz_b, zz_bn, Classical.not_not, true_and, Nat.reduceAdd, Nat.reduceLeDiff, sp_ac (k1 := 2) (k2 := 15) (m := 7) rfl rfl (by omega) (e := 7) rfl, sp_ac (k1 := 3) (k2 := 16) (m := 24) rfl rfl (by omega) (e := 24) rfl, sp_ac (k1 := 4) (k2 := 17) (m := 24) rfl rfl (by omega) (e := 24) rfl, sp_ac (k1 := 5) (k2 := 18) (m := 24) rfl rfl (by omega) (e := 24) rfl, sp_ac (k1 := 6) (k2 := 19) (m := 24) rfl rfl (by omega) (e := 24) rfl, sp_ac (k1 := 7) (k2 := 20) (m := 24) rfl rfl (by omega) (e := 24) rfl, sp_ac (k1 := 8) (k2 := 21) (m := 24) rfl rfl (by omega) (e := 24) rfl, sp_ac (k1 := 9) (k2 := 22) (m := 6) rfl rfl (by omega) (e := 6) rfl, sp_ac (k1 := 10) (k2 := 23) (m := 6) rfl rfl (by omega) (e := 6) rfl, sp_ac (k1 := 11) (k2 := 24) (m := 6) rfl rfl (by omega) (e := 6) rfl, sp_ac (k1 := 12) (k2 := 25) (m := 6) rfl rfl (by omega) (e := 6) rfl, sp_ac (k1 := 13) (k2 := 26) (m := 10) rfl rfl (by omega) (e := 10) rfl, up_n (show ¬ 0 = 4 by decide), up_n (show ¬ 0 = 5 by decide), up_n (show ¬ 0 = 6 by decide), up_n (show ¬ 0 = 7 by decide), up_n (show ¬ 1 = 4 by decide), up_n (show ¬ 1 = 5 by decide), up_n (show ¬ 1 = 6 by decide), up_n (show ¬ 1 = 7 by decide), up_n (show ¬ 2 = 4 by decide), up_n (show ¬ 2 = 5 by decide), up_n (show ¬ 2 = 6 by decide), up_n (show ¬ 2 = 7 by decide), up_n (show ¬ 3 = 4 by decide), up_n (show ¬ 3 = 5 by decide), up_n (show ¬ 3 = 6 by decide), up_n (show ¬ 3 = 7 by decide)]
  refine hQ _ ?_ ?_ ?_ ?_ ?_ ?_ ?_ ?_ ?_ ?_ ?_ ?_ ?_
  · exact sA_up (sA_up (sA_up (sA_up (sA_up (sA_up (sA_up (sA_up (sA_up (sA_up (sA_up (sA_up sA_rf (by decide) _) (by decide) _) (by decide) _) (by decide) _) (by decide) _) (by decide) _) (by decide) _) (by decide) _) (by decide) _) (by decide) _) (by decide) _) (by decide) _
  · intro j j1 j2
    rw [up_n (show ¬ 15 = 26 by decide), up_n (show ¬ 15 = 25 by decide), up_n (show ¬ 15 = 24 by decide), up_n (show ¬ 15 = 23 by decide), up_n (show ¬ 15 = 22 by decide), up_n (show ¬ 15 = 21 by decide), up_n (show ¬ 15 = 20 by decide), up_n (show ¬ 15 = 19 by decide), up_n (show ¬ 15 = 18 by decide), up_n (show ¬ 15 = 17 by decide), up_n (show ¬ 15 = 16 by decide), up_s, cpF_v j1 (by omega)]
  · intro j j1 j2
    rw [up_n (show ¬ 16 = 26 by decide), up_n (show ¬ 16 = 25 by decide), up_n (show ¬ 16 = 24 by decide), up_n (show ¬ 16 = 23 by decide), up_n (show ¬ 16 = 22 by decide), up_n (show ¬ 16 = 21 by decide), up_n (show ¬ 16 = 20 by decide), up_n (show ¬ 16 = 19 by decide), up_n (show ¬ 16 = 18 by decide), up_n (show ¬ 16 = 17 by decide), up_s, cpF_v j1 (by omega), up_n (show ¬ 3 = 15 by decide)]
  · intro j j1 j2
    rw [up_n (show ¬ 17 = 26 by decide), up_n (show ¬ 17 = 25 by decide), up_n (show ¬ 17 = 24 by decide), up_n (show ¬ 17 = 23 by decide), up_n (show ¬ 17 = 22 by decide), up_n (show ¬ 17 = 21 by decide), up_n (show ¬ 17 = 20 by decide), up_n (show ¬ 17 = 19 by decide), up_n (show ¬ 17 = 18 by decide), up_s, cpF_v j1 (by omega), up_n (show ¬ 4 = 16 by decide), up_n (show ¬ 4 = 15 by decide)]
  · intro j j1 j2
    rw [up_n (show ¬ 18 = 26 by decide), up_n (show ¬ 18 = 25 by decide), up_n (show ¬ 18 = 24 by decide), up_n (show ¬ 18 = 23 by decide), up_n (show ¬ 18 = 22 by decide), up_n (show ¬ 18 = 21 by decide), up_n (show ¬ 18 = 20 by decide), up_n (show ¬ 18 = 19 by decide), up_s, cpF_v j1 (by omega), up_n (show ¬ 5 = 17 by decide), up_n (show ¬ 5 = 16 by decide), up_n (show ¬ 5 = 15 by decide)]
  · intro j j1 j2
    rw [up_n (show ¬ 19 = 26 by decide), up_n (show ¬ 19 = 25 by decide), up_n (show ¬ 19 = 24 by decide), up_n (show ¬ 19 = 23 by decide), up_n (show ¬ 19 = 22 by decide), up_n (show ¬ 19 = 21 by decide), up_n (show ¬ 19 = 20 by decide), up_s, cpF_v j1 (by omega), up_n (show ¬ 6 = 18 by decide), up_n (show ¬ 6 = 17 by decide), up_n (show ¬ 6 = 16 by decide), up_n (show ¬ 6 = 15 by decide)]
  · intro j j1 j2
    rw [up_n (show ¬ 20 = 26 by decide), up_n (show ¬ 20 = 25 by decide), up_n (show ¬ 20 = 24 by decide), up_n (show ¬ 20 = 23 by decide), up_n (show ¬ 20 = 22 by decide), up_n (show ¬ 20 = 21 by decide), up_s, cpF_v j1 (by omega), up_n (show ¬ 7 = 19 by decide), up_n (show ¬ 7 = 18 by decide), up_n (show ¬ 7 = 17 by decide), up_n (show ¬ 7 = 16 by decide), up_n (show ¬ 7 = 15 by decide)]
  · intro j j1 j2
    rw [up_n (show ¬ 21 = 26 by decide), up_n (show ¬ 21 = 25 by decide), up_n (show ¬ 21 = 24 by decide), up_n (show ¬ 21 = 23 by decide), up_n (show ¬ 21 = 22 by decide), up_s, cpF_v j1 (by omega), up_n (show ¬ 8 = 20 by decide), up_n (show ¬ 8 = 19 by decide), up_n (show ¬ 8 = 18 by decide), up_n (show ¬ 8 = 17 by decide), up_n (show ¬ 8 = 16 by decide), up_n (show ¬ 8 = 15 by decide)]
  · intro j j1 j2
    rw [up_n (show ¬ 22 = 26 by decide), up_n (show ¬ 22 = 25 by decide), up_n (show ¬ 22 = 24 by decide), up_n (show ¬ 22 = 23 by decide), up_s, cpF_v j1 (by omega), up_n (show ¬ 9 = 21 by decide), up_n (show ¬ 9 = 20 by decide), up_n (show ¬ 9 = 19 by decide), up_n (show ¬ 9 = 18 by decide), up_n (show ¬ 9 = 17 by decide), up_n (show ¬ 9 = 16 by decide), up_n (show ¬ 9 = 15 by decide)]
  · intro j j1 j2
    rw [up_n (show ¬ 23 = 26 by decide), up_n (show ¬ 23 = 25 by decide), up_n (show ¬ 23 = 24 by decide), up_s, cpF_v j1 (by omega), up_n (show ¬ 10 = 22 by decide), up_n (show ¬ 10 = 21 by decide), up_n (show ¬ 10 = 20 by decide), up_n (show ¬ 10 = 19 by decide), up_n (show ¬ 10 = 18 by decide), up_n (show ¬ 10 = 17 by decide), up_n (show ¬ 10 = 16 by decide), up_n (show ¬ 10 = 15 by decide)]
  · intro j j1 j2
    rw [up_n (show ¬ 24 = 26 by decide), up_n (show ¬ 24 = 25 by decide), up_s, cpF_v j1 (by omega), up_n (show ¬ 11 = 23 by decide), up_n (show ¬ 11 = 22 by decide), up_n (show ¬ 11 = 21 by decide), up_n (show ¬ 11 = 20 by decide), up_n (show ¬ 11 = 19 by decide), up_n (show ¬ 11 = 18 by decide), up_n (show ¬ 11 = 17 by decide), up_n (show ¬ 11 = 16 by decide), up_n (show ¬ 11 = 15 by decide)]
  · intro j j1 j2
    rw [up_n (show ¬ 25 = 26 by decide), up_s, cpF_v j1 (by omega), up_n (show ¬ 12 = 24 by decide), up_n (show ¬ 12 = 23 by decide), up_n (show ¬ 12 = 22 by decide), up_n (show ¬ 12 = 21 by decide), up_n (show ¬ 12 = 20 by decide), up_n (show ¬ 12 = 19 by decide), up_n (show ¬ 12 = 18 by decide), up_n (show ¬ 12 = 17 by decide), up_n (show ¬ 12 = 16 by decide), up_n (show ¬ 12 = 15 by decide)]
  · intro j j1 j2
    rw [up_s, cpF_v j1 (by omega), up_n (show ¬ 13 = 25 by decide), up_n (show ¬ 13 = 24 by decide), up_n (show ¬ 13 = 23 by decide), up_n (show ¬ 13 = 22 by decide), up_n (show ¬ 13 = 21 by decide), up_n (show ¬ 13 = 20 by decide), up_n (show ¬ 13 = 19 by decide), up_n (show ¬ 13 = 18 by decide), up_n (show ¬ 13 = 17 by decide), up_n (show ¬ 13 = 16 by decide), up_n (show ¬ 13 = 15 by decide)]
theorem sp_0_becomeAs_1 (l0 : -2147483648 ≤ i 4) (u0 : i 4 ≤ 2147483647) (l1 : -2147483648 ≤ i 5) (u1 : i 5 ≤ 2147483647) (l2 : -2147483648 ≤ i 6) (u2 : i 6 ≤ 2147483647) (l3 : -2147483648 ≤ i 7) (u3 : i 7 ≤ 2147483647) : (∀ a2, sA [2, 3, 4, 5, 6, 7, 8, 9, 10, 11, 12, 13] a a2 → (∀ j : Int, 0 ≤ j → j < 7 → a2 2 j = a 15 j) → (∀ j : Int, 0 ≤ j → j < 24 → a2 3 j = a 16 j) → (∀ j : Int, 0 ≤ j → j < 24 → a2 4 j = a 17 j) → (∀ j : Int, 0 ≤ j → j < 24 → a2 5 j = a 18 j) → (∀ j : Int, 0 ≤ j → j < 24 → a2 6 j = a 19 j) → (∀ j : Int, 0 ≤ j → j < 24 → a2 7 j = a 20 j) → (∀ j : Int, 0 ≤ j → j < 24 → a2 8 j = a 21 j) → (∀ j : Int, 0 ≤ j → j < 6 → a2 9 j = a 22 j) → (∀ j : Int, 0 ≤ j → j < 6 → a2 10 j = a 23 j) → (∀ j : Int, 0 ≤ j → j < 6 → a2 11 j = a 24 j) → (∀ j : Int, 0 ≤ j → j < 6 → a2 12 j = a 25 j) → (∀ j : Int, 0 ≤ j → j < 10 → a2 13 j = a 26 j) → Q none (HH n xs w a2 (dk_up (dk_up (dk_up (dk_up i 0 (i 4)) 1 (i 5)) 2 (i 6)) 3 (i 7)))) → s_0_becomeAs [.inr (.inr 1), .inr (.inr 14)] (HH n xs w a i) Q := by
  intro hQ
  simp (disch := first | assumption | omega | exact zc_lo | exact zc_hi | exact zz_l | exact zz_u | exact zz_r) only [xc_5 gc_0_becomeAs_0, xl_aload0, xl_aload1, xm_f, xm_n, xm_t, xo_14_0, xo_14_1, xo_14_10, xo_14_11, xo_14_12, xo_14_13, xo_14_14, xo_14_15, xo_14_2, xo_14_3, xo_14_4, xo_14_5, xo_14_6, xo_14_7, xo_14_8, xo_14_9, xo_1_0, xo_1_1, xo_1_10, xo_1_11, xo_1_12, xo_1_13, xo_1_14, xo_1_15, xo_1_2, xo_1_3, xo_1_4, xo_1_5, xo_1_6, xo_1_7, xo_1_8, xo_1_9, xp_14_1, xp_14_12, xp_14_15, xp_14_8, xp_1_1, xp_1_12, xp_1_15, xp_1_8, xr_iconst, xr_vret, xtl_n, xtl_s, xz_i, xz_l, xz_n, xz_r, wb_0_becomeAs_0, ss_0_becomeAs_1, ss_0_becomeAs_14, zz_b, zz_bn, Classical.not_not, true_and, Nat.reduceAdd, Nat.reduceLeDiff, sp_ac (k1 := 15) (k2 := 2) (m := 7) rfl rfl (by omega) (e := 7) rfl, sp_ac (k1 := 16) (k2 := 3) (m := 24) rfl rfl (by omega) (e := 24) rfl, sp_ac (k1 := 17) (k2 := 4) (m := 24) rfl rfl (by omega) (e := 24) rfl, sp_ac (k1 := 18) (k2 := 5) (m := 24) rfl rfl (by omega) (e := 24) rfl, sp_ac (k1 := 19) (k2 := 6) (m := 24) rfl rfl (by omega) (e := 24) rfl, sp_ac (k1 := 20) (k2 := 7) (m := 24) rfl rfl (by omega) (e := 24) rfl, sp_ac (k1 := 21) (k2 := 8) (m := 24) rfl rfl (by omega) (e := 24) rfl, sp_ac (k1 := 22) (k2 := 9) (m := 6) rfl rfl (by omega) (e := 6) rfl, sp_ac (k1 := 23) (k2 := 10) (m := 6) rfl rfl (by omega) (e := 6) rfl, sp_ac (k1 := 24) (k2 := 11) (m := 6) rfl rfl (by omega) (e := 6) rfl, sp_ac (k1 := 25) (k2 := 12) (m := 6) rfl rfl (by omega) (e := 6) rfl, sp_ac (k1 := 26) (k2 := 13) (m := 10) rfl rfl (by omega) (e := 10) rfl, up_n (show ¬ 4 = 0 by decide), up_n (show ¬ 4 = 1 by decide), up_n (show ¬ 4 = 2 by decide), up_n (show ¬ 4 = 3 by decide), up_n (show ¬ 5 = 0 by decide), up_n (show ¬ 5 = 1 by decide), up_n (show ¬ 5 = 2 by decide), up_n (show ¬ 5 = 3 by decide), up_n (show ¬ 6 = 0 by decide), up_n (show ¬ 6 = 1 by decide), up_n (show ¬ 6 = 2 by decide), up_n (show ¬ 6 = 3 by decide), up_n (show ¬ 7 = 0 by decide), up_n (show ¬ 7 = 1 by decide), up_n (show ¬ 7 = 2 by decide), up_n (show ¬ 7 = 3 by decide)]
  refine hQ _ ?_ ?_ ?_ ?_ ?_ ?_ ?_ ?_ ?_ ?_ ?_ ?_ ?_
  · exact sA_up (sA_up (sA_up (sA_up (sA_up (sA_up (sA_up (sA_up (sA_up (sA_up (sA_up (sA_up sA_rf (by decide) _) (by decide) _) (by decide) _) (by decide) _) (by decide) _) (by decide) _) (by decide) _) (by decide) _) (by decide) _) (by decide) _) (by decide) _) (by decide) _
  · intro j j1 j2
    rw [up_n (show ¬ 2 = 13 by decide), up_n (show ¬ 2 = 12 by decide), up_n (show ¬ 2 = 11 by decide), up_n (show ¬ 2 = 10 by decide), up_n (show ¬ 2 = 9 by decide), up_n (show ¬ 2 = 8 by decide), up_n (show ¬ 2 = 7 by decide), up_n (show ¬ 2 = 6 by decide), up_n (show ¬ 2 = 5 by decide), up_n (show ¬ 2 = 4 by decide), up_n (show ¬ 2 = 3 by decide), up_s, cpF_v j1 (by omega)]
  · intro j j1 j2
    rw [up_n (show ¬ 3 = 13 by decide), up_n (show ¬ 3 = 12 by decide), up_n (show ¬ 3 = 11 by decide), up_n (show ¬ 3 = 10 by decide), up_n (show ¬ 3 = 9 by decide), up_n (show ¬ 3 = 8 by decide), up_n (show ¬ 3 = 7 by decide), up_n (show ¬ 3 = 6 by decide), up_n (show ¬ 3 = 5 by decide), up_n (show ¬ 3 = 4 by decide), up_s, cpF_v j1 (by omega), up_n (show ¬ 16 = 2 by decide)]
  · intro j j1 j2
    rw [up_n (show ¬ 4 = 13 by decide), up_n (show ¬ 4 = 12 by decide), up_n (show ¬ 4 = 11 by decide), up_n (show ¬ 4 = 10 by decide), up_n (show ¬ 4 = 9 by decide), up_n (show ¬ 4 = 8 by decide), up_n (show ¬ 4 = 7 by decide), up_n (show ¬ 4 = 6 by decide), up_n (show ¬ 4 = 5 by decide), up_s, cpF_v j1 (by omega), up_n (show ¬ 17 = 3 by decide), up_n (show ¬ 17 = 2 by decide)]
  · intro j j1 j2
    rw [up_n (show ¬ 5 = 13 by decide), up_n (show ¬ 5 = 12 by decide), up_n (show ¬ 5 = 11 by decide), up_n (show ¬ 5 = 10 by decide), up_n (show ¬ 5 = 9 by decide), up_n (show ¬ 5 = 8 by decide), up_n (show ¬ 5 = 7 by decide), up_n (show ¬ 5 = 6 by decide), up_s, cpF_v j1 (by omega), up_n (show ¬ 18 = 4 by decide), up_n (show ¬ 18 = 3 by decide), up_n (show ¬ 18 = 2 by decide)]
  · intro j j1 j2
    rw [up_n (show ¬ 6 = 13 by decide), up_n (show ¬ 6 = 12 by decide), up_n (show ¬ 6 = 11 by decide), up_n (show ¬ 6 = 10 by decide), up_n (show ¬ 6 = 9 by decide), up_n (show ¬ 6 = 8 by decide), up_n (show ¬ 6 = 7 by decide), up_s, cpF_v j1 (by omega), up_n (show ¬ 19 = 5 by decide), up_n (show ¬ 19 = 4 by decide), up_n (show ¬ 19 = 3 by decide), up_n (show ¬ 19 = 2 by decide)]
  · intro j j1 j2
    rw [up_n (show ¬ 7 = 13 by decide), up_n (show ¬ 7 = 12 by decide), up_n (show ¬ 7 = 11 by decide), up_n (show ¬ 7 = 10 by decide), up_n (show ¬ 7 = 9 by decide), up_n (show ¬ 7 = 8 by decide), up_s, cpF_v j1 (by omega), up_n (show ¬ 20 = 6 by decide), up_n (show ¬ 20 = 5 by decide), up_n (show ¬ 20 = 4 by decide), up_n (show ¬ 20 = 3 by decide), up_n (show ¬ 20 = 2 by decide)]
  · intro j j1 j2
    rw [up_n (show ¬ 8 = 13 by decide), up_n (show ¬ 8 = 12 by decide), up_n (show ¬ 8 = 11 by decide), up_n (show ¬ 8 = 10 by decide), up_n (show ¬ 8 = 9 by decide), up_s, cpF_v j1 (by omega), up_n (show ¬ 21 = 7 by decide), up_n (show ¬ 21 = 6 by decide), up_n (show ¬ 21 = 5 by decide), up_n (show ¬ 21 = 4 by decide), up_n (show ¬ 21 = 3 by decide), up_n (show ¬ 21 = 2 by decide)]
  · intro j j1 j2
    rw [up_n (show ¬ 9 = 13 by decide), up_n (show ¬ 9 = 12 by decide), up_n (show ¬ 9 = 11 by decide), up_n (show ¬ 9 = 10 by decide), up_s, cpF_v j1 (by omega), up_n (show ¬ 22 = 8 by decide), up_n (show ¬ 22 = 7 by decide), up_n (show ¬ 22 = 6 by decide), up_n (show ¬ 22 = 5 by decide), up_n (show ¬ 22 = 4 by decide), up_n (show ¬ 22 = 3 by decide), up_n (show ¬ 22 = 2 by decide)]
  · intro j j1 j2
    rw [up_n (show ¬ 10 = 13 by decide), up_n (show ¬ 10 = 12 by decide), up_n (show ¬ 10 = 11 by decide), up_s, cpF_v j1 (by omega), up_n (show ¬ 23 = 9 by decide), up_n (show ¬ 23 = 8 by decide), up_n (show ¬ 23 = 7 by decide), up_n (show ¬ 23 = 6 by decide), up_n (show ¬ 23 = 5 by decide), up_n (show ¬ 23 = 4 by decide), up_n (show ¬ 23 = 3 by decide), up_n (show ¬ 23 = 2 by decide)]
  · intro j j1 j2
    rw [up_n (show ¬ 11 = 13 by decide), up_n (show ¬ 11 = 12 by decide), up_s, cpF_v j1 (by omega), up_n (show ¬ 24 = 10 by decide), up_n (show ¬ 24 = 9 by decide), up_n (show ¬ 24 = 8 by decide), up_n (show ¬ 24 = 7 by decide), up_n (show ¬ 24 = 6 by decide), up_n (show ¬ 24 = 5 by decide), up_n (show ¬ 24 = 4 by decide), up_n (show ¬ 24 = 3 by decide), up_n (show ¬ 24 = 2 by decide)]
  · intro j j1 j2
    rw [up_n (show ¬ 12 = 13 by decide), up_s, cpF_v j1 (by omega), up_n (show ¬ 25 = 11 by decide), up_n (show ¬ 25 = 10 by decide), up_n (show ¬ 25 = 9 by decide), up_n (show ¬ 25 = 8 by decide), up_n (show ¬ 25 = 7 by decide), up_n (show ¬ 25 = 6 by decide), up_n (show ¬ 25 = 5 by decide), up_n (show ¬ 25 = 4 by decide), up_n (show ¬ 25 = 3 by decide), up_n (show ¬ 25 = 2 by decide)]
  · intro j j1 j2
    rw [up_s, cpF_v j1 (by omega), up_n (show ¬ 26 = 12 by decide), up_n (show ¬ 26 = 11 by decide), up_n (show ¬ 26 = 10 by decide), up_n (show ¬ 26 = 9 by decide), up_n (show ¬ 26 = 8 by decide), up_n (show ¬ 26 = 7 by decide), up_n (show ¬ 26 = 6 by decide), up_n (show ¬ 26 = 5 by decide), up_n (show ¬ 26 = 4 by decide), up_n (show ¬ 26 = 3 by decide), up_n (show ¬ 26 = 2 by decide)]
theorem sp_mv_t {k m : Nat} (hk : hh_len k = some (0, m)) (hn : ¬ k = 75) {c e : Int} (he : e = m) (hc : i 43 = c) (h0 : 0 ≤ c) (h1 : c + m ≤ 200) : (∀ f, (∀ j : Int, 0 ≤ j → j < m → f (c + j) = a k j) → (∀ j : Int, j < c ∨ c + m ≤ j → f j = a 75 j) → Q none (HH n xs w (dk_up a 75 f) (dk_up i 43 (c + m)))) → s_6_move [.inr (.inr 53), .inr (.inr k), .inl e, .inl 1] (HH n xs w a i) Q := by
  intro hQ
  subst he
  simp (disch := first | assumption | omega | exact zc_lo | exact zc_hi | exact zz_l | exact zz_u | exact zz_r) only [xa_75, xl_aload0, xl_aload1, xl_iinc4a, xl_iinc4i, xl_iinc4n, xl_iload2, xl_iload3, xl_iload4, xl_istore4a, xl_istore4i, xl_istore4n, xm_f, xm_n, xm_t, xn_2, xn_4, xo_53_34, xo_53_35, xp_53_35, xr_dupi, xr_dupr, xr_goto, xr_iadd, xr_ic_ge, xr_iconst, xr_if_eq, xr_vret, xs_75, xtl_n, xtl_s, xz_i, xz_l, xz_n, xz_r, wb_6_move_0, wb_6_move_2, wb_6_move_3, wb_6_move_4, ss_6_move, zz_b, zz_bn, Classical.not_not, true_and, Nat.reduceAdd, Nat.reduceLeDiff, true_implies, false_implies, implies_true, not_true_eq_false, not_false_eq_true, and_true, false_and, and_false, if_true, if_false, Int.reduceEq, Int.reduceSub, Int.reduceAdd, Int.reduceMul, Int.reduceNeg, Int.reduceLT, Int.reduceLE, Int.add_zero]
  have key : ∀ d, d ≤ m → ∀ f, (∀ j : Int, 0 ≤ j → j < d → f (c + j) = a k j) → (∀ j : Int, j < c ∨ c + d ≤ j → f j = a 75 j) → dk_WP g_6_move b_6_move Q 1 [some (.inr (.inr 53)), some (.inr (.inr k)), some (.inl m), some (.inl 1), some (.inl d)] [] (HH n xs w (dk_up a 75 f) (dk_up i 43 (c + d))) := by
    refine lp_up ?_ ?_
    · intro f hf hf2
      rw [wb_6_move_1]
      simp (disch := first | assumption | omega | exact zc_lo | exact zc_hi | exact zz_l | exact zz_u | exact zz_r) only [xa_75, xl_aload0, xl_aload1, xl_iinc4a, xl_iinc4i, xl_iinc4n, xl_iload2, xl_iload3, xl_iload4, xl_istore4a, xl_istore4i, xl_istore4n, xm_f, xm_n, xm_t, xn_2, xn_4, xo_53_34, xo_53_35, xp_53_35, xr_dupi, xr_dupr, xr_goto, xr_iadd, xr_ic_ge, xr_iconst, xr_if_eq, xr_vret, xs_75, xtl_n, xtl_s, xz_i, xz_l, xz_n, xz_r, wb_6_move_0, wb_6_move_2, wb_6_move_3, wb_6_move_4, zz_b, zz_bn, Classical.not_not, true_and, Nat.reduceAdd, Nat.reduceLeDiff]
      exact ⟨fun _ => hQ f hf hf2, fun z => absurd (by omega) z⟩
    · intro d hdm ih f hf hf2
      have d0 : (0 : Int) ≤ d := by omega
      have dm : (d : Int) < m := by omega
      have uk : dk_up a 75 f k = a k := up_n hn
      have e43 : ∀ y, dk_up i 43 y 43 = y := fun y => up_s
      rw [wb_6_move_1]
      simp (disch := first | assumption | omega | exact zc_lo | exact zc_hi | exact zz_l | exact zz_u | exact zz_r) only [xa_75, xl_aload0, xl_aload1, xl_iinc4a, xl_iinc4i, xl_iinc4n, xl_iload2, xl_iload3, xl_iload4, xl_istore4a, xl_istore4i, xl_istore4n, xm_f, xm_n, xm_t, xn_2, xn_4, xo_53_34, xo_53_35, xp_53_35, xr_dupi, xr_dupr, xr_goto, xr_iadd, xr_ic_ge, xr_iconst, xr_if_eq, xr_vret, xs_75, xtl_n, xtl_s, xz_i, xz_l, xz_n, xz_r, wb_6_move_0, wb_6_move_2, wb_6_move_3, wb_6_move_4, zz_b, zz_bn, Classical.not_not, true_and, Nat.reduceAdd, Nat.reduceLeDiff, xa_w hk d0 dm (by omega), uk, e43, up_up, up_s, true_implies, false_implies, implies_true, not_true_eq_false, not_false_eq_true, and_true, false_and, and_false, if_true, if_false, Int.reduceEq, Int.reduceSub, Int.reduceAdd, Int.reduceMul, Int.reduceNeg, Int.reduceLT, Int.reduceLE, Int.add_zero]
      refine ⟨fun z => absurd z (by omega), fun _ => ?_⟩
      have q := ih (dk_ui f (c + d) (a k d)) (fun j j1 j2 => by
        by_cases e : j = d
        · subst e; rw [ui_s]
        · rw [ui_n (by omega)]; exact hf j j1 (by omega)) (fun j hj => by rw [ui_n (by omega)]; exact hf2 j (by omega))
      rw [show c + ((d + 1 : Nat) : Int) = c + d + 1 by omega] at q
      rw [cs d]
      exact q
  have q := key 0 (Nat.zero_le _) (a 75) (fun j j1 j2 => by omega) (fun _ _ => rfl)
  rw [up_id, show c + ((0 : Nat) : Int) = i 43 by omega, up_id] at q
  exact q
theorem sp_mv_f {k m : Nat} (hk : hh_len k = some (0, m)) (hn : ¬ k = 75) {c e : Int} (he : e = m) (hc : i 43 = c) (h0 : 0 ≤ c) (h1 : c + m ≤ 200) : (∀ f, (∀ j : Int, 0 ≤ j → j < m → f j = a 75 (c + j)) → Q none (HH n xs w (dk_up a k f) (dk_up i 43 (c + m)))) → s_6_move [.inr (.inr 53), .inr (.inr k), .inl e, .inl 0] (HH n xs w a i) Q := by
  intro hQ
  subst he
  simp (disch := first | assumption | omega | exact zc_lo | exact zc_hi | exact zz_l | exact zz_u | exact zz_r) only [xa_75, xl_aload0, xl_aload1, xl_iinc4a, xl_iinc4i, xl_iinc4n, xl_iload2, xl_iload3, xl_iload4, xl_istore4a, xl_istore4i, xl_istore4n, xm_f, xm_n, xm_t, xn_2, xn_4, xo_53_34, xo_53_35, xp_53_35, xr_dupi, xr_dupr, xr_goto, xr_iadd, xr_ic_ge, xr_iconst, xr_if_eq, xr_vret, xs_75, xtl_n, xtl_s, xz_i, xz_l, xz_n, xz_r, wb_6_move_0, wb_6_move_2, wb_6_move_3, wb_6_move_4, ss_6_move, zz_b, zz_bn, Classical.not_not, true_and, Nat.reduceAdd, Nat.reduceLeDiff, true_implies, false_implies, implies_true, not_true_eq_false, not_false_eq_true, and_true, false_and, and_false, if_true, if_false, Int.reduceEq, Int.reduceSub, Int.reduceAdd, Int.reduceMul, Int.reduceNeg, Int.reduceLT, Int.reduceLE, Int.add_zero]
  have key : ∀ d, d ≤ m → ∀ f, (∀ j : Int, 0 ≤ j → j < d → f j = a 75 (c + j)) → dk_WP g_6_move b_6_move Q 1 [some (.inr (.inr 53)), some (.inr (.inr k)), some (.inl m), some (.inl 0), some (.inl d)] [] (HH n xs w (dk_up a k f) (dk_up i 43 (c + d))) := by
    refine lp_up ?_ ?_
    · intro f hf
      rw [wb_6_move_1]
      simp (disch := first | assumption | omega | exact zc_lo | exact zc_hi | exact zz_l | exact zz_u | exact zz_r) only [xa_75, xl_aload0, xl_aload1, xl_iinc4a, xl_iinc4i, xl_iinc4n, xl_iload2, xl_iload3, xl_iload4, xl_istore4a, xl_istore4i, xl_istore4n, xm_f, xm_n, xm_t, xn_2, xn_4, xo_53_34, xo_53_35, xp_53_35, xr_dupi, xr_dupr, xr_goto, xr_iadd, xr_ic_ge, xr_iconst, xr_if_eq, xr_vret, xs_75, xtl_n, xtl_s, xz_i, xz_l, xz_n, xz_r, wb_6_move_0, wb_6_move_2, wb_6_move_3, wb_6_move_4, zz_b, zz_bn, Classical.not_not, true_and, Nat.reduceAdd, Nat.reduceLeDiff]
      exact ⟨fun _ => hQ f hf, fun z => absurd (by omega) z⟩
    · intro d hdm ih f hf
      have d0 : (0 : Int) ≤ d := by omega
      have dm : (d : Int) < m := by omega
      have uk : dk_up a k f 75 = a 75 := up_n (fun z => hn z.symm)
      have e43 : ∀ y, dk_up i 43 y 43 = y := fun y => up_s
      rw [wb_6_move_1]
      simp (disch := first | assumption | omega | exact zc_lo | exact zc_hi | exact zz_l | exact zz_u | exact zz_r) only [xa_75, xl_aload0, xl_aload1, xl_iinc4a, xl_iinc4i, xl_iinc4n, xl_iload2, xl_iload3, xl_iload4, xl_istore4a, xl_istore4i, xl_istore4n, xm_f, xm_n, xm_t, xn_2, xn_4, xo_53_34, xo_53_35, xp_53_35, xr_dupi, xr_dupr, xr_goto, xr_iadd, xr_ic_ge, xr_iconst, xr_if_eq, xr_vret, xs_75, xtl_n, xtl_s, xz_i, xz_l, xz_n, xz_r, wb_6_move_0, wb_6_move_2, wb_6_move_3, wb_6_move_4, zz_b, zz_bn, Classical.not_not, true_and, Nat.reduceAdd, Nat.reduceLeDiff, xs_w hk d0 dm (by omega), uk, e43, up_up, up_s, eq_self, true_implies, false_implies, implies_true, not_true_eq_false, not_false_eq_true, and_true, false_and, and_false, if_true, if_false, Int.reduceEq, Int.reduceSub, Int.reduceAdd, Int.reduceMul, Int.reduceNeg, Int.reduceLT, Int.reduceLE, Int.add_zero]
      refine ⟨fun z => absurd z (by omega), fun _ => ?_⟩
      have q := ih (dk_ui f d (a 75 (c + d))) (fun j j1 j2 => by
        by_cases e : j = d
        · subst e; rw [ui_s]
        · rw [ui_n (by omega)]; exact hf j j1 (by omega))
      rw [show c + ((d + 1 : Nat) : Int) = c + d + 1 by omega] at q
      rw [cs d]
      exact q
  have q := key 0 (Nat.zero_le _) (a k) (fun j j1 j2 => by omega)
  rw [up_id, show c + ((0 : Nat) : Int) = i 43 by omega, up_id] at q
  exact q
end IM1
