/-! RANKS THAT FALL IN -/
def FI (c : Nat → Int → Int) (b : Int → Int) (m : Nat) (R M : Int) : Prop := ∀ h : Nat, h < m → ∀ t : Int, smG b h ≤ t → t < smG b (h + 1) → t < M → c 3 (R + t) = GV b (cur b h) 0 ∧ c 4 (R + t) = (if R + t = 0 then 0 else c 4 (R + t - 1) + GV b (cur b h) 5) ∧ c 5 (R + t) = GV b (cur b h) 2 ∧ c 6 (R + t) = GV b (cur b h) 3 ∧ c 7 (R + t) = GV b (cur b h) 4 ∧ c 8 (R + t) = 0
def Un (c c0 : Nat → Int → Int) (R : Int) : Prop := ∀ r, 0 ≤ r → r < R → c 3 r = c0 3 r ∧ c 4 r = c0 4 r ∧ c 5 r = c0 5 r ∧ c 6 r = c0 6 r ∧ c 7 r = c0 7 r ∧ c 8 r = c0 8 r
/-- one rank more, at x -/
def Add (c c2 : Nat → Int → Int) (x : Int) (v : Nat → Int) : Prop := (∀ r, 0 ≤ r → ¬ r = x → c2 3 r = c 3 r ∧ c2 4 r = c 4 r ∧ c2 5 r = c 5 r ∧ c2 6 r = c 6 r ∧ c2 7 r = c 7 r ∧ c2 8 r = c 8 r) ∧ c2 3 x = v 0 ∧ c2 4 x = (if x = 0 then 0 else c 4 (x - 1) + v 5) ∧ c2 5 x = v 2 ∧ c2 6 x = v 3 ∧ c2 7 x = v 4 ∧ c2 8 x = 0
section FL0
variable {b : Int → Int} {c c2 c0 d d0 : Nat → Int → Int} {m : Nat} {R M L : Int}
theorem smG_m (hv : ∀ h : Nat, h < m → 1 ≤ GV b (cur b h) 1) : ∀ k l : Nat, k ≤ l → l ≤ m → smG b k ≤ smG b l := by
  intro k l hkl
  induction hkl with
  | refl => intro _; omega
  | @step l hkl ih =>
    intro hl
    have q := ih (by omega)
    have q2 := hv l (by omega)
    have e : smG b (l + 1) = smG b l + GV b (cur b l) 1 := rfl
    have e2 : smG b l.succ = smG b (l + 1) := rfl
    omega
theorem smG_u (hv : ∀ h : Nat, h < m → 1 ≤ GV b (cur b h) 1) {k l : Nat} (hk : k < m) (hl : l < m) {t : Int} (h1 : smG b k ≤ t) (h2 : t < smG b (k + 1)) (h3 : smG b l ≤ t) (h4 : t < smG b (l + 1)) : k = l := by
  rcases Nat.lt_trichotomy k l with z | z | z
  · have := smG_m hv (k + 1) l (by omega) (by omega); omega
  · exact z
  · have := smG_m hv (l + 1) k (by omega) (by omega); omega
theorem smG_f : ∀ (m : Nat) {t : Int}, 0 ≤ t → t < smG b m → ∃ h : Nat, h < m ∧ smG b h ≤ t ∧ t < smG b (h + 1)
  | 0, t, h0, h1 => by simp only [smG] at h1; omega
  | m + 1, t, h0, h1 => by
    by_cases z : t < smG b m
    · obtain ⟨h, q1, q2, q3⟩ := smG_f m h0 z
      exact ⟨h, by omega, q2, q3⟩
    · exact ⟨m, by omega, by omega, h1⟩
theorem FI_s (hv : ∀ h : Nat, h < m → 1 ≤ GV b (cur b h) 1) (hR : 0 ≤ R) (h : FI c b m R M) {k : Nat} (hk : k < m) (h1 : smG b k ≤ M) (h2 : M < smG b (k + 1)) (hA : Add c c2 (R + M) (GV b (cur b k))) : FI c2 b m R (M + 1) := by
  intro h3 hm t t1 t2 t3
  have sm0 := smG_m hv 0 h3 (by omega) (by omega)
  have s00 : smG b 0 = 0 := rfl
  obtain ⟨A1, A2, A3, A4, A5, A6, A7⟩ := hA
  by_cases e : t = M
  · subst e
    have e2 := smG_u hv hm hk t1 t2 h1 h2
    subst e2
    refine ⟨A2, ?_, A4, A5, A6, A7⟩
    rw [A3]
    by_cases z : R + t = 0
    · rw [if_pos z, if_pos z]
    · rw [if_neg z, if_neg z, (A1 (R + t - 1) (by omega) (by omega)).2.1]
  · obtain ⟨q1, q2, q3, q4, q5, q6⟩ := h h3 hm t t1 t2 (by omega)
    obtain ⟨r1, r2, r3, r4, r5, r6⟩ := A1 (R + t) (by omega) (by omega)
    refine ⟨r1.trans q1, ?_, r3.trans q3, r4.trans q4, r5.trans q5, r6.trans q6⟩
    rw [r2, q2]
    by_cases z : R + t = 0
    · rw [if_pos z, if_pos z]
    · rw [if_neg z, if_neg z, (A1 (R + t - 1) (by omega) (by omega)).2.1]
theorem Un_s (h : Un c c0 R) (hM : 0 ≤ M) {v : Nat → Int} (hA : Add c c2 (R + M) v) : Un c2 c0 R := by
  intro r z1 z2
  obtain ⟨q1, q2, q3, q4, q5, q6⟩ := h r z1 z2
  obtain ⟨r1, r2, r3, r4, r5, r6⟩ := hA.1 r z1 (by omega)
  exact ⟨r1.trans q1, r2.trans q2, r3.trans q3, r4.trans q4, r5.trans q5, r6.trans q6⟩
/-- both filled alike -/
theorem FI_a (hR : 0 ≤ R) (h : FI c b m R (smG b m)) (h2 : FI d b m R (smG b m)) (hu : Un c c0 R) (hu2 : Un d d0 R) (h0 : ∀ r, 0 ≤ r → r < R → d0 3 r = c0 3 r ∧ d0 4 r = c0 4 r ∧ d0 5 r = c0 5 r ∧ d0 6 r = c0 6 r ∧ d0 7 r = c0 7 r ∧ d0 8 r = c0 8 r) : ∀ r : Nat, (r : Int) < R + smG b m → d 3 r = c 3 r ∧ d 4 r = c 4 r ∧ d 5 r = c 5 r ∧ d 6 r = c 6 r ∧ d 7 r = c 7 r ∧ d 8 r = c 8 r := by
  intro r
  induction r with
  | zero =>
    intro hr
    by_cases z : ((0 : Nat) : Int) < R
    · obtain ⟨q1, q2, q3, q4, q5, q6⟩ := hu _ (by omega) z
      obtain ⟨r1, r2, r3, r4, r5, r6⟩ := hu2 _ (by omega) z
      obtain ⟨s1, s2, s3, s4, s5, s6⟩ := h0 _ (by omega) z
      exact ⟨by rw [r1, q1, s1], by rw [r2, q2, s2], by rw [r3, q3, s3], by rw [r4, q4, s4], by rw [r5, q5, s5], by rw [r6, q6, s6]⟩
    · obtain ⟨k, k1, k2, k3⟩ := smG_f (b := b) m (t := ((0 : Nat) : Int) - R) (by omega) (by omega)
      obtain ⟨q1, q2, q3, q4, q5, q6⟩ := h k k1 _ k2 k3 (by omega)
      obtain ⟨r1, r2, r3, r4, r5, r6⟩ := h2 k k1 _ k2 k3 (by omega)
      have e : R + (((0 : Nat) : Int) - R) = ((0 : Nat) : Int) := by omega
      rw [e] at q1 q2 q3 q4 q5 q6 r1 r2 r3 r4 r5 r6
      rw [if_pos (by omega)] at q2 r2
      exact ⟨by rw [r1, q1], by rw [r2, q2], by rw [r3, q3], by rw [r4, q4], by rw [r5, q5], by rw [r6, q6]⟩
  | succ r ih =>
    intro hr
    by_cases z : ((r + 1 : Nat) : Int) < R
    · obtain ⟨q1, q2, q3, q4, q5, q6⟩ := hu _ (by omega) z
      obtain ⟨r1, r2, r3, r4, r5, r6⟩ := hu2 _ (by omega) z
      obtain ⟨s1, s2, s3, s4, s5, s6⟩ := h0 _ (by omega) z
      exact ⟨by rw [r1, q1, s1], by rw [r2, q2, s2], by rw [r3, q3, s3], by rw [r4, q4, s4], by rw [r5, q5, s5], by rw [r6, q6, s6]⟩
    · obtain ⟨k, k1, k2, k3⟩ := smG_f (b := b) m (t := ((r + 1 : Nat) : Int) - R) (by omega) (by omega)
      obtain ⟨q1, q2, q3, q4, q5, q6⟩ := h k k1 _ k2 k3 (by omega)
      obtain ⟨r1, r2, r3, r4, r5, r6⟩ := h2 k k1 _ k2 k3 (by omega)
      have e : R + (((r + 1 : Nat) : Int) - R) = ((r + 1 : Nat) : Int) := by omega
      rw [e] at q1 q2 q3 q4 q5 q6 r1 r2 r3 r4 r5 r6
      rw [if_neg (by omega), show ((r + 1 : Nat) : Int) - 1 = (r : Int) by omega] at q2 r2
      have i4 := (ih (by omega)).2.1
      exact ⟨by rw [r1, q1], by rw [r2, q2, i4], by rw [r3, q3], by rw [r4, q4], by rw [r5, q5], by rw [r6, q6]⟩
/-- what is filled in keeps its bounds -/
theorem FI_c (hT : Tp b L) (hg : ∀ h : Nat, h < m → GO b (cur b h) = true) (hR : 0 ≤ R) (h : FI c b m R (smG b m)) (hu : Un c c0 R) (hp : c 2 = c0 2) (hp0 : 0 < c 2 0) (h0 : ∀ r, 0 ≤ r → r < R → rkOK c0 r) : ∀ r : Nat, (r : Int) < R + smG b m → rkOK c r := by
  have old : ∀ r : Int, 0 ≤ r → r < R → rkOK c r := fun r z1 z2 => by
    obtain ⟨q1, q2, q3, q4, q5, q6⟩ := hu r z1 z2
    have := h0 r z1 z2
    unfold rkOK at this ⊢
    rw [q1, q2, q3, q4, q5, q6, hp]
    exact this
  intro r
  induction r with
  | zero =>
    intro hr
    by_cases z : ((0 : Nat) : Int) < R
    · exact old _ (by omega) z
    · obtain ⟨k, k1, k2, k3⟩ := smG_f (b := b) m (t := ((0 : Nat) : Int) - R) (by omega) (by omega)
      obtain ⟨q1, q2, q3, q4, q5, q6⟩ := h k k1 _ k2 k3 (by omega)
      have cb := cur_in hT k
      obtain ⟨v0, v1, v2, v3, v4, v5⟩ := GV_b hT cb.1 cb.2 (hg k k1)
      have e : R + (((0 : Nat) : Int) - R) = ((0 : Nat) : Int) := by omega
      rw [e] at q1 q2 q3 q4 q5 q6
      rw [if_pos (by omega)] at q2
      unfold rkOK
      rw [q1, q2, q3, q4, q5, q6]
      exact ⟨v0, by omega, v2, v3, by omega, by omega⟩
  | succ r ih =>
    intro hr
    by_cases z : ((r + 1 : Nat) : Int) < R
    · exact old _ (by omega) z
    · obtain ⟨k, k1, k2, k3⟩ := smG_f (b := b) m (t := ((r + 1 : Nat) : Int) - R) (by omega) (by omega)
      obtain ⟨q1, q2, q3, q4, q5, q6⟩ := h k k1 _ k2 k3 (by omega)
      have cb := cur_in hT k
      obtain ⟨v0, v1, v2, v3, v4, v5⟩ := GV_b hT cb.1 cb.2 (hg k k1)
      have e : R + (((r + 1 : Nat) : Int) - R) = ((r + 1 : Nat) : Int) := by omega
      rw [e] at q1 q2 q3 q4 q5 q6
      rw [if_neg (by omega), show ((r + 1 : Nat) : Int) - 1 = (r : Int) by omega] at q2
      have i4 := (ih (by omega)).2.1
      unfold rkOK
      rw [q1, q2, q3, q4, q5, q6]
      exact ⟨v0, by omega, v2, v3, by omega, by omega⟩
end FL0
section FL1
variable {N : Int} {n : Nat} {xs : Int → Int} {w : Nat → Nat} {a : Nat → Int → Int} {i : Nat → Int} {Q : dk_Q} {b : Int → Int}
theorem sp_0_fallIn {g : Int} {v : Nat → Int} (hv : ∀ k : Nat, k < 6 → a 29 (g * 6 + k) = v k) (g0 : 0 ≤ g) (g1 : g ≤ 10) (h0 : 0 ≤ i 0) (h1 : i 0 < 24) : (∀ a2, sA [3, 4, 5, 6, 7, 8] a a2 → Add a a2 (i 0) v → Q none (HH n xs w a2 (dk_up i 0 (i 0 + 1)))) → s_0_fallIn [.inr (.inr 1), .inr (.inr 27), .inl g] (HH n xs w a i) Q := by
  intro hQ
  have v0 : a 29 (g * 6 + 0) = v 0 := hv 0 (by omega)
  have v2 : a 29 (g * 6 + 2) = v 2 := hv 2 (by omega)
  have v3 : a 29 (g * 6 + 3) = v 3 := hv 3 (by omega)
  have v4 : a 29 (g * 6 + 4) = v 4 := hv 4 (by omega)
  have v5 : a 29 (g * 6 + 5) = v 5 := hv 5 (by omega)
  have v0b : a 29 (g * 6) = v 0 := by rw [← v0, Int.add_zero]
  have fin : ∀ x, x = (if i 0 = 0 then 0 else a 4 (i 0 - 1) + v 5) → Q none (HH n xs w (dk_up (dk_up (dk_up (dk_up (dk_up (dk_up a 3 (dk_ui (a 3) (i 0) (v 0))) 4 (dk_ui (a 4) (i 0) x)) 5 (dk_ui (a 5) (i 0) (v 2))) 6 (dk_ui (a 6) (i 0) (v 3))) 7 (dk_ui (a 7) (i 0) (v 4))) 8 (dk_ui (a 8) (i 0) 0)) (dk_up i 0 (i 0 + 1))) := by
    intro x hx
    refine hQ _ (sA_up (sA_up (sA_up (sA_up (sA_up (sA_up sA_rf (by decide) _) (by decide) _) (by decide) _) (by decide) _) (by decide) _) (by decide) _) ?_
    have r8 : dk_up (dk_up (dk_up (dk_up (dk_up (dk_up a 3 (dk_ui (a 3) (i 0) (v 0))) 4 (dk_ui (a 4) (i 0) x)) 5 (dk_ui (a 5) (i 0) (v 2))) 6 (dk_ui (a 6) (i 0) (v 3))) 7 (dk_ui (a 7) (i 0) (v 4))) 8 (dk_ui (a 8) (i 0) 0) 8 = dk_ui (a 8) (i 0) 0 := up_s
    unfold Add
    rw [r8, up_n (show ¬ 3 = 8 by decide), up_n (show ¬ 3 = 7 by decide), up_n (show ¬ 3 = 6 by decide), up_n (show ¬ 3 = 5 by decide), up_n (show ¬ 3 = 4 by decide), up_s, up_n (show ¬ 4 = 8 by decide), up_n (show ¬ 4 = 7 by decide), up_n (show ¬ 4 = 6 by decide), up_n (show ¬ 4 = 5 by decide), up_s, up_n (show ¬ 5 = 8 by decide), up_n (show ¬ 5 = 7 by decide), up_n (show ¬ 5 = 6 by decide), up_s, up_n (show ¬ 6 = 8 by decide), up_n (show ¬ 6 = 7 by decide), up_s, up_n (show ¬ 7 = 8 by decide), up_s]
    refine ⟨fun r z1 z2 => ?_, ui_s, by rw [ui_s]; exact hx, ui_s, ui_s, ui_s, ui_s⟩
    rw [ui_n z2, ui_n z2, ui_n z2, ui_n z2, ui_n z2, ui_n z2]
    exact ⟨rfl, rfl, rfl, rfl, rfl, rfl⟩
  by_cases c : i 0 = 0
  · have q := fin 0 (by rw [if_pos c])
    simp (disch := first | assumption | omega | exact zc_lo | exact zc_hi | exact zz_l | exact zz_u | exact zz_r) only [xa_3, xa_4, xa_5, xa_6, xa_7, xa_8, xc_3 gc_0_fallIn_0, xl_aload0, xl_aload1, xl_iload2, xl_iload3, xl_istore3a, xl_istore3i, xl_istore3n, xm_f, xm_n, xm_t, xn_1, xn_2, xo_1_1, xo_1_2, xo_1_3, xo_1_4, xo_1_5, xo_1_6, xo_1_7, xp_1_1, xr_dupi, xr_dupr, xr_goto, xr_iadd, xr_ic_lt, xr_iconst, xr_if_ne, xr_isub, xr_vret, xs_3, xs_4, xs_5, xs_6, xs_7, xs_8, xtl_n, xtl_s, xz_i, xz_l, xz_n, xz_r, wb_0_fallIn_0, wb_0_fallIn_1, wb_0_fallIn_2, wb_0_fallIn_3, ss_0_fallIn_1, ss_0_fallIn_14, zz_b, zz_bn, Classical.not_not, true_and, Nat.reduceAdd, Nat.reduceLeDiff, h1, sp_3_of, v0b, v2, v3, v4, v5, c, eq_self, up_n (show ¬ 29 = 3 by decide), up_n (show ¬ 29 = 4 by decide), up_n (show ¬ 29 = 5 by decide), up_n (show ¬ 29 = 6 by decide), up_n (show ¬ 4 = 3 by decide), up_n (show ¬ 5 = 3 by decide), up_n (show ¬ 5 = 4 by decide), up_n (show ¬ 6 = 3 by decide), up_n (show ¬ 6 = 4 by decide), up_n (show ¬ 6 = 5 by decide), up_n (show ¬ 7 = 3 by decide), up_n (show ¬ 7 = 4 by decide), up_n (show ¬ 7 = 5 by decide), up_n (show ¬ 7 = 6 by decide), up_n (show ¬ 8 = 3 by decide), up_n (show ¬ 8 = 4 by decide), up_n (show ¬ 8 = 5 by decide), up_n (show ¬ 8 = 6 by decide), up_n (show ¬ 8 = 7 by decide), true_implies, false_implies, implies_true, not_true_eq_false, not_false_eq_true, and_true, false_and, and_false, if_true, if_false, Int.reduceEq, Int.reduceSub, Int.reduceAdd, Int.reduceMul, Int.reduceNeg, Int.reduceLT, Int.reduceLE, Int.add_zero]
    rw [c] at q
    exact q
  · have q := fin _ (by rw [if_neg c])
    simp (disch := first | assumption | omega | exact zc_lo | exact zc_hi | exact zz_l | exact zz_u | exact zz_r) only [xa_3, xa_4, xa_5, xa_6, xa_7, xa_8, xc_3 gc_0_fallIn_0, xl_aload0, xl_aload1, xl_iload2, xl_iload3, xl_istore3a, xl_istore3i, xl_istore3n, xm_f, xm_n, xm_t, xn_1, xn_2, xo_1_1, xo_1_2, xo_1_3, xo_1_4, xo_1_5, xo_1_6, xo_1_7, xp_1_1, xr_dupi, xr_dupr, xr_goto, xr_iadd, xr_ic_lt, xr_iconst, xr_if_ne, xr_isub, xr_vret, xs_3, xs_4, xs_5, xs_6, xs_7, xs_8, xtl_n, xtl_s, xz_i, xz_l, xz_n, xz_r, wb_0_fallIn_0, wb_0_fallIn_1, wb_0_fallIn_2, wb_0_fallIn_3, ss_0_fallIn_1, ss_0_fallIn_14, zz_b, zz_bn, Classical.not_not, true_and, Nat.reduceAdd, Nat.reduceLeDiff, h1, sp_3_of, v0b, v2, v3, v4, v5, c, up_n (show ¬ 29 = 3 by decide), up_n (show ¬ 29 = 4 by decide), up_n (show ¬ 29 = 5 by decide), up_n (show ¬ 29 = 6 by decide), up_n (show ¬ 4 = 3 by decide), up_n (show ¬ 5 = 3 by decide), up_n (show ¬ 5 = 4 by decide), up_n (show ¬ 6 = 3 by decide), up_n (show ¬ 6 = 4 by decide), up_n (show ¬ 6 = 5 by decide), up_n (show ¬ 7 = 3 by decide), up_n (show ¬ 7 = 4 by decide), up_n (show ¬ 7 = 5 by decide), up_n (show ¬ 7 = 6 by decide), up_n (show ¬ 8 = 3 by decide), up_n (show ¬ 8 = 4 by decide), up_n (show ¬ 8 = 5 by decide), up_n (show ¬ 8 = 6 by decide), up_n (show ¬ 8 = 7 by decide), true_implies, false_implies, implies_true, not_true_eq_false, not_false_eq_true, and_true, false_and, and_false, if_true, if_false, Int.reduceEq, Int.reduceSub, Int.reduceAdd, Int.reduceMul, Int.reduceNeg, Int.reduceLT, Int.reduceLE, Int.add_zero]
    exact q
/-- the class: all groups fall in -/
theorem cl_fill (hT : ∃ L, Tp b L) {g : Nat} (hP : Pre b g) (hG : GO b (cur b g) = true) {R : Int} (hR : 0 ≤ R) (hS : R + smG b (g + 1) ≤ 24) (h0 : i 0 = R) (h10 : i 10 = g + 1) (hv : ∀ h : Nat, h ≤ g → ∀ k : Nat, k < 6 → a 29 ((h : Int) * 6 + k) = GV b (cur b h) k) : (∀ a2 i2, sA [3, 4, 5, 6, 7, 8] a a2 → sI [0] i i2 → i2 0 = R + smG b (g + 1) → FI a2 b (g + 1) R (smG b (g + 1)) → Un a2 a R → Q (some (.inl (R + smG b (g + 1)))) (HH n xs w a2 i2)) → ∀ l1 l3, dk_WP g_5_column b_5_column Q 3 [some (.inr (.inr 0)), l1, some (.inl 0), l3] [] (HH n xs w a i) := by
  intro hQ l1 l3
  obtain ⟨L, hT⟩ := hT
  have gos : ∀ h : Nat, h < g + 1 → GO b (cur b h) = true := fun h hh => by
    by_cases e : h = g
    · subst e; exact hG
    · exact (hP h (by omega)).1
  have g10 := Pre_11 hT hP
  have gvs : ∀ h : Nat, h < g + 1 → 1 ≤ GV b (cur b h) 1 ∧ GV b (cur b h) 1 ≤ 24 := fun h hh => by
    have cb := cur_in hT h
    exact (GV_b hT cb.1 cb.2 (gos h hh)).2.1
  have mono := smG_m (b := b) (m := g + 1) (fun h hh => (gvs h hh).1)
  have s0 : smG b 0 = 0 := rfl
  refine lp_up (m := g + 1) (P := fun d => ∀ a2 i2 l1 l3, sA [3, 4, 5, 6, 7, 8] a a2 → sI [0] i i2 → i2 0 = R + smG b d → FI a2 b (g + 1) R (smG b d) → Un a2 a R → dk_WP g_5_column b_5_column Q 3 [some (.inr (.inr 0)), l1, some (.inl d), l3] [] (HH n xs w a2 i2)) ?_ ?_ 0 (Nat.zero_le _) a i l1 l3 sA_rf sI_rf (by rw [s0]; omega) (fun h hh t t1 t2 t3 => by have := mono 0 h (by omega) (by omega); omega) (fun r z1 z2 => ⟨rfl, rfl, rfl, rfl, rfl, rfl⟩)
  · intro a2 i2 l1 l3 hs hI k0 hF hU
    have e10 : i2 10 = g + 1 := by rw [hI 10 (by decide)]; exact h10
    rw [wb_5_column_3]
    simp (disch := first | assumption | omega | exact zc_lo | exact zc_hi | exact zz_l | exact zz_u | exact zz_r) only [xc_1 gc_5_column_0, xc_2 gc_5_column_1, xc_3 gc_5_column_2, xc_3 gc_5_column_3, xl_aload0, xl_iinc2a, xl_iinc2i, xl_iinc2n, xl_iinc3a, xl_iinc3i, xl_iinc3n, xl_iload1, xl_iload2, xl_iload3, xl_istore1a, xl_istore1i, xl_istore1n, xl_istore2a, xl_istore2i, xl_istore2n, xl_istore3a, xl_istore3i, xl_istore3n, xm_f, xm_n, xm_t, xn_1, xn_2, xn_5, xn_6, xo_0_0, xo_0_3, xo_1_1, xo_27_2, xo_27_3, xp_27_1, xr_goto, xr_ic_eq, xr_ic_ge, xr_ic_le, xr_iconst, xr_iret, xr_isub, xtl_n, xtl_s, xz_i, xz_l, xz_n, xz_r, wb_5_column_0, wb_5_column_1, wb_5_column_2, wb_5_column_5, wb_5_column_6, zz_b, zz_bn, Classical.not_not, true_and, Nat.reduceAdd, Nat.reduceLeDiff, e10, k0]
    exact ⟨fun _ => hQ a2 i2 hs hI k0 hF hU, fun z => absurd (by omega) z⟩
  · intro d hdm ih a2 i2 l1 l3 hs hI k0 hF hU
    have e10 : i2 10 = g + 1 := by rw [hI 10 (by decide)]; exact h10
    obtain ⟨m, hm⟩ := nat_of (show 0 ≤ GV b (cur b d) 1 by have := gvs d hdm; omega)
    have gd := gvs d hdm
    have se : smG b (d + 1) = smG b d + m := by rw [← hm]; rfl
    have top := mono (d + 1) (g + 1) (by omega) (Nat.le_refl _)
    have bot := mono 0 d (by omega) (by omega)
    rw [wb_5_column_3]
    simp (disch := first | assumption | omega | exact zc_lo | exact zc_hi | exact zz_l | exact zz_u | exact zz_r) only [xc_1 gc_5_column_0, xc_2 gc_5_column_1, xc_3 gc_5_column_2, xc_3 gc_5_column_3, xl_aload0, xl_iinc2a, xl_iinc2i, xl_iinc2n, xl_iinc3a, xl_iinc3i, xl_iinc3n, xl_iload1, xl_iload2, xl_iload3, xl_istore1a, xl_istore1i, xl_istore1n, xl_istore2a, xl_istore2i, xl_istore2n, xl_istore3a, xl_istore3i, xl_istore3n, xm_f, xm_n, xm_t, xn_1, xn_2, xn_5, xn_6, xo_0_0, xo_0_3, xo_1_1, xo_27_2, xo_27_3, xp_27_1, xr_goto, xr_ic_eq, xr_ic_ge, xr_ic_le, xr_iconst, xr_iret, xr_isub, xtl_n, xtl_s, xz_i, xz_l, xz_n, xz_r, wb_5_column_0, wb_5_column_1, wb_5_column_2, wb_5_column_5, wb_5_column_6, zz_b, zz_bn, Classical.not_not, true_and, Nat.reduceAdd, Nat.reduceLeDiff, e10]
    refine ⟨fun z => absurd z (by omega), fun _ => ?_⟩
    refine lp_up (m := m) (P := fun e => ∀ a3 i3 l1, sA [3, 4, 5, 6, 7, 8] a a3 → sI [0] i i3 → i3 0 = R + (smG b d + e) → FI a3 b (g + 1) R (smG b d + e) → Un a3 a R → dk_WP g_5_column b_5_column Q 4 [some (.inr (.inr 0)), l1, some (.inl d), some (.inl e)] [] (HH n xs w a3 i3)) ?_ ?_ 0 (Nat.zero_le _) a2 i2 _ hs hI (by rw [k0]; omega) (by rw [show smG b d + ((0 : Nat) : Int) = smG b d by omega]; exact hF) hU
    · intro a3 i3 l1 hs3 hI3 f0 hF3 hU3
      have e29 : a3 29 ((d : Int) * 6 + 1) = m := by rw [hs3 29 (by decide), ← hm]; exact hv d (by omega) 1 (by omega)
      rw [wb_5_column_4]
      simp (disch := first | assumption | omega | exact zc_lo | exact zc_hi | exact zz_l | exact zz_u | exact zz_r) only [xc_1 gc_5_column_0, xc_2 gc_5_column_1, xc_3 gc_5_column_2, xc_3 gc_5_column_3, xl_aload0, xl_iinc2a, xl_iinc2i, xl_iinc2n, xl_iinc3a, xl_iinc3i, xl_iinc3n, xl_iload1, xl_iload2, xl_iload3, xl_istore1a, xl_istore1i, xl_istore1n, xl_istore2a, xl_istore2i, xl_istore2n, xl_istore3a, xl_istore3i, xl_istore3n, xm_f, xm_n, xm_t, xn_1, xn_2, xn_5, xn_6, xo_0_0, xo_0_3, xo_1_1, xo_27_2, xo_27_3, xp_27_1, xr_goto, xr_ic_eq, xr_ic_ge, xr_ic_le, xr_iconst, xr_iret, xr_isub, xtl_n, xtl_s, xz_i, xz_l, xz_n, xz_r, wb_5_column_0, wb_5_column_1, wb_5_column_2, wb_5_column_5, wb_5_column_6, zz_b, zz_bn, Classical.not_not, true_and, Nat.reduceAdd, Nat.reduceLeDiff, sp_3_of, e29]
      refine ⟨fun _ => ?_, fun z => absurd (by omega) z⟩
      rw [cs d]
      rw [← se] at f0 hF3
      exact ih a3 i3 _ _ hs3 hI3 f0 hF3 hU3
    · intro e hem ih2 a3 i3 l1 hs3 hI3 f0 hF3 hU3
      have e29 : a3 29 ((d : Int) * 6 + 1) = m := by rw [hs3 29 (by decide), ← hm]; exact hv d (by omega) 1 (by omega)
      rw [wb_5_column_4]
      simp (disch := first | assumption | omega | exact zc_lo | exact zc_hi | exact zz_l | exact zz_u | exact zz_r) only [xc_1 gc_5_column_0, xc_2 gc_5_column_1, xc_3 gc_5_column_2, xc_3 gc_5_column_3, xl_aload0, xl_iinc2a, xl_iinc2i, xl_iinc2n, xl_iinc3a, xl_iinc3i, xl_iinc3n, xl_iload1, xl_iload2, xl_iload3, xl_istore1a, xl_istore1i, xl_istore1n, xl_istore2a, xl_istore2i, xl_istore2n, xl_istore3a, xl_istore3i, xl_istore3n, xm_f, xm_n, xm_t, xn_1, xn_2, xn_5, xn_6, xo_0_0, xo_0_3, xo_1_1, xo_27_2, xo_27_3, xp_27_1, xr_goto, xr_ic_eq, xr_ic_ge, xr_ic_le, xr_iconst, xr_iret, xr_isub, xtl_n, xtl_s, xz_i, xz_l, xz_n, xz_r, wb_5_column_0, wb_5_column_1, wb_5_column_2, wb_5_column_5, wb_5_column_6, zz_b, zz_bn, Classical.not_not, true_and, Nat.reduceAdd, Nat.reduceLeDiff, sp_3_of, e29]
      refine ⟨fun z => absurd z (by omega), fun _ => ?_⟩
      refine sp_0_fallIn (v := GV b (cur b d)) (fun k hk => by rw [hs3 29 (by decide)]; exact hv d (by omega) k hk) (by omega) (by omega) (by omega) (by omega) (fun a4 hs4 hA4 => ?_)
      rw [f0] at hA4
      simp (disch := first | assumption | omega | exact zc_lo | exact zc_hi | exact zz_l | exact zz_u | exact zz_r) only [xc_1 gc_5_column_0, xc_2 gc_5_column_1, xc_3 gc_5_column_2, xc_3 gc_5_column_3, xl_aload0, xl_iinc2a, xl_iinc2i, xl_iinc2n, xl_iinc3a, xl_iinc3i, xl_iinc3n, xl_iload1, xl_iload2, xl_iload3, xl_istore1a, xl_istore1i, xl_istore1n, xl_istore2a, xl_istore2i, xl_istore2n, xl_istore3a, xl_istore3i, xl_istore3n, xm_f, xm_n, xm_t, xn_1, xn_2, xn_5, xn_6, xo_0_0, xo_0_3, xo_1_1, xo_27_2, xo_27_3, xp_27_1, xr_goto, xr_ic_eq, xr_ic_ge, xr_ic_le, xr_iconst, xr_iret, xr_isub, xtl_n, xtl_s, xz_i, xz_l, xz_n, xz_r, wb_5_column_0, wb_5_column_1, wb_5_column_2, wb_5_column_5, wb_5_column_6, zz_b, zz_bn, Classical.not_not, true_and, Nat.reduceAdd, Nat.reduceLeDiff]
      rw [cs e]
      refine ih2 a4 _ _ (sA_tr hs3 hs4) (sI_up hI3 (by decide) _) (by rw [up_s]; omega) ?_ (Un_s hU3 (by omega) hA4)
      have q := FI_s (fun h hh => (gvs h hh).1) hR hF3 hdm (by omega) (by omega) hA4
      rw [show smG b d + (e : Int) + 1 = smG b d + ((e + 1 : Nat) : Int) by omega] at q
      exact q
/-- the reference: all groups fall in -/
theorem md_fill (hT : ∃ L, Tp b L) {g : Nat} (hP : Pre b g) (hG : GO b (cur b g) = true) {R : Int} (hR : 0 ≤ R) (hS : R + smG b (g + 1) ≤ 24) (h0 : i 30 = R) (h41 : i 41 = g + 1) (hv : ∀ h : Nat, h ≤ g → a 64 (6 * (h : Int)) = GV b (cur b h) 0 ∧ a 64 (6 * (h : Int) + 1) = GV b (cur b h) 1 ∧ a 64 (6 * (h : Int) + 2) = GV b (cur b h) 5 ∧ a 64 (6 * (h : Int) + 3) = GV b (cur b h) 2 ∧ a 64 (6 * (h : Int) + 4) = GV b (cur b h) 3 ∧ a 64 (6 * (h : Int) + 5) = GV b (cur b h) 4) : (∀ a2 i2, sA [57, 58] a a2 → sI [30] i i2 → i2 30 = R + smG b (g + 1) → FI (mv a2) b (g + 1) R (smG b (g + 1)) → Un (mv a2) (mv a) R → Q (some (.inl (R + smG b (g + 1)))) (HH n xs w a2 i2)) → ∀ l1 l3, dk_WP g_6_column b_6_column Q 9 [some (.inr (.inr 53)), l1, some (.inl 0), l3] [] (HH n xs w a i) := by
  intro hQ l1 l3
  obtain ⟨L, hT⟩ := hT
  have gos : ∀ h : Nat, h < g + 1 → GO b (cur b h) = true := fun h hh => by
    by_cases e : h = g
    · subst e; exact hG
    · exact (hP h (by omega)).1
  have g10 := Pre_11 hT hP
  have gvs : ∀ h : Nat, h < g + 1 → 1 ≤ GV b (cur b h) 1 ∧ GV b (cur b h) 1 ≤ 24 := fun h hh => by
    have cb := cur_in hT h
    exact (GV_b hT cb.1 cb.2 (gos h hh)).2.1
  have mono := smG_m (b := b) (m := g + 1) (fun h hh => (gvs h hh).1)
  have s0 : smG b 0 = 0 := rfl
  refine lp_up (m := g + 1) (P := fun d => ∀ a2 i2 l1 l3, sA [57, 58] a a2 → sI [30] i i2 → i2 30 = R + smG b d → FI (mv a2) b (g + 1) R (smG b d) → Un (mv a2) (mv a) R → dk_WP g_6_column b_6_column Q 9 [some (.inr (.inr 53)), l1, some (.inl d), l3] [] (HH n xs w a2 i2)) ?_ ?_ 0 (Nat.zero_le _) a i l1 l3 sA_rf sI_rf (by rw [s0]; omega) (fun h hh t t1 t2 t3 => by have := mono 0 h (by omega) (by omega); omega) (fun r z1 z2 => ⟨rfl, rfl, rfl, rfl, rfl, rfl⟩)
  · intro a2 i2 l1 l3 hs hI k0 hF hU
    have e41 : i2 41 = g + 1 := by rw [hI 41 (by decide)]; exact h41
    rw [wb_6_column_9]
    simp (disch := first | assumption | omega | exact zc_lo | exact zc_hi | exact zz_l | exact zz_u | exact zz_r) only [xa_57, xa_58, xa_64, xc_1 gc_6_column_0, xc_1 gc_6_column_1, xc_2 gc_6_column_2, xc_3 gc_6_column_3, xl_aload0, xl_iinc2a, xl_iinc2i, xl_iinc2n, xl_iinc3a, xl_iinc3i, xl_iinc3n, xl_iload1, xl_iload2, xl_iload3, xl_istore1a, xl_istore1i, xl_istore1n, xl_istore2a, xl_istore2i, xl_istore2n, xl_istore3a, xl_istore3i, xl_istore3n, xm_f, xm_n, xm_t, xn_11, xn_13, xn_14, xn_2, xn_3, xn_5, xn_7, xn_8, xo_53_15, xo_53_17, xo_53_19, xo_53_20, xo_53_21, xo_53_22, xo_53_3, xo_53_4, xo_53_5, xp_53_14, xp_53_16, xp_53_20, xp_53_22, xp_53_3, xr_dupi, xr_dupr, xr_goto, xr_iadd, xr_ic_ge, xr_ic_le, xr_ic_ne, xr_iconst, xr_if_eq, xr_if_ne, xr_imul, xr_iret, xr_isub, xs_57, xs_58, xs_64, xtl_n, xtl_s, xz_i, xz_l, xz_n, xz_r, wb_6_column_0, wb_6_column_2, wb_6_column_3, wb_6_column_4, wb_6_column_5, wb_6_column_7, wb_6_column_8, wb_6_column_11, wb_6_column_12, wb_6_column_13, wb_6_column_14, zz_b, zz_bn, Classical.not_not, true_and, Nat.reduceAdd, Nat.reduceLeDiff, e41, k0]
    exact ⟨fun _ => hQ a2 i2 hs hI k0 hF hU, fun z => absurd (by omega) z⟩
  · intro d hdm ih a2 i2 l1 l3 hs hI k0 hF hU
    have e41 : i2 41 = g + 1 := by rw [hI 41 (by decide)]; exact h41
    obtain ⟨m, hm⟩ := nat_of (show 0 ≤ GV b (cur b d) 1 by have := gvs d hdm; omega)
    have gd := gvs d hdm
    have se : smG b (d + 1) = smG b d + m := by rw [← hm]; rfl
    have top := mono (d + 1) (g + 1) (by omega) (Nat.le_refl _)
    have bot := mono 0 d (by omega) (by omega)
    rw [wb_6_column_9]
    simp (disch := first | assumption | omega | exact zc_lo | exact zc_hi | exact zz_l | exact zz_u | exact zz_r) only [xa_57, xa_58, xa_64, xc_1 gc_6_column_0, xc_1 gc_6_column_1, xc_2 gc_6_column_2, xc_3 gc_6_column_3, xl_aload0, xl_iinc2a, xl_iinc2i, xl_iinc2n, xl_iinc3a, xl_iinc3i, xl_iinc3n, xl_iload1, xl_iload2, xl_iload3, xl_istore1a, xl_istore1i, xl_istore1n, xl_istore2a, xl_istore2i, xl_istore2n, xl_istore3a, xl_istore3i, xl_istore3n, xm_f, xm_n, xm_t, xn_11, xn_13, xn_14, xn_2, xn_3, xn_5, xn_7, xn_8, xo_53_15, xo_53_17, xo_53_19, xo_53_20, xo_53_21, xo_53_22, xo_53_3, xo_53_4, xo_53_5, xp_53_14, xp_53_16, xp_53_20, xp_53_22, xp_53_3, xr_dupi, xr_dupr, xr_goto, xr_iadd, xr_ic_ge, xr_ic_le, xr_ic_ne, xr_iconst, xr_if_eq, xr_if_ne, xr_imul, xr_iret, xr_isub, xs_57, xs_58, xs_64, xtl_n, xtl_s, xz_i, xz_l, xz_n, xz_r, wb_6_column_0, wb_6_column_2, wb_6_column_3, wb_6_column_4, wb_6_column_5, wb_6_column_7, wb_6_column_8, wb_6_column_11, wb_6_column_12, wb_6_column_13, wb_6_column_14, zz_b, zz_bn, Classical.not_not, true_and, Nat.reduceAdd, Nat.reduceLeDiff, e41]
    refine ⟨fun z => absurd z (by omega), fun _ => ?_⟩
    refine lp_up (m := m) (P := fun e => ∀ a3 i3 l1, sA [57, 58] a a3 → sI [30] i i3 → i3 30 = R + (smG b d + e) → FI (mv a3) b (g + 1) R (smG b d + e) → Un (mv a3) (mv a) R → dk_WP g_6_column b_6_column Q 10 [some (.inr (.inr 53)), l1, some (.inl d), some (.inl e)] [] (HH n xs w a3 i3)) ?_ ?_ 0 (Nat.zero_le _) a2 i2 _ hs hI (by rw [k0]; omega) (by rw [show smG b d + ((0 : Nat) : Int) = smG b d by omega]; exact hF) hU
    · intro a3 i3 l1 hs3 hI3 f0 hF3 hU3
      have e64 : a3 64 (6 * (d : Int) + 1) = m := by rw [hs3 64 (by decide), ← hm]; exact (hv d (by omega)).2.1
      rw [wb_6_column_10]
      simp (disch := first | assumption | omega | exact zc_lo | exact zc_hi | exact zz_l | exact zz_u | exact zz_r) only [xa_57, xa_58, xa_64, xc_1 gc_6_column_0, xc_1 gc_6_column_1, xc_2 gc_6_column_2, xc_3 gc_6_column_3, xl_aload0, xl_iinc2a, xl_iinc2i, xl_iinc2n, xl_iinc3a, xl_iinc3i, xl_iinc3n, xl_iload1, xl_iload2, xl_iload3, xl_istore1a, xl_istore1i, xl_istore1n, xl_istore2a, xl_istore2i, xl_istore2n, xl_istore3a, xl_istore3i, xl_istore3n, xm_f, xm_n, xm_t, xn_11, xn_13, xn_14, xn_2, xn_3, xn_5, xn_7, xn_8, xo_53_15, xo_53_17, xo_53_19, xo_53_20, xo_53_21, xo_53_22, xo_53_3, xo_53_4, xo_53_5, xp_53_14, xp_53_16, xp_53_20, xp_53_22, xp_53_3, xr_dupi, xr_dupr, xr_goto, xr_iadd, xr_ic_ge, xr_ic_le, xr_ic_ne, xr_iconst, xr_if_eq, xr_if_ne, xr_imul, xr_iret, xr_isub, xs_57, xs_58, xs_64, xtl_n, xtl_s, xz_i, xz_l, xz_n, xz_r, wb_6_column_0, wb_6_column_2, wb_6_column_3, wb_6_column_4, wb_6_column_5, wb_6_column_7, wb_6_column_8, wb_6_column_11, wb_6_column_12, wb_6_column_13, wb_6_column_14, zz_b, zz_bn, Classical.not_not, true_and, Nat.reduceAdd, Nat.reduceLeDiff, e64]
      refine ⟨fun _ => ?_, fun z => absurd (by omega) z⟩
      rw [cs d]
      rw [← se] at f0 hF3
      exact ih a3 i3 _ _ hs3 hI3 f0 hF3 hU3
    · intro e hem ih2 a3 i3 l1 hs3 hI3 f0 hF3 hU3
      obtain ⟨v0, v1, v5, v2, v3, v4⟩ := hv d (by omega)
      rw [← hs3 64 (by decide)] at v0 v1 v2 v3 v4 v5
      rw [hm] at v1
      generalize hX : R + (smG b d + e) = X at f0
      have X0 : 0 ≤ X := by omega
      have X24 : X < 24 := by omega
      have fin : ∀ x l3, x = (if X = 0 then 0 else a3 57 (5 * (X - 1) + 1) + GV b (cur b d) 5) → dk_WP g_6_column b_6_column Q 12 [some (.inr (.inr 53)), none, some (.inl d), l3] [.inl x, .inl (5 * X + 1), .inr (.inr 57)] (HH n xs w (dk_up a3 57 (dk_ui (a3 57) (5 * X) (GV b (cur b d) 0))) i3) → True := fun _ _ _ _ => trivial
      have nxt : ∀ x, x = (if X = 0 then 0 else a3 57 (5 * (X - 1) + 1) + GV b (cur b d) 5) → ∀ l1, dk_WP g_6_column b_6_column Q 10 [some (.inr (.inr 53)), l1, some (.inl d), some (.inl ((e : Int) + 1))] [] (HH n xs w (dk_up (dk_up a3 57 (dk_ui (dk_ui (dk_ui (dk_ui (dk_ui (a3 57) (5 * X) (GV b (cur b d) 0)) (5 * X + 1) x) (5 * X + 2) (GV b (cur b d) 2)) (5 * X + 3) (GV b (cur b d) 3)) (5 * X + 4) (GV b (cur b d) 4))) 58 (dk_ui (a3 58) X 0)) (dk_up i3 30 (X + 1))) := by
        intro x hx l1
        generalize hA4 : dk_up (dk_up a3 57 (dk_ui (dk_ui (dk_ui (dk_ui (dk_ui (a3 57) (5 * X) (GV b (cur b d) 0)) (5 * X + 1) x) (5 * X + 2) (GV b (cur b d) 2)) (5 * X + 3) (GV b (cur b d) 3)) (5 * X + 4) (GV b (cur b d) 4))) 58 (dk_ui (a3 58) X 0) = a4
        have r57 : a4 57 = dk_ui (dk_ui (dk_ui (dk_ui (dk_ui (a3 57) (5 * X) (GV b (cur b d) 0)) (5 * X + 1) x) (5 * X + 2) (GV b (cur b d) 2)) (5 * X + 3) (GV b (cur b d) 3)) (5 * X + 4) (GV b (cur b d) 4) := by rw [← hA4, up_n (by decide), up_s]
        have r58 : a4 58 = dk_ui (a3 58) X 0 := by rw [← hA4, up_s]
        have hs4 : sA [57, 58] a3 a4 := by rw [← hA4]; exact sA_up (sA_up sA_rf (by decide) _) (by decide) _
        have hA : Add (mv a3) (mv a4) X (GV b (cur b d)) := by
          refine ⟨fun r z1 z2 => ⟨?_, ?_, ?_, ?_, ?_, ?_⟩, ?_, ?_, ?_, ?_, ?_, ?_⟩
          · show a4 57 (5 * r + 0) = a3 57 (5 * r + 0)
            rw [r57, ui_n (by omega), ui_n (by omega), ui_n (by omega), ui_n (by omega), ui_n (by omega)]
          · show a4 57 (5 * r + 1) = a3 57 (5 * r + 1)
            rw [r57, ui_n (by omega), ui_n (by omega), ui_n (by omega), ui_n (by omega), ui_n (by omega)]
          · show a4 57 (5 * r + 2) = a3 57 (5 * r + 2)
            rw [r57, ui_n (by omega), ui_n (by omega), ui_n (by omega), ui_n (by omega), ui_n (by omega)]
          · show a4 57 (5 * r + 3) = a3 57 (5 * r + 3)
            rw [r57, ui_n (by omega), ui_n (by omega), ui_n (by omega), ui_n (by omega), ui_n (by omega)]
          · show a4 57 (5 * r + 4) = a3 57 (5 * r + 4)
            rw [r57, ui_n (by omega), ui_n (by omega), ui_n (by omega), ui_n (by omega), ui_n (by omega)]
          · show a4 58 r = a3 58 r
            rw [r58, ui_n z2]
          · show a4 57 (5 * X + 0) = _
            rw [r57, Int.add_zero, ui_n (by omega), ui_n (by omega), ui_n (by omega), ui_n (by omega), ui_s]
          · show a4 57 (5 * X + 1) = _
            rw [r57, ui_n (by omega), ui_n (by omega), ui_n (by omega), ui_s]
            exact hx
          · show a4 57 (5 * X + 2) = _
            rw [r57, ui_n (by omega), ui_n (by omega), ui_s]
          · show a4 57 (5 * X + 3) = _
            rw [r57, ui_n (by omega), ui_s]
          · show a4 57 (5 * X + 4) = _
            rw [r57, ui_s]
          · show a4 58 X = 0
            rw [r58, ui_s]
        rw [← hX] at hA
        rw [cs e]
        refine ih2 a4 _ _ (sA_tr hs3 hs4) (sI_up hI3 (by decide) _) (by rw [up_s]; omega) ?_ (Un_s hU3 (by omega) hA)
        have q := FI_s (fun h hh => (gvs h hh).1) hR hF3 hdm (by omega) (by omega) hA
        rw [show smG b d + (e : Int) + 1 = smG b d + ((e + 1 : Nat) : Int) by omega] at q
        exact q
      have u64 : ∀ f, dk_up a3 57 f 64 = a3 64 := fun f => up_n (by decide)
      have u58 : ∀ f, dk_up a3 57 f 58 = a3 58 := fun f => up_n (by decide)
      by_cases z : X = 0
      · have q := nxt 0 (by rw [if_pos z])
        rw [wb_6_column_10]
        simp (disch := first | assumption | omega | exact zc_lo | exact zc_hi | exact zz_l | exact zz_u | exact zz_r) only [xa_57, xa_58, xa_64, xc_1 gc_6_column_0, xc_1 gc_6_column_1, xc_2 gc_6_column_2, xc_3 gc_6_column_3, xl_aload0, xl_iinc2a, xl_iinc2i, xl_iinc2n, xl_iinc3a, xl_iinc3i, xl_iinc3n, xl_iload1, xl_iload2, xl_iload3, xl_istore1a, xl_istore1i, xl_istore1n, xl_istore2a, xl_istore2i, xl_istore2n, xl_istore3a, xl_istore3i, xl_istore3n, xm_f, xm_n, xm_t, xn_11, xn_13, xn_14, xn_2, xn_3, xn_5, xn_7, xn_8, xo_53_15, xo_53_17, xo_53_19, xo_53_20, xo_53_21, xo_53_22, xo_53_3, xo_53_4, xo_53_5, xp_53_14, xp_53_16, xp_53_20, xp_53_22, xp_53_3, xr_dupi, xr_dupr, xr_goto, xr_iadd, xr_ic_ge, xr_ic_le, xr_ic_ne, xr_iconst, xr_if_eq, xr_if_ne, xr_imul, xr_iret, xr_isub, xs_57, xs_58, xs_64, xtl_n, xtl_s, xz_i, xz_l, xz_n, xz_r, wb_6_column_0, wb_6_column_2, wb_6_column_3, wb_6_column_4, wb_6_column_5, wb_6_column_7, wb_6_column_8, wb_6_column_11, wb_6_column_12, wb_6_column_13, wb_6_column_14, zz_b, zz_bn, Classical.not_not, true_and, Nat.reduceAdd, Nat.reduceLeDiff, v1]
        refine ⟨fun y => absurd y (by omega), fun _ => ?_⟩
        rw [z] at f0 q
        simp (disch := first | assumption | omega | exact zc_lo | exact zc_hi | exact zz_l | exact zz_u | exact zz_r) only [xa_57, xa_58, xa_64, xc_1 gc_6_column_0, xc_1 gc_6_column_1, xc_2 gc_6_column_2, xc_3 gc_6_column_3, xl_aload0, xl_iinc2a, xl_iinc2i, xl_iinc2n, xl_iinc3a, xl_iinc3i, xl_iinc3n, xl_iload1, xl_iload2, xl_iload3, xl_istore1a, xl_istore1i, xl_istore1n, xl_istore2a, xl_istore2i, xl_istore2n, xl_istore3a, xl_istore3i, xl_istore3n, xm_f, xm_n, xm_t, xn_11, xn_13, xn_14, xn_2, xn_3, xn_5, xn_7, xn_8, xo_53_15, xo_53_17, xo_53_19, xo_53_20, xo_53_21, xo_53_22, xo_53_3, xo_53_4, xo_53_5, xp_53_14, xp_53_16, xp_53_20, xp_53_22, xp_53_3, xr_dupi, xr_dupr, xr_goto, xr_iadd, xr_ic_ge, xr_ic_le, xr_ic_ne, xr_iconst, xr_if_eq, xr_if_ne, xr_imul, xr_iret, xr_isub, xs_57, xs_58, xs_64, xtl_n, xtl_s, xz_i, xz_l, xz_n, xz_r, wb_6_column_0, wb_6_column_2, wb_6_column_3, wb_6_column_4, wb_6_column_5, wb_6_column_7, wb_6_column_8, wb_6_column_11, wb_6_column_12, wb_6_column_13, wb_6_column_14, zz_b, zz_bn, Classical.not_not, true_and, Nat.reduceAdd, Nat.reduceLeDiff, f0, v0, v2, v3, v4, u64, u58, up_up, up_s, eq_self, true_implies, false_implies, implies_true, not_true_eq_false, not_false_eq_true, and_true, false_and, and_false, if_true, if_false, Int.reduceEq, Int.reduceSub, Int.reduceAdd, Int.reduceMul, Int.reduceNeg, Int.reduceLT, Int.reduceLE, Int.add_zero]
        exact q _
      · have q := nxt _ (by rw [if_neg z])
        have hi : ∀ y, dk_ui (a3 57) (5 * X) y (5 * (X - 1) + 1) = a3 57 (5 * (X - 1) + 1) := fun y => ui_n (by omega)
        rw [wb_6_column_10]
        simp (disch := first | assumption | omega | exact zc_lo | exact zc_hi | exact zz_l | exact zz_u | exact zz_r) only [xa_57, xa_58, xa_64, xc_1 gc_6_column_0, xc_1 gc_6_column_1, xc_2 gc_6_column_2, xc_3 gc_6_column_3, xl_aload0, xl_iinc2a, xl_iinc2i, xl_iinc2n, xl_iinc3a, xl_iinc3i, xl_iinc3n, xl_iload1, xl_iload2, xl_iload3, xl_istore1a, xl_istore1i, xl_istore1n, xl_istore2a, xl_istore2i, xl_istore2n, xl_istore3a, xl_istore3i, xl_istore3n, xm_f, xm_n, xm_t, xn_11, xn_13, xn_14, xn_2, xn_3, xn_5, xn_7, xn_8, xo_53_15, xo_53_17, xo_53_19, xo_53_20, xo_53_21, xo_53_22, xo_53_3, xo_53_4, xo_53_5, xp_53_14, xp_53_16, xp_53_20, xp_53_22, xp_53_3, xr_dupi, xr_dupr, xr_goto, xr_iadd, xr_ic_ge, xr_ic_le, xr_ic_ne, xr_iconst, xr_if_eq, xr_if_ne, xr_imul, xr_iret, xr_isub, xs_57, xs_58, xs_64, xtl_n, xtl_s, xz_i, xz_l, xz_n, xz_r, wb_6_column_0, wb_6_column_2, wb_6_column_3, wb_6_column_4, wb_6_column_5, wb_6_column_7, wb_6_column_8, wb_6_column_11, wb_6_column_12, wb_6_column_13, wb_6_column_14, zz_b, zz_bn, Classical.not_not, true_and, Nat.reduceAdd, Nat.reduceLeDiff, v1]
        refine ⟨fun y => absurd y (by omega), fun _ => ?_⟩
        simp (disch := first | assumption | omega | exact zc_lo | exact zc_hi | exact zz_l | exact zz_u | exact zz_r) only [xa_57, xa_58, xa_64, xc_1 gc_6_column_0, xc_1 gc_6_column_1, xc_2 gc_6_column_2, xc_3 gc_6_column_3, xl_aload0, xl_iinc2a, xl_iinc2i, xl_iinc2n, xl_iinc3a, xl_iinc3i, xl_iinc3n, xl_iload1, xl_iload2, xl_iload3, xl_istore1a, xl_istore1i, xl_istore1n, xl_istore2a, xl_istore2i, xl_istore2n, xl_istore3a, xl_istore3i, xl_istore3n, xm_f, xm_n, xm_t, xn_11, xn_13, xn_14, xn_2, xn_3, xn_5, xn_7, xn_8, xo_53_15, xo_53_17, xo_53_19, xo_53_20, xo_53_21, xo_53_22, xo_53_3, xo_53_4, xo_53_5, xp_53_14, xp_53_16, xp_53_20, xp_53_22, xp_53_3, xr_dupi, xr_dupr, xr_goto, xr_iadd, xr_ic_ge, xr_ic_le, xr_ic_ne, xr_iconst, xr_if_eq, xr_if_ne, xr_imul, xr_iret, xr_isub, xs_57, xs_58, xs_64, xtl_n, xtl_s, xz_i, xz_l, xz_n, xz_r, wb_6_column_0, wb_6_column_2, wb_6_column_3, wb_6_column_4, wb_6_column_5, wb_6_column_7, wb_6_column_8, wb_6_column_11, wb_6_column_12, wb_6_column_13, wb_6_column_14, zz_b, zz_bn, Classical.not_not, true_and, Nat.reduceAdd, Nat.reduceLeDiff, f0, v0, v2, v3, v4, v5, z, u64, u58, up_up, up_s, sp_6_its, hi, true_implies, false_implies, implies_true, not_true_eq_false, not_false_eq_true, and_true, false_and, and_false, if_true, if_false, Int.reduceEq, Int.reduceSub, Int.reduceAdd, Int.reduceMul, Int.reduceNeg, Int.reduceLT, Int.reduceLE, Int.add_zero]
        exact q _
end FL1
