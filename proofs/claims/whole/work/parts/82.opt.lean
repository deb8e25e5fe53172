/-! CALLS OF BOTH: where drums had best stand -/
/-- the least of the first ones, and its name -/
def inF (f b : Nat → Int) (s : Int × Int) : Nat → Int × Int
  | 0 => s
  | r + 1 => if f r < (inF f b s r).1 then (f r, b r) else inF f b s r
theorem inF_p {f b : Nat → Int} {s : Int × Int} {r : Nat} (h : f r < (inF f b s r).1) : inF f b s (r + 1) = (f r, b r) := by rw [inF, if_pos h]
theorem inF_n {f b : Nat → Int} {s : Int × Int} {r : Nat} (h : ¬ f r < (inF f b s r).1) : inF f b s (r + 1) = inF f b s r := by rw [inF, if_neg h]
def outF (f : Nat → Nat → Int) (m : Nat) : Nat → Int × Int
  | 0 => (2000, 0)
  | A + 1 => inF (f A) (fun B => 100 * (A : Int) + B) (outF f m A) m
/-- the reference's way to keep the least -/
def rlF (s : Int × Int) (fe be : Int) : Prop := be = s.2 ∧ ((fe = -1 ∧ s.1 = 2000) ∨ (fe = s.1 ∧ 0 ≤ s.1 ∧ s.1 ≤ 1000))
def okF (s : Int × Int) : Prop := (0 ≤ s.1 ∧ s.1 ≤ 2000) ∧ (0 ≤ s.2 ∧ s.2 ≤ 10000)
theorem inF_ok {f b : Nat → Int} {s : Int × Int} {m : Nat} (hs : okF s) (hf : ∀ r, r < m → 0 ≤ f r ∧ f r ≤ 1000) (hb : ∀ r, r < m → 0 ≤ b r ∧ b r ≤ 10000) : ∀ d, d ≤ m → okF (inF f b s d)
  | 0, _ => hs
  | d + 1, hd => by
    have q := inF_ok hs hf hb d (by omega)
    have q1 := hf d (by omega)
    have q2 := hb d (by omega)
    by_cases z : f d < (inF f b s d).1
    · rw [inF_p z]; exact ⟨⟨q1.1, by simp only; omega⟩, q2⟩
    · rw [inF_n z]; exact q
theorem outF_ok {f : Nat → Nat → Int} {m : Nat} (hm : m ≤ 24) (hf : ∀ A B, A < m → B < m → 0 ≤ f A B ∧ f A B ≤ 1000) : ∀ d, d ≤ m → okF (outF f m d)
  | 0, _ => by unfold okF outF; simp only; omega
  | d + 1, hd => inF_ok (outF_ok hm hf d (by omega)) (fun r hr => hf d r (by omega) hr) (fun r hr => by omega) m (Nat.le_refl m)
def spq (a : Nat → Int → Int) (i : Nat → Int) (a2 : Nat → Int → Int) (i2 : Nat → Int) : Prop := i2 24 = a 2 0 ∧ ∀ r, 0 ≤ r → r < i 0 → spR a i a2 r
section OT1
variable {N : Int} {n : Nat} {xs : Int → Int} {w : Nat → Nat} {a : Nat → Int → Int} {i : Nat → Int} {Q : dk_Q} {p q : Int → Int} {w2 : Nat → Nat} {a2 : Nat → Int → Int} {i2 : Nat → Int} {t : Nat} {r : Int} {c c2 : Nat → Int → Int} {g G : Int → Int}
theorem nrF_9 (h2 : c2 2 = c 2) (h4 : c2 4 = c 4) : ∀ j : Nat, nrF c2 r j = nrF c r j
  | 0 => rfl
  | j + 1 => by unfold nrF neB; rw [h2, h4, nrF_9 h2 h4 j]
theorem spq_9 (h : spq a i a2 i2) : spq (dk_up a 9 g) i a2 i2 := by
  have u2 : dk_up a 9 g 2 = a 2 := up_n (by decide)
  have u3 : dk_up a 9 g 3 = a 3 := up_n (by decide)
  have u4 : dk_up a 9 g 4 = a 4 := up_n (by decide)
  have u12 : dk_up a 9 g 12 = a 12 := up_n (by decide)
  refine ⟨by rw [u2]; exact h.1, fun r h0 h1 => ?_⟩
  obtain ⟨e1, e2⟩ := h.2 r h0 h1
  have eb : bnF (dk_up a 9 g) i r = bnF a i r := by unfold bnF; rw [u4, u12]
  refine ⟨by rw [eb]; exact e1, fun z => ?_⟩
  rw [u3] at z
  obtain ⟨e3, e4⟩ := e2 z
  refine ⟨by rw [nrF_9 u2 u4]; exact e3, fun o z1 z2 => ?_⟩
  have en : neB (dk_up a 9 g) r o = neB a r o := by unfold neB; rw [u2, u4]
  rw [en, u2, u4]
  exact e4 o z1 z2
theorem spq_0 (h : spq (dk_up a 9 g) i a2 i2) : spq a i a2 i2 := by
  have q := spq_9 (g := a 9) h
  rw [up_up, up_id] at q
  exact q
theorem spq_s {b : Nat → Int → Int} (h1 : b 41 = a2 41) (h2 : b 42 = a2 42) (h3 : b 43 = a2 43) (h : spq a i a2 i2) : spq a i b i2 := by
  unfold spq spR at h ⊢
  rw [h1, h2, h3]
  exact h
theorem Fr_k {k : Nat} (k1 : ¬ k = 52) (k2 : ¬ k = 62) (h : Fr (dk_up a k g) i p q w2 a2 i2) : Fr (dk_up a k G) i p q w2 (dk_up a2 k G) i2 := by
  obtain ⟨h1, h2, h3, h4, h5, h6⟩ := h
  refine ⟨h1, h2, fun j hj => ?_, h4, by rw [up_n (fun z => k1 z.symm)]; exact h5, by rw [up_n (fun z => k2 z.symm)]; exact h6⟩
  by_cases e : j = k
  · subst e; rw [up_s, up_s]
  · have := h3 j hj
    rw [up_n e] at this ⊢
    rw [up_n e]
    exact this
theorem colN_9 (hc : colN a i) (hG : ∀ d, 0 ≤ d → d < i 1 → 0 ≤ G d ∧ G d ≤ 4999) : colN (dk_up a 9 G) i := by
  obtain ⟨⟨p1, p2⟩, ⟨s1, s2⟩, ⟨v1, v2⟩, ⟨n1, n2⟩, ⟨o1, o2⟩, ⟨d1, d2⟩, ⟨e1, e2⟩, ⟨k1, k2⟩, hr, ⟨m1, m2⟩, hd, ⟨b1, b2⟩, hb, hs, hz⟩ := id hc
  exact ⟨⟨p1, p2⟩, ⟨s1, s2⟩, ⟨v1, v2⟩, ⟨n1, n2⟩, ⟨o1, o2⟩, ⟨d1, d2⟩, ⟨e1, e2⟩, ⟨k1, k2⟩, hr, ⟨m1, m2⟩, fun d z1 z2 => ⟨hG d z1 z2, (hd d z1 z2).2⟩, ⟨b1, b2⟩, hb, hs, hz⟩
theorem sp_wwd (hc : colN c i) (hF : Fr c i p q w2 a2 i2) (hS : spq c i a2 i2) {M : Nat} (hM : M ≤ 200) : (∀ w3 a3, Fr c i p q w3 a3 i2 → spq c i a3 i2 → Q (some (.inl (wo c i M))) (HH n xs w3 a3 i2)) → s_5_worstWithDrumsSo [.inr (.inr 0), .inl M] (HH n xs w2 a2 i2) Q := by
  intro hQ
  have hk := k24 hc
  have K0 := Fr_kE hF 0 (by omega)
  simp (disch := first | assumption | omega | exact zc_lo | exact zc_hi | exact zz_l | exact zz_u | exact zz_r) only [xc_1 gc_5_worstWithDrumsSo_0, xc_1 gc_5_worstWithDrumsSo_1, xc_2 gc_5_worstWithDrumsSo_2, xc_2 gc_5_worstWithDrumsSo_3, xl_aload0, xl_iload1, xm_f, xm_n, xm_t, xo_0_0, xo_0_5, xo_0_6, xo_44_2, xo_47_2, xr_iret, xtl_n, xtl_s, xz_i, xz_l, xz_n, xz_r, wb_5_worstWithDrumsSo_0, ss_5_worstWithDrumsSo, zz_b, zz_bn, Classical.not_not, true_and, Nat.reduceAdd, Nat.reduceLeDiff]
  refine sp_1_listen (colN_E (Fr_cE hF) (Fr_kE hF) hc) (fun a3 hs3 hb3 => ?_)
  simp (disch := first | assumption | omega | exact zc_lo | exact zc_hi | exact zz_l | exact zz_u | exact zz_r) only [xc_1 gc_5_worstWithDrumsSo_0, xc_1 gc_5_worstWithDrumsSo_1, xc_2 gc_5_worstWithDrumsSo_2, xc_2 gc_5_worstWithDrumsSo_3, xl_aload0, xl_iload1, xm_f, xm_n, xm_t, xo_0_0, xo_0_5, xo_0_6, xo_44_2, xo_47_2, xr_iret, xtl_n, xtl_s, xz_i, xz_l, xz_n, xz_r, wb_5_worstWithDrumsSo_0, zz_b, zz_bn, Classical.not_not, true_and, Nat.reduceAdd, Nat.reduceLeDiff]
  refine sp_4_start_44 hF.1 (fun f hf => ?_)
  simp (disch := first | assumption | omega | exact zc_lo | exact zc_hi | exact zz_l | exact zz_u | exact zz_r) only [xc_1 gc_5_worstWithDrumsSo_0, xc_1 gc_5_worstWithDrumsSo_1, xc_2 gc_5_worstWithDrumsSo_2, xc_2 gc_5_worstWithDrumsSo_3, xl_aload0, xl_iload1, xm_f, xm_n, xm_t, xo_0_0, xo_0_5, xo_0_6, xo_44_2, xo_47_2, xr_iret, xtl_n, xtl_s, xz_i, xz_l, xz_n, xz_r, wb_5_worstWithDrumsSo_0, zz_b, zz_bn, Classical.not_not, true_and, Nat.reduceAdd, Nat.reduceLeDiff]
  have hin : w2 0 ∈ [45, 46] := by rcases hF.1 with ⟨h1, h2⟩ | ⟨h1, h2⟩ <;> rw [h1] <;> simp
  have hbig : 45 ≤ w2 0 := by rcases hF.1 with ⟨h1, h2⟩ | ⟨h1, h2⟩ <;> omega
  have hs4 : sA [45, 46] a3 (dk_up a3 (w2 0) f) := sA_up sA_rf hin _
  have hF3 := Fr_sA hF hs3 (by decide)
  have hF4 := Fr_sA hF3 hs4 (by decide)
  have hS4 : spq c i (dk_up a3 (w2 0) f) i2 := spq_s (by rw [hs4 _ (by decide), hs3 _ (by decide)]) (by rw [hs4 _ (by decide), hs3 _ (by decide)]) (by rw [hs4 _ (by decide), hs3 _ (by decide)]) hS
  have hSP : SP c i (dk_up a3 (w2 0) f) i2 := ⟨hS4.1, fun r z1 z2 => ⟨by rw [hs4 40 (by decide), hb3 r z1 (by rw [K0]; exact z2), beF_E (Fr_cE hF) (Fr_kE hF)], hS4.2 r z1 z2⟩⟩
  have hW : Wk c i p q 0 w2 (dk_up a3 (w2 0) f) i2 := by
    refine ⟨hF4, SP_E (Fr_cE hF4) (Fr_kE hF4) hSP, fun r z1 z2 => ?_⟩
    rw [up_s, hf r z1 (by omega), Fr_cE hF3 8 (by omega) (by omega)]
    rfl
  refine sp_wlk hc hW hM (fun w5 a5 hW5 hs5 _ => ?_)
  simp (disch := first | assumption | omega | exact zc_lo | exact zc_hi | exact zz_l | exact zz_u | exact zz_r) only [xc_1 gc_5_worstWithDrumsSo_0, xc_1 gc_5_worstWithDrumsSo_1, xc_2 gc_5_worstWithDrumsSo_2, xc_2 gc_5_worstWithDrumsSo_3, xl_aload0, xl_iload1, xm_f, xm_n, xm_t, xo_0_0, xo_0_5, xo_0_6, xo_44_2, xo_47_2, xr_iret, xtl_n, xtl_s, xz_i, xz_l, xz_n, xz_r, wb_5_worstWithDrumsSo_0, zz_b, zz_bn, Classical.not_not, true_and, Nat.reduceAdd, Nat.reduceLeDiff]
  refine sp_wst hc hW5 ?_
  simp (disch := first | assumption | omega | exact zc_lo | exact zc_hi | exact zz_l | exact zz_u | exact zz_r) only [xc_1 gc_5_worstWithDrumsSo_0, xc_1 gc_5_worstWithDrumsSo_1, xc_2 gc_5_worstWithDrumsSo_2, xc_2 gc_5_worstWithDrumsSo_3, xl_aload0, xl_iload1, xm_f, xm_n, xm_t, xo_0_0, xo_0_5, xo_0_6, xo_44_2, xo_47_2, xr_iret, xtl_n, xtl_s, xz_i, xz_l, xz_n, xz_r, wb_5_worstWithDrumsSo_0, zz_b, zz_bn, Classical.not_not, true_and, Nat.reduceAdd, Nat.reduceLeDiff]
  exact hQ w5 a5 hW5.1 (spq_s (hs5 _ (by decide)) (hs5 _ (by decide)) (hs5 _ (by decide)) hS4)
theorem sp_mwbD (hc : colN c i) (hag : agr c i (mv a2) (mi i2)) {M : Nat} (hM : M ≤ 202) : (∀ a3, sA [65, 66] a2 a3 → Q (some (.inl (wo c i M))) (HH n xs w2 a3 i2)) → s_6_worstBehind [.inr (.inr 53), .inl M] (HH n xs w2 a2 i2) Q := by
  intro hQ
  have hk := k24 hc
  refine sp_6_worstBehind (colN_A hag hc) hM (fun a3 hs3 _ => ?_)
  have e : woF (maF (mv a2) (mi i2) (a2 58) M) (i2 30).toNat = wo c i M := by
    have e0 : i2 30 = i 0 := hag.1 0 (by omega)
    rw [e0]
    exact woF_o _ (fun r z1 z2 => maF_A hag hc (fun r z1 z2 => (hag.2.2.1 r z1 z2).2.2.2.2.2) M r z1 (by omega))
  rw [e]
  exact hQ a3 hs3
theorem agr_9 (hag : agr a i (mv a) (mi i)) (hF : Fr (dk_up a 59 g) i p q w2 a2 i2) (hG : ∀ d, 0 ≤ d → d < i 1 → g (3 * d) = G d ∧ g (3 * d + 1) = a 59 (3 * d + 1) ∧ g (3 * d + 2) = a 59 (3 * d + 2)) : agr (dk_up a 9 G) i (mv a2) (mi i2) := by
  obtain ⟨h1, h2, h3, h4, h5, h6⟩ := hag
  rw [Fr_mv hF]
  refine ⟨fun j hj => by rw [Fr_mi hF j hj]; exact h1 j hj, h2, h3, fun d z1 z2 => ?_, h5, h6⟩
  obtain ⟨q1, q2, q3⟩ := hG d z1 z2
  obtain ⟨-, g2, g3⟩ := h4 d z1 z2
  exact ⟨q1, q2.trans g2, q3.trans g3⟩
/-- the place of a drum, told anew -/
def plF (a : Nat → Int → Int) (i : Nat → Int) (x : Int) (M : Nat) (r : Nat) : Int := wo (dk_up a 9 (dk_ui (a 9) x (a 4 r))) i M
theorem colN_p (hc : colN a i) {x : Int} {r : Int} (h0 : 0 ≤ r) (h1 : r < i 0) : colN (dk_up a 9 (dk_ui (a 9) x (a 4 r))) i := by
  have hcc := hc
  obtain ⟨⟨p1, p2⟩, ⟨s1, s2⟩, ⟨v1, v2⟩, ⟨n1, n2⟩, ⟨o1, o2⟩, ⟨d1, d2⟩, ⟨e1, e2⟩, ⟨k1, k2⟩, hr, ⟨m1, m2⟩, hd, ⟨b1, b2⟩, hb, hs, hz⟩ := id hc
  obtain ⟨-, ⟨r1, r2⟩, -⟩ := hr r h0 h1
  refine colN_9 hcc (fun d z1 z2 => ?_)
  by_cases e : d = x
  · subst e; rw [ui_s]; omega
  · rw [ui_n e]; exact (hd d z1 z2).1
theorem plF_b (hc : colN a i) {x : Int} {M r : Nat} (h1 : (r : Int) < i 0) : 0 ≤ plF a i x M r ∧ plF a i x M r ≤ 1000 := wo_b (colN_p hc (by omega) h1) M
theorem ui_ui {f : Int → Int} {k x y : Int} : dk_ui (dk_ui f k x) k y = dk_ui f k y := by
  funext j
  by_cases e : j = k
  · subst e; rw [ui_s, ui_s]
  · rw [ui_n e, ui_n e, ui_n e]
theorem ui_eq {f h : Int → Int} {k x : Int} (hg : ∀ j, ¬ j = k → f j = h j) : dk_ui f k x = dk_ui h k x := by
  funext j
  by_cases e : j = k
  · subst e; rw [ui_s, ui_s]
  · rw [ui_n e, ui_n e]; exact hg j e
theorem ui_id {f : Int → Int} {k : Int} : dk_ui f k (f k) = f := by
  funext j
  by_cases e : j = k
  · subst e; rw [ui_s]
  · rw [ui_n e]
theorem cl_place (h : Inv N w a i) {x : Int} {M m : Nat} (c1 : 0 ≤ x ∧ x < i 1) (hM : M ≤ 50) (hn : ¬ i 0 = 0) (hm : i 0 = m) : (∀ w3 a3 i3, Fr a i (a 52) (a 62) w3 a3 i3 → Q (some (.inl (inF (plF a i x M) (fun r => r) (2000, 0) m).2)) (HH n xs w3 a3 i3)) → s_5_place [.inr (.inr 0), .inl x, .inl M] (HH n xs w a i) Q := by
  intro hQ
  have hF0 := Fr_rf h
  have t0 := hh_moV.1
  have hc := h.2.1
  have hag := h.2.2.1
  have hmc := colN_A hag hc
  obtain ⟨⟨p1, p2⟩, ⟨s1, s2⟩, ⟨v1, v2⟩, ⟨n1, n2⟩, ⟨o1, o2⟩, ⟨d1, d2⟩, ⟨e1, e2⟩, ⟨k1, k2⟩, hr, ⟨m1, m2⟩, hd, ⟨b1, b2⟩, hb, hs, hz⟩ := id hc
  obtain ⟨hkE, hA2, hA3, hA4, hA5, hA6⟩ := id hag
  have K0 : i 30 = i 0 := hkE 0 (by omega)
  have K1 : i 31 = i 1 := hkE 1 (by omega)
  have K2 : i 32 = i 2 := hkE 2 (by omega)
  have K3 : i 33 = i 3 := hkE 3 (by omega)
  have R0 : a 54 0 = a 2 0 := hA2 0 (by omega) (by omega)
  have R1 : a 54 1 = a 2 1 := hA2 1 (by omega) (by omega)
  have R2 : a 54 2 = a 2 2 := hA2 2 (by omega) (by omega)
  have R3 : a 54 3 = a 2 3 := hA2 3 (by omega) (by omega)
  have R4 : a 54 4 = a 2 4 := hA2 4 (by omega) (by omega)
  have R5 : a 54 5 = a 2 5 := hA2 5 (by omega) (by omega)
  have R6 : a 54 6 = a 2 6 := hA2 6 (by omega) (by omega)
  have c2 : (0 : Int) ≤ M ∧ (M : Int) ≤ 50 := by omega
  have x0 := c1.1
  have x6 : x < 6 := by omega
  simp (disch := first | assumption | omega | exact zc_lo | exact zc_hi | exact zz_l | exact zz_u | exact zz_r) only [xa_102, xa_4, xa_9, xc_1 gc_5_place_3, xc_2 gc_5_place_0, xc_2 gc_5_place_2, xc_2 gc_5_place_4, xc_3 gc_5_place_1, xl_aload0, xl_iinc6a, xl_iinc6i, xl_iinc6n, xl_iload1, xl_iload2, xl_iload3, xl_iload4, xl_iload5, xl_iload6, xl_iload7, xl_istore3a, xl_istore3i, xl_istore3n, xl_istore4a, xl_istore4i, xl_istore4n, xl_istore5a, xl_istore5i, xl_istore5n, xl_istore6a, xl_istore6i, xl_istore6n, xl_istore7a, xl_istore7i, xl_istore7n, xm_f, xm_n, xm_t, xn_1, xn_2, xn_3, xn_5, xn_6, xo_0_0, xo_0_5, xo_1_1, xo_1_3, xo_1_9, xr_goto, xr_ic_ge, xr_iconst, xr_if_eq, xr_if_ne, xr_iret, xr_ref, xs_4, xs_9, xtl_n, xtl_s, xz_i, xz_l, xz_n, xz_r, wb_5_place_0, wb_5_place_1, wb_5_place_2, wb_5_place_3, wb_5_place_5, wb_5_place_6, ss_5_place, zz_b, zz_bn, Classical.not_not, true_and, Nat.reduceAdd, Nat.reduceLeDiff, sp_0_hasDrum, sp_5_isWithin, c1, c2, hn, true_implies, false_implies, implies_true, not_true_eq_false, not_false_eq_true, and_true, false_and, and_false, if_true, if_false, Int.reduceEq, Int.reduceSub, Int.reduceAdd, Int.reduceMul, Int.reduceNeg, Int.reduceLT, Int.reduceLE, Int.add_zero]
  refine sp_1_prepare hc (fun a3 hs3 hSP => ?_)
  simp (disch := first | assumption | omega | exact zc_lo | exact zc_hi | exact zz_l | exact zz_u | exact zz_r) only [xa_102, xa_4, xa_9, xc_1 gc_5_place_3, xc_2 gc_5_place_0, xc_2 gc_5_place_2, xc_2 gc_5_place_4, xc_3 gc_5_place_1, xl_aload0, xl_iinc6a, xl_iinc6i, xl_iinc6n, xl_iload1, xl_iload2, xl_iload3, xl_iload4, xl_iload5, xl_iload6, xl_iload7, xl_istore3a, xl_istore3i, xl_istore3n, xl_istore4a, xl_istore4i, xl_istore4n, xl_istore5a, xl_istore5i, xl_istore5n, xl_istore6a, xl_istore6i, xl_istore6n, xl_istore7a, xl_istore7i, xl_istore7n, xm_f, xm_n, xm_t, xn_1, xn_2, xn_3, xn_5, xn_6, xo_0_0, xo_0_5, xo_1_1, xo_1_3, xo_1_9, xr_goto, xr_ic_ge, xr_iconst, xr_if_eq, xr_if_ne, xr_iret, xr_ref, xs_4, xs_9, xtl_n, xtl_s, xz_i, xz_l, xz_n, xz_r, wb_5_place_0, wb_5_place_1, wb_5_place_2, wb_5_place_3, wb_5_place_5, wb_5_place_6, zz_b, zz_bn, Classical.not_not, true_and, Nat.reduceAdd, Nat.reduceLeDiff, t0, true_implies, false_implies, implies_true, not_true_eq_false, not_false_eq_true, and_true, false_and, and_false, if_true, if_false, Int.reduceEq, Int.reduceSub, Int.reduceAdd, Int.reduceMul, Int.reduceNeg, Int.reduceLT, Int.reduceLE, Int.add_zero]
  have hF3 : Fr a i (a 52) (a 62) w a3 (dk_up i 24 (a 2 0)) := Fr_i (Fr_sA hF0 hs3 (by decide)) (sI_up (js := [24]) sI_rf (by simp) _) (by decide)
  have hS3 : spq a i a3 (dk_up i 24 (a 2 0)) := ⟨hSP.1, fun r z1 z2 => (hSP.2 r z1 z2).2⟩
  generalize dk_up i 24 (a 2 0) = i3 at hF3 hS3
  have key : ∀ d, d ≤ m → ∀ (w4 : Nat → Nat) (a4 : Nat → Int → Int) (g : Int → Int) (l7 : Option dk_V), (∀ j, ¬ j = x → g j = a 9 j) → Fr (dk_up a 9 g) i (a 52) (a 62) w4 a4 i3 → spq a i a4 i3 → dk_WP g_5_place b_5_place Q 4 [some (.inr (.inr 0)), some (.inl x), some (.inl M), some (.inl (a 9 x)), some (.inl (inF (plF a i x M) (fun r => r) (2000, 0) d).2), some (.inl (inF (plF a i x M) (fun r => r) (2000, 0) d).1), some (.inl d), l7] [] (HH n xs w4 a4 i3) := by
    refine lp_up ?_ ?_
    · intro w4 a4 g l7 hg hF4 hS4
      have K0 : i3 0 = i 0 := Fr_kE hF4 0 (by omega)
      have E9 : a4 9 = g := by rw [hF4.2.2.1 9 (by decide), up_s]
      rw [wb_5_place_4]
      simp (disch := first | assumption | omega | exact zc_lo | exact zc_hi | exact zz_l | exact zz_u | exact zz_r) only [xa_102, xa_4, xa_9, xc_1 gc_5_place_3, xc_2 gc_5_place_0, xc_2 gc_5_place_2, xc_2 gc_5_place_4, xc_3 gc_5_place_1, xl_aload0, xl_iinc6a, xl_iinc6i, xl_iinc6n, xl_iload1, xl_iload2, xl_iload3, xl_iload4, xl_iload5, xl_iload6, xl_iload7, xl_istore3a, xl_istore3i, xl_istore3n, xl_istore4a, xl_istore4i, xl_istore4n, xl_istore5a, xl_istore5i, xl_istore5n, xl_istore6a, xl_istore6i, xl_istore6n, xl_istore7a, xl_istore7i, xl_istore7n, xm_f, xm_n, xm_t, xn_1, xn_2, xn_3, xn_5, xn_6, xo_0_0, xo_0_5, xo_1_1, xo_1_3, xo_1_9, xr_goto, xr_ic_ge, xr_iconst, xr_if_eq, xr_if_ne, xr_iret, xr_ref, xs_4, xs_9, xtl_n, xtl_s, xz_i, xz_l, xz_n, xz_r, wb_5_place_0, wb_5_place_1, wb_5_place_2, wb_5_place_3, wb_5_place_5, wb_5_place_6, zz_b, zz_bn, Classical.not_not, true_and, Nat.reduceAdd, Nat.reduceLeDiff, K0, E9]
      refine ⟨fun _ => ?_, fun z => absurd (by omega) z⟩
      have hF5 := Fr_k (G := dk_ui g x (a 9 x)) (by decide) (by decide) hF4
      rw [ui_eq hg, ui_id, up_id] at hF5
      rw [ui_eq hg, ui_id]
      exact hQ _ _ _ hF5
    · intro d hdm ih w4 a4 g l7 hg hF4 hS4
      have K0 : i3 0 = i 0 := Fr_kE hF4 0 (by omega)
      have E9 : a4 9 = g := by rw [hF4.2.2.1 9 (by decide), up_s]
      have E4 : a4 4 = a 4 := by rw [hF4.2.2.1 4 (by decide), up_n (by decide)]
      have pb := plF_b hc (x := x) (M := M) (r := d) (by omega)
      have ob := inF_ok (f := plF a i x M) (b := fun r => (r : Int)) (s := (2000, 0)) (m := m) (by unfold okF; simp only; omega) (fun r hr => plF_b hc (by omega)) (fun r hr => by omega) d (by omega)
      obtain ⟨⟨ob1, ob2⟩, ob3, ob4⟩ := ob
      rw [wb_5_place_4]
      simp (disch := first | assumption | omega | exact zc_lo | exact zc_hi | exact zz_l | exact zz_u | exact zz_r) only [xa_102, xa_4, xa_9, xc_1 gc_5_place_3, xc_2 gc_5_place_0, xc_2 gc_5_place_2, xc_2 gc_5_place_4, xc_3 gc_5_place_1, xl_aload0, xl_iinc6a, xl_iinc6i, xl_iinc6n, xl_iload1, xl_iload2, xl_iload3, xl_iload4, xl_iload5, xl_iload6, xl_iload7, xl_istore3a, xl_istore3i, xl_istore3n, xl_istore4a, xl_istore4i, xl_istore4n, xl_istore5a, xl_istore5i, xl_istore5n, xl_istore6a, xl_istore6i, xl_istore6n, xl_istore7a, xl_istore7i, xl_istore7n, xm_f, xm_n, xm_t, xn_1, xn_2, xn_3, xn_5, xn_6, xo_0_0, xo_0_5, xo_1_1, xo_1_3, xo_1_9, xr_goto, xr_ic_ge, xr_iconst, xr_if_eq, xr_if_ne, xr_iret, xr_ref, xs_4, xs_9, xtl_n, xtl_s, xz_i, xz_l, xz_n, xz_r, wb_5_place_0, wb_5_place_1, wb_5_place_2, wb_5_place_3, wb_5_place_5, wb_5_place_6, zz_b, zz_bn, Classical.not_not, true_and, Nat.reduceAdd, Nat.reduceLeDiff, K0, E9, E4]
      refine ⟨fun z => absurd z (by omega), fun _ => ?_⟩
      have hF5 := Fr_k (G := dk_ui (a 9) x (a 4 d)) (by decide) (by decide) hF4
      rw [ui_eq hg]
      refine sp_wwd (colN_p hc (by omega) (by omega)) hF5 (spq_9 (spq_s (up_n (by decide)) (up_n (by decide)) (up_n (by decide)) hS4)) (by omega) (fun w6 a6 hF6 hS6 => ?_)
      have ih2 := fun l7 => ih w6 a6 _ l7 (fun j hj => ui_n hj) hF6 (spq_0 hS6)
      rw [show wo (dk_up a 9 (dk_ui (a 9) x (a 4 d))) i M = plF a i x M d from rfl]
      simp (disch := first | assumption | omega | exact zc_lo | exact zc_hi | exact zz_l | exact zz_u | exact zz_r) only [xa_102, xa_4, xa_9, xc_1 gc_5_place_3, xc_2 gc_5_place_0, xc_2 gc_5_place_2, xc_2 gc_5_place_4, xc_3 gc_5_place_1, xl_aload0, xl_iinc6a, xl_iinc6i, xl_iinc6n, xl_iload1, xl_iload2, xl_iload3, xl_iload4, xl_iload5, xl_iload6, xl_iload7, xl_istore3a, xl_istore3i, xl_istore3n, xl_istore4a, xl_istore4i, xl_istore4n, xl_istore5a, xl_istore5i, xl_istore5n, xl_istore6a, xl_istore6i, xl_istore6n, xl_istore7a, xl_istore7i, xl_istore7n, xm_f, xm_n, xm_t, xn_1, xn_2, xn_3, xn_5, xn_6, xo_0_0, xo_0_5, xo_1_1, xo_1_3, xo_1_9, xr_goto, xr_ic_ge, xr_iconst, xr_if_eq, xr_if_ne, xr_iret, xr_ref, xs_4, xs_9, xtl_n, xtl_s, xz_i, xz_l, xz_n, xz_r, wb_5_place_0, wb_5_place_1, wb_5_place_2, wb_5_place_3, wb_5_place_5, wb_5_place_6, zz_b, zz_bn, Classical.not_not, true_and, Nat.reduceAdd, Nat.reduceLeDiff]
      rw [cs d]
      refine ⟨fun z => ?_, fun z => ?_⟩
      · rw [inF_n (by omega)] at ih2; exact ih2 _
      · rw [inF_p (by omega)] at ih2; exact ih2 _
  exact key 0 (Nat.zero_le _) w a3 (a 9) none (fun _ _ => rfl) (by rw [up_id]; exact hF3) hS3
theorem md_place (hc : colN a i) (hag : agr a i (mv a) (mi i)) (hF : Fr a i p q w2 a2 i2) {x : Int} {M m : Nat} (c1 : 0 ≤ x ∧ x < i 1) (hM : M ≤ 50) (hn : ¬ i 0 = 0) (hm : i 0 = m) : (∀ a3, Fr a i p q w2 a3 i2 → Q (some (.inl (inF (plF a i x M) (fun r => r) (2000, 0) m).2)) (HH n xs w2 a3 i2)) → s_6_place [.inr (.inr 53), .inl x, .inl M] (HH n xs w2 a2 i2) Q := by
  intro hQ
  have hk := k24 hc
  obtain ⟨hm1, hm2, hm3, hm4, hm5⟩ := Fr_m hc hag hF
  have e31 : i2 31 = i 1 := by rw [show i2 31 = mi i2 1 from rfl, Fr_mi hF 1 (by omega)]; exact hag.1 1 (by omega)
  have m6 : i 1 ≤ 6 := hc.2.2.2.2.2.2.2.2.2.1.2
  have b31 : 0 ≤ i2 31 ∧ i2 31 ≤ 6 := by omega
  have c1b : 0 ≤ x ∧ x ≤ i2 31 - 1 := by omega
  have c2 : (0 : Int) ≤ M ∧ (M : Int) ≤ 50 := by omega
  have hn2 : ¬ i2 30 = 0 := by rw [hm3]; exact hn
  have x0 : 0 ≤ 3 * x := by omega
  have x18 : 3 * x < 18 := by omega
  have b30 : 0 ≤ i2 30 ∧ i2 30 ≤ 24 := by omega
  have E59 : a2 59 = a 59 := hF.2.2.1 59 (by decide)
  simp (disch := first | assumption | omega | exact zc_lo | exact zc_hi | exact zz_l | exact zz_u | exact zz_r) only [xa_59, xc_2 gc_6_place_0, xc_2 gc_6_place_2, xc_2 gc_6_place_4, xc_3 gc_6_place_1, xc_3 gc_6_place_3, xl_aload0, xl_iinc6a, xl_iinc6i, xl_iinc6n, xl_iload1, xl_iload2, xl_iload3, xl_iload4, xl_iload5, xl_iload6, xl_iload7, xl_istore3a, xl_istore3i, xl_istore3n, xl_istore4a, xl_istore4i, xl_istore4n, xl_istore5a, xl_istore5i, xl_istore5n, xl_istore6a, xl_istore6i, xl_istore6n, xl_istore7a, xl_istore7i, xl_istore7n, xm_f, xm_n, xm_t, xn_1, xn_2, xn_3, xn_5, xn_6, xn_7, xo_53_3, xo_53_7, xr_goto, xr_ic_ge, xr_iconst, xr_if_eq, xr_if_lt, xr_if_ne, xr_imul, xr_iret, xs_59, xtl_n, xtl_s, xz_i, xz_l, xz_n, xz_r, wb_6_place_0, wb_6_place_1, wb_6_place_2, wb_6_place_3, wb_6_place_5, wb_6_place_6, wb_6_place_7, ss_6_place, zz_b, zz_bn, Classical.not_not, true_and, Nat.reduceAdd, Nat.reduceLeDiff, sp_6_isDrum, sp_6_in, c1b, c2, hn2, E59, true_implies, false_implies, implies_true, not_true_eq_false, not_false_eq_true, and_true, false_and, and_false, if_true, if_false, Int.reduceEq, Int.reduceSub, Int.reduceAdd, Int.reduceMul, Int.reduceNeg, Int.reduceLT, Int.reduceLE, Int.add_zero]
  have key : ∀ d, d ≤ m → ∀ (a4 : Nat → Int → Int) (g : Int → Int) (fe be : Int) (l7 : Option dk_V), rlF (inF (plF a i x M) (fun r => r) (2000, 0) d) fe be → (∀ j, ¬ j = 3 * x → g j = a 59 j) → Fr (dk_up a 59 g) i p q w2 a4 i2 → dk_WP g_6_place b_6_place Q 4 [some (.inr (.inr 53)), some (.inl x), some (.inl M), some (.inl (a 59 (3 * x))), some (.inl be), some (.inl fe), some (.inl d), l7] [] (HH n xs w2 a4 i2) := by
    refine lp_up ?_ ?_
    · intro a4 g fe be l7 hrl hg hF4
      have F59 : a4 59 = g := by rw [hF4.2.2.1 59 (by decide), up_s]
      rw [wb_6_place_4]
      simp (disch := first | assumption | omega | exact zc_lo | exact zc_hi | exact zz_l | exact zz_u | exact zz_r) only [xa_59, xc_2 gc_6_place_0, xc_2 gc_6_place_2, xc_2 gc_6_place_4, xc_3 gc_6_place_1, xc_3 gc_6_place_3, xl_aload0, xl_iinc6a, xl_iinc6i, xl_iinc6n, xl_iload1, xl_iload2, xl_iload3, xl_iload4, xl_iload5, xl_iload6, xl_iload7, xl_istore3a, xl_istore3i, xl_istore3n, xl_istore4a, xl_istore4i, xl_istore4n, xl_istore5a, xl_istore5i, xl_istore5n, xl_istore6a, xl_istore6i, xl_istore6n, xl_istore7a, xl_istore7i, xl_istore7n, xm_f, xm_n, xm_t, xn_1, xn_2, xn_3, xn_5, xn_6, xn_7, xo_53_3, xo_53_7, xr_goto, xr_ic_ge, xr_iconst, xr_if_eq, xr_if_lt, xr_if_ne, xr_imul, xr_iret, xs_59, xtl_n, xtl_s, xz_i, xz_l, xz_n, xz_r, wb_6_place_0, wb_6_place_1, wb_6_place_2, wb_6_place_3, wb_6_place_5, wb_6_place_6, wb_6_place_7, zz_b, zz_bn, Classical.not_not, true_and, Nat.reduceAdd, Nat.reduceLeDiff, hm3, F59]
      refine ⟨fun _ => ?_, fun z => absurd (by omega) z⟩
      have hF5 := Fr_k (G := dk_ui g (3 * x) (a 59 (3 * x))) (by decide) (by decide) hF4
      rw [ui_eq hg, ui_id, up_id] at hF5
      rw [ui_eq hg, ui_id, hrl.1]
      exact hQ _ hF5
    · intro d hdm ih a4 g fe be l7 hrl hg hF4
      have F59 : a4 59 = g := by rw [hF4.2.2.1 59 (by decide), up_s]
      have F57 : a4 57 (5 * (d : Int) + 1) = a 4 d := by rw [hF4.2.2.1 57 (by decide), up_n (by decide)]; exact (hag.2.2.1 d (by omega) (by omega)).2.1
      have pb := plF_b hc (x := x) (M := M) (r := d) (by omega)
      obtain ⟨rl1, rl2⟩ := hrl
      have feb : -1 ≤ fe ∧ fe ≤ 1000 := by omega
      have hF5 := Fr_k (G := dk_ui g (3 * x) (a 4 d)) (by decide) (by decide) hF4
      have hag5 : agr (dk_up a 9 (dk_ui (a 9) x (a 4 d))) i (mv (dk_up a4 59 (dk_ui g (3 * x) (a 4 d)))) (mi i2) := by
        refine agr_9 hag hF5 (fun e z1 z2 => ?_)
        rw [ui_n (show ¬ 3 * e + 1 = 3 * x by omega), ui_n (show ¬ 3 * e + 2 = 3 * x by omega), hg _ (show ¬ 3 * e + 1 = 3 * x by omega), hg _ (show ¬ 3 * e + 2 = 3 * x by omega)]
        refine ⟨?_, rfl, rfl⟩
        by_cases e1 : e = x
        · subst e1; rw [ui_s, ui_s]
        · rw [ui_n e1, ui_n (by omega), hg _ (by omega)]; exact (hag.2.2.2.1 e z1 z2).1
      rw [wb_6_place_4]
      simp (disch := first | assumption | omega | exact zc_lo | exact zc_hi | exact zz_l | exact zz_u | exact zz_r) only [xa_59, xc_2 gc_6_place_0, xc_2 gc_6_place_2, xc_2 gc_6_place_4, xc_3 gc_6_place_1, xc_3 gc_6_place_3, xl_aload0, xl_iinc6a, xl_iinc6i, xl_iinc6n, xl_iload1, xl_iload2, xl_iload3, xl_iload4, xl_iload5, xl_iload6, xl_iload7, xl_istore3a, xl_istore3i, xl_istore3n, xl_istore4a, xl_istore4i, xl_istore4n, xl_istore5a, xl_istore5i, xl_istore5n, xl_istore6a, xl_istore6i, xl_istore6n, xl_istore7a, xl_istore7i, xl_istore7n, xm_f, xm_n, xm_t, xn_1, xn_2, xn_3, xn_5, xn_6, xn_7, xo_53_3, xo_53_7, xr_goto, xr_ic_ge, xr_iconst, xr_if_eq, xr_if_lt, xr_if_ne, xr_imul, xr_iret, xs_59, xtl_n, xtl_s, xz_i, xz_l, xz_n, xz_r, wb_6_place_0, wb_6_place_1, wb_6_place_2, wb_6_place_3, wb_6_place_5, wb_6_place_6, wb_6_place_7, zz_b, zz_bn, Classical.not_not, true_and, Nat.reduceAdd, Nat.reduceLeDiff, hm3, F59, F57, sp_6_its]
      refine ⟨fun z => absurd z (by omega), fun _ => ?_⟩
      refine sp_mwbD (colN_p hc (by omega) (by omega)) hag5 (by omega) (fun a6 hs6 => ?_)
      rw [show wo (dk_up a 9 (dk_ui (a 9) x (a 4 d))) i M = plF a i x M d from rfl]
      have hF6 := Fr_sA hF5 hs6 (by decide)
      have ih2 := fun fe be l7 hr => ih a6 _ fe be l7 hr (fun j hj => by rw [ui_n hj]; exact hg j hj) hF6
      simp (disch := first | assumption | omega | exact zc_lo | exact zc_hi | exact zz_l | exact zz_u | exact zz_r) only [xa_59, xc_2 gc_6_place_0, xc_2 gc_6_place_2, xc_2 gc_6_place_4, xc_3 gc_6_place_1, xc_3 gc_6_place_3, xl_aload0, xl_iinc6a, xl_iinc6i, xl_iinc6n, xl_iload1, xl_iload2, xl_iload3, xl_iload4, xl_iload5, xl_iload6, xl_iload7, xl_istore3a, xl_istore3i, xl_istore3n, xl_istore4a, xl_istore4i, xl_istore4n, xl_istore5a, xl_istore5i, xl_istore5n, xl_istore6a, xl_istore6i, xl_istore6n, xl_istore7a, xl_istore7i, xl_istore7n, xm_f, xm_n, xm_t, xn_1, xn_2, xn_3, xn_5, xn_6, xn_7, xo_53_3, xo_53_7, xr_goto, xr_ic_ge, xr_iconst, xr_if_eq, xr_if_lt, xr_if_ne, xr_imul, xr_iret, xs_59, xtl_n, xtl_s, xz_i, xz_l, xz_n, xz_r, wb_6_place_0, wb_6_place_1, wb_6_place_2, wb_6_place_3, wb_6_place_5, wb_6_place_6, wb_6_place_7, zz_b, zz_bn, Classical.not_not, true_and, Nat.reduceAdd, Nat.reduceLeDiff]
      rw [cs d]
      have take : plF a i x M d < (inF (plF a i x M) (fun r => (r : Int)) (2000, 0) d).1 → ∀ l7, dk_WP g_6_place b_6_place Q 4 [some (.inr (.inr 53)), some (.inl x), some (.inl M), some (.inl (a 59 (3 * x))), some (.inl d), some (.inl (plF a i x M d)), some (.inl ((d + 1 : Nat) : Int)), l7] [] (HH n xs w2 a6 i2) := fun z l7 => ih2 _ _ l7 (by rw [inF_p z]; exact ⟨rfl, Or.inr ⟨rfl, pb.1, pb.2⟩⟩)
      refine ⟨fun z => take (by omega) _, fun z => ⟨fun z2 => ?_, fun z2 => take (by omega) _⟩⟩
      exact ih2 _ _ _ (by rw [inF_n (by omega)]; exact ⟨rl1, rl2⟩)
  exact key 0 (Nat.zero_le _) a2 (a 59) (-1) 0 none ⟨rfl, Or.inl ⟨rfl, rfl⟩⟩ (fun _ _ => rfl) (by rw [up_id]; exact hF)
theorem op_place (h : Inv N w a i) {x y : Int} (x1 : -2147483648 ≤ x) (x2 : x ≤ 2147483647) (y1 : -2147483648 ≤ y) (y2 : y ≤ 2147483647) : s_5_place [.inr (.inr 0), .inl x, .inl y] (HH n xs w a i) (fun r h => s_6_place [.inr (.inr 53), .inl x, .inl y] h (OPQ n xs N r)) := by
  have hc := h.2.1
  have hag := h.2.2.1
  have hmc := colN_A hag hc
  obtain ⟨⟨p1, p2⟩, ⟨s1, s2⟩, ⟨v1, v2⟩, ⟨n1, n2⟩, ⟨o1, o2⟩, ⟨d1, d2⟩, ⟨e1, e2⟩, ⟨k1, k2⟩, hr, ⟨m1, m2⟩, hd, ⟨b1, b2⟩, hb, hs, hz⟩ := id hc
  obtain ⟨hkE, hA2, hA3, hA4, hA5, hA6⟩ := id hag
  have K0 : i 30 = i 0 := hkE 0 (by omega)
  have K1 : i 31 = i 1 := hkE 1 (by omega)
  have K2 : i 32 = i 2 := hkE 2 (by omega)
  have K3 : i 33 = i 3 := hkE 3 (by omega)
  have R0 : a 54 0 = a 2 0 := hA2 0 (by omega) (by omega)
  have R1 : a 54 1 = a 2 1 := hA2 1 (by omega) (by omega)
  have R2 : a 54 2 = a 2 2 := hA2 2 (by omega) (by omega)
  have R3 : a 54 3 = a 2 3 := hA2 3 (by omega) (by omega)
  have R4 : a 54 4 = a 2 4 := hA2 4 (by omega) (by omega)
  have R5 : a 54 5 = a 2 5 := hA2 5 (by omega) (by omega)
  have R6 : a 54 6 = a 2 6 := hA2 6 (by omega) (by omega)
  by_cases c1 : 0 ≤ x ∧ x < i 1
  · have c1b : 0 ≤ x ∧ x ≤ i 31 - 1 := by omega
    by_cases c2 : 0 ≤ y ∧ y ≤ 50
    · by_cases c3 : i 0 = 0
      · simp (disch := first | assumption | omega | exact zc_lo | exact zc_hi | exact zz_l | exact zz_u | exact zz_r) only [xa_102, xa_4, xa_9, xc_1 gc_5_place_3, xc_2 gc_5_place_0, xc_2 gc_5_place_2, xc_2 gc_5_place_4, xc_3 gc_5_place_1, xl_aload0, xl_iinc6a, xl_iinc6i, xl_iinc6n, xl_iload1, xl_iload2, xl_iload3, xl_iload4, xl_iload5, xl_iload6, xl_iload7, xl_istore3a, xl_istore3i, xl_istore3n, xl_istore4a, xl_istore4i, xl_istore4n, xl_istore5a, xl_istore5i, xl_istore5n, xl_istore6a, xl_istore6i, xl_istore6n, xl_istore7a, xl_istore7i, xl_istore7n, xm_f, xm_n, xm_t, xn_1, xn_2, xn_3, xn_5, xn_6, xo_0_0, xo_0_5, xo_1_1, xo_1_3, xo_1_9, xr_goto, xr_ic_ge, xr_iconst, xr_if_eq, xr_if_ne, xr_iret, xr_ref, xs_4, xs_9, xtl_n, xtl_s, xz_i, xz_l, xz_n, xz_r, wb_5_place_0, wb_5_place_1, wb_5_place_2, wb_5_place_3, wb_5_place_5, wb_5_place_6, ss_5_place, xa_59, xc_2 gc_6_place_0, xc_2 gc_6_place_2, xc_2 gc_6_place_4, xc_3 gc_6_place_1, xc_3 gc_6_place_3, xl_aload0, xl_iinc6a, xl_iinc6i, xl_iinc6n, xl_iload1, xl_iload2, xl_iload3, xl_iload4, xl_iload5, xl_iload6, xl_iload7, xl_istore3a, xl_istore3i, xl_istore3n, xl_istore4a, xl_istore4i, xl_istore4n, xl_istore5a, xl_istore5i, xl_istore5n, xl_istore6a, xl_istore6i, xl_istore6n, xl_istore7a, xl_istore7i, xl_istore7n, xm_f, xm_n, xm_t, xn_1, xn_2, xn_3, xn_5, xn_6, xn_7, xo_53_3, xo_53_7, xr_goto, xr_ic_ge, xr_iconst, xr_if_eq, xr_if_lt, xr_if_ne, xr_imul, xr_iret, xs_59, xtl_n, xtl_s, xz_i, xz_l, xz_n, xz_r, wb_6_place_0, wb_6_place_1, wb_6_place_2, wb_6_place_3, wb_6_place_5, wb_6_place_6, wb_6_place_7, ss_6_place, zz_b, zz_bn, Classical.not_not, true_and, Nat.reduceAdd, Nat.reduceLeDiff, sp_0_hasDrum, sp_6_isDrum, sp_5_isWithin, sp_6_in, sp_5_finding, sp_6_finds, c1, c1b, c2, c3, K0, eq_self, true_implies, false_implies, implies_true, not_true_eq_false, not_false_eq_true, and_true, false_and, and_false, if_true, if_false, Int.reduceEq, Int.reduceSub, Int.reduceAdd, Int.reduceMul, Int.reduceNeg, Int.reduceLT, Int.reduceLE, Int.add_zero]
        exact fnd h 3 (by omega) (by omega)
      · obtain ⟨M, rfl⟩ := nat_of c2.1
        obtain ⟨m, hm⟩ := nat_of k1
        have ob := inF_ok (f := plF a i x M) (b := fun r => (r : Int)) (s := (2000, 0)) (m := m) (by unfold okF; simp only; omega) (fun r hr => plF_b hc (by omega)) (fun r hr => by omega) m (Nat.le_refl m)
        obtain ⟨⟨ob1, ob2⟩, ob3, ob4⟩ := ob
        refine cl_place h c1 (by omega) c3 hm (fun w3 a3 i3 hF3 => ?_)
        exact md_place hc hag hF3 c1 (by omega) c3 hm (fun a4 hF4 => OPQ_f h hF4 (by omega) (by omega))
    · simp (disch := first | assumption | omega | exact zc_lo | exact zc_hi | exact zz_l | exact zz_u | exact zz_r) only [xa_102, xa_4, xa_9, xc_1 gc_5_place_3, xc_2 gc_5_place_0, xc_2 gc_5_place_2, xc_2 gc_5_place_4, xc_3 gc_5_place_1, xl_aload0, xl_iinc6a, xl_iinc6i, xl_iinc6n, xl_iload1, xl_iload2, xl_iload3, xl_iload4, xl_iload5, xl_iload6, xl_iload7, xl_istore3a, xl_istore3i, xl_istore3n, xl_istore4a, xl_istore4i, xl_istore4n, xl_istore5a, xl_istore5i, xl_istore5n, xl_istore6a, xl_istore6i, xl_istore6n, xl_istore7a, xl_istore7i, xl_istore7n, xm_f, xm_n, xm_t, xn_1, xn_2, xn_3, xn_5, xn_6, xo_0_0, xo_0_5, xo_1_1, xo_1_3, xo_1_9, xr_goto, xr_ic_ge, xr_iconst, xr_if_eq, xr_if_ne, xr_iret, xr_ref, xs_4, xs_9, xtl_n, xtl_s, xz_i, xz_l, xz_n, xz_r, wb_5_place_0, wb_5_place_1, wb_5_place_2, wb_5_place_3, wb_5_place_5, wb_5_place_6, ss_5_place, xa_59, xc_2 gc_6_place_0, xc_2 gc_6_place_2, xc_2 gc_6_place_4, xc_3 gc_6_place_1, xc_3 gc_6_place_3, xl_aload0, xl_iinc6a, xl_iinc6i, xl_iinc6n, xl_iload1, xl_iload2, xl_iload3, xl_iload4, xl_iload5, xl_iload6, xl_iload7, xl_istore3a, xl_istore3i, xl_istore3n, xl_istore4a, xl_istore4i, xl_istore4n, xl_istore5a, xl_istore5i, xl_istore5n, xl_istore6a, xl_istore6i, xl_istore6n, xl_istore7a, xl_istore7i, xl_istore7n, xm_f, xm_n, xm_t, xn_1, xn_2, xn_3, xn_5, xn_6, xn_7, xo_53_3, xo_53_7, xr_goto, xr_ic_ge, xr_iconst, xr_if_eq, xr_if_lt, xr_if_ne, xr_imul, xr_iret, xs_59, xtl_n, xtl_s, xz_i, xz_l, xz_n, xz_r, wb_6_place_0, wb_6_place_1, wb_6_place_2, wb_6_place_3, wb_6_place_5, wb_6_place_6, wb_6_place_7, ss_6_place, zz_b, zz_bn, Classical.not_not, true_and, Nat.reduceAdd, Nat.reduceLeDiff, sp_0_hasDrum, sp_6_isDrum, sp_5_isWithin, sp_6_in, sp_5_finding, sp_6_finds, c1, c1b, c2, true_implies, false_implies, implies_true, not_true_eq_false, not_false_eq_true, and_true, false_and, and_false, if_true, if_false, Int.reduceEq, Int.reduceSub, Int.reduceAdd, Int.reduceMul, Int.reduceNeg, Int.reduceLT, Int.reduceLE, Int.add_zero]
      exact fnd h 0 (by omega) (by omega)
  · have c1b : ¬ (0 ≤ x ∧ x ≤ i 31 - 1) := by omega
    simp (disch := first | assumption | omega | exact zc_lo | exact zc_hi | exact zz_l | exact zz_u | exact zz_r) only [xa_102, xa_4, xa_9, xc_1 gc_5_place_3, xc_2 gc_5_place_0, xc_2 gc_5_place_2, xc_2 gc_5_place_4, xc_3 gc_5_place_1, xl_aload0, xl_iinc6a, xl_iinc6i, xl_iinc6n, xl_iload1, xl_iload2, xl_iload3, xl_iload4, xl_iload5, xl_iload6, xl_iload7, xl_istore3a, xl_istore3i, xl_istore3n, xl_istore4a, xl_istore4i, xl_istore4n, xl_istore5a, xl_istore5i, xl_istore5n, xl_istore6a, xl_istore6i, xl_istore6n, xl_istore7a, xl_istore7i, xl_istore7n, xm_f, xm_n, xm_t, xn_1, xn_2, xn_3, xn_5, xn_6, xo_0_0, xo_0_5, xo_1_1, xo_1_3, xo_1_9, xr_goto, xr_ic_ge, xr_iconst, xr_if_eq, xr_if_ne, xr_iret, xr_ref, xs_4, xs_9, xtl_n, xtl_s, xz_i, xz_l, xz_n, xz_r, wb_5_place_0, wb_5_place_1, wb_5_place_2, wb_5_place_3, wb_5_place_5, wb_5_place_6, ss_5_place, xa_59, xc_2 gc_6_place_0, xc_2 gc_6_place_2, xc_2 gc_6_place_4, xc_3 gc_6_place_1, xc_3 gc_6_place_3, xl_aload0, xl_iinc6a, xl_iinc6i, xl_iinc6n, xl_iload1, xl_iload2, xl_iload3, xl_iload4, xl_iload5, xl_iload6, xl_iload7, xl_istore3a, xl_istore3i, xl_istore3n, xl_istore4a, xl_istore4i, xl_istore4n, xl_istore5a, xl_istore5i, xl_istore5n, xl_istore6a, xl_istore6i, xl_istore6n, xl_istore7a, xl_istore7i, xl_istore7n, xm_f, xm_n, xm_t, xn_1, xn_2, xn_3, xn_5, xn_6, xn_7, xo_53_3, xo_53_7, xr_goto, xr_ic_ge, xr_iconst, xr_if_eq, xr_if_lt, xr_if_ne, xr_imul, xr_iret, xs_59, xtl_n, xtl_s, xz_i, xz_l, xz_n, xz_r, wb_6_place_0, wb_6_place_1, wb_6_place_2, wb_6_place_3, wb_6_place_5, wb_6_place_6, wb_6_place_7, ss_6_place, zz_b, zz_bn, Classical.not_not, true_and, Nat.reduceAdd, Nat.reduceLeDiff, sp_0_hasDrum, sp_6_isDrum, sp_5_isWithin, sp_6_in, sp_5_finding, sp_6_finds, c1, c1b, true_implies, false_implies, implies_true, not_true_eq_false, not_false_eq_true, and_true, false_and, and_false, if_true, if_false, Int.reduceEq, Int.reduceSub, Int.reduceAdd, Int.reduceMul, Int.reduceNeg, Int.reduceLT, Int.reduceLE, Int.add_zero]
    exact fnd h 0 (by omega) (by omega)
end OT1
