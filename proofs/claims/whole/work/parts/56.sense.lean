/-! SENSES AND WALKS of the class -/
def sA (ks : List Nat) (a a2 : Nat → Int → Int) : Prop := ∀ k, k ∉ ks → a2 k = a k
theorem sA_rf {ks : List Nat} {a : Nat → Int → Int} : sA ks a a := fun _ _ => rfl
theorem sA_tr {ks : List Nat} {a b c : Nat → Int → Int} (h1 : sA ks a b) (h2 : sA ks b c) : sA ks a c := fun k hk => (h2 k hk).trans (h1 k hk)
theorem sA_up {ks : List Nat} {a b : Nat → Int → Int} {k : Nat} (h : sA ks a b) (hk : k ∈ ks) (f : Int → Int) : sA ks a (dk_up b k f) := fun j hj => by
  have : ¬ j = k := fun e => hj (e ▸ hk)
  simp only [dk_up, if_neg this]
  exact h j hj
theorem sA_w {ks ks2 : List Nat} {a b : Nat → Int → Int} (h : sA ks a b) (hs : ∀ k ∈ ks, k ∈ ks2) : sA ks2 a b := fun k hk => h k (fun z => hk (hs k z))
theorem up_s {α : Type} {f : Nat → α} {k : Nat} {x : α} : dk_up f k x k = x := if_pos rfl
theorem up_n {α : Type} {f : Nat → α} {k j : Nat} {x : α} (h : ¬ j = k) : dk_up f k x j = f j := if_neg h
theorem ui_s {f : Int → Int} {k x : Int} : dk_ui f k x k = x := if_pos rfl
theorem ui_n {f : Int → Int} {k j x : Int} (h : ¬ j = k) : dk_ui f k x j = f j := if_neg h
/-- the column's rows are the same -/
def cE (c c2 : Nat → Int → Int) : Prop := ∀ j, 2 ≤ j → j ≤ 13 → c2 j = c j
def kE (k k2 : Nat → Int) : Prop := ∀ j, j ≤ 3 → k2 j = k j
theorem cE_of {ks : List Nat} {a b : Nat → Int → Int} (h : sA ks a b) (hk : ∀ k ∈ ks, 14 ≤ k) : cE a b := fun j h1 h2 => h j (fun z => by have := hk j z; omega)
section CE
variable {c c2 : Nat → Int → Int} {k k2 : Nat → Int} {o o2 : Int → Int} {r : Int}
theorem colN_E (h : cE c c2) (h2 : kE k k2) (hc : colN c k) : colN c2 k2 := by
  unfold colN rkOK at hc ⊢
  rw [h 2 (by omega) (by omega), h 3 (by omega) (by omega), h 4 (by omega) (by omega), h 5 (by omega) (by omega), h 6 (by omega) (by omega), h 7 (by omega) (by omega), h 8 (by omega) (by omega), h 9 (by omega) (by omega), h 10 (by omega) (by omega), h 11 (by omega) (by omega), h 12 (by omega) (by omega), h 13 (by omega) (by omega), h2 0 (by omega), h2 1 (by omega), h2 2 (by omega), h2 3 (by omega)]
  exact hc
theorem beF_E (h : cE c c2) (h2 : kE k k2) : beF c2 k2 r = beF c k r := by
  unfold beF
  rw [h 2 (by omega) (by omega), h 4 (by omega) (by omega), h 9 (by omega) (by omega), h 10 (by omega) (by omega), h 11 (by omega) (by omega), h2 1 (by omega)]
theorem bnF_E (h : cE c c2) (h2 : kE k k2) : bnF c2 k2 r = bnF c k r := by
  unfold bnF
  rw [h 4 (by omega) (by omega), h 12 (by omega) (by omega), h2 2 (by omega)]
theorem neB_E (h : cE c c2) {j : Int} : neB c2 r j = neB c r j := by
  unfold neB
  rw [h 2 (by omega) (by omega), h 4 (by omega) (by omega)]
theorem nrF_E (h : cE c c2) : ∀ j : Nat, nrF c2 r j = nrF c r j
  | 0 => rfl
  | j + 1 => by unfold nrF; rw [neB_E h, nrF_E h j]
theorem smF_E (h : cE c c2) : ∀ j : Nat, smF c2 o r j = smF c o r j
  | 0 => rfl
  | j + 1 => by unfold smF; rw [neB_E h, smF_E h j, h 2 (by omega) (by omega), h 4 (by omega) (by omega)]
theorem earF_E (h : cE c c2) (h2 : kE k k2) : earF c2 k2 o r = earF c k o r := by
  unfold earF
  rw [beF_E h h2, h 2 (by omega) (by omega), h 5 (by omega) (by omega)]
theorem eyeF_E (h : cE c c2) (h2 : kE k k2) : eyeF c2 k2 o r = eyeF c k o r := by
  unfold eyeF
  rw [bnF_E h h2, h 2 (by omega) (by omega), h 5 (by omega) (by omega)]
theorem feF_E (h : cE c c2) (h2 : kE k k2) : feF c2 k2 o r = feF c k o r := by
  unfold feF
  rw [earF_E h h2, nrF_E h, smF_E h, h 5 (by omega) (by omega), h2 0 (by omega)]
theorem tuF_E (h : cE c c2) (h2 : kE k k2) : tuF c2 k2 o r = tuF c k o r := by
  unfold tuF
  rw [earF_E h h2, eyeF_E h h2, feF_E h h2, h 2 (by omega) (by omega), h 3 (by omega) (by omega), h 6 (by omega) (by omega), h 7 (by omega) (by omega)]
theorem stF_E (h : cE c c2) (h2 : kE k k2) : stF c2 k2 o = stF c k o := by
  funext r
  unfold stF
  rw [tuF_E h h2, h 2 (by omega) (by omega)]
theorem oOK_E (h : cE c c2) (h2 : kE k k2) (ho : oOK c k o) : oOK c2 k2 o := by
  unfold oOK at ho ⊢
  rw [h 2 (by omega) (by omega), h2 0 (by omega)]
  exact ho
/-- alike on the ranks -/
def oE (k : Nat → Int) (o o2 : Int → Int) : Prop := ∀ r, 0 ≤ r → r < k 0 → o2 r = o r
theorem oOK_o (h : oE k o o2) (ho : oOK c k o) : oOK c k o2 := fun r h0 h1 => by rw [h r h0 h1]; exact ho r h0 h1
theorem smF_o (h : oE k o o2) (h0 : 0 ≤ r) (h1 : r < k 0) : ∀ j : Nat, (j : Int) ≤ k 0 → smF c o2 r j = smF c o r j
  | 0, _ => rfl
  | j + 1, hj => by unfold smF; rw [smF_o h h0 h1 j (by omega), h r h0 h1, h j (by omega) (by omega)]
theorem tuF_o (h : oE k o o2) (h0 : 0 ≤ r) (h1 : r < k 0) : tuF c k o2 r = tuF c k o r := by
  have e1 : earF c k o2 r = earF c k o r := by unfold earF; rw [h r h0 h1]
  have e2 : eyeF c k o2 r = eyeF c k o r := by
    unfold eyeF
    by_cases z : r = 0 ∨ bnF c k r = true
    · rw [if_pos z, if_pos z]
    · rw [if_neg z, if_neg z, h r h0 h1, h (r - 1) (by omega) (by omega)]
  have e3 : feF c k o2 r = feF c k o r := by unfold feF; rw [e1, smF_o h h0 h1 _ (by omega)]
  unfold tuF
  rw [e1, e2, e3, h r h0 h1]
theorem stF_o (h : oE k o o2) : oE k (stF c k o) (stF c k o2) := fun r h0 h1 => by
  unfold stF
  rw [tuF_o h h0 h1, h r h0 h1]
/-- a march -/
def maF (c : Nat → Int → Int) (k : Nat → Int) (o : Int → Int) : Nat → Int → Int
  | 0 => o
  | t + 1 => stF c k (maF c k o t)
theorem maF_o (h : oE k o o2) : ∀ t, oE k (maF c k o t) (maF c k o2 t)
  | 0 => h
  | t + 1 => stF_o (maF_o h t)
theorem maF_E (h : cE c c2) (h2 : kE k k2) : ∀ t, maF c2 k2 o t = maF c k o t
  | 0 => rfl
  | t + 1 => by unfold maF; rw [maF_E h h2 t, stF_E h h2]
theorem maF_ok (hc : colN c k) (ho : oOK c k o) : ∀ t, oOK c k (maF c k o t)
  | 0 => ho
  | t + 1 => stF_ok hc
/-- what a pace leaves, all later ones leave -/
theorem maF_stay {t : Nat} (h : oE k (maF c k o t) (maF c k o (t + 1))) : ∀ m, t ≤ m → oE k (maF c k o t) (maF c k o m) := by
  intro m hm
  induction hm with
  | refl => exact fun _ _ _ => rfl
  | @step m hm ih =>
    intro r h0 h1
    have e1 := stF_o (c := c) ih r h0 h1
    have e2 := h r h0 h1
    exact e1.trans e2
end CE
section SN
variable {Q : dk_Q} {n : Nat} {xs : Int → Int} {w : Nat → Nat} {a : Nat → Int → Int} {i : Nat → Int}
theorem sp_1_listen (hc : colN a i) : (∀ a2, sA [40] a a2 → (∀ r, 0 ≤ r → r < i 0 → a2 40 r = beF a i r) → Q none (HH n xs w a2 i)) → s_1_listen [.inr (.inr 39)] (HH n xs w a i) Q := by
  intro hQ
  obtain ⟨⟨p1, p2⟩, ⟨s1, s2⟩, ⟨v1, v2⟩, ⟨n1, n2⟩, ⟨o1, o2⟩, ⟨d1, d2⟩, ⟨e1, e2⟩, ⟨k1, k2⟩, hr, ⟨m1, m2⟩, hd, ⟨b1, b2⟩, hb, hs, hz⟩ := id hc
  obtain ⟨m, hm⟩ := nat_of k1
  simp (disch := first | assumption | omega | exact zc_lo | exact zc_hi | exact zz_l | exact zz_u | exact zz_r) only [xc_2 gc_1_listen_0, xl_aload0, xl_iinc1a, xl_iinc1i, xl_iinc1n, xl_iload1, xl_istore1a, xl_istore1i, xl_istore1n, xm_f, xm_n, xm_t, xn_2, xo_1_1, xo_39_0, xo_39_2, xr_goto, xr_ic_ge, xr_iconst, xr_vret, xs_40, xtl_n, xtl_s, xz_i, xz_l, xz_n, xz_r, wb_1_listen_0, wb_1_listen_2, ss_1_listen, zz_b, zz_bn, Classical.not_not, true_and, Nat.reduceAdd, Nat.reduceLeDiff]
  refine lp_up (m := m) (P := fun d => ∀ a2, sA [40] a a2 → (∀ r : Int, 0 ≤ r → r < d → a2 40 r = beF a i r) → dk_WP g_1_listen b_1_listen Q 1 [some (.inr (.inr 39)), some (.inl d)] [] (HH n xs w a2 i)) ?_ ?_ 0 (Nat.zero_le _) a sA_rf (fun r h1 h2 => by omega)
  · intro a2 hs hf
    rw [wb_1_listen_1]
    simp (disch := first | assumption | omega | exact zc_lo | exact zc_hi | exact zz_l | exact zz_u | exact zz_r) only [xc_2 gc_1_listen_0, xl_aload0, xl_iinc1a, xl_iinc1i, xl_iinc1n, xl_iload1, xl_istore1a, xl_istore1i, xl_istore1n, xm_f, xm_n, xm_t, xn_2, xo_1_1, xo_39_0, xo_39_2, xr_goto, xr_ic_ge, xr_iconst, xr_vret, xs_40, xtl_n, xtl_s, xz_i, xz_l, xz_n, xz_r, wb_1_listen_0, wb_1_listen_2, zz_b, zz_bn, Classical.not_not, true_and, Nat.reduceAdd, Nat.reduceLeDiff]
    exact ⟨fun _ => hQ a2 hs (fun r h0 h1 => hf r h0 (by omega)), fun z => by omega⟩
  · intro d hdm ih a2 hs hf
    have hE := cE_of hs (by simp)
    rw [wb_1_listen_1]
    simp (disch := first | assumption | omega | exact zc_lo | exact zc_hi | exact zz_l | exact zz_u | exact zz_r) only [xc_2 gc_1_listen_0, xl_aload0, xl_iinc1a, xl_iinc1i, xl_iinc1n, xl_iload1, xl_istore1a, xl_istore1i, xl_istore1n, xm_f, xm_n, xm_t, xn_2, xo_1_1, xo_39_0, xo_39_2, xr_goto, xr_ic_ge, xr_iconst, xr_vret, xs_40, xtl_n, xtl_s, xz_i, xz_l, xz_n, xz_r, wb_1_listen_0, wb_1_listen_2, zz_b, zz_bn, Classical.not_not, true_and, Nat.reduceAdd, Nat.reduceLeDiff]
    refine ⟨fun z => by omega, fun _ => ?_⟩
    refine sp_0_beatFor (colN_E hE (fun _ _ => rfl) hc) (by omega) (by omega) ?_
    rw [beF_E hE (fun _ _ => rfl)]
    simp (disch := first | assumption | omega | exact zc_lo | exact zc_hi | exact zz_l | exact zz_u | exact zz_r) only [xc_2 gc_1_listen_0, xl_aload0, xl_iinc1a, xl_iinc1i, xl_iinc1n, xl_iload1, xl_istore1a, xl_istore1i, xl_istore1n, xm_f, xm_n, xm_t, xn_2, xo_1_1, xo_39_0, xo_39_2, xr_goto, xr_ic_ge, xr_iconst, xr_vret, xs_40, xtl_n, xtl_s, xz_i, xz_l, xz_n, xz_r, wb_1_listen_0, wb_1_listen_2, zz_b, zz_bn, Classical.not_not, true_and, Nat.reduceAdd, Nat.reduceLeDiff]
    rw [cs d]
    refine ih _ (sA_up hs (by simp) _) (fun r h0 h1 => ?_)
    rw [up_s]
    by_cases e : r = d
    · subst e; rw [ui_s]
    · rw [ui_n e]; exact hf r h0 (by omega)
theorem sp_1_feel (hc : colN a i) {r : Int} (h0 : 0 ≤ r) (h1 : r < i 0) : (∀ a2, sA [42, 43] a a2 → a2 42 r = nrF a r (i 0).toNat → (∀ o, 0 ≤ o → o < i 0 → a2 43 (r * 24 + o) = if neB a r o = true then lagF (a 2 1) (a 2 2) (a 4 o) (a 4 r) else -2000000000) → (∀ j, ¬ j = r → a2 42 j = a 42 j) → (∀ j, j < r * 24 ∨ r * 24 + 24 ≤ j → a2 43 j = a 43 j) → Q none (HH n xs w a2 i)) → s_1_feel [.inr (.inr 39), .inl r] (HH n xs w a i) Q := by
  intro hQ
  obtain ⟨⟨p1, p2⟩, ⟨s1, s2⟩, ⟨v1, v2⟩, ⟨n1, n2⟩, ⟨o1, o2⟩, ⟨d1, d2⟩, ⟨e1, e2⟩, ⟨k1, k2⟩, hr, ⟨m1, m2⟩, hd, ⟨b1, b2⟩, hb, hs, hz⟩ := id hc
  obtain ⟨m, hm⟩ := nat_of k1
  obtain ⟨-, ⟨r1, r2⟩, -⟩ := hr r h0 h1
  simp (disch := first | assumption | omega | exact zc_lo | exact zc_hi | exact zz_l | exact zz_u | exact zz_r) only [xa_2, xa_4, xa_42, xa_43, xc_1 gc_1_feel_0, xc_3 gc_1_feel_1, xl_aload0, xl_iinc3a, xl_iinc3i, xl_iinc3n, xl_iload1, xl_iload2, xl_iload3, xl_iload4, xl_istore2a, xl_istore2i, xl_istore2n, xl_istore3a, xl_istore3i, xl_istore3n, xl_istore4a, xl_istore4i, xl_istore4n, xm_f, xm_n, xm_t, xn_2, xn_4, xo_1_0, xo_1_1, xo_1_3, xo_39_0, xo_39_4, xo_39_5, xr_dup2, xr_goto, xr_iadd, xr_ic_eq, xr_ic_ge, xr_ic_gt, xr_iconst, xr_imul, xr_isub, xr_vret, xs_2, xs_4, xs_42, xs_43, xtl_n, xtl_s, xz_i, xz_l, xz_n, xz_r, wb_1_feel_0, wb_1_feel_2, wb_1_feel_3, wb_1_feel_4, ss_1_feel, zz_b, zz_bn, Classical.not_not, true_and, Nat.reduceAdd, Nat.reduceLeDiff]
  refine lp_up (m := m) (P := fun d => ∀ a2, sA [42, 43] a a2 → a2 42 r = nrF a r d → (∀ o : Int, 0 ≤ o → o < d → a2 43 (r * 24 + o) = if neB a r o = true then lagF (a 2 1) (a 2 2) (a 4 o) (a 4 r) else -2000000000) → (∀ j, ¬ j = r → a2 42 j = a 42 j) → (∀ j, j < r * 24 ∨ r * 24 + 24 ≤ j → a2 43 j = a 43 j) → dk_WP g_1_feel b_1_feel Q 1 [some (.inr (.inr 39)), some (.inl r), some (.inl (a 4 r)), some (.inl d), none] [] (HH n xs w a2 i)) ?_ ?_ 0 (Nat.zero_le _) _ (sA_up sA_rf (by simp) _) (by rw [up_s, ui_s]; rfl) (fun o z1 z2 => by omega) (fun j hj => by rw [up_s, ui_n hj]) (fun j _ => by rw [up_n (by decide)])
  · intro a2 hs f1 f2 f3 f4
    rw [wb_1_feel_1]
    simp (disch := first | assumption | omega | exact zc_lo | exact zc_hi | exact zz_l | exact zz_u | exact zz_r) only [xa_2, xa_4, xa_42, xa_43, xc_1 gc_1_feel_0, xc_3 gc_1_feel_1, xl_aload0, xl_iinc3a, xl_iinc3i, xl_iinc3n, xl_iload1, xl_iload2, xl_iload3, xl_iload4, xl_istore2a, xl_istore2i, xl_istore2n, xl_istore3a, xl_istore3i, xl_istore3n, xl_istore4a, xl_istore4i, xl_istore4n, xm_f, xm_n, xm_t, xn_2, xn_4, xo_1_0, xo_1_1, xo_1_3, xo_39_0, xo_39_4, xo_39_5, xr_dup2, xr_goto, xr_iadd, xr_ic_eq, xr_ic_ge, xr_ic_gt, xr_iconst, xr_imul, xr_isub, xr_vret, xs_2, xs_4, xs_42, xs_43, xtl_n, xtl_s, xz_i, xz_l, xz_n, xz_r, wb_1_feel_0, wb_1_feel_2, wb_1_feel_3, wb_1_feel_4, zz_b, zz_bn, Classical.not_not, true_and, Nat.reduceAdd, Nat.reduceLeDiff]
    exact ⟨fun _ => hQ a2 hs (by rw [f1, hm]; rfl) (fun o z1 z2 => f2 o z1 (by omega)) f3 f4, fun z => by omega⟩
  · intro d hdm ih a2 hs f1 f2 f3 f4
    have hE := cE_of hs (by simp)
    have E2 := hE 2 (by omega) (by omega)
    have E4 := hE 4 (by omega) (by omega)
    obtain ⟨-, ⟨g1, g2⟩, -⟩ := hr d (by omega) (by omega)
    have q5 := ab_bd (x := a 4 d - a 4 r) (p := 4999) (by omega) (by omega)
    have q1 := nrF_bd (c := a) (r := r) d
    rw [wb_1_feel_1]
    simp (disch := first | assumption | omega | exact zc_lo | exact zc_hi | exact zz_l | exact zz_u | exact zz_r) only [xa_2, xa_4, xa_42, xa_43, xc_1 gc_1_feel_0, xc_3 gc_1_feel_1, xl_aload0, xl_iinc3a, xl_iinc3i, xl_iinc3n, xl_iload1, xl_iload2, xl_iload3, xl_iload4, xl_istore2a, xl_istore2i, xl_istore2n, xl_istore3a, xl_istore3i, xl_istore3n, xl_istore4a, xl_istore4i, xl_istore4n, xm_f, xm_n, xm_t, xn_2, xn_4, xo_1_0, xo_1_1, xo_1_3, xo_39_0, xo_39_4, xo_39_5, xr_dup2, xr_goto, xr_iadd, xr_ic_eq, xr_ic_ge, xr_ic_gt, xr_iconst, xr_imul, xr_isub, xr_vret, xs_2, xs_4, xs_42, xs_43, xtl_n, xtl_s, xz_i, xz_l, xz_n, xz_r, wb_1_feel_0, wb_1_feel_2, wb_1_feel_3, wb_1_feel_4, zz_b, zz_bn, Classical.not_not, true_and, Nat.reduceAdd, Nat.reduceLeDiff, sp_8_abs, E2, E4]
    have bad : neB a r d = false → dk_WP g_1_feel b_1_feel Q 1 [some (.inr (.inr 39)), some (.inl r), some (.inl (a 4 r)), some (.inl ((d : Int) + 1)), none] [] (HH n xs w (dk_up a2 43 (dk_ui (a2 43) (r * 24 + d) (-2000000000))) i) := by
      intro hf
      rw [cs d]
      refine ih _ (sA_up hs (by simp) _) (by rw [up_n (by decide), f1, nrF, hf]; rfl) (fun o z1 z2 => ?_) (fun j hj => by rw [up_n (by decide)]; exact f3 j hj) (fun j hj => ?_)
      · rw [up_s]
        by_cases e : o = d
        · subst e; rw [ui_s, hf]; rfl
        · rw [ui_n (by omega)]; exact f2 o z1 (by omega)
      · rw [up_s, ui_n (by omega)]; exact f4 j hj
    refine ⟨fun z => by omega, fun _ => ⟨fun z => bad (by unfold neB; rw [decide_eq_false (by omega)]; rfl), fun z => ⟨fun z2 => bad (by unfold neB; rw [decide_eq_false (p := ab (a 4 d - a 4 r) ≤ a 2 3) (by omega), Bool.and_false]), fun z2 => ?_⟩⟩⟩
    have hf : neB a r d = true := by unfold neB; rw [decide_eq_true (by omega), decide_eq_true (by omega)]; rfl
    have hcc := colN_E hE (fun _ _ => rfl) hc
    rw [sp_0_lagBetween (by rw [E2]; exact s1) (by rw [E2]; exact s2) (by rw [E2]; exact v1) (by rw [E2]; exact v2) (by omega) (by omega) (by omega) (by omega)]
    simp (disch := first | assumption | omega | exact zc_lo | exact zc_hi | exact zz_l | exact zz_u | exact zz_r) only [xa_2, xa_4, xa_42, xa_43, xc_1 gc_1_feel_0, xc_3 gc_1_feel_1, xl_aload0, xl_iinc3a, xl_iinc3i, xl_iinc3n, xl_iload1, xl_iload2, xl_iload3, xl_iload4, xl_istore2a, xl_istore2i, xl_istore2n, xl_istore3a, xl_istore3i, xl_istore3n, xl_istore4a, xl_istore4i, xl_istore4n, xm_f, xm_n, xm_t, xn_2, xn_4, xo_1_0, xo_1_1, xo_1_3, xo_39_0, xo_39_4, xo_39_5, xr_dup2, xr_goto, xr_iadd, xr_ic_eq, xr_ic_ge, xr_ic_gt, xr_iconst, xr_imul, xr_isub, xr_vret, xs_2, xs_4, xs_42, xs_43, xtl_n, xtl_s, xz_i, xz_l, xz_n, xz_r, wb_1_feel_0, wb_1_feel_2, wb_1_feel_3, wb_1_feel_4, zz_b, zz_bn, Classical.not_not, true_and, Nat.reduceAdd, Nat.reduceLeDiff, E2, up_s]
    rw [cs d, up_n (show ¬ 42 = 43 by decide)]
    refine ih _ (sA_up (sA_up hs (by simp) _) (by simp) _) (by rw [up_s, ui_s, f1, nrF, hf]; rfl) (fun o z1 z2 => ?_) (fun j hj => by rw [up_s, ui_n hj]; exact f3 j hj) (fun j hj => ?_)
    · rw [up_n (by decide), up_s]
      by_cases e : o = d
      · subst e; rw [ui_s, hf]; rfl
      · rw [ui_n (by omega)]; exact f2 o z1 (by omega)
    · rw [up_n (by decide), up_s, ui_n (by omega)]; exact f4 j hj
end SN
