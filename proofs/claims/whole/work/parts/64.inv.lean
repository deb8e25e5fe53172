/-! BOTH SIDES ALIKE: the invariant -/
def agr (c : Nat → Int → Int) (k : Nat → Int) (c2 : Nat → Int → Int) (k2 : Nat → Int) : Prop :=
  kE k k2 ∧ (∀ j, 0 ≤ j → j < 7 → c2 2 j = c 2 j) ∧ (∀ r, 0 ≤ r → r < k 0 → c2 3 r = c 3 r ∧ c2 4 r = c 4 r ∧ c2 5 r = c 5 r ∧ c2 6 r = c 6 r ∧ c2 7 r = c 7 r ∧ c2 8 r = c 8 r) ∧ (∀ d, 0 ≤ d → d < k 1 → c2 9 d = c 9 d ∧ c2 10 d = c 10 d ∧ c2 11 d = c 11 d) ∧ (∀ b, 0 ≤ b → b < k 2 → c2 12 b = c 12 b) ∧ (∀ s, 0 ≤ s → s < 10 → c2 13 s = c 13 s)
section AG
variable {c c2 : Nat → Int → Int} {k k2 : Nat → Int} {o o2 : Int → Int} {r : Int}
theorem colN_A (h : agr c k c2 k2) (hc : colN c k) : colN c2 k2 := by
  obtain ⟨hk, h2, h3, h4, h5, h6⟩ := h
  have K0 := hk 0 (by omega)
  have K1 := hk 1 (by omega)
  have K2 := hk 2 (by omega)
  have K3 := hk 3 (by omega)
  obtain ⟨⟨p1, p2⟩, ⟨s1, s2⟩, ⟨v1, v2⟩, ⟨n1, n2⟩, ⟨o1, o2⟩, ⟨d1, d2⟩, ⟨e1, e2⟩, ⟨k1, k2⟩, hr, ⟨m1, m2⟩, hd, ⟨b1, b2⟩, hb, hs, hz⟩ := id hc
  refine ⟨?_, ?_, ?_, ?_, ?_, ?_, ?_, ?_, fun r z1 z2 => ?_, ?_, fun d z1 z2 => ?_, ?_, fun b z1 z2 => ?_, fun s z1 z2 => ?_, ?_⟩
  · rw [h2 0 (by omega) (by omega)]; exact ⟨p1, p2⟩
  · rw [h2 1 (by omega) (by omega)]; exact ⟨s1, s2⟩
  · rw [h2 2 (by omega) (by omega)]; exact ⟨v1, v2⟩
  · rw [h2 3 (by omega) (by omega)]; exact ⟨n1, n2⟩
  · rw [h2 4 (by omega) (by omega)]; exact ⟨o1, o2⟩
  · rw [h2 5 (by omega) (by omega)]; exact ⟨d1, d2⟩
  · rw [h2 6 (by omega) (by omega)]; exact ⟨e1, e2⟩
  · rw [K0]; exact ⟨k1, k2⟩
  · rw [K0] at z2
    obtain ⟨g3, g4, g5, g6, g7, g8⟩ := h3 r z1 z2
    unfold rkOK
    rw [g3, g4, g5, g6, g7, g8, h2 0 (by omega) (by omega)]
    exact hr r z1 z2
  · rw [K1]; exact ⟨m1, m2⟩
  · rw [K1] at z2
    obtain ⟨g1, g2, g3⟩ := h4 d z1 z2
    rw [g1, g2, g3]
    exact hd d z1 z2
  · rw [K2]; exact ⟨b1, b2⟩
  · rw [K2] at z2
    rw [h5 b z1 z2]
    exact hb b z1 z2
  · rw [h6 s z1 z2, K0]
    exact hs s z1 z2
  · rw [K3]; exact hz
theorem drF_A {da da2 dl dl2 : Int → Int} {x : Int} : ∀ (m : Nat), (∀ d : Int, 0 ≤ d → d < m → da2 d = da d ∧ dl2 d = dl d) → drF da2 dl2 x m = drF da dl x m
  | 0, _ => rfl
  | m + 1, h => by
    unfold drF
    rw [drF_A m (fun d h0 h1 => h d h0 (by omega)), (h m (by omega) (by omega)).1, (h m (by omega) (by omega)).2]
theorem beP_A {be be2 : Int → Int} {lo hi : Int} : ∀ (m : Nat), (∀ d : Int, 0 ≤ d → d < m → be2 d = be d) → beP be2 lo hi m = beP be lo hi m
  | 0, _ => rfl
  | m + 1, h => by
    unfold beP
    rw [beP_A m (fun d h0 h1 => h d h0 (by omega)), h m (by omega) (by omega)]
theorem drm_A (h : agr c k c2 k2) (h0 : 0 ≤ r) (h1 : r < k 0) (h3 : 0 ≤ k 1) : drF (c2 9) (c2 10) (c2 4 r) (k2 1).toNat = drF (c 9) (c 10) (c 4 r) (k 1).toNat := by
  rw [h.1 1 (by omega), (h.2.2.1 r h0 h1).2.1]
  exact drF_A _ (fun d z1 z2 => by obtain ⟨g1, g2, -⟩ := h.2.2.2.1 d z1 (by omega); exact ⟨g1, g2⟩)
theorem beF_A (h : agr c k c2 k2) (hc : colN c k) (h0 : 0 ≤ r) (h1 : r < k 0) : beF c2 k2 r = beF c k r := by
  obtain ⟨⟨p1, p2⟩, ⟨s1, s2⟩, ⟨v1, v2⟩, ⟨n1, n2⟩, ⟨o1, o2⟩, ⟨d1, d2⟩, ⟨e1, e2⟩, ⟨k1, k2⟩, hr, ⟨m1, m2⟩, hd, ⟨b1, b2⟩, hb, hs, hz⟩ := id hc
  have q := drF_bd (da := c 9) (dl := c 10) (x := c 4 r) (k 1).toNat (fun j h1 h2 => (hd j h1 (by omega)).2.1.2)
  unfold beF
  rw [drm_A h h0 h1 m1, h.2.1 1 (by omega) (by omega), h.2.1 2 (by omega) (by omega), (h.2.2.1 r h0 h1).2.1]
  by_cases z : (drF (c 9) (c 10) (c 4 r) (k 1).toNat).1 = -1
  · rw [if_pos z, if_pos z]
  · rw [if_neg z, if_neg z]
    obtain ⟨g1, -, g3⟩ := h.2.2.2.1 (drF (c 9) (c 10) (c 4 r) (k 1).toNat).1 (by omega) (by omega)
    rw [g1, g3]
theorem bnF_A (h : agr c k c2 k2) (hc : colN c k) (h0 : 0 ≤ r) (h1 : r < k 0) : bnF c2 k2 r = bnF c k r := by
  obtain ⟨⟨p1, p2⟩, ⟨s1, s2⟩, ⟨v1, v2⟩, ⟨n1, n2⟩, ⟨o1, o2⟩, ⟨d1, d2⟩, ⟨e1, e2⟩, ⟨k1, k2⟩, hr, ⟨m1, m2⟩, hd, ⟨b1, b2⟩, hb, hs, hz⟩ := id hc
  unfold bnF
  by_cases z : 0 < r
  · rw [h.1 2 (by omega), (h.2.2.1 r h0 h1).2.1, (h.2.2.1 (r - 1) (by omega) (by omega)).2.1, beP_A _ (fun d z1 z2 => h.2.2.2.2.1 d z1 (by omega))]
  · rw [decide_eq_false z]; rfl
theorem neB_A (h : agr c k c2 k2) (h0 : 0 ≤ r) (h1 : r < k 0) {j : Int} (h2 : 0 ≤ j) (h3 : j < k 0) : neB c2 r j = neB c r j := by
  unfold neB
  rw [(h.2.2.1 r h0 h1).2.1, (h.2.2.1 j h2 h3).2.1, h.2.1 3 (by omega) (by omega)]
theorem nrF_A (h : agr c k c2 k2) (h0 : 0 ≤ r) (h1 : r < k 0) : ∀ j : Nat, (j : Int) ≤ k 0 → nrF c2 r j = nrF c r j
  | 0, _ => rfl
  | j + 1, hj => by unfold nrF; rw [neB_A h h0 h1 (by omega) (by omega), nrF_A h h0 h1 j (by omega)]
theorem smF_A (h : agr c k c2 k2) (h0 : 0 ≤ r) (h1 : r < k 0) : ∀ j : Nat, (j : Int) ≤ k 0 → smF c2 o r j = smF c o r j
  | 0, _ => rfl
  | j + 1, hj => by unfold smF; rw [neB_A h h0 h1 (by omega) (by omega), smF_A h h0 h1 j (by omega), h.2.1 0 (by omega) (by omega), h.2.1 1 (by omega) (by omega), h.2.1 2 (by omega) (by omega), (h.2.2.1 r h0 h1).2.1, (h.2.2.1 j (by omega) (by omega)).2.1]
theorem tuF_A (h : agr c k c2 k2) (hc : colN c k) (h0 : 0 ≤ r) (h1 : r < k 0) : tuF c2 k2 o r = tuF c k o r := by
  have k1 := hc.2.2.2.2.2.2.2.1.1
  obtain ⟨g3, g4, g5, g6, g7, g8⟩ := h.2.2.1 r h0 h1
  have e1 : earF c2 k2 o r = earF c k o r := by unfold earF; rw [beF_A h hc h0 h1, h.2.1 0 (by omega) (by omega), g5]
  have e2 : eyeF c2 k2 o r = eyeF c k o r := by unfold eyeF; rw [bnF_A h hc h0 h1, h.2.1 0 (by omega) (by omega), g5]
  have e3 : feF c2 k2 o r = feF c k o r := by unfold feF; rw [e1, h.1 0 (by omega), nrF_A h h0 h1 _ (by omega), smF_A h h0 h1 _ (by omega), g5]
  unfold tuF
  rw [e1, e2, e3, g3, g6, g7, h.2.1 0 (by omega) (by omega), h.2.1 4 (by omega) (by omega)]
theorem stF_A (h : agr c k c2 k2) (hc : colN c k) : oE k (stF c k o) (stF c2 k2 o) := fun r h0 h1 => by
  unfold stF
  rw [tuF_A h hc h0 h1, h.2.1 0 (by omega) (by omega)]
/-- marches of both are alike -/
theorem maF_A (h : agr c k c2 k2) (hc : colN c k) (ho : oE k o o2) : ∀ t, oE k (maF c k o t) (maF c2 k2 o2 t)
  | 0 => ho
  | t + 1 => fun r h0 h1 => by
    have e1 := stF_A (o := maF c2 k2 o2 t) h hc r h0 h1
    have e2 := stF_o (c := c) (maF_A h hc ho t) r h0 h1
    exact e1.trans e2
end AG
/-- what was kept: the class', the reference's -/
def kc (a : Nat → Int → Int) : Nat → Int → Int := fun j => match j with
  | 2 => a 15
  | 3 => a 16
  | 4 => a 17
  | 5 => a 18
  | 6 => a 19
  | 7 => a 20
  | 8 => a 21
  | 9 => a 22
  | 10 => a 23
  | 11 => a 24
  | 12 => a 25
  | 13 => a 26
  | _ => fun _ => 0
def kk (i : Nat → Int) : Nat → Int := fun j => match j with
  | 0 => i 4
  | 1 => i 5
  | 2 => i 6
  | _ => i 7
def km (a : Nat → Int → Int) : Nat → Int → Int := fun j => match j with
  | 2 => fun j => a 75 (4 + j)
  | 3 => fun r => a 75 (11 + (5 * r + 0))
  | 4 => fun r => a 75 (11 + (5 * r + 1))
  | 5 => fun r => a 75 (11 + (5 * r + 2))
  | 6 => fun r => a 75 (11 + (5 * r + 3))
  | 7 => fun r => a 75 (11 + (5 * r + 4))
  | 8 => fun r => a 75 (131 + r)
  | 9 => fun d => a 75 (155 + (3 * d))
  | 10 => fun d => a 75 (155 + (3 * d + 1))
  | 11 => fun d => a 75 (155 + (3 * d + 2))
  | 12 => fun b => a 75 (173 + b)
  | 13 => fun s => a 75 (179 + s)
  | _ => fun _ => 0
def kn (a : Nat → Int → Int) : Nat → Int := fun j => a 75 j
/-- a sheet of both: bits, size, numbers -/
def sh1 (b z : Int) (f : Int → Int) (b2 z2 : Int) (g : Int → Int) : Prop := (b = 0 ∨ b = 8 ∨ b = 16 ∨ b = 32) ∧ (0 ≤ z ∧ z ≤ 40) ∧ (b = 0 → z = 0) ∧ b2 = b ∧ z2 = z ∧ ∀ j, 0 ≤ j → j < 40 → (-2147483648 ≤ f j ∧ f j ≤ 2147483647) ∧ g j = f j
def Inv (N : Int) (w : Nat → Nat) (a : Nat → Int → Int) (i : Nat → Int) : Prop :=
  (wP w ∧ wQ w) ∧ colN a i ∧ agr a i (mv a) (mi i) ∧ ((i 8 = 0 ∨ i 8 = 1) ∧ i 42 = i 8 ∧ (i 8 = 1 → colN (kc a) (kk i) ∧ agr (kc a) (kk i) (km a) (kn a))) ∧
  ((0 ≤ i 9 ∧ i 9 ≤ 120) ∧ i 34 = i 9 ∧ ∀ j, 0 ≤ j → j < i 9 → (0 ≤ a 28 j ∧ a 28 j ≤ 255) ∧ a 63 j = a 28 j) ∧
  (sh1 (i 16) (i 20) (a 35) (a 71 0) (a 72 0) (fun j => a 73 (40 * 0 + j)) ∧ sh1 (i 17) (i 21) (a 36) (a 71 1) (a 72 1) (fun j => a 73 (40 * 1 + j)) ∧ sh1 (i 18) (i 22) (a 37) (a 71 2) (a 72 2) (fun j => a 73 (40 * 2 + j)) ∧ sh1 (i 19) (i 23) (a 38) (a 71 3) (a 72 3) (fun j => a 73 (40 * 3 + j))) ∧
  ((0 ≤ N) ∧ ∀ j, 0 ≤ j → j < 7 → (0 ≤ a 52 j ∧ a 52 j ≤ N) ∧ a 62 j = a 52 j) ∧ (∀ j, 0 ≤ j → j < 7 → a 55 j = hh_le j ∧ a 56 j = hh_mo j)
def sI (js : List Nat) (i i2 : Nat → Int) : Prop := ∀ j, j ∉ js → i2 j = i j
theorem sI_rf {js : List Nat} {i : Nat → Int} : sI js i i := fun _ _ => rfl
theorem sI_tr {js : List Nat} {a b c : Nat → Int} (h1 : sI js a b) (h2 : sI js b c) : sI js a c := fun k hk => (h2 k hk).trans (h1 k hk)
theorem sI_up {js : List Nat} {a b : Nat → Int} {k : Nat} (h : sI js a b) (hk : k ∈ js) (x : Int) : sI js a (dk_up b k x) := fun j hj => by
  have : ¬ j = k := fun e => hj (e ▸ hk)
  simp only [dk_up, if_neg this]
  exact h j hj
theorem sI_w {ks ks2 : List Nat} {a b : Nat → Int} (h : sI ks a b) (hs : ∀ k ∈ ks, k ∈ ks2) : sI ks2 a b := fun k hk => h k (fun z => hk (hs k z))
/-- rows and numbers that nobody asks of later -/
def SC : List Nat := [29, 40, 41, 42, 43, 45, 46, 48, 49, 50, 51, 64, 65, 66, 67, 68, 69, 70, 74, 76]
def SJ : List Nat := [10, 11, 12, 13, 14, 15, 24, 35, 36, 37, 38, 39, 40, 41, 43]
theorem Inv_scr {N : Int} {w w2 : Nat → Nat} {a a2 : Nat → Int → Int} {i i2 : Nat → Int} (h : Inv N w a i) (h1 : wP w2) (h2 : wQ w2) (hA : sA SC a a2) (hI : sI SJ i i2) : Inv N w2 a2 i2 := by
  have hm : mv a2 = mv a := by
    unfold mv
    rw [hA 54 (by decide), hA 57 (by decide), hA 58 (by decide), hA 59 (by decide), hA 60 (by decide), hA 61 (by decide)]
  have hmi : ∀ j, j ≤ 3 → mi i2 j = mi i j := by
    intro j hj
    refine hI (30 + j) ?_
    intro z
    simp only [SJ, List.mem_cons, List.not_mem_nil, or_false] at z
    omega
  have hcE : cE a a2 := fun j z1 z2 => hA j (by intro z; simp only [SC, List.mem_cons, List.not_mem_nil, or_false] at z; omega)
  have hkE : kE i i2 := fun j z => hI j (by intro z; simp only [SJ, List.mem_cons, List.not_mem_nil, or_false] at z; omega)
  have hkc : kc a2 = kc a := by
    unfold kc
    rw [hA 15 (by decide), hA 16 (by decide), hA 17 (by decide), hA 18 (by decide), hA 19 (by decide), hA 20 (by decide), hA 21 (by decide), hA 22 (by decide), hA 23 (by decide), hA 24 (by decide), hA 25 (by decide), hA 26 (by decide)]
  have hkk : kk i2 = kk i := by
    unfold kk
    rw [hI 4 (by decide), hI 5 (by decide), hI 6 (by decide), hI 7 (by decide)]
  have hkm : km a2 = km a := by unfold km; rw [hA 75 (by decide)]
  have hkn : kn a2 = kn a := by unfold kn; rw [hA 75 (by decide)]
  obtain ⟨-, g2, g3, g4, g5, g6, g7, g8⟩ := h
  refine ⟨⟨h1, h2⟩, colN_E hcE hkE g2, ?_, ?_, ?_, ?_, ?_, ?_⟩
  · rw [hm]
    obtain ⟨q1, q2, q3, q4, q5, q6⟩ := g3
    refine ⟨fun j hj => by rw [hmi j hj, hkE j hj]; exact q1 j hj, ?_, ?_, ?_, ?_, ?_⟩
    · rw [hcE 2 (by omega) (by omega)]; exact q2
    · rw [hkE 0 (by omega), hcE 3 (by omega) (by omega), hcE 4 (by omega) (by omega), hcE 5 (by omega) (by omega), hcE 6 (by omega) (by omega), hcE 7 (by omega) (by omega), hcE 8 (by omega) (by omega)]; exact q3
    · rw [hkE 1 (by omega), hcE 9 (by omega) (by omega), hcE 10 (by omega) (by omega), hcE 11 (by omega) (by omega)]; exact q4
    · rw [hkE 2 (by omega), hcE 12 (by omega) (by omega)]; exact q5
    · rw [hcE 13 (by omega) (by omega)]; exact q6
  · rw [hI 8 (by decide), hI 42 (by decide), hkc, hkk, hkm, hkn]; exact g4
  · rw [hI 9 (by decide), hI 34 (by decide), hA 28 (by decide), hA 63 (by decide)]; exact g5
  · rw [hI 16 (by decide), hI 17 (by decide), hI 18 (by decide), hI 19 (by decide), hI 20 (by decide), hI 21 (by decide), hI 22 (by decide), hI 23 (by decide), hA 35 (by decide), hA 36 (by decide), hA 37 (by decide), hA 38 (by decide), hA 71 (by decide), hA 72 (by decide), hA 73 (by decide)]; exact g6
  · rw [hA 52 (by decide), hA 62 (by decide)]; exact g7
  · rw [hA 55 (by decide), hA 56 (by decide)]; exact g8
/-- what is shown of each call of both -/
def OPQ (n : Nat) (xs : Int → Int) (N : Int) (r : Option dk_V) (r2 : Option dk_V) (h2 : dk_H) : Prop := ∃ e : Int, r = some (.inl e) ∧ r2 = some (.inl e) ∧ (-2147483648 ≤ e ∧ e ≤ 2147483647) ∧ ∃ w a i, h2 = HH n xs w a i ∧ Inv (N + 1) w a i
theorem OPQ_i {n : Nat} {xs : Int → Int} {N e : Int} {w : Nat → Nat} {a : Nat → Int → Int} {i : Nat → Int} (h1 : -2147483648 ≤ e) (h2 : e ≤ 2147483647) (h : Inv (N + 1) w a i) : OPQ n xs N (some (.inl e)) (some (.inl e)) (HH n xs w a i) := ⟨e, rfl, rfl, ⟨h1, h2⟩, w, a, i, rfl, h⟩
theorem Inv_N {N M : Int} {w : Nat → Nat} {a : Nat → Int → Int} {i : Nat → Int} (h : Inv N w a i) (hM : N ≤ M) : Inv M w a i := by
  obtain ⟨g1, g2, g3, g4, g5, g6, ⟨q0, q1⟩, g8⟩ := h
  exact ⟨g1, g2, g3, g4, g5, g6, ⟨by omega, fun j z1 z2 => by obtain ⟨q2, q3⟩ := q1 j z1 z2; exact ⟨by omega, q3⟩⟩, g8⟩
/-- behind a finding of both -/
theorem Inv_fi {N : Int} {w : Nat → Nat} {a : Nat → Int → Int} {i : Nat → Int} (h : Inv N w a i) {k : Int} (h1 : 0 ≤ k) (h2 : k < 7) : Inv (N + 1) w (dk_up (dk_up a 52 (dk_ui (a 52) k (a 52 k + 1))) 62 (dk_ui (dk_up a 52 (dk_ui (a 52) k (a 52 k + 1)) 62) k (dk_up a 52 (dk_ui (a 52) k (a 52 k + 1)) 62 k + 1))) i := by
  have e62 : dk_up a 52 (dk_ui (a 52) k (a 52 k + 1)) 62 = a 62 := up_n (by decide)
  rw [e62]
  obtain ⟨g1, g2, g3, g4, g5, g6, ⟨q0, q1⟩, g8⟩ := h
  refine ⟨g1, g2, g3, g4, g5, g6, ⟨by omega, fun j z1 z2 => ?_⟩, g8⟩
  rw [up_s, up_n (show ¬ 52 = 62 by decide), up_s]
  obtain ⟨q2, q3⟩ := q1 j z1 z2
  by_cases e : j = k
  · subst e
    rw [ui_s, ui_s, q3]
    exact ⟨by omega, rfl⟩
  · rw [ui_n e, ui_n e]
    exact ⟨by omega, q3⟩
