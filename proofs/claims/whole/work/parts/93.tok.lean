/-! TEXTS: tokens of both readers -/
/-- a byte's sort: 0 none, 1 letter, 2 digit, 3 sign, 4 blank, 5 other -/
def kcF (x : Int) : Int := if 97 ≤ x ∧ x ≤ 122 then 1 else if 48 ≤ x ∧ x ≤ 57 then 2 else if x = 59 then 3 else if x = 32 then 4 else 5
def tkF (x : Int) : Int := if x < 0 then 0 else kcF x
theorem kcF_b (x : Int) : 1 ≤ kcF x ∧ kcF x ≤ 5 := by unfold kcF; (repeat' split) <;> omega
theorem tkF_0 {x : Int} : tkF x = 0 ↔ x < 0 := by
  have := kcF_b x
  unfold tkF
  split <;> omega
theorem tkF_p {x : Int} (h : 0 ≤ x) : tkF x = kcF x := if_neg (by omega)
theorem tkF_b (x : Int) : 0 ≤ tkF x ∧ tkF x ≤ 5 := by
  have := kcF_b x
  unfold tkF
  split <;> omega
theorem kcF_1 {x : Int} : kcF x = 1 ↔ (97 ≤ x ∧ x ≤ 122) := by
  unfold kcF
  constructor
  · intro h; (repeat' split at h) <;> omega
  · intro h; rw [if_pos h]
theorem kcF_2 {x : Int} : kcF x = 2 ↔ (48 ≤ x ∧ x ≤ 57) := by
  unfold kcF
  constructor
  · intro h; (repeat' split at h) <;> omega
  · intro h; rw [if_neg (by omega), if_pos h]
theorem kcF_3 {x : Int} : kcF x = 3 ↔ x = 59 := by
  unfold kcF
  constructor
  · intro h; (repeat' split at h) <;> omega
  · intro h; subst h; rfl
theorem kcF_4 {x : Int} : kcF x = 4 ↔ x = 32 := by
  unfold kcF
  constructor
  · intro h; (repeat' split at h) <;> omega
  · intro h; subst h; rfl
theorem tkF_1 {x : Int} : tkF x = 1 ↔ (97 ≤ x ∧ x ≤ 122) := by
  by_cases h : x < 0
  · have := tkF_0.mpr h; omega
  · rw [tkF_p (by omega)]; exact kcF_1
theorem tkF_2 {x : Int} : tkF x = 2 ↔ (48 ≤ x ∧ x ≤ 57) := by
  by_cases h : x < 0
  · have := tkF_0.mpr h; omega
  · rw [tkF_p (by omega)]; exact kcF_2
theorem tkF_3 {x : Int} : tkF x = 3 ↔ x = 59 := by
  by_cases h : x < 0
  · have := tkF_0.mpr h; omega
  · rw [tkF_p (by omega)]; exact kcF_3
theorem tkF_4 {x : Int} : tkF x = 4 ↔ x = 32 := by
  by_cases h : x < 0
  · have := tkF_0.mpr h; omega
  · rw [tkF_p (by omega)]; exact kcF_4
/-- a run of bytes of one sort -/
def ruF (b : Int → Int) (k : Int) : Nat → Int → Int
  | 0, s => s
  | f + 1, s => if tkF (b s) = k then ruF b k f (s + 1) else s
theorem ruF_y {b : Int → Int} {k : Int} {f : Nat} {s : Int} (h : tkF (b s) = k) : ruF b k (f + 1) s = ruF b k f (s + 1) := by rw [ruF, if_pos h]
theorem ruF_n {b : Int → Int} {k : Int} {f : Nat} {s : Int} (h : ¬ tkF (b s) = k) : ruF b k (f + 1) s = s := by rw [ruF, if_neg h]
theorem ruF_ge {b : Int → Int} {k : Int} : ∀ (f : Nat) (s : Int), s ≤ ruF b k f s
  | 0, s => by simp only [ruF]; omega
  | f + 1, s => by
    by_cases h : tkF (b s) = k
    · rw [ruF_y h]; have := ruF_ge (b := b) (k := k) f (s + 1); omega
    · rw [ruF_n h]; omega
theorem ruF_all {b : Int → Int} {k : Int} : ∀ (f : Nat) (s j : Int), s ≤ j → j < ruF b k f s → tkF (b j) = k
  | 0, s, j, h1, h2 => by simp only [ruF] at h2; omega
  | f + 1, s, j, h1, h2 => by
    by_cases h : tkF (b s) = k
    · rw [ruF_y h] at h2
      by_cases e : j = s
      · subst e; exact h
      · exact ruF_all f (s + 1) j (by omega) h2
    · rw [ruF_n h] at h2; omega
theorem ruF_stop {b : Int → Int} {k L : Int} (hL : ∀ j, L ≤ j → b j < 0) (hk : ¬ k = 0) : ∀ (f : Nat) (s : Int), L - s ≤ f → ¬ tkF (b (ruF b k f s)) = k
  | 0, s, h => by
    simp only [ruF]
    have := tkF_0.mpr (hL s (by omega))
    omega
  | f + 1, s, h => by
    by_cases h2 : tkF (b s) = k
    · rw [ruF_y h2]; exact ruF_stop hL hk f (s + 1) (by omega)
    · rw [ruF_n h2]; exact h2
theorem ruF_le {b : Int → Int} {k L : Int} (hL : ∀ j, L ≤ j → b j < 0) (hk : ¬ k = 0) {f : Nat} {s : Int} (h : s ≤ L) : ruF b k f s ≤ L := by
  have h1 := ruF_ge (b := b) (k := k) f s
  by_cases z : ruF b k f s ≤ L
  · exact z
  · have h2 := ruF_all (b := b) (k := k) f s (ruF b k f s - 1) (by omega) (by omega)
    have h3 := tkF_0.mpr (hL (ruF b k f s - 1) (by omega))
    omega
/-- what is read of the tape at a place -/
def byB (T : Int → Int) (L : Int) (s : Int) : Int := if 0 ≤ s ∧ s < L then T s else -1
def tS (b : Int → Int) (c : Int) : Int := ruF b 4 120 c
def tK (b : Int → Int) (c : Int) : Int := tkF (b (tS b c))
def tE (b : Int → Int) (c : Int) : Int := if tK b c = 3 ∨ tK b c = 5 then tS b c + 1 else if tK b c = 0 then tS b c else ruF b (tK b c) 120 (tS b c)
def nuC (b : Int → Int) : Nat → Int → Int → Int
  | 0, _, v => v
  | f + 1, s, v => if tkF (b s) = 2 then nuC b f (s + 1) (mn (v * 10 + b s - 48) 10000) else v
def nuM (b : Int → Int) : Nat → Int → Int → Int
  | 0, _, v => v
  | f + 1, s, v => if tkF (b s) = 2 then nuM b f (s + 1) (if 9999 < v then 10000 else 10 * v + b s - 48) else v
def encF (c : Nat → Int) : Nat → Int
  | 0 => 0
  | k + 1 => 27 * encF c k + c k - 96
def wdK (b : Int → Int) (s : Int) (k : Nat) : Int := if k ≤ 8 then encF (fun j => b (s + j)) k else -1
theorem nu_rel {b : Int → Int} (hb : ∀ s, -1 ≤ b s ∧ b s ≤ 255) : ∀ (f : Nat) (s u v : Int), 0 ≤ u → ((u = v ∧ v ≤ 9999) ∨ (u = 10000 ∧ 9999 < v ∧ v ≤ 100000)) → ((nuC b f s u = nuM b f s v ∧ nuM b f s v ≤ 9999 ∧ 0 ≤ nuC b f s u) ∨ (nuC b f s u = 10000 ∧ 9999 < nuM b f s v ∧ nuM b f s v ≤ 100000))
  | 0, s, u, v, h0, h => by simp only [nuC, nuM]; omega
  | f + 1, s, u, v, h0, h => by
    by_cases z : tkF (b s) = 2
    · rw [nuC, nuM, if_pos z, if_pos z]
      have q := tkF_2.mp z
      refine nu_rel hb f (s + 1) _ _ ?_ ?_
      · unfold mn; split <;> omega
      · unfold mn
        split <;> split <;> omega
    · rw [nuC, nuM, if_neg z, if_neg z]; omega
theorem encF_b {c : Nat → Int} : ∀ (k : Nat), (∀ j, j < k → 97 ≤ c j ∧ c j ≤ 122) → 0 ≤ encF c k ∧ encF c k < 27 ^ k ∧ (0 < k → 1 ≤ encF c k)
  | 0, _ => by simp only [encF]; omega
  | k + 1, h => by
    have q := encF_b k (fun j hj => h j (by omega))
    have q2 := h k (by omega)
    have e : (27 : Int) ^ (k + 1) = 27 * 27 ^ k := by rw [Int.pow_succ]; omega
    rw [encF, e]
    generalize (27 : Int) ^ k = P at q
    omega
theorem encF_i {c d : Nat → Int} : ∀ (k l : Nat), (∀ j, j < k → 97 ≤ c j ∧ c j ≤ 122) → (∀ j, j < l → 97 ≤ d j ∧ d j ≤ 122) → encF c k = encF d l → k = l ∧ ∀ j, j < k → c j = d j
  | 0, 0, _, _, _ => ⟨rfl, fun j hj => absurd hj (Nat.not_lt_zero j)⟩
  | 0, l + 1, hc, hd, h => by
    have q := (encF_b (l + 1) hd).2.2 (by omega)
    simp only [encF] at h q
    omega
  | k + 1, 0, hc, hd, h => by
    have q := (encF_b (k + 1) hc).2.2 (by omega)
    simp only [encF] at h q
    omega
  | k + 1, l + 1, hc, hd, h => by
    have q1 := hc k (by omega)
    have q2 := hd l (by omega)
    simp only [encF] at h
    have e1 : encF c k = encF d l := by omega
    have e2 : c k = d l := by omega
    obtain ⟨r1, r2⟩ := encF_i k l (fun j hj => hc j (by omega)) (fun j hj => hd j (by omega)) e1
    subst r1
    refine ⟨rfl, fun j hj => ?_⟩
    by_cases e : j = k
    · subst e; exact e2
    · exact r2 j (by omega)
theorem encF_e {c d : Nat → Int} : ∀ (k : Nat), (∀ j, j < k → c j = d j) → encF c k = encF d k
  | 0, _ => rfl
  | k + 1, h => by rw [encF, encF, encF_e k (fun j hj => h j (by omega)), h k (by omega)]
/-- what holds of a tape -/
def Tp (b : Int → Int) (L : Int) : Prop := (0 ≤ L ∧ L ≤ 120) ∧ (∀ s, -1 ≤ b s ∧ b s ≤ 255) ∧ (∀ j, L ≤ j → b j < 0) ∧ (∀ j, 0 ≤ j → j < L → 0 ≤ b j)
theorem Tp_of {T : Int → Int} {L : Int} (h1 : 0 ≤ L ∧ L ≤ 120) (h2 : ∀ j, 0 ≤ j → j < L → 0 ≤ T j ∧ T j ≤ 255) : Tp (byB T L) L := by
  refine ⟨h1, fun s => ?_, fun j hj => ?_, fun j z1 z2 => ?_⟩
  · unfold byB
    split
    · rename_i z; have := h2 s z.1 z.2; omega
    · omega
  · unfold byB; rw [if_neg (by omega)]; omega
  · unfold byB; rw [if_pos ⟨z1, z2⟩]; exact (h2 j z1 z2).1
section TP
variable {b : Int → Int} {L c : Int}
theorem tS_ge : c ≤ tS b c := ruF_ge _ _
theorem tS_le (h : Tp b L) (hc : c ≤ L) : tS b c ≤ L := ruF_le h.2.2.1 (by omega) hc
theorem tK_4 (h : Tp b L) (hc : 0 ≤ c) : ¬ tK b c = 4 := ruF_stop h.2.2.1 (by omega) 120 c (by have := h.1; omega)
theorem tK_lt (h : Tp b L) (hk : ¬ tK b c = 0) : tS b c < L := by
  by_cases z : tS b c < L
  · exact z
  · exact absurd (tkF_0.mpr (h.2.2.1 _ (by omega))) hk
theorem tK_b : 0 ≤ tK b c ∧ tK b c ≤ 5 := tkF_b _
theorem ruF_1 {k s : Int} {f : Nat} (hk : tkF (b s) = k) : s + 1 ≤ ruF b k (f + 1) s := by
  rw [ruF_y hk]; exact ruF_ge _ _
theorem tE_ge (hk : ¬ tK b c = 0) : tS b c + 1 ≤ tE b c := by
  unfold tE
  rw [if_neg hk]
  split
  · omega
  · exact ruF_1 rfl
theorem tE_ge0 : tS b c ≤ tE b c := by
  unfold tE
  split
  · omega
  · split
    · omega
    · exact ruF_ge _ _
theorem tE_le (h : Tp b L) (hc : c ≤ L) : tE b c ≤ L := by
  have h1 := tS_le h hc
  unfold tE
  split
  · rename_i z
    have := tK_lt (c := c) h (by omega)
    omega
  · split
    · exact h1
    · exact ruF_le h.2.2.1 (by assumption) h1
theorem tE_12 (hk : tK b c = 1 ∨ tK b c = 2) : tE b c = ruF b (tK b c) 120 (tS b c) := by
  unfold tE
  rw [if_neg (by omega), if_neg (by omega)]
end TP
section TK1
variable {N : Int} {n : Nat} {xs : Int → Int} {w : Nat → Nat} {a : Nat → Int → Int} {i : Nat → Int} {Q : dk_Q}
theorem sp_3_tokenOf {x : Int} {h : dk_H} (h1 : -2147483648 ≤ x) (h2 : x ≤ 2147483647) : s_3_tokenOf [.inl x] h Q = Q (some (.inl (kcF x))) h := by
  unfold kcF
  simp (disch := first | assumption | omega | exact zc_lo | exact zc_hi | exact zz_l | exact zz_u | exact zz_r) only [xl_iload0, xm_f, xm_n, xm_t, xn_1, xn_2, xn_3, xn_4, xr_goto, xr_ic_gt, xr_ic_lt, xr_ic_ne, xr_iconst, xr_iret, xtl_n, xtl_s, xz_i, xz_l, xz_n, xz_r, wb_3_tokenOf_0, wb_3_tokenOf_1, wb_3_tokenOf_2, wb_3_tokenOf_3, wb_3_tokenOf_4, wb_3_tokenOf_5, ss_3_tokenOf, zz_b, zz_bn, Classical.not_not, true_and, Nat.reduceAdd, Nat.reduceLeDiff]
  by_cases c1 : 97 ≤ x
  · have d1 : ¬ x < 97 := by omega
    by_cases c2 : x ≤ 122
    · have d2 : ¬ 122 < x := by omega
      simp only [c1, c2, d1, d2, true_implies, false_implies, implies_true, not_true_eq_false, not_false_eq_true, true_and, and_true, false_and, and_false, true_or, or_true, false_or, or_false, Bool.false_eq_true, Classical.not_not, ↓reduceIte]
    · have d2 : 122 < x := by omega
      have d3 : ¬ x < 48 := by omega
      have d4 : 57 < x := by omega
      have d5 : ¬ x ≤ 57 := by omega
      have d6 : ¬ x = 59 := by omega
      have d7 : ¬ x = 32 := by omega
      simp only [c1, c2, d1, d2, d3, d4, d5, d6, d7, true_implies, false_implies, implies_true, not_true_eq_false, not_false_eq_true, true_and, and_true, false_and, and_false, true_or, or_true, false_or, or_false, Bool.false_eq_true, Classical.not_not, ↓reduceIte]
  · have d1 : x < 97 := by omega
    by_cases c3 : 48 ≤ x
    · have d3 : ¬ x < 48 := by omega
      by_cases c4 : x ≤ 57
      · have d4 : ¬ 57 < x := by omega
        simp only [c1, d1, c3, d3, c4, d4, true_implies, false_implies, implies_true, not_true_eq_false, not_false_eq_true, true_and, and_true, false_and, and_false, true_or, or_true, false_or, or_false, Bool.false_eq_true, Classical.not_not, ↓reduceIte]
      · have d4 : 57 < x := by omega
        by_cases c5 : x = 59
        · subst c5; simp
        · have d7 : ¬ x = 32 := by omega
          simp only [c1, d1, c3, d3, c4, d4, c5, d7, true_implies, false_implies, implies_true, not_true_eq_false, not_false_eq_true, true_and, and_true, false_and, and_false, true_or, or_true, false_or, or_false, Bool.false_eq_true, Classical.not_not, ↓reduceIte]
    · have d3 : x < 48 := by omega
      have d6 : ¬ x = 59 := by omega
      by_cases c5 : x = 32
      · subst c5; simp
      · simp only [c1, d1, c3, d3, c5, d6, true_implies, false_implies, implies_true, not_true_eq_false, not_false_eq_true, true_and, and_true, false_and, and_false, true_or, or_true, false_or, or_false, Bool.false_eq_true, Classical.not_not, ↓reduceIte]
theorem sp_6_byteAt {k : Int} (h1 : 0 ≤ k) (h2 : k ≤ 2147483647) (h3 : 0 ≤ i 34 ∧ i 34 ≤ 120) : s_6_byteAt [.inr (.inr 53), .inl k] (HH n xs w a i) Q = Q (some (.inl (byB (a 63) (i 34) k))) (HH n xs w a i) := by
  unfold byB
  by_cases c : k < i 34
  · have d : ¬ i 34 ≤ k := by omega
    have e : 0 ≤ k ∧ k < i 34 := ⟨h1, c⟩
    simp (disch := first | assumption | omega | exact zc_lo | exact zc_hi | exact zz_l | exact zz_u | exact zz_r) only [xa_63, xl_aload0, xl_iload1, xm_f, xm_n, xm_t, xn_1, xo_53_13, xo_53_14, xr_goto, xr_ic_ge, xr_iconst, xr_iret, xtl_n, xtl_s, xz_i, xz_l, xz_n, xz_r, wb_6_byteAt_0, wb_6_byteAt_1, wb_6_byteAt_2, ss_6_byteAt, zz_b, zz_bn, Classical.not_not, true_and, Nat.reduceAdd, Nat.reduceLeDiff, d, e, true_implies, false_implies, implies_true, not_true_eq_false, not_false_eq_true, and_true, false_and, and_false, if_true, if_false, Int.reduceEq, Int.reduceSub, Int.reduceAdd, Int.reduceMul, Int.reduceNeg, Int.reduceLT, Int.reduceLE, Int.add_zero]
  · have d : i 34 ≤ k := by omega
    have e : ¬ (0 ≤ k ∧ k < i 34) := by omega
    simp (disch := first | assumption | omega | exact zc_lo | exact zc_hi | exact zz_l | exact zz_u | exact zz_r) only [xa_63, xl_aload0, xl_iload1, xm_f, xm_n, xm_t, xn_1, xo_53_13, xo_53_14, xr_goto, xr_ic_ge, xr_iconst, xr_iret, xtl_n, xtl_s, xz_i, xz_l, xz_n, xz_r, wb_6_byteAt_0, wb_6_byteAt_1, wb_6_byteAt_2, ss_6_byteAt, zz_b, zz_bn, Classical.not_not, true_and, Nat.reduceAdd, Nat.reduceLeDiff, d, e, true_implies, false_implies, implies_true, not_true_eq_false, not_false_eq_true, and_true, false_and, and_false, if_true, if_false, Int.reduceEq, Int.reduceSub, Int.reduceAdd, Int.reduceMul, Int.reduceNeg, Int.reduceLT, Int.reduceLE, Int.add_zero]
def TC : List Nat := [12, 13, 14, 15]
/-- the class' token at a cursor -/
def CT (b : Int → Int) (c : Int) (i : Nat → Int) : Prop := i 12 = tK b c ∧ i 13 = tS b c ∧ i 14 = tE b c ∧ (0 ≤ i 15 ∧ i 15 ≤ 10000) ∧ (tK b c = 2 → i 15 = nuC b 120 (tS b c) 0)
theorem sp_3_nextToken (hT : Tp (byB (a 28) (i 9)) (i 9)) (h0 : 0 ≤ i 14) (h1 : i 14 ≤ i 9) : (∀ i2, sI TC i i2 → CT (byB (a 28) (i 9)) (i 14) i2 → Q none (HH n xs w a i2)) → s_3_nextToken [.inr (.inr 27)] (HH n xs w a i) Q := by
  intro hQ
  have hTT := hT
  obtain ⟨⟨L0, L1⟩, hb, hL, hP⟩ := hT
  have byv : ∀ s, 0 ≤ s → s < i 9 → byB (a 28) (i 9) s = a 28 s := fun s z1 z2 => by unfold byB; rw [if_pos ⟨z1, z2⟩]
  generalize hbb : byB (a 28) (i 9) = b at hQ hTT hb hL hP byv
  generalize hc : i 14 = c at hQ h0 h1
  have hSL := tS_le hTT h1
  have hSg := tS_ge (b := b) (c := c)
  have hEL := tE_le hTT h1
  -- the second loop
  have lp2 : ∀ (k : Int), (k = 1 ∨ k = 2) → k = tK b c → ∀ (f : Nat) (e v : Int) (i2 : Nat → Int), i 9 - e ≤ f → 0 ≤ e → e ≤ i 9 → sI TC i i2 → i2 12 = k → i2 13 = tS b c → i2 14 = e → i2 15 = v → (0 ≤ v ∧ v ≤ 10000) → ruF b k f e = tE b c → (k = 2 → nuC b f e v = nuC b 120 (tS b c) 0) → dk_WP g_3_nextToken b_3_nextToken Q 6 [some (.inr (.inr 27))] [] (HH n xs w a i2) := by
    intro k hk hkk f
    induction f with
    | zero =>
      intro e v i2 hf e0 eL hs g12 g13 g14 g15 hv hE hN
      have g9 : i2 9 = i 9 := hs 9 (by decide)
      rw [wb_3_nextToken_6]
      simp (disch := first | assumption | omega | exact zc_lo | exact zc_hi | exact zz_l | exact zz_u | exact zz_r) only [xa_28, xc_1 gc_3_nextToken_0, xc_2 gc_3_nextToken_1, xl_aload0, xm_f, xm_n, xm_t, xn_2, xn_3, xn_5, xn_6, xn_7, xn_8, xo_27_0, xo_27_1, xo_27_5, xo_27_6, xo_27_7, xo_27_8, xp_27_5, xp_27_6, xp_27_7, xp_27_8, xr_dupi, xr_dupr, xr_goto, xr_iadd, xr_ic_eq, xr_ic_ge, xr_ic_ne, xr_iconst, xr_imul, xr_isub, xr_vret, xtl_n, xtl_s, xz_i, xz_l, xz_n, xz_r, wb_3_nextToken_0, wb_3_nextToken_2, wb_3_nextToken_3, wb_3_nextToken_4, wb_3_nextToken_5, wb_3_nextToken_7, wb_3_nextToken_8, zz_b, zz_bn, Classical.not_not, true_and, Nat.reduceAdd, Nat.reduceLeDiff, g9, g14]
      refine ⟨fun _ => ?_, fun z => absurd (by omega) z⟩
      refine hQ i2 hs ⟨by rw [g12]; exact hkk, g13, by rw [g14]; exact hE, by rw [g15]; exact hv, fun z => ?_⟩
      rw [g15]
      exact hN (by omega)
    | succ f ih =>
      intro e v i2 hf e0 eL hs g12 g13 g14 g15 hv hE hN
      have g9 : i2 9 = i 9 := hs 9 (by decide)
      have fin : ruF b k (f + 1) e = e → (k = 2 → nuC b (f + 1) e v = v) → Q none (HH n xs w a i2) := fun z1 z2 => hQ i2 hs ⟨by rw [g12]; exact hkk, g13, by rw [g14, ← hE, z1], by rw [g15]; exact hv, fun z => by rw [g15, ← hN (by omega), z2 (by omega)]⟩
      by_cases z : e < i 9
      · have be := byv e e0 z
        have bb := hb e
        have bp := hP e e0 z
        have kb := kcF_b (b e)
        have ek : tkF (b e) = kcF (b e) := tkF_p bp
        have e120 : e < 120 := by omega
        rw [wb_3_nextToken_6]
        simp (disch := first | assumption | omega | exact zc_lo | exact zc_hi | exact zz_l | exact zz_u | exact zz_r) only [xa_28, xc_1 gc_3_nextToken_0, xc_2 gc_3_nextToken_1, xl_aload0, xm_f, xm_n, xm_t, xn_2, xn_3, xn_5, xn_6, xn_7, xn_8, xo_27_0, xo_27_1, xo_27_5, xo_27_6, xo_27_7, xo_27_8, xp_27_5, xp_27_6, xp_27_7, xp_27_8, xr_dupi, xr_dupr, xr_goto, xr_iadd, xr_ic_eq, xr_ic_ge, xr_ic_ne, xr_iconst, xr_imul, xr_isub, xr_vret, xtl_n, xtl_s, xz_i, xz_l, xz_n, xz_r, wb_3_nextToken_0, wb_3_nextToken_2, wb_3_nextToken_3, wb_3_nextToken_4, wb_3_nextToken_5, wb_3_nextToken_7, wb_3_nextToken_8, zz_b, zz_bn, Classical.not_not, true_and, Nat.reduceAdd, Nat.reduceLeDiff, g9, g14, g12, ← be, sp_3_tokenOf]
        refine ⟨fun z2 => absurd z2 (by omega), fun _ => ⟨fun z2 => ?_, fun z2 => ?_⟩⟩
        · have z3 : ¬ tkF (b e) = k := by rw [ek]; exact z2
          exact fin (ruF_n z3) (fun y => by rw [nuC, if_neg (by rw [← y]; exact z3)])
        · have z3 : tkF (b e) = k := by rw [ek]; exact z2
          rw [ruF_y z3] at hE
          refine ⟨fun z4 => ?_, fun z4 => ?_⟩
          · refine ih (e + 1) v (dk_up i2 14 (e + 1)) (by omega) (by omega) (by omega) (sI_up hs (by decide) _) (by rw [up_n (by decide)]; exact g12) (by rw [up_n (by decide)]; exact g13) up_s (by rw [up_n (by decide)]; exact g15) hv hE (fun y => absurd y z4)
          · have q := kcF_2.mp (show kcF (b e) = 2 by omega)
            have mb : 0 ≤ mn (v * 10 + b e - 48) 10000 ∧ mn (v * 10 + b e - 48) 10000 ≤ 10000 := by unfold mn; split <;> omega
            have g15' := g15
            simp (disch := first | assumption | omega | exact zc_lo | exact zc_hi | exact zz_l | exact zz_u | exact zz_r) only [xa_28, xc_1 gc_3_nextToken_0, xc_2 gc_3_nextToken_1, xl_aload0, xm_f, xm_n, xm_t, xn_2, xn_3, xn_5, xn_6, xn_7, xn_8, xo_27_0, xo_27_1, xo_27_5, xo_27_6, xo_27_7, xo_27_8, xp_27_5, xp_27_6, xp_27_7, xp_27_8, xr_dupi, xr_dupr, xr_goto, xr_iadd, xr_ic_eq, xr_ic_ge, xr_ic_ne, xr_iconst, xr_imul, xr_isub, xr_vret, xtl_n, xtl_s, xz_i, xz_l, xz_n, xz_r, wb_3_nextToken_0, wb_3_nextToken_2, wb_3_nextToken_3, wb_3_nextToken_4, wb_3_nextToken_5, wb_3_nextToken_7, wb_3_nextToken_8, zz_b, zz_bn, Classical.not_not, true_and, Nat.reduceAdd, Nat.reduceLeDiff, g15, g14, ← be, sp_8_min, up_n (show ¬ 14 = 15 by decide)]
            refine ih (e + 1) _ _ (by omega) (by omega) (by omega) (sI_up (sI_up hs (by decide) _) (by decide) _) (by rw [up_n (by decide), up_n (by decide)]; exact g12) (by rw [up_n (by decide), up_n (by decide)]; exact g13) up_s (by rw [up_n (by decide), up_s]) mb hE (fun y => ?_)
            rw [← hN y, nuC, if_pos (by rw [← y]; exact z3)]
      · have z3 : ¬ tkF (b e) = k := by
          have := tkF_0.mpr (hL e (by omega))
          omega
        rw [wb_3_nextToken_6]
        simp (disch := first | assumption | omega | exact zc_lo | exact zc_hi | exact zz_l | exact zz_u | exact zz_r) only [xa_28, xc_1 gc_3_nextToken_0, xc_2 gc_3_nextToken_1, xl_aload0, xm_f, xm_n, xm_t, xn_2, xn_3, xn_5, xn_6, xn_7, xn_8, xo_27_0, xo_27_1, xo_27_5, xo_27_6, xo_27_7, xo_27_8, xp_27_5, xp_27_6, xp_27_7, xp_27_8, xr_dupi, xr_dupr, xr_goto, xr_iadd, xr_ic_eq, xr_ic_ge, xr_ic_ne, xr_iconst, xr_imul, xr_isub, xr_vret, xtl_n, xtl_s, xz_i, xz_l, xz_n, xz_r, wb_3_nextToken_0, wb_3_nextToken_2, wb_3_nextToken_3, wb_3_nextToken_4, wb_3_nextToken_5, wb_3_nextToken_7, wb_3_nextToken_8, zz_b, zz_bn, Classical.not_not, true_and, Nat.reduceAdd, Nat.reduceLeDiff, g9, g14]
        refine ⟨fun _ => ?_, fun z2 => absurd (by omega) z2⟩
        exact fin (ruF_n z3) (fun y => by rw [nuC, if_neg (by rw [← y]; exact z3)])
  -- behind the blanks
  have mid : ∀ (i2 : Nat → Int), sI TC i i2 → i2 13 = tS b c → dk_WP g_3_nextToken b_3_nextToken Q 2 [some (.inr (.inr 27))] [] (HH n xs w a i2) := by
    intro i2 hs g13
    have g9 : i2 9 = i 9 := hs 9 (by decide)
    have kb := tK_b (b := b) (c := c)
    have k4 := tK_4 hTT h0
    have tok : ∀ (k : Int) (i3 : Nat → Int), k = tK b c → sI TC i i3 → i3 13 = tS b c → i3 14 = tS b c → i3 15 = 0 → dk_WP g_3_nextToken b_3_nextToken Q 4 [some (.inr (.inr 27))] [.inl k, .inr (.inr 27)] (HH n xs w a i3) := by
      intro k i3 hk hs3 f13 f14 f15
      have e12 : ∀ y, dk_up i3 12 y 12 = y := fun y => up_s
      have e13 : dk_up i3 12 k 13 = tS b c := by rw [up_n (by decide)]; exact f13
      have e14 : dk_up i3 12 k 14 = tS b c := by rw [up_n (by decide)]; exact f14
      have e15 : dk_up i3 12 k 15 = 0 := by rw [up_n (by decide)]; exact f15
      have hs4 : sI TC i (dk_up i3 12 k) := sI_up hs3 (by decide) _
      simp (disch := first | assumption | omega | exact zc_lo | exact zc_hi | exact zz_l | exact zz_u | exact zz_r) only [xa_28, xc_1 gc_3_nextToken_0, xc_2 gc_3_nextToken_1, xl_aload0, xm_f, xm_n, xm_t, xn_2, xn_3, xn_5, xn_6, xn_7, xn_8, xo_27_0, xo_27_1, xo_27_5, xo_27_6, xo_27_7, xo_27_8, xp_27_5, xp_27_6, xp_27_7, xp_27_8, xr_dupi, xr_dupr, xr_goto, xr_iadd, xr_ic_eq, xr_ic_ge, xr_ic_ne, xr_iconst, xr_imul, xr_isub, xr_vret, xtl_n, xtl_s, xz_i, xz_l, xz_n, xz_r, wb_3_nextToken_0, wb_3_nextToken_2, wb_3_nextToken_3, wb_3_nextToken_4, wb_3_nextToken_5, wb_3_nextToken_7, wb_3_nextToken_8, zz_b, zz_bn, Classical.not_not, true_and, Nat.reduceAdd, Nat.reduceLeDiff, e12, e14]
      have one : tK b c = 3 ∨ tK b c = 5 → Q none (HH n xs w a (dk_up (dk_up i3 12 k) 14 (tS b c + 1))) := fun z => by
        refine hQ _ (sI_up hs4 (by decide) _) ⟨by rw [up_n (by decide), e12]; exact hk, by rw [up_n (by decide)]; exact e13, ?_, by rw [up_n (by decide), e15]; omega, fun z2 => by omega⟩
        rw [up_s]
        unfold tE
        rw [if_pos z]
      refine ⟨fun z => one (Or.inl (by omega)), fun z => ⟨fun z2 => ?_, fun z2 => one (Or.inr (by omega))⟩⟩
      by_cases z3 : k = 0
      · have z4 : i 9 ≤ tS b c := by
          by_cases y : tS b c < i 9
          · have y2 := hP (tS b c) (by omega) y
            have y3 : tkF (b (tS b c)) = 0 := by rw [show tkF (b (tS b c)) = tK b c from rfl]; omega
            have := tkF_0.mp y3
            omega
          · omega
        have e9 : dk_up i3 12 k 9 = i 9 := hs4 9 (by decide)
        rw [wb_3_nextToken_6]
        simp (disch := first | assumption | omega | exact zc_lo | exact zc_hi | exact zz_l | exact zz_u | exact zz_r) only [xa_28, xc_1 gc_3_nextToken_0, xc_2 gc_3_nextToken_1, xl_aload0, xm_f, xm_n, xm_t, xn_2, xn_3, xn_5, xn_6, xn_7, xn_8, xo_27_0, xo_27_1, xo_27_5, xo_27_6, xo_27_7, xo_27_8, xp_27_5, xp_27_6, xp_27_7, xp_27_8, xr_dupi, xr_dupr, xr_goto, xr_iadd, xr_ic_eq, xr_ic_ge, xr_ic_ne, xr_iconst, xr_imul, xr_isub, xr_vret, xtl_n, xtl_s, xz_i, xz_l, xz_n, xz_r, wb_3_nextToken_0, wb_3_nextToken_2, wb_3_nextToken_3, wb_3_nextToken_4, wb_3_nextToken_5, wb_3_nextToken_7, wb_3_nextToken_8, zz_b, zz_bn, Classical.not_not, true_and, Nat.reduceAdd, Nat.reduceLeDiff, e9, e14]
        refine ⟨fun _ => ?_, fun y => absurd z4 y⟩
        refine hQ _ hs4 ⟨by rw [e12]; exact hk, e13, ?_, by rw [e15]; omega, fun y => by omega⟩
        rw [e14]
        unfold tE
        rw [if_neg (by omega), if_pos (by omega)]
      · have z4 : k = 1 ∨ k = 2 := by omega
        exact lp2 k z4 hk 120 (tS b c) 0 _ (by omega) (by omega) hSL hs4 (e12 k) e13 e14 e15 (by omega) (by rw [tE_12 (by omega), hk]) (fun _ => rfl)
    by_cases z : tS b c < i 9
    · have be := byv (tS b c) (by omega) z
      have bb := hb (tS b c)
      have bp := hP (tS b c) (by omega) z
      have e120 : tS b c < 120 := by omega
      have z2 : ¬ i 9 ≤ tS b c := by omega
      have e9 : ∀ x y, dk_up (dk_up i2 14 x) 15 y 9 = i 9 := fun x y => by rw [up_n (by decide), up_n (by decide)]; exact g9
      have e13 : ∀ x y, dk_up (dk_up i2 14 x) 15 y 13 = tS b c := fun x y => by rw [up_n (by decide), up_n (by decide)]; exact g13
      simp (disch := first | assumption | omega | exact zc_lo | exact zc_hi | exact zz_l | exact zz_u | exact zz_r) only [xa_28, xc_1 gc_3_nextToken_0, xc_2 gc_3_nextToken_1, xl_aload0, xm_f, xm_n, xm_t, xn_2, xn_3, xn_5, xn_6, xn_7, xn_8, xo_27_0, xo_27_1, xo_27_5, xo_27_6, xo_27_7, xo_27_8, xp_27_5, xp_27_6, xp_27_7, xp_27_8, xr_dupi, xr_dupr, xr_goto, xr_iadd, xr_ic_eq, xr_ic_ge, xr_ic_ne, xr_iconst, xr_imul, xr_isub, xr_vret, xtl_n, xtl_s, xz_i, xz_l, xz_n, xz_r, zz_b, zz_bn, Classical.not_not, true_and, Nat.reduceAdd, Nat.reduceLeDiff, wb_3_nextToken_2, g13, e9, e13, z2, ← be, sp_3_tokenOf, true_implies, false_implies, implies_true, not_true_eq_false, not_false_eq_true, and_true, false_and, and_false, if_true, if_false, Int.reduceEq, Int.reduceSub, Int.reduceAdd, Int.reduceMul, Int.reduceNeg, Int.reduceLT, Int.reduceLE, Int.add_zero]
      exact tok _ _ (by rw [← tkF_p bp]; rfl) (sI_up (sI_up hs (by decide) _) (by decide) _) (e13 _ _) (by rw [up_n (by decide), up_s]) up_s
    · have z2 : i 9 ≤ tS b c := by omega
      have e9 : ∀ x y, dk_up (dk_up i2 14 x) 15 y 9 = i 9 := fun x y => by rw [up_n (by decide), up_n (by decide)]; exact g9
      have e13 : ∀ x y, dk_up (dk_up i2 14 x) 15 y 13 = tS b c := fun x y => by rw [up_n (by decide), up_n (by decide)]; exact g13
      simp (disch := first | assumption | omega | exact zc_lo | exact zc_hi | exact zz_l | exact zz_u | exact zz_r) only [xa_28, xc_1 gc_3_nextToken_0, xc_2 gc_3_nextToken_1, xl_aload0, xm_f, xm_n, xm_t, xn_2, xn_3, xn_5, xn_6, xn_7, xn_8, xo_27_0, xo_27_1, xo_27_5, xo_27_6, xo_27_7, xo_27_8, xp_27_5, xp_27_6, xp_27_7, xp_27_8, xr_dupi, xr_dupr, xr_goto, xr_iadd, xr_ic_eq, xr_ic_ge, xr_ic_ne, xr_iconst, xr_imul, xr_isub, xr_vret, xtl_n, xtl_s, xz_i, xz_l, xz_n, xz_r, zz_b, zz_bn, Classical.not_not, true_and, Nat.reduceAdd, Nat.reduceLeDiff, wb_3_nextToken_2, wb_3_nextToken_3, g13, e9, e13, z2, true_implies, false_implies, implies_true, not_true_eq_false, not_false_eq_true, and_true, false_and, and_false, if_true, if_false, Int.reduceEq, Int.reduceSub, Int.reduceAdd, Int.reduceMul, Int.reduceNeg, Int.reduceLT, Int.reduceLE, Int.add_zero]
      exact tok 0 _ (tkF_0.mpr (hL _ z2)).symm (sI_up (sI_up hs (by decide) _) (by decide) _) (e13 _ _) (by rw [up_n (by decide), up_s]) up_s
  -- the blanks
  have lp1 : ∀ (f : Nat) (s : Int) (i2 : Nat → Int), i 9 - s ≤ f → 0 ≤ s → s ≤ i 9 → sI TC i i2 → i2 13 = s → ruF b 4 f s = tS b c → dk_WP g_3_nextToken b_3_nextToken Q 1 [some (.inr (.inr 27))] [] (HH n xs w a i2) := by
    intro f
    induction f with
    | zero =>
      intro s i2 hf s0 sL hs g13 hS
      have g9 : i2 9 = i 9 := hs 9 (by decide)
      rw [wb_3_nextToken_1]
      simp (disch := first | assumption | omega | exact zc_lo | exact zc_hi | exact zz_l | exact zz_u | exact zz_r) only [xa_28, xc_1 gc_3_nextToken_0, xc_2 gc_3_nextToken_1, xl_aload0, xm_f, xm_n, xm_t, xn_2, xn_3, xn_5, xn_6, xn_7, xn_8, xo_27_0, xo_27_1, xo_27_5, xo_27_6, xo_27_7, xo_27_8, xp_27_5, xp_27_6, xp_27_7, xp_27_8, xr_dupi, xr_dupr, xr_goto, xr_iadd, xr_ic_eq, xr_ic_ge, xr_ic_ne, xr_iconst, xr_imul, xr_isub, xr_vret, xtl_n, xtl_s, xz_i, xz_l, xz_n, xz_r, zz_b, zz_bn, Classical.not_not, true_and, Nat.reduceAdd, Nat.reduceLeDiff, g9, g13]
      exact ⟨fun _ => mid i2 hs (by rw [g13]; exact hS), fun z => absurd (by omega) z⟩
    | succ f ih =>
      intro s i2 hf s0 sL hs g13 hS
      have g9 : i2 9 = i 9 := hs 9 (by decide)
      by_cases z : s < i 9
      · have be := byv s s0 z
        have bb := hb s
        have bp := hP s s0 z
        have kb := kcF_b (b s)
        have ek : tkF (b s) = kcF (b s) := tkF_p bp
        have e120 : s < 120 := by omega
        rw [wb_3_nextToken_1]
        simp (disch := first | assumption | omega | exact zc_lo | exact zc_hi | exact zz_l | exact zz_u | exact zz_r) only [xa_28, xc_1 gc_3_nextToken_0, xc_2 gc_3_nextToken_1, xl_aload0, xm_f, xm_n, xm_t, xn_2, xn_3, xn_5, xn_6, xn_7, xn_8, xo_27_0, xo_27_1, xo_27_5, xo_27_6, xo_27_7, xo_27_8, xp_27_5, xp_27_6, xp_27_7, xp_27_8, xr_dupi, xr_dupr, xr_goto, xr_iadd, xr_ic_eq, xr_ic_ge, xr_ic_ne, xr_iconst, xr_imul, xr_isub, xr_vret, xtl_n, xtl_s, xz_i, xz_l, xz_n, xz_r, zz_b, zz_bn, Classical.not_not, true_and, Nat.reduceAdd, Nat.reduceLeDiff, g9, g13, ← be, sp_3_tokenOf]
        refine ⟨fun z2 => absurd z2 (by omega), fun _ => ⟨fun z2 => ?_, fun z2 => ?_⟩⟩
        · rw [ruF_n (by rw [ek]; exact z2)] at hS
          exact mid i2 hs (by rw [g13]; exact hS)
        · rw [ruF_y (by rw [ek]; exact z2)] at hS
          exact ih (s + 1) _ (by omega) (by omega) (by omega) (sI_up hs (by decide) _) up_s hS
      · have z3 : ¬ tkF (b s) = 4 := by
          have := tkF_0.mpr (hL s (by omega))
          omega
        rw [ruF_n z3] at hS
        rw [wb_3_nextToken_1]
        simp (disch := first | assumption | omega | exact zc_lo | exact zc_hi | exact zz_l | exact zz_u | exact zz_r) only [xa_28, xc_1 gc_3_nextToken_0, xc_2 gc_3_nextToken_1, xl_aload0, xm_f, xm_n, xm_t, xn_2, xn_3, xn_5, xn_6, xn_7, xn_8, xo_27_0, xo_27_1, xo_27_5, xo_27_6, xo_27_7, xo_27_8, xp_27_5, xp_27_6, xp_27_7, xp_27_8, xr_dupi, xr_dupr, xr_goto, xr_iadd, xr_ic_eq, xr_ic_ge, xr_ic_ne, xr_iconst, xr_imul, xr_isub, xr_vret, xtl_n, xtl_s, xz_i, xz_l, xz_n, xz_r, zz_b, zz_bn, Classical.not_not, true_and, Nat.reduceAdd, Nat.reduceLeDiff, g9, g13]
        exact ⟨fun _ => mid i2 hs (by rw [g13]; exact hS), fun y => absurd (by omega) y⟩
  simp (disch := first | assumption | omega | exact zc_lo | exact zc_hi | exact zz_l | exact zz_u | exact zz_r) only [xa_28, xc_1 gc_3_nextToken_0, xc_2 gc_3_nextToken_1, xl_aload0, xm_f, xm_n, xm_t, xn_2, xn_3, xn_5, xn_6, xn_7, xn_8, xo_27_0, xo_27_1, xo_27_5, xo_27_6, xo_27_7, xo_27_8, xp_27_5, xp_27_6, xp_27_7, xp_27_8, xr_dupi, xr_dupr, xr_goto, xr_iadd, xr_ic_eq, xr_ic_ge, xr_ic_ne, xr_iconst, xr_imul, xr_isub, xr_vret, xtl_n, xtl_s, xz_i, xz_l, xz_n, xz_r, zz_b, zz_bn, Classical.not_not, true_and, Nat.reduceAdd, Nat.reduceLeDiff, ss_3_nextToken, wb_3_nextToken_0, hc]
  exact lp1 120 c _ (by omega) h0 h1 (sI_up sI_rf (by decide) _) up_s rfl
end TK1
