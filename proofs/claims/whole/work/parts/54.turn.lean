/-! TURNS: what a rank does in a pace -/
theorem tdb {x B y : Int} (hy : 1 ≤ y) (h1 : -B ≤ x) (h2 : x ≤ B) : -B ≤ x.tdiv y ∧ x.tdiv y ≤ B := by
  by_cases hx : 0 ≤ x
  · have := tdiv_bd hx hy
    omega
  · have q := tdiv_bd (x := -x) (y := y) (by omega) hy
    rw [Int.neg_tdiv] at q
    omega
theorem mul_bd {x y B C : Int} (h1 : -B ≤ x) (h2 : x ≤ B) (h3 : 0 ≤ y) (h4 : y ≤ C) : -(B * C) ≤ x * y ∧ x * y ≤ B * C := by
  have hB : 0 ≤ B := by omega
  have e1 : x * y ≤ B * y := Int.mul_le_mul_of_nonneg_right h2 h3
  have e2 : B * y ≤ B * C := Int.mul_le_mul_of_nonneg_left h4 hB
  have e3 : (-B) * y ≤ x * y := Int.mul_le_mul_of_nonneg_right h1 h3
  have e4 : (-B) * y = -(B * y) := Int.neg_mul B y
  omega
def neP (c : Nat → Int → Int) (r o : Int) : Prop := ¬ o = r ∧ ab (c 4 o - c 4 r) ≤ c 2 3
def neB (c : Nat → Int → Int) (r o : Int) : Bool := decide (¬ o = r) && decide (ab (c 4 o - c 4 r) ≤ c 2 3)
/-- how many of the first ones are near -/
def nrF (c : Nat → Int → Int) (r : Int) : Nat → Int
  | 0 => 0
  | j + 1 => if neB c r j = true then nrF c r j + 1 else nrF c r j
def smF (c : Nat → Int → Int) (o : Int → Int) (r : Int) : Nat → Int
  | 0 => 0
  | j + 1 => if neB c r j = true then smF c o r j + wr (o j + lagF (c 2 1) (c 2 2) (c 4 j) (c 4 r) - o r) (c 2 0) else smF c o r j
def earF (c : Nat → Int → Int) (k : Nat → Int) (o : Int → Int) (r : Int) : Int := if beF c k r = -2000000000 then 0 else (wr (beF c k r - o r) (c 2 0) * c 5 r).tdiv 100
def eyeF (c : Nat → Int → Int) (k : Nat → Int) (o : Int → Int) (r : Int) : Int := if r = 0 ∨ bnF c k r = true then 0 else (wr (o (r - 1) - o r) (c 2 0) * c 5 r).tdiv 100
def feF (c : Nat → Int → Int) (k : Nat → Int) (o : Int → Int) (r : Int) : Int := if nrF c r (k 0).toNat = 0 then earF c k o r else ((smF c o r (k 0).toNat).tdiv (nrF c r (k 0).toNat) * c 5 r).tdiv 100
def tuF (c : Nat → Int → Int) (k : Nat → Int) (o : Int → Int) (r : Int) : Int :=
  if c 3 r = 1 then earF c k o r else if c 3 r = 2 then eyeF c k o r else if c 3 r = 3 then (eyeF c k o r * c 6 r + earF c k o r * (100 - c 6 r)).tdiv 100 else if c 3 r = 4 then feF c k o r else if c 3 r = 5 then wr (c 2 4 - o r) (c 2 0) else if c 3 r = 6 then c 7 r else 0
/-- a pace -/
def stF (c : Nat → Int → Int) (k : Nat → Int) (o : Int → Int) : Int → Int := fun r => wr (o r + tuF c k o r) (c 2 0)
def oOK (c : Nat → Int → Int) (k : Nat → Int) (o : Int → Int) : Prop := ∀ r, 0 ≤ r → r < k 0 → -(c 2 0) < 2 * o r ∧ 2 * o r ≤ c 2 0
section TU
variable {c : Nat → Int → Int} {k : Nat → Int} {o : Int → Int} {r : Int}
theorem wrb (hc : colN c k) (x : Int) : -1000 ≤ wr x (c 2 0) ∧ wr x (c 2 0) ≤ 1000 := by
  obtain ⟨⟨p1, p2⟩, ⟨s1, s2⟩, ⟨v1, v2⟩, ⟨n1, n2⟩, ⟨o1, o2⟩, ⟨d1, d2⟩, ⟨e1, e2⟩, ⟨k1, k2⟩, hr, ⟨m1, m2⟩, hd, ⟨b1, b2⟩, hb, hs, hz⟩ := id hc
  have := wr_bd x (p := c 2 0) (by omega)
  omega
theorem oOK.b (hc : colN c k) (h : oOK c k o) (h0 : 0 ≤ r) (h1 : r < k 0) : -1000 ≤ o r ∧ o r ≤ 1000 := by
  obtain ⟨⟨p1, p2⟩, ⟨s1, s2⟩, ⟨v1, v2⟩, ⟨n1, n2⟩, ⟨o1, o2⟩, ⟨d1, d2⟩, ⟨e1, e2⟩, ⟨k1, k2⟩, hr, ⟨m1, m2⟩, hd, ⟨b1, b2⟩, hb, hs, hz⟩ := id hc
  have := h r h0 h1
  omega
theorem beF_bd (hc : colN c k) (h0 : 0 ≤ r) (h1 : r < k 0) : beF c k r = -2000000000 ∨ (-999 ≤ beF c k r ∧ beF c k r ≤ 4999999) := by
  obtain ⟨⟨p1, p2⟩, ⟨s1, s2⟩, ⟨v1, v2⟩, ⟨n1, n2⟩, ⟨o1, o2⟩, ⟨d1, d2⟩, ⟨e1, e2⟩, ⟨k1, k2⟩, hr, ⟨m1, m2⟩, hd, ⟨b1, b2⟩, hb, hs, hz⟩ := id hc
  have q := drF_bd (da := c 9) (dl := c 10) (x := c 4 r) (k 1).toNat (fun j h1 h2 => (hd j h1 (by omega)).2.1.2)
  obtain ⟨-, ⟨r1, r2⟩, -⟩ := hr r h0 h1
  unfold beF
  split
  · exact Or.inl rfl
  · rename_i z
    obtain ⟨⟨g1, g2⟩, ⟨g3, g4⟩, g5⟩ := hd (drF (c 9) (c 10) (c 4 r) (k 1).toNat).1 (by omega) (by omega)
    have q2 := lagF_bd s1 s2 v1 v2 g1 g2 r1 (by omega)
    exact Or.inr (by omega)
theorem wpb (hc : colN c k) (h0 : 0 ≤ r) (h1 : r < k 0) (x : Int) : (-100000 ≤ wr x (c 2 0) * c 5 r ∧ wr x (c 2 0) * c 5 r ≤ 100000) ∧ -1000 ≤ (wr x (c 2 0) * c 5 r).tdiv 100 ∧ (wr x (c 2 0) * c 5 r).tdiv 100 ≤ 1000 := by
  obtain ⟨⟨p1, p2⟩, ⟨s1, s2⟩, ⟨v1, v2⟩, ⟨n1, n2⟩, ⟨o1, o2⟩, ⟨d1, d2⟩, ⟨e1, e2⟩, ⟨k1, k2⟩, hr, ⟨m1, m2⟩, hd, ⟨b1, b2⟩, hb, hs, hz⟩ := id hc
  obtain ⟨-, -, ⟨r1, r2⟩, -⟩ := hr r h0 h1
  have q := wrb hc x
  have q2 := mul_bd q.1 q.2 r1 r2
  refine ⟨by omega, ?_⟩
  have q3 : ∀ z : Int, -100000 ≤ z → z ≤ 100000 → -1000 ≤ z.tdiv 100 ∧ z.tdiv 100 ≤ 1000 := by
    intro z h1 h2
    by_cases hz : 0 ≤ z
    · rw [Int.tdiv_eq_ediv_of_nonneg hz]; omega
    · have e : z.tdiv 100 = -((-z).tdiv 100) := by rw [Int.neg_tdiv]; omega
      rw [e, Int.tdiv_eq_ediv_of_nonneg (by omega)]; omega
  exact q3 _ (by omega) (by omega)
theorem earF_bd (hc : colN c k) (h0 : 0 ≤ r) (h1 : r < k 0) : -1000 ≤ earF c k o r ∧ earF c k o r ≤ 1000 := by
  unfold earF
  split
  · omega
  · exact (wpb hc h0 h1 _).2
theorem eyeF_bd (hc : colN c k) (h0 : 0 ≤ r) (h1 : r < k 0) : -1000 ≤ eyeF c k o r ∧ eyeF c k o r ≤ 1000 := by
  unfold eyeF
  split
  · omega
  · exact (wpb hc h0 h1 _).2
theorem nrF_bd : ∀ (j : Nat), 0 ≤ nrF c r j ∧ nrF c r j ≤ j
  | 0 => by simp [nrF]
  | j + 1 => by
    have := nrF_bd j
    unfold nrF
    split <;> omega
theorem smF_bd (hc : colN c k) : ∀ (j : Nat), -(1000 * (j : Int)) ≤ smF c o r j ∧ smF c o r j ≤ 1000 * j
  | 0 => by simp [smF]
  | j + 1 => by
    have q := smF_bd hc j
    unfold smF
    split
    · have q2 := wrb hc (o j + lagF (c 2 1) (c 2 2) (c 4 j) (c 4 r) - o r)
      omega
    · omega
theorem feF_bd (hc : colN c k) (h0 : 0 ≤ r) (h1 : r < k 0) : (¬ nrF c r (k 0).toNat = 0 → (-24000 ≤ (smF c o r (k 0).toNat).tdiv (nrF c r (k 0).toNat) ∧ (smF c o r (k 0).toNat).tdiv (nrF c r (k 0).toNat) ≤ 24000) ∧ -2400000 ≤ (smF c o r (k 0).toNat).tdiv (nrF c r (k 0).toNat) * c 5 r ∧ (smF c o r (k 0).toNat).tdiv (nrF c r (k 0).toNat) * c 5 r ≤ 2400000) ∧ -2400000 ≤ feF c k o r ∧ feF c k o r ≤ 2400000 := by
  obtain ⟨⟨p1, p2⟩, ⟨s1, s2⟩, ⟨v1, v2⟩, ⟨n1, n2⟩, ⟨o1, o2⟩, ⟨d1, d2⟩, ⟨e1, e2⟩, ⟨k1, k2⟩, hr, ⟨m1, m2⟩, hd, ⟨b1, b2⟩, hb, hs, hz⟩ := id hc
  obtain ⟨-, -, ⟨r1, r2⟩, -⟩ := hr r h0 h1
  have q1 := nrF_bd (c := c) (r := r) (k 0).toNat
  have q2 := smF_bd (o := o) (r := r) hc (k 0).toNat
  have key : ¬ nrF c r (k 0).toNat = 0 → (-24000 ≤ (smF c o r (k 0).toNat).tdiv (nrF c r (k 0).toNat) ∧ (smF c o r (k 0).toNat).tdiv (nrF c r (k 0).toNat) ≤ 24000) ∧ -2400000 ≤ (smF c o r (k 0).toNat).tdiv (nrF c r (k 0).toNat) * c 5 r ∧ (smF c o r (k 0).toNat).tdiv (nrF c r (k 0).toNat) * c 5 r ≤ 2400000 := by
    intro z
    have q3 := tdb (x := smF c o r (k 0).toNat) (B := 24000) (y := nrF c r (k 0).toNat) (by omega) (by omega) (by omega)
    have q4 := mul_bd q3.1 q3.2 r1 r2
    exact ⟨q3, by omega, by omega⟩
  refine ⟨key, ?_⟩
  unfold feF
  split
  · have := earF_bd (o := o) hc h0 h1
    omega
  · rename_i z
    have q5 := key z
    have q6 := tdb (x := (smF c o r (k 0).toNat).tdiv (nrF c r (k 0).toNat) * c 5 r) (B := 2400000) (y := 100) (by omega) (by omega) (by omega)
    exact q6
theorem mxb (hc : colN c k) (h0 : 0 ≤ r) (h1 : r < k 0) : -100000 ≤ eyeF c k o r * c 6 r ∧ eyeF c k o r * c 6 r ≤ 100000 ∧ -100000 ≤ earF c k o r * (100 - c 6 r) ∧ earF c k o r * (100 - c 6 r) ≤ 100000 := by
  obtain ⟨⟨p1, p2⟩, ⟨s1, s2⟩, ⟨v1, v2⟩, ⟨n1, n2⟩, ⟨o1, o2⟩, ⟨d1, d2⟩, ⟨e1, e2⟩, ⟨k1, k2⟩, hr, ⟨m1, m2⟩, hd, ⟨b1, b2⟩, hb, hs, hz⟩ := id hc
  obtain ⟨-, -, -, ⟨r1, r2⟩, -⟩ := hr r h0 h1
  have q1 := eyeF_bd (o := o) hc h0 h1
  have q2 := earF_bd (o := o) hc h0 h1
  have q3 := mul_bd q1.1 q1.2 r1 r2
  have q4 := mul_bd q2.1 q2.2 (y := 100 - c 6 r) (C := 100) (by omega) (by omega)
  omega
theorem tuF_bd (hc : colN c k) (ho : oOK c k o) (h0 : 0 ≤ r) (h1 : r < k 0) : -2400000 ≤ tuF c k o r ∧ tuF c k o r ≤ 2400000 := by
  have q1 := eyeF_bd (o := o) hc h0 h1
  have q2 := earF_bd (o := o) hc h0 h1
  have q3 := (feF_bd (o := o) hc h0 h1).2
  have q4 := mxb (o := o) hc h0 h1
  have q5 := wrb hc (c 2 4 - o r)
  obtain ⟨⟨p1, p2⟩, ⟨s1, s2⟩, ⟨v1, v2⟩, ⟨n1, n2⟩, ⟨o1, o2⟩, ⟨d1, d2⟩, ⟨e1, e2⟩, ⟨k1, k2⟩, hr, ⟨m1, m2⟩, hd, ⟨b1, b2⟩, hb, hs, hz⟩ := id hc
  obtain ⟨-, -, -, -, ⟨r1, r2⟩, -⟩ := hr r h0 h1
  have q6 := tdb (x := eyeF c k o r * c 6 r + earF c k o r * (100 - c 6 r)) (B := 200000) (y := 100) (by omega) (by omega) (by omega)
  unfold tuF
  repeat' split
  all_goals omega
theorem stF_ok (hc : colN c k) : oOK c k (stF c k o) := fun r _ _ => by
  obtain ⟨⟨p1, p2⟩, ⟨s1, s2⟩, ⟨v1, v2⟩, ⟨n1, n2⟩, ⟨o1, o2⟩, ⟨d1, d2⟩, ⟨e1, e2⟩, ⟨k1, k2⟩, hr, ⟨m1, m2⟩, hd, ⟨b1, b2⟩, hb, hs, hz⟩ := id hc
  exact wr_bd _ (by omega)
end TU
