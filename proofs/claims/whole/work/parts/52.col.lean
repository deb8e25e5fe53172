/-! COLUMNS: what holds of one; drums, bends, beats -/
/-- a column in rows c (2 rules 3 kind 4 place 5 part 6 share 7 drift 8 out 9 drums' places 10 loud 11 ahead 12 bends 13 spots) and numbers k (0 ranks 1 drums 2 bends 3 z) -/
def rkOK (c : Nat → Int → Int) (r : Int) : Prop := (0 ≤ c 3 r ∧ c 3 r ≤ 6) ∧ (0 ≤ c 4 r ∧ c 4 r ≤ 200 * r) ∧ (0 ≤ c 5 r ∧ c 5 r ≤ 100) ∧ (0 ≤ c 6 r ∧ c 6 r ≤ 100) ∧ (-99 ≤ c 7 r ∧ c 7 r ≤ 99) ∧ (-(c 2 0) < 2 * c 8 r ∧ 2 * c 8 r ≤ c 2 0)
def colN (c : Nat → Int → Int) (k : Nat → Int) : Prop := (100 ≤ c 2 0 ∧ c 2 0 ≤ 2000) ∧ (500 ≤ c 2 1 ∧ c 2 1 ≤ 2000) ∧ (-200 ≤ c 2 2 ∧ c 2 2 ≤ 200) ∧ (0 ≤ c 2 3 ∧ c 2 3 ≤ 500) ∧ (-999 ≤ c 2 4 ∧ c 2 4 ≤ 999) ∧ (0 ≤ c 2 5 ∧ c 2 5 ≤ 999) ∧ (0 ≤ c 2 6 ∧ c 2 6 ≤ 999) ∧ (0 ≤ k 0 ∧ k 0 ≤ 24) ∧
  (∀ r, 0 ≤ r → r < k 0 → rkOK c r) ∧ (0 ≤ k 1 ∧ k 1 ≤ 6) ∧ (∀ d, 0 ≤ d → d < k 1 → (0 ≤ c 9 d ∧ c 9 d ≤ 4999) ∧ (1 ≤ c 10 d ∧ c 10 d ≤ 99) ∧ (-999 ≤ c 11 d ∧ c 11 d ≤ 999)) ∧ (0 ≤ k 2 ∧ k 2 ≤ 6) ∧ (∀ b, 0 ≤ b → b < k 2 → 0 ≤ c 12 b ∧ c 12 b ≤ 4999) ∧ (∀ s, 0 ≤ s → s < 10 → c 13 s = -1 ∨ (0 ≤ c 13 s ∧ c 13 s < k 0)) ∧ (-2147483648 ≤ k 3 ∧ k 3 ≤ 2147483647)
/-- the reference's column, as one -/
def mv (a : Nat → Int → Int) : Nat → Int → Int := fun j => match j with
  | 2 => a 54
  | 3 => fun r => a 57 (5 * r + 0)
  | 4 => fun r => a 57 (5 * r + 1)
  | 5 => fun r => a 57 (5 * r + 2)
  | 6 => fun r => a 57 (5 * r + 3)
  | 7 => fun r => a 57 (5 * r + 4)
  | 8 => a 58
  | 9 => fun d => a 59 (3 * d)
  | 10 => fun d => a 59 (3 * d + 1)
  | 11 => fun d => a 59 (3 * d + 2)
  | 12 => a 60
  | 13 => a 61
  | _ => fun _ => 0
def mi (i : Nat → Int) : Nat → Int := fun j => i (30 + j)
/-- a loop that counts up to m -/
theorem lp_up {P : Nat → Prop} {m : Nat} (hend : P m) (hstep : ∀ d, d < m → P (d + 1) → P d) : ∀ d, d ≤ m → P d := by
  intro d hd
  obtain ⟨k, rfl⟩ : ∃ k, m = d + k := ⟨m - d, by omega⟩
  induction k generalizing d with
  | zero => exact hend
  | succ k ih =>
    refine hstep d (by omega) (ih (d + 1) ?_ ?_ (by omega))
    · rw [show d + 1 + k = d + (k + 1) by omega]; exact hend
    · intro e he; exact hstep e (by omega)
theorem nat_of {x : Int} (h : 0 ≤ x) : ∃ m : Nat, x = (m : Int) := ⟨x.toNat, by omega⟩
theorem cs (d : Nat) : (d : Int) + 1 = ((d + 1 : Nat) : Int) := by omega
/-- THE DRUM among the first d of a place x, and how loud it is -/
def drF (da dl : Int → Int) (x : Int) : Nat → Int × Int
  | 0 => (-1, 0)
  | d + 1 => if (drF da dl x d).2 < dl d - (ab (da d - x)).tdiv 50 then (d, dl d - (ab (da d - x)).tdiv 50) else drF da dl x d
theorem drF_bd {da dl : Int → Int} {x : Int} : ∀ (d : Nat), (∀ j : Int, 0 ≤ j → j < d → dl j ≤ 99) → -1 ≤ (drF da dl x d).1 ∧ (drF da dl x d).1 < d ∧ 0 ≤ (drF da dl x d).2 ∧ (drF da dl x d).2 ≤ 99
  | 0, _ => by simp [drF]
  | d + 1, h => by
    have q := drF_bd (da := da) (x := x) d (fun j h1 h2 => h j h1 (by omega))
    have q2 := h d (by omega) (by omega)
    have q3 : 0 ≤ (ab (da d - x)).tdiv 50 := Int.tdiv_nonneg (by unfold ab; split <;> omega) (by omega)
    unfold drF
    split <;> (try simp only) <;> omega
section CL
variable {Q : dk_Q} {n : Nat} {xs : Int → Int} {w : Nat → Nat} {a : Nat → Int → Int} {i : Nat → Int}
theorem sp_0_drumFor (hc : colN a i) {r : Int} (hr0 : 0 ≤ r) (hr1 : r < i 0) : Q (some (.inl (drF (a 9) (a 10) (a 4 r) (i 1).toNat).1)) (HH n xs w a i) → s_0_drumFor [.inr (.inr 1), .inl r] (HH n xs w a i) Q := by
  intro hQ
  obtain ⟨⟨p1, p2⟩, ⟨s1, s2⟩, ⟨v1, v2⟩, ⟨n1, n2⟩, ⟨o1, o2⟩, ⟨d1, d2⟩, ⟨e1, e2⟩, ⟨k1, k2⟩, hr, ⟨m1, m2⟩, hd, ⟨b1, b2⟩, hb, hs, hz⟩ := id hc
  obtain ⟨-, ⟨r1, r2⟩, -⟩ := hr r hr0 hr1
  obtain ⟨m, hm⟩ := nat_of m1
  simp (disch := first | assumption | omega | exact zc_lo | exact zc_hi | exact zz_l | exact zz_u | exact zz_r) only [xa_10, xa_4, xa_9, xc_1 gc_0_drumFor_0, xl_aload0, xl_iinc4a, xl_iinc4i, xl_iinc4n, xl_iload1, xl_iload2, xl_iload3, xl_iload4, xl_iload5, xl_istore2a, xl_istore2i, xl_istore2n, xl_istore3a, xl_istore3i, xl_istore3n, xl_istore4a, xl_istore4i, xl_istore4n, xl_istore5a, xl_istore5i, xl_istore5n, xm_f, xm_n, xm_t, xn_2, xn_3, xo_1_10, xo_1_3, xo_1_8, xo_1_9, xr_goto, xr_ic_ge, xr_ic_le, xr_iconst, xr_idiv, xr_iret, xr_isub, xtl_n, xtl_s, xz_i, xz_l, xz_n, xz_r, wb_0_drumFor_0, wb_0_drumFor_2, wb_0_drumFor_3, ss_0_drumFor_1, ss_0_drumFor_14, zz_b, zz_bn, Classical.not_not, true_and, Nat.reduceAdd, Nat.reduceLeDiff]
  refine lp_up (m := m) (P := fun d => dk_WP g_0_drumFor b_0_drumFor Q 1 [some (.inr (.inr 1)), some (.inl r), some (.inl (drF (a 9) (a 10) (a 4 r) d).1), some (.inl (drF (a 9) (a 10) (a 4 r) d).2), some (.inl d), none] [] (HH n xs w a i)) ?_ ?_ 0 (Nat.zero_le _)
  · rw [wb_0_drumFor_1]
    have q := drF_bd (da := a 9) (dl := a 10) (x := a 4 r) m (fun j h1 h2 => (hd j h1 (by omega)).2.1.2)
    simp (disch := first | assumption | omega | exact zc_lo | exact zc_hi | exact zz_l | exact zz_u | exact zz_r) only [xa_10, xa_4, xa_9, xc_1 gc_0_drumFor_0, xl_aload0, xl_iinc4a, xl_iinc4i, xl_iinc4n, xl_iload1, xl_iload2, xl_iload3, xl_iload4, xl_iload5, xl_istore2a, xl_istore2i, xl_istore2n, xl_istore3a, xl_istore3i, xl_istore3n, xl_istore4a, xl_istore4i, xl_istore4n, xl_istore5a, xl_istore5i, xl_istore5n, xm_f, xm_n, xm_t, xn_2, xn_3, xo_1_10, xo_1_3, xo_1_8, xo_1_9, xr_goto, xr_ic_ge, xr_ic_le, xr_iconst, xr_idiv, xr_iret, xr_isub, xtl_n, xtl_s, xz_i, xz_l, xz_n, xz_r, wb_0_drumFor_0, wb_0_drumFor_2, wb_0_drumFor_3, zz_b, zz_bn, Classical.not_not, true_and, Nat.reduceAdd, Nat.reduceLeDiff]
    refine ⟨fun _ => ?_, fun z => absurd (by omega) z⟩
    rw [hm] at hQ
    exact hQ
  · intro d hdm ih
    obtain ⟨⟨g1, g2⟩, ⟨g3, g4⟩, g5⟩ := hd d (by omega) (by omega)
    have q := drF_bd (da := a 9) (dl := a 10) (x := a 4 r) d (fun j h1 h2 => (hd j h1 (by omega)).2.1.2)
    have q5 := ab_bd (x := a 9 d - a 4 r) (p := 4999) (by omega) (by omega)
    have q6 := tdiv_bd (x := ab (a 9 d - a 4 r)) (y := 50) (by omega) (by omega)
    rw [wb_0_drumFor_1]
    simp (disch := first | assumption | omega | exact zc_lo | exact zc_hi | exact zz_l | exact zz_u | exact zz_r) only [xa_10, xa_4, xa_9, xc_1 gc_0_drumFor_0, xl_aload0, xl_iinc4a, xl_iinc4i, xl_iinc4n, xl_iload1, xl_iload2, xl_iload3, xl_iload4, xl_iload5, xl_istore2a, xl_istore2i, xl_istore2n, xl_istore3a, xl_istore3i, xl_istore3n, xl_istore4a, xl_istore4i, xl_istore4n, xl_istore5a, xl_istore5i, xl_istore5n, xm_f, xm_n, xm_t, xn_2, xn_3, xo_1_10, xo_1_3, xo_1_8, xo_1_9, xr_goto, xr_ic_ge, xr_ic_le, xr_iconst, xr_idiv, xr_iret, xr_isub, xtl_n, xtl_s, xz_i, xz_l, xz_n, xz_r, wb_0_drumFor_0, wb_0_drumFor_2, wb_0_drumFor_3, zz_b, zz_bn, Classical.not_not, true_and, Nat.reduceAdd, Nat.reduceLeDiff, sp_8_abs]
    refine ⟨fun z => by omega, fun _ => ?_⟩
    rw [cs d]
    rw [drF] at ih
    by_cases c : (drF (a 9) (a 10) (a 4 r) d).2 < a 10 d - (ab (a 9 d - a 4 r)).tdiv 50
    · rw [if_pos c] at ih
      exact ⟨fun z => by omega, fun _ => ih⟩
    · rw [if_neg c] at ih
      exact ⟨fun _ => ih, fun z => by omega⟩
/-- a model's column -/
theorem sp_6_drumFor (hc : colN (mv a) (mi i)) {r : Int} (hr0 : 0 ≤ r) (hr1 : r < i 30) : Q (some (.inl (drF (mv a 9) (mv a 10) (mv a 4 r) (i 31).toNat).1)) (HH n xs w a i) → s_6_drumFor [.inr (.inr 53), .inl r] (HH n xs w a i) Q := by
  intro hQ
  obtain ⟨⟨p1, p2⟩, ⟨s1, s2⟩, ⟨v1, v2⟩, ⟨n1, n2⟩, ⟨o1, o2⟩, ⟨d1, d2⟩, ⟨e1, e2⟩, ⟨k1, k2⟩, hr, ⟨m1, m2⟩, hd, ⟨b1, b2⟩, hb, hs, hz⟩ := id hc
  simp only [mi, Nat.reduceAdd] at k1 k2 hr m1 m2 hd
  obtain ⟨-, ⟨r1, r2⟩, -⟩ := hr r hr0 hr1
  obtain ⟨m, hm⟩ := nat_of m1
  simp (disch := first | assumption | omega | exact zc_lo | exact zc_hi | exact zz_l | exact zz_u | exact zz_r) only [xa_59, xc_1 gc_6_drumFor_1, xc_3 gc_6_drumFor_0, xl_aload0, xl_iinc4a, xl_iinc4i, xl_iinc4n, xl_iload1, xl_iload2, xl_iload3, xl_iload4, xl_iload5, xl_istore2a, xl_istore2i, xl_istore2n, xl_istore3a, xl_istore3i, xl_istore3n, xl_istore4a, xl_istore4i, xl_istore4n, xl_istore5a, xl_istore5i, xl_istore5n, xm_f, xm_n, xm_t, xn_2, xn_3, xo_53_6, xo_53_7, xr_goto, xr_iadd, xr_ic_ge, xr_ic_le, xr_iconst, xr_idiv, xr_imul, xr_iret, xr_isub, xtl_n, xtl_s, xz_i, xz_l, xz_n, xz_r, wb_6_drumFor_0, wb_6_drumFor_2, wb_6_drumFor_3, ss_6_drumFor, zz_b, zz_bn, Classical.not_not, true_and, Nat.reduceAdd, Nat.reduceLeDiff]
  refine lp_up (m := m) (P := fun d => dk_WP g_6_drumFor b_6_drumFor Q 1 [some (.inr (.inr 53)), some (.inl r), some (.inl (drF (mv a 9) (mv a 10) (mv a 4 r) d).1), some (.inl (drF (mv a 9) (mv a 10) (mv a 4 r) d).2), some (.inl d), none] [] (HH n xs w a i)) ?_ ?_ 0 (Nat.zero_le _)
  · rw [wb_6_drumFor_1]
    have q := drF_bd (da := mv a 9) (dl := mv a 10) (x := mv a 4 r) m (fun j h1 h2 => (hd j h1 (by omega)).2.1.2)
    simp (disch := first | assumption | omega | exact zc_lo | exact zc_hi | exact zz_l | exact zz_u | exact zz_r) only [xa_59, xc_1 gc_6_drumFor_1, xc_3 gc_6_drumFor_0, xl_aload0, xl_iinc4a, xl_iinc4i, xl_iinc4n, xl_iload1, xl_iload2, xl_iload3, xl_iload4, xl_iload5, xl_istore2a, xl_istore2i, xl_istore2n, xl_istore3a, xl_istore3i, xl_istore3n, xl_istore4a, xl_istore4i, xl_istore4n, xl_istore5a, xl_istore5i, xl_istore5n, xm_f, xm_n, xm_t, xn_2, xn_3, xo_53_6, xo_53_7, xr_goto, xr_iadd, xr_ic_ge, xr_ic_le, xr_iconst, xr_idiv, xr_imul, xr_iret, xr_isub, xtl_n, xtl_s, xz_i, xz_l, xz_n, xz_r, wb_6_drumFor_0, wb_6_drumFor_2, wb_6_drumFor_3, zz_b, zz_bn, Classical.not_not, true_and, Nat.reduceAdd, Nat.reduceLeDiff]
    refine ⟨fun _ => ?_, fun z => absurd (by omega) z⟩
    rw [hm] at hQ
    exact hQ
  · intro d hdm ih
    obtain ⟨⟨g1, g2⟩, ⟨g3, g4⟩, g5⟩ := hd d (by omega) (by omega)
    have q := drF_bd (da := mv a 9) (dl := mv a 10) (x := mv a 4 r) d (fun j h1 h2 => (hd j h1 (by omega)).2.1.2)
    have q5 := ab_bd (x := mv a 9 d - mv a 4 r) (p := 4999) (by omega) (by omega)
    have q6 := tdiv_bd (x := ab (mv a 9 d - mv a 4 r)) (y := 50) (by omega) (by omega)
    rw [drF] at ih
    simp only [mv] at ih q q5 q6 g1 g2 g3 g4 r1 r2 ⊢
    rw [wb_6_drumFor_1]
    simp (disch := first | assumption | omega | exact zc_lo | exact zc_hi | exact zz_l | exact zz_u | exact zz_r) only [xa_59, xc_1 gc_6_drumFor_1, xc_3 gc_6_drumFor_0, xl_aload0, xl_iinc4a, xl_iinc4i, xl_iinc4n, xl_iload1, xl_iload2, xl_iload3, xl_iload4, xl_iload5, xl_istore2a, xl_istore2i, xl_istore2n, xl_istore3a, xl_istore3i, xl_istore3n, xl_istore4a, xl_istore4i, xl_istore4n, xl_istore5a, xl_istore5i, xl_istore5n, xm_f, xm_n, xm_t, xn_2, xn_3, xo_53_6, xo_53_7, xr_goto, xr_iadd, xr_ic_ge, xr_ic_le, xr_iconst, xr_idiv, xr_imul, xr_iret, xr_isub, xtl_n, xtl_s, xz_i, xz_l, xz_n, xz_r, wb_6_drumFor_0, wb_6_drumFor_2, wb_6_drumFor_3, zz_b, zz_bn, Classical.not_not, true_and, Nat.reduceAdd, Nat.reduceLeDiff, sp_6_size, sp_6_its]
    refine ⟨fun z => by omega, fun _ => ?_⟩
    rw [cs d]
    by_cases c : (drF (mv a 9) (mv a 10) (mv a 4 r) d).2 < mv a 10 d - (ab (mv a 9 d - mv a 4 r)).tdiv 50
    · simp only [mv] at c
      rw [if_pos c] at ih
      exact ⟨fun z => by omega, fun _ => ih⟩
    · simp only [mv] at c
      rw [if_neg c] at ih
      exact ⟨fun _ => ih, fun z => by omega⟩
theorem sp_0_lagFromDrum (hc : colN a i) {r d : Int} (hr0 : 0 ≤ r) (hr1 : r < i 0) (hd0 : 0 ≤ d) (hd1 : d < i 1) : s_0_lagFromDrum [.inr (.inr 1), .inl d, .inl r] (HH n xs w a i) Q = Q (some (.inl (lagF (a 2 1) (a 2 2) (a 9 d) (a 4 r)))) (HH n xs w a i) := by
  obtain ⟨⟨p1, p2⟩, ⟨s1, s2⟩, ⟨v1, v2⟩, ⟨n1, n2⟩, ⟨o1, o2⟩, ⟨d1, d2⟩, ⟨e1, e2⟩, ⟨k1, k2⟩, hr, ⟨m1, m2⟩, hd, ⟨b1, b2⟩, hb, hs, hz⟩ := id hc
  obtain ⟨-, ⟨r1, r2⟩, -⟩ := hr r hr0 hr1
  obtain ⟨⟨g1, g2⟩, ⟨g3, g4⟩, g5⟩ := hd d hd0 hd1
  simp (disch := first | assumption | omega | exact zc_lo | exact zc_hi | exact zz_l | exact zz_u | exact zz_r) only [xa_4, xa_9, xc_3 gc_0_lagFromDrum_0, xl_aload0, xl_iload1, xl_iload2, xm_f, xm_n, xm_t, xo_1_3, xo_1_9, xr_iret, xtl_n, xtl_s, xz_i, xz_l, xz_n, xz_r, wb_0_lagFromDrum_0, ss_0_lagFromDrum_1, ss_0_lagFromDrum_14, zz_b, zz_bn, Classical.not_not, true_and, Nat.reduceAdd, Nat.reduceLeDiff, sp_0_lagBetween]
/-- a beat: the lag from THE DRUM less its AHEAD; -2000000000 without one -/
def beF (c : Nat → Int → Int) (k : Nat → Int) (r : Int) : Int := if (drF (c 9) (c 10) (c 4 r) (k 1).toNat).1 = -1 then -2000000000 else lagF (c 2 1) (c 2 2) (c 9 (drF (c 9) (c 10) (c 4 r) (k 1).toNat).1) (c 4 r) - c 11 (drF (c 9) (c 10) (c 4 r) (k 1).toNat).1
theorem sp_0_beatFor (hc : colN a i) {r : Int} (hr0 : 0 ≤ r) (hr1 : r < i 0) : Q (some (.inl (beF a i r))) (HH n xs w a i) → s_0_beatFor [.inr (.inr 1), .inl r] (HH n xs w a i) Q := by
  intro hQ
  obtain ⟨⟨p1, p2⟩, ⟨s1, s2⟩, ⟨v1, v2⟩, ⟨n1, n2⟩, ⟨o1, o2⟩, ⟨d1, d2⟩, ⟨e1, e2⟩, ⟨k1, k2⟩, hr, ⟨m1, m2⟩, hd, ⟨b1, b2⟩, hb, hs, hz⟩ := id hc
  have q := drF_bd (da := a 9) (dl := a 10) (x := a 4 r) (i 1).toNat (fun j h1 h2 => (hd j h1 (by omega)).2.1.2)
  simp (disch := first | assumption | omega | exact zc_lo | exact zc_hi | exact zz_l | exact zz_u | exact zz_r) only [xa_11, xc_2 gc_0_beatFor_0, xc_3 gc_0_beatFor_1, xl_aload0, xl_iload1, xl_iload2, xl_istore2a, xl_istore2i, xl_istore2n, xm_f, xm_n, xm_t, xn_1, xo_1_11, xr_goto, xr_ic_ne, xr_iconst, xr_iret, xr_isub, xtl_n, xtl_s, xz_i, xz_l, xz_n, xz_r, wb_0_beatFor_0, wb_0_beatFor_1, wb_0_beatFor_2, ss_0_beatFor_1, ss_0_beatFor_14, zz_b, zz_bn, Classical.not_not, true_and, Nat.reduceAdd, Nat.reduceLeDiff]
  refine sp_0_drumFor hc hr0 hr1 ?_
  unfold beF at hQ
  generalize (drF (a 9) (a 10) (a 4 r) (i 1).toNat).1 = d at hQ q ⊢
  simp (disch := first | assumption | omega | exact zc_lo | exact zc_hi | exact zz_l | exact zz_u | exact zz_r) only [xa_11, xc_2 gc_0_beatFor_0, xc_3 gc_0_beatFor_1, xl_aload0, xl_iload1, xl_iload2, xl_istore2a, xl_istore2i, xl_istore2n, xm_f, xm_n, xm_t, xn_1, xo_1_11, xr_goto, xr_ic_ne, xr_iconst, xr_iret, xr_isub, xtl_n, xtl_s, xz_i, xz_l, xz_n, xz_r, wb_0_beatFor_0, wb_0_beatFor_1, wb_0_beatFor_2, zz_b, zz_bn, Classical.not_not, true_and, Nat.reduceAdd, Nat.reduceLeDiff]
  refine ⟨fun z => ?_, fun z => ?_⟩
  · rw [if_neg z] at hQ
    have z1 : 0 ≤ d := by omega
    have z2 : d < i 1 := by omega
    simp (disch := first | assumption | omega | exact zc_lo | exact zc_hi | exact zz_l | exact zz_u | exact zz_r) only [xa_11, xc_2 gc_0_beatFor_0, xc_3 gc_0_beatFor_1, xl_aload0, xl_iload1, xl_iload2, xl_istore2a, xl_istore2i, xl_istore2n, xm_f, xm_n, xm_t, xn_1, xo_1_11, xr_goto, xr_ic_ne, xr_iconst, xr_iret, xr_isub, xtl_n, xtl_s, xz_i, xz_l, xz_n, xz_r, wb_0_beatFor_0, wb_0_beatFor_1, wb_0_beatFor_2, zz_b, zz_bn, Classical.not_not, true_and, Nat.reduceAdd, Nat.reduceLeDiff, sp_0_lagFromDrum hc hr0 hr1 z1 z2]
    exact hQ
  · rw [if_pos (by omega)] at hQ
    exact hQ
/-- whether one of the first b bends lies from lo to below hi -/
def beP (be : Int → Int) (lo hi : Int) : Nat → Bool
  | 0 => false
  | b + 1 => beP be lo hi b || (decide (lo ≤ be b) && decide (be b < hi))
theorem beP_mono {be : Int → Int} {lo hi : Int} {b : Nat} (h : beP be lo hi b = true) : ∀ m, b ≤ m → beP be lo hi m = true := by
  intro m hm
  induction hm with
  | refl => exact h
  | step _ ih => simp [beP, ih]
/-- a bend is between a rank and the one ahead -/
def bnF (c : Nat → Int → Int) (k : Nat → Int) (r : Int) : Bool := decide (0 < r) && beP (c 12) (c 4 (r - 1)) (c 4 r) (k 2).toNat
theorem sp_0_isBehindBend (hc : colN a i) {r : Int} (hr0 : 0 ≤ r) (hr1 : r < i 0) : Q (some (.inl (if bnF a i r = true then 1 else 0))) (HH n xs w a i) → s_0_isBehindBend [.inr (.inr 1), .inl r] (HH n xs w a i) Q := by
  intro hQ
  obtain ⟨⟨p1, p2⟩, ⟨s1, s2⟩, ⟨v1, v2⟩, ⟨n1, n2⟩, ⟨o1, o2⟩, ⟨d1, d2⟩, ⟨e1, e2⟩, ⟨k1, k2⟩, hr, ⟨m1, m2⟩, hd, ⟨b1, b2⟩, hb, hs, hz⟩ := id hc
  obtain ⟨-, ⟨r1, r2⟩, -⟩ := hr r hr0 hr1
  obtain ⟨m, hm⟩ := nat_of b1
  simp (disch := first | assumption | omega | exact zc_lo | exact zc_hi | exact zz_l | exact zz_u | exact zz_r) only [xa_12, xa_4, xl_aload0, xl_iinc2a, xl_iinc2i, xl_iinc2n, xl_iload1, xl_iload2, xl_istore2a, xl_istore2i, xl_istore2n, xm_f, xm_n, xm_t, xn_2, xn_3, xo_1_12, xo_1_13, xo_1_3, xr_goto, xr_ic_ge, xr_ic_lt, xr_iconst, xr_if_le, xr_isub, xr_zret, xtl_n, xtl_s, xz_i, xz_l, xz_n, xz_r, wb_0_isBehindBend_0, wb_0_isBehindBend_2, wb_0_isBehindBend_3, ss_0_isBehindBend_1, ss_0_isBehindBend_14, zz_b, zz_bn, Classical.not_not, true_and, Nat.reduceAdd, Nat.reduceLeDiff]
  by_cases c0 : r ≤ 0
  · have e0 : bnF a i r = false := by unfold bnF; rw [decide_eq_false (by omega)]; rfl
    rw [e0] at hQ
    rw [wb_0_isBehindBend_1]
    simp (disch := first | assumption | omega | exact zc_lo | exact zc_hi | exact zz_l | exact zz_u | exact zz_r) only [xa_12, xa_4, xl_aload0, xl_iinc2a, xl_iinc2i, xl_iinc2n, xl_iload1, xl_iload2, xl_istore2a, xl_istore2i, xl_istore2n, xm_f, xm_n, xm_t, xn_2, xn_3, xo_1_12, xo_1_13, xo_1_3, xr_goto, xr_ic_ge, xr_ic_lt, xr_iconst, xr_if_le, xr_isub, xr_zret, xtl_n, xtl_s, xz_i, xz_l, xz_n, xz_r, wb_0_isBehindBend_0, wb_0_isBehindBend_2, wb_0_isBehindBend_3, zz_b, zz_bn, Classical.not_not, true_and, Nat.reduceAdd, Nat.reduceLeDiff]
    exact ⟨fun _ => hQ, fun z => absurd c0 z⟩
  · have e0 : bnF a i r = beP (a 12) (a 4 (r - 1)) (a 4 r) m := by unfold bnF; rw [decide_eq_true (by omega), hm]; rfl
    rw [e0] at hQ
    obtain ⟨-, ⟨r3, r4⟩, -⟩ := hr (r - 1) (by omega) (by omega)
    refine lp_up (m := m) (P := fun d => beP (a 12) (a 4 (r - 1)) (a 4 r) d = false → dk_WP g_0_isBehindBend b_0_isBehindBend Q 1 [some (.inr (.inr 1)), some (.inl r), some (.inl d)] [] (HH n xs w a i)) ?_ ?_ 0 (Nat.zero_le _) rfl
    · intro hf
      rw [hf] at hQ
      rw [wb_0_isBehindBend_1]
      simp (disch := first | assumption | omega | exact zc_lo | exact zc_hi | exact zz_l | exact zz_u | exact zz_r) only [xa_12, xa_4, xl_aload0, xl_iinc2a, xl_iinc2i, xl_iinc2n, xl_iload1, xl_iload2, xl_istore2a, xl_istore2i, xl_istore2n, xm_f, xm_n, xm_t, xn_2, xn_3, xo_1_12, xo_1_13, xo_1_3, xr_goto, xr_ic_ge, xr_ic_lt, xr_iconst, xr_if_le, xr_isub, xr_zret, xtl_n, xtl_s, xz_i, xz_l, xz_n, xz_r, wb_0_isBehindBend_0, wb_0_isBehindBend_2, wb_0_isBehindBend_3, zz_b, zz_bn, Classical.not_not, true_and, Nat.reduceAdd, Nat.reduceLeDiff]
      exact ⟨fun z => absurd z c0, fun _ => ⟨fun _ => hQ, fun z => by omega⟩⟩
    · intro d hdm ih hf
      obtain ⟨g1, g2⟩ := hb d (by omega) (by omega)
      rw [wb_0_isBehindBend_1]
      simp (disch := first | assumption | omega | exact zc_lo | exact zc_hi | exact zz_l | exact zz_u | exact zz_r) only [xa_12, xa_4, xl_aload0, xl_iinc2a, xl_iinc2i, xl_iinc2n, xl_iload1, xl_iload2, xl_istore2a, xl_istore2i, xl_istore2n, xm_f, xm_n, xm_t, xn_2, xn_3, xo_1_12, xo_1_13, xo_1_3, xr_goto, xr_ic_ge, xr_ic_lt, xr_iconst, xr_if_le, xr_isub, xr_zret, xtl_n, xtl_s, xz_i, xz_l, xz_n, xz_r, wb_0_isBehindBend_0, wb_0_isBehindBend_2, wb_0_isBehindBend_3, zz_b, zz_bn, Classical.not_not, true_and, Nat.reduceAdd, Nat.reduceLeDiff]
      refine ⟨fun z => absurd z c0, fun _ => ⟨fun z => by omega, fun _ => ?_⟩⟩
      rw [cs d]
      refine ⟨fun z => ih ?_, fun z => ⟨fun z2 => ih ?_, fun z2 => ?_⟩⟩
      · simp only [beP, hf, Bool.false_or]
        rw [decide_eq_false (by omega)]; rfl
      · simp only [beP, hf, Bool.false_or]
        rw [decide_eq_false (p := a 12 d < a 4 r) (by omega), Bool.and_false]
      · have e1 : beP (a 12) (a 4 (r - 1)) (a 4 r) m = true := beP_mono (b := d + 1) (by simp only [beP, hf, Bool.false_or]; rw [decide_eq_true (by omega), decide_eq_true (by omega)]; rfl) m (by omega)
        rw [e1] at hQ
        exact hQ
theorem sp_6_isBent (hc : colN (mv a) (mi i)) {r : Int} (hr0 : 0 ≤ r) (hr1 : r < i 30) : Q (some (.inl (if bnF (mv a) (mi i) r = true then 1 else 0))) (HH n xs w a i) → s_6_isBent [.inr (.inr 53), .inl r] (HH n xs w a i) Q := by
  intro hQ
  obtain ⟨⟨p1, p2⟩, ⟨s1, s2⟩, ⟨v1, v2⟩, ⟨n1, n2⟩, ⟨o1, o2⟩, ⟨d1, d2⟩, ⟨e1, e2⟩, ⟨k1, k2⟩, hr, ⟨m1, m2⟩, hd, ⟨b1, b2⟩, hb, hs, hz⟩ := id hc
  simp only [mi, Nat.reduceAdd] at k1 k2 hr b1 b2 hb
  obtain ⟨-, ⟨r1, r2⟩, -⟩ := hr r hr0 hr1
  obtain ⟨m, hm⟩ := nat_of b1
  simp (disch := first | assumption | omega | exact zc_lo | exact zc_hi | exact zz_l | exact zz_u | exact zz_r) only [xa_60, xc_3 gc_6_isBent_0, xl_aload0, xl_iinc2a, xl_iinc2i, xl_iinc2n, xl_iload1, xl_iload2, xl_istore2a, xl_istore2i, xl_istore2n, xm_f, xm_n, xm_t, xn_2, xn_4, xn_5, xo_53_8, xo_53_9, xr_goto, xr_ic_ge, xr_ic_lt, xr_iconst, xr_if_le, xr_isub, xr_zret, xtl_n, xtl_s, xz_i, xz_l, xz_n, xz_r, wb_6_isBent_0, wb_6_isBent_2, wb_6_isBent_3, wb_6_isBent_4, wb_6_isBent_5, ss_6_isBent, zz_b, zz_bn, Classical.not_not, true_and, Nat.reduceAdd, Nat.reduceLeDiff]
  by_cases c0 : r ≤ 0
  · have e0 : bnF (mv a) (mi i) r = false := by unfold bnF; rw [decide_eq_false (by omega)]; rfl
    rw [e0] at hQ
    refine lp_up (m := m) (P := fun d => dk_WP g_6_isBent b_6_isBent Q 1 [some (.inr (.inr 53)), some (.inl r), some (.inl d)] [] (HH n xs w a i)) ?_ ?_ 0 (Nat.zero_le _)
    · rw [wb_6_isBent_1]
      simp (disch := first | assumption | omega | exact zc_lo | exact zc_hi | exact zz_l | exact zz_u | exact zz_r) only [xa_60, xc_3 gc_6_isBent_0, xl_aload0, xl_iinc2a, xl_iinc2i, xl_iinc2n, xl_iload1, xl_iload2, xl_istore2a, xl_istore2i, xl_istore2n, xm_f, xm_n, xm_t, xn_2, xn_4, xn_5, xo_53_8, xo_53_9, xr_goto, xr_ic_ge, xr_ic_lt, xr_iconst, xr_if_le, xr_isub, xr_zret, xtl_n, xtl_s, xz_i, xz_l, xz_n, xz_r, wb_6_isBent_0, wb_6_isBent_2, wb_6_isBent_3, wb_6_isBent_4, wb_6_isBent_5, zz_b, zz_bn, Classical.not_not, true_and, Nat.reduceAdd, Nat.reduceLeDiff]
      exact ⟨fun _ => hQ, fun z => by omega⟩
    · intro d hdm ih
      rw [wb_6_isBent_1]
      simp (disch := first | assumption | omega | exact zc_lo | exact zc_hi | exact zz_l | exact zz_u | exact zz_r) only [xa_60, xc_3 gc_6_isBent_0, xl_aload0, xl_iinc2a, xl_iinc2i, xl_iinc2n, xl_iload1, xl_iload2, xl_istore2a, xl_istore2i, xl_istore2n, xm_f, xm_n, xm_t, xn_2, xn_4, xn_5, xo_53_8, xo_53_9, xr_goto, xr_ic_ge, xr_ic_lt, xr_iconst, xr_if_le, xr_isub, xr_zret, xtl_n, xtl_s, xz_i, xz_l, xz_n, xz_r, wb_6_isBent_0, wb_6_isBent_2, wb_6_isBent_3, wb_6_isBent_4, wb_6_isBent_5, zz_b, zz_bn, Classical.not_not, true_and, Nat.reduceAdd, Nat.reduceLeDiff]
      rw [cs d]
      exact ⟨fun z => by omega, fun _ => ⟨fun _ => ih, fun z => absurd c0 z⟩⟩
  · have e0 : bnF (mv a) (mi i) r = beP (a 60) (a 57 (5 * (r - 1) + 1)) (a 57 (5 * r + 1)) m := by unfold bnF; rw [decide_eq_true (by omega)]; simp only [mi, Nat.reduceAdd, hm]; rfl
    rw [e0] at hQ
    obtain ⟨-, ⟨r3, r4⟩, -⟩ := hr (r - 1) (by omega) (by omega)
    simp only [mv] at r1 r2 r3 r4
    refine lp_up (m := m) (P := fun d => beP (a 60) (a 57 (5 * (r - 1) + 1)) (a 57 (5 * r + 1)) d = false → dk_WP g_6_isBent b_6_isBent Q 1 [some (.inr (.inr 53)), some (.inl r), some (.inl d)] [] (HH n xs w a i)) ?_ ?_ 0 (Nat.zero_le _) rfl
    · intro hf
      rw [hf] at hQ
      rw [wb_6_isBent_1]
      simp (disch := first | assumption | omega | exact zc_lo | exact zc_hi | exact zz_l | exact zz_u | exact zz_r) only [xa_60, xc_3 gc_6_isBent_0, xl_aload0, xl_iinc2a, xl_iinc2i, xl_iinc2n, xl_iload1, xl_iload2, xl_istore2a, xl_istore2i, xl_istore2n, xm_f, xm_n, xm_t, xn_2, xn_4, xn_5, xo_53_8, xo_53_9, xr_goto, xr_ic_ge, xr_ic_lt, xr_iconst, xr_if_le, xr_isub, xr_zret, xtl_n, xtl_s, xz_i, xz_l, xz_n, xz_r, wb_6_isBent_0, wb_6_isBent_2, wb_6_isBent_3, wb_6_isBent_4, wb_6_isBent_5, zz_b, zz_bn, Classical.not_not, true_and, Nat.reduceAdd, Nat.reduceLeDiff]
      exact ⟨fun _ => hQ, fun z => by omega⟩
    · intro d hdm ih hf
      obtain ⟨g1, g2⟩ := hb d (by omega) (by omega)
      simp only [mv] at g1 g2
      rw [wb_6_isBent_1]
      simp (disch := first | assumption | omega | exact zc_lo | exact zc_hi | exact zz_l | exact zz_u | exact zz_r) only [xa_60, xc_3 gc_6_isBent_0, xl_aload0, xl_iinc2a, xl_iinc2i, xl_iinc2n, xl_iload1, xl_iload2, xl_istore2a, xl_istore2i, xl_istore2n, xm_f, xm_n, xm_t, xn_2, xn_4, xn_5, xo_53_8, xo_53_9, xr_goto, xr_ic_ge, xr_ic_lt, xr_iconst, xr_if_le, xr_isub, xr_zret, xtl_n, xtl_s, xz_i, xz_l, xz_n, xz_r, wb_6_isBent_0, wb_6_isBent_2, wb_6_isBent_3, wb_6_isBent_4, wb_6_isBent_5, zz_b, zz_bn, Classical.not_not, true_and, Nat.reduceAdd, Nat.reduceLeDiff, sp_6_its]
      refine ⟨fun z => by omega, fun _ => ⟨fun z => absurd z c0, fun _ => ⟨fun z => absurd z c0, fun _ => ?_⟩⟩⟩
      rw [cs d]
      refine ⟨fun z => ih ?_, fun z => ⟨fun z2 => ih ?_, fun z2 => ?_⟩⟩
      · simp only [beP, hf, Bool.false_or]
        rw [decide_eq_false (by omega)]; rfl
      · simp only [beP, hf, Bool.false_or]
        rw [decide_eq_false (p := a 60 d < a 57 (5 * r + 1)) (by omega), Bool.and_false]
      · have e1 : beP (a 60) (a 57 (5 * (r - 1) + 1)) (a 57 (5 * r + 1)) m = true := beP_mono (b := d + 1) (by simp only [beP, hf, Bool.false_or]; rw [decide_eq_true (by omega), decide_eq_true (by omega)]; rfl) m (by omega)
        rw [e1] at hQ
        exact hQ
end CL
