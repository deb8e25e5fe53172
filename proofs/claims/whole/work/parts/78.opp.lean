/-! CALLS OF BOTH: bridges; a sheet that is judged -/
theorem xor_sg {x y : Int} (h1 : -2147483648 ≤ x) (h2 : x ≤ 2147483647) (h3 : 0 ≤ y) (h4 : y ≤ 2147483647) : (0 ≤ dk_xor x y ↔ 0 ≤ x) ∧ -2147483648 ≤ dk_xor x y ∧ dk_xor x y ≤ 2147483647 := by
  have b1 := Int32.le_toInt (Int32.ofInt x ^^^ Int32.ofInt y)
  have b2 := Int32.toInt_lt (Int32.ofInt x ^^^ Int32.ofInt y)
  have e : (Int32.ofInt x ^^^ Int32.ofInt y).toBitVec.msb = ((Int32.ofInt x).toBitVec.msb ^^ (Int32.ofInt y).toBitVec.msb) := by rw [Int32.toBitVec_xor, BitVec.msb_xor]
  rw [BitVec.msb_eq_toInt, BitVec.msb_eq_toInt, BitVec.msb_eq_toInt] at e
  have e1 : (Int32.ofInt x).toBitVec.toInt = x := dk_toInt ⟨h1, h2⟩
  have e2 : (Int32.ofInt y).toBitVec.toInt = y := dk_toInt ⟨by omega, h4⟩
  have e3 : (Int32.ofInt x ^^^ Int32.ofInt y).toBitVec.toInt = dk_xor x y := rfl
  rw [e1, e2, e3, decide_eq_false (show ¬ y < 0 by omega), Bool.xor_false] at e
  have e4 : dk_xor x y < 0 ↔ x < 0 := by
    constructor
    · intro z
      rw [decide_eq_true z] at e
      exact of_decide_eq_true e.symm
    · intro z
      rw [decide_eq_true z] at e
      exact of_decide_eq_true e
  have e5 : dk_xor x y = (Int32.ofInt x ^^^ Int32.ofInt y).toInt := rfl
  refine ⟨by omega, by omega, by omega⟩
/-- how many tread soon behind one; the most of it -/
def tsF (c : Nat → Int → Int) (o : Int → Int) (fr to tt f : Int) : Nat → Int
  | 0 => 0
  | r + 1 => if (fr ≤ c 4 r ∧ c 4 r ≤ to) ∧ (o r - o f) % c 2 0 ≤ tt then tsF c o fr to tt f r + 1 else tsF c o fr to tt f r
def tgF (c : Nat → Int → Int) (o : Int → Int) (fr to tt : Int) (m : Nat) : Nat → Int
  | 0 => 0
  | f + 1 => if fr ≤ c 4 f ∧ c 4 f ≤ to then mx (tgF c o fr to tt m f) (tsF c o fr to tt f m) else tgF c o fr to tt m f
theorem tsF_bd {c : Nat → Int → Int} {o : Int → Int} {fr to tt f : Int} : ∀ m : Nat, 0 ≤ tsF c o fr to tt f m ∧ tsF c o fr to tt f m ≤ m
  | 0 => by simp only [tsF]; omega
  | m + 1 => by
    have := tsF_bd (c := c) (o := o) (fr := fr) (to := to) (tt := tt) (f := f) m
    unfold tsF
    split <;> omega
theorem tgF_bd {c : Nat → Int → Int} {o : Int → Int} {fr to tt : Int} {m : Nat} : ∀ f : Nat, 0 ≤ tgF c o fr to tt m f ∧ tgF c o fr to tt m f ≤ m
  | 0 => by simp only [tgF]; omega
  | f + 1 => by
    have h1 := tgF_bd (c := c) (o := o) (fr := fr) (to := to) (tt := tt) (m := m) f
    have h2 := tsF_bd (c := c) (o := o) (fr := fr) (to := to) (tt := tt) (f := f) m
    unfold tgF mx
    split
    · split <;> omega
    · omega
theorem tsF_o {c : Nat → Int → Int} {o o2 : Int → Int} {fr to tt f : Int} (hf : o2 f = o f) : ∀ (m : Nat), (∀ r : Int, 0 ≤ r → r < m → o2 r = o r) → tsF c o2 fr to tt f m = tsF c o fr to tt f m
  | 0, _ => rfl
  | m + 1, h => by
    unfold tsF
    rw [tsF_o hf m (fun r h0 h1 => h r h0 (by omega)), h m (by omega) (by omega), hf]
theorem tgF_o {c : Nat → Int → Int} {o o2 : Int → Int} {fr to tt : Int} {m : Nat} (h : ∀ r : Int, 0 ≤ r → r < m → o2 r = o r) : ∀ (f : Nat), f ≤ m → tgF c o2 fr to tt m f = tgF c o fr to tt m f
  | 0, _ => rfl
  | f + 1, hf => by
    unfold tgF
    rw [tgF_o h f (by omega), tsF_o (h f (by omega) (by omega)) m h]
def tg (a : Nat → Int → Int) (i : Nat → Int) (fr to tt : Int) (t : Nat) : Int := tgF a (maF a i (a 8) t) fr to tt (i 0).toNat (i 0).toNat
section OPP
variable {N : Int} {n : Nat} {xs : Int → Int} {w : Nat → Nat} {a : Nat → Int → Int} {i : Nat → Int} {Q : dk_Q} {p q : Int → Int} {w2 : Nat → Nat} {a2 : Nat → Int → Int} {i2 : Nat → Int} {t : Nat} {fr to tt : Int}
theorem tg_b (hc : colN a i) : 0 ≤ tg a i fr to tt t ∧ tg a i fr to tt t ≤ 24 := by
  have h := k24 hc
  have q := tgF_bd (c := a) (o := maF a i (a 8) t) (fr := fr) (to := to) (tt := tt) (m := (i 0).toNat) (i 0).toNat
  unfold tg
  omega
/-- what the reference's rows hold within a frame -/
theorem Fr_its (hag : agr a i (mv a) (mi i)) (hF : Fr a i p q w2 a2 i2) {r : Int} (h0 : 0 ≤ r) (h1 : r < i 0) : a2 57 (5 * r + 0) = a 3 r ∧ a2 57 (5 * r + 1) = a 4 r ∧ a2 57 (5 * r + 2) = a 5 r ∧ a2 57 (5 * r + 3) = a 6 r ∧ a2 57 (5 * r + 4) = a 7 r ∧ a2 58 r = a 8 r := by
  rw [hF.2.2.1 57 (by decide), hF.2.2.1 58 (by decide)]
  exact hag.2.2.1 r h0 h1
theorem Fr_rul (hag : agr a i (mv a) (mi i)) (hF : Fr a i p q w2 a2 i2) {j : Int} (h0 : 0 ≤ j) (h1 : j < 7) : a2 54 j = a 2 j := by
  rw [hF.2.2.1 54 (by decide)]
  exact hag.2.1 j h0 h1
theorem sp_5_treadSoonBehind (hc : colN a i) (hW : Wk a i p q t w2 a2 i2) {f : Int} (f0 : 0 ≤ f) (f1 : f < i 0) (h1 : -2147483648 ≤ fr) (h2 : fr ≤ 2147483647) (h3 : -2147483648 ≤ to) (h4 : to ≤ 2147483647) (h5 : -2147483648 ≤ tt) (h6 : tt ≤ 2147483647) : Q (some (.inl (tsF a (maF a i (a 8) t) fr to tt f (i 0).toNat))) (HH n xs w2 a2 i2) → s_5_treadSoonBehind [.inr (.inr 0), .inl f, .inl fr, .inl to, .inl tt] (HH n xs w2 a2 i2) Q := by
  intro hQ
  obtain ⟨hc2, ho2, K0⟩ := Wk_ok hc hW
  have hk := k24 hc
  obtain ⟨m, hm⟩ := nat_of hk.1
  have hmt : (i 0).toNat = m := by omega
  have E2 := Fr_cE hW.1 2 (by omega) (by omega)
  have E4 := Fr_cE hW.1 4 (by omega) (by omega)
  have f24 : f < 24 := by omega
  have ef := hW.2.2 f f0 f1
  have bf := ma_b hc (t := t) f0 f1
  have hcc := hc
  obtain ⟨⟨p1, p2⟩, ⟨s1, s2⟩, ⟨v1, v2⟩, ⟨n1, n2⟩, ⟨o1, o2⟩, ⟨d1, d2⟩, ⟨e1, e2⟩, ⟨k1, k2⟩, hr, ⟨m1, m2⟩, hd, ⟨b1, b2⟩, hb, hs, hz⟩ := id hc
  rw [hmt] at hQ
  simp (disch := first | assumption | omega | exact zc_lo | exact zc_hi | exact zz_l | exact zz_u | exact zz_r) only [xa_4, xc_2 gc_5_treadSoonBehind_0, xc_3 gc_5_treadSoonBehind_1, xl_aload0, xl_iinc5a, xl_iinc5i, xl_iinc5n, xl_iinc6a, xl_iinc6i, xl_iinc6n, xl_iload1, xl_iload2, xl_iload3, xl_iload4, xl_iload5, xl_iload6, xl_iload7, xl_istore5a, xl_istore5i, xl_istore5n, xl_istore6a, xl_istore6i, xl_istore6n, xl_istore7a, xl_istore7i, xl_istore7n, xm_f, xm_n, xm_t, xn_2, xn_3, xo_0_0, xo_0_6, xo_1_1, xo_1_3, xo_44_2, xo_47_2, xr_goto, xr_ic_ge, xr_ic_gt, xr_iconst, xr_if_eq, xr_iret, xr_isub, xtl_n, xtl_s, xz_i, xz_l, xz_n, xz_r, wb_5_treadSoonBehind_0, wb_5_treadSoonBehind_2, wb_5_treadSoonBehind_3, ss_5_treadSoonBehind, zz_b, zz_bn, Classical.not_not, true_and, Nat.reduceAdd, Nat.reduceLeDiff, true_implies, false_implies, implies_true, not_true_eq_false, not_false_eq_true, and_true, false_and, and_false, if_true, if_false, Int.reduceEq, Int.reduceSub, Int.reduceAdd, Int.reduceMul, Int.reduceNeg, Int.reduceLT, Int.reduceLE, Int.add_zero]
  refine lp_up (m := m) (P := fun d => ∀ l7, dk_WP g_5_treadSoonBehind b_5_treadSoonBehind Q 1 [some (.inr (.inr 0)), some (.inl f), some (.inl fr), some (.inl to), some (.inl tt), some (.inl (tsF a (maF a i (a 8) t) fr to tt f d)), some (.inl d), l7] [] (HH n xs w2 a2 i2)) ?_ ?_ 0 (Nat.zero_le _) none
  · intro l7
    rw [wb_5_treadSoonBehind_1]
    simp (disch := first | assumption | omega | exact zc_lo | exact zc_hi | exact zz_l | exact zz_u | exact zz_r) only [xa_4, xc_2 gc_5_treadSoonBehind_0, xc_3 gc_5_treadSoonBehind_1, xl_aload0, xl_iinc5a, xl_iinc5i, xl_iinc5n, xl_iinc6a, xl_iinc6i, xl_iinc6n, xl_iload1, xl_iload2, xl_iload3, xl_iload4, xl_iload5, xl_iload6, xl_iload7, xl_istore5a, xl_istore5i, xl_istore5n, xl_istore6a, xl_istore6i, xl_istore6n, xl_istore7a, xl_istore7i, xl_istore7n, xm_f, xm_n, xm_t, xn_2, xn_3, xo_0_0, xo_0_6, xo_1_1, xo_1_3, xo_44_2, xo_47_2, xr_goto, xr_ic_ge, xr_ic_gt, xr_iconst, xr_if_eq, xr_iret, xr_isub, xtl_n, xtl_s, xz_i, xz_l, xz_n, xz_r, wb_5_treadSoonBehind_0, wb_5_treadSoonBehind_2, wb_5_treadSoonBehind_3, zz_b, zz_bn, Classical.not_not, true_and, Nat.reduceAdd, Nat.reduceLeDiff, K0]
    exact ⟨fun _ => hQ, fun z => absurd (by omega) z⟩
  · intro d hdm ih l7
    have d0 : (0 : Int) ≤ d := by omega
    have d24 : (d : Int) < 24 := by omega
    have ed := hW.2.2 d (by omega) (by omega)
    have bd := ma_b hcc (t := t) (r := d) (by omega) (by omega)
    obtain ⟨-, ⟨r1, r2⟩, -⟩ := hr d (by omega) (by omega)
    have q4 := Int.emod_nonneg (maF a i (a 8) t d - maF a i (a 8) t f) (show a 2 0 ≠ 0 by omega)
    have q5 := Int.emod_lt_of_pos (maF a i (a 8) t d - maF a i (a 8) t f) (show 0 < a 2 0 by omega)
    have ih := ih
    have P1 : 100 ≤ a2 2 0 := by rw [E2]; exact p1
    have P2 : a2 2 0 ≤ 2000 := by rw [E2]; exact p2
    rw [show tsF a (maF a i (a 8) t) fr to tt f (d + 1) = if (fr ≤ a 4 d ∧ a 4 d ≤ to) ∧ (maF a i (a 8) t d - maF a i (a 8) t f) % a 2 0 ≤ tt then tsF a (maF a i (a 8) t) fr to tt f d + 1 else tsF a (maF a i (a 8) t) fr to tt f d from rfl] at ih
    rw [wb_5_treadSoonBehind_1]
    simp (disch := first | assumption | omega | exact zc_lo | exact zc_hi | exact zz_l | exact zz_u | exact zz_r) only [xa_4, xc_2 gc_5_treadSoonBehind_0, xc_3 gc_5_treadSoonBehind_1, xl_aload0, xl_iinc5a, xl_iinc5i, xl_iinc5n, xl_iinc6a, xl_iinc6i, xl_iinc6n, xl_iload1, xl_iload2, xl_iload3, xl_iload4, xl_iload5, xl_iload6, xl_iload7, xl_istore5a, xl_istore5i, xl_istore5n, xl_istore6a, xl_istore6i, xl_istore6n, xl_istore7a, xl_istore7i, xl_istore7n, xm_f, xm_n, xm_t, xn_2, xn_3, xo_0_0, xo_0_6, xo_1_1, xo_1_3, xo_44_2, xo_47_2, xr_goto, xr_ic_ge, xr_ic_gt, xr_iconst, xr_if_eq, xr_iret, xr_isub, xtl_n, xtl_s, xz_i, xz_l, xz_n, xz_r, wb_5_treadSoonBehind_0, wb_5_treadSoonBehind_2, wb_5_treadSoonBehind_3, zz_b, zz_bn, Classical.not_not, true_and, Nat.reduceAdd, Nat.reduceLeDiff, K0, E2, E4, xa_w (wl hW.1.1) d0 d24 (by omega), xa_w (wl hW.1.1) f0 f24 (by omega), ed, ef, sp_0_roundPace, sp_5_isWithin]
    rw [cs d]
    refine ⟨fun z => absurd z (by omega), fun _ => ⟨fun z => ?_, fun z => ⟨fun z2 => ?_, fun z2 => ?_⟩⟩⟩
    · rw [if_neg (fun q => z q.1)] at ih; exact ih _
    · rw [if_neg (fun q => by omega)] at ih; exact ih _
    · rw [if_pos ⟨z, by omega⟩] at ih; exact ih _
theorem sp_5_togetherOn (hc : colN a i) (hW : Wk a i p q t w2 a2 i2) (h1 : -2147483648 ≤ fr) (h2 : fr ≤ 2147483647) (h3 : -2147483648 ≤ to) (h4 : to ≤ 2147483647) (h5 : -2147483648 ≤ tt) (h6 : tt ≤ 2147483647) : Q (some (.inl (tg a i fr to tt t))) (HH n xs w2 a2 i2) → s_5_togetherOn [.inr (.inr 0), .inl fr, .inl to, .inl tt] (HH n xs w2 a2 i2) Q := by
  intro hQ
  obtain ⟨hc2, ho2, K0⟩ := Wk_ok hc hW
  have hk := k24 hc
  obtain ⟨m, hm⟩ := nat_of hk.1
  have hmt : (i 0).toNat = m := by omega
  have E4 := Fr_cE hW.1 4 (by omega) (by omega)
  have hcc := hc
  obtain ⟨⟨p1, p2⟩, ⟨s1, s2⟩, ⟨v1, v2⟩, ⟨n1, n2⟩, ⟨o1, o2⟩, ⟨d1, d2⟩, ⟨e1, e2⟩, ⟨k1, k2⟩, hr, ⟨m1, m2⟩, hd, ⟨b1, b2⟩, hb, hs, hz⟩ := id hc
  unfold tg at hQ
  rw [hmt] at hQ
  simp (disch := first | assumption | omega | exact zc_lo | exact zc_hi | exact zz_l | exact zz_u | exact zz_r) only [xa_4, xc_2 gc_5_togetherOn_2, xc_3 gc_5_togetherOn_0, xc_5 gc_5_togetherOn_1, xl_aload0, xl_iinc5a, xl_iinc5i, xl_iinc5n, xl_iload1, xl_iload2, xl_iload3, xl_iload4, xl_iload5, xl_istore4a, xl_istore4i, xl_istore4n, xl_istore5a, xl_istore5i, xl_istore5n, xm_f, xm_n, xm_t, xn_2, xn_3, xo_0_0, xo_1_1, xo_1_3, xr_goto, xr_ic_ge, xr_iconst, xr_if_eq, xr_iret, xtl_n, xtl_s, xz_i, xz_l, xz_n, xz_r, wb_5_togetherOn_0, wb_5_togetherOn_2, wb_5_togetherOn_3, ss_5_togetherOn, zz_b, zz_bn, Classical.not_not, true_and, Nat.reduceAdd, Nat.reduceLeDiff, true_implies, false_implies, implies_true, not_true_eq_false, not_false_eq_true, and_true, false_and, and_false, if_true, if_false, Int.reduceEq, Int.reduceSub, Int.reduceAdd, Int.reduceMul, Int.reduceNeg, Int.reduceLT, Int.reduceLE, Int.add_zero]
  refine lp_up (m := m) (P := fun d => dk_WP g_5_togetherOn b_5_togetherOn Q 1 [some (.inr (.inr 0)), some (.inl fr), some (.inl to), some (.inl tt), some (.inl (tgF a (maF a i (a 8) t) fr to tt m d)), some (.inl d)] [] (HH n xs w2 a2 i2)) ?_ ?_ 0 (Nat.zero_le _)
  · rw [wb_5_togetherOn_1]
    simp (disch := first | assumption | omega | exact zc_lo | exact zc_hi | exact zz_l | exact zz_u | exact zz_r) only [xa_4, xc_2 gc_5_togetherOn_2, xc_3 gc_5_togetherOn_0, xc_5 gc_5_togetherOn_1, xl_aload0, xl_iinc5a, xl_iinc5i, xl_iinc5n, xl_iload1, xl_iload2, xl_iload3, xl_iload4, xl_iload5, xl_istore4a, xl_istore4i, xl_istore4n, xl_istore5a, xl_istore5i, xl_istore5n, xm_f, xm_n, xm_t, xn_2, xn_3, xo_0_0, xo_1_1, xo_1_3, xr_goto, xr_ic_ge, xr_iconst, xr_if_eq, xr_iret, xtl_n, xtl_s, xz_i, xz_l, xz_n, xz_r, wb_5_togetherOn_0, wb_5_togetherOn_2, wb_5_togetherOn_3, zz_b, zz_bn, Classical.not_not, true_and, Nat.reduceAdd, Nat.reduceLeDiff, K0]
    exact ⟨fun _ => hQ, fun z => absurd (by omega) z⟩
  · intro d hdm ih
    obtain ⟨-, ⟨r1, r2⟩, -⟩ := hr d (by omega) (by omega)
    have b1 := tgF_bd (c := a) (o := maF a i (a 8) t) (fr := fr) (to := to) (tt := tt) (m := m) d
    have b2 := tsF_bd (c := a) (o := maF a i (a 8) t) (fr := fr) (to := to) (tt := tt) (f := d) m
    rw [show tgF a (maF a i (a 8) t) fr to tt m (d + 1) = if fr ≤ a 4 d ∧ a 4 d ≤ to then mx (tgF a (maF a i (a 8) t) fr to tt m d) (tsF a (maF a i (a 8) t) fr to tt d m) else tgF a (maF a i (a 8) t) fr to tt m d from rfl] at ih
    rw [wb_5_togetherOn_1]
    simp (disch := first | assumption | omega | exact zc_lo | exact zc_hi | exact zz_l | exact zz_u | exact zz_r) only [xa_4, xc_2 gc_5_togetherOn_2, xc_3 gc_5_togetherOn_0, xc_5 gc_5_togetherOn_1, xl_aload0, xl_iinc5a, xl_iinc5i, xl_iinc5n, xl_iload1, xl_iload2, xl_iload3, xl_iload4, xl_iload5, xl_istore4a, xl_istore4i, xl_istore4n, xl_istore5a, xl_istore5i, xl_istore5n, xm_f, xm_n, xm_t, xn_2, xn_3, xo_0_0, xo_1_1, xo_1_3, xr_goto, xr_ic_ge, xr_iconst, xr_if_eq, xr_iret, xtl_n, xtl_s, xz_i, xz_l, xz_n, xz_r, wb_5_togetherOn_0, wb_5_togetherOn_2, wb_5_togetherOn_3, zz_b, zz_bn, Classical.not_not, true_and, Nat.reduceAdd, Nat.reduceLeDiff, K0, E4, sp_5_isWithin]
    refine ⟨fun z => absurd z (by omega), fun _ => ⟨fun z => ?_, fun z => ?_⟩⟩
    · rw [cs d]
      rw [if_neg z] at ih
      exact ih
    · rw [if_pos z] at ih
      refine sp_5_treadSoonBehind hcc hW (by omega) (by omega) h1 h2 h3 h4 h5 h6 ?_
      rw [hmt]
      simp (disch := first | assumption | omega | exact zc_lo | exact zc_hi | exact zz_l | exact zz_u | exact zz_r) only [xa_4, xc_2 gc_5_togetherOn_2, xc_3 gc_5_togetherOn_0, xc_5 gc_5_togetherOn_1, xl_aload0, xl_iinc5a, xl_iinc5i, xl_iinc5n, xl_iload1, xl_iload2, xl_iload3, xl_iload4, xl_iload5, xl_istore4a, xl_istore4i, xl_istore4n, xl_istore5a, xl_istore5i, xl_istore5n, xm_f, xm_n, xm_t, xn_2, xn_3, xo_0_0, xo_1_1, xo_1_3, xr_goto, xr_ic_ge, xr_iconst, xr_if_eq, xr_iret, xtl_n, xtl_s, xz_i, xz_l, xz_n, xz_r, wb_5_togetherOn_0, wb_5_togetherOn_2, wb_5_togetherOn_3, zz_b, zz_bn, Classical.not_not, true_and, Nat.reduceAdd, Nat.reduceLeDiff, sp_8_max]
      rw [cs d]
      exact ih
theorem sp_6_together (hc : colN a i) (hag : agr a i (mv a) (mi i)) (hM : Mk a i p q t w2 a2 i2) (h1 : -2147483648 ≤ fr) (h2 : fr ≤ 2147483647) (h3 : -2147483648 ≤ to) (h4 : to ≤ 2147483647) (h5 : -2147483648 ≤ tt) (h6 : tt ≤ 2147483647) : Q (some (.inl (tg a i fr to tt t))) (HH n xs w2 a2 i2) → s_6_together [.inr (.inr 53), .inl fr, .inl to, .inl tt] (HH n xs w2 a2 i2) Q := by
  intro hQ
  obtain ⟨hF, hoe⟩ := hM
  obtain ⟨hm1, hm2, hm3, hm4, hm5⟩ := Fr_m hc hag hF
  have hk := k24 hc
  obtain ⟨m, hm⟩ := nat_of hk.1
  have hmt : (i 0).toNat = m := by omega
  have R0 := Fr_rul hag hF (j := 0) (by omega) (by omega)
  have hok := maF_ok hc (oOK_8 hc) t
  have hcc := hc
  obtain ⟨⟨p1, p2⟩, ⟨s1, s2⟩, ⟨v1, v2⟩, ⟨n1, n2⟩, ⟨o1, o2⟩, ⟨d1, d2⟩, ⟨e1, e2⟩, ⟨k1, k2⟩, hr, ⟨m1, m2⟩, hd, ⟨b1, b2⟩, hb, hs, hz⟩ := id hc
  unfold tg at hQ
  rw [hmt] at hQ
  simp (disch := first | assumption | omega | exact zc_lo | exact zc_hi | exact zz_l | exact zz_u | exact zz_r) only [xa_54, xa_65, xc_3 gc_6_together_0, xc_3 gc_6_together_1, xl_aload0, xl_iinc5a, xl_iinc5i, xl_iinc5n, xl_iinc7a, xl_iinc7i, xl_iinc7n, xl_iload1, xl_iload2, xl_iload3, xl_iload4, xl_iload5, xl_iload6, xl_iload7, xl_iload8, xl_istore4a, xl_istore4i, xl_istore4n, xl_istore5a, xl_istore5i, xl_istore5n, xl_istore6a, xl_istore6i, xl_istore6n, xl_istore7a, xl_istore7i, xl_istore7n, xl_istore8a, xl_istore8i, xl_istore8n, xm_f, xm_n, xm_t, xn_10, xn_3, xn_5, xn_7, xn_8, xo_53_0, xo_53_23, xo_53_3, xr_goto, xr_iadd, xr_ic_ge, xr_ic_gt, xr_ic_le, xr_iconst, xr_if_eq, xr_if_ge, xr_iret, xr_isub, xtl_n, xtl_s, xz_i, xz_l, xz_n, xz_r, wb_6_together_0, wb_6_together_3, wb_6_together_4, wb_6_together_5, wb_6_together_6, wb_6_together_7, wb_6_together_8, wb_6_together_9, wb_6_together_10, ss_6_together, zz_b, zz_bn, Classical.not_not, true_and, Nat.reduceAdd, Nat.reduceLeDiff, true_implies, false_implies, implies_true, not_true_eq_false, not_false_eq_true, and_true, false_and, and_false, if_true, if_false, Int.reduceEq, Int.reduceSub, Int.reduceAdd, Int.reduceMul, Int.reduceNeg, Int.reduceLT, Int.reduceLE, Int.add_zero]
  refine lp_up (m := m) (P := fun d => ∀ l6 l7 l8, dk_WP g_6_together b_6_together Q 1 [some (.inr (.inr 53)), some (.inl fr), some (.inl to), some (.inl tt), some (.inl (tgF a (maF a i (a 8) t) fr to tt m d)), some (.inl d), l6, l7, l8] [] (HH n xs w2 a2 i2)) ?_ ?_ 0 (Nat.zero_le _) none none none
  · intro l6 l7 l8
    rw [wb_6_together_1]
    simp (disch := first | assumption | omega | exact zc_lo | exact zc_hi | exact zz_l | exact zz_u | exact zz_r) only [xa_54, xa_65, xc_3 gc_6_together_0, xc_3 gc_6_together_1, xl_aload0, xl_iinc5a, xl_iinc5i, xl_iinc5n, xl_iinc7a, xl_iinc7i, xl_iinc7n, xl_iload1, xl_iload2, xl_iload3, xl_iload4, xl_iload5, xl_iload6, xl_iload7, xl_iload8, xl_istore4a, xl_istore4i, xl_istore4n, xl_istore5a, xl_istore5i, xl_istore5n, xl_istore6a, xl_istore6i, xl_istore6n, xl_istore7a, xl_istore7i, xl_istore7n, xl_istore8a, xl_istore8i, xl_istore8n, xm_f, xm_n, xm_t, xn_10, xn_3, xn_5, xn_7, xn_8, xo_53_0, xo_53_23, xo_53_3, xr_goto, xr_iadd, xr_ic_ge, xr_ic_gt, xr_ic_le, xr_iconst, xr_if_eq, xr_if_ge, xr_iret, xr_isub, xtl_n, xtl_s, xz_i, xz_l, xz_n, xz_r, wb_6_together_0, wb_6_together_3, wb_6_together_4, wb_6_together_5, wb_6_together_6, wb_6_together_7, wb_6_together_8, wb_6_together_9, wb_6_together_10, zz_b, zz_bn, Classical.not_not, true_and, Nat.reduceAdd, Nat.reduceLeDiff, hm3]
    exact ⟨fun _ => hQ, fun z => absurd (by omega) z⟩
  · intro d hdm ih l6 l7 l8
    have ih := ih
    obtain ⟨-, ⟨r1, r2⟩, -⟩ := hr d (by omega) (by omega)
    have b1 := tgF_bd (c := a) (o := maF a i (a 8) t) (fr := fr) (to := to) (tt := tt) (m := m) d
    have b2 := tsF_bd (c := a) (o := maF a i (a 8) t) (fr := fr) (to := to) (tt := tt) (f := d) m
    have ed := hoe d (by omega) (by omega)
    have bd := hok d (by omega) (by omega)
    have id1 := (Fr_its hag hF (r := d) (by omega) (by omega)).2.1
    rw [show tgF a (maF a i (a 8) t) fr to tt m (d + 1) = if fr ≤ a 4 d ∧ a 4 d ≤ to then mx (tgF a (maF a i (a 8) t) fr to tt m d) (tsF a (maF a i (a 8) t) fr to tt d m) else tgF a (maF a i (a 8) t) fr to tt m d from rfl] at ih
    rw [wb_6_together_1]
    simp (disch := first | assumption | omega | exact zc_lo | exact zc_hi | exact zz_l | exact zz_u | exact zz_r) only [xa_54, xa_65, xc_3 gc_6_together_0, xc_3 gc_6_together_1, xl_aload0, xl_iinc5a, xl_iinc5i, xl_iinc5n, xl_iinc7a, xl_iinc7i, xl_iinc7n, xl_iload1, xl_iload2, xl_iload3, xl_iload4, xl_iload5, xl_iload6, xl_iload7, xl_iload8, xl_istore4a, xl_istore4i, xl_istore4n, xl_istore5a, xl_istore5i, xl_istore5n, xl_istore6a, xl_istore6i, xl_istore6n, xl_istore7a, xl_istore7i, xl_istore7n, xl_istore8a, xl_istore8i, xl_istore8n, xm_f, xm_n, xm_t, xn_10, xn_3, xn_5, xn_7, xn_8, xo_53_0, xo_53_23, xo_53_3, xr_goto, xr_iadd, xr_ic_ge, xr_ic_gt, xr_ic_le, xr_iconst, xr_if_eq, xr_if_ge, xr_iret, xr_isub, xtl_n, xtl_s, xz_i, xz_l, xz_n, xz_r, wb_6_together_0, wb_6_together_3, wb_6_together_4, wb_6_together_5, wb_6_together_6, wb_6_together_7, wb_6_together_8, wb_6_together_9, wb_6_together_10, zz_b, zz_bn, Classical.not_not, true_and, Nat.reduceAdd, Nat.reduceLeDiff, hm3]
    refine ⟨fun z => absurd z (by omega), fun _ => ?_⟩
    refine lp_up (m := m) (P := fun e => ∀ l8, dk_WP g_6_together b_6_together Q 2 [some (.inr (.inr 53)), some (.inl fr), some (.inl to), some (.inl tt), some (.inl (tgF a (maF a i (a 8) t) fr to tt m d)), some (.inl d), some (.inl (tsF a (maF a i (a 8) t) fr to tt d e)), some (.inl e), l8] [] (HH n xs w2 a2 i2)) ?_ ?_ 0 (Nat.zero_le _) _
    · intro l8
      rw [wb_6_together_2]
      simp (disch := first | assumption | omega | exact zc_lo | exact zc_hi | exact zz_l | exact zz_u | exact zz_r) only [xa_54, xa_65, xc_3 gc_6_together_0, xc_3 gc_6_together_1, xl_aload0, xl_iinc5a, xl_iinc5i, xl_iinc5n, xl_iinc7a, xl_iinc7i, xl_iinc7n, xl_iload1, xl_iload2, xl_iload3, xl_iload4, xl_iload5, xl_iload6, xl_iload7, xl_iload8, xl_istore4a, xl_istore4i, xl_istore4n, xl_istore5a, xl_istore5i, xl_istore5n, xl_istore6a, xl_istore6i, xl_istore6n, xl_istore7a, xl_istore7i, xl_istore7n, xl_istore8a, xl_istore8i, xl_istore8n, xm_f, xm_n, xm_t, xn_10, xn_3, xn_5, xn_7, xn_8, xo_53_0, xo_53_23, xo_53_3, xr_goto, xr_iadd, xr_ic_ge, xr_ic_gt, xr_ic_le, xr_iconst, xr_if_eq, xr_if_ge, xr_iret, xr_isub, xtl_n, xtl_s, xz_i, xz_l, xz_n, xz_r, wb_6_together_0, wb_6_together_3, wb_6_together_4, wb_6_together_5, wb_6_together_6, wb_6_together_7, wb_6_together_8, wb_6_together_9, wb_6_together_10, zz_b, zz_bn, Classical.not_not, true_and, Nat.reduceAdd, Nat.reduceLeDiff, hm3, sp_6_its, sp_6_in, id1]
      rw [cs d]
      refine ⟨fun _ => ⟨fun z => ?_, fun z => ⟨fun z2 => ?_, fun z2 => ?_⟩⟩, fun z => absurd (by omega) z⟩
      · rw [if_neg z] at ih; exact ih _ _ _
      · rw [if_pos z, mx, if_neg (by omega)] at ih; exact ih _ _ _
      · rw [if_pos z, mx, if_pos (by omega)] at ih; exact ih _ _ _
    · intro e hem ih2 l8
      have ih2 := ih2
      obtain ⟨-, ⟨s3, s4⟩, -⟩ := hr e (by omega) (by omega)
      have ee := hoe e (by omega) (by omega)
      have be := hok e (by omega) (by omega)
      have b3 := tsF_bd (c := a) (o := maF a i (a 8) t) (fr := fr) (to := to) (tt := tt) (f := d) e
      have id2 := (Fr_its hag hF (r := e) (by omega) (by omega)).2.1
      rw [show tsF a (maF a i (a 8) t) fr to tt d (e + 1) = if (fr ≤ a 4 e ∧ a 4 e ≤ to) ∧ (maF a i (a 8) t e - maF a i (a 8) t d) % a 2 0 ≤ tt then tsF a (maF a i (a 8) t) fr to tt d e + 1 else tsF a (maF a i (a 8) t) fr to tt d e from rfl] at ih2
      generalize maF a i (a 8) t e = u at ee be ih2
      generalize maF a i (a 8) t d = v at ed bd ih2
      have fin : ∀ (x : Int) (l8 : Option dk_V), x = (u - v) % a 2 0 → dk_WP g_6_together b_6_together Q 4 [some (.inr (.inr 53)), some (.inl fr), some (.inl to), some (.inl tt), some (.inl (tgF a (maF a i (a 8) t) fr to tt m d)), some (.inl d), some (.inl (tsF a (maF a i (a 8) t) fr to tt d e)), some (.inl e), l8] [.inl x] (HH n xs w2 a2 i2) := by
        intro x l8 hx
        have q4 := Int.emod_nonneg (u - v) (show a 2 0 ≠ 0 by omega)
        have q5 := Int.emod_lt_of_pos (u - v) (show 0 < a 2 0 by omega)
        simp (disch := first | assumption | omega | exact zc_lo | exact zc_hi | exact zz_l | exact zz_u | exact zz_r) only [xa_54, xa_65, xc_3 gc_6_together_0, xc_3 gc_6_together_1, xl_aload0, xl_iinc5a, xl_iinc5i, xl_iinc5n, xl_iinc7a, xl_iinc7i, xl_iinc7n, xl_iload1, xl_iload2, xl_iload3, xl_iload4, xl_iload5, xl_iload6, xl_iload7, xl_iload8, xl_istore4a, xl_istore4i, xl_istore4n, xl_istore5a, xl_istore5i, xl_istore5n, xl_istore6a, xl_istore6i, xl_istore6n, xl_istore7a, xl_istore7i, xl_istore7n, xl_istore8a, xl_istore8i, xl_istore8n, xm_f, xm_n, xm_t, xn_10, xn_3, xn_5, xn_7, xn_8, xo_53_0, xo_53_23, xo_53_3, xr_goto, xr_iadd, xr_ic_ge, xr_ic_gt, xr_ic_le, xr_iconst, xr_if_eq, xr_if_ge, xr_iret, xr_isub, xtl_n, xtl_s, xz_i, xz_l, xz_n, xz_r, wb_6_together_0, wb_6_together_3, wb_6_together_4, wb_6_together_5, wb_6_together_6, wb_6_together_7, wb_6_together_8, wb_6_together_9, wb_6_together_10, zz_b, zz_bn, Classical.not_not, true_and, Nat.reduceAdd, Nat.reduceLeDiff, sp_6_its, sp_6_in, id2]
        rw [cs e]
        refine ⟨fun z => ?_, fun z => ⟨fun z2 => ?_, fun z2 => ?_⟩⟩
        · rw [if_neg (fun q => z q.1)] at ih2; rw [Int.add_zero]; exact ih2 _
        · rw [if_neg (fun q => by omega)] at ih2; rw [Int.add_zero]; exact ih2 _
        · rw [if_pos ⟨z, by omega⟩] at ih2; exact ih2 _
      rw [wb_6_together_2]
      simp (disch := first | assumption | omega | exact zc_lo | exact zc_hi | exact zz_l | exact zz_u | exact zz_r) only [xa_54, xa_65, xc_3 gc_6_together_0, xc_3 gc_6_together_1, xl_aload0, xl_iinc5a, xl_iinc5i, xl_iinc5n, xl_iinc7a, xl_iinc7i, xl_iinc7n, xl_iload1, xl_iload2, xl_iload3, xl_iload4, xl_iload5, xl_iload6, xl_iload7, xl_iload8, xl_istore4a, xl_istore4i, xl_istore4n, xl_istore5a, xl_istore5i, xl_istore5n, xl_istore6a, xl_istore6i, xl_istore6n, xl_istore7a, xl_istore7i, xl_istore7n, xl_istore8a, xl_istore8i, xl_istore8n, xm_f, xm_n, xm_t, xn_10, xn_3, xn_5, xn_7, xn_8, xo_53_0, xo_53_23, xo_53_3, xr_goto, xr_iadd, xr_ic_ge, xr_ic_gt, xr_ic_le, xr_iconst, xr_if_eq, xr_if_ge, xr_iret, xr_isub, xtl_n, xtl_s, xz_i, xz_l, xz_n, xz_r, xa_54, xa_65, xc_3 gc_6_together_0, xc_3 gc_6_together_1, xl_aload0, xl_iinc5a, xl_iinc5i, xl_iinc5n, xl_iinc7a, xl_iinc7i, xl_iinc7n, xl_iload1, xl_iload2, xl_iload3, xl_iload4, xl_iload5, xl_iload6, xl_iload7, xl_iload8, xl_istore4a, xl_istore4i, xl_istore4n, xl_istore5a, xl_istore5i, xl_istore5n, xl_istore6a, xl_istore6i, xl_istore6n, xl_istore7a, xl_istore7i, xl_istore7n, xl_istore8a, xl_istore8i, xl_istore8n, xm_f, xm_n, xm_t, xn_10, xn_3, xn_5, xn_7, xn_8, xo_53_0, xo_53_23, xo_53_3, xr_goto, xr_iadd, xr_ic_ge, xr_ic_gt, xr_ic_le, xr_iconst, xr_if_eq, xr_if_ge, xr_iret, xr_isub, xtl_n, xtl_s, xz_i, xz_l, xz_n, xz_r, zz_b, zz_bn, Classical.not_not, true_and, Nat.reduceAdd, Nat.reduceLeDiff, hm3, ee, ed, R0, wb_6_together_3]
      refine ⟨fun z => absurd z (by omega), fun _ => ⟨fun z => ?_, fun z => ?_⟩⟩
      · exact fin (u - v) _ (by rw [Int.emod_eq_of_lt z (by omega)])
      · refine fin (u - v + a 2 0) _ ?_
        have e1 : (u - v + a 2 0) % a 2 0 = (u - v) % a 2 0 := Int.add_emod_right _ _
        rw [← e1, Int.emod_eq_of_lt (by omega) (by omega)]
theorem sp_5_isBridge {h : dk_H} (h1 : -2147483648 ≤ fr) (h2 : fr ≤ 2147483647) (h3 : -2147483648 ≤ to) (h4 : to ≤ 2147483647) (h5 : -2147483648 ≤ tt) (h6 : tt ≤ 2147483647) : s_5_isBridge [.inl fr, .inl to, .inl tt] h Q = Q (some (.inl (if (0 ≤ fr ∧ fr ≤ 4999) ∧ (fr ≤ to ∧ to ≤ 4999) ∧ (0 ≤ tt ∧ tt ≤ 999) then 1 else 0))) h := by
  simp (disch := first | assumption | omega | exact zc_lo | exact zc_hi | exact zz_l | exact zz_u | exact zz_r) only [xc_1 gc_5_isBridge_0, xc_3 gc_5_isBridge_1, xl_iload0, xl_iload1, xl_iload2, xm_f, xm_n, xm_t, xn_1, xr_goto, xr_iconst, xr_if_eq, xr_zret, xtl_n, xtl_s, xz_i, xz_l, xz_n, xz_r, wb_5_isBridge_0, wb_5_isBridge_1, wb_5_isBridge_2, ss_5_isBridge, zz_b, zz_bn, Classical.not_not, true_and, Nat.reduceAdd, Nat.reduceLeDiff, sp_5_isPlace, sp_5_isWithin]
  by_cases c1 : 0 ≤ fr ∧ fr ≤ 4999
  · by_cases c2 : fr ≤ to ∧ to ≤ 4999
    · by_cases c3 : 0 ≤ tt ∧ tt ≤ 999 <;> simp only [c1, c2, c3, true_implies, false_implies, implies_true, not_true_eq_false, not_false_eq_true, true_and, and_true, false_and, and_false, true_or, or_true, false_or, or_false, Bool.false_eq_true, Classical.not_not, ↓reduceIte]
    · simp only [c1, c2, true_implies, false_implies, implies_true, not_true_eq_false, not_false_eq_true, true_and, and_true, false_and, and_false, true_or, or_true, false_or, or_false, Bool.false_eq_true, Classical.not_not, ↓reduceIte]
  · simp only [c1, true_implies, false_implies, implies_true, not_true_eq_false, not_false_eq_true, true_and, and_true, false_and, and_false, true_or, or_true, false_or, or_false, Bool.false_eq_true, Classical.not_not, ↓reduceIte]
theorem sp_6_isBridge {h : dk_H} (h1 : -2147483648 ≤ fr) (h2 : fr ≤ 2147483647) (h3 : -2147483648 ≤ to) (h4 : to ≤ 2147483647) (h5 : -2147483648 ≤ tt) (h6 : tt ≤ 2147483647) : s_6_isBridge [.inl fr, .inl to, .inl tt] h Q = Q (some (.inl (if (0 ≤ fr ∧ fr ≤ 4999) ∧ (fr ≤ to ∧ to ≤ 4999) ∧ (0 ≤ tt ∧ tt ≤ 999) then 1 else 0))) h := by
  simp (disch := first | assumption | omega | exact zc_lo | exact zc_hi | exact zz_l | exact zz_u | exact zz_r) only [xc_1 gc_6_isBridge_0, xc_3 gc_6_isBridge_1, xl_iload0, xl_iload1, xl_iload2, xm_f, xm_n, xm_t, xn_1, xr_goto, xr_iconst, xr_if_eq, xr_zret, xtl_n, xtl_s, xz_i, xz_l, xz_n, xz_r, wb_6_isBridge_0, wb_6_isBridge_1, wb_6_isBridge_2, ss_6_isBridge, zz_b, zz_bn, Classical.not_not, true_and, Nat.reduceAdd, Nat.reduceLeDiff, sp_6_isPlace, sp_6_in]
  by_cases c1 : 0 ≤ fr ∧ fr ≤ 4999
  · by_cases c2 : fr ≤ to ∧ to ≤ 4999
    · by_cases c3 : 0 ≤ tt ∧ tt ≤ 999 <;> simp only [c1, c2, c3, true_implies, false_implies, implies_true, not_true_eq_false, not_false_eq_true, true_and, and_true, false_and, and_false, true_or, or_true, false_or, or_false, Bool.false_eq_true, Classical.not_not, ↓reduceIte]
    · simp only [c1, c2, true_implies, false_implies, implies_true, not_true_eq_false, not_false_eq_true, true_and, and_true, false_and, and_false, true_or, or_true, false_or, or_false, Bool.false_eq_true, Classical.not_not, ↓reduceIte]
  · simp only [c1, true_implies, false_implies, implies_true, not_true_eq_false, not_false_eq_true, true_and, and_true, false_and, and_false, true_or, or_true, false_or, or_false, Bool.false_eq_true, Classical.not_not, ↓reduceIte]
theorem op_bridge (h : Inv N w a i) {y : Int} (h1 : -2147483648 ≤ fr) (h2 : fr ≤ 2147483647) (h3 : -2147483648 ≤ to) (h4 : to ≤ 2147483647) (h5 : -2147483648 ≤ tt) (h6 : tt ≤ 2147483647) (y1 : -2147483648 ≤ y) (y2 : y ≤ 2147483647) : s_5_bridge [.inr (.inr 0), .inl fr, .inl to, .inl tt, .inl y] (HH n xs w a i) (fun r h => s_6_bridge [.inr (.inr 53), .inl fr, .inl to, .inl tt, .inl y] h (OPQ n xs N r)) := by
  have hc := h.2.1
  have hag := h.2.2.1
  by_cases c1 : (0 ≤ fr ∧ fr ≤ 4999) ∧ (fr ≤ to ∧ to ≤ 4999) ∧ (0 ≤ tt ∧ tt ≤ 999)
  · by_cases c2 : 0 ≤ y ∧ y ≤ 200
    · obtain ⟨M, rfl⟩ := nat_of c2.1
      have bd := tg_b (fr := fr) (to := to) (tt := tt) (t := M) hc
      simp (disch := first | assumption | omega | exact zc_lo | exact zc_hi | exact zz_l | exact zz_u | exact zz_r) only [xc_1 gc_5_bridge_1, xc_1 gc_5_bridge_3, xc_2 gc_5_bridge_2, xc_2 gc_5_bridge_4, xc_3 gc_5_bridge_0, xc_4 gc_5_bridge_5, xl_aload0, xl_iload1, xl_iload2, xl_iload3, xl_iload4, xm_f, xm_n, xm_t, xn_1, xn_2, xo_0_6, xr_goto, xr_iconst, xr_if_eq, xr_if_ne, xr_iret, xtl_n, xtl_s, xz_i, xz_l, xz_n, xz_r, wb_5_bridge_0, wb_5_bridge_1, wb_5_bridge_2, ss_5_bridge, zz_b, zz_bn, Classical.not_not, true_and, Nat.reduceAdd, Nat.reduceLeDiff, sp_5_isBridge, sp_5_isMarch, c1, c2, true_implies, false_implies, implies_true, not_true_eq_false, not_false_eq_true, and_true, false_and, and_false, if_true, if_false, Int.reduceEq, Int.reduceSub, Int.reduceAdd, Int.reduceMul, Int.reduceNeg, Int.reduceLT, Int.reduceLE, Int.add_zero]
      refine sp_set hc (Fr_rf h) (fun a3 i3 hW _ _ => ?_)
      simp (disch := first | assumption | omega | exact zc_lo | exact zc_hi | exact zz_l | exact zz_u | exact zz_r) only [xc_1 gc_5_bridge_1, xc_1 gc_5_bridge_3, xc_2 gc_5_bridge_2, xc_2 gc_5_bridge_4, xc_3 gc_5_bridge_0, xc_4 gc_5_bridge_5, xl_aload0, xl_iload1, xl_iload2, xl_iload3, xl_iload4, xm_f, xm_n, xm_t, xn_1, xn_2, xo_0_6, xr_goto, xr_iconst, xr_if_eq, xr_if_ne, xr_iret, xtl_n, xtl_s, xz_i, xz_l, xz_n, xz_r, wb_5_bridge_0, wb_5_bridge_1, wb_5_bridge_2, zz_b, zz_bn, Classical.not_not, true_and, Nat.reduceAdd, Nat.reduceLeDiff, true_implies, false_implies, implies_true, not_true_eq_false, not_false_eq_true, and_true, false_and, and_false, if_true, if_false, Int.reduceEq, Int.reduceSub, Int.reduceAdd, Int.reduceMul, Int.reduceNeg, Int.reduceLT, Int.reduceLE, Int.add_zero]
      refine sp_wlk hc hW (by omega) (fun w4 a4 hW4 _ _ => ?_)
      simp (disch := first | assumption | omega | exact zc_lo | exact zc_hi | exact zz_l | exact zz_u | exact zz_r) only [xc_1 gc_5_bridge_1, xc_1 gc_5_bridge_3, xc_2 gc_5_bridge_2, xc_2 gc_5_bridge_4, xc_3 gc_5_bridge_0, xc_4 gc_5_bridge_5, xl_aload0, xl_iload1, xl_iload2, xl_iload3, xl_iload4, xm_f, xm_n, xm_t, xn_1, xn_2, xo_0_6, xr_goto, xr_iconst, xr_if_eq, xr_if_ne, xr_iret, xtl_n, xtl_s, xz_i, xz_l, xz_n, xz_r, wb_5_bridge_0, wb_5_bridge_1, wb_5_bridge_2, zz_b, zz_bn, Classical.not_not, true_and, Nat.reduceAdd, Nat.reduceLeDiff, true_implies, false_implies, implies_true, not_true_eq_false, not_false_eq_true, and_true, false_and, and_false, if_true, if_false, Int.reduceEq, Int.reduceSub, Int.reduceAdd, Int.reduceMul, Int.reduceNeg, Int.reduceLT, Int.reduceLE, Int.add_zero]
      refine sp_5_togetherOn hc hW4 h1 h2 h3 h4 h5 h6 ?_
      simp (disch := first | assumption | omega | exact zc_lo | exact zc_hi | exact zz_l | exact zz_u | exact zz_r) only [xc_1 gc_5_bridge_1, xc_1 gc_5_bridge_3, xc_2 gc_5_bridge_2, xc_2 gc_5_bridge_4, xc_3 gc_5_bridge_0, xc_4 gc_5_bridge_5, xl_aload0, xl_iload1, xl_iload2, xl_iload3, xl_iload4, xm_f, xm_n, xm_t, xn_1, xn_2, xo_0_6, xr_goto, xr_iconst, xr_if_eq, xr_if_ne, xr_iret, xtl_n, xtl_s, xz_i, xz_l, xz_n, xz_r, wb_5_bridge_0, wb_5_bridge_1, wb_5_bridge_2, xc_1 gc_6_bridge_3, xc_2 gc_6_bridge_2, xc_2 gc_6_bridge_4, xc_3 gc_6_bridge_0, xc_3 gc_6_bridge_1, xc_4 gc_6_bridge_5, xl_aload0, xl_iload1, xl_iload2, xl_iload3, xl_iload4, xm_f, xm_n, xm_t, xn_1, xn_2, xr_goto, xr_iconst, xr_if_eq, xr_if_ne, xr_iret, xtl_n, xtl_s, xz_i, xz_l, xz_n, xz_r, wb_6_bridge_0, wb_6_bridge_1, wb_6_bridge_2, ss_6_bridge, zz_b, zz_bn, Classical.not_not, true_and, Nat.reduceAdd, Nat.reduceLeDiff, sp_6_isBridge, sp_6_in, c1, c2, true_implies, false_implies, implies_true, not_true_eq_false, not_false_eq_true, and_true, false_and, and_false, if_true, if_false, Int.reduceEq, Int.reduceSub, Int.reduceAdd, Int.reduceMul, Int.reduceNeg, Int.reduceLT, Int.reduceLE, Int.add_zero]
      refine sp_mbeg hc hag hW4.1 (fun a5 hM5 _ => ?_)
      simp (disch := first | assumption | omega | exact zc_lo | exact zc_hi | exact zz_l | exact zz_u | exact zz_r) only [xc_1 gc_6_bridge_3, xc_2 gc_6_bridge_2, xc_2 gc_6_bridge_4, xc_3 gc_6_bridge_0, xc_3 gc_6_bridge_1, xc_4 gc_6_bridge_5, xl_aload0, xl_iload1, xl_iload2, xl_iload3, xl_iload4, xm_f, xm_n, xm_t, xn_1, xn_2, xr_goto, xr_iconst, xr_if_eq, xr_if_ne, xr_iret, xtl_n, xtl_s, xz_i, xz_l, xz_n, xz_r, wb_6_bridge_0, wb_6_bridge_1, wb_6_bridge_2, zz_b, zz_bn, Classical.not_not, true_and, Nat.reduceAdd, Nat.reduceLeDiff, true_implies, false_implies, implies_true, not_true_eq_false, not_false_eq_true, and_true, false_and, and_false, if_true, if_false, Int.reduceEq, Int.reduceSub, Int.reduceAdd, Int.reduceMul, Int.reduceNeg, Int.reduceLT, Int.reduceLE, Int.add_zero]
      refine sp_mgon hc hag hM5 (by omega) (fun a6 hM6 _ => ?_)
      simp (disch := first | assumption | omega | exact zc_lo | exact zc_hi | exact zz_l | exact zz_u | exact zz_r) only [xc_1 gc_6_bridge_3, xc_2 gc_6_bridge_2, xc_2 gc_6_bridge_4, xc_3 gc_6_bridge_0, xc_3 gc_6_bridge_1, xc_4 gc_6_bridge_5, xl_aload0, xl_iload1, xl_iload2, xl_iload3, xl_iload4, xm_f, xm_n, xm_t, xn_1, xn_2, xr_goto, xr_iconst, xr_if_eq, xr_if_ne, xr_iret, xtl_n, xtl_s, xz_i, xz_l, xz_n, xz_r, wb_6_bridge_0, wb_6_bridge_1, wb_6_bridge_2, zz_b, zz_bn, Classical.not_not, true_and, Nat.reduceAdd, Nat.reduceLeDiff, true_implies, false_implies, implies_true, not_true_eq_false, not_false_eq_true, and_true, false_and, and_false, if_true, if_false, Int.reduceEq, Int.reduceSub, Int.reduceAdd, Int.reduceMul, Int.reduceNeg, Int.reduceLT, Int.reduceLE, Int.add_zero]
      refine sp_6_together hc hag hM6 h1 h2 h3 h4 h5 h6 ?_
      simp (disch := first | assumption | omega | exact zc_lo | exact zc_hi | exact zz_l | exact zz_u | exact zz_r) only [xc_1 gc_6_bridge_3, xc_2 gc_6_bridge_2, xc_2 gc_6_bridge_4, xc_3 gc_6_bridge_0, xc_3 gc_6_bridge_1, xc_4 gc_6_bridge_5, xl_aload0, xl_iload1, xl_iload2, xl_iload3, xl_iload4, xm_f, xm_n, xm_t, xn_1, xn_2, xr_goto, xr_iconst, xr_if_eq, xr_if_ne, xr_iret, xtl_n, xtl_s, xz_i, xz_l, xz_n, xz_r, wb_6_bridge_0, wb_6_bridge_1, wb_6_bridge_2, zz_b, zz_bn, Classical.not_not, true_and, Nat.reduceAdd, Nat.reduceLeDiff, true_implies, false_implies, implies_true, not_true_eq_false, not_false_eq_true, and_true, false_and, and_false, if_true, if_false, Int.reduceEq, Int.reduceSub, Int.reduceAdd, Int.reduceMul, Int.reduceNeg, Int.reduceLT, Int.reduceLE, Int.add_zero]
      exact OPQ_f h hM6.1 (by omega) (by omega)
    · simp (disch := first | assumption | omega | exact zc_lo | exact zc_hi | exact zz_l | exact zz_u | exact zz_r) only [xc_1 gc_5_bridge_1, xc_1 gc_5_bridge_3, xc_2 gc_5_bridge_2, xc_2 gc_5_bridge_4, xc_3 gc_5_bridge_0, xc_4 gc_5_bridge_5, xl_aload0, xl_iload1, xl_iload2, xl_iload3, xl_iload4, xm_f, xm_n, xm_t, xn_1, xn_2, xo_0_6, xr_goto, xr_iconst, xr_if_eq, xr_if_ne, xr_iret, xtl_n, xtl_s, xz_i, xz_l, xz_n, xz_r, wb_5_bridge_0, wb_5_bridge_1, wb_5_bridge_2, ss_5_bridge, xc_1 gc_6_bridge_3, xc_2 gc_6_bridge_2, xc_2 gc_6_bridge_4, xc_3 gc_6_bridge_0, xc_3 gc_6_bridge_1, xc_4 gc_6_bridge_5, xl_aload0, xl_iload1, xl_iload2, xl_iload3, xl_iload4, xm_f, xm_n, xm_t, xn_1, xn_2, xr_goto, xr_iconst, xr_if_eq, xr_if_ne, xr_iret, xtl_n, xtl_s, xz_i, xz_l, xz_n, xz_r, wb_6_bridge_0, wb_6_bridge_1, wb_6_bridge_2, ss_6_bridge, zz_b, zz_bn, Classical.not_not, true_and, Nat.reduceAdd, Nat.reduceLeDiff, sp_5_isBridge, sp_5_isMarch, sp_6_isBridge, sp_6_in, sp_5_finding, sp_6_finds, c1, c2, true_implies, false_implies, implies_true, not_true_eq_false, not_false_eq_true, and_true, false_and, and_false, if_true, if_false, Int.reduceEq, Int.reduceSub, Int.reduceAdd, Int.reduceMul, Int.reduceNeg, Int.reduceLT, Int.reduceLE, Int.add_zero]
      exact fnd h 0 (by omega) (by omega)
  · simp (disch := first | assumption | omega | exact zc_lo | exact zc_hi | exact zz_l | exact zz_u | exact zz_r) only [xc_1 gc_5_bridge_1, xc_1 gc_5_bridge_3, xc_2 gc_5_bridge_2, xc_2 gc_5_bridge_4, xc_3 gc_5_bridge_0, xc_4 gc_5_bridge_5, xl_aload0, xl_iload1, xl_iload2, xl_iload3, xl_iload4, xm_f, xm_n, xm_t, xn_1, xn_2, xo_0_6, xr_goto, xr_iconst, xr_if_eq, xr_if_ne, xr_iret, xtl_n, xtl_s, xz_i, xz_l, xz_n, xz_r, wb_5_bridge_0, wb_5_bridge_1, wb_5_bridge_2, ss_5_bridge, xc_1 gc_6_bridge_3, xc_2 gc_6_bridge_2, xc_2 gc_6_bridge_4, xc_3 gc_6_bridge_0, xc_3 gc_6_bridge_1, xc_4 gc_6_bridge_5, xl_aload0, xl_iload1, xl_iload2, xl_iload3, xl_iload4, xm_f, xm_n, xm_t, xn_1, xn_2, xr_goto, xr_iconst, xr_if_eq, xr_if_ne, xr_iret, xtl_n, xtl_s, xz_i, xz_l, xz_n, xz_r, wb_6_bridge_0, wb_6_bridge_1, wb_6_bridge_2, ss_6_bridge, zz_b, zz_bn, Classical.not_not, true_and, Nat.reduceAdd, Nat.reduceLeDiff, sp_5_isBridge, sp_5_isMarch, sp_6_isBridge, sp_6_in, sp_5_finding, sp_6_finds, c1, true_implies, false_implies, implies_true, not_true_eq_false, not_false_eq_true, and_true, false_and, and_false, if_true, if_false, Int.reduceEq, Int.reduceSub, Int.reduceAdd, Int.reduceMul, Int.reduceNeg, Int.reduceLT, Int.reduceLE, Int.add_zero]
    exact fnd h 0 (by omega) (by omega)
theorem tg_stay (hc : colN a i) (hal : Al a i t (t + 1)) : ∀ m : Nat, t ≤ m → tg a i fr to tt m = tg a i fr to tt t := by
  intro m hm
  have hk := k24 hc
  unfold tg
  exact tgF_o (fun r z1 z2 => maF_stay hal m hm r z1 (by omega)) _ (Nat.le_refl _)
theorem op_broken (h : Inv N w a i) {y : Int} (h1 : -2147483648 ≤ fr) (h2 : fr ≤ 2147483647) (h3 : -2147483648 ≤ to) (h4 : to ≤ 2147483647) (h5 : -2147483648 ≤ tt) (h6 : tt ≤ 2147483647) (y1 : -2147483648 ≤ y) (y2 : y ≤ 2147483647) : s_5_broken [.inr (.inr 0), .inl fr, .inl to, .inl tt, .inl y] (HH n xs w a i) (fun r h => s_6_broken [.inr (.inr 53), .inl fr, .inl to, .inl tt, .inl y] h (OPQ n xs N r)) := by
  have hc := h.2.1
  have hag := h.2.2.1
  by_cases c1 : (0 ≤ fr ∧ fr ≤ 4999) ∧ (fr ≤ to ∧ to ≤ 4999) ∧ (0 ≤ tt ∧ tt ≤ 999)
  · by_cases c2 : 0 ≤ y ∧ y ≤ 24
    · -- the reference, behind the class
      have mdl : ∀ {Q : dk_Q} {p q : Int → Int} {w2 a2 i2}, Fr a i p q w2 a2 i2 → (∀ a3 (t : Nat), Fr a i p q w2 a3 i2 → t ≤ 200 → tg a i fr to tt t ≤ y → (∀ m : Nat, m < t → y < tg a i fr to tt m) → Q (some (.inl t)) (HH n xs w2 a3 i2)) → ((∀ m : Nat, m ≤ 200 → y < tg a i fr to tt m) → ∀ a3, Fr a i p (bm q 3) w2 a3 i2 → Q (some (.inl (-1000001 - 3))) (HH n xs w2 a3 i2)) → s_6_broken [.inr (.inr 53), .inl fr, .inl to, .inl tt, .inl y] (HH n xs w2 a2 i2) Q := by
        intro Q p q w2 a2 i2 hF hQ hQ2
        simp (disch := first | assumption | omega | exact zc_lo | exact zc_hi | exact zz_l | exact zz_u | exact zz_r) only [xc_1 gc_6_broken_3, xc_1 gc_6_broken_5, xc_2 gc_6_broken_2, xc_3 gc_6_broken_0, xc_3 gc_6_broken_1, xc_4 gc_6_broken_4, xl_aload0, xl_iinc5a, xl_iinc5i, xl_iinc5n, xl_iload1, xl_iload2, xl_iload3, xl_iload4, xl_iload5, xl_istore5a, xl_istore5i, xl_istore5n, xm_f, xm_n, xm_t, xn_1, xn_2, xn_4, xn_5, xr_goto, xr_ic_gt, xr_iconst, xr_if_eq, xr_if_ne, xr_iret, xtl_n, xtl_s, xz_i, xz_l, xz_n, xz_r, wb_6_broken_0, wb_6_broken_1, wb_6_broken_2, wb_6_broken_4, wb_6_broken_5, ss_6_broken, zz_b, zz_bn, Classical.not_not, true_and, Nat.reduceAdd, Nat.reduceLeDiff, sp_6_isBridge, sp_6_in, c1, c2, true_implies, false_implies, implies_true, not_true_eq_false, not_false_eq_true, and_true, false_and, and_false, if_true, if_false, Int.reduceEq, Int.reduceSub, Int.reduceAdd, Int.reduceMul, Int.reduceNeg, Int.reduceLT, Int.reduceLE, Int.add_zero]
        refine sp_mbeg hc hag hF (fun a3 hM3 _ => ?_)
        simp (disch := first | assumption | omega | exact zc_lo | exact zc_hi | exact zz_l | exact zz_u | exact zz_r) only [xc_1 gc_6_broken_3, xc_1 gc_6_broken_5, xc_2 gc_6_broken_2, xc_3 gc_6_broken_0, xc_3 gc_6_broken_1, xc_4 gc_6_broken_4, xl_aload0, xl_iinc5a, xl_iinc5i, xl_iinc5n, xl_iload1, xl_iload2, xl_iload3, xl_iload4, xl_iload5, xl_istore5a, xl_istore5i, xl_istore5n, xm_f, xm_n, xm_t, xn_1, xn_2, xn_4, xn_5, xr_goto, xr_ic_gt, xr_iconst, xr_if_eq, xr_if_ne, xr_iret, xtl_n, xtl_s, xz_i, xz_l, xz_n, xz_r, wb_6_broken_0, wb_6_broken_1, wb_6_broken_2, wb_6_broken_4, wb_6_broken_5, zz_b, zz_bn, Classical.not_not, true_and, Nat.reduceAdd, Nat.reduceLeDiff, true_implies, false_implies, implies_true, not_true_eq_false, not_false_eq_true, and_true, false_and, and_false, if_true, if_false, Int.reduceEq, Int.reduceSub, Int.reduceAdd, Int.reduceMul, Int.reduceNeg, Int.reduceLT, Int.reduceLE, Int.add_zero]
        refine lp_up (m := 201) (P := fun d => ∀ a4, Mk a i p q d w2 a4 i2 → (∀ m : Nat, m < d → y < tg a i fr to tt m) → dk_WP g_6_broken b_6_broken Q 3 [some (.inr (.inr 53)), some (.inl fr), some (.inl to), some (.inl tt), some (.inl y), some (.inl d)] [] (HH n xs w2 a4 i2)) ?_ ?_ 0 (Nat.zero_le _) a3 hM3 (fun m hm => absurd hm (Nat.not_lt_zero m))
        · intro a4 hM4 hno
          rw [wb_6_broken_3]
          simp (disch := first | assumption | omega | exact zc_lo | exact zc_hi | exact zz_l | exact zz_u | exact zz_r) only [xc_1 gc_6_broken_3, xc_1 gc_6_broken_5, xc_2 gc_6_broken_2, xc_3 gc_6_broken_0, xc_3 gc_6_broken_1, xc_4 gc_6_broken_4, xl_aload0, xl_iinc5a, xl_iinc5i, xl_iinc5n, xl_iload1, xl_iload2, xl_iload3, xl_iload4, xl_iload5, xl_istore5a, xl_istore5i, xl_istore5n, xm_f, xm_n, xm_t, xn_1, xn_2, xn_4, xn_5, xr_goto, xr_ic_gt, xr_iconst, xr_if_eq, xr_if_ne, xr_iret, xtl_n, xtl_s, xz_i, xz_l, xz_n, xz_r, wb_6_broken_0, wb_6_broken_1, wb_6_broken_2, wb_6_broken_4, wb_6_broken_5, zz_b, zz_bn, Classical.not_not, true_and, Nat.reduceAdd, Nat.reduceLeDiff]
          refine ⟨fun _ => ?_, fun z => absurd (by omega) z⟩
          refine sp_fi6 hM4.1 (by omega) (by omega) (fun a5 hF5 => ?_)
          simp (disch := first | assumption | omega | exact zc_lo | exact zc_hi | exact zz_l | exact zz_u | exact zz_r) only [xc_1 gc_6_broken_3, xc_1 gc_6_broken_5, xc_2 gc_6_broken_2, xc_3 gc_6_broken_0, xc_3 gc_6_broken_1, xc_4 gc_6_broken_4, xl_aload0, xl_iinc5a, xl_iinc5i, xl_iinc5n, xl_iload1, xl_iload2, xl_iload3, xl_iload4, xl_iload5, xl_istore5a, xl_istore5i, xl_istore5n, xm_f, xm_n, xm_t, xn_1, xn_2, xn_4, xn_5, xr_goto, xr_ic_gt, xr_iconst, xr_if_eq, xr_if_ne, xr_iret, xtl_n, xtl_s, xz_i, xz_l, xz_n, xz_r, wb_6_broken_0, wb_6_broken_1, wb_6_broken_2, wb_6_broken_4, wb_6_broken_5, zz_b, zz_bn, Classical.not_not, true_and, Nat.reduceAdd, Nat.reduceLeDiff]
          exact hQ2 (fun m hm => hno m (by omega)) a5 hF5
        · intro d hdm ih a4 hM4 hno
          have bd := tg_b (fr := fr) (to := to) (tt := tt) (t := d) hc
          rw [wb_6_broken_3]
          simp (disch := first | assumption | omega | exact zc_lo | exact zc_hi | exact zz_l | exact zz_u | exact zz_r) only [xc_1 gc_6_broken_3, xc_1 gc_6_broken_5, xc_2 gc_6_broken_2, xc_3 gc_6_broken_0, xc_3 gc_6_broken_1, xc_4 gc_6_broken_4, xl_aload0, xl_iinc5a, xl_iinc5i, xl_iinc5n, xl_iload1, xl_iload2, xl_iload3, xl_iload4, xl_iload5, xl_istore5a, xl_istore5i, xl_istore5n, xm_f, xm_n, xm_t, xn_1, xn_2, xn_4, xn_5, xr_goto, xr_ic_gt, xr_iconst, xr_if_eq, xr_if_ne, xr_iret, xtl_n, xtl_s, xz_i, xz_l, xz_n, xz_r, wb_6_broken_0, wb_6_broken_1, wb_6_broken_2, wb_6_broken_4, wb_6_broken_5, zz_b, zz_bn, Classical.not_not, true_and, Nat.reduceAdd, Nat.reduceLeDiff]
          refine ⟨fun z => absurd z (by omega), fun _ => ?_⟩
          refine sp_6_together hc hag hM4 h1 h2 h3 h4 h5 h6 ?_
          simp (disch := first | assumption | omega | exact zc_lo | exact zc_hi | exact zz_l | exact zz_u | exact zz_r) only [xc_1 gc_6_broken_3, xc_1 gc_6_broken_5, xc_2 gc_6_broken_2, xc_3 gc_6_broken_0, xc_3 gc_6_broken_1, xc_4 gc_6_broken_4, xl_aload0, xl_iinc5a, xl_iinc5i, xl_iinc5n, xl_iload1, xl_iload2, xl_iload3, xl_iload4, xl_iload5, xl_istore5a, xl_istore5i, xl_istore5n, xm_f, xm_n, xm_t, xn_1, xn_2, xn_4, xn_5, xr_goto, xr_ic_gt, xr_iconst, xr_if_eq, xr_if_ne, xr_iret, xtl_n, xtl_s, xz_i, xz_l, xz_n, xz_r, wb_6_broken_0, wb_6_broken_1, wb_6_broken_2, wb_6_broken_4, wb_6_broken_5, zz_b, zz_bn, Classical.not_not, true_and, Nat.reduceAdd, Nat.reduceLeDiff]
          refine ⟨fun z => ?_, fun z => ?_⟩
          · refine sp_mgo hc hag hM4 (fun a5 hM5 _ => ?_)
            simp (disch := first | assumption | omega | exact zc_lo | exact zc_hi | exact zz_l | exact zz_u | exact zz_r) only [xc_1 gc_6_broken_3, xc_1 gc_6_broken_5, xc_2 gc_6_broken_2, xc_3 gc_6_broken_0, xc_3 gc_6_broken_1, xc_4 gc_6_broken_4, xl_aload0, xl_iinc5a, xl_iinc5i, xl_iinc5n, xl_iload1, xl_iload2, xl_iload3, xl_iload4, xl_iload5, xl_istore5a, xl_istore5i, xl_istore5n, xm_f, xm_n, xm_t, xn_1, xn_2, xn_4, xn_5, xr_goto, xr_ic_gt, xr_iconst, xr_if_eq, xr_if_ne, xr_iret, xtl_n, xtl_s, xz_i, xz_l, xz_n, xz_r, wb_6_broken_0, wb_6_broken_1, wb_6_broken_2, wb_6_broken_4, wb_6_broken_5, zz_b, zz_bn, Classical.not_not, true_and, Nat.reduceAdd, Nat.reduceLeDiff]
            rw [cs d]
            refine ih a5 hM5 (fun m hm => ?_)
            by_cases e : m = d
            · subst e; exact z
            · exact hno m (by omega)
          · exact hQ a4 d hM4.1 (by omega) (by omega) hno
      -- the class
      have fnl : (∀ m : Nat, m ≤ 200 → y < tg a i fr to tt m) → ∀ w4 a4 i3, Fr a i (bm (a 52) 3) (a 62) w4 a4 i3 → s_6_broken [.inr (.inr 53), .inl fr, .inl to, .inl tt, .inl y] (HH n xs w4 a4 i3) (OPQ n xs N (some (.inl (-1000001 - 3)))) := fun hno w4 a4 i3 hF4 => mdl hF4 (fun a5 t _ ht hle _ => absurd (hno t ht) (by omega)) (fun _ a5 hF5 => OPQ_d h (by omega) (by omega) hF5)
      simp (disch := first | assumption | omega | exact zc_lo | exact zc_hi | exact zz_l | exact zz_u | exact zz_r) only [xc_1 gc_5_broken_3, xc_1 gc_5_broken_5, xc_2 gc_5_broken_2, xc_3 gc_5_broken_0, xc_3 gc_5_broken_1, xc_4 gc_5_broken_4, xl_aload0, xl_iinc5a, xl_iinc5i, xl_iinc5n, xl_iload1, xl_iload2, xl_iload3, xl_iload4, xl_iload5, xl_istore5a, xl_istore5i, xl_istore5n, xm_f, xm_n, xm_t, xn_1, xn_2, xn_4, xn_5, xn_6, xo_0_6, xr_goto, xr_ic_gt, xr_iconst, xr_if_eq, xr_if_ne, xr_iret, xtl_n, xtl_s, xz_i, xz_l, xz_n, xz_r, wb_5_broken_0, wb_5_broken_1, wb_5_broken_2, wb_5_broken_4, wb_5_broken_5, wb_5_broken_6, ss_5_broken, zz_b, zz_bn, Classical.not_not, true_and, Nat.reduceAdd, Nat.reduceLeDiff, sp_5_isBridge, sp_5_isWithin, c1, c2, true_implies, false_implies, implies_true, not_true_eq_false, not_false_eq_true, and_true, false_and, and_false, if_true, if_false, Int.reduceEq, Int.reduceSub, Int.reduceAdd, Int.reduceMul, Int.reduceNeg, Int.reduceLT, Int.reduceLE, Int.add_zero]
      refine sp_set hc (Fr_rf h) (fun a3 i3 hW _ _ => ?_)
      simp (disch := first | assumption | omega | exact zc_lo | exact zc_hi | exact zz_l | exact zz_u | exact zz_r) only [xc_1 gc_5_broken_3, xc_1 gc_5_broken_5, xc_2 gc_5_broken_2, xc_3 gc_5_broken_0, xc_3 gc_5_broken_1, xc_4 gc_5_broken_4, xl_aload0, xl_iinc5a, xl_iinc5i, xl_iinc5n, xl_iload1, xl_iload2, xl_iload3, xl_iload4, xl_iload5, xl_istore5a, xl_istore5i, xl_istore5n, xm_f, xm_n, xm_t, xn_1, xn_2, xn_4, xn_5, xn_6, xo_0_6, xr_goto, xr_ic_gt, xr_iconst, xr_if_eq, xr_if_ne, xr_iret, xtl_n, xtl_s, xz_i, xz_l, xz_n, xz_r, wb_5_broken_0, wb_5_broken_1, wb_5_broken_2, wb_5_broken_4, wb_5_broken_5, wb_5_broken_6, zz_b, zz_bn, Classical.not_not, true_and, Nat.reduceAdd, Nat.reduceLeDiff, true_implies, false_implies, implies_true, not_true_eq_false, not_false_eq_true, and_true, false_and, and_false, if_true, if_false, Int.reduceEq, Int.reduceSub, Int.reduceAdd, Int.reduceMul, Int.reduceNeg, Int.reduceLT, Int.reduceLE, Int.add_zero]
      refine lp_up (m := 201) (P := fun d => ∀ w4 a4, Wk a i (a 52) (a 62) d w4 a4 i3 → (∀ m : Nat, m < d → y < tg a i fr to tt m) → dk_WP g_5_broken b_5_broken (fun r h => s_6_broken [.inr (.inr 53), .inl fr, .inl to, .inl tt, .inl y] h (OPQ n xs N r)) 3 [some (.inr (.inr 0)), some (.inl fr), some (.inl to), some (.inl tt), some (.inl y), some (.inl d)] [] (HH n xs w4 a4 i3)) ?_ ?_ 0 (Nat.zero_le _) w a3 hW (fun m hm => absurd hm (Nat.not_lt_zero m))
      · intro w4 a4 hW4 hno
        rw [wb_5_broken_3]
        simp (disch := first | assumption | omega | exact zc_lo | exact zc_hi | exact zz_l | exact zz_u | exact zz_r) only [xc_1 gc_5_broken_3, xc_1 gc_5_broken_5, xc_2 gc_5_broken_2, xc_3 gc_5_broken_0, xc_3 gc_5_broken_1, xc_4 gc_5_broken_4, xl_aload0, xl_iinc5a, xl_iinc5i, xl_iinc5n, xl_iload1, xl_iload2, xl_iload3, xl_iload4, xl_iload5, xl_istore5a, xl_istore5i, xl_istore5n, xm_f, xm_n, xm_t, xn_1, xn_2, xn_4, xn_5, xn_6, xo_0_6, xr_goto, xr_ic_gt, xr_iconst, xr_if_eq, xr_if_ne, xr_iret, xtl_n, xtl_s, xz_i, xz_l, xz_n, xz_r, wb_5_broken_0, wb_5_broken_1, wb_5_broken_2, wb_5_broken_4, wb_5_broken_5, wb_5_broken_6, zz_b, zz_bn, Classical.not_not, true_and, Nat.reduceAdd, Nat.reduceLeDiff]
        refine ⟨fun _ => ?_, fun z => absurd (by omega) z⟩
        refine sp_fi5 hW4.1 (by omega) (by omega) (fun a5 hF5 => ?_)
        simp (disch := first | assumption | omega | exact zc_lo | exact zc_hi | exact zz_l | exact zz_u | exact zz_r) only [xc_1 gc_5_broken_3, xc_1 gc_5_broken_5, xc_2 gc_5_broken_2, xc_3 gc_5_broken_0, xc_3 gc_5_broken_1, xc_4 gc_5_broken_4, xl_aload0, xl_iinc5a, xl_iinc5i, xl_iinc5n, xl_iload1, xl_iload2, xl_iload3, xl_iload4, xl_iload5, xl_istore5a, xl_istore5i, xl_istore5n, xm_f, xm_n, xm_t, xn_1, xn_2, xn_4, xn_5, xn_6, xo_0_6, xr_goto, xr_ic_gt, xr_iconst, xr_if_eq, xr_if_ne, xr_iret, xtl_n, xtl_s, xz_i, xz_l, xz_n, xz_r, wb_5_broken_0, wb_5_broken_1, wb_5_broken_2, wb_5_broken_4, wb_5_broken_5, wb_5_broken_6, zz_b, zz_bn, Classical.not_not, true_and, Nat.reduceAdd, Nat.reduceLeDiff]
        exact fnl (fun m hm => hno m (by omega)) w4 a5 i3 hF5
      · intro d hdm ih w4 a4 hW4 hno
        have bd := tg_b (fr := fr) (to := to) (tt := tt) (t := d) hc
        rw [wb_5_broken_3]
        simp (disch := first | assumption | omega | exact zc_lo | exact zc_hi | exact zz_l | exact zz_u | exact zz_r) only [xc_1 gc_5_broken_3, xc_1 gc_5_broken_5, xc_2 gc_5_broken_2, xc_3 gc_5_broken_0, xc_3 gc_5_broken_1, xc_4 gc_5_broken_4, xl_aload0, xl_iinc5a, xl_iinc5i, xl_iinc5n, xl_iload1, xl_iload2, xl_iload3, xl_iload4, xl_iload5, xl_istore5a, xl_istore5i, xl_istore5n, xm_f, xm_n, xm_t, xn_1, xn_2, xn_4, xn_5, xn_6, xo_0_6, xr_goto, xr_ic_gt, xr_iconst, xr_if_eq, xr_if_ne, xr_iret, xtl_n, xtl_s, xz_i, xz_l, xz_n, xz_r, wb_5_broken_0, wb_5_broken_1, wb_5_broken_2, wb_5_broken_4, wb_5_broken_5, wb_5_broken_6, zz_b, zz_bn, Classical.not_not, true_and, Nat.reduceAdd, Nat.reduceLeDiff]
        refine ⟨fun z => absurd z (by omega), fun _ => ?_⟩
        refine sp_5_togetherOn hc hW4 h1 h2 h3 h4 h5 h6 ?_
        simp (disch := first | assumption | omega | exact zc_lo | exact zc_hi | exact zz_l | exact zz_u | exact zz_r) only [xc_1 gc_5_broken_3, xc_1 gc_5_broken_5, xc_2 gc_5_broken_2, xc_3 gc_5_broken_0, xc_3 gc_5_broken_1, xc_4 gc_5_broken_4, xl_aload0, xl_iinc5a, xl_iinc5i, xl_iinc5n, xl_iload1, xl_iload2, xl_iload3, xl_iload4, xl_iload5, xl_istore5a, xl_istore5i, xl_istore5n, xm_f, xm_n, xm_t, xn_1, xn_2, xn_4, xn_5, xn_6, xo_0_6, xr_goto, xr_ic_gt, xr_iconst, xr_if_eq, xr_if_ne, xr_iret, xtl_n, xtl_s, xz_i, xz_l, xz_n, xz_r, wb_5_broken_0, wb_5_broken_1, wb_5_broken_2, wb_5_broken_4, wb_5_broken_5, wb_5_broken_6, zz_b, zz_bn, Classical.not_not, true_and, Nat.reduceAdd, Nat.reduceLeDiff]
        refine ⟨fun z => ?_, fun z => ?_⟩
        · refine sp_stp hc hW4 (fun w5 a5 x hW5 _ _ hx => ?_)
          rcases hx with ⟨rfl, hx⟩ | ⟨rfl, hx⟩
          · simp (disch := first | assumption | omega | exact zc_lo | exact zc_hi | exact zz_l | exact zz_u | exact zz_r) only [xc_1 gc_5_broken_3, xc_1 gc_5_broken_5, xc_2 gc_5_broken_2, xc_3 gc_5_broken_0, xc_3 gc_5_broken_1, xc_4 gc_5_broken_4, xl_aload0, xl_iinc5a, xl_iinc5i, xl_iinc5n, xl_iload1, xl_iload2, xl_iload3, xl_iload4, xl_iload5, xl_istore5a, xl_istore5i, xl_istore5n, xm_f, xm_n, xm_t, xn_1, xn_2, xn_4, xn_5, xn_6, xo_0_6, xr_goto, xr_ic_gt, xr_iconst, xr_if_eq, xr_if_ne, xr_iret, xtl_n, xtl_s, xz_i, xz_l, xz_n, xz_r, wb_5_broken_0, wb_5_broken_1, wb_5_broken_2, wb_5_broken_4, wb_5_broken_5, wb_5_broken_6, zz_b, zz_bn, Classical.not_not, true_and, Nat.reduceAdd, Nat.reduceLeDiff, eq_self, true_implies, false_implies, implies_true, not_true_eq_false, not_false_eq_true, and_true, false_and, and_false, if_true, if_false, Int.reduceEq, Int.reduceSub, Int.reduceAdd, Int.reduceMul, Int.reduceNeg, Int.reduceLT, Int.reduceLE, Int.add_zero]
            refine sp_fi5 hW5.1 (by omega) (by omega) (fun a6 hF6 => ?_)
            simp (disch := first | assumption | omega | exact zc_lo | exact zc_hi | exact zz_l | exact zz_u | exact zz_r) only [xc_1 gc_5_broken_3, xc_1 gc_5_broken_5, xc_2 gc_5_broken_2, xc_3 gc_5_broken_0, xc_3 gc_5_broken_1, xc_4 gc_5_broken_4, xl_aload0, xl_iinc5a, xl_iinc5i, xl_iinc5n, xl_iload1, xl_iload2, xl_iload3, xl_iload4, xl_iload5, xl_istore5a, xl_istore5i, xl_istore5n, xm_f, xm_n, xm_t, xn_1, xn_2, xn_4, xn_5, xn_6, xo_0_6, xr_goto, xr_ic_gt, xr_iconst, xr_if_eq, xr_if_ne, xr_iret, xtl_n, xtl_s, xz_i, xz_l, xz_n, xz_r, wb_5_broken_0, wb_5_broken_1, wb_5_broken_2, wb_5_broken_4, wb_5_broken_5, wb_5_broken_6, zz_b, zz_bn, Classical.not_not, true_and, Nat.reduceAdd, Nat.reduceLeDiff, true_implies, false_implies, implies_true, not_true_eq_false, not_false_eq_true, and_true, false_and, and_false, if_true, if_false, Int.reduceEq, Int.reduceSub, Int.reduceAdd, Int.reduceMul, Int.reduceNeg, Int.reduceLT, Int.reduceLE, Int.add_zero]
            refine fnl (fun m hm => ?_) w5 a6 i3 hF6
            by_cases e : m < d
            · exact hno m e
            · rw [tg_stay hc hx m (by omega)]; exact z
          · simp (disch := first | assumption | omega | exact zc_lo | exact zc_hi | exact zz_l | exact zz_u | exact zz_r) only [xc_1 gc_5_broken_3, xc_1 gc_5_broken_5, xc_2 gc_5_broken_2, xc_3 gc_5_broken_0, xc_3 gc_5_broken_1, xc_4 gc_5_broken_4, xl_aload0, xl_iinc5a, xl_iinc5i, xl_iinc5n, xl_iload1, xl_iload2, xl_iload3, xl_iload4, xl_iload5, xl_istore5a, xl_istore5i, xl_istore5n, xm_f, xm_n, xm_t, xn_1, xn_2, xn_4, xn_5, xn_6, xo_0_6, xr_goto, xr_ic_gt, xr_iconst, xr_if_eq, xr_if_ne, xr_iret, xtl_n, xtl_s, xz_i, xz_l, xz_n, xz_r, wb_5_broken_0, wb_5_broken_1, wb_5_broken_2, wb_5_broken_4, wb_5_broken_5, wb_5_broken_6, zz_b, zz_bn, Classical.not_not, true_and, Nat.reduceAdd, Nat.reduceLeDiff, eq_self, true_implies, false_implies, implies_true, not_true_eq_false, not_false_eq_true, and_true, false_and, and_false, if_true, if_false, Int.reduceEq, Int.reduceSub, Int.reduceAdd, Int.reduceMul, Int.reduceNeg, Int.reduceLT, Int.reduceLE, Int.add_zero]
            rw [cs d]
            refine ih w5 a5 hW5 (fun m hm => ?_)
            by_cases e : m = d
            · subst e; exact z
            · exact hno m (by omega)
        · refine mdl hW4.1 (fun a5 t hF5 ht hle hno2 => ?_) (fun hno2 => absurd (hno2 d (by omega)) (by omega))
          have e : t = d := by
            rcases Nat.lt_trichotomy t d with z1 | z1 | z1
            · exact absurd (hno t z1) (by omega)
            · exact z1
            · exact absurd (hno2 d z1) (by omega)
          subst e
          exact OPQ_f h hF5 (by omega) (by omega)
    · simp (disch := first | assumption | omega | exact zc_lo | exact zc_hi | exact zz_l | exact zz_u | exact zz_r) only [xc_1 gc_5_broken_3, xc_1 gc_5_broken_5, xc_2 gc_5_broken_2, xc_3 gc_5_broken_0, xc_3 gc_5_broken_1, xc_4 gc_5_broken_4, xl_aload0, xl_iinc5a, xl_iinc5i, xl_iinc5n, xl_iload1, xl_iload2, xl_iload3, xl_iload4, xl_iload5, xl_istore5a, xl_istore5i, xl_istore5n, xm_f, xm_n, xm_t, xn_1, xn_2, xn_4, xn_5, xn_6, xo_0_6, xr_goto, xr_ic_gt, xr_iconst, xr_if_eq, xr_if_ne, xr_iret, xtl_n, xtl_s, xz_i, xz_l, xz_n, xz_r, wb_5_broken_0, wb_5_broken_1, wb_5_broken_2, wb_5_broken_4, wb_5_broken_5, wb_5_broken_6, ss_5_broken, xc_1 gc_6_broken_3, xc_1 gc_6_broken_5, xc_2 gc_6_broken_2, xc_3 gc_6_broken_0, xc_3 gc_6_broken_1, xc_4 gc_6_broken_4, xl_aload0, xl_iinc5a, xl_iinc5i, xl_iinc5n, xl_iload1, xl_iload2, xl_iload3, xl_iload4, xl_iload5, xl_istore5a, xl_istore5i, xl_istore5n, xm_f, xm_n, xm_t, xn_1, xn_2, xn_4, xn_5, xr_goto, xr_ic_gt, xr_iconst, xr_if_eq, xr_if_ne, xr_iret, xtl_n, xtl_s, xz_i, xz_l, xz_n, xz_r, wb_6_broken_0, wb_6_broken_1, wb_6_broken_2, wb_6_broken_4, wb_6_broken_5, ss_6_broken, zz_b, zz_bn, Classical.not_not, true_and, Nat.reduceAdd, Nat.reduceLeDiff, sp_5_isBridge, sp_5_isWithin, sp_6_isBridge, sp_6_in, sp_5_finding, sp_6_finds, c1, c2, true_implies, false_implies, implies_true, not_true_eq_false, not_false_eq_true, and_true, false_and, and_false, if_true, if_false, Int.reduceEq, Int.reduceSub, Int.reduceAdd, Int.reduceMul, Int.reduceNeg, Int.reduceLT, Int.reduceLE, Int.add_zero]
      exact fnd h 0 (by omega) (by omega)
  · simp (disch := first | assumption | omega | exact zc_lo | exact zc_hi | exact zz_l | exact zz_u | exact zz_r) only [xc_1 gc_5_broken_3, xc_1 gc_5_broken_5, xc_2 gc_5_broken_2, xc_3 gc_5_broken_0, xc_3 gc_5_broken_1, xc_4 gc_5_broken_4, xl_aload0, xl_iinc5a, xl_iinc5i, xl_iinc5n, xl_iload1, xl_iload2, xl_iload3, xl_iload4, xl_iload5, xl_istore5a, xl_istore5i, xl_istore5n, xm_f, xm_n, xm_t, xn_1, xn_2, xn_4, xn_5, xn_6, xo_0_6, xr_goto, xr_ic_gt, xr_iconst, xr_if_eq, xr_if_ne, xr_iret, xtl_n, xtl_s, xz_i, xz_l, xz_n, xz_r, wb_5_broken_0, wb_5_broken_1, wb_5_broken_2, wb_5_broken_4, wb_5_broken_5, wb_5_broken_6, ss_5_broken, xc_1 gc_6_broken_3, xc_1 gc_6_broken_5, xc_2 gc_6_broken_2, xc_3 gc_6_broken_0, xc_3 gc_6_broken_1, xc_4 gc_6_broken_4, xl_aload0, xl_iinc5a, xl_iinc5i, xl_iinc5n, xl_iload1, xl_iload2, xl_iload3, xl_iload4, xl_iload5, xl_istore5a, xl_istore5i, xl_istore5n, xm_f, xm_n, xm_t, xn_1, xn_2, xn_4, xn_5, xr_goto, xr_ic_gt, xr_iconst, xr_if_eq, xr_if_ne, xr_iret, xtl_n, xtl_s, xz_i, xz_l, xz_n, xz_r, wb_6_broken_0, wb_6_broken_1, wb_6_broken_2, wb_6_broken_4, wb_6_broken_5, ss_6_broken, zz_b, zz_bn, Classical.not_not, true_and, Nat.reduceAdd, Nat.reduceLeDiff, sp_5_isBridge, sp_5_isWithin, sp_6_isBridge, sp_6_in, sp_5_finding, sp_6_finds, c1, true_implies, false_implies, implies_true, not_true_eq_false, not_false_eq_true, and_true, false_and, and_false, if_true, if_false, Int.reduceEq, Int.reduceSub, Int.reduceAdd, Int.reduceMul, Int.reduceNeg, Int.reduceLT, Int.reduceLE, Int.add_zero]
    exact fnd h 0 (by omega) (by omega)
end OPP
