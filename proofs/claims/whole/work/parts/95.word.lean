/-! TEXTS: words and numbers of both readers -/
def WC (v : Nat) : Int := [220309, 3690, 4325, 9744, 121898, 404923, 131360, 3094387, 316163, 10256063, 2486801].getD v 0
def SLn (v : Nat) : Nat := dk_sl.getD v 0
def CH (v j : Nat) : Int := ((dk_by.getD v []).getD j 0).toInt
theorem wtab : ∀ v, v < 11 → WC v = encF (CH v) (SLn v) ∧ 3 ≤ SLn v ∧ SLn v ≤ 5 ∧ 1 ≤ WC v ∧ (∀ j, j < 5 → j < SLn v → 97 ≤ CH v j ∧ CH v j ≤ 122) := by decide +kernel
def isW (b : Int → Int) (c : Int) (v : Nat) : Bool := decide (tK b c = 1) && decide (wdK b (tS b c) (tE b c - tS b c).toNat = WC v)
section WD1
variable {b : Int → Int} {L c : Int}
theorem tk_let (hk : tK b c = 1) : ∀ j : Nat, j < (tE b c - tS b c).toNat → 97 ≤ b (tS b c + j) ∧ b (tS b c + j) ≤ 122 := by
  intro j hj
  have e := tE_12 (b := b) (c := c) (Or.inl hk)
  rw [hk] at e
  exact tkF_1.mp (ruF_all (b := b) (k := 1) 120 (tS b c) (tS b c + j) (by omega) (by omega))
theorem isW_iff {v : Nat} (hv : v < 11) : isW b c v = true ↔ (tK b c = 1 ∧ tE b c - tS b c = SLn v ∧ ∀ j : Nat, j < SLn v → b (tS b c + j) = CH v j) := by
  obtain ⟨w1, w2, w3, w4, w5⟩ := wtab v hv
  have w6 : ∀ j, j < SLn v → 97 ≤ CH v j ∧ CH v j ≤ 122 := fun j hj => w5 j (by omega) hj
  have ge := tE_ge0 (b := b) (c := c)
  unfold isW
  simp only [Bool.and_eq_true, decide_eq_true_eq]
  constructor
  · rintro ⟨h1, h2⟩
    have hl := tk_let h1
    unfold wdK at h2
    split at h2
    · rw [w1] at h2
      obtain ⟨r1, r2⟩ := encF_i _ _ hl w6 h2
      exact ⟨h1, by omega, fun j hj => r2 j (by omega)⟩
    · omega
  · rintro ⟨h1, h2, h3⟩
    refine ⟨h1, ?_⟩
    have e : (tE b c - tS b c).toNat = SLn v := by omega
    unfold wdK
    rw [e, if_pos (by omega), w1]
    exact encF_e _ (fun j hj => h3 j hj)
theorem isW_k {v : Nat} (h : isW b c v = true) : tK b c = 1 := by
  unfold isW at h
  simp only [Bool.and_eq_true, decide_eq_true_eq] at h
  exact h.1
theorem isW_len {v : Nat} (hv : v < 11) (h : isW b c v = true) : tS b c + 3 ≤ tE b c ∧ (v = 7 → tS b c + 5 ≤ tE b c) := by
  obtain ⟨h1, h2, h3⟩ := (isW_iff hv).mp h
  obtain ⟨w1, w2, w3, w4, w5⟩ := wtab v hv
  refine ⟨by omega, fun e => ?_⟩
  subst e
  have : SLn 7 = 5 := rfl
  omega
end WD1
/-- the kind that stands here; the option -/
def kdF (b : Int → Int) (c : Int) : Int := if isW b c 0 = true then 0 else if isW b c 1 = true then 1 else if isW b c 2 = true then 2 else if isW b c 3 = true then 3 else if isW b c 4 = true then 4 else if isW b c 5 = true then 5 else if isW b c 6 = true then 6 else -1
def moF (b : Int → Int) (c : Int) : Int := if isW b c 8 = true then 2 else if isW b c 9 = true then 3 else if isW b c 10 = true then 4 else 0
theorem kdF_b {b : Int → Int} {c : Int} : -1 ≤ kdF b c ∧ kdF b c ≤ 6 := by
  unfold kdF
  (repeat' split) <;> omega
theorem kdF_w {b : Int → Int} {c : Int} (h : ¬ kdF b c = -1) : ∃ v : Nat, v < 11 ∧ isW b c v = true := by
  unfold kdF at h
  split at h
  · exact ⟨0, by omega, by assumption⟩
  split at h
  · exact ⟨1, by omega, by assumption⟩
  split at h
  · exact ⟨2, by omega, by assumption⟩
  split at h
  · exact ⟨3, by omega, by assumption⟩
  split at h
  · exact ⟨4, by omega, by assumption⟩
  split at h
  · exact ⟨5, by omega, by assumption⟩
  split at h
  · exact ⟨6, by omega, by assumption⟩
  · exact absurd rfl h
theorem kdF_n {b : Int → Int} {c : Int} (h : ∀ v : Nat, v < 7 → isW b c v = false) : kdF b c = -1 := by
  unfold kdF
  rw [h 0 (by omega), h 1 (by omega), h 2 (by omega), h 3 (by omega), h 4 (by omega), h 5 (by omega), h 6 (by omega)]
  rfl
theorem kdF_y {b : Int → Int} {c : Int} {d : Nat} (hd : d < 7) (h : ∀ v : Nat, v < d → isW b c v = false) (h2 : isW b c d = true) : kdF b c = d := by
  unfold kdF
  rcases (show d = 0 ∨ d = 1 ∨ d = 2 ∨ d = 3 ∨ d = 4 ∨ d = 5 ∨ d = 6 by omega) with rfl | rfl | rfl | rfl | rfl | rfl | rfl
  · rw [h2]; rfl
  · rw [h 0 (by omega), h2]; rfl
  · rw [h 0 (by omega), h 1 (by omega), h2]; rfl
  · rw [h 0 (by omega), h 1 (by omega), h 2 (by omega), h2]; rfl
  · rw [h 0 (by omega), h 1 (by omega), h 2 (by omega), h 3 (by omega), h2]; rfl
  · rw [h 0 (by omega), h 1 (by omega), h 2 (by omega), h 3 (by omega), h 4 (by omega), h2]; rfl
  · rw [h 0 (by omega), h 1 (by omega), h 2 (by omega), h 3 (by omega), h 4 (by omega), h 5 (by omega), h2]; rfl
theorem moF_b {b : Int → Int} {c : Int} : moF b c = 0 ∨ ((2 ≤ moF b c ∧ moF b c ≤ 4) ∧ tK b c = 1) := by
  unfold moF
  split
  · exact Or.inr ⟨by omega, isW_k (by assumption)⟩
  split
  · exact Or.inr ⟨by omega, isW_k (by assumption)⟩
  split
  · exact Or.inr ⟨by omega, isW_k (by assumption)⟩
  · exact Or.inl rfl
section WD2
variable {N : Int} {n : Nat} {xs : Int → Int} {w : Nat → Nat} {a : Nat → Int → Int} {i : Nat → Int} {Q : dk_Q} {b : Int → Int} {c : Int}
theorem sp_sl {v : Nat} (hv : v < 11) {h : dk_H} : s_sl [.inr (.inr (110 + v))] h Q = Q (some (.inl (SLn v))) h := by
  unfold s_sl SLn
  simp only [Nat.add_sub_cancel_left]
  exact propext ⟨fun q => q.2, fun q => ⟨by omega, q⟩⟩
theorem sp_sc {v : Nat} (hv : v < 11) {j : Int} (h0 : 0 ≤ j) (h1 : j < SLn v) {h : dk_H} : s_sc [.inr (.inr (110 + v)), .inl j] h Q = Q (some (.inl (CH v j.toNat))) h := by
  unfold s_sc CH
  unfold SLn at h1
  simp only [Nat.add_sub_cancel_left]
  exact propext ⟨fun q => q.2, fun q => ⟨by omega, q⟩⟩
theorem sp_3_isWord (hT : Tp b (i 9)) (hB : byB (a 28) (i 9) = b) (hc0 : 0 ≤ c) (hc1 : c ≤ i 9) (hC : CT b c i) {v : Nat} (hv : v < 11) : (isW b c v = true → Q (some (.inl 1)) (HH n xs w a i)) → (isW b c v = false → Q (some (.inl 0)) (HH n xs w a i)) → s_3_isWord [.inr (.inr 27), .inr (.inr (110 + v))] (HH n xs w a i) Q := by
  intro hQ1 hQ0
  obtain ⟨g12, g13, g14, g15, g16⟩ := hC
  obtain ⟨w1, w2, w3, w4, w5⟩ := wtab v hv
  have kb := tK_b (b := b) (c := c)
  have hSL := tS_le hT hc1
  have hSg := tS_ge (b := b) (c := c)
  have hEL := tE_le hT hc1
  have hEg := tE_ge0 (b := b) (c := c)
  have L120 := hT.1
  have hBv : ∀ s, 0 ≤ s → s < i 9 → b s = a 28 s := fun s z1 z2 => by rw [← hB]; unfold byB; rw [if_pos ⟨z1, z2⟩]
  by_cases c1 : tK b c = 1
  · by_cases c2 : tE b c - tS b c = SLn v
    · simp (disch := first | assumption | omega | exact zc_lo | exact zc_hi | exact zz_l | exact zz_u | exact zz_r) only [xa_28, xc_1 gc_3_isWord_0, xc_2 gc_3_isWord_1, xl_aload0, xl_aload1, xl_iinc2a, xl_iinc2i, xl_iinc2n, xl_iload2, xl_istore2a, xl_istore2i, xl_istore2n, xm_f, xm_n, xm_t, xn_1, xn_2, xn_4, xn_5, xo_27_0, xo_27_5, xo_27_6, xo_27_7, xr_goto, xr_iadd, xr_ic_eq, xr_ic_ge, xr_ic_ne, xr_iconst, xr_isub, xr_zret, xtl_n, xtl_s, xz_i, xz_l, xz_n, xz_r, wb_3_isWord_0, wb_3_isWord_1, wb_3_isWord_2, wb_3_isWord_4, wb_3_isWord_5, ss_3_isWord, zz_b, zz_bn, Classical.not_not, true_and, Nat.reduceAdd, Nat.reduceLeDiff, g12, g13, g14, c1, sp_sl hv, c2, eq_self, true_implies, false_implies, implies_true, not_true_eq_false, not_false_eq_true, and_true, false_and, and_false, if_true, if_false, Int.reduceEq, Int.reduceSub, Int.reduceAdd, Int.reduceMul, Int.reduceNeg, Int.reduceLT, Int.reduceLE, Int.add_zero]
      refine lp_up (m := SLn v) (P := fun d => (∀ j : Nat, j < d → b (tS b c + j) = CH v j) → dk_WP g_3_isWord b_3_isWord Q 3 [some (.inr (.inr 27)), some (.inr (.inr (110 + v))), some (.inl d)] [] (HH n xs w a i)) ?_ ?_ 0 (Nat.zero_le _) (fun j hj => absurd hj (Nat.not_lt_zero j))
      · intro hall
        rw [wb_3_isWord_3]
        simp (disch := first | assumption | omega | exact zc_lo | exact zc_hi | exact zz_l | exact zz_u | exact zz_r) only [xa_28, xc_1 gc_3_isWord_0, xc_2 gc_3_isWord_1, xl_aload0, xl_aload1, xl_iinc2a, xl_iinc2i, xl_iinc2n, xl_iload2, xl_istore2a, xl_istore2i, xl_istore2n, xm_f, xm_n, xm_t, xn_1, xn_2, xn_4, xn_5, xo_27_0, xo_27_5, xo_27_6, xo_27_7, xr_goto, xr_iadd, xr_ic_eq, xr_ic_ge, xr_ic_ne, xr_iconst, xr_isub, xr_zret, xtl_n, xtl_s, xz_i, xz_l, xz_n, xz_r, wb_3_isWord_0, wb_3_isWord_1, wb_3_isWord_2, wb_3_isWord_4, wb_3_isWord_5, zz_b, zz_bn, Classical.not_not, true_and, Nat.reduceAdd, Nat.reduceLeDiff, sp_sl hv]
        exact ⟨fun _ => hQ1 ((isW_iff hv).mpr ⟨c1, c2, hall⟩), fun z => absurd (by omega) z⟩
      · intro d hdm ih hall
        have bb := hT.2.1 (tS b c + d)
        have cb := w5 d (by omega) hdm
        have ba : a 28 (tS b c + d) = b (tS b c + d) := (hBv _ (by omega) (by omega)).symm
        have d0 : (0 : Int) ≤ d := by omega
        have d1 : (d : Int) < SLn v := by omega
        have dt : (d : Int).toNat = d := by omega
        rw [wb_3_isWord_3]
        simp (disch := first | assumption | omega | exact zc_lo | exact zc_hi | exact zz_l | exact zz_u | exact zz_r) only [xa_28, xc_1 gc_3_isWord_0, xc_2 gc_3_isWord_1, xl_aload0, xl_aload1, xl_iinc2a, xl_iinc2i, xl_iinc2n, xl_iload2, xl_istore2a, xl_istore2i, xl_istore2n, xm_f, xm_n, xm_t, xn_1, xn_2, xn_4, xn_5, xo_27_0, xo_27_5, xo_27_6, xo_27_7, xr_goto, xr_iadd, xr_ic_eq, xr_ic_ge, xr_ic_ne, xr_iconst, xr_isub, xr_zret, xtl_n, xtl_s, xz_i, xz_l, xz_n, xz_r, wb_3_isWord_0, wb_3_isWord_1, wb_3_isWord_2, wb_3_isWord_4, wb_3_isWord_5, zz_b, zz_bn, Classical.not_not, true_and, Nat.reduceAdd, Nat.reduceLeDiff, sp_sl hv, g13, ba, sp_sc hv d0 d1, dt]
        refine ⟨fun z => absurd z (by omega), fun _ => ⟨fun z => ?_, fun z => ?_⟩⟩
        · rw [cs d]
          refine ih (fun j hj => ?_)
          by_cases e : j = d
          · subst e; exact z
          · exact hall j (by omega)
        · refine hQ0 ?_
          cases e : isW b c v with
          | false => rfl
          | true => exact absurd (((isW_iff hv).mp e).2.2 d hdm) z
    · simp (disch := first | assumption | omega | exact zc_lo | exact zc_hi | exact zz_l | exact zz_u | exact zz_r) only [xa_28, xc_1 gc_3_isWord_0, xc_2 gc_3_isWord_1, xl_aload0, xl_aload1, xl_iinc2a, xl_iinc2i, xl_iinc2n, xl_iload2, xl_istore2a, xl_istore2i, xl_istore2n, xm_f, xm_n, xm_t, xn_1, xn_2, xn_4, xn_5, xo_27_0, xo_27_5, xo_27_6, xo_27_7, xr_goto, xr_iadd, xr_ic_eq, xr_ic_ge, xr_ic_ne, xr_iconst, xr_isub, xr_zret, xtl_n, xtl_s, xz_i, xz_l, xz_n, xz_r, wb_3_isWord_0, wb_3_isWord_1, wb_3_isWord_2, wb_3_isWord_4, wb_3_isWord_5, ss_3_isWord, zz_b, zz_bn, Classical.not_not, true_and, Nat.reduceAdd, Nat.reduceLeDiff, g12, g13, g14, c1, sp_sl hv, c2, eq_self, true_implies, false_implies, implies_true, not_true_eq_false, not_false_eq_true, and_true, false_and, and_false, if_true, if_false, Int.reduceEq, Int.reduceSub, Int.reduceAdd, Int.reduceMul, Int.reduceNeg, Int.reduceLT, Int.reduceLE, Int.add_zero]
      refine hQ0 ?_
      cases e : isW b c v with
      | false => rfl
      | true => exact absurd ((isW_iff hv).mp e).2.1 c2
  · simp (disch := first | assumption | omega | exact zc_lo | exact zc_hi | exact zz_l | exact zz_u | exact zz_r) only [xa_28, xc_1 gc_3_isWord_0, xc_2 gc_3_isWord_1, xl_aload0, xl_aload1, xl_iinc2a, xl_iinc2i, xl_iinc2n, xl_iload2, xl_istore2a, xl_istore2i, xl_istore2n, xm_f, xm_n, xm_t, xn_1, xn_2, xn_4, xn_5, xo_27_0, xo_27_5, xo_27_6, xo_27_7, xr_goto, xr_iadd, xr_ic_eq, xr_ic_ge, xr_ic_ne, xr_iconst, xr_isub, xr_zret, xtl_n, xtl_s, xz_i, xz_l, xz_n, xz_r, wb_3_isWord_0, wb_3_isWord_1, wb_3_isWord_2, wb_3_isWord_4, wb_3_isWord_5, ss_3_isWord, zz_b, zz_bn, Classical.not_not, true_and, Nat.reduceAdd, Nat.reduceLeDiff, g12, c1, true_implies, false_implies, implies_true, not_true_eq_false, not_false_eq_true, and_true, false_and, and_false, if_true, if_false, Int.reduceEq, Int.reduceSub, Int.reduceAdd, Int.reduceMul, Int.reduceNeg, Int.reduceLT, Int.reduceLE, Int.add_zero]
    refine hQ0 ?_
    cases e : isW b c v with
    | false => rfl
    | true => exact absurd (isW_k e) c1
theorem sp_3_wordOf {d : Nat} (hd : d < 7) {h : dk_H} : s_3_wordOf [.inl d] h Q = Q (some (.inr (.inr (110 + d)))) h := by
  rcases (show d = 0 ∨ d = 1 ∨ d = 2 ∨ d = 3 ∨ d = 4 ∨ d = 5 ∨ d = 6 by omega) with rfl | rfl | rfl | rfl | rfl | rfl | rfl
  all_goals (first | (simp (disch := first | assumption | omega | exact zc_lo | exact zc_hi | exact zz_l | exact zz_u | exact zz_r) only [xl_iload0, xm_f, xm_n, xm_t, xn_1, xn_2, xn_3, xn_4, xn_5, xn_6, xn_7, xr_aret, xr_ref, xr_sw, xtl_n, xtl_s, xw_n, xw_t, xz_i, xz_l, xz_n, xz_r, wb_3_wordOf_0, wb_3_wordOf_1, wb_3_wordOf_2, wb_3_wordOf_3, wb_3_wordOf_4, wb_3_wordOf_5, wb_3_wordOf_6, wb_3_wordOf_7, ss_3_wordOf, zz_b, zz_bn, Classical.not_not, true_and, Nat.reduceAdd, Nat.reduceLeDiff, show ((0 : Nat) : Int) = 0 from rfl, show ((1 : Nat) : Int) = 1 from rfl, show ((2 : Nat) : Int) = 2 from rfl, show ((3 : Nat) : Int) = 3 from rfl, show ((4 : Nat) : Int) = 4 from rfl, show ((5 : Nat) : Int) = 5 from rfl, show ((6 : Nat) : Int) = 6 from rfl, or_false, false_or, or_true, true_or, true_implies, false_implies, implies_true, not_true_eq_false, not_false_eq_true, and_true, false_and, and_false, if_true, if_false, Int.reduceEq, Int.reduceSub, Int.reduceAdd, Int.reduceMul, Int.reduceNeg, Int.reduceLT, Int.reduceLE, Int.add_zero]; done))
theorem sp_3_kindHere (hT : Tp b (i 9)) (hB : byB (a 28) (i 9) = b) (hc0 : 0 ≤ c) (hc1 : c ≤ i 9) (hC : CT b c i) : Q (some (.inl (kdF b c))) (HH n xs w a i) → s_3_kindHere [.inr (.inr 27)] (HH n xs w a i) Q := by
  intro hQ
  simp (disch := first | assumption | omega | exact zc_lo | exact zc_hi | exact zz_l | exact zz_u | exact zz_r) only [xc_1 gc_3_kindHere_0, xc_2 gc_3_kindHere_1, xl_aload0, xl_iinc1a, xl_iinc1i, xl_iinc1n, xl_iload1, xl_istore1a, xl_istore1i, xl_istore1n, xm_f, xm_n, xm_t, xn_2, xn_3, xr_goto, xr_ic_ge, xr_iconst, xr_if_eq, xr_iret, xtl_n, xtl_s, xz_i, xz_l, xz_n, xz_r, wb_3_kindHere_0, wb_3_kindHere_2, wb_3_kindHere_3, ss_3_kindHere, zz_b, zz_bn, Classical.not_not, true_and, Nat.reduceAdd, Nat.reduceLeDiff, true_implies, false_implies, implies_true, not_true_eq_false, not_false_eq_true, and_true, false_and, and_false, if_true, if_false, Int.reduceEq, Int.reduceSub, Int.reduceAdd, Int.reduceMul, Int.reduceNeg, Int.reduceLT, Int.reduceLE, Int.add_zero]
  refine lp_up (m := 7) (P := fun d => (∀ v : Nat, v < d → isW b c v = false) → dk_WP g_3_kindHere b_3_kindHere Q 1 [some (.inr (.inr 27)), some (.inl d)] [] (HH n xs w a i)) ?_ ?_ 0 (Nat.zero_le _) (fun j hj => absurd hj (Nat.not_lt_zero j))
  · intro hall
    rw [kdF_n hall] at hQ
    rw [wb_3_kindHere_1]
    simp (disch := first | assumption | omega | exact zc_lo | exact zc_hi | exact zz_l | exact zz_u | exact zz_r) only [xc_1 gc_3_kindHere_0, xc_2 gc_3_kindHere_1, xl_aload0, xl_iinc1a, xl_iinc1i, xl_iinc1n, xl_iload1, xl_istore1a, xl_istore1i, xl_istore1n, xm_f, xm_n, xm_t, xn_2, xn_3, xr_goto, xr_ic_ge, xr_iconst, xr_if_eq, xr_iret, xtl_n, xtl_s, xz_i, xz_l, xz_n, xz_r, wb_3_kindHere_0, wb_3_kindHere_2, wb_3_kindHere_3, zz_b, zz_bn, Classical.not_not, true_and, Nat.reduceAdd, Nat.reduceLeDiff]
    exact ⟨fun _ => hQ, fun z => absurd (by omega) z⟩
  · intro d hdm ih hall
    rw [wb_3_kindHere_1]
    simp (disch := first | assumption | omega | exact zc_lo | exact zc_hi | exact zz_l | exact zz_u | exact zz_r) only [xc_1 gc_3_kindHere_0, xc_2 gc_3_kindHere_1, xl_aload0, xl_iinc1a, xl_iinc1i, xl_iinc1n, xl_iload1, xl_istore1a, xl_istore1i, xl_istore1n, xm_f, xm_n, xm_t, xn_2, xn_3, xr_goto, xr_ic_ge, xr_iconst, xr_if_eq, xr_iret, xtl_n, xtl_s, xz_i, xz_l, xz_n, xz_r, wb_3_kindHere_0, wb_3_kindHere_2, wb_3_kindHere_3, zz_b, zz_bn, Classical.not_not, true_and, Nat.reduceAdd, Nat.reduceLeDiff, sp_3_wordOf hdm]
    refine ⟨fun z => absurd z (by omega), fun _ => ?_⟩
    refine sp_3_isWord hT hB hc0 hc1 hC (by omega) (fun z => ?_) (fun z => ?_)
    · simp (disch := first | assumption | omega | exact zc_lo | exact zc_hi | exact zz_l | exact zz_u | exact zz_r) only [xc_1 gc_3_kindHere_0, xc_2 gc_3_kindHere_1, xl_aload0, xl_iinc1a, xl_iinc1i, xl_iinc1n, xl_iload1, xl_istore1a, xl_istore1i, xl_istore1n, xm_f, xm_n, xm_t, xn_2, xn_3, xr_goto, xr_ic_ge, xr_iconst, xr_if_eq, xr_iret, xtl_n, xtl_s, xz_i, xz_l, xz_n, xz_r, wb_3_kindHere_0, wb_3_kindHere_2, wb_3_kindHere_3, zz_b, zz_bn, Classical.not_not, true_and, Nat.reduceAdd, Nat.reduceLeDiff, eq_self, true_implies, false_implies, implies_true, not_true_eq_false, not_false_eq_true, and_true, false_and, and_false, if_true, if_false, Int.reduceEq, Int.reduceSub, Int.reduceAdd, Int.reduceMul, Int.reduceNeg, Int.reduceLT, Int.reduceLE, Int.add_zero]
      rw [kdF_y hdm hall z] at hQ
      exact hQ
    · simp (disch := first | assumption | omega | exact zc_lo | exact zc_hi | exact zz_l | exact zz_u | exact zz_r) only [xc_1 gc_3_kindHere_0, xc_2 gc_3_kindHere_1, xl_aload0, xl_iinc1a, xl_iinc1i, xl_iinc1n, xl_iload1, xl_istore1a, xl_istore1i, xl_istore1n, xm_f, xm_n, xm_t, xn_2, xn_3, xr_goto, xr_ic_ge, xr_iconst, xr_if_eq, xr_iret, xtl_n, xtl_s, xz_i, xz_l, xz_n, xz_r, wb_3_kindHere_0, wb_3_kindHere_2, wb_3_kindHere_3, zz_b, zz_bn, Classical.not_not, true_and, Nat.reduceAdd, Nat.reduceLeDiff, eq_self, true_implies, false_implies, implies_true, not_true_eq_false, not_false_eq_true, and_true, false_and, and_false, if_true, if_false, Int.reduceEq, Int.reduceSub, Int.reduceAdd, Int.reduceMul, Int.reduceNeg, Int.reduceLT, Int.reduceLE, Int.add_zero]
      rw [cs d]
      refine ih (fun v hv => ?_)
      by_cases e : v = d
      · subst e; exact z
      · exact hall v (by omega)
theorem sp_3_optionHere (hT : Tp b (i 9)) (hB : byB (a 28) (i 9) = b) (hc0 : 0 ≤ c) (hc1 : c ≤ i 9) (hC : CT b c i) : Q (some (.inl (if moF b c = 0 then -1 else moF b c))) (HH n xs w a i) → s_3_optionHere [.inr (.inr 27)] (HH n xs w a i) Q := by
  intro hQ
  unfold moF at hQ
  simp (disch := first | assumption | omega | exact zc_lo | exact zc_hi | exact zz_l | exact zz_u | exact zz_r) only [xc_2 gc_3_optionHere_0, xl_aload0, xm_f, xm_n, xm_t, xn_1, xn_2, xn_3, xr_goto, xr_iconst, xr_if_eq, xr_iret, xr_ref, xtl_n, xtl_s, xz_i, xz_l, xz_n, xz_r, wb_3_optionHere_0, wb_3_optionHere_1, wb_3_optionHere_2, wb_3_optionHere_3, wb_3_optionHere_4, ss_3_optionHere, zz_b, zz_bn, Classical.not_not, true_and, Nat.reduceAdd, Nat.reduceLeDiff, true_implies, false_implies, implies_true, not_true_eq_false, not_false_eq_true, and_true, false_and, and_false, if_true, if_false, Int.reduceEq, Int.reduceSub, Int.reduceAdd, Int.reduceMul, Int.reduceNeg, Int.reduceLT, Int.reduceLE, Int.add_zero]
  refine sp_3_isWord hT hB hc0 hc1 hC (v := 8) (by omega) (fun z => ?_) (fun z => ?_)
  · simp (disch := first | assumption | omega | exact zc_lo | exact zc_hi | exact zz_l | exact zz_u | exact zz_r) only [xc_2 gc_3_optionHere_0, xl_aload0, xm_f, xm_n, xm_t, xn_1, xn_2, xn_3, xr_goto, xr_iconst, xr_if_eq, xr_iret, xr_ref, xtl_n, xtl_s, xz_i, xz_l, xz_n, xz_r, wb_3_optionHere_0, wb_3_optionHere_1, wb_3_optionHere_2, wb_3_optionHere_3, wb_3_optionHere_4, zz_b, zz_bn, Classical.not_not, true_and, Nat.reduceAdd, Nat.reduceLeDiff, eq_self, true_implies, false_implies, implies_true, not_true_eq_false, not_false_eq_true, and_true, false_and, and_false, if_true, if_false, Int.reduceEq, Int.reduceSub, Int.reduceAdd, Int.reduceMul, Int.reduceNeg, Int.reduceLT, Int.reduceLE, Int.add_zero]
    rw [z] at hQ
    exact hQ
  · simp (disch := first | assumption | omega | exact zc_lo | exact zc_hi | exact zz_l | exact zz_u | exact zz_r) only [xc_2 gc_3_optionHere_0, xl_aload0, xm_f, xm_n, xm_t, xn_1, xn_2, xn_3, xr_goto, xr_iconst, xr_if_eq, xr_iret, xr_ref, xtl_n, xtl_s, xz_i, xz_l, xz_n, xz_r, wb_3_optionHere_0, wb_3_optionHere_1, wb_3_optionHere_2, wb_3_optionHere_3, wb_3_optionHere_4, zz_b, zz_bn, Classical.not_not, true_and, Nat.reduceAdd, Nat.reduceLeDiff, eq_self, true_implies, false_implies, implies_true, not_true_eq_false, not_false_eq_true, and_true, false_and, and_false, if_true, if_false, Int.reduceEq, Int.reduceSub, Int.reduceAdd, Int.reduceMul, Int.reduceNeg, Int.reduceLT, Int.reduceLE, Int.add_zero]
    rw [z] at hQ
    refine sp_3_isWord hT hB hc0 hc1 hC (v := 9) (by omega) (fun z2 => ?_) (fun z2 => ?_)
    · simp (disch := first | assumption | omega | exact zc_lo | exact zc_hi | exact zz_l | exact zz_u | exact zz_r) only [xc_2 gc_3_optionHere_0, xl_aload0, xm_f, xm_n, xm_t, xn_1, xn_2, xn_3, xr_goto, xr_iconst, xr_if_eq, xr_iret, xr_ref, xtl_n, xtl_s, xz_i, xz_l, xz_n, xz_r, wb_3_optionHere_0, wb_3_optionHere_1, wb_3_optionHere_2, wb_3_optionHere_3, wb_3_optionHere_4, zz_b, zz_bn, Classical.not_not, true_and, Nat.reduceAdd, Nat.reduceLeDiff, eq_self, true_implies, false_implies, implies_true, not_true_eq_false, not_false_eq_true, and_true, false_and, and_false, if_true, if_false, Int.reduceEq, Int.reduceSub, Int.reduceAdd, Int.reduceMul, Int.reduceNeg, Int.reduceLT, Int.reduceLE, Int.add_zero]
      rw [z2] at hQ
      exact hQ
    · simp (disch := first | assumption | omega | exact zc_lo | exact zc_hi | exact zz_l | exact zz_u | exact zz_r) only [xc_2 gc_3_optionHere_0, xl_aload0, xm_f, xm_n, xm_t, xn_1, xn_2, xn_3, xr_goto, xr_iconst, xr_if_eq, xr_iret, xr_ref, xtl_n, xtl_s, xz_i, xz_l, xz_n, xz_r, wb_3_optionHere_0, wb_3_optionHere_1, wb_3_optionHere_2, wb_3_optionHere_3, wb_3_optionHere_4, zz_b, zz_bn, Classical.not_not, true_and, Nat.reduceAdd, Nat.reduceLeDiff, eq_self, true_implies, false_implies, implies_true, not_true_eq_false, not_false_eq_true, and_true, false_and, and_false, if_true, if_false, Int.reduceEq, Int.reduceSub, Int.reduceAdd, Int.reduceMul, Int.reduceNeg, Int.reduceLT, Int.reduceLE, Int.add_zero]
      rw [z2] at hQ
      refine sp_3_isWord hT hB hc0 hc1 hC (v := 10) (by omega) (fun z3 => ?_) (fun z3 => ?_)
      · simp (disch := first | assumption | omega | exact zc_lo | exact zc_hi | exact zz_l | exact zz_u | exact zz_r) only [xc_2 gc_3_optionHere_0, xl_aload0, xm_f, xm_n, xm_t, xn_1, xn_2, xn_3, xr_goto, xr_iconst, xr_if_eq, xr_iret, xr_ref, xtl_n, xtl_s, xz_i, xz_l, xz_n, xz_r, wb_3_optionHere_0, wb_3_optionHere_1, wb_3_optionHere_2, wb_3_optionHere_3, wb_3_optionHere_4, zz_b, zz_bn, Classical.not_not, true_and, Nat.reduceAdd, Nat.reduceLeDiff, eq_self, true_implies, false_implies, implies_true, not_true_eq_false, not_false_eq_true, and_true, false_and, and_false, if_true, if_false, Int.reduceEq, Int.reduceSub, Int.reduceAdd, Int.reduceMul, Int.reduceNeg, Int.reduceLT, Int.reduceLE, Int.add_zero]
        rw [z3] at hQ
        exact hQ
      · simp (disch := first | assumption | omega | exact zc_lo | exact zc_hi | exact zz_l | exact zz_u | exact zz_r) only [xc_2 gc_3_optionHere_0, xl_aload0, xm_f, xm_n, xm_t, xn_1, xn_2, xn_3, xr_goto, xr_iconst, xr_if_eq, xr_iret, xr_ref, xtl_n, xtl_s, xz_i, xz_l, xz_n, xz_r, wb_3_optionHere_0, wb_3_optionHere_1, wb_3_optionHere_2, wb_3_optionHere_3, wb_3_optionHere_4, zz_b, zz_bn, Classical.not_not, true_and, Nat.reduceAdd, Nat.reduceLeDiff, eq_self, true_implies, false_implies, implies_true, not_true_eq_false, not_false_eq_true, and_true, false_and, and_false, if_true, if_false, Int.reduceEq, Int.reduceSub, Int.reduceAdd, Int.reduceMul, Int.reduceNeg, Int.reduceLT, Int.reduceLE, Int.add_zero]
        rw [z3] at hQ
        exact hQ
theorem srF_1 {k : Int} : srF k = 1 ↔ k = 1 := by
  unfold srF
  constructor
  · intro h; (repeat' split at h) <;> omega
  · intro h; subst h; rfl
theorem srF_2 {k : Int} : srF k = 2 ↔ k = 2 := by
  unfold srF
  constructor
  · intro h; (repeat' split at h) <;> omega
  · intro h; subst h; rfl
theorem srF_0 {k : Int} : srF k = 0 ↔ k = 0 := by
  unfold srF
  constructor
  · intro h; (repeat' split at h) <;> omega
  · intro h; subst h; rfl
theorem srF_b (k : Int) : 0 ≤ srF k ∧ srF k ≤ 3 := by unfold srF; (repeat' split) <;> omega
theorem sp_6_isWord (hM : MT b c i) {v : Nat} {W : Int} (hW : W = WC v) (hW1 : 1 ≤ W) (hW2 : W ≤ 100000000) : s_6_isWord [.inr (.inr 53), .inr (.inl W)] (HH n xs w a i) Q = Q (some (.inl (if isW b c v = true then 1 else 0))) (HH n xs w a i) := by
  obtain ⟨g35, g36, g37, ⟨g38, g38b⟩, g38c, g39, g39b, g39c⟩ := hM
  have sb := srF_b (tK b c)
  unfold isW
  by_cases c1 : tK b c = 1
  · have s1 : srF (tK b c) = 1 := srF_1.mpr c1
    have e := g38c c1
    rw [← e, ← hW]
    by_cases c2 : i 38 = W
    · simp only [c1, c2, decide_true, Bool.and_self, if_true]
      simp (disch := first | assumption | omega | exact zc_lo | exact zc_hi | exact zz_l | exact zz_u | exact zz_r) only [xl_aload0, xl_lload1, xm_f, xm_n, xm_t, xn_1, xo_53_17, xo_53_18, xr_goto, xr_ic_ne, xr_iconst, xr_if_ne, xr_lcmp, xr_zret, xtl_n, xtl_s, xz_i, xz_l, xz_n, xz_r, wb_6_isWord_0, wb_6_isWord_1, wb_6_isWord_2, ss_6_isWord, zz_b, zz_bn, Classical.not_not, true_and, Nat.reduceAdd, Nat.reduceLeDiff, g37, s1, c2, zc_eq, eq_self, true_implies, false_implies, implies_true, not_true_eq_false, not_false_eq_true, and_true, false_and, and_false, if_true, if_false, Int.reduceEq, Int.reduceSub, Int.reduceAdd, Int.reduceMul, Int.reduceNeg, Int.reduceLT, Int.reduceLE, Int.add_zero]
    · simp only [c1, c2, decide_true, decide_false, Bool.true_and, Bool.false_eq_true, if_false]
      simp (disch := first | assumption | omega | exact zc_lo | exact zc_hi | exact zz_l | exact zz_u | exact zz_r) only [xl_aload0, xl_lload1, xm_f, xm_n, xm_t, xn_1, xo_53_17, xo_53_18, xr_goto, xr_ic_ne, xr_iconst, xr_if_ne, xr_lcmp, xr_zret, xtl_n, xtl_s, xz_i, xz_l, xz_n, xz_r, wb_6_isWord_0, wb_6_isWord_1, wb_6_isWord_2, ss_6_isWord, zz_b, zz_bn, Classical.not_not, true_and, Nat.reduceAdd, Nat.reduceLeDiff, g37, s1, c2, zc_eq, eq_self, true_implies, false_implies, implies_true, not_true_eq_false, not_false_eq_true, and_true, false_and, and_false, if_true, if_false, Int.reduceEq, Int.reduceSub, Int.reduceAdd, Int.reduceMul, Int.reduceNeg, Int.reduceLT, Int.reduceLE, Int.add_zero]
  · have s1 : ¬ srF (tK b c) = 1 := fun z => c1 (srF_1.mp z)
    simp only [c1, decide_false, Bool.false_and, Bool.false_eq_true, if_false]
    simp (disch := first | assumption | omega | exact zc_lo | exact zc_hi | exact zz_l | exact zz_u | exact zz_r) only [xl_aload0, xl_lload1, xm_f, xm_n, xm_t, xn_1, xo_53_17, xo_53_18, xr_goto, xr_ic_ne, xr_iconst, xr_if_ne, xr_lcmp, xr_zret, xtl_n, xtl_s, xz_i, xz_l, xz_n, xz_r, wb_6_isWord_0, wb_6_isWord_1, wb_6_isWord_2, ss_6_isWord, zz_b, zz_bn, Classical.not_not, true_and, Nat.reduceAdd, Nat.reduceLeDiff, g37, s1, true_implies, false_implies, implies_true, not_true_eq_false, not_false_eq_true, and_true, false_and, and_false, if_true, if_false, Int.reduceEq, Int.reduceSub, Int.reduceAdd, Int.reduceMul, Int.reduceNeg, Int.reduceLT, Int.reduceLE, Int.add_zero]
theorem sp_6_kindHere (hM : MT b c i) : Q (some (.inl (kdF b c))) (HH n xs w a i) → s_6_kindHere [.inr (.inr 53)] (HH n xs w a i) Q := by
  intro hQ
  unfold kdF at hQ
  simp (disch := first | assumption | omega | exact zc_lo | exact zc_hi | exact zz_l | exact zz_u | exact zz_r) only [xc_2 gc_6_kindHere_0, xl_aload0, xm_f, xm_n, xm_t, xn_1, xn_2, xn_3, xn_4, xn_5, xn_6, xn_7, xr_goto, xr_iconst, xr_if_eq, xr_iret, xr_lconst, xtl_n, xtl_s, xz_i, xz_l, xz_n, xz_r, wb_6_kindHere_0, wb_6_kindHere_1, wb_6_kindHere_2, wb_6_kindHere_3, wb_6_kindHere_4, wb_6_kindHere_5, wb_6_kindHere_6, wb_6_kindHere_7, wb_6_kindHere_8, ss_6_kindHere, zz_b, zz_bn, Classical.not_not, true_and, Nat.reduceAdd, Nat.reduceLeDiff, sp_6_isWord hM (v := 0) (W := 220309) rfl (by omega) (by omega), sp_6_isWord hM (v := 1) (W := 3690) rfl (by omega) (by omega), sp_6_isWord hM (v := 2) (W := 4325) rfl (by omega) (by omega), sp_6_isWord hM (v := 3) (W := 9744) rfl (by omega) (by omega), sp_6_isWord hM (v := 4) (W := 121898) rfl (by omega) (by omega), sp_6_isWord hM (v := 5) (W := 404923) rfl (by omega) (by omega), sp_6_isWord hM (v := 6) (W := 131360) rfl (by omega) (by omega)]
  refine ⟨fun z0 => ⟨fun z1 => ⟨fun z2 => ⟨fun z3 => ⟨fun z4 => ⟨fun z5 => ⟨fun z6 => ?_, fun z6 => ?_⟩, fun z5 => ?_⟩, fun z4 => ?_⟩, fun z3 => ?_⟩, fun z2 => ?_⟩, fun z1 => ?_⟩, fun z0 => ?_⟩
  · rw [if_neg z0, if_neg z1, if_neg z2, if_neg z3, if_neg z4, if_neg z5, if_neg z6] at hQ; exact hQ
  · rw [if_neg z0, if_neg z1, if_neg z2, if_neg z3, if_neg z4, if_neg z5, if_pos z6] at hQ; exact hQ
  · rw [if_neg z0, if_neg z1, if_neg z2, if_neg z3, if_neg z4, if_pos z5] at hQ; exact hQ
  · rw [if_neg z0, if_neg z1, if_neg z2, if_neg z3, if_pos z4] at hQ; exact hQ
  · rw [if_neg z0, if_neg z1, if_neg z2, if_pos z3] at hQ; exact hQ
  · rw [if_neg z0, if_neg z1, if_pos z2] at hQ; exact hQ
  · rw [if_neg z0, if_pos z1] at hQ; exact hQ
  · rw [if_pos z0] at hQ; exact hQ
theorem sp_6_moreHere (hM : MT b c i) : Q (some (.inl (moF b c))) (HH n xs w a i) → s_6_moreHere [.inr (.inr 53)] (HH n xs w a i) Q := by
  intro hQ
  unfold moF at hQ
  simp (disch := first | assumption | omega | exact zc_lo | exact zc_hi | exact zz_l | exact zz_u | exact zz_r) only [xc_2 gc_6_moreHere_0, xl_aload0, xm_f, xm_n, xm_t, xn_1, xn_2, xn_3, xr_goto, xr_iconst, xr_if_eq, xr_iret, xr_lconst, xtl_n, xtl_s, xz_i, xz_l, xz_n, xz_r, wb_6_moreHere_0, wb_6_moreHere_1, wb_6_moreHere_2, wb_6_moreHere_3, wb_6_moreHere_4, ss_6_moreHere, zz_b, zz_bn, Classical.not_not, true_and, Nat.reduceAdd, Nat.reduceLeDiff, sp_6_isWord hM (v := 8) (W := 316163) rfl (by omega) (by omega), sp_6_isWord hM (v := 9) (W := 10256063) rfl (by omega) (by omega), sp_6_isWord hM (v := 10) (W := 2486801) rfl (by omega) (by omega)]
  refine ⟨fun z0 => ⟨fun z1 => ⟨fun z2 => ?_, fun z2 => ?_⟩, fun z1 => ?_⟩, fun z0 => ?_⟩
  · rw [if_neg z0, if_neg z1, if_neg z2] at hQ; exact hQ
  · rw [if_neg z0, if_neg z1, if_pos z2] at hQ; exact hQ
  · rw [if_neg z0, if_pos z1] at hQ; exact hQ
  · rw [if_pos z0] at hQ; exact hQ
end WD2
