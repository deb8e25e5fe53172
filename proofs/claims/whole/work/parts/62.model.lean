/-! THE REFERENCE'S PACES -/
section MD
variable {Q : dk_Q} {n : Nat} {xs : Int → Int} {w : Nat → Nat} {a : Nat → Int → Int} {i : Nat → Int} {r : Int}
theorem sp_6_byEar (hc : colN (mv a) (mi i)) (ho : oOK (mv a) (mi i) (a 65)) (h0 : 0 ≤ r) (h1 : r < i 30) : Q (some (.inl (earF (mv a) (mi i) (a 65) r))) (HH n xs w a i) → s_6_byEar [.inr (.inr 53), .inl r] (HH n xs w a i) Q := by
  intro hQ
  have qo := oOK.b hc ho h0 h1
  have qw := wpb hc h0 h1 (beF (mv a) (mi i) r - a 65 r)
  have hcc := hc
  obtain ⟨⟨p1, p2⟩, ⟨s1, s2⟩, ⟨v1, v2⟩, ⟨n1, n2⟩, ⟨o1, o2⟩, ⟨d1, d2⟩, ⟨e1, e2⟩, ⟨k1, k2⟩, hr, ⟨m1, m2⟩, hd, ⟨b1, b2⟩, hb, hs, hz⟩ := id hc
  have q := drF_bd (da := mv a 9) (dl := mv a 10) (x := mv a 4 r) (mi i 1).toNat (fun j h1 h2 => (hd j h1 (by omega)).2.1.2)
  obtain ⟨-, ⟨r1, r2⟩, ⟨r3, r4⟩, -⟩ := hr r h0 h1
  have hr24 : r < 24 := by have z : i 30 ≤ 24 := k2; omega
  simp (disch := first | assumption | omega | exact zc_lo | exact zc_hi | exact zz_l | exact zz_u | exact zz_r) only [xa_59, xa_65, xc_2 gc_6_byEar_0, xc_2 gc_6_byEar_3, xc_3 gc_6_byEar_1, xc_3 gc_6_byEar_2, xl_aload0, xl_iload1, xl_iload2, xl_istore2a, xl_istore2i, xl_istore2n, xm_f, xm_n, xm_t, xn_1, xo_53_23, xo_53_7, xr_goto, xr_i2l, xr_iadd, xr_iconst, xr_idiv, xr_if_ge, xr_imul, xr_iret, xr_lsub, xtl_n, xtl_s, xz_i, xz_l, xz_n, xz_r, wb_6_byEar_0, wb_6_byEar_1, wb_6_byEar_2, ss_6_byEar, zz_b, zz_bn, Classical.not_not, true_and, Nat.reduceAdd, Nat.reduceLeDiff]
  refine sp_6_drumFor hcc h0 h1 ?_
  unfold earF at hQ
  unfold beF at hQ qw
  generalize hg : (drF (mv a 9) (mv a 10) (mv a 4 r) (mi i 1).toNat).1 = d at hQ q qw
  have hg2 : (drF (mv a 9) (mv a 10) (mv a 4 r) (i 31).toNat).1 = d := hg
  rw [hg2]
  have m1 : 0 ≤ i 31 := m1
  have m2 : i 31 ≤ 6 := m2
  have q7 : d < ((i 31).toNat : Int) := q.2.1
  simp (disch := first | assumption | omega | exact zc_lo | exact zc_hi | exact zz_l | exact zz_u | exact zz_r) only [xa_59, xa_65, xc_2 gc_6_byEar_0, xc_2 gc_6_byEar_3, xc_3 gc_6_byEar_1, xc_3 gc_6_byEar_2, xl_aload0, xl_iload1, xl_iload2, xl_istore2a, xl_istore2i, xl_istore2n, xm_f, xm_n, xm_t, xn_1, xo_53_23, xo_53_7, xr_goto, xr_i2l, xr_iadd, xr_iconst, xr_idiv, xr_if_ge, xr_imul, xr_iret, xr_lsub, xtl_n, xtl_s, xz_i, xz_l, xz_n, xz_r, wb_6_byEar_0, wb_6_byEar_1, wb_6_byEar_2, zz_b, zz_bn, Classical.not_not, true_and, Nat.reduceAdd, Nat.reduceLeDiff]
  refine ⟨fun z => ?_, fun z => ?_⟩
  · have z1 : ¬ d = -1 := by omega
    have z2 : d < i 31 := by omega
    obtain ⟨⟨g1, g2⟩, ⟨g3, g4⟩, g5, g6⟩ := hd d z z2
    have ql := lagF_bd s1 s2 v1 v2 g1 g2 r1 (by omega)
    rw [if_neg z1] at hQ qw
    rw [if_neg (by omega)] at hQ
    simp only [mv] at hQ g1 g2 g5 g6 r1 r2 r3 r4 ql p1 p2 s1 s2 v1 v2 qw
    simp (disch := first | assumption | omega | exact zc_lo | exact zc_hi | exact zz_l | exact zz_u | exact zz_r) only [xa_59, xa_65, xc_2 gc_6_byEar_0, xc_2 gc_6_byEar_3, xc_3 gc_6_byEar_1, xc_3 gc_6_byEar_2, xl_aload0, xl_iload1, xl_iload2, xl_istore2a, xl_istore2i, xl_istore2n, xm_f, xm_n, xm_t, xn_1, xo_53_23, xo_53_7, xr_goto, xr_i2l, xr_iadd, xr_iconst, xr_idiv, xr_if_ge, xr_imul, xr_iret, xr_lsub, xtl_n, xtl_s, xz_i, xz_l, xz_n, xz_r, wb_6_byEar_0, wb_6_byEar_1, wb_6_byEar_2, zz_b, zz_bn, Classical.not_not, true_and, Nat.reduceAdd, Nat.reduceLeDiff, sp_6_its, sp_6_lagOf, sp_6_wrapped]
    exact hQ
  · rw [if_pos (by omega)] at hQ
    exact hQ
theorem sp_6_byEye (hc : colN (mv a) (mi i)) (ho : oOK (mv a) (mi i) (a 65)) (h0 : 0 ≤ r) (h1 : r < i 30) : Q (some (.inl (eyeF (mv a) (mi i) (a 65) r))) (HH n xs w a i) → s_6_byEye [.inr (.inr 53), .inl r] (HH n xs w a i) Q := by
  intro hQ
  have qo := oOK.b hc ho h0 h1
  have qw := wpb hc h0 h1 (a 65 (r - 1) - a 65 r)
  have hcc := hc
  obtain ⟨⟨p1, p2⟩, ⟨s1, s2⟩, ⟨v1, v2⟩, ⟨n1, n2⟩, ⟨o1, o2⟩, ⟨d1, d2⟩, ⟨e1, e2⟩, ⟨k1, k2⟩, hr, ⟨m1, m2⟩, hd, ⟨b1, b2⟩, hb, hs, hz⟩ := id hc
  obtain ⟨-, -, ⟨r3, r4⟩, -⟩ := hr r h0 h1
  have hr24 : r < 24 := by have z : i 30 ≤ 24 := k2; omega
  unfold eyeF at hQ
  by_cases z : r = 0
  · rw [if_pos (Or.inl z)] at hQ
    simp (disch := first | assumption | omega | exact zc_lo | exact zc_hi | exact zz_l | exact zz_u | exact zz_r) only [xa_65, xc_2 gc_6_byEye_0, xc_2 gc_6_byEye_1, xc_3 gc_6_byEye_2, xl_aload0, xl_iload1, xm_f, xm_n, xm_t, xn_1, xn_2, xo_53_23, xr_goto, xr_i2l, xr_iconst, xr_idiv, xr_if_eq, xr_imul, xr_iret, xr_isub, xr_lsub, xtl_n, xtl_s, xz_i, xz_l, xz_n, xz_r, wb_6_byEye_0, wb_6_byEye_1, wb_6_byEye_2, wb_6_byEye_3, ss_6_byEye, zz_b, zz_bn, Classical.not_not, true_and, Nat.reduceAdd, Nat.reduceLeDiff]
    exact ⟨fun _ => hQ, fun z2 => absurd z z2⟩
  · have qo2 := oOK.b hcc ho (r := r - 1) (by omega) (by simp only [mi, Nat.reduceAdd]; omega)
    simp (disch := first | assumption | omega | exact zc_lo | exact zc_hi | exact zz_l | exact zz_u | exact zz_r) only [xa_65, xc_2 gc_6_byEye_0, xc_2 gc_6_byEye_1, xc_3 gc_6_byEye_2, xl_aload0, xl_iload1, xm_f, xm_n, xm_t, xn_1, xn_2, xo_53_23, xr_goto, xr_i2l, xr_iconst, xr_idiv, xr_if_eq, xr_imul, xr_iret, xr_isub, xr_lsub, xtl_n, xtl_s, xz_i, xz_l, xz_n, xz_r, wb_6_byEye_0, wb_6_byEye_1, wb_6_byEye_2, wb_6_byEye_3, ss_6_byEye, zz_b, zz_bn, Classical.not_not, true_and, Nat.reduceAdd, Nat.reduceLeDiff]
    refine ⟨fun z2 => absurd z2 z, fun _ => ?_⟩
    refine sp_6_isBent hcc h0 h1 ?_
    simp only [mv] at hQ r3 r4 p1 p2 qw
    simp (disch := first | assumption | omega | exact zc_lo | exact zc_hi | exact zz_l | exact zz_u | exact zz_r) only [xa_65, xc_2 gc_6_byEye_0, xc_2 gc_6_byEye_1, xc_3 gc_6_byEye_2, xl_aload0, xl_iload1, xm_f, xm_n, xm_t, xn_1, xn_2, xo_53_23, xr_goto, xr_i2l, xr_iconst, xr_idiv, xr_if_eq, xr_imul, xr_iret, xr_isub, xr_lsub, xtl_n, xtl_s, xz_i, xz_l, xz_n, xz_r, wb_6_byEye_0, wb_6_byEye_1, wb_6_byEye_2, wb_6_byEye_3, zz_b, zz_bn, Classical.not_not, true_and, Nat.reduceAdd, Nat.reduceLeDiff, sp_6_its, sp_6_wrapped]
    refine ⟨fun z2 => ?_, fun z2 => ?_⟩
    · rw [if_neg (by simp only [z, z2, false_or, not_false_eq_true]; exact Bool.false_ne_true)] at hQ
      exact hQ
    · rw [if_pos (Or.inr z2)] at hQ
      exact hQ
theorem sp_6_byFeet (hc : colN (mv a) (mi i)) (ho : oOK (mv a) (mi i) (a 65)) (h0 : 0 ≤ r) (h1 : r < i 30) : Q (some (.inl (feF (mv a) (mi i) (a 65) r))) (HH n xs w a i) → s_6_byFeet [.inr (.inr 53), .inl r] (HH n xs w a i) Q := by
  intro hQ
  have qo := oOK.b hc ho h0 h1
  have hcc := hc
  have qf := (feF_bd (o := a 65) hc h0 h1).1
  obtain ⟨⟨p1, p2⟩, ⟨s1, s2⟩, ⟨v1, v2⟩, ⟨n1, n2⟩, ⟨o1, o2⟩, ⟨d1, d2⟩, ⟨e1, e2⟩, ⟨k1, k2⟩, hr, ⟨m1, m2⟩, hd, ⟨b1, b2⟩, hb, hs, hz⟩ := id hc
  obtain ⟨-, ⟨r1, r2⟩, ⟨r3, r4⟩, -⟩ := hr r h0 h1
  have hr24 : r < 24 := by have z : i 30 ≤ 24 := k2; omega
  obtain ⟨m, hm⟩ := nat_of k1
  have hmt : (mi i 0).toNat = m := by omega
  have hm2 : i 30 = m := hm
  have qn := nrF_bd (c := mv a) (r := r) m
  have qs := smF_bd (o := a 65) (r := r) hcc m
  unfold feF at hQ
  rw [hmt] at hQ qf
  simp (disch := first | assumption | omega | exact zc_lo | exact zc_hi | exact zz_l | exact zz_u | exact zz_r) only [xa_54, xa_65, xc_1 gc_6_byFeet_1, xc_2 gc_6_byFeet_3, xc_2 gc_6_byFeet_4, xc_3 gc_6_byFeet_0, xc_3 gc_6_byFeet_2, xl_aload0, xl_iinc3a, xl_iinc3i, xl_iinc3n, xl_iinc4a, xl_iinc4i, xl_iinc4n, xl_iload1, xl_iload2, xl_iload3, xl_iload4, xl_istore2a, xl_istore2i, xl_istore2n, xl_istore3a, xl_istore3i, xl_istore3n, xl_istore4a, xl_istore4i, xl_istore4n, xm_f, xm_n, xm_t, xn_2, xn_3, xn_4, xo_53_0, xo_53_23, xo_53_3, xr_goto, xr_i2l, xr_iadd, xr_ic_eq, xr_ic_ge, xr_ic_gt, xr_iconst, xr_idiv, xr_if_ne, xr_imul, xr_iret, xr_isub, xr_ladd, xr_lsub, xtl_n, xtl_s, xz_i, xz_l, xz_n, xz_r, wb_6_byFeet_0, wb_6_byFeet_2, wb_6_byFeet_3, wb_6_byFeet_4, wb_6_byFeet_5, ss_6_byFeet, zz_b, zz_bn, Classical.not_not, true_and, Nat.reduceAdd, Nat.reduceLeDiff]
  refine lp_up (m := m) (P := fun d => dk_WP g_6_byFeet b_6_byFeet Q 1 [some (.inr (.inr 53)), some (.inl r), some (.inl (smF (mv a) (a 65) r d)), some (.inl (nrF (mv a) r d)), some (.inl d)] [] (HH n xs w a i)) ?_ ?_ 0 (Nat.zero_le _)
  · rw [wb_6_byFeet_1]
    have e5 : mv a 5 r = a 57 (5 * r + 2) := rfl
    rw [e5] at hQ qf r3 r4
    simp (disch := first | assumption | omega | exact zc_lo | exact zc_hi | exact zz_l | exact zz_u | exact zz_r) only [xa_54, xa_65, xc_1 gc_6_byFeet_1, xc_2 gc_6_byFeet_3, xc_2 gc_6_byFeet_4, xc_3 gc_6_byFeet_0, xc_3 gc_6_byFeet_2, xl_aload0, xl_iinc3a, xl_iinc3i, xl_iinc3n, xl_iinc4a, xl_iinc4i, xl_iinc4n, xl_iload1, xl_iload2, xl_iload3, xl_iload4, xl_istore2a, xl_istore2i, xl_istore2n, xl_istore3a, xl_istore3i, xl_istore3n, xl_istore4a, xl_istore4i, xl_istore4n, xm_f, xm_n, xm_t, xn_2, xn_3, xn_4, xo_53_0, xo_53_23, xo_53_3, xr_goto, xr_i2l, xr_iadd, xr_ic_eq, xr_ic_ge, xr_ic_gt, xr_iconst, xr_idiv, xr_if_ne, xr_imul, xr_iret, xr_isub, xr_ladd, xr_lsub, xtl_n, xtl_s, xz_i, xz_l, xz_n, xz_r, wb_6_byFeet_0, wb_6_byFeet_2, wb_6_byFeet_3, wb_6_byFeet_4, wb_6_byFeet_5, zz_b, zz_bn, Classical.not_not, true_and, Nat.reduceAdd, Nat.reduceLeDiff, sp_6_its]
    refine ⟨fun _ => ⟨fun z => ?_, fun z => ?_⟩, fun z => by omega⟩
    · rw [if_neg z] at hQ
      have qf2 := qf z
      simp (disch := first | assumption | omega | exact zc_lo | exact zc_hi | exact zz_l | exact zz_u | exact zz_r) only [xa_54, xa_65, xc_1 gc_6_byFeet_1, xc_2 gc_6_byFeet_3, xc_2 gc_6_byFeet_4, xc_3 gc_6_byFeet_0, xc_3 gc_6_byFeet_2, xl_aload0, xl_iinc3a, xl_iinc3i, xl_iinc3n, xl_iinc4a, xl_iinc4i, xl_iinc4n, xl_iload1, xl_iload2, xl_iload3, xl_iload4, xl_istore2a, xl_istore2i, xl_istore2n, xl_istore3a, xl_istore3i, xl_istore3n, xl_istore4a, xl_istore4i, xl_istore4n, xm_f, xm_n, xm_t, xn_2, xn_3, xn_4, xo_53_0, xo_53_23, xo_53_3, xr_goto, xr_i2l, xr_iadd, xr_ic_eq, xr_ic_ge, xr_ic_gt, xr_iconst, xr_idiv, xr_if_ne, xr_imul, xr_iret, xr_isub, xr_ladd, xr_lsub, xtl_n, xtl_s, xz_i, xz_l, xz_n, xz_r, wb_6_byFeet_0, wb_6_byFeet_2, wb_6_byFeet_3, wb_6_byFeet_4, wb_6_byFeet_5, zz_b, zz_bn, Classical.not_not, true_and, Nat.reduceAdd, Nat.reduceLeDiff, sp_6_its]
      exact hQ
    · rw [if_pos (by omega)] at hQ
      refine sp_6_byEar hcc ho h0 h1 ?_
      simp (disch := first | assumption | omega | exact zc_lo | exact zc_hi | exact zz_l | exact zz_u | exact zz_r) only [xa_54, xa_65, xc_1 gc_6_byFeet_1, xc_2 gc_6_byFeet_3, xc_2 gc_6_byFeet_4, xc_3 gc_6_byFeet_0, xc_3 gc_6_byFeet_2, xl_aload0, xl_iinc3a, xl_iinc3i, xl_iinc3n, xl_iinc4a, xl_iinc4i, xl_iinc4n, xl_iload1, xl_iload2, xl_iload3, xl_iload4, xl_istore2a, xl_istore2i, xl_istore2n, xl_istore3a, xl_istore3i, xl_istore3n, xl_istore4a, xl_istore4i, xl_istore4n, xm_f, xm_n, xm_t, xn_2, xn_3, xn_4, xo_53_0, xo_53_23, xo_53_3, xr_goto, xr_i2l, xr_iadd, xr_ic_eq, xr_ic_ge, xr_ic_gt, xr_iconst, xr_idiv, xr_if_ne, xr_imul, xr_iret, xr_isub, xr_ladd, xr_lsub, xtl_n, xtl_s, xz_i, xz_l, xz_n, xz_r, wb_6_byFeet_0, wb_6_byFeet_2, wb_6_byFeet_3, wb_6_byFeet_4, wb_6_byFeet_5, zz_b, zz_bn, Classical.not_not, true_and, Nat.reduceAdd, Nat.reduceLeDiff]
      exact hQ
  · intro d hdm ih
    have qo2 := oOK.b hcc ho (r := d) (by omega) (by omega)
    have dn : (d : Int) < mi i 0 := by omega
    obtain ⟨-, ⟨g1, g2⟩, -⟩ := hr d (by omega) dn
    have ql := lagF_bd s1 s2 v1 v2 g1 (by omega) r1 (by omega)
    have qs2 := smF_bd (o := a 65) (r := r) hcc d
    have qn2 := nrF_bd (c := mv a) (r := r) d
    have q5 := ab_bd (x := mv a 4 d - mv a 4 r) (p := 4999) (by omega) (by omega)
    have hbe : neB (mv a) r d = (decide (¬ (d : Int) = r) && decide (ab (a 57 (5 * (d : Int) + 1) - a 57 (5 * r + 1)) ≤ a 54 3)) := rfl
    rw [smF, nrF] at ih
    simp only [mv] at q5 ql g1 g2 r1 r2 p1 p2 s1 s2 v1 v2 n1 n2
    rw [wb_6_byFeet_1]
    simp (disch := first | assumption | omega | exact zc_lo | exact zc_hi | exact zz_l | exact zz_u | exact zz_r) only [xa_54, xa_65, xc_1 gc_6_byFeet_1, xc_2 gc_6_byFeet_3, xc_2 gc_6_byFeet_4, xc_3 gc_6_byFeet_0, xc_3 gc_6_byFeet_2, xl_aload0, xl_iinc3a, xl_iinc3i, xl_iinc3n, xl_iinc4a, xl_iinc4i, xl_iinc4n, xl_iload1, xl_iload2, xl_iload3, xl_iload4, xl_istore2a, xl_istore2i, xl_istore2n, xl_istore3a, xl_istore3i, xl_istore3n, xl_istore4a, xl_istore4i, xl_istore4n, xm_f, xm_n, xm_t, xn_2, xn_3, xn_4, xo_53_0, xo_53_23, xo_53_3, xr_goto, xr_i2l, xr_iadd, xr_ic_eq, xr_ic_ge, xr_ic_gt, xr_iconst, xr_idiv, xr_if_ne, xr_imul, xr_iret, xr_isub, xr_ladd, xr_lsub, xtl_n, xtl_s, xz_i, xz_l, xz_n, xz_r, wb_6_byFeet_0, wb_6_byFeet_2, wb_6_byFeet_3, wb_6_byFeet_4, wb_6_byFeet_5, zz_b, zz_bn, Classical.not_not, true_and, Nat.reduceAdd, Nat.reduceLeDiff, sp_6_its, sp_6_size, sp_6_lagOf, sp_6_wrapped]
    rw [cs d]
    have bad : neB (mv a) r d = false → dk_WP g_6_byFeet b_6_byFeet Q 1 [some (.inr (.inr 53)), some (.inl r), some (.inl (smF (mv a) (a 65) r d)), some (.inl (nrF (mv a) r d)), some (.inl ((d + 1 : Nat) : Int))] [] (HH n xs w a i) := by
      intro hf
      rw [hf] at ih
      exact ih
    refine ⟨fun z => by omega, fun _ => ⟨fun z => bad ?_, fun z => ⟨fun z2 => bad ?_, fun z2 => ?_⟩⟩⟩
    · rw [hbe, decide_eq_false (by omega)]; rfl
    · rw [hbe, decide_eq_false (p := ab (a 57 (5 * (d : Int) + 1) - a 57 (5 * r + 1)) ≤ a 54 3) (by omega), Bool.and_false]
    · have hf : neB (mv a) r d = true := by rw [hbe, decide_eq_true (by omega), decide_eq_true (by omega)]; rfl
      rw [hf] at ih
      exact ih
theorem sp_6_turn (hc : colN (mv a) (mi i)) (ho : oOK (mv a) (mi i) (a 65)) (h0 : 0 ≤ r) (h1 : r < i 30) : Q (some (.inl (tuF (mv a) (mi i) (a 65) r))) (HH n xs w a i) → s_6_turn [.inr (.inr 53), .inl r] (HH n xs w a i) Q := by
  intro hQ
  have qo := oOK.b hc ho h0 h1
  have qm := mxb (o := a 65) hc h0 h1
  have hcc := hc
  obtain ⟨⟨p1, p2⟩, ⟨s1, s2⟩, ⟨v1, v2⟩, ⟨n1, n2⟩, ⟨o1, o2⟩, ⟨d1, d2⟩, ⟨e1, e2⟩, ⟨k1, k2⟩, hr, ⟨m1, m2⟩, hd, ⟨b1, b2⟩, hb, hs, hz⟩ := id hc
  obtain ⟨⟨t1, t2⟩, -, -, ⟨r3, r4⟩, ⟨r5, r6⟩, -⟩ := hr r h0 h1
  have hr24 : r < 24 := by have z : i 30 ≤ 24 := k2; omega
  have e3 : mv a 3 r = a 57 (5 * r + 0) := rfl
  have e6 : mv a 6 r = a 57 (5 * r + 3) := rfl
  unfold tuF at hQ
  rw [e3] at t1 t2 hQ
  simp (disch := first | assumption | omega | exact zc_lo | exact zc_hi | exact zz_l | exact zz_u | exact zz_r) only [xa_54, xa_65, xc_2 gc_6_turn_1, xc_2 gc_6_turn_2, xc_2 gc_6_turn_3, xc_2 gc_6_turn_4, xc_3 gc_6_turn_0, xl_aload0, xl_iload1, xm_f, xm_n, xm_t, xn_1, xn_2, xn_3, xn_4, xn_5, xn_6, xn_7, xo_53_0, xo_53_23, xr_i2l, xr_iadd, xr_iconst, xr_idiv, xr_imul, xr_iret, xr_isub, xr_lsub, xr_sw, xtl_n, xtl_s, xw_n, xw_t, xz_i, xz_l, xz_n, xz_r, wb_6_turn_0, wb_6_turn_1, wb_6_turn_2, wb_6_turn_3, wb_6_turn_4, wb_6_turn_5, wb_6_turn_6, wb_6_turn_7, ss_6_turn, zz_b, zz_bn, Classical.not_not, true_and, Nat.reduceAdd, Nat.reduceLeDiff, sp_6_its]
  refine ⟨fun z => ?_, fun z => ?_, fun z => ?_, fun z => ?_, fun z => ?_, fun z => ?_, fun z => ?_, trivial⟩
  · rw [if_neg (by omega), if_neg (by omega), if_neg (by omega), if_neg (by omega), if_neg (by omega), if_neg (by omega)] at hQ
    exact hQ
  · rw [if_pos z] at hQ
    refine sp_6_byEar hcc ho h0 h1 ?_
    simp (disch := first | assumption | omega | exact zc_lo | exact zc_hi | exact zz_l | exact zz_u | exact zz_r) only [xa_54, xa_65, xc_2 gc_6_turn_1, xc_2 gc_6_turn_2, xc_2 gc_6_turn_3, xc_2 gc_6_turn_4, xc_3 gc_6_turn_0, xl_aload0, xl_iload1, xm_f, xm_n, xm_t, xn_1, xn_2, xn_3, xn_4, xn_5, xn_6, xn_7, xo_53_0, xo_53_23, xr_i2l, xr_iadd, xr_iconst, xr_idiv, xr_imul, xr_iret, xr_isub, xr_lsub, xr_sw, xtl_n, xtl_s, xw_n, xw_t, xz_i, xz_l, xz_n, xz_r, wb_6_turn_0, wb_6_turn_1, wb_6_turn_2, wb_6_turn_3, wb_6_turn_4, wb_6_turn_5, wb_6_turn_6, wb_6_turn_7, zz_b, zz_bn, Classical.not_not, true_and, Nat.reduceAdd, Nat.reduceLeDiff]
    exact hQ
  · rw [if_neg (by omega), if_pos (by omega)] at hQ
    refine sp_6_byEye hcc ho h0 h1 ?_
    simp (disch := first | assumption | omega | exact zc_lo | exact zc_hi | exact zz_l | exact zz_u | exact zz_r) only [xa_54, xa_65, xc_2 gc_6_turn_1, xc_2 gc_6_turn_2, xc_2 gc_6_turn_3, xc_2 gc_6_turn_4, xc_3 gc_6_turn_0, xl_aload0, xl_iload1, xm_f, xm_n, xm_t, xn_1, xn_2, xn_3, xn_4, xn_5, xn_6, xn_7, xo_53_0, xo_53_23, xr_i2l, xr_iadd, xr_iconst, xr_idiv, xr_imul, xr_iret, xr_isub, xr_lsub, xr_sw, xtl_n, xtl_s, xw_n, xw_t, xz_i, xz_l, xz_n, xz_r, wb_6_turn_0, wb_6_turn_1, wb_6_turn_2, wb_6_turn_3, wb_6_turn_4, wb_6_turn_5, wb_6_turn_6, wb_6_turn_7, zz_b, zz_bn, Classical.not_not, true_and, Nat.reduceAdd, Nat.reduceLeDiff]
    exact hQ
  · rw [if_neg (by omega), if_neg (by omega), if_pos (by omega), e6] at hQ
    rw [e6] at qm r3 r4
    refine sp_6_byEye hcc ho h0 h1 ?_
    simp (disch := first | assumption | omega | exact zc_lo | exact zc_hi | exact zz_l | exact zz_u | exact zz_r) only [xa_54, xa_65, xc_2 gc_6_turn_1, xc_2 gc_6_turn_2, xc_2 gc_6_turn_3, xc_2 gc_6_turn_4, xc_3 gc_6_turn_0, xl_aload0, xl_iload1, xm_f, xm_n, xm_t, xn_1, xn_2, xn_3, xn_4, xn_5, xn_6, xn_7, xo_53_0, xo_53_23, xr_i2l, xr_iadd, xr_iconst, xr_idiv, xr_imul, xr_iret, xr_isub, xr_lsub, xr_sw, xtl_n, xtl_s, xw_n, xw_t, xz_i, xz_l, xz_n, xz_r, wb_6_turn_0, wb_6_turn_1, wb_6_turn_2, wb_6_turn_3, wb_6_turn_4, wb_6_turn_5, wb_6_turn_6, wb_6_turn_7, zz_b, zz_bn, Classical.not_not, true_and, Nat.reduceAdd, Nat.reduceLeDiff, sp_6_its]
    refine sp_6_byEar hcc ho h0 h1 ?_
    simp (disch := first | assumption | omega | exact zc_lo | exact zc_hi | exact zz_l | exact zz_u | exact zz_r) only [xa_54, xa_65, xc_2 gc_6_turn_1, xc_2 gc_6_turn_2, xc_2 gc_6_turn_3, xc_2 gc_6_turn_4, xc_3 gc_6_turn_0, xl_aload0, xl_iload1, xm_f, xm_n, xm_t, xn_1, xn_2, xn_3, xn_4, xn_5, xn_6, xn_7, xo_53_0, xo_53_23, xr_i2l, xr_iadd, xr_iconst, xr_idiv, xr_imul, xr_iret, xr_isub, xr_lsub, xr_sw, xtl_n, xtl_s, xw_n, xw_t, xz_i, xz_l, xz_n, xz_r, wb_6_turn_0, wb_6_turn_1, wb_6_turn_2, wb_6_turn_3, wb_6_turn_4, wb_6_turn_5, wb_6_turn_6, wb_6_turn_7, zz_b, zz_bn, Classical.not_not, true_and, Nat.reduceAdd, Nat.reduceLeDiff, sp_6_its]
    exact hQ
  · rw [if_neg (by omega), if_neg (by omega), if_neg (by omega), if_pos (by omega)] at hQ
    refine sp_6_byFeet hcc ho h0 h1 ?_
    simp (disch := first | assumption | omega | exact zc_lo | exact zc_hi | exact zz_l | exact zz_u | exact zz_r) only [xa_54, xa_65, xc_2 gc_6_turn_1, xc_2 gc_6_turn_2, xc_2 gc_6_turn_3, xc_2 gc_6_turn_4, xc_3 gc_6_turn_0, xl_aload0, xl_iload1, xm_f, xm_n, xm_t, xn_1, xn_2, xn_3, xn_4, xn_5, xn_6, xn_7, xo_53_0, xo_53_23, xr_i2l, xr_iadd, xr_iconst, xr_idiv, xr_imul, xr_iret, xr_isub, xr_lsub, xr_sw, xtl_n, xtl_s, xw_n, xw_t, xz_i, xz_l, xz_n, xz_r, wb_6_turn_0, wb_6_turn_1, wb_6_turn_2, wb_6_turn_3, wb_6_turn_4, wb_6_turn_5, wb_6_turn_6, wb_6_turn_7, zz_b, zz_bn, Classical.not_not, true_and, Nat.reduceAdd, Nat.reduceLeDiff]
    exact hQ
  · rw [if_neg (by omega), if_neg (by omega), if_neg (by omega), if_neg (by omega), if_pos (by omega)] at hQ
    simp only [mv] at hQ p1 p2 o1 o2
    simp (disch := first | assumption | omega | exact zc_lo | exact zc_hi | exact zz_l | exact zz_u | exact zz_r) only [xa_54, xa_65, xc_2 gc_6_turn_1, xc_2 gc_6_turn_2, xc_2 gc_6_turn_3, xc_2 gc_6_turn_4, xc_3 gc_6_turn_0, xl_aload0, xl_iload1, xm_f, xm_n, xm_t, xn_1, xn_2, xn_3, xn_4, xn_5, xn_6, xn_7, xo_53_0, xo_53_23, xr_i2l, xr_iadd, xr_iconst, xr_idiv, xr_imul, xr_iret, xr_isub, xr_lsub, xr_sw, xtl_n, xtl_s, xw_n, xw_t, xz_i, xz_l, xz_n, xz_r, wb_6_turn_0, wb_6_turn_1, wb_6_turn_2, wb_6_turn_3, wb_6_turn_4, wb_6_turn_5, wb_6_turn_6, wb_6_turn_7, zz_b, zz_bn, Classical.not_not, true_and, Nat.reduceAdd, Nat.reduceLeDiff, sp_6_wrapped]
    exact hQ
  · rw [if_neg (by omega), if_neg (by omega), if_neg (by omega), if_neg (by omega), if_neg (by omega), if_pos (by omega)] at hQ
    exact hQ
/-- rows that the reference's paces use do not belong to its column -/
theorem mv_E {b : Nat → Int → Int} {ks : List Nat} (h : sA ks a b) (hk : ∀ k ∈ ks, k < 54 ∨ 62 ≤ k) : mv b = mv a := by
  have e : ∀ k, 54 ≤ k → k < 62 → b k = a k := fun k h1 h2 => h k (fun z => by have := hk k z; omega)
  unfold mv
  rw [e 54 (by omega) (by omega), e 57 (by omega) (by omega), e 58 (by omega) (by omega), e 59 (by omega) (by omega), e 60 (by omega) (by omega), e 61 (by omega) (by omega)]
theorem sp_6_goes (hc : colN (mv a) (mi i)) (ho : oOK (mv a) (mi i) (a 65)) : (∀ a2, sA [65, 66] a a2 → oE (mi i) (stF (mv a) (mi i) (a 65)) (a2 65) → Q none (HH n xs w a2 i)) → s_6_goes [.inr (.inr 53)] (HH n xs w a i) Q := by
  intro hQ
  have hcc := hc
  obtain ⟨⟨p1, p2⟩, ⟨s1, s2⟩, ⟨v1, v2⟩, ⟨n1, n2⟩, ⟨o1, o2⟩, ⟨d1, d2⟩, ⟨e1, e2⟩, ⟨k1, k2⟩, hr, ⟨m1, m2⟩, hd, ⟨b1, b2⟩, hb, hs, hz⟩ := id hc
  obtain ⟨m, hm⟩ := nat_of k1
  have hm2 : i 30 = m := hm
  have k2 : i 30 ≤ 24 := k2
  have P1 : 100 ≤ a 54 0 := p1
  have P2 : a 54 0 ≤ 2000 := p2
  simp (disch := first | assumption | omega | exact zc_lo | exact zc_hi | exact zz_l | exact zz_u | exact zz_r) only [xa_65, xa_66, xc_2 gc_6_goes_0, xc_2 gc_6_goes_1, xl_aload0, xl_iinc1a, xl_iinc1i, xl_iinc1n, xl_iload1, xl_istore1a, xl_istore1i, xl_istore1n, xm_f, xm_n, xm_t, xn_2, xn_4, xo_53_23, xo_53_24, xo_53_3, xr_goto, xr_i2l, xr_ic_ge, xr_iconst, xr_ladd, xr_vret, xs_65, xs_66, xtl_n, xtl_s, xz_i, xz_l, xz_n, xz_r, wb_6_goes_0, wb_6_goes_2, wb_6_goes_4, ss_6_goes, zz_b, zz_bn, Classical.not_not, true_and, Nat.reduceAdd, Nat.reduceLeDiff]
  refine lp_up (m := m) (P := fun d => ∀ f, (∀ r : Int, 0 ≤ r → r < d → f r = stF (mv a) (mi i) (a 65) r) → dk_WP g_6_goes b_6_goes Q 1 [some (.inr (.inr 53)), some (.inl d)] [] (HH n xs w (dk_up a 66 f) i)) ?_ ?_ 0 (Nat.zero_le _) (a 66) (fun r z1 z2 => by omega) |> (fun q => by
    have e0 : dk_up a 66 (a 66) = a := by
      funext j
      by_cases e : j = 66
      · subst e; rw [up_s]
      · rw [up_n e]
    rw [e0] at q
    exact q)
  · intro f hf
    rw [wb_6_goes_1]
    simp (disch := first | assumption | omega | exact zc_lo | exact zc_hi | exact zz_l | exact zz_u | exact zz_r) only [xa_65, xa_66, xc_2 gc_6_goes_0, xc_2 gc_6_goes_1, xl_aload0, xl_iinc1a, xl_iinc1i, xl_iinc1n, xl_iload1, xl_istore1a, xl_istore1i, xl_istore1n, xm_f, xm_n, xm_t, xn_2, xn_4, xo_53_23, xo_53_24, xo_53_3, xr_goto, xr_i2l, xr_ic_ge, xr_iconst, xr_ladd, xr_vret, xs_65, xs_66, xtl_n, xtl_s, xz_i, xz_l, xz_n, xz_r, wb_6_goes_0, wb_6_goes_2, wb_6_goes_4, zz_b, zz_bn, Classical.not_not, true_and, Nat.reduceAdd, Nat.reduceLeDiff]
    refine ⟨fun _ => ?_, fun z => by omega⟩
    refine lp_up (m := m) (P := fun d => ∀ a2, sA [65, 66] a a2 → a2 66 = f → (∀ r : Int, 0 ≤ r → r < d → a2 65 r = f r) → dk_WP g_6_goes b_6_goes Q 3 [some (.inr (.inr 53)), some (.inl d)] [] (HH n xs w a2 i)) ?_ ?_ 0 (Nat.zero_le _) _ (sA_up sA_rf (by simp) _) up_s (fun r z1 z2 => by omega)
    · intro a2 hs h66 h65
      rw [wb_6_goes_3]
      simp (disch := first | assumption | omega | exact zc_lo | exact zc_hi | exact zz_l | exact zz_u | exact zz_r) only [xa_65, xa_66, xc_2 gc_6_goes_0, xc_2 gc_6_goes_1, xl_aload0, xl_iinc1a, xl_iinc1i, xl_iinc1n, xl_iload1, xl_istore1a, xl_istore1i, xl_istore1n, xm_f, xm_n, xm_t, xn_2, xn_4, xo_53_23, xo_53_24, xo_53_3, xr_goto, xr_i2l, xr_ic_ge, xr_iconst, xr_ladd, xr_vret, xs_65, xs_66, xtl_n, xtl_s, xz_i, xz_l, xz_n, xz_r, wb_6_goes_0, wb_6_goes_2, wb_6_goes_4, zz_b, zz_bn, Classical.not_not, true_and, Nat.reduceAdd, Nat.reduceLeDiff]
      exact ⟨fun _ => hQ a2 hs (fun r z1 z2 => by rw [h65 r z1 (by omega)]; exact hf r z1 (by omega)), fun z => by omega⟩
    · intro d hdm ih a2 hs h66 h65
      rw [wb_6_goes_3]
      simp (disch := first | assumption | omega | exact zc_lo | exact zc_hi | exact zz_l | exact zz_u | exact zz_r) only [xa_65, xa_66, xc_2 gc_6_goes_0, xc_2 gc_6_goes_1, xl_aload0, xl_iinc1a, xl_iinc1i, xl_iinc1n, xl_iload1, xl_istore1a, xl_istore1i, xl_istore1n, xm_f, xm_n, xm_t, xn_2, xn_4, xo_53_23, xo_53_24, xo_53_3, xr_goto, xr_i2l, xr_ic_ge, xr_iconst, xr_ladd, xr_vret, xs_65, xs_66, xtl_n, xtl_s, xz_i, xz_l, xz_n, xz_r, wb_6_goes_0, wb_6_goes_2, wb_6_goes_4, zz_b, zz_bn, Classical.not_not, true_and, Nat.reduceAdd, Nat.reduceLeDiff]
      rw [cs d]
      refine ⟨fun z => by omega, fun _ => ih _ (sA_up hs (by simp) _) (by rw [up_n (by decide)]; exact h66) (fun r z1 z2 => ?_)⟩
      rw [up_s]
      by_cases e : r = d
      · subst e; rw [ui_s, h66]
      · rw [ui_n e]; exact h65 r z1 (by omega)
  · intro d hdm ih f hf
    have hE : mv (dk_up a 66 f) = mv a := mv_E (sA_up (ks := [66]) sA_rf (by simp) _) (by simp)
    have d0 : (0 : Int) ≤ d := by omega
    have dn : (d : Int) < i 30 := by omega
    have qo := oOK.b hcc ho d0 dn
    have qt := tuF_bd hcc ho d0 dn
    have e65 : dk_up a 66 f 65 = a 65 := up_n (by decide)
    have e54 : dk_up a 66 f 54 = a 54 := up_n (by decide)
    have P3 : 100 ≤ dk_up a 66 f 54 0 := by rw [e54]; exact P1
    have P4 : dk_up a 66 f 54 0 ≤ 2000 := by rw [e54]; exact P2
    rw [wb_6_goes_1]
    simp (disch := first | assumption | omega | exact zc_lo | exact zc_hi | exact zz_l | exact zz_u | exact zz_r) only [xa_65, xa_66, xc_2 gc_6_goes_0, xc_2 gc_6_goes_1, xl_aload0, xl_iinc1a, xl_iinc1i, xl_iinc1n, xl_iload1, xl_istore1a, xl_istore1i, xl_istore1n, xm_f, xm_n, xm_t, xn_2, xn_4, xo_53_23, xo_53_24, xo_53_3, xr_goto, xr_i2l, xr_ic_ge, xr_iconst, xr_ladd, xr_vret, xs_65, xs_66, xtl_n, xtl_s, xz_i, xz_l, xz_n, xz_r, wb_6_goes_0, wb_6_goes_2, wb_6_goes_4, zz_b, zz_bn, Classical.not_not, true_and, Nat.reduceAdd, Nat.reduceLeDiff, e65]
    refine ⟨fun z => by omega, fun _ => ?_⟩
    refine sp_6_turn (by rw [hE]; exact hcc) (by rw [hE, e65]; exact ho) d0 dn ?_
    rw [hE, e65]
    simp (disch := first | assumption | omega | exact zc_lo | exact zc_hi | exact zz_l | exact zz_u | exact zz_r) only [xa_65, xa_66, xc_2 gc_6_goes_0, xc_2 gc_6_goes_1, xl_aload0, xl_iinc1a, xl_iinc1i, xl_iinc1n, xl_iload1, xl_istore1a, xl_istore1i, xl_istore1n, xm_f, xm_n, xm_t, xn_2, xn_4, xo_53_23, xo_53_24, xo_53_3, xr_goto, xr_i2l, xr_ic_ge, xr_iconst, xr_ladd, xr_vret, xs_65, xs_66, xtl_n, xtl_s, xz_i, xz_l, xz_n, xz_r, wb_6_goes_0, wb_6_goes_2, wb_6_goes_4, zz_b, zz_bn, Classical.not_not, true_and, Nat.reduceAdd, Nat.reduceLeDiff, sp_6_wrapped, e54]
    rw [cs d]
    have e3 : dk_up (dk_up a 66 f) 66 (dk_ui (dk_up a 66 f 66) d (wr (a 65 d + tuF (mv a) (mi i) (a 65) d) (a 54 0))) = dk_up a 66 (dk_ui f d (wr (a 65 d + tuF (mv a) (mi i) (a 65) d) (a 54 0))) := by
      rw [up_s]
      funext j
      by_cases e : j = 66
      · subst e; rw [up_s, up_s]
      · rw [up_n e, up_n e, up_n e]
    rw [e3]
    refine ih _ (fun r z1 z2 => ?_)
    by_cases e : r = d
    · subst e; rw [ui_s]; rfl
    · rw [ui_n e]; exact hf r z1 (by omega)
theorem sp_6_beginMarch (hn : 0 ≤ i 30 ∧ i 30 ≤ 24) : (∀ a2, sA [65] a a2 → oE (mi i) (a 58) (a2 65) → Q none (HH n xs w a2 i)) → s_6_beginMarch [.inr (.inr 53)] (HH n xs w a i) Q := by
  intro hQ
  obtain ⟨m, hm⟩ := nat_of hn.1
  have hn2 := hn.2
  simp (disch := first | assumption | omega | exact zc_lo | exact zc_hi | exact zz_l | exact zz_u | exact zz_r) only [xa_58, xa_65, xl_aload0, xl_iinc1a, xl_iinc1i, xl_iinc1n, xl_iload1, xl_istore1a, xl_istore1i, xl_istore1n, xm_f, xm_n, xm_t, xn_2, xo_53_23, xo_53_3, xo_53_5, xr_goto, xr_ic_ge, xr_iconst, xr_vret, xs_58, xs_65, xtl_n, xtl_s, xz_i, xz_l, xz_n, xz_r, wb_6_beginMarch_0, wb_6_beginMarch_2, ss_6_beginMarch, zz_b, zz_bn, Classical.not_not, true_and, Nat.reduceAdd, Nat.reduceLeDiff]
  refine lp_up (m := m) (P := fun d => ∀ a2, sA [65] a a2 → (∀ r : Int, 0 ≤ r → r < d → a2 65 r = a 58 r) → dk_WP g_6_beginMarch b_6_beginMarch Q 1 [some (.inr (.inr 53)), some (.inl d)] [] (HH n xs w a2 i)) ?_ ?_ 0 (Nat.zero_le _) a sA_rf (fun r z1 z2 => by omega)
  · intro a2 hs h65
    rw [wb_6_beginMarch_1]
    simp (disch := first | assumption | omega | exact zc_lo | exact zc_hi | exact zz_l | exact zz_u | exact zz_r) only [xa_58, xa_65, xl_aload0, xl_iinc1a, xl_iinc1i, xl_iinc1n, xl_iload1, xl_istore1a, xl_istore1i, xl_istore1n, xm_f, xm_n, xm_t, xn_2, xo_53_23, xo_53_3, xo_53_5, xr_goto, xr_ic_ge, xr_iconst, xr_vret, xs_58, xs_65, xtl_n, xtl_s, xz_i, xz_l, xz_n, xz_r, wb_6_beginMarch_0, wb_6_beginMarch_2, zz_b, zz_bn, Classical.not_not, true_and, Nat.reduceAdd, Nat.reduceLeDiff]
    exact ⟨fun _ => hQ a2 hs (fun r z1 z2 => h65 r z1 (by have : i 30 = m := hm; have : r < i 30 := z2; omega)), fun z => by omega⟩
  · intro d hdm ih a2 hs h65
    rw [wb_6_beginMarch_1]
    simp (disch := first | assumption | omega | exact zc_lo | exact zc_hi | exact zz_l | exact zz_u | exact zz_r) only [xa_58, xa_65, xl_aload0, xl_iinc1a, xl_iinc1i, xl_iinc1n, xl_iload1, xl_istore1a, xl_istore1i, xl_istore1n, xm_f, xm_n, xm_t, xn_2, xo_53_23, xo_53_3, xo_53_5, xr_goto, xr_ic_ge, xr_iconst, xr_vret, xs_58, xs_65, xtl_n, xtl_s, xz_i, xz_l, xz_n, xz_r, wb_6_beginMarch_0, wb_6_beginMarch_2, zz_b, zz_bn, Classical.not_not, true_and, Nat.reduceAdd, Nat.reduceLeDiff]
    rw [cs d]
    refine ⟨fun z => by omega, fun _ => ih _ (sA_up hs (by simp) _) (fun r z1 z2 => ?_)⟩
    rw [up_s]
    by_cases e : r = d
    · subst e; rw [ui_s, hs 58 (by simp)]
    · rw [ui_n e]; exact h65 r z1 (by omega)
theorem sp_6_goesOn (hc : colN (mv a) (mi i)) (ho : oOK (mv a) (mi i) (a 65)) {N : Nat} (hN : N ≤ 202) : (∀ a2, sA [65, 66] a a2 → oE (mi i) (maF (mv a) (mi i) (a 65) N) (a2 65) → Q none (HH n xs w a2 i)) → s_6_goesOn [.inr (.inr 53), .inl N] (HH n xs w a i) Q := by
  intro hQ
  simp (disch := first | assumption | omega | exact zc_lo | exact zc_hi | exact zz_l | exact zz_u | exact zz_r) only [xc_1 gc_6_goesOn_0, xl_aload0, xl_iinc2a, xl_iinc2i, xl_iinc2n, xl_iload1, xl_iload2, xl_istore2a, xl_istore2i, xl_istore2n, xm_f, xm_n, xm_t, xn_2, xr_goto, xr_ic_ge, xr_iconst, xr_vret, xtl_n, xtl_s, xz_i, xz_l, xz_n, xz_r, wb_6_goesOn_0, wb_6_goesOn_2, ss_6_goesOn, zz_b, zz_bn, Classical.not_not, true_and, Nat.reduceAdd, Nat.reduceLeDiff]
  refine lp_up (m := N) (P := fun d => ∀ a2, sA [65, 66] a a2 → oE (mi i) (maF (mv a) (mi i) (a 65) d) (a2 65) → dk_WP g_6_goesOn b_6_goesOn Q 1 [some (.inr (.inr 53)), some (.inl N), some (.inl d)] [] (HH n xs w a2 i)) ?_ ?_ 0 (Nat.zero_le _) a sA_rf (fun _ _ _ => rfl)
  · intro a2 hs h65
    rw [wb_6_goesOn_1]
    simp (disch := first | assumption | omega | exact zc_lo | exact zc_hi | exact zz_l | exact zz_u | exact zz_r) only [xc_1 gc_6_goesOn_0, xl_aload0, xl_iinc2a, xl_iinc2i, xl_iinc2n, xl_iload1, xl_iload2, xl_istore2a, xl_istore2i, xl_istore2n, xm_f, xm_n, xm_t, xn_2, xr_goto, xr_ic_ge, xr_iconst, xr_vret, xtl_n, xtl_s, xz_i, xz_l, xz_n, xz_r, wb_6_goesOn_0, wb_6_goesOn_2, zz_b, zz_bn, Classical.not_not, true_and, Nat.reduceAdd, Nat.reduceLeDiff]
    exact ⟨fun _ => hQ a2 hs h65, fun z => by omega⟩
  · intro d hdm ih a2 hs h65
    have hE := mv_E hs (by simp)
    rw [wb_6_goesOn_1]
    simp (disch := first | assumption | omega | exact zc_lo | exact zc_hi | exact zz_l | exact zz_u | exact zz_r) only [xc_1 gc_6_goesOn_0, xl_aload0, xl_iinc2a, xl_iinc2i, xl_iinc2n, xl_iload1, xl_iload2, xl_istore2a, xl_istore2i, xl_istore2n, xm_f, xm_n, xm_t, xn_2, xr_goto, xr_ic_ge, xr_iconst, xr_vret, xtl_n, xtl_s, xz_i, xz_l, xz_n, xz_r, wb_6_goesOn_0, wb_6_goesOn_2, zz_b, zz_bn, Classical.not_not, true_and, Nat.reduceAdd, Nat.reduceLeDiff]
    refine ⟨fun z => by omega, fun _ => ?_⟩
    refine sp_6_goes (by rw [hE]; exact hc) (by rw [hE]; exact oOK_o h65 (maF_ok hc ho d)) (fun a3 hs3 h3 => ?_)
    rw [hE] at h3
    simp (disch := first | assumption | omega | exact zc_lo | exact zc_hi | exact zz_l | exact zz_u | exact zz_r) only [xc_1 gc_6_goesOn_0, xl_aload0, xl_iinc2a, xl_iinc2i, xl_iinc2n, xl_iload1, xl_iload2, xl_istore2a, xl_istore2i, xl_istore2n, xm_f, xm_n, xm_t, xn_2, xr_goto, xr_ic_ge, xr_iconst, xr_vret, xtl_n, xtl_s, xz_i, xz_l, xz_n, xz_r, wb_6_goesOn_0, wb_6_goesOn_2, zz_b, zz_bn, Classical.not_not, true_and, Nat.reduceAdd, Nat.reduceLeDiff]
    rw [cs d]
    exact ih a3 (sA_tr hs hs3) (fun r z1 z2 => (h3 r z1 z2).trans (stF_o h65 r z1 z2))
/-- WORST among the first ranks -/
def woF (o : Int → Int) : Nat → Int
  | 0 => 0
  | r + 1 => mx (woF o r) (ab (o r))
theorem woF_bd {o : Int → Int} {B : Int} (hB : 0 ≤ B) : ∀ (m : Nat), (∀ r : Int, 0 ≤ r → r < m → -B ≤ o r ∧ o r ≤ B) → 0 ≤ woF o m ∧ woF o m ≤ B
  | 0, _ => by simp only [woF]; omega
  | m + 1, h => by
    have q := woF_bd hB m (fun r h0 h1 => h r h0 (by omega))
    have q2 := h m (by omega) (by omega)
    have q3 := ab_bd q2.1 q2.2
    unfold woF mx
    split <;> omega
theorem woF_o {o o2 : Int → Int} : ∀ (m : Nat), (∀ r : Int, 0 ≤ r → r < m → o2 r = o r) → woF o2 m = woF o m
  | 0, _ => rfl
  | m + 1, h => by
    unfold woF
    rw [woF_o m (fun r h0 h1 => h r h0 (by omega)), h m (by omega) (by omega)]
theorem sp_6_worstNow (hn : 0 ≤ i 30 ∧ i 30 ≤ 24) (ho : ∀ r : Int, 0 ≤ r → r < i 30 → -1000 ≤ a 65 r ∧ a 65 r ≤ 1000) : Q (some (.inl (woF (a 65) (i 30).toNat))) (HH n xs w a i) → s_6_worstNow [.inr (.inr 53)] (HH n xs w a i) Q := by
  intro hQ
  obtain ⟨m, hm⟩ := nat_of hn.1
  have hn2 := hn.2
  have hmt : (i 30).toNat = m := by omega
  rw [hmt] at hQ
  simp (disch := first | assumption | omega | exact zc_lo | exact zc_hi | exact zz_l | exact zz_u | exact zz_r) only [xa_65, xc_1 gc_6_worstNow_0, xl_aload0, xl_iinc2a, xl_iinc2i, xl_iinc2n, xl_iload1, xl_iload2, xl_istore1a, xl_istore1i, xl_istore1n, xl_istore2a, xl_istore2i, xl_istore2n, xm_f, xm_n, xm_t, xn_2, xn_4, xo_53_23, xo_53_3, xr_goto, xr_ic_ge, xr_ic_le, xr_iconst, xr_iret, xtl_n, xtl_s, xz_i, xz_l, xz_n, xz_r, wb_6_worstNow_0, wb_6_worstNow_2, wb_6_worstNow_3, wb_6_worstNow_4, ss_6_worstNow, zz_b, zz_bn, Classical.not_not, true_and, Nat.reduceAdd, Nat.reduceLeDiff]
  refine lp_up (m := m) (P := fun d => dk_WP g_6_worstNow b_6_worstNow Q 1 [some (.inr (.inr 53)), some (.inl (woF (a 65) d)), some (.inl d)] [] (HH n xs w a i)) ?_ ?_ 0 (Nat.zero_le _)
  · rw [wb_6_worstNow_1]
    simp (disch := first | assumption | omega | exact zc_lo | exact zc_hi | exact zz_l | exact zz_u | exact zz_r) only [xa_65, xc_1 gc_6_worstNow_0, xl_aload0, xl_iinc2a, xl_iinc2i, xl_iinc2n, xl_iload1, xl_iload2, xl_istore1a, xl_istore1i, xl_istore1n, xl_istore2a, xl_istore2i, xl_istore2n, xm_f, xm_n, xm_t, xn_2, xn_4, xo_53_23, xo_53_3, xr_goto, xr_ic_ge, xr_ic_le, xr_iconst, xr_iret, xtl_n, xtl_s, xz_i, xz_l, xz_n, xz_r, wb_6_worstNow_0, wb_6_worstNow_2, wb_6_worstNow_3, wb_6_worstNow_4, zz_b, zz_bn, Classical.not_not, true_and, Nat.reduceAdd, Nat.reduceLeDiff]
    exact ⟨fun _ => hQ, fun z => by omega⟩
  · intro d hdm ih
    have q := woF_bd (o := a 65) (B := 1000) (by omega) d (fun r h0 h1 => ho r h0 (by omega))
    have q2 := ho d (by omega) (by omega)
    have q3 := ab_bd q2.1 q2.2
    rw [woF, mx] at ih
    rw [wb_6_worstNow_1]
    simp (disch := first | assumption | omega | exact zc_lo | exact zc_hi | exact zz_l | exact zz_u | exact zz_r) only [xa_65, xc_1 gc_6_worstNow_0, xl_aload0, xl_iinc2a, xl_iinc2i, xl_iinc2n, xl_iload1, xl_iload2, xl_istore1a, xl_istore1i, xl_istore1n, xl_istore2a, xl_istore2i, xl_istore2n, xm_f, xm_n, xm_t, xn_2, xn_4, xo_53_23, xo_53_3, xr_goto, xr_ic_ge, xr_ic_le, xr_iconst, xr_iret, xtl_n, xtl_s, xz_i, xz_l, xz_n, xz_r, wb_6_worstNow_0, wb_6_worstNow_2, wb_6_worstNow_3, wb_6_worstNow_4, zz_b, zz_bn, Classical.not_not, true_and, Nat.reduceAdd, Nat.reduceLeDiff, sp_6_size]
    rw [cs d]
    refine ⟨fun z => by omega, fun _ => ⟨fun z => ?_, fun z => ?_⟩⟩
    · rw [if_neg (by omega)] at ih; exact ih
    · rw [if_pos (by omega)] at ih; exact ih
theorem sp_0_worstOf {q0 : Nat} (hn : 0 ≤ i 0 ∧ i 0 ≤ 24) (hq : hh_len q0 = some (0, 24)) (ho : ∀ r : Int, 0 ≤ r → r < i 0 → -1000 ≤ a q0 r ∧ a q0 r ≤ 1000) : Q (some (.inl (woF (a q0) (i 0).toNat))) (HH n xs w a i) → s_0_worstOf [.inr (.inr 1), .inr (.inr q0)] (HH n xs w a i) Q := by
  intro hQ
  obtain ⟨m, hm⟩ := nat_of hn.1
  have hn2 := hn.2
  have hmt : (i 0).toNat = m := by omega
  rw [hmt] at hQ
  simp (disch := first | assumption | omega | exact zc_lo | exact zc_hi | exact zz_l | exact zz_u | exact zz_r) only [xc_1 gc_0_worstOf_0, xc_2 gc_0_worstOf_1, xl_aload0, xl_aload1, xl_iinc3a, xl_iinc3i, xl_iinc3n, xl_iload2, xl_iload3, xl_istore2a, xl_istore2i, xl_istore2n, xl_istore3a, xl_istore3i, xl_istore3n, xm_f, xm_n, xm_t, xn_2, xo_1_1, xr_goto, xr_ic_ge, xr_iconst, xr_iret, xtl_n, xtl_s, xz_i, xz_l, xz_n, xz_r, wb_0_worstOf_0, wb_0_worstOf_2, ss_0_worstOf_1, ss_0_worstOf_14, zz_b, zz_bn, Classical.not_not, true_and, Nat.reduceAdd, Nat.reduceLeDiff]
  refine lp_up (m := m) (P := fun d => dk_WP g_0_worstOf b_0_worstOf Q 1 [some (.inr (.inr 1)), some (.inr (.inr q0)), some (.inl (woF (a q0) d)), some (.inl d)] [] (HH n xs w a i)) ?_ ?_ 0 (Nat.zero_le _)
  · rw [wb_0_worstOf_1]
    simp (disch := first | assumption | omega | exact zc_lo | exact zc_hi | exact zz_l | exact zz_u | exact zz_r) only [xc_1 gc_0_worstOf_0, xc_2 gc_0_worstOf_1, xl_aload0, xl_aload1, xl_iinc3a, xl_iinc3i, xl_iinc3n, xl_iload2, xl_iload3, xl_istore2a, xl_istore2i, xl_istore2n, xl_istore3a, xl_istore3i, xl_istore3n, xm_f, xm_n, xm_t, xn_2, xo_1_1, xr_goto, xr_ic_ge, xr_iconst, xr_iret, xtl_n, xtl_s, xz_i, xz_l, xz_n, xz_r, wb_0_worstOf_0, wb_0_worstOf_2, zz_b, zz_bn, Classical.not_not, true_and, Nat.reduceAdd, Nat.reduceLeDiff]
    exact ⟨fun _ => hQ, fun z => by omega⟩
  · intro d hdm ih
    have q := woF_bd (o := a q0) (B := 1000) (by omega) d (fun r h0 h1 => ho r h0 (by omega))
    have q2 := ho d (by omega) (by omega)
    have q3 := ab_bd q2.1 q2.2
    have d0 : (0 : Int) ≤ d := by omega
    have d24 : (d : Int) < 24 := by omega
    rw [woF] at ih
    rw [wb_0_worstOf_1]
    simp (disch := first | assumption | omega | exact zc_lo | exact zc_hi | exact zz_l | exact zz_u | exact zz_r) only [xc_1 gc_0_worstOf_0, xc_2 gc_0_worstOf_1, xl_aload0, xl_aload1, xl_iinc3a, xl_iinc3i, xl_iinc3n, xl_iload2, xl_iload3, xl_istore2a, xl_istore2i, xl_istore2n, xl_istore3a, xl_istore3i, xl_istore3n, xm_f, xm_n, xm_t, xn_2, xo_1_1, xr_goto, xr_ic_ge, xr_iconst, xr_iret, xtl_n, xtl_s, xz_i, xz_l, xz_n, xz_r, wb_0_worstOf_0, wb_0_worstOf_2, zz_b, zz_bn, Classical.not_not, true_and, Nat.reduceAdd, Nat.reduceLeDiff, sp_8_abs, sp_8_max, xa_w hq d0 d24 (by omega)]
    rw [cs d]
    exact ⟨fun z => by omega, fun _ => ih⟩
theorem sp_6_worstBehind (hc : colN (mv a) (mi i)) {N : Nat} (hN : N ≤ 202) : (∀ a2, sA [65, 66] a a2 → oE (mi i) (maF (mv a) (mi i) (a 58) N) (a2 65) → Q (some (.inl (woF (maF (mv a) (mi i) (a 58) N) (i 30).toNat))) (HH n xs w a2 i)) → s_6_worstBehind [.inr (.inr 53), .inl N] (HH n xs w a i) Q := by
  intro hQ
  have hcc := hc
  obtain ⟨⟨p1, p2⟩, ⟨s1, s2⟩, ⟨v1, v2⟩, ⟨n1, n2⟩, ⟨o1, o2⟩, ⟨d1, d2⟩, ⟨e1, e2⟩, ⟨k1, k2⟩, hr, ⟨m1, m2⟩, hd, ⟨b1, b2⟩, hb, hs, hz⟩ := id hc
  have hn : 0 ≤ i 30 ∧ i 30 ≤ 24 := ⟨k1, k2⟩
  have ho : oOK (mv a) (mi i) (a 58) := fun r h0 h1 => (hr r h0 h1).2.2.2.2.2
  simp (disch := first | assumption | omega | exact zc_lo | exact zc_hi | exact zz_l | exact zz_u | exact zz_r) only [xc_1 gc_6_worstBehind_0, xc_1 gc_6_worstBehind_2, xc_2 gc_6_worstBehind_1, xl_aload0, xl_iload1, xm_f, xm_n, xm_t, xr_iret, xtl_n, xtl_s, xz_i, xz_l, xz_n, xz_r, wb_6_worstBehind_0, ss_6_worstBehind, zz_b, zz_bn, Classical.not_not, true_and, Nat.reduceAdd, Nat.reduceLeDiff]
  refine sp_6_beginMarch hn (fun a2 hs2 h2 => ?_)
  have hE := mv_E hs2 (by simp)
  simp (disch := first | assumption | omega | exact zc_lo | exact zc_hi | exact zz_l | exact zz_u | exact zz_r) only [xc_1 gc_6_worstBehind_0, xc_1 gc_6_worstBehind_2, xc_2 gc_6_worstBehind_1, xl_aload0, xl_iload1, xm_f, xm_n, xm_t, xr_iret, xtl_n, xtl_s, xz_i, xz_l, xz_n, xz_r, wb_6_worstBehind_0, zz_b, zz_bn, Classical.not_not, true_and, Nat.reduceAdd, Nat.reduceLeDiff]
  refine sp_6_goesOn (by rw [hE]; exact hcc) (by rw [hE]; exact oOK_o h2 ho) hN (fun a3 hs3 h3 => ?_)
  have h4 : oE (mi i) (maF (mv a) (mi i) (a 58) N) (a3 65) := fun r z1 z2 => by rw [h3 r z1 z2, hE]; exact maF_o h2 N r z1 z2
  simp (disch := first | assumption | omega | exact zc_lo | exact zc_hi | exact zz_l | exact zz_u | exact zz_r) only [xc_1 gc_6_worstBehind_0, xc_1 gc_6_worstBehind_2, xc_2 gc_6_worstBehind_1, xl_aload0, xl_iload1, xm_f, xm_n, xm_t, xr_iret, xtl_n, xtl_s, xz_i, xz_l, xz_n, xz_r, wb_6_worstBehind_0, zz_b, zz_bn, Classical.not_not, true_and, Nat.reduceAdd, Nat.reduceLeDiff]
  refine sp_6_worstNow hn (fun r z1 z2 => oOK.b hcc (oOK_o h4 (maF_ok hcc ho N)) z1 z2) ?_
  simp (disch := first | assumption | omega | exact zc_lo | exact zc_hi | exact zz_l | exact zz_u | exact zz_r) only [xc_1 gc_6_worstBehind_0, xc_1 gc_6_worstBehind_2, xc_2 gc_6_worstBehind_1, xl_aload0, xl_iload1, xm_f, xm_n, xm_t, xr_iret, xtl_n, xtl_s, xz_i, xz_l, xz_n, xz_r, wb_6_worstBehind_0, zz_b, zz_bn, Classical.not_not, true_and, Nat.reduceAdd, Nat.reduceLeDiff]
  rw [woF_o (i 30).toNat (fun r z1 z2 => h4 r z1 (by have : mi i 0 = i 30 := rfl; omega))]
  exact hQ a3 (sA_tr (sA_w hs2 (by simp)) hs3) h4
end MD
