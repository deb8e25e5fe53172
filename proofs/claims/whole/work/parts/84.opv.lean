/-! CALLS OF BOTH: one who slips -/
def rdF (o1 o2 : Int → Int) : Nat → Int
  | 0 => 0
  | r + 1 => if o1 r = o2 r then rdF o1 o2 r else rdF o1 o2 r + 1
def gdF (o1 o2 : Int → Int) (pc : Int) : Nat → Int
  | 0 => 0
  | r + 1 => mx (gdF o1 o2 pc r) (ab (wr (o2 r - o1 r) pc))
theorem rdF_bd {o1 o2 : Int → Int} : ∀ m : Nat, 0 ≤ rdF o1 o2 m ∧ rdF o1 o2 m ≤ m
  | 0 => by simp only [rdF]; omega
  | m + 1 => by
    have := rdF_bd (o1 := o1) (o2 := o2) m
    unfold rdF
    split <;> omega
theorem gdF_bd {o1 o2 : Int → Int} {pc : Int} (h1 : 100 ≤ pc) (h2 : pc ≤ 2000) : ∀ m : Nat, 0 ≤ gdF o1 o2 pc m ∧ gdF o1 o2 pc m ≤ 1000
  | 0 => by simp only [gdF]; omega
  | m + 1 => by
    have q := gdF_bd (o1 := o1) (o2 := o2) h1 h2 m
    have q2 := wr_2 (o2 m - o1 m) h1 h2
    unfold gdF mx
    split <;> omega
/-- what is out behind a slip -/
def slS (a : Nat → Int → Int) (x v : Int) : Int → Int := dk_ui (a 8) x (wr (a 8 x + v) (a 2 0))
def Jk (a : Nat → Int → Int) (i : Nat → Int) (p q : Int → Int) (s : Int → Int) (t1 t2 : Nat) (w2 : Nat → Nat) (a2 : Nat → Int → Int) (i2 : Nat → Int) : Prop := Wk a i p q t1 w2 a2 i2 ∧ oE i (maF a i s t2) (a2 (w2 2))
def rd (a : Nat → Int → Int) (i : Nat → Int) (s : Int → Int) (k : Nat) : Int := rdF (maF a i (a 8) k) (maF a i s k) (i 0).toNat
def gd (a : Nat → Int → Int) (i : Nat → Int) (s : Int → Int) (k : Nat) : Int := gdF (maF a i (a 8) k) (maF a i s k) (a 2 0) (i 0).toNat
section OV1
variable {N : Int} {n : Nat} {xs : Int → Int} {w : Nat → Nat} {a : Nat → Int → Int} {i : Nat → Int} {Q : dk_Q} {p q : Int → Int} {w2 : Nat → Nat} {a2 : Nat → Int → Int} {i2 : Nat → Int} {t t1 t2 : Nat} {s : Int → Int}
theorem slS_ok (hc : colN a i) {x v : Int} : oOK a i (slS a x v) := fun r z1 z2 => by
  have p1 := hc.1.1
  unfold slS
  by_cases e : r = x
  · subst e; rw [ui_s]; exact wr_bd _ (by omega)
  · rw [ui_n e]; exact oOK_8 hc r z1 z2
theorem ms_b (hc : colN a i) (hs : oOK a i s) {t : Nat} {r : Int} (h0 : 0 ≤ r) (h1 : r < i 0) : -1000 ≤ maF a i s t r ∧ maF a i s t r ≤ 1000 := oOK.b hc (maF_ok hc hs t) h0 h1
theorem rd_b (hc : colN a i) (k : Nat) : 0 ≤ rd a i s k ∧ rd a i s k ≤ 24 := by
  have h := k24 hc
  have q := rdF_bd (o1 := maF a i (a 8) k) (o2 := maF a i s k) (i 0).toNat
  unfold rd
  omega
theorem gd_b (hc : colN a i) (k : Nat) : 0 ≤ gd a i s k ∧ gd a i s k ≤ 1000 := gdF_bd hc.1.1 hc.1.2 _
theorem wq {w : Nat → Nat} (hw : wQ w) : hh_len (w 2) = some (0, 24) ∧ (48 ≤ w 2 ∧ w 2 ≤ 49) ∧ (48 ≤ w 3 ∧ w 3 ≤ 49) ∧ ¬ w 2 = w 3 := by
  rcases hw with ⟨h1, h2⟩ | ⟨h1, h2⟩ <;> rw [h1, h2] <;> exact ⟨rfl, by omega, by omega, by omega⟩
theorem Jk_44 (hJ : Jk a i p q s t1 t2 w2 a2 i2) {w3 : Nat → Nat} {a3 : Nat → Int → Int} {t3 : Nat} (hW : Wk a i p q t3 w3 a3 i2) (hs : sA [45, 46] a2 a3) (hw : w3 2 = w2 2 ∧ w3 3 = w2 3) : Jk a i p q s t3 t2 w3 a3 i2 := by
  refine ⟨hW, ?_⟩
  have q := wq hJ.1.1.2.1
  rw [hw.1, hs (w2 2) (by simp only [List.mem_cons, List.not_mem_nil, or_false]; omega)]
  exact hJ.2
theorem SP_fs {a3 : Nat → Int → Int} (hs : sA [48, 49] a2 a3) (hSP : SP a2 i2 a2 i2) : SP a3 i2 a3 i2 := SP_E (cE_of hs (by decide)) (fun _ _ => rfl) (SP_s (hs _ (by decide)) (hs _ (by decide)) (hs _ (by decide)) (hs _ (by decide)) hSP)
theorem wp45 {w : Nat → Nat} (hw : wP w) : 45 ≤ w 0 ∧ w 0 ≤ 46 := by
  rcases hw with ⟨h1, h2⟩ | ⟨h1, h2⟩ <;> omega
theorem sp_stp7 (hc : colN a i) (ho : oOK a i s) (hJ : Jk a i p q s t1 t2 w2 a2 i2) : (∀ w3 a3 x, Jk a i p q s t1 (t2 + 1) w3 a3 i2 → Q (some (.inl x)) (HH n xs w3 a3 i2)) → s_4_step [.inr (.inr 47)] (HH n xs w2 a2 i2) Q := by
  intro hQ
  obtain ⟨hW, hoe⟩ := hJ
  obtain ⟨hc2, -, K0⟩ := Wk_ok hc hW
  obtain ⟨hF, hSP, hoe1⟩ := hW
  have hE := Fr_cE hF
  have hkE := Fr_kE hF
  have ho2 : oOK a2 i2 (a2 (w2 2)) := oOK_E hE hkE (oOK_o hoe (maF_ok hc ho t2))
  refine sp_4_step_47 hc2 hSP hF.2.1 ho2 (fun f hf => ?_)
  have hf2 : oE i (maF a i s (t2 + 1)) f := fun r h0 h1 => by
    rw [hf r h0 (by rw [K0]; exact h1), stF_E hE hkE]
    exact stF_o hoe r h0 h1
  have q := wq hF.2.1
  have q5 := wp45 hF.1
  have hin : w2 3 ∈ [48, 49] := by simp only [List.mem_cons, List.not_mem_nil, or_false]; omega
  have hs3 : sA [48, 49] a2 (dk_up a2 (w2 3) f) := sA_up sA_rf hin _
  have e0 : dk_up (dk_up w2 2 (w2 3)) 3 (w2 2) 0 = w2 0 := by rw [up_n (by decide), up_n (by decide)]
  have e1 : dk_up (dk_up w2 2 (w2 3)) 3 (w2 2) 1 = w2 1 := by rw [up_n (by decide), up_n (by decide)]
  have hwP : wP (dk_up (dk_up w2 2 (w2 3)) 3 (w2 2)) := by
    unfold wP
    rw [e0, e1]
    exact hF.1
  have hwQ : wQ (dk_up (dk_up w2 2 (w2 3)) 3 (w2 2)) := by
    rcases hF.2.1 with ⟨h1, h2⟩ | ⟨h1, h2⟩
    · exact Or.inr ⟨by rw [up_n (by decide), up_s, h2], by rw [up_s, h1]⟩
    · exact Or.inl ⟨by rw [up_n (by decide), up_s, h2], by rw [up_s, h1]⟩
  refine hQ _ _ _ ⟨⟨Fr_w (Fr_sA hF hs3 (by decide)) hwP hwQ, SP_fs hs3 hSP, ?_⟩, ?_⟩
  · rw [e0, up_n (by omega)]
    exact hoe1
  · rw [up_n (show ¬ 2 = 3 by decide), up_s, up_s]
    exact hf2
theorem sp_wlk7 (hc : colN a i) (ho : oOK a i s) (hJ : Jk a i p q s t1 0 w2 a2 i2) {M : Nat} (hM : M ≤ 200) : (∀ w3 a3, Jk a i p q s t1 M w3 a3 i2 → Q none (HH n xs w3 a3 i2)) → s_4_walk [.inr (.inr 47), .inl M] (HH n xs w2 a2 i2) Q := by
  intro hQ
  obtain ⟨hW, hoe⟩ := hJ
  obtain ⟨hc2, -, K0⟩ := Wk_ok hc hW
  obtain ⟨hF, hSP, hoe1⟩ := hW
  have hE := Fr_cE hF
  have hkE := Fr_kE hF
  have ho2 : oOK a2 i2 (a2 (w2 2)) := oOK_E hE hkE (oOK_o hoe (maF_ok hc ho 0))
  refine sp_4_walk_47 hc2 hSP hF.2.1 ho2 hM (fun w3 a3 hw3 hww hs3 hoe3 => ?_)
  have e0 := hww 0 (by omega) (by omega)
  have e1 := hww 1 (by omega) (by omega)
  have q5 := wp45 hF.1
  have hwP : wP w3 := by
    unfold wP
    rw [e0, e1]
    exact hF.1
  refine hQ w3 a3 ⟨⟨Fr_w (Fr_sA hF hs3 (by decide)) hwP hw3, SP_fs hs3 hSP, ?_⟩, fun r z1 z2 => ?_⟩
  · rw [e0, hs3 (w2 0) (by simp only [List.mem_cons, List.not_mem_nil, or_false]; omega)]
    exact hoe1
  · rw [hoe3 r z1 (by rw [K0]; exact z2), maF_E hE hkE]
    exact maF_o hoe M r z1 z2
theorem sp_5_ranksThatDiffer (hc : colN a i) (ho : oOK a i s) (hJ : Jk a i p q s t t w2 a2 i2) : Q (some (.inl (rd a i s t))) (HH n xs w2 a2 i2) → s_5_ranksThatDiffer [.inr (.inr 0)] (HH n xs w2 a2 i2) Q := by
  intro hQ
  obtain ⟨hW, hoe⟩ := hJ
  have hk := k24 hc
  obtain ⟨m, hm⟩ := nat_of hk.1
  have hmt : (i 0).toNat = m := by omega
  have K0 := Fr_kE hW.1 0 (by omega)
  unfold rd at hQ
  rw [hmt] at hQ
  simp (disch := first | assumption | omega | exact zc_lo | exact zc_hi | exact zz_l | exact zz_u | exact zz_r) only [xl_aload0, xl_iinc1a, xl_iinc1i, xl_iinc1n, xl_iinc2a, xl_iinc2i, xl_iinc2n, xl_iload1, xl_iload2, xl_istore1a, xl_istore1i, xl_istore1n, xl_istore2a, xl_istore2i, xl_istore2n, xm_f, xm_n, xm_t, xn_2, xn_3, xo_0_0, xo_0_6, xo_0_7, xo_1_1, xo_44_2, xo_47_2, xr_goto, xr_ic_eq, xr_ic_ge, xr_iconst, xr_iret, xtl_n, xtl_s, xz_i, xz_l, xz_n, xz_r, wb_5_ranksThatDiffer_0, wb_5_ranksThatDiffer_2, wb_5_ranksThatDiffer_3, ss_5_ranksThatDiffer, zz_b, zz_bn, Classical.not_not, true_and, Nat.reduceAdd, Nat.reduceLeDiff, true_implies, false_implies, implies_true, not_true_eq_false, not_false_eq_true, and_true, false_and, and_false, if_true, if_false, Int.reduceEq, Int.reduceSub, Int.reduceAdd, Int.reduceMul, Int.reduceNeg, Int.reduceLT, Int.reduceLE, Int.add_zero]
  refine lp_up (m := m) (P := fun d => dk_WP g_5_ranksThatDiffer b_5_ranksThatDiffer Q 1 [some (.inr (.inr 0)), some (.inl (rdF (maF a i (a 8) t) (maF a i s t) d)), some (.inl d)] [] (HH n xs w2 a2 i2)) ?_ ?_ 0 (Nat.zero_le _)
  · rw [wb_5_ranksThatDiffer_1]
    simp (disch := first | assumption | omega | exact zc_lo | exact zc_hi | exact zz_l | exact zz_u | exact zz_r) only [xl_aload0, xl_iinc1a, xl_iinc1i, xl_iinc1n, xl_iinc2a, xl_iinc2i, xl_iinc2n, xl_iload1, xl_iload2, xl_istore1a, xl_istore1i, xl_istore1n, xl_istore2a, xl_istore2i, xl_istore2n, xm_f, xm_n, xm_t, xn_2, xn_3, xo_0_0, xo_0_6, xo_0_7, xo_1_1, xo_44_2, xo_47_2, xr_goto, xr_ic_eq, xr_ic_ge, xr_iconst, xr_iret, xtl_n, xtl_s, xz_i, xz_l, xz_n, xz_r, wb_5_ranksThatDiffer_0, wb_5_ranksThatDiffer_2, wb_5_ranksThatDiffer_3, zz_b, zz_bn, Classical.not_not, true_and, Nat.reduceAdd, Nat.reduceLeDiff, K0]
    exact ⟨fun _ => hQ, fun z => absurd (by omega) z⟩
  · intro d hdm ih
    have d0 : (0 : Int) ≤ d := by omega
    have d24 : (d : Int) < 24 := by omega
    have e1 := hW.2.2 d (by omega) (by omega)
    have e2 := hoe d (by omega) (by omega)
    have b1 := ma_b hc (t := t) (r := d) (by omega) (by omega)
    have b2 := ms_b hc ho (t := t) (r := d) (by omega) (by omega)
    rw [show rdF (maF a i (a 8) t) (maF a i s t) (d + 1) = if maF a i (a 8) t d = maF a i s t d then rdF (maF a i (a 8) t) (maF a i s t) d else rdF (maF a i (a 8) t) (maF a i s t) d + 1 from rfl] at ih
    rw [wb_5_ranksThatDiffer_1]
    simp (disch := first | assumption | omega | exact zc_lo | exact zc_hi | exact zz_l | exact zz_u | exact zz_r) only [xl_aload0, xl_iinc1a, xl_iinc1i, xl_iinc1n, xl_iinc2a, xl_iinc2i, xl_iinc2n, xl_iload1, xl_iload2, xl_istore1a, xl_istore1i, xl_istore1n, xl_istore2a, xl_istore2i, xl_istore2n, xm_f, xm_n, xm_t, xn_2, xn_3, xo_0_0, xo_0_6, xo_0_7, xo_1_1, xo_44_2, xo_47_2, xr_goto, xr_ic_eq, xr_ic_ge, xr_iconst, xr_iret, xtl_n, xtl_s, xz_i, xz_l, xz_n, xz_r, wb_5_ranksThatDiffer_0, wb_5_ranksThatDiffer_2, wb_5_ranksThatDiffer_3, zz_b, zz_bn, Classical.not_not, true_and, Nat.reduceAdd, Nat.reduceLeDiff, K0, xa_w (wl hW.1.1) d0 d24 (by omega), xa_w (wq hW.1.2.1).1 d0 d24 (by omega), e1, e2]
    rw [cs d]
    refine ⟨fun z => absurd z (by omega), fun _ => ⟨fun z => ?_, fun z => ?_⟩⟩
    · rw [if_pos z] at ih; exact ih
    · rw [if_neg z] at ih; exact ih
theorem sp_5_greatestDifference (hc : colN a i) (ho : oOK a i s) (hJ : Jk a i p q s t t w2 a2 i2) : Q (some (.inl (gd a i s t))) (HH n xs w2 a2 i2) → s_5_greatestDifference [.inr (.inr 0)] (HH n xs w2 a2 i2) Q := by
  intro hQ
  obtain ⟨hW, hoe⟩ := hJ
  have hk := k24 hc
  obtain ⟨m, hm⟩ := nat_of hk.1
  have hmt : (i 0).toNat = m := by omega
  have K0 := Fr_kE hW.1 0 (by omega)
  have E2 := Fr_cE hW.1 2 (by omega) (by omega)
  have p1 := hc.1.1
  have p2 := hc.1.2
  have P1 : 100 ≤ a2 2 0 := by rw [E2]; exact p1
  have P2 : a2 2 0 ≤ 2000 := by rw [E2]; exact p2
  unfold gd at hQ
  rw [hmt] at hQ
  simp (disch := first | assumption | omega | exact zc_lo | exact zc_hi | exact zz_l | exact zz_u | exact zz_r) only [xc_1 gc_5_greatestDifference_1, xc_2 gc_5_greatestDifference_0, xc_2 gc_5_greatestDifference_2, xl_aload0, xl_iinc2a, xl_iinc2i, xl_iinc2n, xl_iload1, xl_iload2, xl_iload3, xl_istore1a, xl_istore1i, xl_istore1n, xl_istore2a, xl_istore2i, xl_istore2n, xl_istore3a, xl_istore3i, xl_istore3n, xm_f, xm_n, xm_t, xn_2, xo_0_0, xo_0_6, xo_0_7, xo_1_1, xo_44_2, xo_47_2, xr_goto, xr_ic_ge, xr_iconst, xr_iret, xr_isub, xtl_n, xtl_s, xz_i, xz_l, xz_n, xz_r, wb_5_greatestDifference_0, wb_5_greatestDifference_2, ss_5_greatestDifference, zz_b, zz_bn, Classical.not_not, true_and, Nat.reduceAdd, Nat.reduceLeDiff, true_implies, false_implies, implies_true, not_true_eq_false, not_false_eq_true, and_true, false_and, and_false, if_true, if_false, Int.reduceEq, Int.reduceSub, Int.reduceAdd, Int.reduceMul, Int.reduceNeg, Int.reduceLT, Int.reduceLE, Int.add_zero]
  refine lp_up (m := m) (P := fun d => ∀ l3, dk_WP g_5_greatestDifference b_5_greatestDifference Q 1 [some (.inr (.inr 0)), some (.inl (gdF (maF a i (a 8) t) (maF a i s t) (a 2 0) d)), some (.inl d), l3] [] (HH n xs w2 a2 i2)) ?_ ?_ 0 (Nat.zero_le _) none
  · intro l3
    rw [wb_5_greatestDifference_1]
    simp (disch := first | assumption | omega | exact zc_lo | exact zc_hi | exact zz_l | exact zz_u | exact zz_r) only [xc_1 gc_5_greatestDifference_1, xc_2 gc_5_greatestDifference_0, xc_2 gc_5_greatestDifference_2, xl_aload0, xl_iinc2a, xl_iinc2i, xl_iinc2n, xl_iload1, xl_iload2, xl_iload3, xl_istore1a, xl_istore1i, xl_istore1n, xl_istore2a, xl_istore2i, xl_istore2n, xl_istore3a, xl_istore3i, xl_istore3n, xm_f, xm_n, xm_t, xn_2, xo_0_0, xo_0_6, xo_0_7, xo_1_1, xo_44_2, xo_47_2, xr_goto, xr_ic_ge, xr_iconst, xr_iret, xr_isub, xtl_n, xtl_s, xz_i, xz_l, xz_n, xz_r, wb_5_greatestDifference_0, wb_5_greatestDifference_2, zz_b, zz_bn, Classical.not_not, true_and, Nat.reduceAdd, Nat.reduceLeDiff, K0]
    exact ⟨fun _ => hQ, fun z => absurd (by omega) z⟩
  · intro d hdm ih l3
    have d0 : (0 : Int) ≤ d := by omega
    have d24 : (d : Int) < 24 := by omega
    have e1 := hW.2.2 d (by omega) (by omega)
    have e2 := hoe d (by omega) (by omega)
    have b1 := ma_b hc (t := t) (r := d) (by omega) (by omega)
    have b2 := ms_b hc ho (t := t) (r := d) (by omega) (by omega)
    have b3 := gdF_bd (o1 := maF a i (a 8) t) (o2 := maF a i s t) p1 p2 d
    have b4 := wr_2 (maF a i s t d - maF a i (a 8) t d) p1 p2
    have b5 := wr_bd (maF a i s t d - maF a i (a 8) t d) (show 0 < a 2 0 by omega)
    have ih := ih
    rw [gdF] at ih
    rw [wb_5_greatestDifference_1]
    simp (disch := first | assumption | omega | exact zc_lo | exact zc_hi | exact zz_l | exact zz_u | exact zz_r) only [xc_1 gc_5_greatestDifference_1, xc_2 gc_5_greatestDifference_0, xc_2 gc_5_greatestDifference_2, xl_aload0, xl_iinc2a, xl_iinc2i, xl_iinc2n, xl_iload1, xl_iload2, xl_iload3, xl_istore1a, xl_istore1i, xl_istore1n, xl_istore2a, xl_istore2i, xl_istore2n, xl_istore3a, xl_istore3i, xl_istore3n, xm_f, xm_n, xm_t, xn_2, xo_0_0, xo_0_6, xo_0_7, xo_1_1, xo_44_2, xo_47_2, xr_goto, xr_ic_ge, xr_iconst, xr_iret, xr_isub, xtl_n, xtl_s, xz_i, xz_l, xz_n, xz_r, wb_5_greatestDifference_0, wb_5_greatestDifference_2, zz_b, zz_bn, Classical.not_not, true_and, Nat.reduceAdd, Nat.reduceLeDiff, K0, xa_w (wl hW.1.1) d0 d24 (by omega), xa_w (wq hW.1.2.1).1 d0 d24 (by omega), e1, e2, sp_0_wrap, sp_8_abs, sp_8_max, E2]
    rw [cs d]
    exact ⟨fun z => absurd z (by omega), fun _ => ih _⟩
theorem sp_5_pacesUntilAlike (hc : colN a i) (ho : oOK a i s) (hJ : Jk a i p q s 0 0 w2 a2 i2) {M : Nat} (hM : M ≤ 99) : (∀ w3 a3 (e : Nat), Fr a i p q w3 a3 i2 → e ≤ M → rd a i s e = 0 → (∀ j : Nat, j < e → ¬ rd a i s j = 0) → Q (some (.inl e)) (HH n xs w3 a3 i2)) → ((∀ j : Nat, j ≤ M → ¬ rd a i s j = 0) → ∀ w3 a3, Fr a i p q w3 a3 i2 → Q (some (.inl (-1))) (HH n xs w3 a3 i2)) → s_5_pacesUntilAlike [.inr (.inr 0), .inl M] (HH n xs w2 a2 i2) Q := by
  intro hQ hQ2
  simp (disch := first | assumption | omega | exact zc_lo | exact zc_hi | exact zz_l | exact zz_u | exact zz_r) only [xc_1 gc_5_pacesUntilAlike_0, xc_1 gc_5_pacesUntilAlike_1, xl_aload0, xl_iinc2a, xl_iinc2i, xl_iinc2n, xl_iload1, xl_iload2, xl_istore2a, xl_istore2i, xl_istore2n, xm_f, xm_n, xm_t, xn_2, xn_3, xo_0_6, xo_0_7, xr_goto, xr_ic_gt, xr_iconst, xr_if_ne, xr_iret, xr_pop, xtl_n, xtl_s, xz_i, xz_l, xz_n, xz_r, wb_5_pacesUntilAlike_0, wb_5_pacesUntilAlike_2, wb_5_pacesUntilAlike_3, ss_5_pacesUntilAlike, zz_b, zz_bn, Classical.not_not, true_and, Nat.reduceAdd, Nat.reduceLeDiff, true_implies, false_implies, implies_true, not_true_eq_false, not_false_eq_true, and_true, false_and, and_false, if_true, if_false, Int.reduceEq, Int.reduceSub, Int.reduceAdd, Int.reduceMul, Int.reduceNeg, Int.reduceLT, Int.reduceLE, Int.add_zero]
  refine lp_up (m := M + 1) (P := fun d => ∀ w4 a4, Jk a i p q s d d w4 a4 i2 → (∀ j : Nat, j < d → ¬ rd a i s j = 0) → dk_WP g_5_pacesUntilAlike b_5_pacesUntilAlike Q 1 [some (.inr (.inr 0)), some (.inl M), some (.inl d)] [] (HH n xs w4 a4 i2)) ?_ ?_ 0 (Nat.zero_le _) w2 a2 hJ (fun j z => absurd z (Nat.not_lt_zero j))
  · intro w4 a4 hJ4 hno
    rw [wb_5_pacesUntilAlike_1]
    simp (disch := first | assumption | omega | exact zc_lo | exact zc_hi | exact zz_l | exact zz_u | exact zz_r) only [xc_1 gc_5_pacesUntilAlike_0, xc_1 gc_5_pacesUntilAlike_1, xl_aload0, xl_iinc2a, xl_iinc2i, xl_iinc2n, xl_iload1, xl_iload2, xl_istore2a, xl_istore2i, xl_istore2n, xm_f, xm_n, xm_t, xn_2, xn_3, xo_0_6, xo_0_7, xr_goto, xr_ic_gt, xr_iconst, xr_if_ne, xr_iret, xr_pop, xtl_n, xtl_s, xz_i, xz_l, xz_n, xz_r, wb_5_pacesUntilAlike_0, wb_5_pacesUntilAlike_2, wb_5_pacesUntilAlike_3, zz_b, zz_bn, Classical.not_not, true_and, Nat.reduceAdd, Nat.reduceLeDiff]
    exact ⟨fun _ => hQ2 (fun j hj => hno j (by omega)) w4 a4 hJ4.1.1, fun z => absurd (by omega) z⟩
  · intro d hdm ih w4 a4 hJ4 hno
    have rb := rd_b hc (s := s) d
    rw [wb_5_pacesUntilAlike_1]
    simp (disch := first | assumption | omega | exact zc_lo | exact zc_hi | exact zz_l | exact zz_u | exact zz_r) only [xc_1 gc_5_pacesUntilAlike_0, xc_1 gc_5_pacesUntilAlike_1, xl_aload0, xl_iinc2a, xl_iinc2i, xl_iinc2n, xl_iload1, xl_iload2, xl_istore2a, xl_istore2i, xl_istore2n, xm_f, xm_n, xm_t, xn_2, xn_3, xo_0_6, xo_0_7, xr_goto, xr_ic_gt, xr_iconst, xr_if_ne, xr_iret, xr_pop, xtl_n, xtl_s, xz_i, xz_l, xz_n, xz_r, wb_5_pacesUntilAlike_0, wb_5_pacesUntilAlike_2, wb_5_pacesUntilAlike_3, zz_b, zz_bn, Classical.not_not, true_and, Nat.reduceAdd, Nat.reduceLeDiff]
    refine ⟨fun z => absurd z (by omega), fun _ => ?_⟩
    refine sp_5_ranksThatDiffer hc ho hJ4 ?_
    simp (disch := first | assumption | omega | exact zc_lo | exact zc_hi | exact zz_l | exact zz_u | exact zz_r) only [xc_1 gc_5_pacesUntilAlike_0, xc_1 gc_5_pacesUntilAlike_1, xl_aload0, xl_iinc2a, xl_iinc2i, xl_iinc2n, xl_iload1, xl_iload2, xl_istore2a, xl_istore2i, xl_istore2n, xm_f, xm_n, xm_t, xn_2, xn_3, xo_0_6, xo_0_7, xr_goto, xr_ic_gt, xr_iconst, xr_if_ne, xr_iret, xr_pop, xtl_n, xtl_s, xz_i, xz_l, xz_n, xz_r, wb_5_pacesUntilAlike_0, wb_5_pacesUntilAlike_2, wb_5_pacesUntilAlike_3, zz_b, zz_bn, Classical.not_not, true_and, Nat.reduceAdd, Nat.reduceLeDiff]
    refine ⟨fun z => ?_, fun z => hQ w4 a4 d hJ4.1.1 (by omega) z hno⟩
    refine sp_stp hc hJ4.1 (fun w5 a5 x hW5 hs5 hw5 _ => ?_)
    simp (disch := first | assumption | omega | exact zc_lo | exact zc_hi | exact zz_l | exact zz_u | exact zz_r) only [xc_1 gc_5_pacesUntilAlike_0, xc_1 gc_5_pacesUntilAlike_1, xl_aload0, xl_iinc2a, xl_iinc2i, xl_iinc2n, xl_iload1, xl_iload2, xl_istore2a, xl_istore2i, xl_istore2n, xm_f, xm_n, xm_t, xn_2, xn_3, xo_0_6, xo_0_7, xr_goto, xr_ic_gt, xr_iconst, xr_if_ne, xr_iret, xr_pop, xtl_n, xtl_s, xz_i, xz_l, xz_n, xz_r, wb_5_pacesUntilAlike_0, wb_5_pacesUntilAlike_2, wb_5_pacesUntilAlike_3, zz_b, zz_bn, Classical.not_not, true_and, Nat.reduceAdd, Nat.reduceLeDiff]
    refine sp_stp7 hc ho (Jk_44 hJ4 hW5 hs5 hw5) (fun w6 a6 y hJ6 => ?_)
    simp (disch := first | assumption | omega | exact zc_lo | exact zc_hi | exact zz_l | exact zz_u | exact zz_r) only [xc_1 gc_5_pacesUntilAlike_0, xc_1 gc_5_pacesUntilAlike_1, xl_aload0, xl_iinc2a, xl_iinc2i, xl_iinc2n, xl_iload1, xl_iload2, xl_istore2a, xl_istore2i, xl_istore2n, xm_f, xm_n, xm_t, xn_2, xn_3, xo_0_6, xo_0_7, xr_goto, xr_ic_gt, xr_iconst, xr_if_ne, xr_iret, xr_pop, xtl_n, xtl_s, xz_i, xz_l, xz_n, xz_r, wb_5_pacesUntilAlike_0, wb_5_pacesUntilAlike_2, wb_5_pacesUntilAlike_3, zz_b, zz_bn, Classical.not_not, true_and, Nat.reduceAdd, Nat.reduceLeDiff]
    rw [cs d]
    refine ih w6 a6 hJ6 (fun j hj => ?_)
    by_cases e : j = d
    · subst e; exact z
    · exact hno j (by omega)
theorem cl_slip (hc : colN a i) (hF : Fr a i p q w a i) {x v u : Int} {M : Nat} (c1 : 0 ≤ x ∧ x < i 0) (c2 : -999 ≤ v ∧ v ≤ 999) (hM : M ≤ 99) (c4 : 0 ≤ u ∧ u ≤ 2) : (u = 0 → ∀ w3 a3 i3, Fr a i p q w3 a3 i3 → Q (some (.inl (rd a i (slS a x v) M))) (HH n xs w3 a3 i3)) → (u = 1 → ∀ w3 a3 i3, Fr a i p q w3 a3 i3 → Q (some (.inl (gd a i (slS a x v) M))) (HH n xs w3 a3 i3)) → (u = 2 → ∀ w3 a3 i3 (e : Nat), Fr a i p q w3 a3 i3 → e ≤ M → rd a i (slS a x v) e = 0 → (∀ j : Nat, j < e → ¬ rd a i (slS a x v) j = 0) → Q (some (.inl e)) (HH n xs w3 a3 i3)) → (u = 2 → (∀ j : Nat, j ≤ M → ¬ rd a i (slS a x v) j = 0) → ∀ w3 a3 i3, Fr a i (bm p 3) q w3 a3 i3 → Q (some (.inl (-1000001 - 3))) (HH n xs w3 a3 i3)) → s_5_slip [.inr (.inr 0), .inl x, .inl v, .inl M, .inl u] (HH n xs w a i) Q := by
  intro hQ0 hQ1 hQ2 hQ3
  have c3 : (0 : Int) ≤ M ∧ (M : Int) ≤ 99 := by omega
  have ho := slS_ok hc (x := x) (v := v)
  have hk := k24 hc
  have x24 : x < 24 := by omega
  have x0 := c1.1
  have p1 := hc.1.1
  have p2 := hc.1.2
  have b8 := oOK.b hc (oOK_8 hc) c1.1 c1.2
  simp (disch := first | assumption | omega | exact zc_lo | exact zc_hi | exact zz_l | exact zz_u | exact zz_r) only [xc_1 gc_5_slip_3, xc_1 gc_5_slip_4, xc_1 gc_5_slip_8, xc_1 gc_5_slip_9, xc_2 gc_5_slip_0, xc_2 gc_5_slip_2, xc_2 gc_5_slip_5, xc_2 gc_5_slip_6, xc_2 gc_5_slip_7, xc_3 gc_5_slip_1, xl_aload0, xl_iload1, xl_iload2, xl_iload3, xl_iload4, xl_iload5, xl_istore5a, xl_istore5i, xl_istore5n, xm_f, xm_n, xm_t, xn_1, xn_2, xn_3, xn_5, xn_6, xo_0_0, xo_0_6, xo_0_7, xo_44_2, xo_47_2, xr_goto, xr_iadd, xr_ic_ne, xr_iconst, xr_if_eq, xr_if_ge, xr_if_ne, xr_iret, xtl_n, xtl_s, xz_i, xz_l, xz_n, xz_r, wb_5_slip_0, wb_5_slip_1, wb_5_slip_2, wb_5_slip_3, wb_5_slip_4, wb_5_slip_5, wb_5_slip_6, wb_5_slip_7, ss_5_slip, zz_b, zz_bn, Classical.not_not, true_and, Nat.reduceAdd, Nat.reduceLeDiff, sp_0_hasRank, sp_5_isWithin, c1, c2, c3, c4, true_implies, false_implies, implies_true, not_true_eq_false, not_false_eq_true, and_true, false_and, and_false, if_true, if_false, Int.reduceEq, Int.reduceSub, Int.reduceAdd, Int.reduceMul, Int.reduceNeg, Int.reduceLT, Int.reduceLE, Int.add_zero]
  refine sp_set hc hF (fun a3 i3 hW hs3 hi3 => ?_)
  simp (disch := first | assumption | omega | exact zc_lo | exact zc_hi | exact zz_l | exact zz_u | exact zz_r) only [xc_1 gc_5_slip_3, xc_1 gc_5_slip_4, xc_1 gc_5_slip_8, xc_1 gc_5_slip_9, xc_2 gc_5_slip_0, xc_2 gc_5_slip_2, xc_2 gc_5_slip_5, xc_2 gc_5_slip_6, xc_2 gc_5_slip_7, xc_3 gc_5_slip_1, xl_aload0, xl_iload1, xl_iload2, xl_iload3, xl_iload4, xl_iload5, xl_istore5a, xl_istore5i, xl_istore5n, xm_f, xm_n, xm_t, xn_1, xn_2, xn_3, xn_5, xn_6, xo_0_0, xo_0_6, xo_0_7, xo_44_2, xo_47_2, xr_goto, xr_iadd, xr_ic_ne, xr_iconst, xr_if_eq, xr_if_ge, xr_if_ne, xr_iret, xtl_n, xtl_s, xz_i, xz_l, xz_n, xz_r, wb_5_slip_0, wb_5_slip_1, wb_5_slip_2, wb_5_slip_3, wb_5_slip_4, wb_5_slip_5, wb_5_slip_6, wb_5_slip_7, zz_b, zz_bn, Classical.not_not, true_and, Nat.reduceAdd, Nat.reduceLeDiff, true_implies, false_implies, implies_true, not_true_eq_false, not_false_eq_true, and_true, false_and, and_false, if_true, if_false, Int.reduceEq, Int.reduceSub, Int.reduceAdd, Int.reduceMul, Int.reduceNeg, Int.reduceLT, Int.reduceLE, Int.add_zero]
  refine sp_4_start_47 hW.1.2.1 (fun f hf => ?_)
  have q2 := wq hW.1.2.1
  have q5 := wp45 hW.1.1
  have ef : f x = a 8 x := by rw [hf x x0 x24, Fr_cE hW.1 8 (by omega) (by omega)]
  have E2 : dk_up a3 (w 2) f 2 = a 2 := by rw [up_n (by omega)]; exact Fr_cE hW.1 2 (by omega) (by omega)
  have P1 : 100 ≤ dk_up a3 (w 2) f 2 0 := by rw [E2]; exact p1
  have P2 : dk_up a3 (w 2) f 2 0 ≤ 2000 := by rw [E2]; exact p2
  simp (disch := first | assumption | omega | exact zc_lo | exact zc_hi | exact zz_l | exact zz_u | exact zz_r) only [xc_1 gc_5_slip_3, xc_1 gc_5_slip_4, xc_1 gc_5_slip_8, xc_1 gc_5_slip_9, xc_2 gc_5_slip_0, xc_2 gc_5_slip_2, xc_2 gc_5_slip_5, xc_2 gc_5_slip_6, xc_2 gc_5_slip_7, xc_3 gc_5_slip_1, xl_aload0, xl_iload1, xl_iload2, xl_iload3, xl_iload4, xl_iload5, xl_istore5a, xl_istore5i, xl_istore5n, xm_f, xm_n, xm_t, xn_1, xn_2, xn_3, xn_5, xn_6, xo_0_0, xo_0_6, xo_0_7, xo_44_2, xo_47_2, xr_goto, xr_iadd, xr_ic_ne, xr_iconst, xr_if_eq, xr_if_ge, xr_if_ne, xr_iret, xtl_n, xtl_s, xz_i, xz_l, xz_n, xz_r, wb_5_slip_0, wb_5_slip_1, wb_5_slip_2, wb_5_slip_3, wb_5_slip_4, wb_5_slip_5, wb_5_slip_6, wb_5_slip_7, zz_b, zz_bn, Classical.not_not, true_and, Nat.reduceAdd, Nat.reduceLeDiff, xa_w q2.1 x0 x24 (by omega), up_s, ef, sp_0_wrap, xs_w q2.1 x0 x24 (by omega), E2, up_up, true_implies, false_implies, implies_true, not_true_eq_false, not_false_eq_true, and_true, false_and, and_false, if_true, if_false, Int.reduceEq, Int.reduceSub, Int.reduceAdd, Int.reduceMul, Int.reduceNeg, Int.reduceLT, Int.reduceLE, Int.add_zero]
  have hin : w 2 ∈ [48, 49] := by simp only [List.mem_cons, List.not_mem_nil, or_false]; omega
  have hs4 : sA [48, 49] a3 (dk_up a3 (w 2) (dk_ui f x (wr (a 8 x + v) (a 2 0)))) := sA_up sA_rf hin _
  have hJ : Jk a i p q (slS a x v) 0 0 w (dk_up a3 (w 2) (dk_ui f x (wr (a 8 x + v) (a 2 0)))) i3 := by
    refine ⟨⟨Fr_sA hW.1 hs4 (by decide), SP_fs hs4 hW.2.1, ?_⟩, fun r z1 z2 => ?_⟩
    · rw [up_n (by omega)]; exact hW.2.2
    · rw [up_s]
      show _ = slS a x v r
      unfold slS
      by_cases e : r = x
      · subst e; rw [ui_s, ui_s]
      · rw [ui_n e, ui_n e, hf r z1 (by omega), Fr_cE hW.1 8 (by omega) (by omega)]
  refine ⟨fun z => ?_, fun z => ?_⟩
  · refine sp_wlk hc hJ.1 (by omega) (fun w5 a5 hW5 hs5 hw5 => ?_)
    simp (disch := first | assumption | omega | exact zc_lo | exact zc_hi | exact zz_l | exact zz_u | exact zz_r) only [xc_1 gc_5_slip_3, xc_1 gc_5_slip_4, xc_1 gc_5_slip_8, xc_1 gc_5_slip_9, xc_2 gc_5_slip_0, xc_2 gc_5_slip_2, xc_2 gc_5_slip_5, xc_2 gc_5_slip_6, xc_2 gc_5_slip_7, xc_3 gc_5_slip_1, xl_aload0, xl_iload1, xl_iload2, xl_iload3, xl_iload4, xl_iload5, xl_istore5a, xl_istore5i, xl_istore5n, xm_f, xm_n, xm_t, xn_1, xn_2, xn_3, xn_5, xn_6, xo_0_0, xo_0_6, xo_0_7, xo_44_2, xo_47_2, xr_goto, xr_iadd, xr_ic_ne, xr_iconst, xr_if_eq, xr_if_ge, xr_if_ne, xr_iret, xtl_n, xtl_s, xz_i, xz_l, xz_n, xz_r, wb_5_slip_0, wb_5_slip_1, wb_5_slip_2, wb_5_slip_3, wb_5_slip_4, wb_5_slip_5, wb_5_slip_6, wb_5_slip_7, zz_b, zz_bn, Classical.not_not, true_and, Nat.reduceAdd, Nat.reduceLeDiff, true_implies, false_implies, implies_true, not_true_eq_false, not_false_eq_true, and_true, false_and, and_false, if_true, if_false, Int.reduceEq, Int.reduceSub, Int.reduceAdd, Int.reduceMul, Int.reduceNeg, Int.reduceLT, Int.reduceLE, Int.add_zero]
    refine sp_wlk7 hc ho (Jk_44 hJ hW5 hs5 hw5) (by omega) (fun w6 a6 hJ6 => ?_)
    simp (disch := first | assumption | omega | exact zc_lo | exact zc_hi | exact zz_l | exact zz_u | exact zz_r) only [xc_1 gc_5_slip_3, xc_1 gc_5_slip_4, xc_1 gc_5_slip_8, xc_1 gc_5_slip_9, xc_2 gc_5_slip_0, xc_2 gc_5_slip_2, xc_2 gc_5_slip_5, xc_2 gc_5_slip_6, xc_2 gc_5_slip_7, xc_3 gc_5_slip_1, xl_aload0, xl_iload1, xl_iload2, xl_iload3, xl_iload4, xl_iload5, xl_istore5a, xl_istore5i, xl_istore5n, xm_f, xm_n, xm_t, xn_1, xn_2, xn_3, xn_5, xn_6, xo_0_0, xo_0_6, xo_0_7, xo_44_2, xo_47_2, xr_goto, xr_iadd, xr_ic_ne, xr_iconst, xr_if_eq, xr_if_ge, xr_if_ne, xr_iret, xtl_n, xtl_s, xz_i, xz_l, xz_n, xz_r, wb_5_slip_0, wb_5_slip_1, wb_5_slip_2, wb_5_slip_3, wb_5_slip_4, wb_5_slip_5, wb_5_slip_6, wb_5_slip_7, zz_b, zz_bn, Classical.not_not, true_and, Nat.reduceAdd, Nat.reduceLeDiff, true_implies, false_implies, implies_true, not_true_eq_false, not_false_eq_true, and_true, false_and, and_false, if_true, if_false, Int.reduceEq, Int.reduceSub, Int.reduceAdd, Int.reduceMul, Int.reduceNeg, Int.reduceLT, Int.reduceLE, Int.add_zero]
    refine ⟨fun z2 => ?_, fun z2 => ?_⟩
    · refine sp_5_greatestDifference hc ho hJ6 ?_
      simp (disch := first | assumption | omega | exact zc_lo | exact zc_hi | exact zz_l | exact zz_u | exact zz_r) only [xc_1 gc_5_slip_3, xc_1 gc_5_slip_4, xc_1 gc_5_slip_8, xc_1 gc_5_slip_9, xc_2 gc_5_slip_0, xc_2 gc_5_slip_2, xc_2 gc_5_slip_5, xc_2 gc_5_slip_6, xc_2 gc_5_slip_7, xc_3 gc_5_slip_1, xl_aload0, xl_iload1, xl_iload2, xl_iload3, xl_iload4, xl_iload5, xl_istore5a, xl_istore5i, xl_istore5n, xm_f, xm_n, xm_t, xn_1, xn_2, xn_3, xn_5, xn_6, xo_0_0, xo_0_6, xo_0_7, xo_44_2, xo_47_2, xr_goto, xr_iadd, xr_ic_ne, xr_iconst, xr_if_eq, xr_if_ge, xr_if_ne, xr_iret, xtl_n, xtl_s, xz_i, xz_l, xz_n, xz_r, wb_5_slip_0, wb_5_slip_1, wb_5_slip_2, wb_5_slip_3, wb_5_slip_4, wb_5_slip_5, wb_5_slip_6, wb_5_slip_7, zz_b, zz_bn, Classical.not_not, true_and, Nat.reduceAdd, Nat.reduceLeDiff, true_implies, false_implies, implies_true, not_true_eq_false, not_false_eq_true, and_true, false_and, and_false, if_true, if_false, Int.reduceEq, Int.reduceSub, Int.reduceAdd, Int.reduceMul, Int.reduceNeg, Int.reduceLT, Int.reduceLE, Int.add_zero]
      exact hQ1 (by omega) w6 a6 i3 hJ6.1.1
    · refine sp_5_ranksThatDiffer hc ho hJ6 ?_
      simp (disch := first | assumption | omega | exact zc_lo | exact zc_hi | exact zz_l | exact zz_u | exact zz_r) only [xc_1 gc_5_slip_3, xc_1 gc_5_slip_4, xc_1 gc_5_slip_8, xc_1 gc_5_slip_9, xc_2 gc_5_slip_0, xc_2 gc_5_slip_2, xc_2 gc_5_slip_5, xc_2 gc_5_slip_6, xc_2 gc_5_slip_7, xc_3 gc_5_slip_1, xl_aload0, xl_iload1, xl_iload2, xl_iload3, xl_iload4, xl_iload5, xl_istore5a, xl_istore5i, xl_istore5n, xm_f, xm_n, xm_t, xn_1, xn_2, xn_3, xn_5, xn_6, xo_0_0, xo_0_6, xo_0_7, xo_44_2, xo_47_2, xr_goto, xr_iadd, xr_ic_ne, xr_iconst, xr_if_eq, xr_if_ge, xr_if_ne, xr_iret, xtl_n, xtl_s, xz_i, xz_l, xz_n, xz_r, wb_5_slip_0, wb_5_slip_1, wb_5_slip_2, wb_5_slip_3, wb_5_slip_4, wb_5_slip_5, wb_5_slip_6, wb_5_slip_7, zz_b, zz_bn, Classical.not_not, true_and, Nat.reduceAdd, Nat.reduceLeDiff, true_implies, false_implies, implies_true, not_true_eq_false, not_false_eq_true, and_true, false_and, and_false, if_true, if_false, Int.reduceEq, Int.reduceSub, Int.reduceAdd, Int.reduceMul, Int.reduceNeg, Int.reduceLT, Int.reduceLE, Int.add_zero]
      exact hQ0 z2 w6 a6 i3 hJ6.1.1
  · refine sp_5_pacesUntilAlike hc ho hJ hM (fun w5 a5 e hF5 he h1 h2 => ?_) (fun hno w5 a5 hF5 => ?_)
    · have e0 : (0 : Int) ≤ e := by omega
      simp (disch := first | assumption | omega | exact zc_lo | exact zc_hi | exact zz_l | exact zz_u | exact zz_r) only [xc_1 gc_5_slip_3, xc_1 gc_5_slip_4, xc_1 gc_5_slip_8, xc_1 gc_5_slip_9, xc_2 gc_5_slip_0, xc_2 gc_5_slip_2, xc_2 gc_5_slip_5, xc_2 gc_5_slip_6, xc_2 gc_5_slip_7, xc_3 gc_5_slip_1, xl_aload0, xl_iload1, xl_iload2, xl_iload3, xl_iload4, xl_iload5, xl_istore5a, xl_istore5i, xl_istore5n, xm_f, xm_n, xm_t, xn_1, xn_2, xn_3, xn_5, xn_6, xo_0_0, xo_0_6, xo_0_7, xo_44_2, xo_47_2, xr_goto, xr_iadd, xr_ic_ne, xr_iconst, xr_if_eq, xr_if_ge, xr_if_ne, xr_iret, xtl_n, xtl_s, xz_i, xz_l, xz_n, xz_r, wb_5_slip_0, wb_5_slip_1, wb_5_slip_2, wb_5_slip_3, wb_5_slip_4, wb_5_slip_5, wb_5_slip_6, wb_5_slip_7, zz_b, zz_bn, Classical.not_not, true_and, Nat.reduceAdd, Nat.reduceLeDiff, e0, true_implies, false_implies, implies_true, not_true_eq_false, not_false_eq_true, and_true, false_and, and_false, if_true, if_false, Int.reduceEq, Int.reduceSub, Int.reduceAdd, Int.reduceMul, Int.reduceNeg, Int.reduceLT, Int.reduceLE, Int.add_zero]
      exact hQ2 z w5 a5 i3 e hF5 he h1 h2
    · simp (disch := first | assumption | omega | exact zc_lo | exact zc_hi | exact zz_l | exact zz_u | exact zz_r) only [xc_1 gc_5_slip_3, xc_1 gc_5_slip_4, xc_1 gc_5_slip_8, xc_1 gc_5_slip_9, xc_2 gc_5_slip_0, xc_2 gc_5_slip_2, xc_2 gc_5_slip_5, xc_2 gc_5_slip_6, xc_2 gc_5_slip_7, xc_3 gc_5_slip_1, xl_aload0, xl_iload1, xl_iload2, xl_iload3, xl_iload4, xl_iload5, xl_istore5a, xl_istore5i, xl_istore5n, xm_f, xm_n, xm_t, xn_1, xn_2, xn_3, xn_5, xn_6, xo_0_0, xo_0_6, xo_0_7, xo_44_2, xo_47_2, xr_goto, xr_iadd, xr_ic_ne, xr_iconst, xr_if_eq, xr_if_ge, xr_if_ne, xr_iret, xtl_n, xtl_s, xz_i, xz_l, xz_n, xz_r, wb_5_slip_0, wb_5_slip_1, wb_5_slip_2, wb_5_slip_3, wb_5_slip_4, wb_5_slip_5, wb_5_slip_6, wb_5_slip_7, zz_b, zz_bn, Classical.not_not, true_and, Nat.reduceAdd, Nat.reduceLeDiff, true_implies, false_implies, implies_true, not_true_eq_false, not_false_eq_true, and_true, false_and, and_false, if_true, if_false, Int.reduceEq, Int.reduceSub, Int.reduceAdd, Int.reduceMul, Int.reduceNeg, Int.reduceLT, Int.reduceLE, Int.add_zero]
      refine sp_fi5 hF5 (by omega) (by omega) (fun a6 hF6 => ?_)
      simp (disch := first | assumption | omega | exact zc_lo | exact zc_hi | exact zz_l | exact zz_u | exact zz_r) only [xc_1 gc_5_slip_3, xc_1 gc_5_slip_4, xc_1 gc_5_slip_8, xc_1 gc_5_slip_9, xc_2 gc_5_slip_0, xc_2 gc_5_slip_2, xc_2 gc_5_slip_5, xc_2 gc_5_slip_6, xc_2 gc_5_slip_7, xc_3 gc_5_slip_1, xl_aload0, xl_iload1, xl_iload2, xl_iload3, xl_iload4, xl_iload5, xl_istore5a, xl_istore5i, xl_istore5n, xm_f, xm_n, xm_t, xn_1, xn_2, xn_3, xn_5, xn_6, xo_0_0, xo_0_6, xo_0_7, xo_44_2, xo_47_2, xr_goto, xr_iadd, xr_ic_ne, xr_iconst, xr_if_eq, xr_if_ge, xr_if_ne, xr_iret, xtl_n, xtl_s, xz_i, xz_l, xz_n, xz_r, wb_5_slip_0, wb_5_slip_1, wb_5_slip_2, wb_5_slip_3, wb_5_slip_4, wb_5_slip_5, wb_5_slip_6, wb_5_slip_7, zz_b, zz_bn, Classical.not_not, true_and, Nat.reduceAdd, Nat.reduceLeDiff, true_implies, false_implies, implies_true, not_true_eq_false, not_false_eq_true, and_true, false_and, and_false, if_true, if_false, Int.reduceEq, Int.reduceSub, Int.reduceAdd, Int.reduceMul, Int.reduceNeg, Int.reduceLT, Int.reduceLE, Int.add_zero]
      exact hQ3 z hno w5 a6 i3 hF6
end OV1
