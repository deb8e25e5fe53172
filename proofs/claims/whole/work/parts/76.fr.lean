/-! FRAMES: what the calls leave as it is, on their way; marches of both within a frame -/
def SD : List Nat := [29, 40, 41, 42, 43, 45, 46, 48, 49, 50, 51, 52, 62, 64, 65, 66, 67, 68, 69, 70, 74, 76]
def bm (f : Int → Int) (k : Int) : Int → Int := dk_ui f k (f k + 1)
def Fr (a : Nat → Int → Int) (i : Nat → Int) (p q : Int → Int) (w2 : Nat → Nat) (a2 : Nat → Int → Int) (i2 : Nat → Int) : Prop := wP w2 ∧ wQ w2 ∧ sA SD a a2 ∧ sI SJ i i2 ∧ a2 52 = p ∧ a2 62 = q
theorem SC_SD : ∀ k ∈ SC, k ∈ SD := by decide
section FR
variable {N : Int} {n : Nat} {xs : Int → Int} {w : Nat → Nat} {a : Nat → Int → Int} {i : Nat → Int} {Q : dk_Q} {p q : Int → Int} {w2 : Nat → Nat} {a2 : Nat → Int → Int} {i2 : Nat → Int} {t : Nat}
theorem Fr_rf (h : Inv N w a i) : Fr a i (a 52) (a 62) w a i := ⟨h.1.1, h.1.2, sA_rf, sI_rf, rfl, rfl⟩
theorem Fr_sA (h : Fr a i p q w2 a2 i2) {a3 : Nat → Int → Int} {ks : List Nat} (hs : sA ks a2 a3) (hk : ∀ k ∈ ks, k ∈ SC) : Fr a i p q w2 a3 i2 := by
  obtain ⟨h1, h2, h3, h4, h5, h6⟩ := h
  refine ⟨h1, h2, sA_tr h3 (sA_w hs (fun k z => SC_SD k (hk k z))), h4, ?_, ?_⟩
  · rw [hs 52 (fun z => absurd (hk 52 z) (by decide))]; exact h5
  · rw [hs 62 (fun z => absurd (hk 62 z) (by decide))]; exact h6
theorem Fr_w (h : Fr a i p q w2 a2 i2) {w3 : Nat → Nat} (h1 : wP w3) (h2 : wQ w3) : Fr a i p q w3 a2 i2 := ⟨h1, h2, h.2.2⟩
theorem Fr_i (h : Fr a i p q w2 a2 i2) {i3 : Nat → Int} {js : List Nat} (hs : sI js i2 i3) (hk : ∀ j ∈ js, j ∈ SJ) : Fr a i p q w2 a2 i3 := ⟨h.1, h.2.1, h.2.2.1, sI_tr h.2.2.2.1 (sI_w hs hk), h.2.2.2.2⟩
theorem Fr_cE (h : Fr a i p q w2 a2 i2) : cE a a2 := fun j z1 z2 => h.2.2.1 j (by intro z; simp only [SD, List.mem_cons, List.not_mem_nil, or_false] at z; omega)
theorem Fr_kE (h : Fr a i p q w2 a2 i2) : kE i i2 := fun j z1 => h.2.2.2.1 j (by intro z; simp only [SJ, List.mem_cons, List.not_mem_nil, or_false] at z; omega)
theorem Fr_mv (h : Fr a i p q w2 a2 i2) : mv a2 = mv a := by
  have hA := h.2.2.1
  unfold mv
  rw [hA 54 (by decide), hA 57 (by decide), hA 58 (by decide), hA 59 (by decide), hA 60 (by decide), hA 61 (by decide)]
theorem Fr_mi (h : Fr a i p q w2 a2 i2) : kE (mi i) (mi i2) := fun j z1 => h.2.2.2.1 (30 + j) (by intro z; simp only [SJ, List.mem_cons, List.not_mem_nil, or_false] at z; omega)
theorem Inv_f (h : Inv N w a i) (hF : Fr a i (a 52) (a 62) w2 a2 i2) : Inv N w2 a2 i2 := by
  obtain ⟨h1, h2, h3, h4, h5, h6⟩ := hF
  refine Inv_scr h h1 h2 (fun k hk => ?_) h4
  by_cases e1 : k = 52
  · subst e1; exact h5
  · by_cases e2 : k = 62
    · subst e2; exact h6
    · refine h3 k (fun z => ?_)
      simp only [SD, SC, List.mem_cons, List.not_mem_nil, or_false] at z hk
      omega
theorem OPQ_f (h : Inv N w a i) (hF : Fr a i (a 52) (a 62) w2 a2 i2) {e : Int} (h1 : -2147483648 ≤ e) (h2 : e ≤ 2147483647) : OPQ n xs N (some (.inl e)) (some (.inl e)) (HH n xs w2 a2 i2) := OPQ_i h1 h2 (Inv_1 (Inv_f h hF))
theorem OPQ_d (h : Inv N w a i) {k : Int} (k1 : 0 ≤ k) (k2 : k < 7) (hF : Fr a i (bm (a 52) k) (bm (a 62) k) w2 a2 i2) : OPQ n xs N (some (.inl (-1000001 - k))) (some (.inl (-1000001 - k))) (HH n xs w2 a2 i2) := by
  obtain ⟨h1, h2, h3, h4, h5, h6⟩ := hF
  have hF2 : Fr a i (a 52) (a 62) w2 (dk_up (dk_up a2 52 (a 52)) 62 (a 62)) i2 := ⟨h1, h2, sA_up (sA_up h3 (by decide) _) (by decide) _, h4, by rw [up_n (by decide), up_s], up_s⟩
  have hI := Inv_fi (Inv_f h hF2) k1 k2
  generalize hb : dk_up (dk_up a2 52 (a 52)) 62 (a 62) = b at hI
  have b52 : b 52 = a 52 := by rw [← hb, up_n (by decide), up_s]
  have b62 : b 62 = a 62 := by rw [← hb, up_s]
  have e : dk_up (dk_up b 52 (dk_ui (b 52) k (b 52 k + 1))) 62 (dk_ui (dk_up b 52 (dk_ui (b 52) k (b 52 k + 1)) 62) k (dk_up b 52 (dk_ui (b 52) k (b 52 k + 1)) 62 k + 1)) = a2 := by
    rw [up_n (show ¬ 62 = 52 by decide), b52, b62]
    funext j
    by_cases e1 : j = 62
    · subst e1; rw [up_s, h6]; rfl
    · rw [up_n e1]
      by_cases e2 : j = 52
      · subst e2; rw [up_s, h5]; rfl
      · rw [up_n e2, ← hb, up_n e1, up_n e2]
  rw [e] at hI
  exact OPQ_i (by omega) (by omega) hI
theorem sp_fi5 (hF : Fr a i p q w2 a2 i2) {k : Int} (k1 : 0 ≤ k) (k2 : k < 7) : (∀ a3, Fr a i (bm p k) q w2 a3 i2 → Q (some (.inl (-1000001 - k))) (HH n xs w2 a3 i2)) → s_5_finding [.inr (.inr 0), .inl k] (HH n xs w2 a2 i2) Q := by
  intro hQ
  rw [sp_5_finding k1 k2]
  refine hQ _ ⟨hF.1, hF.2.1, sA_up hF.2.2.1 (by decide) _, hF.2.2.2.1, ?_, ?_⟩
  · rw [up_s, hF.2.2.2.2.1]; rfl
  · rw [up_n (by decide)]; exact hF.2.2.2.2.2
theorem sp_fi6 (hF : Fr a i p q w2 a2 i2) {k : Int} (k1 : 0 ≤ k) (k2 : k < 7) : (∀ a3, Fr a i p (bm q k) w2 a3 i2 → Q (some (.inl (-1000001 - k))) (HH n xs w2 a3 i2)) → s_6_finds [.inr (.inr 53), .inl k] (HH n xs w2 a2 i2) Q := by
  intro hQ
  rw [sp_6_finds k1 k2]
  refine hQ _ ⟨hF.1, hF.2.1, sA_up hF.2.2.1 (by decide) _, hF.2.2.2.1, ?_, ?_⟩
  · rw [up_n (by decide)]; exact hF.2.2.2.2.1
  · rw [up_s, hF.2.2.2.2.2]; rfl
/-- t paces behind the start: the class, the reference -/
def Wk (a : Nat → Int → Int) (i : Nat → Int) (p q : Int → Int) (t : Nat) (w2 : Nat → Nat) (a2 : Nat → Int → Int) (i2 : Nat → Int) : Prop := Fr a i p q w2 a2 i2 ∧ SP a2 i2 a2 i2 ∧ oE i (maF a i (a 8) t) (a2 (w2 0))
def Mk (a : Nat → Int → Int) (i : Nat → Int) (p q : Int → Int) (t : Nat) (w2 : Nat → Nat) (a2 : Nat → Int → Int) (i2 : Nat → Int) : Prop := Fr a i p q w2 a2 i2 ∧ oE i (maF a i (a 8) t) (a2 65)
def wo (a : Nat → Int → Int) (i : Nat → Int) (t : Nat) : Int := woF (maF a i (a 8) t) (i 0).toNat
theorem wo_b (hc : colN a i) (t : Nat) : 0 ≤ wo a i t ∧ wo a i t ≤ 1000 := woF_b hc t
theorem ma_b (hc : colN a i) {t : Nat} {r : Int} (h0 : 0 ≤ r) (h1 : r < i 0) : -1000 ≤ maF a i (a 8) t r ∧ maF a i (a 8) t r ≤ 1000 := oOK.b hc (maF_ok hc (oOK_8 hc) t) h0 h1
theorem k24 (hc : colN a i) : 0 ≤ i 0 ∧ i 0 ≤ 24 := hc.2.2.2.2.2.2.2.1
theorem sp_set (hc : colN a i) (hF : Fr a i p q w2 a2 i2) : (∀ a3 i3, Wk a i p q 0 w2 a3 i3 → sA PL a2 a3 → sI [24] i2 i3 → Q none (HH n xs w2 a3 i3)) → s_5_setOut [.inr (.inr 0)] (HH n xs w2 a2 i2) Q := by
  intro hQ
  have hk := k24 hc
  refine sp_5_setOut (colN_E (Fr_cE hF) (Fr_kE hF) hc) hF.1 (fun a3 i3 hs hi hSP h8 => ?_)
  refine hQ a3 i3 ⟨Fr_i (Fr_sA hF hs PL_SC) hi (by decide), hSP, fun r z1 z2 => ?_⟩ hs hi
  rw [h8 r z1 (by omega), Fr_cE hF 8 (by omega) (by omega)]
  rfl
theorem Wk_ok (hc : colN a i) (hW : Wk a i p q t w2 a2 i2) : colN a2 i2 ∧ oOK a2 i2 (a2 (w2 0)) ∧ i2 0 = i 0 := ⟨colN_E (Fr_cE hW.1) (Fr_kE hW.1) hc, oOK_E (Fr_cE hW.1) (Fr_kE hW.1) (oOK_o hW.2.2 (maF_ok hc (oOK_8 hc) t)), Fr_kE hW.1 0 (by omega)⟩
theorem SP_fr {a3 : Nat → Int → Int} (hs : sA [45, 46] a2 a3) (hSP : SP a2 i2 a2 i2) : SP a3 i2 a3 i2 := SP_E (cE_of hs (by decide)) (fun _ _ => rfl) (SP_s (hs _ (by decide)) (hs _ (by decide)) (hs _ (by decide)) (hs _ (by decide)) hSP)
theorem sp_stp (hc : colN a i) (hW : Wk a i p q t w2 a2 i2) : (∀ w3 a3 x, Wk a i p q (t + 1) w3 a3 i2 → sA [45, 46] a2 a3 → (w3 2 = w2 2 ∧ w3 3 = w2 3) → (x = 0 ∧ oE i (maF a i (a 8) t) (maF a i (a 8) (t + 1)) ∨ x = 1 ∧ ¬ oE i (maF a i (a 8) t) (maF a i (a 8) (t + 1))) → Q (some (.inl x)) (HH n xs w3 a3 i2)) → s_4_step [.inr (.inr 44)] (HH n xs w2 a2 i2) Q := by
  intro hQ
  obtain ⟨hc2, ho2, K0⟩ := Wk_ok hc hW
  obtain ⟨hF, hSP, hoe⟩ := hW
  have hk := k24 hc
  have hE := Fr_cE hF
  have hkE := Fr_kE hF
  refine sp_4_step_44 hc2 hSP hF.1 ho2 (fun f hf => ?_)
  have hf2 : oE i (maF a i (a 8) (t + 1)) f := fun r h0 h1 => by
    rw [hf r h0 (by rw [K0]; exact h1), stF_E hE hkE]
    exact stF_o hoe r h0 h1
  have hin : w2 1 ∈ [45, 46] := by rcases hF.1 with ⟨h1, h2⟩ | ⟨h1, h2⟩ <;> rw [h2] <;> simp
  have hs3 : sA [45, 46] a2 (dk_up a2 (w2 1) f) := sA_up sA_rf hin _
  have e2 : dk_up (dk_up w2 0 (w2 1)) 1 (w2 0) 2 = w2 2 := by rw [up_n (by decide), up_n (by decide)]
  have e3 : dk_up (dk_up w2 0 (w2 1)) 1 (w2 0) 3 = w2 3 := by rw [up_n (by decide), up_n (by decide)]
  have hwP : wP (dk_up (dk_up w2 0 (w2 1)) 1 (w2 0)) := by
    rcases hF.1 with ⟨h1, h2⟩ | ⟨h1, h2⟩
    · exact Or.inr ⟨by rw [up_n (by decide), up_s, h2], by rw [up_s, h1]⟩
    · exact Or.inl ⟨by rw [up_n (by decide), up_s, h2], by rw [up_s, h1]⟩
  have hwQ : wQ (dk_up (dk_up w2 0 (w2 1)) 1 (w2 0)) := by
    unfold wQ
    rw [e2, e3]
    exact hF.2.1
  refine hQ _ _ _ ⟨Fr_w (Fr_sA hF hs3 (by decide)) hwP hwQ, SP_fr hs3 hSP, ?_⟩ hs3 ⟨e2, e3⟩ ?_
  · rw [up_n (show ¬ 0 = 1 by decide), up_s, up_s]
    exact hf2
  · cases hch : chF (a2 (w2 0)) f (i2 0).toNat with
    | true =>
      refine Or.inr ⟨rfl, fun z => chF_t hch (fun r h0 h1 => ?_)⟩
      rw [hf2 r h0 (by omega), hoe r h0 (by omega)]
      exact z r h0 (by omega)
    | false =>
      refine Or.inl ⟨rfl, fun r h0 h1 => ?_⟩
      have := chF_f hch r h0 (by omega)
      rw [hf2 r h0 h1, hoe r h0 h1] at this
      exact this
theorem sp_wst (hc : colN a i) (hW : Wk a i p q t w2 a2 i2) : Q (some (.inl (wo a i t))) (HH n xs w2 a2 i2) → s_0_worstOf [.inr (.inr 1), .inr (.inr (w2 0))] (HH n xs w2 a2 i2) Q := by
  intro hQ
  obtain ⟨hc2, ho2, K0⟩ := Wk_ok hc hW
  have hk := k24 hc
  refine sp_0_worstOf (by rw [K0]; exact hk) (wl hW.1.1) (fun r z1 z2 => oOK.b hc2 ho2 z1 z2) ?_
  rw [K0, woF_o (i 0).toNat (fun r z1 z2 => hW.2.2 r z1 (by omega))]
  exact hQ
theorem sp_wlk (hc : colN a i) (hW : Wk a i p q 0 w2 a2 i2) {M : Nat} (hM : M ≤ 200) : (∀ w3 a3, Wk a i p q M w3 a3 i2 → sA [45, 46] a2 a3 → (w3 2 = w2 2 ∧ w3 3 = w2 3) → Q none (HH n xs w3 a3 i2)) → s_4_walk [.inr (.inr 44), .inl M] (HH n xs w2 a2 i2) Q := by
  intro hQ
  obtain ⟨hc2, ho2, K0⟩ := Wk_ok hc hW
  obtain ⟨hF, hSP, hoe⟩ := hW
  refine sp_4_walk_44 hc2 hSP hF.1 ho2 hM (fun w3 a3 hw3 hww hs3 hoe3 => ?_)
  have e2 := hww 2 (by omega) (by omega)
  have e3 := hww 3 (by omega) (by omega)
  have hwQ : wQ w3 := by
    unfold wQ
    rw [e2, e3]
    exact hF.2.1
  refine hQ w3 a3 ⟨Fr_w (Fr_sA hF hs3 (by decide)) hw3 hwQ, SP_fr hs3 hSP, fun r z1 z2 => ?_⟩ hs3 ⟨e2, e3⟩
  rw [hoe3 r z1 (by rw [K0]; exact z2), maF_E (Fr_cE hF) (Fr_kE hF)]
  exact maF_o hoe M r z1 z2
/-- the reference within a frame -/
theorem Fr_m (hc : colN a i) (hag : agr a i (mv a) (mi i)) (hF : Fr a i p q w2 a2 i2) : colN (mv a2) (mi i2) ∧ mi i2 0 = i 0 ∧ i2 30 = i 0 ∧ (∀ o, oE i (stF a i o) (stF (mv a2) (mi i2) o)) ∧ (∀ o, oOK a i o → oOK (mv a2) (mi i2) o) := by
  have hmi := Fr_mi hF
  have e0 : mi i2 0 = i 0 := by rw [hmi 0 (by omega)]; exact hag.1 0 (by omega)
  rw [Fr_mv hF]
  refine ⟨colN_E (fun _ _ _ => rfl) hmi (colN_A hag hc), e0, e0, fun o => ?_, fun o ho r z1 z2 => ?_⟩
  · rw [stF_E (fun _ _ _ => rfl) hmi]
    exact stF_A hag hc
  · rw [hag.2.1 0 (by omega) (by omega)]
    exact ho r z1 (by rw [e0] at z2; exact z2)
theorem sp_mbeg (hc : colN a i) (hag : agr a i (mv a) (mi i)) (hF : Fr a i p q w2 a2 i2) : (∀ a3, Mk a i p q 0 w2 a3 i2 → sA [65] a2 a3 → Q none (HH n xs w2 a3 i2)) → s_6_beginMarch [.inr (.inr 53)] (HH n xs w2 a2 i2) Q := by
  intro hQ
  obtain ⟨hm1, hm2, hm3, hm4, hm5⟩ := Fr_m hc hag hF
  refine sp_6_beginMarch (by rw [hm3]; exact k24 hc) (fun a3 hs h3 => ?_)
  refine hQ a3 ⟨Fr_sA hF hs (by decide), fun r z1 z2 => ?_⟩ hs
  rw [h3 r z1 (by rw [hm2]; exact z2), hF.2.2.1 58 (by decide)]
  exact (hag.2.2.1 r z1 z2).2.2.2.2.2
theorem sp_mgo (hc : colN a i) (hag : agr a i (mv a) (mi i)) (hM : Mk a i p q t w2 a2 i2) : (∀ a3, Mk a i p q (t + 1) w2 a3 i2 → sA [65, 66] a2 a3 → Q none (HH n xs w2 a3 i2)) → s_6_goes [.inr (.inr 53)] (HH n xs w2 a2 i2) Q := by
  intro hQ
  obtain ⟨hF, hoe⟩ := hM
  obtain ⟨hm1, hm2, hm3, hm4, hm5⟩ := Fr_m hc hag hF
  refine sp_6_goes hm1 (hm5 _ (oOK_o hoe (maF_ok hc (oOK_8 hc) t))) (fun a3 hs h3 => ?_)
  refine hQ a3 ⟨Fr_sA hF hs (by decide), fun r z1 z2 => ?_⟩ hs
  rw [h3 r z1 (by rw [hm2]; exact z2), hm4 _ r z1 z2]
  exact stF_o hoe r z1 z2
theorem sp_mgon (hc : colN a i) (hag : agr a i (mv a) (mi i)) (hM : Mk a i p q 0 w2 a2 i2) {M : Nat} (hMM : M ≤ 202) : (∀ a3, Mk a i p q M w2 a3 i2 → sA [65, 66] a2 a3 → Q none (HH n xs w2 a3 i2)) → s_6_goesOn [.inr (.inr 53), .inl M] (HH n xs w2 a2 i2) Q := by
  intro hQ
  obtain ⟨hF, hoe⟩ := hM
  obtain ⟨hm1, hm2, hm3, hm4, hm5⟩ := Fr_m hc hag hF
  refine sp_6_goesOn hm1 (hm5 _ (oOK_o hoe (maF_ok hc (oOK_8 hc) 0))) hMM (fun a3 hs h3 => ?_)
  refine hQ a3 ⟨Fr_sA hF hs (by decide), fun r z1 z2 => ?_⟩ hs
  rw [h3 r z1 (by rw [hm2]; exact z2), Fr_mv hF, maF_E (fun _ _ _ => rfl) (Fr_mi hF)]
  exact maF_A hag hc hoe M r z1 z2
theorem sp_mwst (hc : colN a i) (hag : agr a i (mv a) (mi i)) (hM : Mk a i p q t w2 a2 i2) : Q (some (.inl (wo a i t))) (HH n xs w2 a2 i2) → s_6_worstNow [.inr (.inr 53)] (HH n xs w2 a2 i2) Q := by
  intro hQ
  obtain ⟨hF, hoe⟩ := hM
  obtain ⟨hm1, hm2, hm3, hm4, hm5⟩ := Fr_m hc hag hF
  refine sp_6_worstNow (by rw [hm3]; exact k24 hc) (fun r z1 z2 => by rw [hm3] at z2; rw [hoe r z1 z2]; exact ma_b hc z1 z2) ?_
  have hk := k24 hc
  rw [hm3, woF_o (i 0).toNat (fun r z1 z2 => hoe r z1 (by omega))]
  exact hQ
theorem sp_mwb (hc : colN a i) (hag : agr a i (mv a) (mi i)) (hF : Fr a i p q w2 a2 i2) {M : Nat} (hMM : M ≤ 202) : (∀ a3, Mk a i p q M w2 a3 i2 → sA [65, 66] a2 a3 → Q (some (.inl (wo a i M))) (HH n xs w2 a3 i2)) → s_6_worstBehind [.inr (.inr 53), .inl M] (HH n xs w2 a2 i2) Q := by
  intro hQ
  simp (disch := first | assumption | omega | exact zc_lo | exact zc_hi | exact zz_l | exact zz_u | exact zz_r) only [xc_1 gc_6_worstBehind_0, xc_1 gc_6_worstBehind_2, xc_2 gc_6_worstBehind_1, xl_aload0, xl_iload1, xm_f, xm_n, xm_t, xr_iret, xtl_n, xtl_s, xz_i, xz_l, xz_n, xz_r, wb_6_worstBehind_0, ss_6_worstBehind, zz_b, zz_bn, Classical.not_not, true_and, Nat.reduceAdd, Nat.reduceLeDiff]
  refine sp_mbeg hc hag hF (fun a3 h3 hs3 => ?_)
  simp (disch := first | assumption | omega | exact zc_lo | exact zc_hi | exact zz_l | exact zz_u | exact zz_r) only [xc_1 gc_6_worstBehind_0, xc_1 gc_6_worstBehind_2, xc_2 gc_6_worstBehind_1, xl_aload0, xl_iload1, xm_f, xm_n, xm_t, xr_iret, xtl_n, xtl_s, xz_i, xz_l, xz_n, xz_r, wb_6_worstBehind_0, zz_b, zz_bn, Classical.not_not, true_and, Nat.reduceAdd, Nat.reduceLeDiff]
  refine sp_mgon hc hag h3 hMM (fun a4 h4 hs4 => ?_)
  simp (disch := first | assumption | omega | exact zc_lo | exact zc_hi | exact zz_l | exact zz_u | exact zz_r) only [xc_1 gc_6_worstBehind_0, xc_1 gc_6_worstBehind_2, xc_2 gc_6_worstBehind_1, xl_aload0, xl_iload1, xm_f, xm_n, xm_t, xr_iret, xtl_n, xtl_s, xz_i, xz_l, xz_n, xz_r, wb_6_worstBehind_0, zz_b, zz_bn, Classical.not_not, true_and, Nat.reduceAdd, Nat.reduceLeDiff]
  refine sp_mwst hc hag h4 ?_
  simp (disch := first | assumption | omega | exact zc_lo | exact zc_hi | exact zz_l | exact zz_u | exact zz_r) only [xc_1 gc_6_worstBehind_0, xc_1 gc_6_worstBehind_2, xc_2 gc_6_worstBehind_1, xl_aload0, xl_iload1, xm_f, xm_n, xm_t, xr_iret, xtl_n, xtl_s, xz_i, xz_l, xz_n, xz_r, wb_6_worstBehind_0, zz_b, zz_bn, Classical.not_not, true_and, Nat.reduceAdd, Nat.reduceLeDiff]
  exact hQ a4 h4 (sA_tr (sA_w hs3 (by decide)) hs4)
end FR
