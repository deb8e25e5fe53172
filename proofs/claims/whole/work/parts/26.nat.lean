/-! WHAT THE JDK DOES: rows that are copied; texts -/
def s_ac : dk_S := fun as h Q => match as with
  | [.inr (.inr a), .inl sp, .inr (.inr b), .inl dp, .inl n] => match dk_ar (h a) 0, dk_ar (h b) 0 with
    | some (na, f), some (nb, g) => (0 ≤ sp ∧ 0 ≤ dp ∧ 0 ≤ n ∧ sp + n ≤ na ∧ dp + n ≤ nb ∧ sp + n < 2147483648 ∧ dp + n < 2147483648) ∧ Q none (dk_up h b (.inl (0, nb, fun j => if dp ≤ j ∧ j < dp + n then f (sp + (j - dp)) else g j)))
    | _, _ => False
  | _ => False
theorem o_ac : dk_mono s_ac := by
  intro as h Q Q2 hQ q
  unfold s_ac at q ⊢
  split at q
  · split at q
    · exact ⟨q.1, hQ _ _ q.2⟩
    · exact q.elim
  · exact q.elim
theorem dk_cpy (f g : Int → Int) {sp dp n : Int} (h1 : 0 ≤ sp) (h2 : 0 ≤ dp) (h3 : 0 ≤ n) (b1 : sp + n < 2147483648) (b2 : dp + n < 2147483648) : va_cpy (fun j : Nat => Int32.ofInt (f j)) (fun j : Nat => Int32.ofInt (g j)) (Int32.ofInt sp).toNatClampNeg (Int32.ofInt dp).toNatClampNeg (Int32.ofInt n).toNatClampNeg = fun j : Nat => Int32.ofInt ((fun j : Int => if dp ≤ j ∧ j < dp + n then f (sp + (j - dp)) else g j) j) := by
  funext j
  rw [dk_clamp h1 (by omega), dk_clamp h2 (by omega), dk_clamp h3 (by omega)]
  unfold va_cpy
  by_cases c : dp.toNat ≤ j ∧ j < dp.toNat + n.toNat
  · rw [if_pos c]
    have c2 : dp ≤ (j : Int) ∧ (j : Int) < dp + n := by omega
    simp only [if_pos c2]
    congr 2
    omega
  · rw [if_neg c]
    have c2 : ¬ (dp ≤ (j : Int) ∧ (j : Int) < dp + n) := by omega
    simp only [if_neg c2]
set_option maxRecDepth 20000 in
theorem call_ac {own : String} {R : Room} {cc : ByteArray} {nL i : Nat} (hl0 : Cond.methodLink own i arraycopyName ∈ dk_TB) (hfr : 1 ≤ R.frames) (hlo : 26 ≤ R.locals) : dk_Call own R cc nL 1 i 5 s_ac := by
  intro p l e s m args below meth c Qf ad dA D A ro adV hx hb hml hown hts hF
  intro pc ins L S as h hins hdg hlen hsz hSem H locs ls hW hS hl
  have hins : ins = .invokestatic i := by
    rcases hins with ⟨h1, -⟩ | ⟨-, h1⟩
    · cases h1
    · exact h1
  subst hins
  unfold s_ac at hSem
  split at hSem
  · rename_i a sp b dp n
    split at hSem
    · rename_i na f nb g ea eb
      obtain ⟨⟨v1, v2, v3, v4, v5, v6, v7⟩, kk⟩ := hSem
      have ea := dk_ar_inv ea
      have eb := dk_ar_inv eb
      have ha := dk_lt hF.1 hW (a := a) (fun t n f z => by rw [ea] at z; cases z; exact ⟨by decide, by decide⟩)
      have hb1 := dk_lt hF.1 hW (a := b) (fun t n f z => by rw [eb] at z; cases z; exact ⟨by decide, by decide⟩)
      have nn : ∀ {z : Int}, 0 ≤ z → z < 2147483648 → ¬ Int32.ofInt z < 0 := by
        intro z h1 h2 h3
        have h4 : Int32.ofInt z < Int32.ofInt 0 := h3
        rw [dk_ofInt_lt ⟨by omega, by omega⟩ ⟨by omega, by omega⟩] at h4
        omega
      refine va_copyi (ty := .int) (c0 := dA 0) (c1 := dA 0) (f := fun j => Int32.ofInt (f j)) (g := fun j => Int32.ofInt (g j)) (sp := Int32.ofInt sp) (dp := Int32.ofInt dp) (n := Int32.ofInt n) hx hb (by rw [hml]; exact hl.1.symm) hown (hts _ hl0) (hts _ (dk_tb 581 rfl rfl)) (hts _ (dk_tb 580 rfl rfl)) (hts _ (dk_tb 70 rfl rfl)) hF.1.1 hW.1 (dk_D hF.1 h) hS a b 0 0 (by rw [dk_ws_at ha, ea]; rfl) (by rw [dk_ws_at hb1, eb]; rfl) rfl rfl rfl (nn v1 (by omega)) (nn v2 (by omega)) (nn v3 (by omega)) (by rw [dk_clamp v1 (by omega), dk_clamp v3 (by omega)]; omega) (by rw [dk_clamp v2 (by omega), dk_clamp v3 (by omega)]; omega) (fun _ _ => rfl) hfr ?_ hdg (fun H1 locs1 hP1 _ hS1 => ?_)
      · have e1 : nativeFrameWords "java/lang/System" "arraycopy" 5 = 7 := by decide +kernel
        rw [e1, dk_sz_cat]
        have hsz2 : dk_sz ([].append S) ≤ 8 := hsz
        omega
      · rw [dk_cpy f g v1 v2 v3 v6 v7] at hP1
        exact kk H1 locs1 ls (dk_Wd_up hW hb1 (fun t n f z => by cases z; omega) (by rw [← dk_ws_set]; exact hP1)) hS1 hl
    · exact hSem.elim
  · exact hSem.elim
def s_sl : dk_S := fun as h Q => match as with
  | [.inr (.inr k)] => (110 ≤ k ∧ k < 121) ∧ Q (some (dk_I (dk_sl.getD (k - 110) 0 : Nat))) h
  | _ => False
def s_sc : dk_S := fun as h Q => match as with
  | [.inr (.inr k), .inl i] => (110 ≤ k ∧ k < 121 ∧ 0 ≤ i ∧ i < (dk_sl.getD (k - 110) 0 : Nat)) ∧ Q (some (dk_I (((dk_by.getD (k - 110) []).getD i.toNat 0).toInt))) h
  | _ => False
theorem o_sl : dk_mono s_sl := by
  intro as h Q Q2 hQ q
  unfold s_sl at q ⊢
  split at q
  · exact ⟨q.1, hQ _ _ q.2⟩
  · exact q.elim
theorem o_sc : dk_mono s_sc := by
  intro as h Q Q2 hQ q
  unfold s_sc at q ⊢
  split at q
  · exact ⟨q.1, hQ _ _ q.2⟩
  · exact q.elim
theorem call_sl {own : String} {R : Room} {cc : ByteArray} {nL i : Nat} (hl0 : Cond.methodLink own i ⟨"java/lang/String", "length", "()I"⟩ ∈ dk_TB) (hfr : 2 ≤ R.frames) (hlo : 80 ≤ R.locals) : dk_Call own R cc nL 0 i 1 s_sl := by
  sorry
theorem call_sc {own : String} {R : Room} {cc : ByteArray} {nL i : Nat} (hl0 : Cond.methodLink own i ⟨"java/lang/String", "charAt", "(I)C"⟩ ∈ dk_TB) (hfr : 5 ≤ R.frames) (hlo : 160 ≤ R.locals) : dk_Call own R cc nL 0 i 2 s_sc := by
  sorry
