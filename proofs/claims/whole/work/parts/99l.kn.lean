/-! THE START: what the tables and the premise say -/
set_option maxRecDepth 100000
theorem st_K {s : State} {args : Array Value} (htb : ∀ w ∈ dk_TB, w.before args s = true) (hao : va_AO "LongColumn$Sheet" s) : ∃ (D : va_G) (dA : Nat → ClassId), va_K D dk_cl (dk_ty dA) s := by
  obtain ⟨c0, i0, k0⟩ := u_known (C := nn_R0) (T := nn_T0) (N := 16) (n := 16) htb nn_w0 (htb _ (dk_tb 80 rfl rfl))
  obtain ⟨c1, i1, k1⟩ := u_known (C := nn_R1) (T := nn_T1) (N := 6) (n := 6) htb nn_w1 (htb _ (dk_tb 213 rfl rfl))
  obtain ⟨c2, i2, k2⟩ := u_known (C := nn_R2) (T := nn_T2) (N := 3) (n := 3) htb nn_w2 (htb _ (dk_tb 260 rfl rfl))
  obtain ⟨c3, i3, k3⟩ := u_known (C := nn_R3) (T := nn_T3) (N := 9) (n := 9) htb nn_w3 (htb _ (dk_tb 173 rfl rfl))
  obtain ⟨c4, i4, k4⟩ := u_known (C := nn_R4) (T := nn_T4) (N := 4) (n := 4) htb nn_w4 (htb _ (dk_tb 241 rfl rfl))
  obtain ⟨c5, i5, k5⟩ := u_known (C := nn_R5) (T := nn_T5) (N := 11) (n := 11) htb nn_w5 (htb _ (dk_tb 72 rfl rfl))
  obtain ⟨c6, i6, k6⟩ := u_known (C := nn_R6) (T := nn_T6) (N := 37) (n := 37) htb nn_w6 (htb _ (dk_tb 827 rfl rfl))
  obtain ⟨a0, b0, d0, e0, f0, g0⟩ := Cond.arrayClass_spec (htb (.arrayClass .int) (dk_tb 171 rfl rfl))
  obtain ⟨a1, b1, d1, e1, f1, g1⟩ := Cond.arrayClass_spec (htb (.arrayClass .boolean) (dk_tb 239 rfl rfl))
  obtain ⟨d2, a2, b2, e2, -, f2, g2, h2⟩ := Cond.arrayOver_spec (n := "LongColumn$Sheet") hao
  refine ⟨(fun k => [c0, c1, c2, c3, c4, c5, c6].getD k c0, fun k => [i0, i1, i2, i3, i4, i5, i6].getD k i0), fun k => [a0, a1, a2].getD k a0, fun k q hq => ?_, fun k q hq => ?_⟩
  · match k, hq with
    | 0, hq => cases hq; exact k0
    | 1, hq => cases hq; exact k1
    | 2, hq => cases hq; exact k2
    | 3, hq => cases hq; exact k3
    | 4, hq => cases hq; exact k4
    | 5, hq => cases hq; exact k5
    | 6, hq => cases hq; exact k6
    | k + 7, hq => cases hq
  · match k, hq with
    | 0, hq => cases hq; exact ⟨fun n z => ⟨(fun _ z => by cases z), b0, f0, d0, g0⟩, e0⟩
    | 1, hq => cases hq; exact ⟨fun n z => ⟨(fun _ z => by cases z), b1, f1, d1, g1⟩, e1⟩
    | 2, hq => cases hq; exact ⟨fun n z => ⟨(fun _ z => by cases z), b2, f2, d2, g2⟩, b2, d2, f2, g2, e2, h2⟩
    | k + 3, hq => cases hq
/-- a static row of seven -/
theorem st_S7 {s : State} {args : Array Value} {nm : String} (vs : List Int32) (f : Int → Int) (hf : ∀ j : Nat, j < 7 → Int32.ofInt (f j) = vs.getD j 0) (hlay : (Cond.laysStatic "LongColumn" nm "[I").before args s = true) (hini : (Cond.initialized "LongColumn").before args s = true) (harr : (Cond.arrayOf (.static "LongColumn" nm "[I") .int).before args s = true) (hlen : (Cond.eq (.length (.static "LongColumn" nm "[I")) (.int 7)).before args s = true)
    (hel : ∀ j : Nat, j < 7 → (Cond.eq (.elem (.static "LongColumn" nm "[I") (.int (Int32.ofNat j))) (.int (vs.getD j 0))).before args s = true) : ∃ t : Nat, va_Z "LongColumn" nm "[I" (.ref t) (fun q => s.heap.size ≤ q) s s.heap ∧ va_T .int t 7 (fun j => .int (Int32.ofInt (f j))) (fun q => s.heap.size ≤ q) s s.heap := by
  have hA : ∀ a : Nat, a < s.heap.size → ¬ s.heap.size ≤ a := fun a h1 h2 => by omega
  obtain ⟨t, ht, hT⟩ := va_Tof (N := 7) (f := fun j => .int (Int32.ofInt (f j))) (A := fun q => s.heap.size ≤ q) (by decide) harr (va_eqt hlen) (fun j hj => by rw [va_eqt (hel j hj), hf j hj]) hA
  exact ⟨t, va_Zof hlay hini ht hA, hT⟩
theorem st_small {s : State} {args : Array Value} {tm : Term} {b : Nat} {cell : Cell} {v : Value} (ht : tm.eval args s none [] s = some (.ref b)) (harr : s.arrayAt? b = some cell) (hv : (Term.length tm).eval args s none [] s = some v) : cell.slots.size < 2147483648 := by
  simp only [Term.eval, ht, harr, Option.bind_eq_bind, Option.bind_some] at hv
  by_cases hlt : cell.slots.size < 2147483648
  · exact hlt
  · simp [hlt] at hv
theorem st_RF {s : State} {args : Array Value} (hlay : (Cond.laysStatic "LongColumn" "RULE_FIRST" "[I").before args s = true) (hini : (Cond.initialized "LongColumn").before args s = true) (harr : (Cond.arrayOf (.static "LongColumn" "RULE_FIRST" "[I") .int).before args s = true) (hlen : (Cond.eq (.length (.static "LongColumn" "RULE_FIRST" "[I")) (.int 7)).before args s = true)
    (hel : ∀ j : Nat, j < 7 → (Cond.eq (.elem (.static "LongColumn" "RULE_FIRST" "[I") (.int (Int32.ofNat j))) (.int (([500, 1100, 0, 30, 0, 100, 20] : List Int32).getD j 0))).before args s = true) (hex : (Cond.exactly (.static "LongColumn" "RULE_FIRST" "[I") "[I").before args s = true) : ∃ t : Nat, va_Z "LongColumn" "RULE_FIRST" "[I" (.ref t) (fun q => s.heap.size ≤ q) s s.heap ∧ cn_T t cn_rf 7 (fun q => s.heap.size ≤ q) s s.heap := by
  have hA : ∀ a : Nat, a < s.heap.size → ¬ s.heap.size ≤ a := fun a h1 h2 => by omega
  obtain ⟨t, ht, hT⟩ := va_Tof (N := 7) (f := fun j => .int (cn_rf j)) (A := fun q => s.heap.size ≤ q) (by decide) harr (va_eqt hlen) (fun j hj => va_eqt (hel j hj)) hA
  obtain ⟨cell, h1, h2, h3, h4, h5, h6, h7⟩ := hT
  have hsm : cell.slots.size < 2147483648 := by
    have hv := va_eqt hlen
    obtain ⟨b, cell2, ht2, harr2, -⟩ := Term.length_spec hv
    cases ht.symm.trans ht2
    have hc2 := (State.arrayAt?_spec harr2).1
    cases h1.symm.trans hc2
    exact st_small ht2 harr2 hv
  have hsz : cell.slots.size = 7 := by
    have e1 : (Int32.ofNat cell.slots.size).toInt = (Int32.ofNat 7).toInt := by rw [← h5]
    have e2 := nI_toInt (n := cell.slots.size) (by omega)
    have e3 := nI_toInt (n := 7) (by omega)
    unfold nI at e2 e3
    omega
  obtain ⟨a, cc, cA, kA, q1, q2, q3, q4, q5, q6, -⟩ := Cond.exactly_spec (args := args) (first := s) (o := none) (s := s) (idx := []) (t := .static "LongColumn" "RULE_FIRST" "[I") (cls := "[I") hex
  cases ht.symm.trans q1
  cases h1.symm.trans q3
  refine ⟨t, va_Zof hlay hini ht hA, cell, h1, h2, h3, (fun k z => by rw [z] at q5; cases q5), ?_, by rw [q6]; exact q2, h7⟩
  refine Array.ext_getElem? (fun j => ?_)
  by_cases hj : j < 7
  · rw [h6 j hj, arrV_read _ _ hj]
  · rw [Array.getElem?_eq_none (by omega), Array.getElem?_eq_none (by rw [arrV_size]; omega)]
def st_tm (i : Nat) : Term := .string "LongColumn$TextReader" (([85, 87, 89, 91, 93, 95, 97, 59, 75, 77, 79] : List Nat).getD i 0)
theorem st_Str {s : State} {args : Array Value} (h : (Jvm.Cond.and given_1 narrow_1).before args s = true) : ∃ adK adV : Nat → Nat, vk_S 11 dk_sl dk_by adK adV (fun q => s.heap.size ≤ q) s s.heap ∧ ∀ i : Nat, i < 11 → (st_tm i).eval args s none [] s = some (.ref (adK i)) := by
  have hs := flat_of_before _ h
  have hA : ∀ a : Nat, a < s.heap.size → ¬ s.heap.size ≤ a := fun a h1 h2 => by omega
  have m1 : ∀ i, i < 11 → Cond.exactly (st_tm i) "java/lang/String" ∈ flatC (Jvm.Cond.and given_1 narrow_1) := by decide +kernel
  have m2 : ∀ i, i < 11 → Cond.eq (.field (st_tm i) "java/lang/String" "coder" "B") (.int 0) ∈ flatC (Jvm.Cond.and given_1 narrow_1) := by decide +kernel
  have m3 : ∀ i, i < 11 → Cond.arrayOf (.field (st_tm i) "java/lang/String" "value" "[B") .byte ∈ flatC (Jvm.Cond.and given_1 narrow_1) := by decide +kernel
  have m4 : ∀ i, i < 11 → Cond.eq (.length (.field (st_tm i) "java/lang/String" "value" "[B")) (.int (Int32.ofNat (dk_sl.getD i 0))) ∈ flatC (Jvm.Cond.and given_1 narrow_1) := by decide +kernel
  have m5 : ∀ i, i < 11 → ∀ j, j < dk_sl.getD i 0 → Cond.eq (.elem (.field (st_tm i) "java/lang/String" "value" "[B") (.int (Int32.ofNat j))) (.int ((dk_by.getD i []).getD j 0)) ∈ flatC (Jvm.Cond.and given_1 narrow_1) := by decide +kernel
  have m6 : ∀ i, i < 11 → ∀ j, j < 11 → i ≠ j → (Cond.not (Cond.eq (st_tm i) (st_tm j)) ∈ flatC (Jvm.Cond.and given_1 narrow_1) ∨ Cond.not (Cond.eq (st_tm j) (st_tm i)) ∈ flatC (Jvm.Cond.and given_1 narrow_1)) := by decide +kernel
  exact vk_Sof (N := 11) (tm := st_tm) (len := dk_sl) (byt := dk_by) (fun i hi => Nat.lt_trans (jx_lens i hi) (by decide)) (fun i hi => hs _ (m1 i hi)) (fun i hi => hs _ (m2 i hi)) (fun i hi => hs _ (m3 i hi)) (fun i hi => hs _ (m4 i hi)) (fun i hi j hj => hs _ (m5 i hi j hj)) (fun i j hi hj hij => (m6 i hi j hj hij).imp (fun z => hs _ z) (fun z => hs _ z)) hA
