/-! CLASS TABLES: entries of the constant pools -/
def dk_zs : List (String × String × String × Nat) := [("LongColumn", "RULE_LEAST", "[I", 101), ("LongColumn", "RULE_MOST", "[I", 102), ("LongColumn", "UNDER", "[I", 103)]
def dk_rs : List (String × Nat × String × Nat) := [("LongColumn$TextReader", 85, "keep", 110), ("LongColumn$TextReader", 87, "ear", 111), ("LongColumn$TextReader", 89, "eye", 112), ("LongColumn$TextReader", 91, "mix", 113), ("LongColumn$TextReader", 93, "feet", 114), ("LongColumn$TextReader", 95, "told", 115), ("LongColumn$TextReader", 97, "free", 116), ("LongColumn$TextReader", 59, "every", 117), ("LongColumn$TextReader", 75, "part", 118), ("LongColumn$TextReader", 77, "share", 119), ("LongColumn$TextReader", 79, "drift", 120)]
def dk_nF : List (String × Nat × String × String × String × String) := [("LongColumn$Walk", 47, "LongColumn$Senses", "pace", "I", "LongColumn"), ("LongColumn", 187, "LongColumn$Walk", "outs", "[I", "LongColumn")]
def dk_nM : List (String × Nat × MethodName × String) := [("LongColumn$Column", 81, ⟨"LongColumn", "wrapped", "(II)I"⟩, "LongColumn"), ("LongColumn$Senses", 88, ⟨"LongColumn", "wrapped", "(II)I"⟩, "LongColumn"), ("LongColumn$Walk", 50, ⟨"LongColumn", "wrapped", "(II)I"⟩, "LongColumn")]
def dk_sl : List Nat := [4, 3, 3, 3, 4, 4, 4, 5, 4, 5, 5]
def dk_by : List (List Int32) := [[107, 101, 101, 112], [101, 97, 114], [101, 121, 101], [109, 105, 120], [102, 101, 101, 116], [116, 111, 108, 100], [102, 114, 101, 101], [101, 118, 101, 114, 121], [112, 97, 114, 116], [115, 104, 97, 114, 101], [100, 114, 105, 102, 116]]
def dk_zi : List (String × String × String × Int32) := [("java/lang/String", "COMPACT_STRINGS", "Z", 1)]
def dk_zr : List (String × String × String) := [("jdk/internal/util/Preconditions", "SIOOBE_FORMATTER", "Ljava/util/function/BiFunction;")]
abbrev dk_DD (ad : Nat → Nat) (A : Nat → Prop) (adV : Nat → Nat) (U : State) : Prop := dk_Dy ad A dk_zs dk_rs dk_nF dk_nM dk_sl dk_by adV 110 dk_zi dk_zr U
theorem dk_lk_mem {α : Type} : ∀ {l : List (Nat × α)} {i : Nat} {a : α}, dk_lk l i = some a → (i, a) ∈ l
  | [], i, a, h => by simp [dk_lk] at h
  | (k, b) :: l, i, a, h => by
    unfold dk_lk at h
    split at h
    · rename_i e; cases h; subst e; exact List.mem_cons_self
    · exact List.mem_cons_of_mem _ (dk_lk_mem h)
theorem dk_ac {α : Type} {P : α → Prop} {a : α} {l : List α} (h1 : P a) (h2 : ∀ x ∈ l, P x) : ∀ x ∈ a :: l, P x := List.forall_mem_cons.mpr ⟨h1, h2⟩
theorem dk_an {α : Type} {P : α → Prop} : ∀ x ∈ ([] : List α), P x := fun _ h => absurd h List.not_mem_nil
def tc_0_f : List (Nat × Nat × Nat) := [(18, 0, 0), (23, 0, 1), (27, 0, 2), (30, 0, 3), (33, 0, 4), (36, 0, 5), (39, 0, 6), (42, 0, 7), (45, 0, 8), (48, 0, 9), (51, 0, 10), (54, 0, 11), (57, 0, 12), (60, 0, 13), (63, 0, 14), (66, 0, 15)]
def tc_0_p : List (Nat × Nat × Nat × Nat) := [(23, 1, 0, 1), (45, 1, 0, 8), (57, 1, 0, 12), (66, 1, 0, 15)]
def tc_0_s : List (Nat × Nat) := []
def tc_0 : dk_Tc := (tc_0_f, tc_0_p, [(105, -2000000000), (112, 1103515245)], [], tc_0_s, [])
set_option maxRecDepth 20000 in
theorem tok_0 {ad : Nat → Nat} {A : Nat → Prop} {adV : Nat → Nat} {args : Array Value} {s : State} (hts : ∀ w ∈ dk_TB, w.before args s = true) (hd : dk_DD ad A adV s) : dk_Tok ad A dk_cl nn_R0 dk_TB args s tc_0 := by
  have h1 : ∀ q ∈ tc_0_f, ∃ (C : String) (F : u_T) (n : Nat), dk_cl[q.2.1]? = some (C, F, n) ∧ q.2.2 < n ∧ (∀ w ∈ u_ws C F n, w ∈ dk_TB) ∧ ((Cond.fieldLink nn_R0 q.1 (F q.2.2).1 (F q.2.2).2.1 (F q.2.2).2.2.1).before args s = true ∨ ∃ host, (Cond.fieldLinkNest nn_R0 q.1 (F q.2.2).1 (F q.2.2).2.1 (F q.2.2).2.2.1 host).before args s = true) :=
    dk_ac ⟨nn_R0, nn_T0, 16, rfl, by decide, nn_w0, Or.inl (hts _ (dk_tb 97 rfl rfl))⟩
    (dk_ac ⟨nn_R0, nn_T0, 16, rfl, by decide, nn_w0, Or.inl (hts _ (dk_tb 100 rfl rfl))⟩
    (dk_ac ⟨nn_R0, nn_T0, 16, rfl, by decide, nn_w0, Or.inl (hts _ (dk_tb 104 rfl rfl))⟩
    (dk_ac ⟨nn_R0, nn_T0, 16, rfl, by decide, nn_w0, Or.inl (hts _ (dk_tb 107 rfl rfl))⟩
    (dk_ac ⟨nn_R0, nn_T0, 16, rfl, by decide, nn_w0, Or.inl (hts _ (dk_tb 110 rfl rfl))⟩
    (dk_ac ⟨nn_R0, nn_T0, 16, rfl, by decide, nn_w0, Or.inl (hts _ (dk_tb 113 rfl rfl))⟩
    (dk_ac ⟨nn_R0, nn_T0, 16, rfl, by decide, nn_w0, Or.inl (hts _ (dk_tb 116 rfl rfl))⟩
    (dk_ac ⟨nn_R0, nn_T0, 16, rfl, by decide, nn_w0, Or.inl (hts _ (dk_tb 119 rfl rfl))⟩
    (dk_ac ⟨nn_R0, nn_T0, 16, rfl, by decide, nn_w0, Or.inl (hts _ (dk_tb 122 rfl rfl))⟩
    (dk_ac ⟨nn_R0, nn_T0, 16, rfl, by decide, nn_w0, Or.inl (hts _ (dk_tb 124 rfl rfl))⟩
    (dk_ac ⟨nn_R0, nn_T0, 16, rfl, by decide, nn_w0, Or.inl (hts _ (dk_tb 126 rfl rfl))⟩
    (dk_ac ⟨nn_R0, nn_T0, 16, rfl, by decide, nn_w0, Or.inl (hts _ (dk_tb 128 rfl rfl))⟩
    (dk_ac ⟨nn_R0, nn_T0, 16, rfl, by decide, nn_w0, Or.inl (hts _ (dk_tb 130 rfl rfl))⟩
    (dk_ac ⟨nn_R0, nn_T0, 16, rfl, by decide, nn_w0, Or.inl (hts _ (dk_tb 132 rfl rfl))⟩
    (dk_ac ⟨nn_R0, nn_T0, 16, rfl, by decide, nn_w0, Or.inl (hts _ (dk_tb 134 rfl rfl))⟩
    (dk_ac ⟨nn_R0, nn_T0, 16, rfl, by decide, nn_w0, Or.inl (hts _ (dk_tb 136 rfl rfl))⟩
    (dk_an))))))))))))))))
  have h2 : ∀ q ∈ tc_0_p, ∃ (C : String) (F : u_T) (n : Nat) (ty0 : Nat → FieldType) (ty : FieldType), dk_cl[q.2.2.1]? = some (C, F, n) ∧ q.2.2.2 < n ∧ (∀ w ∈ u_ws C F n, w ∈ dk_TB) ∧ (Cond.fieldLink nn_R0 q.1 (F q.2.2.2).1 (F q.2.2.2).2.1 (F q.2.2.2).2.2.1).before args s = true ∧ (∀ k, k < n → parseFieldDescriptor (F k).2.2.1 = some (ty0 k)) ∧ (∀ a, a < n → ∀ b, b < n → a ≠ b → (F a).2.1 ≠ (F b).2.1) ∧ (F q.2.2.2).2.2.2 = false ∧ parseFieldDescriptor (F q.2.2.2).2.2.1 = some ty ∧ (q.2.1 = 1 → ty = .int) ∧ (q.2.1 = 2 → ty = .boolean) ∧ (q.2.1 = 3 → ty = .array .int) ∧ (q.2.1 = 4 → ty = .long) :=
    dk_ac ⟨nn_R0, nn_T0, 16, nn_y0, .int, rfl, by decide, nn_w0, hts _ (dk_tb 100 rfl rfl), nn_ok0, nn_n0, rfl, by decide +kernel, fun _ => rfl, fun z => absurd z (by decide), fun z => absurd z (by decide), fun z => absurd z (by decide)⟩
    (dk_ac ⟨nn_R0, nn_T0, 16, nn_y0, .int, rfl, by decide, nn_w0, hts _ (dk_tb 122 rfl rfl), nn_ok0, nn_n0, rfl, by decide +kernel, fun _ => rfl, fun z => absurd z (by decide), fun z => absurd z (by decide), fun z => absurd z (by decide)⟩
    (dk_ac ⟨nn_R0, nn_T0, 16, nn_y0, .int, rfl, by decide, nn_w0, hts _ (dk_tb 130 rfl rfl), nn_ok0, nn_n0, rfl, by decide +kernel, fun _ => rfl, fun z => absurd z (by decide), fun z => absurd z (by decide), fun z => absurd z (by decide)⟩
    (dk_ac ⟨nn_R0, nn_T0, 16, nn_y0, .int, rfl, by decide, nn_w0, hts _ (dk_tb 136 rfl rfl), nn_ok0, nn_n0, rfl, by decide +kernel, fun _ => rfl, fun z => absurd z (by decide), fun z => absurd z (by decide), fun z => absurd z (by decide)⟩
    (dk_an))))
  have h3 : ∀ q ∈ ([(105, -2000000000), (112, 1103515245)] : List (Nat × Int)), (Cond.constant nn_R0 q.1 (Int32.ofInt q.2)).before args s = true :=
    dk_ac (hts _ (dk_tb 494 rfl rfl))
    (dk_ac (hts _ (dk_tb 743 rfl rfl))
    (dk_an))
  have h4 : ∀ q ∈ ([] : List (Nat × Int)), (Cond.constantLong nn_R0 q.1 (Int64.ofInt q.2)).before args s = true :=
    dk_an
  have h5 : ∀ q ∈ tc_0_s, ∃ C n d, va_Z C n d (.ref (ad q.2)) A s s.heap ∧ (Cond.fieldLink nn_R0 q.1 C n d).before args s = true :=
    dk_an
  have h6 : ∀ q ∈ ([] : List (Nat × Nat)), ∃ tx, vk_R nn_R0 q.1 tx (ad q.2) s :=
    dk_an
  exact ⟨fun i ci k h => h1 _ (dk_lk_mem h), fun i kd ci k h => h2 _ (dk_lk_mem h), fun i v h => h3 _ (dk_lk_mem h), fun i v h => h4 _ (dk_lk_mem h), fun i k h => h5 _ (dk_lk_mem h), fun i k h => h6 _ (dk_lk_mem h)⟩
def tc_1_f : List (Nat × Nat × Nat) := [(36, 0, 0), (44, 0, 1), (51, 0, 2), (62, 0, 3), (94, 0, 4), (82, 0, 5), (91, 0, 6), (32, 1, 0), (13, 1, 1), (19, 1, 2), (22, 1, 3), (26, 1, 4), (29, 1, 5)]
def tc_1_p : List (Nat × Nat × Nat × Nat) := [(44, 1, 0, 1), (13, 1, 1, 1)]
def tc_1_s : List (Nat × Nat) := []
def tc_1 : dk_Tc := (tc_1_f, tc_1_p, [(74, -2000000000)], [], tc_1_s, [])
set_option maxRecDepth 20000 in
theorem tok_1 {ad : Nat → Nat} {A : Nat → Prop} {adV : Nat → Nat} {args : Array Value} {s : State} (hts : ∀ w ∈ dk_TB, w.before args s = true) (hd : dk_DD ad A adV s) : dk_Tok ad A dk_cl nn_R1 dk_TB args s tc_1 := by
  have h1 : ∀ q ∈ tc_1_f, ∃ (C : String) (F : u_T) (n : Nat), dk_cl[q.2.1]? = some (C, F, n) ∧ q.2.2 < n ∧ (∀ w ∈ u_ws C F n, w ∈ dk_TB) ∧ ((Cond.fieldLink nn_R1 q.1 (F q.2.2).1 (F q.2.2).2.1 (F q.2.2).2.2.1).before args s = true ∨ ∃ host, (Cond.fieldLinkNest nn_R1 q.1 (F q.2.2).1 (F q.2.2).2.1 (F q.2.2).2.2.1 host).before args s = true) :=
    dk_ac ⟨nn_R0, nn_T0, 16, rfl, by decide, nn_w0, Or.inl (hts _ (dk_tb 98 rfl rfl))⟩
    (dk_ac ⟨nn_R0, nn_T0, 16, rfl, by decide, nn_w0, Or.inl (hts _ (dk_tb 101 rfl rfl))⟩
    (dk_ac ⟨nn_R0, nn_T0, 16, rfl, by decide, nn_w0, Or.inl (hts _ (dk_tb 105 rfl rfl))⟩
    (dk_ac ⟨nn_R0, nn_T0, 16, rfl, by decide, nn_w0, Or.inl (hts _ (dk_tb 108 rfl rfl))⟩
    (dk_ac ⟨nn_R0, nn_T0, 16, rfl, by decide, nn_w0, Or.inl (hts _ (dk_tb 111 rfl rfl))⟩
    (dk_ac ⟨nn_R0, nn_T0, 16, rfl, by decide, nn_w0, Or.inl (hts _ (dk_tb 114 rfl rfl))⟩
    (dk_ac ⟨nn_R0, nn_T0, 16, rfl, by decide, nn_w0, Or.inl (hts _ (dk_tb 117 rfl rfl))⟩
    (dk_ac ⟨nn_R1, nn_T1, 6, rfl, by decide, nn_w1, Or.inl (hts _ (dk_tb 219 rfl rfl))⟩
    (dk_ac ⟨nn_R1, nn_T1, 6, rfl, by decide, nn_w1, Or.inl (hts _ (dk_tb 220 rfl rfl))⟩
    (dk_ac ⟨nn_R1, nn_T1, 6, rfl, by decide, nn_w1, Or.inl (hts _ (dk_tb 222 rfl rfl))⟩
    (dk_ac ⟨nn_R1, nn_T1, 6, rfl, by decide, nn_w1, Or.inl (hts _ (dk_tb 223 rfl rfl))⟩
    (dk_ac ⟨nn_R1, nn_T1, 6, rfl, by decide, nn_w1, Or.inl (hts _ (dk_tb 224 rfl rfl))⟩
    (dk_ac ⟨nn_R1, nn_T1, 6, rfl, by decide, nn_w1, Or.inl (hts _ (dk_tb 225 rfl rfl))⟩
    (dk_an)))))))))))))
  have h2 : ∀ q ∈ tc_1_p, ∃ (C : String) (F : u_T) (n : Nat) (ty0 : Nat → FieldType) (ty : FieldType), dk_cl[q.2.2.1]? = some (C, F, n) ∧ q.2.2.2 < n ∧ (∀ w ∈ u_ws C F n, w ∈ dk_TB) ∧ (Cond.fieldLink nn_R1 q.1 (F q.2.2.2).1 (F q.2.2.2).2.1 (F q.2.2.2).2.2.1).before args s = true ∧ (∀ k, k < n → parseFieldDescriptor (F k).2.2.1 = some (ty0 k)) ∧ (∀ a, a < n → ∀ b, b < n → a ≠ b → (F a).2.1 ≠ (F b).2.1) ∧ (F q.2.2.2).2.2.2 = false ∧ parseFieldDescriptor (F q.2.2.2).2.2.1 = some ty ∧ (q.2.1 = 1 → ty = .int) ∧ (q.2.1 = 2 → ty = .boolean) ∧ (q.2.1 = 3 → ty = .array .int) ∧ (q.2.1 = 4 → ty = .long) :=
    dk_ac ⟨nn_R0, nn_T0, 16, nn_y0, .int, rfl, by decide, nn_w0, hts _ (dk_tb 101 rfl rfl), nn_ok0, nn_n0, rfl, by decide +kernel, fun _ => rfl, fun z => absurd z (by decide), fun z => absurd z (by decide), fun z => absurd z (by decide)⟩
    (dk_ac ⟨nn_R1, nn_T1, 6, nn_y1, .int, rfl, by decide, nn_w1, hts _ (dk_tb 220 rfl rfl), nn_ok1, nn_n1, rfl, by decide +kernel, fun _ => rfl, fun z => absurd z (by decide), fun z => absurd z (by decide), fun z => absurd z (by decide)⟩
    (dk_an))
  have h3 : ∀ q ∈ ([(74, -2000000000)] : List (Nat × Int)), (Cond.constant nn_R1 q.1 (Int32.ofInt q.2)).before args s = true :=
    dk_ac (hts _ (dk_tb 513 rfl rfl))
    (dk_an)
  have h4 : ∀ q ∈ ([] : List (Nat × Int)), (Cond.constantLong nn_R1 q.1 (Int64.ofInt q.2)).before args s = true :=
    dk_an
  have h5 : ∀ q ∈ tc_1_s, ∃ C n d, va_Z C n d (.ref (ad q.2)) A s s.heap ∧ (Cond.fieldLink nn_R1 q.1 C n d).before args s = true :=
    dk_an
  have h6 : ∀ q ∈ ([] : List (Nat × Nat)), ∃ tx, vk_R nn_R1 q.1 tx (ad q.2) s :=
    dk_an
  exact ⟨fun i ci k h => h1 _ (dk_lk_mem h), fun i kd ci k h => h2 _ (dk_lk_mem h), fun i v h => h3 _ (dk_lk_mem h), fun i v h => h4 _ (dk_lk_mem h), fun i k h => h5 _ (dk_lk_mem h), fun i k h => h6 _ (dk_lk_mem h)⟩
def tc_2_f : List (Nat × Nat × Nat) := [(9, 2, 0), (15, 2, 1), (18, 2, 2)]
def tc_2_p : List (Nat × Nat × Nat × Nat) := [(9, 1, 2, 0), (15, 1, 2, 1)]
def tc_2_s : List (Nat × Nat) := []
def tc_2 : dk_Tc := (tc_2_f, tc_2_p, [], [], tc_2_s, [])
set_option maxRecDepth 20000 in
theorem tok_2 {ad : Nat → Nat} {A : Nat → Prop} {adV : Nat → Nat} {args : Array Value} {s : State} (hts : ∀ w ∈ dk_TB, w.before args s = true) (hd : dk_DD ad A adV s) : dk_Tok ad A dk_cl nn_R2 dk_TB args s tc_2 := by
  have h1 : ∀ q ∈ tc_2_f, ∃ (C : String) (F : u_T) (n : Nat), dk_cl[q.2.1]? = some (C, F, n) ∧ q.2.2 < n ∧ (∀ w ∈ u_ws C F n, w ∈ dk_TB) ∧ ((Cond.fieldLink nn_R2 q.1 (F q.2.2).1 (F q.2.2).2.1 (F q.2.2).2.2.1).before args s = true ∨ ∃ host, (Cond.fieldLinkNest nn_R2 q.1 (F q.2.2).1 (F q.2.2).2.1 (F q.2.2).2.2.1 host).before args s = true) :=
    dk_ac ⟨nn_R2, nn_T2, 3, rfl, by decide, nn_w2, Or.inl (hts _ (dk_tb 265 rfl rfl))⟩
    (dk_ac ⟨nn_R2, nn_T2, 3, rfl, by decide, nn_w2, Or.inl (hts _ (dk_tb 267 rfl rfl))⟩
    (dk_ac ⟨nn_R2, nn_T2, 3, rfl, by decide, nn_w2, Or.inl (hts _ (dk_tb 269 rfl rfl))⟩
    (dk_an)))
  have h2 : ∀ q ∈ tc_2_p, ∃ (C : String) (F : u_T) (n : Nat) (ty0 : Nat → FieldType) (ty : FieldType), dk_cl[q.2.2.1]? = some (C, F, n) ∧ q.2.2.2 < n ∧ (∀ w ∈ u_ws C F n, w ∈ dk_TB) ∧ (Cond.fieldLink nn_R2 q.1 (F q.2.2.2).1 (F q.2.2.2).2.1 (F q.2.2.2).2.2.1).before args s = true ∧ (∀ k, k < n → parseFieldDescriptor (F k).2.2.1 = some (ty0 k)) ∧ (∀ a, a < n → ∀ b, b < n → a ≠ b → (F a).2.1 ≠ (F b).2.1) ∧ (F q.2.2.2).2.2.2 = false ∧ parseFieldDescriptor (F q.2.2.2).2.2.1 = some ty ∧ (q.2.1 = 1 → ty = .int) ∧ (q.2.1 = 2 → ty = .boolean) ∧ (q.2.1 = 3 → ty = .array .int) ∧ (q.2.1 = 4 → ty = .long) :=
    dk_ac ⟨nn_R2, nn_T2, 3, nn_y2, .int, rfl, by decide, nn_w2, hts _ (dk_tb 265 rfl rfl), nn_ok2, nn_n2, rfl, by decide +kernel, fun _ => rfl, fun z => absurd z (by decide), fun z => absurd z (by decide), fun z => absurd z (by decide)⟩
    (dk_ac ⟨nn_R2, nn_T2, 3, nn_y2, .int, rfl, by decide, nn_w2, hts _ (dk_tb 267 rfl rfl), nn_ok2, nn_n2, rfl, by decide +kernel, fun _ => rfl, fun z => absurd z (by decide), fun z => absurd z (by decide), fun z => absurd z (by decide)⟩
    (dk_an))
  have h3 : ∀ q ∈ ([] : List (Nat × Int)), (Cond.constant nn_R2 q.1 (Int32.ofInt q.2)).before args s = true :=
    dk_an
  have h4 : ∀ q ∈ ([] : List (Nat × Int)), (Cond.constantLong nn_R2 q.1 (Int64.ofInt q.2)).before args s = true :=
    dk_an
  have h5 : ∀ q ∈ tc_2_s, ∃ C n d, va_Z C n d (.ref (ad q.2)) A s s.heap ∧ (Cond.fieldLink nn_R2 q.1 C n d).before args s = true :=
    dk_an
  have h6 : ∀ q ∈ ([] : List (Nat × Nat)), ∃ tx, vk_R nn_R2 q.1 tx (ad q.2) s :=
    dk_an
  exact ⟨fun i ci k h => h1 _ (dk_lk_mem h), fun i kd ci k h => h2 _ (dk_lk_mem h), fun i v h => h3 _ (dk_lk_mem h), fun i v h => h4 _ (dk_lk_mem h), fun i k h => h5 _ (dk_lk_mem h), fun i k h => h6 _ (dk_lk_mem h)⟩
def tc_3_f : List (Nat × Nat × Nat) := [(9, 3, 0), (15, 3, 1), (19, 3, 2), (22, 3, 3), (25, 3, 4), (28, 3, 5), (31, 3, 6), (34, 3, 7), (37, 3, 8)]
def tc_3_p : List (Nat × Nat × Nat × Nat) := [(15, 1, 3, 1), (19, 1, 3, 2), (22, 1, 3, 3), (28, 1, 3, 5), (31, 1, 3, 6), (34, 1, 3, 7), (37, 1, 3, 8)]
def tc_3_s : List (Nat × Nat) := []
def tc_3 : dk_Tc := (tc_3_f, tc_3_p, [], [], tc_3_s, [(85, 110), (87, 111), (89, 112), (91, 113), (93, 114), (95, 115), (97, 116), (59, 117), (75, 118), (77, 119), (79, 120)])
set_option maxRecDepth 20000 in
theorem tok_3 {ad : Nat → Nat} {A : Nat → Prop} {adV : Nat → Nat} {args : Array Value} {s : State} (hts : ∀ w ∈ dk_TB, w.before args s = true) (hd : dk_DD ad A adV s) : dk_Tok ad A dk_cl nn_R3 dk_TB args s tc_3 := by
  have h1 : ∀ q ∈ tc_3_f, ∃ (C : String) (F : u_T) (n : Nat), dk_cl[q.2.1]? = some (C, F, n) ∧ q.2.2 < n ∧ (∀ w ∈ u_ws C F n, w ∈ dk_TB) ∧ ((Cond.fieldLink nn_R3 q.1 (F q.2.2).1 (F q.2.2).2.1 (F q.2.2).2.2.1).before args s = true ∨ ∃ host, (Cond.fieldLinkNest nn_R3 q.1 (F q.2.2).1 (F q.2.2).2.1 (F q.2.2).2.2.1 host).before args s = true) :=
    dk_ac ⟨nn_R3, nn_T3, 9, rfl, by decide, nn_w3, Or.inl (hts _ (dk_tb 178 rfl rfl))⟩
    (dk_ac ⟨nn_R3, nn_T3, 9, rfl, by decide, nn_w3, Or.inl (hts _ (dk_tb 180 rfl rfl))⟩
    (dk_ac ⟨nn_R3, nn_T3, 9, rfl, by decide, nn_w3, Or.inl (hts _ (dk_tb 182 rfl rfl))⟩
    (dk_ac ⟨nn_R3, nn_T3, 9, rfl, by decide, nn_w3, Or.inl (hts _ (dk_tb 184 rfl rfl))⟩
    (dk_ac ⟨nn_R3, nn_T3, 9, rfl, by decide, nn_w3, Or.inl (hts _ (dk_tb 186 rfl rfl))⟩
    (dk_ac ⟨nn_R3, nn_T3, 9, rfl, by decide, nn_w3, Or.inl (hts _ (dk_tb 187 rfl rfl))⟩
    (dk_ac ⟨nn_R3, nn_T3, 9, rfl, by decide, nn_w3, Or.inl (hts _ (dk_tb 188 rfl rfl))⟩
    (dk_ac ⟨nn_R3, nn_T3, 9, rfl, by decide, nn_w3, Or.inl (hts _ (dk_tb 189 rfl rfl))⟩
    (dk_ac ⟨nn_R3, nn_T3, 9, rfl, by decide, nn_w3, Or.inl (hts _ (dk_tb 190 rfl rfl))⟩
    (dk_an)))))))))
  have h2 : ∀ q ∈ tc_3_p, ∃ (C : String) (F : u_T) (n : Nat) (ty0 : Nat → FieldType) (ty : FieldType), dk_cl[q.2.2.1]? = some (C, F, n) ∧ q.2.2.2 < n ∧ (∀ w ∈ u_ws C F n, w ∈ dk_TB) ∧ (Cond.fieldLink nn_R3 q.1 (F q.2.2.2).1 (F q.2.2.2).2.1 (F q.2.2.2).2.2.1).before args s = true ∧ (∀ k, k < n → parseFieldDescriptor (F k).2.2.1 = some (ty0 k)) ∧ (∀ a, a < n → ∀ b, b < n → a ≠ b → (F a).2.1 ≠ (F b).2.1) ∧ (F q.2.2.2).2.2.2 = false ∧ parseFieldDescriptor (F q.2.2.2).2.2.1 = some ty ∧ (q.2.1 = 1 → ty = .int) ∧ (q.2.1 = 2 → ty = .boolean) ∧ (q.2.1 = 3 → ty = .array .int) ∧ (q.2.1 = 4 → ty = .long) :=
    dk_ac ⟨nn_R3, nn_T3, 9, nn_y3, .int, rfl, by decide, nn_w3, hts _ (dk_tb 180 rfl rfl), nn_ok3, nn_n3, rfl, by decide +kernel, fun _ => rfl, fun z => absurd z (by decide), fun z => absurd z (by decide), fun z => absurd z (by decide)⟩
    (dk_ac ⟨nn_R3, nn_T3, 9, nn_y3, .int, rfl, by decide, nn_w3, hts _ (dk_tb 182 rfl rfl), nn_ok3, nn_n3, rfl, by decide +kernel, fun _ => rfl, fun z => absurd z (by decide), fun z => absurd z (by decide), fun z => absurd z (by decide)⟩
    (dk_ac ⟨nn_R3, nn_T3, 9, nn_y3, .int, rfl, by decide, nn_w3, hts _ (dk_tb 184 rfl rfl), nn_ok3, nn_n3, rfl, by decide +kernel, fun _ => rfl, fun z => absurd z (by decide), fun z => absurd z (by decide), fun z => absurd z (by decide)⟩
    (dk_ac ⟨nn_R3, nn_T3, 9, nn_y3, .int, rfl, by decide, nn_w3, hts _ (dk_tb 187 rfl rfl), nn_ok3, nn_n3, rfl, by decide +kernel, fun _ => rfl, fun z => absurd z (by decide), fun z => absurd z (by decide), fun z => absurd z (by decide)⟩
    (dk_ac ⟨nn_R3, nn_T3, 9, nn_y3, .int, rfl, by decide, nn_w3, hts _ (dk_tb 188 rfl rfl), nn_ok3, nn_n3, rfl, by decide +kernel, fun _ => rfl, fun z => absurd z (by decide), fun z => absurd z (by decide), fun z => absurd z (by decide)⟩
    (dk_ac ⟨nn_R3, nn_T3, 9, nn_y3, .int, rfl, by decide, nn_w3, hts _ (dk_tb 189 rfl rfl), nn_ok3, nn_n3, rfl, by decide +kernel, fun _ => rfl, fun z => absurd z (by decide), fun z => absurd z (by decide), fun z => absurd z (by decide)⟩
    (dk_ac ⟨nn_R3, nn_T3, 9, nn_y3, .int, rfl, by decide, nn_w3, hts _ (dk_tb 190 rfl rfl), nn_ok3, nn_n3, rfl, by decide +kernel, fun _ => rfl, fun z => absurd z (by decide), fun z => absurd z (by decide), fun z => absurd z (by decide)⟩
    (dk_an)))))))
  have h3 : ∀ q ∈ ([] : List (Nat × Int)), (Cond.constant nn_R3 q.1 (Int32.ofInt q.2)).before args s = true :=
    dk_an
  have h4 : ∀ q ∈ ([] : List (Nat × Int)), (Cond.constantLong nn_R3 q.1 (Int64.ofInt q.2)).before args s = true :=
    dk_an
  have h5 : ∀ q ∈ tc_3_s, ∃ C n d, va_Z C n d (.ref (ad q.2)) A s s.heap ∧ (Cond.fieldLink nn_R3 q.1 C n d).before args s = true :=
    dk_an
  have h6 : ∀ q ∈ ([(85, 110), (87, 111), (89, 112), (91, 113), (93, 114), (95, 115), (97, 116), (59, 117), (75, 118), (77, 119), (79, 120)] : List (Nat × Nat)), ∃ tx, vk_R nn_R3 q.1 tx (ad q.2) s :=
    dk_ac ⟨"keep", hd.2.1 ("LongColumn$TextReader", 85, "keep", 110) (List.mem_of_getElem? (i := 0) rfl)⟩
    (dk_ac ⟨"ear", hd.2.1 ("LongColumn$TextReader", 87, "ear", 111) (List.mem_of_getElem? (i := 1) rfl)⟩
    (dk_ac ⟨"eye", hd.2.1 ("LongColumn$TextReader", 89, "eye", 112) (List.mem_of_getElem? (i := 2) rfl)⟩
    (dk_ac ⟨"mix", hd.2.1 ("LongColumn$TextReader", 91, "mix", 113) (List.mem_of_getElem? (i := 3) rfl)⟩
    (dk_ac ⟨"feet", hd.2.1 ("LongColumn$TextReader", 93, "feet", 114) (List.mem_of_getElem? (i := 4) rfl)⟩
    (dk_ac ⟨"told", hd.2.1 ("LongColumn$TextReader", 95, "told", 115) (List.mem_of_getElem? (i := 5) rfl)⟩
    (dk_ac ⟨"free", hd.2.1 ("LongColumn$TextReader", 97, "free", 116) (List.mem_of_getElem? (i := 6) rfl)⟩
    (dk_ac ⟨"every", hd.2.1 ("LongColumn$TextReader", 59, "every", 117) (List.mem_of_getElem? (i := 7) rfl)⟩
    (dk_ac ⟨"part", hd.2.1 ("LongColumn$TextReader", 75, "part", 118) (List.mem_of_getElem? (i := 8) rfl)⟩
    (dk_ac ⟨"share", hd.2.1 ("LongColumn$TextReader", 77, "share", 119) (List.mem_of_getElem? (i := 9) rfl)⟩
    (dk_ac ⟨"drift", hd.2.1 ("LongColumn$TextReader", 79, "drift", 120) (List.mem_of_getElem? (i := 10) rfl)⟩
    (dk_an)))))))))))
  exact ⟨fun i ci k h => h1 _ (dk_lk_mem h), fun i kd ci k h => h2 _ (dk_lk_mem h), fun i v h => h3 _ (dk_lk_mem h), fun i v h => h4 _ (dk_lk_mem h), fun i k h => h5 _ (dk_lk_mem h), fun i k h => h6 _ (dk_lk_mem h)⟩
def tc_4_f : List (Nat × Nat × Nat) := [(37, 0, 1), (26, 0, 7), (47, 1, 1), (18, 4, 0), (22, 4, 1), (9, 4, 2), (15, 4, 3)]
def tc_4_p : List (Nat × Nat × Nat × Nat) := [(37, 1, 0, 1), (9, 3, 4, 2), (15, 3, 4, 3)]
def tc_4_s : List (Nat × Nat) := []
def tc_4 : dk_Tc := (tc_4_f, tc_4_p, [], [], tc_4_s, [])
set_option maxRecDepth 20000 in
theorem tok_4 {ad : Nat → Nat} {A : Nat → Prop} {adV : Nat → Nat} {args : Array Value} {s : State} (hts : ∀ w ∈ dk_TB, w.before args s = true) (hd : dk_DD ad A adV s) : dk_Tok ad A dk_cl nn_R4 dk_TB args s tc_4 := by
  have h1 : ∀ q ∈ tc_4_f, ∃ (C : String) (F : u_T) (n : Nat), dk_cl[q.2.1]? = some (C, F, n) ∧ q.2.2 < n ∧ (∀ w ∈ u_ws C F n, w ∈ dk_TB) ∧ ((Cond.fieldLink nn_R4 q.1 (F q.2.2).1 (F q.2.2).2.1 (F q.2.2).2.2.1).before args s = true ∨ ∃ host, (Cond.fieldLinkNest nn_R4 q.1 (F q.2.2).1 (F q.2.2).2.1 (F q.2.2).2.2.1 host).before args s = true) :=
    dk_ac ⟨nn_R0, nn_T0, 16, rfl, by decide, nn_w0, Or.inl (hts _ (dk_tb 102 rfl rfl))⟩
    (dk_ac ⟨nn_R0, nn_T0, 16, rfl, by decide, nn_w0, Or.inl (hts _ (dk_tb 120 rfl rfl))⟩
    (dk_ac ⟨nn_R1, nn_T1, 6, rfl, by decide, nn_w1, Or.inr ⟨"LongColumn", (hd.2.2.1 ("LongColumn$Walk", 47, "LongColumn$Senses", "pace", "I", "LongColumn") (List.mem_of_getElem? (i := 0) rfl)).use rfl⟩⟩
    (dk_ac ⟨nn_R4, nn_T4, 4, rfl, by decide, nn_w4, Or.inl (hts _ (dk_tb 246 rfl rfl))⟩
    (dk_ac ⟨nn_R4, nn_T4, 4, rfl, by decide, nn_w4, Or.inl (hts _ (dk_tb 247 rfl rfl))⟩
    (dk_ac ⟨nn_R4, nn_T4, 4, rfl, by decide, nn_w4, Or.inl (hts _ (dk_tb 248 rfl rfl))⟩
    (dk_ac ⟨nn_R4, nn_T4, 4, rfl, by decide, nn_w4, Or.inl (hts _ (dk_tb 250 rfl rfl))⟩
    (dk_an)))))))
  have h2 : ∀ q ∈ tc_4_p, ∃ (C : String) (F : u_T) (n : Nat) (ty0 : Nat → FieldType) (ty : FieldType), dk_cl[q.2.2.1]? = some (C, F, n) ∧ q.2.2.2 < n ∧ (∀ w ∈ u_ws C F n, w ∈ dk_TB) ∧ (Cond.fieldLink nn_R4 q.1 (F q.2.2.2).1 (F q.2.2.2).2.1 (F q.2.2.2).2.2.1).before args s = true ∧ (∀ k, k < n → parseFieldDescriptor (F k).2.2.1 = some (ty0 k)) ∧ (∀ a, a < n → ∀ b, b < n → a ≠ b → (F a).2.1 ≠ (F b).2.1) ∧ (F q.2.2.2).2.2.2 = false ∧ parseFieldDescriptor (F q.2.2.2).2.2.1 = some ty ∧ (q.2.1 = 1 → ty = .int) ∧ (q.2.1 = 2 → ty = .boolean) ∧ (q.2.1 = 3 → ty = .array .int) ∧ (q.2.1 = 4 → ty = .long) :=
    dk_ac ⟨nn_R0, nn_T0, 16, nn_y0, .int, rfl, by decide, nn_w0, hts _ (dk_tb 102 rfl rfl), nn_ok0, nn_n0, rfl, by decide +kernel, fun _ => rfl, fun z => absurd z (by decide), fun z => absurd z (by decide), fun z => absurd z (by decide)⟩
    (dk_ac ⟨nn_R4, nn_T4, 4, nn_y4, .array .int, rfl, by decide, nn_w4, hts _ (dk_tb 248 rfl rfl), nn_ok4, nn_n4, rfl, by decide +kernel, fun z => absurd z (by decide), fun z => absurd z (by decide), fun _ => rfl, fun z => absurd z (by decide)⟩
    (dk_ac ⟨nn_R4, nn_T4, 4, nn_y4, .array .int, rfl, by decide, nn_w4, hts _ (dk_tb 250 rfl rfl), nn_ok4, nn_n4, rfl, by decide +kernel, fun z => absurd z (by decide), fun z => absurd z (by decide), fun _ => rfl, fun z => absurd z (by decide)⟩
    (dk_an)))
  have h3 : ∀ q ∈ ([] : List (Nat × Int)), (Cond.constant nn_R4 q.1 (Int32.ofInt q.2)).before args s = true :=
    dk_an
  have h4 : ∀ q ∈ ([] : List (Nat × Int)), (Cond.constantLong nn_R4 q.1 (Int64.ofInt q.2)).before args s = true :=
    dk_an
  have h5 : ∀ q ∈ tc_4_s, ∃ C n d, va_Z C n d (.ref (ad q.2)) A s s.heap ∧ (Cond.fieldLink nn_R4 q.1 C n d).before args s = true :=
    dk_an
  have h6 : ∀ q ∈ ([] : List (Nat × Nat)), ∃ tx, vk_R nn_R4 q.1 tx (ad q.2) s :=
    dk_an
  exact ⟨fun i ci k h => h1 _ (dk_lk_mem h), fun i kd ci k h => h2 _ (dk_lk_mem h), fun i v h => h3 _ (dk_lk_mem h), fun i v h => h4 _ (dk_lk_mem h), fun i k h => h5 _ (dk_lk_mem h), fun i k h => h6 _ (dk_lk_mem h)⟩
def tc_5_f : List (Nat × Nat × Nat) := [(82, 0, 0), (102, 0, 1), (118, 0, 2), (121, 0, 3), (124, 0, 4), (127, 0, 5), (130, 0, 6), (133, 0, 7), (156, 0, 8), (159, 0, 9), (162, 0, 10), (165, 0, 11), (171, 0, 12), (174, 0, 13), (263, 0, 14), (257, 0, 15), (92, 3, 0), (88, 3, 1), (103, 3, 2), (99, 3, 3), (187, 4, 2), (285, 2, 0), (276, 2, 1), (291, 2, 2), (10, 5, 0), (16, 5, 1), (19, 5, 2), (26, 5, 3), (32, 5, 4), (41, 5, 5), (50, 5, 6), (54, 5, 7), (57, 5, 8), (61, 5, 9), (64, 5, 10)]
def tc_5_p : List (Nat × Nat × Nat × Nat) := [(102, 1, 0, 1), (156, 1, 0, 8), (171, 1, 0, 12), (257, 1, 0, 15), (88, 1, 3, 1), (103, 1, 3, 2), (99, 1, 3, 3), (285, 1, 2, 0), (276, 1, 2, 1), (19, 2, 5, 2)]
def tc_5_s : List (Nat × Nat) := [(72, 101), (75, 102), (304, 103)]
def tc_5 : dk_Tc := (tc_5_f, tc_5_p, [(300, -1000001), (243, -2000000000)], [], tc_5_s, [])
set_option maxRecDepth 20000 in
theorem tok_5 {ad : Nat → Nat} {A : Nat → Prop} {adV : Nat → Nat} {args : Array Value} {s : State} (hts : ∀ w ∈ dk_TB, w.before args s = true) (hd : dk_DD ad A adV s) : dk_Tok ad A dk_cl nn_R5 dk_TB args s tc_5 := by
  have h1 : ∀ q ∈ tc_5_f, ∃ (C : String) (F : u_T) (n : Nat), dk_cl[q.2.1]? = some (C, F, n) ∧ q.2.2 < n ∧ (∀ w ∈ u_ws C F n, w ∈ dk_TB) ∧ ((Cond.fieldLink nn_R5 q.1 (F q.2.2).1 (F q.2.2).2.1 (F q.2.2).2.2.1).before args s = true ∨ ∃ host, (Cond.fieldLinkNest nn_R5 q.1 (F q.2.2).1 (F q.2.2).2.1 (F q.2.2).2.2.1 host).before args s = true) :=
    dk_ac ⟨nn_R0, nn_T0, 16, rfl, by decide, nn_w0, Or.inl (hts _ (dk_tb 99 rfl rfl))⟩
    (dk_ac ⟨nn_R0, nn_T0, 16, rfl, by decide, nn_w0, Or.inl (hts _ (dk_tb 103 rfl rfl))⟩
    (dk_ac ⟨nn_R0, nn_T0, 16, rfl, by decide, nn_w0, Or.inl (hts _ (dk_tb 106 rfl rfl))⟩
    (dk_ac ⟨nn_R0, nn_T0, 16, rfl, by decide, nn_w0, Or.inl (hts _ (dk_tb 109 rfl rfl))⟩
    (dk_ac ⟨nn_R0, nn_T0, 16, rfl, by decide, nn_w0, Or.inl (hts _ (dk_tb 112 rfl rfl))⟩
    (dk_ac ⟨nn_R0, nn_T0, 16, rfl, by decide, nn_w0, Or.inl (hts _ (dk_tb 115 rfl rfl))⟩
    (dk_ac ⟨nn_R0, nn_T0, 16, rfl, by decide, nn_w0, Or.inl (hts _ (dk_tb 118 rfl rfl))⟩
    (dk_ac ⟨nn_R0, nn_T0, 16, rfl, by decide, nn_w0, Or.inl (hts _ (dk_tb 121 rfl rfl))⟩
    (dk_ac ⟨nn_R0, nn_T0, 16, rfl, by decide, nn_w0, Or.inl (hts _ (dk_tb 123 rfl rfl))⟩
    (dk_ac ⟨nn_R0, nn_T0, 16, rfl, by decide, nn_w0, Or.inl (hts _ (dk_tb 125 rfl rfl))⟩
    (dk_ac ⟨nn_R0, nn_T0, 16, rfl, by decide, nn_w0, Or.inl (hts _ (dk_tb 127 rfl rfl))⟩
    (dk_ac ⟨nn_R0, nn_T0, 16, rfl, by decide, nn_w0, Or.inl (hts _ (dk_tb 129 rfl rfl))⟩
    (dk_ac ⟨nn_R0, nn_T0, 16, rfl, by decide, nn_w0, Or.inl (hts _ (dk_tb 131 rfl rfl))⟩
    (dk_ac ⟨nn_R0, nn_T0, 16, rfl, by decide, nn_w0, Or.inl (hts _ (dk_tb 133 rfl rfl))⟩
    (dk_ac ⟨nn_R0, nn_T0, 16, rfl, by decide, nn_w0, Or.inl (hts _ (dk_tb 135 rfl rfl))⟩
    (dk_ac ⟨nn_R0, nn_T0, 16, rfl, by decide, nn_w0, Or.inl (hts _ (dk_tb 137 rfl rfl))⟩
    (dk_ac ⟨nn_R3, nn_T3, 9, rfl, by decide, nn_w3, Or.inl (hts _ (dk_tb 179 rfl rfl))⟩
    (dk_ac ⟨nn_R3, nn_T3, 9, rfl, by decide, nn_w3, Or.inl (hts _ (dk_tb 181 rfl rfl))⟩
    (dk_ac ⟨nn_R3, nn_T3, 9, rfl, by decide, nn_w3, Or.inl (hts _ (dk_tb 183 rfl rfl))⟩
    (dk_ac ⟨nn_R3, nn_T3, 9, rfl, by decide, nn_w3, Or.inl (hts _ (dk_tb 185 rfl rfl))⟩
    (dk_ac ⟨nn_R4, nn_T4, 4, rfl, by decide, nn_w4, Or.inr ⟨"LongColumn", (hd.2.2.1 ("LongColumn", 187, "LongColumn$Walk", "outs", "[I", "LongColumn") (List.mem_of_getElem? (i := 1) rfl)).use rfl⟩⟩
    (dk_ac ⟨nn_R2, nn_T2, 3, rfl, by decide, nn_w2, Or.inl (hts _ (dk_tb 266 rfl rfl))⟩
    (dk_ac ⟨nn_R2, nn_T2, 3, rfl, by decide, nn_w2, Or.inl (hts _ (dk_tb 268 rfl rfl))⟩
    (dk_ac ⟨nn_R2, nn_T2, 3, rfl, by decide, nn_w2, Or.inl (hts _ (dk_tb 270 rfl rfl))⟩
    (dk_ac ⟨nn_R5, nn_T5, 11, rfl, by decide, nn_w5, Or.inl (hts _ (dk_tb 278 rfl rfl))⟩
    (dk_ac ⟨nn_R5, nn_T5, 11, rfl, by decide, nn_w5, Or.inl (hts _ (dk_tb 279 rfl rfl))⟩
    (dk_ac ⟨nn_R5, nn_T5, 11, rfl, by decide, nn_w5, Or.inl (hts _ (dk_tb 280 rfl rfl))⟩
    (dk_ac ⟨nn_R5, nn_T5, 11, rfl, by decide, nn_w5, Or.inl (hts _ (dk_tb 281 rfl rfl))⟩
    (dk_ac ⟨nn_R5, nn_T5, 11, rfl, by decide, nn_w5, Or.inl (hts _ (dk_tb 282 rfl rfl))⟩
    (dk_ac ⟨nn_R5, nn_T5, 11, rfl, by decide, nn_w5, Or.inl (hts _ (dk_tb 283 rfl rfl))⟩
    (dk_ac ⟨nn_R5, nn_T5, 11, rfl, by decide, nn_w5, Or.inl (hts _ (dk_tb 284 rfl rfl))⟩
    (dk_ac ⟨nn_R5, nn_T5, 11, rfl, by decide, nn_w5, Or.inl (hts _ (dk_tb 285 rfl rfl))⟩
    (dk_ac ⟨nn_R5, nn_T5, 11, rfl, by decide, nn_w5, Or.inl (hts _ (dk_tb 286 rfl rfl))⟩
    (dk_ac ⟨nn_R5, nn_T5, 11, rfl, by decide, nn_w5, Or.inl (hts _ (dk_tb 287 rfl rfl))⟩
    (dk_ac ⟨nn_R5, nn_T5, 11, rfl, by decide, nn_w5, Or.inl (hts _ (dk_tb 288 rfl rfl))⟩
    (dk_an)))))))))))))))))))))))))))))))))))
  have h2 : ∀ q ∈ tc_5_p, ∃ (C : String) (F : u_T) (n : Nat) (ty0 : Nat → FieldType) (ty : FieldType), dk_cl[q.2.2.1]? = some (C, F, n) ∧ q.2.2.2 < n ∧ (∀ w ∈ u_ws C F n, w ∈ dk_TB) ∧ (Cond.fieldLink nn_R5 q.1 (F q.2.2.2).1 (F q.2.2.2).2.1 (F q.2.2.2).2.2.1).before args s = true ∧ (∀ k, k < n → parseFieldDescriptor (F k).2.2.1 = some (ty0 k)) ∧ (∀ a, a < n → ∀ b, b < n → a ≠ b → (F a).2.1 ≠ (F b).2.1) ∧ (F q.2.2.2).2.2.2 = false ∧ parseFieldDescriptor (F q.2.2.2).2.2.1 = some ty ∧ (q.2.1 = 1 → ty = .int) ∧ (q.2.1 = 2 → ty = .boolean) ∧ (q.2.1 = 3 → ty = .array .int) ∧ (q.2.1 = 4 → ty = .long) :=
    dk_ac ⟨nn_R0, nn_T0, 16, nn_y0, .int, rfl, by decide, nn_w0, hts _ (dk_tb 103 rfl rfl), nn_ok0, nn_n0, rfl, by decide +kernel, fun _ => rfl, fun z => absurd z (by decide), fun z => absurd z (by decide), fun z => absurd z (by decide)⟩
    (dk_ac ⟨nn_R0, nn_T0, 16, nn_y0, .int, rfl, by decide, nn_w0, hts _ (dk_tb 123 rfl rfl), nn_ok0, nn_n0, rfl, by decide +kernel, fun _ => rfl, fun z => absurd z (by decide), fun z => absurd z (by decide), fun z => absurd z (by decide)⟩
    (dk_ac ⟨nn_R0, nn_T0, 16, nn_y0, .int, rfl, by decide, nn_w0, hts _ (dk_tb 131 rfl rfl), nn_ok0, nn_n0, rfl, by decide +kernel, fun _ => rfl, fun z => absurd z (by decide), fun z => absurd z (by decide), fun z => absurd z (by decide)⟩
    (dk_ac ⟨nn_R0, nn_T0, 16, nn_y0, .int, rfl, by decide, nn_w0, hts _ (dk_tb 137 rfl rfl), nn_ok0, nn_n0, rfl, by decide +kernel, fun _ => rfl, fun z => absurd z (by decide), fun z => absurd z (by decide), fun z => absurd z (by decide)⟩
    (dk_ac ⟨nn_R3, nn_T3, 9, nn_y3, .int, rfl, by decide, nn_w3, hts _ (dk_tb 181 rfl rfl), nn_ok3, nn_n3, rfl, by decide +kernel, fun _ => rfl, fun z => absurd z (by decide), fun z => absurd z (by decide), fun z => absurd z (by decide)⟩
    (dk_ac ⟨nn_R3, nn_T3, 9, nn_y3, .int, rfl, by decide, nn_w3, hts _ (dk_tb 183 rfl rfl), nn_ok3, nn_n3, rfl, by decide +kernel, fun _ => rfl, fun z => absurd z (by decide), fun z => absurd z (by decide), fun z => absurd z (by decide)⟩
    (dk_ac ⟨nn_R3, nn_T3, 9, nn_y3, .int, rfl, by decide, nn_w3, hts _ (dk_tb 185 rfl rfl), nn_ok3, nn_n3, rfl, by decide +kernel, fun _ => rfl, fun z => absurd z (by decide), fun z => absurd z (by decide), fun z => absurd z (by decide)⟩
    (dk_ac ⟨nn_R2, nn_T2, 3, nn_y2, .int, rfl, by decide, nn_w2, hts _ (dk_tb 266 rfl rfl), nn_ok2, nn_n2, rfl, by decide +kernel, fun _ => rfl, fun z => absurd z (by decide), fun z => absurd z (by decide), fun z => absurd z (by decide)⟩
    (dk_ac ⟨nn_R2, nn_T2, 3, nn_y2, .int, rfl, by decide, nn_w2, hts _ (dk_tb 268 rfl rfl), nn_ok2, nn_n2, rfl, by decide +kernel, fun _ => rfl, fun z => absurd z (by decide), fun z => absurd z (by decide), fun z => absurd z (by decide)⟩
    (dk_ac ⟨nn_R5, nn_T5, 11, nn_y5, .boolean, rfl, by decide, nn_w5, hts _ (dk_tb 280 rfl rfl), nn_ok5, nn_n5, rfl, by decide +kernel, fun z => absurd z (by decide), fun _ => rfl, fun z => absurd z (by decide), fun z => absurd z (by decide)⟩
    (dk_an))))))))))
  have h3 : ∀ q ∈ ([(300, -1000001), (243, -2000000000)] : List (Nat × Int)), (Cond.constant nn_R5 q.1 (Int32.ofInt q.2)).before args s = true :=
    dk_ac (hts _ (dk_tb 327 rfl rfl))
    (dk_ac (hts _ (dk_tb 702 rfl rfl))
    (dk_an))
  have h4 : ∀ q ∈ ([] : List (Nat × Int)), (Cond.constantLong nn_R5 q.1 (Int64.ofInt q.2)).before args s = true :=
    dk_an
  have h5 : ∀ q ∈ tc_5_s, ∃ C n d, va_Z C n d (.ref (ad q.2)) A s s.heap ∧ (Cond.fieldLink nn_R5 q.1 C n d).before args s = true :=
    dk_ac ⟨"LongColumn", "RULE_LEAST", "[I", hd.1 ("LongColumn", "RULE_LEAST", "[I", 101) (List.mem_of_getElem? (i := 0) rfl), hts _ (dk_tb 319 rfl rfl)⟩
    (dk_ac ⟨"LongColumn", "RULE_MOST", "[I", hd.1 ("LongColumn", "RULE_MOST", "[I", 102) (List.mem_of_getElem? (i := 1) rfl), hts _ (dk_tb 321 rfl rfl)⟩
    (dk_ac ⟨"LongColumn", "UNDER", "[I", hd.1 ("LongColumn", "UNDER", "[I", 103) (List.mem_of_getElem? (i := 2) rfl), hts _ (dk_tb 755 rfl rfl)⟩
    (dk_an)))
  have h6 : ∀ q ∈ ([] : List (Nat × Nat)), ∃ tx, vk_R nn_R5 q.1 tx (ad q.2) s :=
    dk_an
  exact ⟨fun i ci k h => h1 _ (dk_lk_mem h), fun i kd ci k h => h2 _ (dk_lk_mem h), fun i v h => h3 _ (dk_lk_mem h), fun i v h => h4 _ (dk_lk_mem h), fun i k h => h5 _ (dk_lk_mem h), fun i k h => h6 _ (dk_lk_mem h)⟩
def tc_6_f : List (Nat × Nat × Nat) := [(7, 6, 0), (13, 6, 1), (16, 6, 2), (85, 6, 3), (19, 6, 4), (22, 6, 5), (92, 6, 6), (25, 6, 7), (206, 6, 8), (28, 6, 9), (31, 6, 10), (35, 6, 11), (38, 6, 12), (41, 6, 13), (109, 6, 14), (115, 6, 15), (112, 6, 16), (128, 6, 17), (131, 6, 18), (135, 6, 19), (168, 6, 20), (44, 6, 21), (175, 6, 22), (47, 6, 23), (50, 6, 24), (53, 6, 25), (56, 6, 26), (59, 6, 27), (62, 6, 28), (66, 6, 29), (69, 6, 30), (72, 6, 31), (75, 6, 32), (287, 6, 33), (78, 6, 34), (276, 6, 35), (81, 6, 36)]
def tc_6_p : List (Nat × Nat × Nat × Nat) := [(85, 1, 6, 3), (92, 1, 6, 6), (206, 1, 6, 8), (31, 1, 6, 10), (109, 1, 6, 14), (115, 1, 6, 15), (112, 1, 6, 16), (128, 1, 6, 17), (131, 4, 6, 18), (135, 1, 6, 19), (168, 2, 6, 20), (175, 1, 6, 22), (287, 2, 6, 33), (276, 1, 6, 35)]
def tc_6_s : List (Nat × Nat) := []
def tc_6 : dk_Tc := (tc_6_f, tc_6_p, [(84, -1000001), (272, 1103515245)], [(95, 2), (138, 27), (140, 96), (142, -1), (144, 220309), (150, 3690), (152, 4325), (154, 9744), (156, 121898), (158, 404923), (160, 131360), (186, 3094387), (162, 316163), (164, 10256063), (166, 2486801)], tc_6_s, [])
set_option maxRecDepth 20000 in
theorem tok_6 {ad : Nat → Nat} {A : Nat → Prop} {adV : Nat → Nat} {args : Array Value} {s : State} (hts : ∀ w ∈ dk_TB, w.before args s = true) (hd : dk_DD ad A adV s) : dk_Tok ad A dk_cl nn_R6 dk_TB args s tc_6 := by
  have h1 : ∀ q ∈ tc_6_f, ∃ (C : String) (F : u_T) (n : Nat), dk_cl[q.2.1]? = some (C, F, n) ∧ q.2.2 < n ∧ (∀ w ∈ u_ws C F n, w ∈ dk_TB) ∧ ((Cond.fieldLink nn_R6 q.1 (F q.2.2).1 (F q.2.2).2.1 (F q.2.2).2.2.1).before args s = true ∨ ∃ host, (Cond.fieldLinkNest nn_R6 q.1 (F q.2.2).1 (F q.2.2).2.1 (F q.2.2).2.2.1 host).before args s = true) :=
    dk_ac ⟨nn_R6, nn_T6, 37, rfl, by decide, nn_w6, Or.inl (hts _ (dk_tb 832 rfl rfl))⟩
    (dk_ac ⟨nn_R6, nn_T6, 37, rfl, by decide, nn_w6, Or.inl (hts _ (dk_tb 833 rfl rfl))⟩
    (dk_ac ⟨nn_R6, nn_T6, 37, rfl, by decide, nn_w6, Or.inl (hts _ (dk_tb 834 rfl rfl))⟩
    (dk_ac ⟨nn_R6, nn_T6, 37, rfl, by decide, nn_w6, Or.inl (hts _ (dk_tb 835 rfl rfl))⟩
    (dk_ac ⟨nn_R6, nn_T6, 37, rfl, by decide, nn_w6, Or.inl (hts _ (dk_tb 836 rfl rfl))⟩
    (dk_ac ⟨nn_R6, nn_T6, 37, rfl, by decide, nn_w6, Or.inl (hts _ (dk_tb 837 rfl rfl))⟩
    (dk_ac ⟨nn_R6, nn_T6, 37, rfl, by decide, nn_w6, Or.inl (hts _ (dk_tb 838 rfl rfl))⟩
    (dk_ac ⟨nn_R6, nn_T6, 37, rfl, by decide, nn_w6, Or.inl (hts _ (dk_tb 839 rfl rfl))⟩
    (dk_ac ⟨nn_R6, nn_T6, 37, rfl, by decide, nn_w6, Or.inl (hts _ (dk_tb 840 rfl rfl))⟩
    (dk_ac ⟨nn_R6, nn_T6, 37, rfl, by decide, nn_w6, Or.inl (hts _ (dk_tb 841 rfl rfl))⟩
    (dk_ac ⟨nn_R6, nn_T6, 37, rfl, by decide, nn_w6, Or.inl (hts _ (dk_tb 842 rfl rfl))⟩
    (dk_ac ⟨nn_R6, nn_T6, 37, rfl, by decide, nn_w6, Or.inl (hts _ (dk_tb 843 rfl rfl))⟩
    (dk_ac ⟨nn_R6, nn_T6, 37, rfl, by decide, nn_w6, Or.inl (hts _ (dk_tb 844 rfl rfl))⟩
    (dk_ac ⟨nn_R6, nn_T6, 37, rfl, by decide, nn_w6, Or.inl (hts _ (dk_tb 845 rfl rfl))⟩
    (dk_ac ⟨nn_R6, nn_T6, 37, rfl, by decide, nn_w6, Or.inl (hts _ (dk_tb 846 rfl rfl))⟩
    (dk_ac ⟨nn_R6, nn_T6, 37, rfl, by decide, nn_w6, Or.inl (hts _ (dk_tb 847 rfl rfl))⟩
    (dk_ac ⟨nn_R6, nn_T6, 37, rfl, by decide, nn_w6, Or.inl (hts _ (dk_tb 848 rfl rfl))⟩
    (dk_ac ⟨nn_R6, nn_T6, 37, rfl, by decide, nn_w6, Or.inl (hts _ (dk_tb 849 rfl rfl))⟩
    (dk_ac ⟨nn_R6, nn_T6, 37, rfl, by decide, nn_w6, Or.inl (hts _ (dk_tb 850 rfl rfl))⟩
    (dk_ac ⟨nn_R6, nn_T6, 37, rfl, by decide, nn_w6, Or.inl (hts _ (dk_tb 851 rfl rfl))⟩
    (dk_ac ⟨nn_R6, nn_T6, 37, rfl, by decide, nn_w6, Or.inl (hts _ (dk_tb 852 rfl rfl))⟩
    (dk_ac ⟨nn_R6, nn_T6, 37, rfl, by decide, nn_w6, Or.inl (hts _ (dk_tb 853 rfl rfl))⟩
    (dk_ac ⟨nn_R6, nn_T6, 37, rfl, by decide, nn_w6, Or.inl (hts _ (dk_tb 854 rfl rfl))⟩
    (dk_ac ⟨nn_R6, nn_T6, 37, rfl, by decide, nn_w6, Or.inl (hts _ (dk_tb 855 rfl rfl))⟩
    (dk_ac ⟨nn_R6, nn_T6, 37, rfl, by decide, nn_w6, Or.inl (hts _ (dk_tb 856 rfl rfl))⟩
    (dk_ac ⟨nn_R6, nn_T6, 37, rfl, by decide, nn_w6, Or.inl (hts _ (dk_tb 857 rfl rfl))⟩
    (dk_ac ⟨nn_R6, nn_T6, 37, rfl, by decide, nn_w6, Or.inl (hts _ (dk_tb 858 rfl rfl))⟩
    (dk_ac ⟨nn_R6, nn_T6, 37, rfl, by decide, nn_w6, Or.inl (hts _ (dk_tb 859 rfl rfl))⟩
    (dk_ac ⟨nn_R6, nn_T6, 37, rfl, by decide, nn_w6, Or.inl (hts _ (dk_tb 860 rfl rfl))⟩
    (dk_ac ⟨nn_R6, nn_T6, 37, rfl, by decide, nn_w6, Or.inl (hts _ (dk_tb 861 rfl rfl))⟩
    (dk_ac ⟨nn_R6, nn_T6, 37, rfl, by decide, nn_w6, Or.inl (hts _ (dk_tb 862 rfl rfl))⟩
    (dk_ac ⟨nn_R6, nn_T6, 37, rfl, by decide, nn_w6, Or.inl (hts _ (dk_tb 863 rfl rfl))⟩
    (dk_ac ⟨nn_R6, nn_T6, 37, rfl, by decide, nn_w6, Or.inl (hts _ (dk_tb 864 rfl rfl))⟩
    (dk_ac ⟨nn_R6, nn_T6, 37, rfl, by decide, nn_w6, Or.inl (hts _ (dk_tb 865 rfl rfl))⟩
    (dk_ac ⟨nn_R6, nn_T6, 37, rfl, by decide, nn_w6, Or.inl (hts _ (dk_tb 866 rfl rfl))⟩
    (dk_ac ⟨nn_R6, nn_T6, 37, rfl, by decide, nn_w6, Or.inl (hts _ (dk_tb 867 rfl rfl))⟩
    (dk_ac ⟨nn_R6, nn_T6, 37, rfl, by decide, nn_w6, Or.inl (hts _ (dk_tb 868 rfl rfl))⟩
    (dk_an)))))))))))))))))))))))))))))))))))))
  have h2 : ∀ q ∈ tc_6_p, ∃ (C : String) (F : u_T) (n : Nat) (ty0 : Nat → FieldType) (ty : FieldType), dk_cl[q.2.2.1]? = some (C, F, n) ∧ q.2.2.2 < n ∧ (∀ w ∈ u_ws C F n, w ∈ dk_TB) ∧ (Cond.fieldLink nn_R6 q.1 (F q.2.2.2).1 (F q.2.2.2).2.1 (F q.2.2.2).2.2.1).before args s = true ∧ (∀ k, k < n → parseFieldDescriptor (F k).2.2.1 = some (ty0 k)) ∧ (∀ a, a < n → ∀ b, b < n → a ≠ b → (F a).2.1 ≠ (F b).2.1) ∧ (F q.2.2.2).2.2.2 = false ∧ parseFieldDescriptor (F q.2.2.2).2.2.1 = some ty ∧ (q.2.1 = 1 → ty = .int) ∧ (q.2.1 = 2 → ty = .boolean) ∧ (q.2.1 = 3 → ty = .array .int) ∧ (q.2.1 = 4 → ty = .long) :=
    dk_ac ⟨nn_R6, nn_T6, 37, nn_y6, .int, rfl, by decide, nn_w6, hts _ (dk_tb 835 rfl rfl), nn_ok6, nn_n6, rfl, by decide +kernel, fun _ => rfl, fun z => absurd z (by decide), fun z => absurd z (by decide), fun z => absurd z (by decide)⟩
    (dk_ac ⟨nn_R6, nn_T6, 37, nn_y6, .int, rfl, by decide, nn_w6, hts _ (dk_tb 838 rfl rfl), nn_ok6, nn_n6, rfl, by decide +kernel, fun _ => rfl, fun z => absurd z (by decide), fun z => absurd z (by decide), fun z => absurd z (by decide)⟩
    (dk_ac ⟨nn_R6, nn_T6, 37, nn_y6, .int, rfl, by decide, nn_w6, hts _ (dk_tb 840 rfl rfl), nn_ok6, nn_n6, rfl, by decide +kernel, fun _ => rfl, fun z => absurd z (by decide), fun z => absurd z (by decide), fun z => absurd z (by decide)⟩
    (dk_ac ⟨nn_R6, nn_T6, 37, nn_y6, .int, rfl, by decide, nn_w6, hts _ (dk_tb 842 rfl rfl), nn_ok6, nn_n6, rfl, by decide +kernel, fun _ => rfl, fun z => absurd z (by decide), fun z => absurd z (by decide), fun z => absurd z (by decide)⟩
    (dk_ac ⟨nn_R6, nn_T6, 37, nn_y6, .int, rfl, by decide, nn_w6, hts _ (dk_tb 846 rfl rfl), nn_ok6, nn_n6, rfl, by decide +kernel, fun _ => rfl, fun z => absurd z (by decide), fun z => absurd z (by decide), fun z => absurd z (by decide)⟩
    (dk_ac ⟨nn_R6, nn_T6, 37, nn_y6, .int, rfl, by decide, nn_w6, hts _ (dk_tb 847 rfl rfl), nn_ok6, nn_n6, rfl, by decide +kernel, fun _ => rfl, fun z => absurd z (by decide), fun z => absurd z (by decide), fun z => absurd z (by decide)⟩
    (dk_ac ⟨nn_R6, nn_T6, 37, nn_y6, .int, rfl, by decide, nn_w6, hts _ (dk_tb 848 rfl rfl), nn_ok6, nn_n6, rfl, by decide +kernel, fun _ => rfl, fun z => absurd z (by decide), fun z => absurd z (by decide), fun z => absurd z (by decide)⟩
    (dk_ac ⟨nn_R6, nn_T6, 37, nn_y6, .int, rfl, by decide, nn_w6, hts _ (dk_tb 849 rfl rfl), nn_ok6, nn_n6, rfl, by decide +kernel, fun _ => rfl, fun z => absurd z (by decide), fun z => absurd z (by decide), fun z => absurd z (by decide)⟩
    (dk_ac ⟨nn_R6, nn_T6, 37, nn_y6, .long, rfl, by decide, nn_w6, hts _ (dk_tb 850 rfl rfl), nn_ok6, nn_n6, rfl, by decide +kernel, fun z => absurd z (by decide), fun z => absurd z (by decide), fun z => absurd z (by decide), fun _ => rfl⟩
    (dk_ac ⟨nn_R6, nn_T6, 37, nn_y6, .int, rfl, by decide, nn_w6, hts _ (dk_tb 851 rfl rfl), nn_ok6, nn_n6, rfl, by decide +kernel, fun _ => rfl, fun z => absurd z (by decide), fun z => absurd z (by decide), fun z => absurd z (by decide)⟩
    (dk_ac ⟨nn_R6, nn_T6, 37, nn_y6, .boolean, rfl, by decide, nn_w6, hts _ (dk_tb 852 rfl rfl), nn_ok6, nn_n6, rfl, by decide +kernel, fun z => absurd z (by decide), fun _ => rfl, fun z => absurd z (by decide), fun z => absurd z (by decide)⟩
    (dk_ac ⟨nn_R6, nn_T6, 37, nn_y6, .int, rfl, by decide, nn_w6, hts _ (dk_tb 854 rfl rfl), nn_ok6, nn_n6, rfl, by decide +kernel, fun _ => rfl, fun z => absurd z (by decide), fun z => absurd z (by decide), fun z => absurd z (by decide)⟩
    (dk_ac ⟨nn_R6, nn_T6, 37, nn_y6, .boolean, rfl, by decide, nn_w6, hts _ (dk_tb 865 rfl rfl), nn_ok6, nn_n6, rfl, by decide +kernel, fun z => absurd z (by decide), fun _ => rfl, fun z => absurd z (by decide), fun z => absurd z (by decide)⟩
    (dk_ac ⟨nn_R6, nn_T6, 37, nn_y6, .int, rfl, by decide, nn_w6, hts _ (dk_tb 867 rfl rfl), nn_ok6, nn_n6, rfl, by decide +kernel, fun _ => rfl, fun z => absurd z (by decide), fun z => absurd z (by decide), fun z => absurd z (by decide)⟩
    (dk_an))))))))))))))
  have h3 : ∀ q ∈ ([(84, -1000001), (272, 1103515245)] : List (Nat × Int)), (Cond.constant nn_R6 q.1 (Int32.ofInt q.2)).before args s = true :=
    dk_ac (hts _ (dk_tb 955 rfl rfl))
    (dk_ac (hts _ (dk_tb 1221 rfl rfl))
    (dk_an))
  have h4 : ∀ q ∈ ([(95, 2), (138, 27), (140, 96), (142, -1), (144, 220309), (150, 3690), (152, 4325), (154, 9744), (156, 121898), (158, 404923), (160, 131360), (186, 3094387), (162, 316163), (164, 10256063), (166, 2486801)] : List (Nat × Int)), (Cond.constantLong nn_R6 q.1 (Int64.ofInt q.2)).before args s = true :=
    dk_ac (hts _ (dk_tb 963 rfl rfl))
    (dk_ac (hts _ (dk_tb 990 rfl rfl))
    (dk_ac (hts _ (dk_tb 991 rfl rfl))
    (dk_ac (hts _ (dk_tb 992 rfl rfl))
    (dk_ac (hts _ (dk_tb 1001 rfl rfl))
    (dk_ac (hts _ (dk_tb 1006 rfl rfl))
    (dk_ac (hts _ (dk_tb 1007 rfl rfl))
    (dk_ac (hts _ (dk_tb 1008 rfl rfl))
    (dk_ac (hts _ (dk_tb 1009 rfl rfl))
    (dk_ac (hts _ (dk_tb 1010 rfl rfl))
    (dk_ac (hts _ (dk_tb 1011 rfl rfl))
    (dk_ac (hts _ (dk_tb 1016 rfl rfl))
    (dk_ac (hts _ (dk_tb 1021 rfl rfl))
    (dk_ac (hts _ (dk_tb 1022 rfl rfl))
    (dk_ac (hts _ (dk_tb 1023 rfl rfl))
    (dk_an)))))))))))))))
  have h5 : ∀ q ∈ tc_6_s, ∃ C n d, va_Z C n d (.ref (ad q.2)) A s s.heap ∧ (Cond.fieldLink nn_R6 q.1 C n d).before args s = true :=
    dk_an
  have h6 : ∀ q ∈ ([] : List (Nat × Nat)), ∃ tx, vk_R nn_R6 q.1 tx (ad q.2) s :=
    dk_an
  exact ⟨fun i ci k h => h1 _ (dk_lk_mem h), fun i kd ci k h => h2 _ (dk_lk_mem h), fun i v h => h3 _ (dk_lk_mem h), fun i v h => h4 _ (dk_lk_mem h), fun i k h => h5 _ (dk_lk_mem h), fun i k h => h6 _ (dk_lk_mem h)⟩
def tc_n : dk_Tc := ([], [], [], [], [], [])
theorem tok_n {ad : Nat → Nat} {A : Nat → Prop} {args : Array Value} {s : State} (own : String) : dk_Tok ad A dk_cl own dk_TB args s tc_n := ⟨fun i ci k h => (by cases h), fun i kd ci k h => (by cases h), fun i v h => (by cases h), fun i v h => (by cases h), fun i k h => (by cases h), fun i k h => (by cases h)⟩
