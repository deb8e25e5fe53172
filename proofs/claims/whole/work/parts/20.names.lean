/-! NAMES: the classes, their fields, the words -/
def dk_TB : List Cond := lw_tbl.filter goodWord
theorem dk_tb {w : Cond} (i : Nat) (h : lw_tbl[i]? = some w) (hg : goodWord w = true) : w ∈ dk_TB := List.mem_filter.mpr ⟨List.mem_of_getElem? h, hg⟩
theorem dk_TB_good {w : Cond} (h : w ∈ dk_TB) : goodWord w = true := (List.mem_filter.mp h).2
theorem dk_TB_in {w : Cond} (h : w ∈ dk_TB) : w ∈ lw_tbl := (List.mem_filter.mp h).1
def nn_R0 : String := "LongColumn$Column"
def nn_T0 : u_T := fun k => match k with
  | 0 => ("LongColumn$Column", "rules", "[I", true)
  | 1 => ("LongColumn$Column", "ranks", "I", false)
  | 2 => ("LongColumn$Column", "kind", "[I", true)
  | 3 => ("LongColumn$Column", "at", "[I", true)
  | 4 => ("LongColumn$Column", "part", "[I", true)
  | 5 => ("LongColumn$Column", "share", "[I", true)
  | 6 => ("LongColumn$Column", "drift", "[I", true)
  | 7 => ("LongColumn$Column", "out", "[I", true)
  | 8 => ("LongColumn$Column", "drums", "I", false)
  | 9 => ("LongColumn$Column", "drumAt", "[I", true)
  | 10 => ("LongColumn$Column", "drumLoud", "[I", true)
  | 11 => ("LongColumn$Column", "drumAhead", "[I", true)
  | 12 => ("LongColumn$Column", "bends", "I", false)
  | 13 => ("LongColumn$Column", "bendAt", "[I", true)
  | 14 => ("LongColumn$Column", "spots", "[I", true)
  | _ => ("LongColumn$Column", "z", "I", false)
def nn_y0 : Nat → FieldType := fun k => match k with
  | 0 => .array .int
  | 1 => .int
  | 2 => .array .int
  | 3 => .array .int
  | 4 => .array .int
  | 5 => .array .int
  | 6 => .array .int
  | 7 => .array .int
  | 8 => .int
  | 9 => .array .int
  | 10 => .array .int
  | 11 => .array .int
  | 12 => .int
  | 13 => .array .int
  | 14 => .array .int
  | _ => .int
theorem nn_n0 : ∀ a, a < 16 → ∀ b, b < 16 → a ≠ b → (nn_T0 a).2.1 ≠ (nn_T0 b).2.1 := by decide +kernel
theorem nn_ok0 : ∀ k, k < 16 → parseFieldDescriptor (nn_T0 k).2.2.1 = some (nn_y0 k) := by decide +kernel
theorem nn_w0 : ∀ w ∈ u_ws nn_R0 nn_T0 16, w ∈ dk_TB := by
  have h : ∀ w ∈ u_ws nn_R0 nn_T0 16, w ∈ lw_tbl ∧ goodWord w = true := by decide +kernel
  exact fun w hw => List.mem_filter.mpr (h w hw)
def nn_R1 : String := "LongColumn$Senses"
def nn_T1 : u_T := fun k => match k with
  | 0 => ("LongColumn$Senses", "column", "LLongColumn$Column;", true)
  | 1 => ("LongColumn$Senses", "pace", "I", false)
  | 2 => ("LongColumn$Senses", "beat", "[I", true)
  | 3 => ("LongColumn$Senses", "sees", "[Z", true)
  | 4 => ("LongColumn$Senses", "near", "[I", true)
  | _ => ("LongColumn$Senses", "felt", "[I", true)
def nn_y1 : Nat → FieldType := fun k => match k with
  | 0 => .object "LongColumn$Column"
  | 1 => .int
  | 2 => .array .int
  | 3 => .array .boolean
  | 4 => .array .int
  | _ => .array .int
theorem nn_n1 : ∀ a, a < 6 → ∀ b, b < 6 → a ≠ b → (nn_T1 a).2.1 ≠ (nn_T1 b).2.1 := by decide +kernel
theorem nn_ok1 : ∀ k, k < 6 → parseFieldDescriptor (nn_T1 k).2.2.1 = some (nn_y1 k) := by decide +kernel
theorem nn_w1 : ∀ w ∈ u_ws nn_R1 nn_T1 6, w ∈ dk_TB := by
  have h : ∀ w ∈ u_ws nn_R1 nn_T1 6, w ∈ lw_tbl ∧ goodWord w = true := by decide +kernel
  exact fun w hw => List.mem_filter.mpr (h w hw)
def nn_R2 : String := "LongColumn$Sheet"
def nn_T2 : u_T := fun k => match k with
  | 0 => ("LongColumn$Sheet", "bits", "I", false)
  | 1 => ("LongColumn$Sheet", "size", "I", false)
  | _ => ("LongColumn$Sheet", "numbers", "[I", true)
def nn_y2 : Nat → FieldType := fun k => match k with
  | 0 => .int
  | 1 => .int
  | _ => .array .int
theorem nn_n2 : ∀ a, a < 3 → ∀ b, b < 3 → a ≠ b → (nn_T2 a).2.1 ≠ (nn_T2 b).2.1 := by decide +kernel
theorem nn_ok2 : ∀ k, k < 3 → parseFieldDescriptor (nn_T2 k).2.2.1 = some (nn_y2 k) := by decide +kernel
theorem nn_w2 : ∀ w ∈ u_ws nn_R2 nn_T2 3, w ∈ dk_TB := by
  have h : ∀ w ∈ u_ws nn_R2 nn_T2 3, w ∈ lw_tbl ∧ goodWord w = true := by decide +kernel
  exact fun w hw => List.mem_filter.mpr (h w hw)
def nn_R3 : String := "LongColumn$TextReader"
def nn_T3 : u_T := fun k => match k with
  | 0 => ("LongColumn$TextReader", "tape", "[I", true)
  | 1 => ("LongColumn$TextReader", "length", "I", false)
  | 2 => ("LongColumn$TextReader", "groups", "I", false)
  | 3 => ("LongColumn$TextReader", "ranks", "I", false)
  | 4 => ("LongColumn$TextReader", "read", "[I", true)
  | 5 => ("LongColumn$TextReader", "token", "I", false)
  | 6 => ("LongColumn$TextReader", "start", "I", false)
  | 7 => ("LongColumn$TextReader", "end", "I", false)
  | _ => ("LongColumn$TextReader", "number", "I", false)
def nn_y3 : Nat → FieldType := fun k => match k with
  | 0 => .array .int
  | 1 => .int
  | 2 => .int
  | 3 => .int
  | 4 => .array .int
  | 5 => .int
  | 6 => .int
  | 7 => .int
  | _ => .int
theorem nn_n3 : ∀ a, a < 9 → ∀ b, b < 9 → a ≠ b → (nn_T3 a).2.1 ≠ (nn_T3 b).2.1 := by decide +kernel
theorem nn_ok3 : ∀ k, k < 9 → parseFieldDescriptor (nn_T3 k).2.2.1 = some (nn_y3 k) := by decide +kernel
theorem nn_w3 : ∀ w ∈ u_ws nn_R3 nn_T3 9, w ∈ dk_TB := by
  have h : ∀ w ∈ u_ws nn_R3 nn_T3 9, w ∈ lw_tbl ∧ goodWord w = true := by decide +kernel
  exact fun w hw => List.mem_filter.mpr (h w hw)
def nn_R4 : String := "LongColumn$Walk"
def nn_T4 : u_T := fun k => match k with
  | 0 => ("LongColumn$Walk", "column", "LLongColumn$Column;", true)
  | 1 => ("LongColumn$Walk", "senses", "LLongColumn$Senses;", true)
  | 2 => ("LongColumn$Walk", "outs", "[I", false)
  | _ => ("LongColumn$Walk", "next", "[I", false)
def nn_y4 : Nat → FieldType := fun k => match k with
  | 0 => .object "LongColumn$Column"
  | 1 => .object "LongColumn$Senses"
  | 2 => .array .int
  | _ => .array .int
theorem nn_n4 : ∀ a, a < 4 → ∀ b, b < 4 → a ≠ b → (nn_T4 a).2.1 ≠ (nn_T4 b).2.1 := by decide +kernel
theorem nn_ok4 : ∀ k, k < 4 → parseFieldDescriptor (nn_T4 k).2.2.1 = some (nn_y4 k) := by decide +kernel
theorem nn_w4 : ∀ w ∈ u_ws nn_R4 nn_T4 4, w ∈ dk_TB := by
  have h : ∀ w ∈ u_ws nn_R4 nn_T4 4, w ∈ lw_tbl ∧ goodWord w = true := by decide +kernel
  exact fun w hw => List.mem_filter.mpr (h w hw)
def nn_R5 : String := "LongColumn"
def nn_T5 : u_T := fun k => match k with
  | 0 => ("LongColumn", "now", "LLongColumn$Column;", true)
  | 1 => ("LongColumn", "kept", "LLongColumn$Column;", true)
  | 2 => ("LongColumn", "isKept", "Z", false)
  | 3 => ("LongColumn", "reader", "LLongColumn$TextReader;", true)
  | 4 => ("LongColumn", "sheets", "[LLongColumn$Sheet;", true)
  | 5 => ("LongColumn", "senses", "LLongColumn$Senses;", true)
  | 6 => ("LongColumn", "plain", "LLongColumn$Walk;", true)
  | 7 => ("LongColumn", "slipped", "LLongColumn$Walk;", true)
  | 8 => ("LongColumn", "past", "[I", true)
  | 9 => ("LongColumn", "beginnings", "[I", true)
  | _ => ("LongColumn", "findings", "[I", true)
def nn_y5 : Nat → FieldType := fun k => match k with
  | 0 => .object "LongColumn$Column"
  | 1 => .object "LongColumn$Column"
  | 2 => .boolean
  | 3 => .object "LongColumn$TextReader"
  | 4 => .array (.object "LongColumn$Sheet")
  | 5 => .object "LongColumn$Senses"
  | 6 => .object "LongColumn$Walk"
  | 7 => .object "LongColumn$Walk"
  | 8 => .array .int
  | 9 => .array .int
  | _ => .array .int
theorem nn_n5 : ∀ a, a < 11 → ∀ b, b < 11 → a ≠ b → (nn_T5 a).2.1 ≠ (nn_T5 b).2.1 := by decide +kernel
theorem nn_ok5 : ∀ k, k < 11 → parseFieldDescriptor (nn_T5 k).2.2.1 = some (nn_y5 k) := by decide +kernel
theorem nn_w5 : ∀ w ∈ u_ws nn_R5 nn_T5 11, w ∈ dk_TB := by
  have h : ∀ w ∈ u_ws nn_R5 nn_T5 11, w ∈ lw_tbl ∧ goodWord w = true := by decide +kernel
  exact fun w hw => List.mem_filter.mpr (h w hw)
def nn_R6 : String := "LongColumnModel"
def nn_T6 : u_T := fun k => match k with
  | 0 => ("LongColumnModel", "rules", "[I", true)
  | 1 => ("LongColumnModel", "least", "[I", true)
  | 2 => ("LongColumnModel", "most", "[I", true)
  | 3 => ("LongColumnModel", "ranks", "I", false)
  | 4 => ("LongColumnModel", "rank", "[I", true)
  | 5 => ("LongColumnModel", "out", "[I", true)
  | 6 => ("LongColumnModel", "drums", "I", false)
  | 7 => ("LongColumnModel", "drum", "[I", true)
  | 8 => ("LongColumnModel", "bends", "I", false)
  | 9 => ("LongColumnModel", "bend", "[I", true)
  | 10 => ("LongColumnModel", "z", "I", false)
  | 11 => ("LongColumnModel", "spots", "[I", true)
  | 12 => ("LongColumnModel", "findings", "[I", true)
  | 13 => ("LongColumnModel", "tape", "[I", true)
  | 14 => ("LongColumnModel", "tapeMany", "I", false)
  | 15 => ("LongColumnModel", "begins", "I", false)
  | 16 => ("LongColumnModel", "ends", "I", false)
  | 17 => ("LongColumnModel", "sort", "I", false)
  | 18 => ("LongColumnModel", "word", "J", false)
  | 19 => ("LongColumnModel", "value", "I", false)
  | 20 => ("LongColumnModel", "good", "Z", false)
  | 21 => ("LongColumnModel", "groups", "[I", true)
  | 22 => ("LongColumnModel", "groupMany", "I", false)
  | 23 => ("LongColumnModel", "row", "[I", true)
  | 24 => ("LongColumnModel", "next", "[I", true)
  | 25 => ("LongColumnModel", "told", "[I", true)
  | 26 => ("LongColumnModel", "even", "[I", true)
  | 27 => ("LongColumnModel", "begun", "[I", true)
  | 28 => ("LongColumnModel", "does", "[Z", true)
  | 29 => ("LongColumnModel", "bits", "[I", true)
  | 30 => ("LongColumnModel", "sizes", "[I", true)
  | 31 => ("LongColumnModel", "sheets", "[I", true)
  | 32 => ("LongColumnModel", "carried", "[I", true)
  | 33 => ("LongColumnModel", "isKept", "Z", false)
  | 34 => ("LongColumnModel", "kept", "[I", true)
  | 35 => ("LongColumnModel", "movedTo", "I", false)
  | _ => ("LongColumnModel", "single", "[I", true)
def nn_y6 : Nat → FieldType := fun k => match k with
  | 0 => .array .int
  | 1 => .array .int
  | 2 => .array .int
  | 3 => .int
  | 4 => .array .int
  | 5 => .array .int
  | 6 => .int
  | 7 => .array .int
  | 8 => .int
  | 9 => .array .int
  | 10 => .int
  | 11 => .array .int
  | 12 => .array .int
  | 13 => .array .int
  | 14 => .int
  | 15 => .int
  | 16 => .int
  | 17 => .int
  | 18 => .long
  | 19 => .int
  | 20 => .boolean
  | 21 => .array .int
  | 22 => .int
  | 23 => .array .int
  | 24 => .array .int
  | 25 => .array .int
  | 26 => .array .int
  | 27 => .array .int
  | 28 => .array .boolean
  | 29 => .array .int
  | 30 => .array .int
  | 31 => .array .int
  | 32 => .array .int
  | 33 => .boolean
  | 34 => .array .int
  | 35 => .int
  | _ => .array .int
theorem nn_n6 : ∀ a, a < 37 → ∀ b, b < 37 → a ≠ b → (nn_T6 a).2.1 ≠ (nn_T6 b).2.1 := by decide +kernel
theorem nn_ok6 : ∀ k, k < 37 → parseFieldDescriptor (nn_T6 k).2.2.1 = some (nn_y6 k) := by decide +kernel
theorem nn_w6 : ∀ w ∈ u_ws nn_R6 nn_T6 37, w ∈ dk_TB := by
  have h : ∀ w ∈ u_ws nn_R6 nn_T6 37, w ∈ lw_tbl ∧ goodWord w = true := by decide +kernel
  exact fun w hw => List.mem_filter.mpr (h w hw)
def dk_cl : List vw_C := [(nn_R0, nn_T0, 16), (nn_R1, nn_T1, 6), (nn_R2, nn_T2, 3), (nn_R3, nn_T3, 9), (nn_R4, nn_T4, 4), (nn_R5, nn_T5, 11), (nn_R6, nn_T6, 37)]
