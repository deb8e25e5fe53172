/-! THE CONSTRUCTORS -/
def po_2 (dA : Nat → ClassId) (fs : List Value) (xs : va_W) : Prop := ∃ q0 : Nat, fs = [.int 0, .int 0, .ref q0] ∧ xs = [(q0, .inl (dA 0, 40, .inl (fun _ => 0)))]
set_option maxRecDepth 100000 in
set_option maxHeartbeats 4000000 in
theorem k_2_init {dA : Nat → ClassId} {D : va_G} {n0 tF : Nat} : cn_M dA D n0 tF ⟨"LongColumn$Sheet", "<init>", "()V"⟩ prog_4_method_1_code 1 { frames := 1, cells := 1, slots := 40, locals := 12 } 2 [.int 0, .int 0, .null] [] (po_2 dA) 1 40 := by
  refine cn_met (by decide +kernel) (fun p l e s m below meth c b A C0 hml hr hlocks hni hW => ?_)
  have hx := C0.1
  have hb := C0.2.1
  have hown := C0.2.2.1
  have hts := C0.2.2.2.1
  have hK := C0.2.2.2.2.1
  have hAn := C0.2.2.2.2.2.2
  have hl := lv_entry (.ref b :: []) (n := 1) (Nat.le_of_ble_eq_true rfl)
  generalize (lg_sl (.ref b :: []) ++ List.replicate (1 - (lg_sl (.ref b :: [])).length) Slot.unset).toArray = ls at hl ⊢
  have hl : lv_has ls 1 [(0, .ref b)] := hl
  have hW : cn_W D A s [(b, .inr (2, [.int 0, .int 0, .null]))] s.heap [] := hW
  refine lv_aload_n hx hb (k := 0) (by decide +kernel) rfl (lv_at hl 0 rfl) ?_
  refine cn_obj C0 (dk_tb 264 rfl rfl) (by rw [hml]; exact hl.1) (by decide +kernel) (by decide) (by decide) ?_
  refine W.eq (g2 := F0 m 4 ls []) rfl ?_
  refine lv_aload_n hx hb (k := 0) (by decide +kernel) rfl (lv_at hl 0 rfl) ?_
  refine lv_iconst hx hb (n := 0) (v := 0) (by decide +kernel) (by decide) ?_
  refine cn_put C0 hni hW (q0 := 0) (k := 0) (v := .int 0) (ty := .int) nn_y2 rfl rfl nn_w2 nn_ok2 nn_n2 (by decide) (dk_tb 265 rfl rfl) rfl (by decide +kernel) rfl rfl (Nat.le_of_ble_eq_true rfl) (by decide +kernel) (fun H locs hW => ?_)
  have hW : cn_W D A s [(b, .inr (2, [.int 0, .int 0, .null]))] H _ := hW
  refine W.eq (g2 := F0 m 9 ls []) rfl ?_
  refine lv_aload_n hx hb (k := 0) (by decide +kernel) rfl (lv_at hl 0 rfl) ?_
  refine lv_iconst hx hb (n := 0) (v := 0) (by decide +kernel) (by decide) ?_
  refine cn_put C0 hni hW (q0 := 0) (k := 1) (v := .int 0) (ty := .int) nn_y2 rfl rfl nn_w2 nn_ok2 nn_n2 (by decide) (dk_tb 267 rfl rfl) rfl (by decide +kernel) rfl rfl (Nat.le_of_ble_eq_true rfl) (by decide +kernel) (fun H locs hW => ?_)
  have hW : cn_W D A s [(b, .inr (2, [.int 0, .int 0, .null]))] H _ := hW
  refine W.eq (g2 := F0 m 14 ls []) rfl ?_
  refine lv_aload_n hx hb (k := 0) (by decide +kernel) rfl (lv_at hl 0 rfl) ?_
  refine lv_bipush hx hb (n := 40) (v := 40) (by decide +kernel) (by decide) ?_
  refine cn_na C0 hW 40 (by decide) (by decide) (by decide) (by decide) (by decide) (by decide +kernel) (fun q0 H hW => ?_)
  have hW : cn_W D A s [(b, .inr (2, [.int 0, .int 0, .null])), (q0, .inl (dA 0, 40, .inl (fun _ => 0)))] H _ := hW
  refine W.widen (k := 1) (n := 40) (Nat.le_of_ble_eq_true rfl) (Nat.le_of_ble_eq_true rfl) ?_
  refine cn_put C0 hni hW (q0 := 0) (k := 2) (v := .ref q0) (ty := .array .int) nn_y2 rfl rfl nn_w2 nn_ok2 nn_n2 (by decide) (dk_tb 269 rfl rfl) rfl (by decide +kernel) rfl rfl (Nat.le_of_ble_eq_true rfl) (by decide +kernel) (fun H locs hW => ?_)
  have hW : cn_W D A s [(b, .inr (2, [.int 0, .int 0, .ref q0])), (q0, .inl (dA 0, 40, .inl (fun _ => 0)))] H _ := hW
  refine W.eq (g2 := F0 m 22 ls []) rfl ?_
  refine W.widen (k := 1) (n := 40) (Nat.le_of_ble_eq_true rfl) (Nat.le_of_ble_eq_true rfl) ?_
  exact W.vret hx hb hr (fun t ht _ => ⟨⟨_, _, rfl, ⟨q0, rfl, rfl⟩, by rw [ht]; exact hW.1, hW.2.1⟩, hW.2.2.F ht⟩) hW.2.2.2.2 (by decide +kernel)
def po_4 (dA : Nat → ClassId) (a1 : Nat) (a2 : Nat) (fs : List Value) (xs : va_W) : Prop := ∃ q0 q1 : Nat, fs = [.ref a1, .ref a2, .ref q0, .ref q1] ∧ xs = [(q0, .inl (dA 0, 24, .inl (fun _ => 0))), (q1, .inl (dA 0, 24, .inl (fun _ => 0)))]
set_option maxRecDepth 100000 in
set_option maxHeartbeats 4000000 in
theorem k_4_init {dA : Nat → ClassId} {D : va_G} {n0 tF : Nat} (a1 : Nat) (a2 : Nat) : cn_M dA D n0 tF ⟨"LongColumn$Walk", "<init>", "(LLongColumn$Column;LLongColumn$Senses;)V"⟩ prog_6_method_1_code 3 { frames := 1, cells := 2, slots := 48, locals := 12 } 4 [.null, .null, .null, .null] [.ref a1, .ref a2] (po_4 dA a1 a2) 2 48 := by
  refine cn_met (by decide +kernel) (fun p l e s m below meth c b A C0 hml hr hlocks hni hW => ?_)
  have hx := C0.1
  have hb := C0.2.1
  have hown := C0.2.2.1
  have hts := C0.2.2.2.1
  have hK := C0.2.2.2.2.1
  have hAn := C0.2.2.2.2.2.2
  have hl := lv_entry (.ref b :: [.ref a1, .ref a2]) (n := 3) (Nat.le_of_ble_eq_true rfl)
  generalize (lg_sl (.ref b :: [.ref a1, .ref a2]) ++ List.replicate (3 - (lg_sl (.ref b :: [.ref a1, .ref a2])).length) Slot.unset).toArray = ls at hl ⊢
  have hl : lv_has ls 3 [(0, .ref b), (1, .ref a1), (2, .ref a2)] := hl
  have hW : cn_W D A s [(b, .inr (4, [.null, .null, .null, .null]))] s.heap [] := hW
  refine lv_aload_n hx hb (k := 0) (by decide +kernel) rfl (lv_at hl 0 rfl) ?_
  refine cn_obj C0 (dk_tb 245 rfl rfl) (by rw [hml]; exact hl.1) (by decide +kernel) (by decide) (by decide) ?_
  refine W.eq (g2 := F0 m 4 ls []) rfl ?_
  refine lv_aload_n hx hb (k := 0) (by decide +kernel) rfl (lv_at hl 0 rfl) ?_
  refine lv_bipush hx hb (n := 24) (v := 24) (by decide +kernel) (by decide) ?_
  refine cn_na C0 hW 24 (by decide) (by decide) (by decide) (by decide) (by decide) (by decide +kernel) (fun q0 H hW => ?_)
  have hW : cn_W D A s [(b, .inr (4, [.null, .null, .null, .null])), (q0, .inl (dA 0, 24, .inl (fun _ => 0)))] H _ := hW
  refine W.widen (k := 1) (n := 24) (Nat.le_of_ble_eq_true rfl) (Nat.le_of_ble_eq_true rfl) ?_
  refine cn_put C0 hni hW (q0 := 0) (k := 2) (v := .ref q0) (ty := .array .int) nn_y4 rfl rfl nn_w4 nn_ok4 nn_n4 (by decide) (dk_tb 248 rfl rfl) rfl (by decide +kernel) rfl rfl (Nat.le_of_ble_eq_true rfl) (by decide +kernel) (fun H locs hW => ?_)
  have hW : cn_W D A s [(b, .inr (4, [.null, .null, .ref q0, .null])), (q0, .inl (dA 0, 24, .inl (fun _ => 0)))] H _ := hW
  refine W.eq (g2 := F0 m 12 ls []) rfl ?_
  refine lv_aload_n hx hb (k := 0) (by decide +kernel) rfl (lv_at hl 0 rfl) ?_
  refine lv_bipush hx hb (n := 24) (v := 24) (by decide +kernel) (by decide) ?_
  refine cn_na C0 hW 24 (by decide) (by decide) (by decide) (by decide) (by decide) (by decide +kernel) (fun q1 H hW => ?_)
  have hW : cn_W D A s [(b, .inr (4, [.null, .null, .ref q0, .null])), (q0, .inl (dA 0, 24, .inl (fun _ => 0))), (q1, .inl (dA 0, 24, .inl (fun _ => 0)))] H _ := hW
  refine W.widen (k := 2) (n := 48) (Nat.le_of_ble_eq_true rfl) (Nat.le_of_ble_eq_true rfl) ?_
  refine cn_put C0 hni hW (q0 := 0) (k := 3) (v := .ref q1) (ty := .array .int) nn_y4 rfl rfl nn_w4 nn_ok4 nn_n4 (by decide) (dk_tb 250 rfl rfl) rfl (by decide +kernel) rfl rfl (Nat.le_of_ble_eq_true rfl) (by decide +kernel) (fun H locs hW => ?_)
  have hW : cn_W D A s [(b, .inr (4, [.null, .null, .ref q0, .ref q1])), (q0, .inl (dA 0, 24, .inl (fun _ => 0))), (q1, .inl (dA 0, 24, .inl (fun _ => 0)))] H _ := hW
  refine W.eq (g2 := F0 m 20 ls []) rfl ?_
  refine lv_aload_n hx hb (k := 0) (by decide +kernel) rfl (lv_at hl 0 rfl) ?_
  refine lv_aload_n hx hb (k := 1) (by decide +kernel) rfl (lv_at hl 1 rfl) ?_
  refine cn_put C0 hni hW (q0 := 0) (k := 0) (v := .ref a1) (ty := .object "LongColumn$Column") nn_y4 rfl rfl nn_w4 nn_ok4 nn_n4 (by decide) (dk_tb 246 rfl rfl) rfl (by decide +kernel) rfl rfl (Nat.le_of_ble_eq_true rfl) (by decide +kernel) (fun H locs hW => ?_)
  have hW : cn_W D A s [(b, .inr (4, [.ref a1, .null, .ref q0, .ref q1])), (q0, .inl (dA 0, 24, .inl (fun _ => 0))), (q1, .inl (dA 0, 24, .inl (fun _ => 0)))] H _ := hW
  refine W.eq (g2 := F0 m 25 ls []) rfl ?_
  refine lv_aload_n hx hb (k := 0) (by decide +kernel) rfl (lv_at hl 0 rfl) ?_
  refine lv_aload_n hx hb (k := 2) (by decide +kernel) rfl (lv_at hl 2 rfl) ?_
  refine cn_put C0 hni hW (q0 := 0) (k := 1) (v := .ref a2) (ty := .object "LongColumn$Senses") nn_y4 rfl rfl nn_w4 nn_ok4 nn_n4 (by decide) (dk_tb 247 rfl rfl) rfl (by decide +kernel) rfl rfl (Nat.le_of_ble_eq_true rfl) (by decide +kernel) (fun H locs hW => ?_)
  have hW : cn_W D A s [(b, .inr (4, [.ref a1, .ref a2, .ref q0, .ref q1])), (q0, .inl (dA 0, 24, .inl (fun _ => 0))), (q1, .inl (dA 0, 24, .inl (fun _ => 0)))] H _ := hW
  refine W.eq (g2 := F0 m 30 ls []) rfl ?_
  refine W.widen (k := 2) (n := 48) (Nat.le_of_ble_eq_true rfl) (Nat.le_of_ble_eq_true rfl) ?_
  exact W.vret hx hb hr (fun t ht _ => ⟨⟨_, _, rfl, ⟨q0, q1, rfl, rfl⟩, by rw [ht]; exact hW.1, hW.2.1⟩, hW.2.2.F ht⟩) hW.2.2.2.2 (by decide +kernel)
def po_3 (dA : Nat → ClassId) (fs : List Value) (xs : va_W) : Prop := ∃ q0 q1 : Nat, fs = [.ref q0, .int 0, .int 0, .int 0, .ref q1, .int 0, .int 0, .int 0, .int 0] ∧ xs = [(q0, .inl (dA 0, 120, .inl (fun _ => 0))), (q1, .inl (dA 0, 66, .inl (fun _ => 0)))]
set_option maxRecDepth 100000 in
set_option maxHeartbeats 4000000 in
theorem k_3_init {dA : Nat → ClassId} {D : va_G} {n0 tF : Nat} : cn_M dA D n0 tF ⟨"LongColumn$TextReader", "<init>", "()V"⟩ prog_5_method_1_code 1 { frames := 1, cells := 2, slots := 186, locals := 12 } 3 [.null, .int 0, .int 0, .int 0, .null, .int 0, .int 0, .int 0, .int 0] [] (po_3 dA) 2 186 := by
  refine cn_met (by decide +kernel) (fun p l e s m below meth c b A C0 hml hr hlocks hni hW => ?_)
  have hx := C0.1
  have hb := C0.2.1
  have hown := C0.2.2.1
  have hts := C0.2.2.2.1
  have hK := C0.2.2.2.2.1
  have hAn := C0.2.2.2.2.2.2
  have hl := lv_entry (.ref b :: []) (n := 1) (Nat.le_of_ble_eq_true rfl)
  generalize (lg_sl (.ref b :: []) ++ List.replicate (1 - (lg_sl (.ref b :: [])).length) Slot.unset).toArray = ls at hl ⊢
  have hl : lv_has ls 1 [(0, .ref b)] := hl
  have hW : cn_W D A s [(b, .inr (3, [.null, .int 0, .int 0, .int 0, .null, .int 0, .int 0, .int 0, .int 0]))] s.heap [] := hW
  refine lv_aload_n hx hb (k := 0) (by decide +kernel) rfl (lv_at hl 0 rfl) ?_
  refine cn_obj C0 (dk_tb 177 rfl rfl) (by rw [hml]; exact hl.1) (by decide +kernel) (by decide) (by decide) ?_
  refine W.eq (g2 := F0 m 4 ls []) rfl ?_
  refine lv_aload_n hx hb (k := 0) (by decide +kernel) rfl (lv_at hl 0 rfl) ?_
  refine lv_bipush hx hb (n := 120) (v := 120) (by decide +kernel) (by decide) ?_
  refine cn_na C0 hW 120 (by decide) (by decide) (by decide) (by decide) (by decide) (by decide +kernel) (fun q0 H hW => ?_)
  have hW : cn_W D A s [(b, .inr (3, [.null, .int 0, .int 0, .int 0, .null, .int 0, .int 0, .int 0, .int 0])), (q0, .inl (dA 0, 120, .inl (fun _ => 0)))] H _ := hW
  refine W.widen (k := 1) (n := 120) (Nat.le_of_ble_eq_true rfl) (Nat.le_of_ble_eq_true rfl) ?_
  refine cn_put C0 hni hW (q0 := 0) (k := 0) (v := .ref q0) (ty := .array .int) nn_y3 rfl rfl nn_w3 nn_ok3 nn_n3 (by decide) (dk_tb 178 rfl rfl) rfl (by decide +kernel) rfl rfl (Nat.le_of_ble_eq_true rfl) (by decide +kernel) (fun H locs hW => ?_)
  have hW : cn_W D A s [(b, .inr (3, [.ref q0, .int 0, .int 0, .int 0, .null, .int 0, .int 0, .int 0, .int 0])), (q0, .inl (dA 0, 120, .inl (fun _ => 0)))] H _ := hW
  refine W.eq (g2 := F0 m 12 ls []) rfl ?_
  refine lv_aload_n hx hb (k := 0) (by decide +kernel) rfl (lv_at hl 0 rfl) ?_
  refine lv_iconst hx hb (n := 0) (v := 0) (by decide +kernel) (by decide) ?_
  refine cn_put C0 hni hW (q0 := 0) (k := 1) (v := .int 0) (ty := .int) nn_y3 rfl rfl nn_w3 nn_ok3 nn_n3 (by decide) (dk_tb 180 rfl rfl) rfl (by decide +kernel) rfl rfl (Nat.le_of_ble_eq_true rfl) (by decide +kernel) (fun H locs hW => ?_)
  have hW : cn_W D A s [(b, .inr (3, [.ref q0, .int 0, .int 0, .int 0, .null, .int 0, .int 0, .int 0, .int 0])), (q0, .inl (dA 0, 120, .inl (fun _ => 0)))] H _ := hW
  refine W.eq (g2 := F0 m 17 ls []) rfl ?_
  refine lv_aload_n hx hb (k := 0) (by decide +kernel) rfl (lv_at hl 0 rfl) ?_
  refine lv_iconst hx hb (n := 0) (v := 0) (by decide +kernel) (by decide) ?_
  refine cn_put C0 hni hW (q0 := 0) (k := 2) (v := .int 0) (ty := .int) nn_y3 rfl rfl nn_w3 nn_ok3 nn_n3 (by decide) (dk_tb 182 rfl rfl) rfl (by decide +kernel) rfl rfl (Nat.le_of_ble_eq_true rfl) (by decide +kernel) (fun H locs hW => ?_)
  have hW : cn_W D A s [(b, .inr (3, [.ref q0, .int 0, .int 0, .int 0, .null, .int 0, .int 0, .int 0, .int 0])), (q0, .inl (dA 0, 120, .inl (fun _ => 0)))] H _ := hW
  refine W.eq (g2 := F0 m 22 ls []) rfl ?_
  refine lv_aload_n hx hb (k := 0) (by decide +kernel) rfl (lv_at hl 0 rfl) ?_
  refine lv_iconst hx hb (n := 0) (v := 0) (by decide +kernel) (by decide) ?_
  refine cn_put C0 hni hW (q0 := 0) (k := 3) (v := .int 0) (ty := .int) nn_y3 rfl rfl nn_w3 nn_ok3 nn_n3 (by decide) (dk_tb 184 rfl rfl) rfl (by decide +kernel) rfl rfl (Nat.le_of_ble_eq_true rfl) (by decide +kernel) (fun H locs hW => ?_)
  have hW : cn_W D A s [(b, .inr (3, [.ref q0, .int 0, .int 0, .int 0, .null, .int 0, .int 0, .int 0, .int 0])), (q0, .inl (dA 0, 120, .inl (fun _ => 0)))] H _ := hW
  refine W.eq (g2 := F0 m 27 ls []) rfl ?_
  refine lv_aload_n hx hb (k := 0) (by decide +kernel) rfl (lv_at hl 0 rfl) ?_
  refine lv_bipush hx hb (n := 66) (v := 66) (by decide +kernel) (by decide) ?_
  refine cn_na C0 hW 66 (by decide) (by decide) (by decide) (by decide) (by decide) (by decide +kernel) (fun q1 H hW => ?_)
  have hW : cn_W D A s [(b, .inr (3, [.ref q0, .int 0, .int 0, .int 0, .null, .int 0, .int 0, .int 0, .int 0])), (q0, .inl (dA 0, 120, .inl (fun _ => 0))), (q1, .inl (dA 0, 66, .inl (fun _ => 0)))] H _ := hW
  refine W.widen (k := 2) (n := 186) (Nat.le_of_ble_eq_true rfl) (Nat.le_of_ble_eq_true rfl) ?_
  refine cn_put C0 hni hW (q0 := 0) (k := 4) (v := .ref q1) (ty := .array .int) nn_y3 rfl rfl nn_w3 nn_ok3 nn_n3 (by decide) (dk_tb 186 rfl rfl) rfl (by decide +kernel) rfl rfl (Nat.le_of_ble_eq_true rfl) (by decide +kernel) (fun H locs hW => ?_)
  have hW : cn_W D A s [(b, .inr (3, [.ref q0, .int 0, .int 0, .int 0, .ref q1, .int 0, .int 0, .int 0, .int 0])), (q0, .inl (dA 0, 120, .inl (fun _ => 0))), (q1, .inl (dA 0, 66, .inl (fun _ => 0)))] H _ := hW
  refine W.eq (g2 := F0 m 35 ls []) rfl ?_
  refine lv_aload_n hx hb (k := 0) (by decide +kernel) rfl (lv_at hl 0 rfl) ?_
  refine lv_iconst hx hb (n := 0) (v := 0) (by decide +kernel) (by decide) ?_
  refine cn_put C0 hni hW (q0 := 0) (k := 5) (v := .int 0) (ty := .int) nn_y3 rfl rfl nn_w3 nn_ok3 nn_n3 (by decide) (dk_tb 187 rfl rfl) rfl (by decide +kernel) rfl rfl (Nat.le_of_ble_eq_true rfl) (by decide +kernel) (fun H locs hW => ?_)
  have hW : cn_W D A s [(b, .inr (3, [.ref q0, .int 0, .int 0, .int 0, .ref q1, .int 0, .int 0, .int 0, .int 0])), (q0, .inl (dA 0, 120, .inl (fun _ => 0))), (q1, .inl (dA 0, 66, .inl (fun _ => 0)))] H _ := hW
  refine W.eq (g2 := F0 m 40 ls []) rfl ?_
  refine lv_aload_n hx hb (k := 0) (by decide +kernel) rfl (lv_at hl 0 rfl) ?_
  refine lv_iconst hx hb (n := 0) (v := 0) (by decide +kernel) (by decide) ?_
  refine cn_put C0 hni hW (q0 := 0) (k := 6) (v := .int 0) (ty := .int) nn_y3 rfl rfl nn_w3 nn_ok3 nn_n3 (by decide) (dk_tb 188 rfl rfl) rfl (by decide +kernel) rfl rfl (Nat.le_of_ble_eq_true rfl) (by decide +kernel) (fun H locs hW => ?_)
  have hW : cn_W D A s [(b, .inr (3, [.ref q0, .int 0, .int 0, .int 0, .ref q1, .int 0, .int 0, .int 0, .int 0])), (q0, .inl (dA 0, 120, .inl (fun _ => 0))), (q1, .inl (dA 0, 66, .inl (fun _ => 0)))] H _ := hW
  refine W.eq (g2 := F0 m 45 ls []) rfl ?_
  refine lv_aload_n hx hb (k := 0) (by decide +kernel) rfl (lv_at hl 0 rfl) ?_
  refine lv_iconst hx hb (n := 0) (v := 0) (by decide +kernel) (by decide) ?_
  refine cn_put C0 hni hW (q0 := 0) (k := 7) (v := .int 0) (ty := .int) nn_y3 rfl rfl nn_w3 nn_ok3 nn_n3 (by decide) (dk_tb 189 rfl rfl) rfl (by decide +kernel) rfl rfl (Nat.le_of_ble_eq_true rfl) (by decide +kernel) (fun H locs hW => ?_)
  have hW : cn_W D A s [(b, .inr (3, [.ref q0, .int 0, .int 0, .int 0, .ref q1, .int 0, .int 0, .int 0, .int 0])), (q0, .inl (dA 0, 120, .inl (fun _ => 0))), (q1, .inl (dA 0, 66, .inl (fun _ => 0)))] H _ := hW
  refine W.eq (g2 := F0 m 50 ls []) rfl ?_
  refine lv_aload_n hx hb (k := 0) (by decide +kernel) rfl (lv_at hl 0 rfl) ?_
  refine lv_iconst hx hb (n := 0) (v := 0) (by decide +kernel) (by decide) ?_
  refine cn_put C0 hni hW (q0 := 0) (k := 8) (v := .int 0) (ty := .int) nn_y3 rfl rfl nn_w3 nn_ok3 nn_n3 (by decide) (dk_tb 190 rfl rfl) rfl (by decide +kernel) rfl rfl (Nat.le_of_ble_eq_true rfl) (by decide +kernel) (fun H locs hW => ?_)
  have hW : cn_W D A s [(b, .inr (3, [.ref q0, .int 0, .int 0, .int 0, .ref q1, .int 0, .int 0, .int 0, .int 0])), (q0, .inl (dA 0, 120, .inl (fun _ => 0))), (q1, .inl (dA 0, 66, .inl (fun _ => 0)))] H _ := hW
  refine W.eq (g2 := F0 m 55 ls []) rfl ?_
  refine W.widen (k := 2) (n := 186) (Nat.le_of_ble_eq_true rfl) (Nat.le_of_ble_eq_true rfl) ?_
  exact W.vret hx hb hr (fun t ht _ => ⟨⟨_, _, rfl, ⟨q0, q1, rfl, rfl⟩, by rw [ht]; exact hW.1, hW.2.1⟩, hW.2.2.F ht⟩) hW.2.2.2.2 (by decide +kernel)
def po_1 (dA : Nat → ClassId) (a1 : Nat) (fs : List Value) (xs : va_W) : Prop := ∃ q0 q1 q2 q3 : Nat, fs = [.ref a1, .int 500, .ref q0, .ref q1, .ref q2, .ref q3] ∧ xs = [(q0, .inl (dA 0, 24, .inl (fun _ => 0))), (q1, .inl (dA 1, 24, .inl (fun _ => 0))), (q2, .inl (dA 0, 24, .inl (fun _ => 0))), (q3, .inl (dA 0, 576, .inl (fun _ => 0)))]
set_option maxRecDepth 100000 in
set_option maxHeartbeats 4000000 in
theorem k_1_init {dA : Nat → ClassId} {D : va_G} {n0 tF : Nat} (a1 : Nat) : cn_M dA D n0 tF ⟨"LongColumn$Senses", "<init>", "(LLongColumn$Column;)V"⟩ prog_3_method_1_code 2 { frames := 1, cells := 4, slots := 648, locals := 12 } 1 [.null, .int 0, .null, .null, .null, .null] [.ref a1] (po_1 dA a1) 4 648 := by
  refine cn_met (by decide +kernel) (fun p l e s m below meth c b A C0 hml hr hlocks hni hW => ?_)
  have hx := C0.1
  have hb := C0.2.1
  have hown := C0.2.2.1
  have hts := C0.2.2.2.1
  have hK := C0.2.2.2.2.1
  have hAn := C0.2.2.2.2.2.2
  have hl := lv_entry (.ref b :: [.ref a1]) (n := 2) (Nat.le_of_ble_eq_true rfl)
  generalize (lg_sl (.ref b :: [.ref a1]) ++ List.replicate (2 - (lg_sl (.ref b :: [.ref a1])).length) Slot.unset).toArray = ls at hl ⊢
  have hl : lv_has ls 2 [(0, .ref b), (1, .ref a1)] := hl
  have hW : cn_W D A s [(b, .inr (1, [.null, .int 0, .null, .null, .null, .null]))] s.heap [] := hW
  refine lv_aload_n hx hb (k := 0) (by decide +kernel) rfl (lv_at hl 0 rfl) ?_
  refine cn_obj C0 (dk_tb 217 rfl rfl) (by rw [hml]; exact hl.1) (by decide +kernel) (by decide) (by decide) ?_
  refine W.eq (g2 := F0 m 4 ls []) rfl ?_
  refine lv_aload_n hx hb (k := 0) (by decide +kernel) rfl (lv_at hl 0 rfl) ?_
  refine va_getsN hx hb (hK.2.1.narrow hAn) hW.2.2 hown (va_Nw.use rfl (hK.2.2.2.1 ("LongColumn$Senses", 9, "LongColumn", "RULE_FIRST", "[I", "LongColumn") (by simp [cn_nF]))) (fun _ z => z) (by decide +kernel) ?_
  refine lv_iconst hx hb (n := 0) (v := 0) (by decide +kernel) (by decide) ?_
  refine va_ti hx hb (cn_TT (hK.2.2.1.narrow hAn)) hW.2.2 (by unfold vp_in; decide) (v := .int 500) rfl (by decide +kernel) ?_
  refine cn_put C0 hni hW (q0 := 0) (k := 1) (v := .int 500) (ty := .int) nn_y1 rfl rfl nn_w1 nn_ok1 nn_n1 (by decide) (dk_tb 220 rfl rfl) rfl (by decide +kernel) rfl rfl (Nat.le_of_ble_eq_true rfl) (by decide +kernel) (fun H locs hW => ?_)
  have hW : cn_W D A s [(b, .inr (1, [.null, .int 500, .null, .null, .null, .null]))] H _ := hW
  refine W.eq (g2 := F0 m 13 ls []) rfl ?_
  refine lv_aload_n hx hb (k := 0) (by decide +kernel) rfl (lv_at hl 0 rfl) ?_
  refine lv_bipush hx hb (n := 24) (v := 24) (by decide +kernel) (by decide) ?_
  refine cn_na C0 hW 24 (by decide) (by decide) (by decide) (by decide) (by decide) (by decide +kernel) (fun q0 H hW => ?_)
  have hW : cn_W D A s [(b, .inr (1, [.null, .int 500, .null, .null, .null, .null])), (q0, .inl (dA 0, 24, .inl (fun _ => 0)))] H _ := hW
  refine W.widen (k := 1) (n := 24) (Nat.le_of_ble_eq_true rfl) (Nat.le_of_ble_eq_true rfl) ?_
  refine cn_put C0 hni hW (q0 := 0) (k := 2) (v := .ref q0) (ty := .array .int) nn_y1 rfl rfl nn_w1 nn_ok1 nn_n1 (by decide) (dk_tb 222 rfl rfl) rfl (by decide +kernel) rfl rfl (Nat.le_of_ble_eq_true rfl) (by decide +kernel) (fun H locs hW => ?_)
  have hW : cn_W D A s [(b, .inr (1, [.null, .int 500, .ref q0, .null, .null, .null])), (q0, .inl (dA 0, 24, .inl (fun _ => 0)))] H _ := hW
  refine W.eq (g2 := F0 m 21 ls []) rfl ?_
  refine lv_aload_n hx hb (k := 0) (by decide +kernel) rfl (lv_at hl 0 rfl) ?_
  refine lv_bipush hx hb (n := 24) (v := 24) (by decide +kernel) (by decide) ?_
  refine cn_nb C0 hW 24 (by decide) (by decide) (by decide) (by decide) (by decide) (by decide +kernel) (fun q1 H hW => ?_)
  have hW : cn_W D A s [(b, .inr (1, [.null, .int 500, .ref q0, .null, .null, .null])), (q0, .inl (dA 0, 24, .inl (fun _ => 0))), (q1, .inl (dA 1, 24, .inl (fun _ => 0)))] H _ := hW
  refine W.widen (k := 2) (n := 48) (Nat.le_of_ble_eq_true rfl) (Nat.le_of_ble_eq_true rfl) ?_
  refine cn_put C0 hni hW (q0 := 0) (k := 3) (v := .ref q1) (ty := .array .boolean) nn_y1 rfl rfl nn_w1 nn_ok1 nn_n1 (by decide) (dk_tb 223 rfl rfl) rfl (by decide +kernel) rfl rfl (Nat.le_of_ble_eq_true rfl) (by decide +kernel) (fun H locs hW => ?_)
  have hW : cn_W D A s [(b, .inr (1, [.null, .int 500, .ref q0, .ref q1, .null, .null])), (q0, .inl (dA 0, 24, .inl (fun _ => 0))), (q1, .inl (dA 1, 24, .inl (fun _ => 0)))] H _ := hW
  refine W.eq (g2 := F0 m 29 ls []) rfl ?_
  refine lv_aload_n hx hb (k := 0) (by decide +kernel) rfl (lv_at hl 0 rfl) ?_
  refine lv_bipush hx hb (n := 24) (v := 24) (by decide +kernel) (by decide) ?_
  refine cn_na C0 hW 24 (by decide) (by decide) (by decide) (by decide) (by decide) (by decide +kernel) (fun q2 H hW => ?_)
  have hW : cn_W D A s [(b, .inr (1, [.null, .int 500, .ref q0, .ref q1, .null, .null])), (q0, .inl (dA 0, 24, .inl (fun _ => 0))), (q1, .inl (dA 1, 24, .inl (fun _ => 0))), (q2, .inl (dA 0, 24, .inl (fun _ => 0)))] H _ := hW
  refine W.widen (k := 3) (n := 72) (Nat.le_of_ble_eq_true rfl) (Nat.le_of_ble_eq_true rfl) ?_
  refine cn_put C0 hni hW (q0 := 0) (k := 4) (v := .ref q2) (ty := .array .int) nn_y1 rfl rfl nn_w1 nn_ok1 nn_n1 (by decide) (dk_tb 224 rfl rfl) rfl (by decide +kernel) rfl rfl (Nat.le_of_ble_eq_true rfl) (by decide +kernel) (fun H locs hW => ?_)
  have hW : cn_W D A s [(b, .inr (1, [.null, .int 500, .ref q0, .ref q1, .ref q2, .null])), (q0, .inl (dA 0, 24, .inl (fun _ => 0))), (q1, .inl (dA 1, 24, .inl (fun _ => 0))), (q2, .inl (dA 0, 24, .inl (fun _ => 0)))] H _ := hW
  refine W.eq (g2 := F0 m 37 ls []) rfl ?_
  refine lv_aload_n hx hb (k := 0) (by decide +kernel) rfl (lv_at hl 0 rfl) ?_
  refine lv_sipush hx hb (n := 576) (v := 576) (by decide +kernel) (by decide) ?_
  refine cn_na C0 hW 576 (by decide) (by decide) (by decide) (by decide) (by decide) (by decide +kernel) (fun q3 H hW => ?_)
  have hW : cn_W D A s [(b, .inr (1, [.null, .int 500, .ref q0, .ref q1, .ref q2, .null])), (q0, .inl (dA 0, 24, .inl (fun _ => 0))), (q1, .inl (dA 1, 24, .inl (fun _ => 0))), (q2, .inl (dA 0, 24, .inl (fun _ => 0))), (q3, .inl (dA 0, 576, .inl (fun _ => 0)))] H _ := hW
  refine W.widen (k := 4) (n := 648) (Nat.le_of_ble_eq_true rfl) (Nat.le_of_ble_eq_true rfl) ?_
  refine cn_put C0 hni hW (q0 := 0) (k := 5) (v := .ref q3) (ty := .array .int) nn_y1 rfl rfl nn_w1 nn_ok1 nn_n1 (by decide) (dk_tb 225 rfl rfl) rfl (by decide +kernel) rfl rfl (Nat.le_of_ble_eq_true rfl) (by decide +kernel) (fun H locs hW => ?_)
  have hW : cn_W D A s [(b, .inr (1, [.null, .int 500, .ref q0, .ref q1, .ref q2, .ref q3])), (q0, .inl (dA 0, 24, .inl (fun _ => 0))), (q1, .inl (dA 1, 24, .inl (fun _ => 0))), (q2, .inl (dA 0, 24, .inl (fun _ => 0))), (q3, .inl (dA 0, 576, .inl (fun _ => 0)))] H _ := hW
  refine W.eq (g2 := F0 m 46 ls []) rfl ?_
  refine lv_aload_n hx hb (k := 0) (by decide +kernel) rfl (lv_at hl 0 rfl) ?_
  refine lv_aload_n hx hb (k := 1) (by decide +kernel) rfl (lv_at hl 1 rfl) ?_
  refine cn_put C0 hni hW (q0 := 0) (k := 0) (v := .ref a1) (ty := .object "LongColumn$Column") nn_y1 rfl rfl nn_w1 nn_ok1 nn_n1 (by decide) (dk_tb 219 rfl rfl) rfl (by decide +kernel) rfl rfl (Nat.le_of_ble_eq_true rfl) (by decide +kernel) (fun H locs hW => ?_)
  have hW : cn_W D A s [(b, .inr (1, [.ref a1, .int 500, .ref q0, .ref q1, .ref q2, .ref q3])), (q0, .inl (dA 0, 24, .inl (fun _ => 0))), (q1, .inl (dA 1, 24, .inl (fun _ => 0))), (q2, .inl (dA 0, 24, .inl (fun _ => 0))), (q3, .inl (dA 0, 576, .inl (fun _ => 0)))] H _ := hW
  refine W.eq (g2 := F0 m 51 ls []) rfl ?_
  refine W.widen (k := 4) (n := 648) (Nat.le_of_ble_eq_true rfl) (Nat.le_of_ble_eq_true rfl) ?_
  exact W.vret hx hb hr (fun t ht _ => ⟨⟨_, _, rfl, ⟨q0, q1, q2, q3, rfl, rfl⟩, by rw [ht]; exact hW.1, hW.2.1⟩, hW.2.2.F ht⟩) hW.2.2.2.2 (by decide +kernel)
def po_0 (dA : Nat → ClassId) (fs : List Value) (xs : va_W) : Prop := ∃ q0 q1 q2 q3 q4 q5 q6 q7 q8 q9 q10 q11 : Nat, fs = [.ref q0, .int 0, .ref q1, .ref q2, .ref q3, .ref q4, .ref q5, .ref q6, .int 0, .ref q7, .ref q8, .ref q9, .int 0, .ref q10, .ref q11, .int 1] ∧ xs = [(q0, .inl (dA 0, 7, .inl (cn_rf))), (q1, .inl (dA 0, 24, .inl (fun _ => 0))), (q2, .inl (dA 0, 24, .inl (fun _ => 0))), (q3, .inl (dA 0, 24, .inl (fun _ => 0))), (q4, .inl (dA 0, 24, .inl (fun _ => 0))), (q5, .inl (dA 0, 24, .inl (fun _ => 0))), (q6, .inl (dA 0, 24, .inl (fun _ => 0))), (q7, .inl (dA 0, 6, .inl (fun _ => 0))), (q8, .inl (dA 0, 6, .inl (fun _ => 0))), (q9, .inl (dA 0, 6, .inl (fun _ => 0))), (q10, .inl (dA 0, 6, .inl (fun _ => 0))), (q11, .inl (dA 0, 10, .inl (fun j => if j < 10 then (-1) else (fun _ => 0) j)))]
set_option maxRecDepth 100000 in
set_option maxHeartbeats 4000000 in
theorem k_0_init {dA : Nat → ClassId} {D : va_G} {n0 tF : Nat} : cn_M dA D n0 tF ⟨"LongColumn$Column", "<init>", "()V"⟩ prog_2_method_1_code 1 { frames := 1, cells := 12, slots := 185, locals := 23 } 0 [.null, .int 0, .null, .null, .null, .null, .null, .null, .int 0, .null, .null, .null, .int 0, .null, .null, .int 0] [] (po_0 dA) 12 185 := by
  refine cn_met (by decide +kernel) (fun p l e s m below meth c b A C0 hml hr hlocks hni hW => ?_)
  have hx := C0.1
  have hb := C0.2.1
  have hown := C0.2.2.1
  have hts := C0.2.2.2.1
  have hK := C0.2.2.2.2.1
  have hAn := C0.2.2.2.2.2.2
  have hl := lv_entry (.ref b :: []) (n := 1) (Nat.le_of_ble_eq_true rfl)
  generalize (lg_sl (.ref b :: []) ++ List.replicate (1 - (lg_sl (.ref b :: [])).length) Slot.unset).toArray = ls at hl ⊢
  have hl : lv_has ls 1 [(0, .ref b)] := hl
  have hW : cn_W D A s [(b, .inr (0, [.null, .int 0, .null, .null, .null, .null, .null, .null, .int 0, .null, .null, .null, .int 0, .null, .null, .int 0]))] s.heap [] := hW
  refine lv_aload_n hx hb (k := 0) (by decide +kernel) rfl (lv_at hl 0 rfl) ?_
  refine cn_obj C0 (dk_tb 84 rfl rfl) (by rw [hml]; exact hl.1) (by decide +kernel) (by decide) (by decide) ?_
  refine W.eq (g2 := F0 m 4 ls []) rfl ?_
  refine lv_aload_n hx hb (k := 0) (by decide +kernel) rfl (lv_at hl 0 rfl) ?_
  refine va_getsN hx hb (hK.2.1.narrow hAn) hW.2.2 hown (va_Nw.use rfl (hK.2.2.2.1 ("LongColumn$Column", 9, "LongColumn", "RULE_FIRST", "[I", "LongColumn") (by simp [cn_nF]))) (fun _ z => z) (by decide +kernel) ?_
  refine cn_clone C0 hW (by rw [hml]; exact hl.1.symm) (dk_tb 87 rfl rfl) (by decide) (Nat.le_of_ble_eq_true rfl) (by decide) (by decide) (by decide +kernel) (fun q0 H hW => ?_)
  have hW : cn_W D A s [(b, .inr (0, [.null, .int 0, .null, .null, .null, .null, .null, .null, .int 0, .null, .null, .null, .int 0, .null, .null, .int 0])), (q0, .inl (dA 0, 7, .inl (cn_rf)))] H _ := hW
  refine W.widen (k := 1) (n := 7) (Nat.le_of_ble_eq_true rfl) (Nat.le_of_ble_eq_true rfl) ?_
  refine va_castA hx hb hown (hts _ (dk_tb 93 rfl rfl)) hW.1 1 rfl (va_nm_int (hK.1.2 0 (dA 0, .int) rfl).2) (by decide +kernel) ?_
  refine cn_put C0 hni hW (q0 := 0) (k := 0) (v := .ref q0) (ty := .array .int) nn_y0 rfl rfl nn_w0 nn_ok0 nn_n0 (by decide) (dk_tb 97 rfl rfl) rfl (by decide +kernel) rfl rfl (Nat.le_of_ble_eq_true rfl) (by decide +kernel) (fun H locs hW => ?_)
  have hW : cn_W D A s [(b, .inr (0, [.ref q0, .int 0, .null, .null, .null, .null, .null, .null, .int 0, .null, .null, .null, .int 0, .null, .null, .int 0])), (q0, .inl (dA 0, 7, .inl (cn_rf)))] H _ := hW
  refine W.eq (g2 := F0 m 17 ls []) rfl ?_
  refine lv_aload_n hx hb (k := 0) (by decide +kernel) rfl (lv_at hl 0 rfl) ?_
  refine lv_iconst hx hb (n := 0) (v := 0) (by decide +kernel) (by decide) ?_
  refine cn_put C0 hni hW (q0 := 0) (k := 1) (v := .int 0) (ty := .int) nn_y0 rfl rfl nn_w0 nn_ok0 nn_n0 (by decide) (dk_tb 100 rfl rfl) rfl (by decide +kernel) rfl rfl (Nat.le_of_ble_eq_true rfl) (by decide +kernel) (fun H locs hW => ?_)
  have hW : cn_W D A s [(b, .inr (0, [.ref q0, .int 0, .null, .null, .null, .null, .null, .null, .int 0, .null, .null, .null, .int 0, .null, .null, .int 0])), (q0, .inl (dA 0, 7, .inl (cn_rf)))] H _ := hW
  refine W.eq (g2 := F0 m 22 ls []) rfl ?_
  refine lv_aload_n hx hb (k := 0) (by decide +kernel) rfl (lv_at hl 0 rfl) ?_
  refine lv_bipush hx hb (n := 24) (v := 24) (by decide +kernel) (by decide) ?_
  refine cn_na C0 hW 24 (by decide) (by decide) (by decide) (by decide) (by decide) (by decide +kernel) (fun q1 H hW => ?_)
  have hW : cn_W D A s [(b, .inr (0, [.ref q0, .int 0, .null, .null, .null, .null, .null, .null, .int 0, .null, .null, .null, .int 0, .null, .null, .int 0])), (q0, .inl (dA 0, 7, .inl (cn_rf))), (q1, .inl (dA 0, 24, .inl (fun _ => 0)))] H _ := hW
  refine W.widen (k := 2) (n := 31) (Nat.le_of_ble_eq_true rfl) (Nat.le_of_ble_eq_true rfl) ?_
  refine cn_put C0 hni hW (q0 := 0) (k := 2) (v := .ref q1) (ty := .array .int) nn_y0 rfl rfl nn_w0 nn_ok0 nn_n0 (by decide) (dk_tb 104 rfl rfl) rfl (by decide +kernel) rfl rfl (Nat.le_of_ble_eq_true rfl) (by decide +kernel) (fun H locs hW => ?_)
  have hW : cn_W D A s [(b, .inr (0, [.ref q0, .int 0, .ref q1, .null, .null, .null, .null, .null, .int 0, .null, .null, .null, .int 0, .null, .null, .int 0])), (q0, .inl (dA 0, 7, .inl (cn_rf))), (q1, .inl (dA 0, 24, .inl (fun _ => 0)))] H _ := hW
  refine W.eq (g2 := F0 m 30 ls []) rfl ?_
  refine lv_aload_n hx hb (k := 0) (by decide +kernel) rfl (lv_at hl 0 rfl) ?_
  refine lv_bipush hx hb (n := 24) (v := 24) (by decide +kernel) (by decide) ?_
  refine cn_na C0 hW 24 (by decide) (by decide) (by decide) (by decide) (by decide) (by decide +kernel) (fun q2 H hW => ?_)
  have hW : cn_W D A s [(b, .inr (0, [.ref q0, .int 0, .ref q1, .null, .null, .null, .null, .null, .int 0, .null, .null, .null, .int 0, .null, .null, .int 0])), (q0, .inl (dA 0, 7, .inl (cn_rf))), (q1, .inl (dA 0, 24, .inl (fun _ => 0))), (q2, .inl (dA 0, 24, .inl (fun _ => 0)))] H _ := hW
  refine W.widen (k := 3) (n := 55) (Nat.le_of_ble_eq_true rfl) (Nat.le_of_ble_eq_true rfl) ?_
  refine cn_put C0 hni hW (q0 := 0) (k := 3) (v := .ref q2) (ty := .array .int) nn_y0 rfl rfl nn_w0 nn_ok0 nn_n0 (by decide) (dk_tb 107 rfl rfl) rfl (by decide +kernel) rfl rfl (Nat.le_of_ble_eq_true rfl) (by decide +kernel) (fun H locs hW => ?_)
  have hW : cn_W D A s [(b, .inr (0, [.ref q0, .int 0, .ref q1, .ref q2, .null, .null, .null, .null, .int 0, .null, .null, .null, .int 0, .null, .null, .int 0])), (q0, .inl (dA 0, 7, .inl (cn_rf))), (q1, .inl (dA 0, 24, .inl (fun _ => 0))), (q2, .inl (dA 0, 24, .inl (fun _ => 0)))] H _ := hW
  refine W.eq (g2 := F0 m 38 ls []) rfl ?_
  refine lv_aload_n hx hb (k := 0) (by decide +kernel) rfl (lv_at hl 0 rfl) ?_
  refine lv_bipush hx hb (n := 24) (v := 24) (by decide +kernel) (by decide) ?_
  refine cn_na C0 hW 24 (by decide) (by decide) (by decide) (by decide) (by decide) (by decide +kernel) (fun q3 H hW => ?_)
  have hW : cn_W D A s [(b, .inr (0, [.ref q0, .int 0, .ref q1, .ref q2, .null, .null, .null, .null, .int 0, .null, .null, .null, .int 0, .null, .null, .int 0])), (q0, .inl (dA 0, 7, .inl (cn_rf))), (q1, .inl (dA 0, 24, .inl (fun _ => 0))), (q2, .inl (dA 0, 24, .inl (fun _ => 0))), (q3, .inl (dA 0, 24, .inl (fun _ => 0)))] H _ := hW
  refine W.widen (k := 4) (n := 79) (Nat.le_of_ble_eq_true rfl) (Nat.le_of_ble_eq_true rfl) ?_
  refine cn_put C0 hni hW (q0 := 0) (k := 4) (v := .ref q3) (ty := .array .int) nn_y0 rfl rfl nn_w0 nn_ok0 nn_n0 (by decide) (dk_tb 110 rfl rfl) rfl (by decide +kernel) rfl rfl (Nat.le_of_ble_eq_true rfl) (by decide +kernel) (fun H locs hW => ?_)
  have hW : cn_W D A s [(b, .inr (0, [.ref q0, .int 0, .ref q1, .ref q2, .ref q3, .null, .null, .null, .int 0, .null, .null, .null, .int 0, .null, .null, .int 0])), (q0, .inl (dA 0, 7, .inl (cn_rf))), (q1, .inl (dA 0, 24, .inl (fun _ => 0))), (q2, .inl (dA 0, 24, .inl (fun _ => 0))), (q3, .inl (dA 0, 24, .inl (fun _ => 0)))] H _ := hW
  refine W.eq (g2 := F0 m 46 ls []) rfl ?_
  refine lv_aload_n hx hb (k := 0) (by decide +kernel) rfl (lv_at hl 0 rfl) ?_
  refine lv_bipush hx hb (n := 24) (v := 24) (by decide +kernel) (by decide) ?_
  refine cn_na C0 hW 24 (by decide) (by decide) (by decide) (by decide) (by decide) (by decide +kernel) (fun q4 H hW => ?_)
  have hW : cn_W D A s [(b, .inr (0, [.ref q0, .int 0, .ref q1, .ref q2, .ref q3, .null, .null, .null, .int 0, .null, .null, .null, .int 0, .null, .null, .int 0])), (q0, .inl (dA 0, 7, .inl (cn_rf))), (q1, .inl (dA 0, 24, .inl (fun _ => 0))), (q2, .inl (dA 0, 24, .inl (fun _ => 0))), (q3, .inl (dA 0, 24, .inl (fun _ => 0))), (q4, .inl (dA 0, 24, .inl (fun _ => 0)))] H _ := hW
  refine W.widen (k := 5) (n := 103) (Nat.le_of_ble_eq_true rfl) (Nat.le_of_ble_eq_true rfl) ?_
  refine cn_put C0 hni hW (q0 := 0) (k := 5) (v := .ref q4) (ty := .array .int) nn_y0 rfl rfl nn_w0 nn_ok0 nn_n0 (by decide) (dk_tb 113 rfl rfl) rfl (by decide +kernel) rfl rfl (Nat.le_of_ble_eq_true rfl) (by decide +kernel) (fun H locs hW => ?_)
  have hW : cn_W D A s [(b, .inr (0, [.ref q0, .int 0, .ref q1, .ref q2, .ref q3, .ref q4, .null, .null, .int 0, .null, .null, .null, .int 0, .null, .null, .int 0])), (q0, .inl (dA 0, 7, .inl (cn_rf))), (q1, .inl (dA 0, 24, .inl (fun _ => 0))), (q2, .inl (dA 0, 24, .inl (fun _ => 0))), (q3, .inl (dA 0, 24, .inl (fun _ => 0))), (q4, .inl (dA 0, 24, .inl (fun _ => 0)))] H _ := hW
  refine W.eq (g2 := F0 m 54 ls []) rfl ?_
  refine lv_aload_n hx hb (k := 0) (by decide +kernel) rfl (lv_at hl 0 rfl) ?_
  refine lv_bipush hx hb (n := 24) (v := 24) (by decide +kernel) (by decide) ?_
  refine cn_na C0 hW 24 (by decide) (by decide) (by decide) (by decide) (by decide) (by decide +kernel) (fun q5 H hW => ?_)
  have hW : cn_W D A s [(b, .inr (0, [.ref q0, .int 0, .ref q1, .ref q2, .ref q3, .ref q4, .null, .null, .int 0, .null, .null, .null, .int 0, .null, .null, .int 0])), (q0, .inl (dA 0, 7, .inl (cn_rf))), (q1, .inl (dA 0, 24, .inl (fun _ => 0))), (q2, .inl (dA 0, 24, .inl (fun _ => 0))), (q3, .inl (dA 0, 24, .inl (fun _ => 0))), (q4, .inl (dA 0, 24, .inl (fun _ => 0))), (q5, .inl (dA 0, 24, .inl (fun _ => 0)))] H _ := hW
  refine W.widen (k := 6) (n := 127) (Nat.le_of_ble_eq_true rfl) (Nat.le_of_ble_eq_true rfl) ?_
  refine cn_put C0 hni hW (q0 := 0) (k := 6) (v := .ref q5) (ty := .array .int) nn_y0 rfl rfl nn_w0 nn_ok0 nn_n0 (by decide) (dk_tb 116 rfl rfl) rfl (by decide +kernel) rfl rfl (Nat.le_of_ble_eq_true rfl) (by decide +kernel) (fun H locs hW => ?_)
  have hW : cn_W D A s [(b, .inr (0, [.ref q0, .int 0, .ref q1, .ref q2, .ref q3, .ref q4, .ref q5, .null, .int 0, .null, .null, .null, .int 0, .null, .null, .int 0])), (q0, .inl (dA 0, 7, .inl (cn_rf))), (q1, .inl (dA 0, 24, .inl (fun _ => 0))), (q2, .inl (dA 0, 24, .inl (fun _ => 0))), (q3, .inl (dA 0, 24, .inl (fun _ => 0))), (q4, .inl (dA 0, 24, .inl (fun _ => 0))), (q5, .inl (dA 0, 24, .inl (fun _ => 0)))] H _ := hW
  refine W.eq (g2 := F0 m 62 ls []) rfl ?_
  refine lv_aload_n hx hb (k := 0) (by decide +kernel) rfl (lv_at hl 0 rfl) ?_
  refine lv_bipush hx hb (n := 24) (v := 24) (by decide +kernel) (by decide) ?_
  refine cn_na C0 hW 24 (by decide) (by decide) (by decide) (by decide) (by decide) (by decide +kernel) (fun q6 H hW => ?_)
  have hW : cn_W D A s [(b, .inr (0, [.ref q0, .int 0, .ref q1, .ref q2, .ref q3, .ref q4, .ref q5, .null, .int 0, .null, .null, .null, .int 0, .null, .null, .int 0])), (q0, .inl (dA 0, 7, .inl (cn_rf))), (q1, .inl (dA 0, 24, .inl (fun _ => 0))), (q2, .inl (dA 0, 24, .inl (fun _ => 0))), (q3, .inl (dA 0, 24, .inl (fun _ => 0))), (q4, .inl (dA 0, 24, .inl (fun _ => 0))), (q5, .inl (dA 0, 24, .inl (fun _ => 0))), (q6, .inl (dA 0, 24, .inl (fun _ => 0)))] H _ := hW
  refine W.widen (k := 7) (n := 151) (Nat.le_of_ble_eq_true rfl) (Nat.le_of_ble_eq_true rfl) ?_
  refine cn_put C0 hni hW (q0 := 0) (k := 7) (v := .ref q6) (ty := .array .int) nn_y0 rfl rfl nn_w0 nn_ok0 nn_n0 (by decide) (dk_tb 119 rfl rfl) rfl (by decide +kernel) rfl rfl (Nat.le_of_ble_eq_true rfl) (by decide +kernel) (fun H locs hW => ?_)
  have hW : cn_W D A s [(b, .inr (0, [.ref q0, .int 0, .ref q1, .ref q2, .ref q3, .ref q4, .ref q5, .ref q6, .int 0, .null, .null, .null, .int 0, .null, .null, .int 0])), (q0, .inl (dA 0, 7, .inl (cn_rf))), (q1, .inl (dA 0, 24, .inl (fun _ => 0))), (q2, .inl (dA 0, 24, .inl (fun _ => 0))), (q3, .inl (dA 0, 24, .inl (fun _ => 0))), (q4, .inl (dA 0, 24, .inl (fun _ => 0))), (q5, .inl (dA 0, 24, .inl (fun _ => 0))), (q6, .inl (dA 0, 24, .inl (fun _ => 0)))] H _ := hW
  refine W.eq (g2 := F0 m 70 ls []) rfl ?_
  refine lv_aload_n hx hb (k := 0) (by decide +kernel) rfl (lv_at hl 0 rfl) ?_
  refine lv_iconst hx hb (n := 0) (v := 0) (by decide +kernel) (by decide) ?_
  refine cn_put C0 hni hW (q0 := 0) (k := 8) (v := .int 0) (ty := .int) nn_y0 rfl rfl nn_w0 nn_ok0 nn_n0 (by decide) (dk_tb 122 rfl rfl) rfl (by decide +kernel) rfl rfl (Nat.le_of_ble_eq_true rfl) (by decide +kernel) (fun H locs hW => ?_)
  have hW : cn_W D A s [(b, .inr (0, [.ref q0, .int 0, .ref q1, .ref q2, .ref q3, .ref q4, .ref q5, .ref q6, .int 0, .null, .null, .null, .int 0, .null, .null, .int 0])), (q0, .inl (dA 0, 7, .inl (cn_rf))), (q1, .inl (dA 0, 24, .inl (fun _ => 0))), (q2, .inl (dA 0, 24, .inl (fun _ => 0))), (q3, .inl (dA 0, 24, .inl (fun _ => 0))), (q4, .inl (dA 0, 24, .inl (fun _ => 0))), (q5, .inl (dA 0, 24, .inl (fun _ => 0))), (q6, .inl (dA 0, 24, .inl (fun _ => 0)))] H _ := hW
  refine W.eq (g2 := F0 m 75 ls []) rfl ?_
  refine lv_aload_n hx hb (k := 0) (by decide +kernel) rfl (lv_at hl 0 rfl) ?_
  refine lv_bipush hx hb (n := 6) (v := 6) (by decide +kernel) (by decide) ?_
  refine cn_na C0 hW 6 (by decide) (by decide) (by decide) (by decide) (by decide) (by decide +kernel) (fun q7 H hW => ?_)
  have hW : cn_W D A s [(b, .inr (0, [.ref q0, .int 0, .ref q1, .ref q2, .ref q3, .ref q4, .ref q5, .ref q6, .int 0, .null, .null, .null, .int 0, .null, .null, .int 0])), (q0, .inl (dA 0, 7, .inl (cn_rf))), (q1, .inl (dA 0, 24, .inl (fun _ => 0))), (q2, .inl (dA 0, 24, .inl (fun _ => 0))), (q3, .inl (dA 0, 24, .inl (fun _ => 0))), (q4, .inl (dA 0, 24, .inl (fun _ => 0))), (q5, .inl (dA 0, 24, .inl (fun _ => 0))), (q6, .inl (dA 0, 24, .inl (fun _ => 0))), (q7, .inl (dA 0, 6, .inl (fun _ => 0)))] H _ := hW
  refine W.widen (k := 8) (n := 157) (Nat.le_of_ble_eq_true rfl) (Nat.le_of_ble_eq_true rfl) ?_
  refine cn_put C0 hni hW (q0 := 0) (k := 9) (v := .ref q7) (ty := .array .int) nn_y0 rfl rfl nn_w0 nn_ok0 nn_n0 (by decide) (dk_tb 124 rfl rfl) rfl (by decide +kernel) rfl rfl (Nat.le_of_ble_eq_true rfl) (by decide +kernel) (fun H locs hW => ?_)
  have hW : cn_W D A s [(b, .inr (0, [.ref q0, .int 0, .ref q1, .ref q2, .ref q3, .ref q4, .ref q5, .ref q6, .int 0, .ref q7, .null, .null, .int 0, .null, .null, .int 0])), (q0, .inl (dA 0, 7, .inl (cn_rf))), (q1, .inl (dA 0, 24, .inl (fun _ => 0))), (q2, .inl (dA 0, 24, .inl (fun _ => 0))), (q3, .inl (dA 0, 24, .inl (fun _ => 0))), (q4, .inl (dA 0, 24, .inl (fun _ => 0))), (q5, .inl (dA 0, 24, .inl (fun _ => 0))), (q6, .inl (dA 0, 24, .inl (fun _ => 0))), (q7, .inl (dA 0, 6, .inl (fun _ => 0)))] H _ := hW
  refine W.eq (g2 := F0 m 83 ls []) rfl ?_
  refine lv_aload_n hx hb (k := 0) (by decide +kernel) rfl (lv_at hl 0 rfl) ?_
  refine lv_bipush hx hb (n := 6) (v := 6) (by decide +kernel) (by decide) ?_
  refine cn_na C0 hW 6 (by decide) (by decide) (by decide) (by decide) (by decide) (by decide +kernel) (fun q8 H hW => ?_)
  have hW : cn_W D A s [(b, .inr (0, [.ref q0, .int 0, .ref q1, .ref q2, .ref q3, .ref q4, .ref q5, .ref q6, .int 0, .ref q7, .null, .null, .int 0, .null, .null, .int 0])), (q0, .inl (dA 0, 7, .inl (cn_rf))), (q1, .inl (dA 0, 24, .inl (fun _ => 0))), (q2, .inl (dA 0, 24, .inl (fun _ => 0))), (q3, .inl (dA 0, 24, .inl (fun _ => 0))), (q4, .inl (dA 0, 24, .inl (fun _ => 0))), (q5, .inl (dA 0, 24, .inl (fun _ => 0))), (q6, .inl (dA 0, 24, .inl (fun _ => 0))), (q7, .inl (dA 0, 6, .inl (fun _ => 0))), (q8, .inl (dA 0, 6, .inl (fun _ => 0)))] H _ := hW
  refine W.widen (k := 9) (n := 163) (Nat.le_of_ble_eq_true rfl) (Nat.le_of_ble_eq_true rfl) ?_
  refine cn_put C0 hni hW (q0 := 0) (k := 10) (v := .ref q8) (ty := .array .int) nn_y0 rfl rfl nn_w0 nn_ok0 nn_n0 (by decide) (dk_tb 126 rfl rfl) rfl (by decide +kernel) rfl rfl (Nat.le_of_ble_eq_true rfl) (by decide +kernel) (fun H locs hW => ?_)
  have hW : cn_W D A s [(b, .inr (0, [.ref q0, .int 0, .ref q1, .ref q2, .ref q3, .ref q4, .ref q5, .ref q6, .int 0, .ref q7, .ref q8, .null, .int 0, .null, .null, .int 0])), (q0, .inl (dA 0, 7, .inl (cn_rf))), (q1, .inl (dA 0, 24, .inl (fun _ => 0))), (q2, .inl (dA 0, 24, .inl (fun _ => 0))), (q3, .inl (dA 0, 24, .inl (fun _ => 0))), (q4, .inl (dA 0, 24, .inl (fun _ => 0))), (q5, .inl (dA 0, 24, .inl (fun _ => 0))), (q6, .inl (dA 0, 24, .inl (fun _ => 0))), (q7, .inl (dA 0, 6, .inl (fun _ => 0))), (q8, .inl (dA 0, 6, .inl (fun _ => 0)))] H _ := hW
  refine W.eq (g2 := F0 m 91 ls []) rfl ?_
  refine lv_aload_n hx hb (k := 0) (by decide +kernel) rfl (lv_at hl 0 rfl) ?_
  refine lv_bipush hx hb (n := 6) (v := 6) (by decide +kernel) (by decide) ?_
  refine cn_na C0 hW 6 (by decide) (by decide) (by decide) (by decide) (by decide) (by decide +kernel) (fun q9 H hW => ?_)
  have hW : cn_W D A s [(b, .inr (0, [.ref q0, .int 0, .ref q1, .ref q2, .ref q3, .ref q4, .ref q5, .ref q6, .int 0, .ref q7, .ref q8, .null, .int 0, .null, .null, .int 0])), (q0, .inl (dA 0, 7, .inl (cn_rf))), (q1, .inl (dA 0, 24, .inl (fun _ => 0))), (q2, .inl (dA 0, 24, .inl (fun _ => 0))), (q3, .inl (dA 0, 24, .inl (fun _ => 0))), (q4, .inl (dA 0, 24, .inl (fun _ => 0))), (q5, .inl (dA 0, 24, .inl (fun _ => 0))), (q6, .inl (dA 0, 24, .inl (fun _ => 0))), (q7, .inl (dA 0, 6, .inl (fun _ => 0))), (q8, .inl (dA 0, 6, .inl (fun _ => 0))), (q9, .inl (dA 0, 6, .inl (fun _ => 0)))] H _ := hW
  refine W.widen (k := 10) (n := 169) (Nat.le_of_ble_eq_true rfl) (Nat.le_of_ble_eq_true rfl) ?_
  refine cn_put C0 hni hW (q0 := 0) (k := 11) (v := .ref q9) (ty := .array .int) nn_y0 rfl rfl nn_w0 nn_ok0 nn_n0 (by decide) (dk_tb 128 rfl rfl) rfl (by decide +kernel) rfl rfl (Nat.le_of_ble_eq_true rfl) (by decide +kernel) (fun H locs hW => ?_)
  have hW : cn_W D A s [(b, .inr (0, [.ref q0, .int 0, .ref q1, .ref q2, .ref q3, .ref q4, .ref q5, .ref q6, .int 0, .ref q7, .ref q8, .ref q9, .int 0, .null, .null, .int 0])), (q0, .inl (dA 0, 7, .inl (cn_rf))), (q1, .inl (dA 0, 24, .inl (fun _ => 0))), (q2, .inl (dA 0, 24, .inl (fun _ => 0))), (q3, .inl (dA 0, 24, .inl (fun _ => 0))), (q4, .inl (dA 0, 24, .inl (fun _ => 0))), (q5, .inl (dA 0, 24, .inl (fun _ => 0))), (q6, .inl (dA 0, 24, .inl (fun _ => 0))), (q7, .inl (dA 0, 6, .inl (fun _ => 0))), (q8, .inl (dA 0, 6, .inl (fun _ => 0))), (q9, .inl (dA 0, 6, .inl (fun _ => 0)))] H _ := hW
  refine W.eq (g2 := F0 m 99 ls []) rfl ?_
  refine lv_aload_n hx hb (k := 0) (by decide +kernel) rfl (lv_at hl 0 rfl) ?_
  refine lv_iconst hx hb (n := 0) (v := 0) (by decide +kernel) (by decide) ?_
  refine cn_put C0 hni hW (q0 := 0) (k := 12) (v := .int 0) (ty := .int) nn_y0 rfl rfl nn_w0 nn_ok0 nn_n0 (by decide) (dk_tb 130 rfl rfl) rfl (by decide +kernel) rfl rfl (Nat.le_of_ble_eq_true rfl) (by decide +kernel) (fun H locs hW => ?_)
  have hW : cn_W D A s [(b, .inr (0, [.ref q0, .int 0, .ref q1, .ref q2, .ref q3, .ref q4, .ref q5, .ref q6, .int 0, .ref q7, .ref q8, .ref q9, .int 0, .null, .null, .int 0])), (q0, .inl (dA 0, 7, .inl (cn_rf))), (q1, .inl (dA 0, 24, .inl (fun _ => 0))), (q2, .inl (dA 0, 24, .inl (fun _ => 0))), (q3, .inl (dA 0, 24, .inl (fun _ => 0))), (q4, .inl (dA 0, 24, .inl (fun _ => 0))), (q5, .inl (dA 0, 24, .inl (fun _ => 0))), (q6, .inl (dA 0, 24, .inl (fun _ => 0))), (q7, .inl (dA 0, 6, .inl (fun _ => 0))), (q8, .inl (dA 0, 6, .inl (fun _ => 0))), (q9, .inl (dA 0, 6, .inl (fun _ => 0)))] H _ := hW
  refine W.eq (g2 := F0 m 104 ls []) rfl ?_
  refine lv_aload_n hx hb (k := 0) (by decide +kernel) rfl (lv_at hl 0 rfl) ?_
  refine lv_bipush hx hb (n := 6) (v := 6) (by decide +kernel) (by decide) ?_
  refine cn_na C0 hW 6 (by decide) (by decide) (by decide) (by decide) (by decide) (by decide +kernel) (fun q10 H hW => ?_)
  have hW : cn_W D A s [(b, .inr (0, [.ref q0, .int 0, .ref q1, .ref q2, .ref q3, .ref q4, .ref q5, .ref q6, .int 0, .ref q7, .ref q8, .ref q9, .int 0, .null, .null, .int 0])), (q0, .inl (dA 0, 7, .inl (cn_rf))), (q1, .inl (dA 0, 24, .inl (fun _ => 0))), (q2, .inl (dA 0, 24, .inl (fun _ => 0))), (q3, .inl (dA 0, 24, .inl (fun _ => 0))), (q4, .inl (dA 0, 24, .inl (fun _ => 0))), (q5, .inl (dA 0, 24, .inl (fun _ => 0))), (q6, .inl (dA 0, 24, .inl (fun _ => 0))), (q7, .inl (dA 0, 6, .inl (fun _ => 0))), (q8, .inl (dA 0, 6, .inl (fun _ => 0))), (q9, .inl (dA 0, 6, .inl (fun _ => 0))), (q10, .inl (dA 0, 6, .inl (fun _ => 0)))] H _ := hW
  refine W.widen (k := 11) (n := 175) (Nat.le_of_ble_eq_true rfl) (Nat.le_of_ble_eq_true rfl) ?_
  refine cn_put C0 hni hW (q0 := 0) (k := 13) (v := .ref q10) (ty := .array .int) nn_y0 rfl rfl nn_w0 nn_ok0 nn_n0 (by decide) (dk_tb 132 rfl rfl) rfl (by decide +kernel) rfl rfl (Nat.le_of_ble_eq_true rfl) (by decide +kernel) (fun H locs hW => ?_)
  have hW : cn_W D A s [(b, .inr (0, [.ref q0, .int 0, .ref q1, .ref q2, .ref q3, .ref q4, .ref q5, .ref q6, .int 0, .ref q7, .ref q8, .ref q9, .int 0, .ref q10, .null, .int 0])), (q0, .inl (dA 0, 7, .inl (cn_rf))), (q1, .inl (dA 0, 24, .inl (fun _ => 0))), (q2, .inl (dA 0, 24, .inl (fun _ => 0))), (q3, .inl (dA 0, 24, .inl (fun _ => 0))), (q4, .inl (dA 0, 24, .inl (fun _ => 0))), (q5, .inl (dA 0, 24, .inl (fun _ => 0))), (q6, .inl (dA 0, 24, .inl (fun _ => 0))), (q7, .inl (dA 0, 6, .inl (fun _ => 0))), (q8, .inl (dA 0, 6, .inl (fun _ => 0))), (q9, .inl (dA 0, 6, .inl (fun _ => 0))), (q10, .inl (dA 0, 6, .inl (fun _ => 0)))] H _ := hW
  refine W.eq (g2 := F0 m 112 ls []) rfl ?_
  refine lv_aload_n hx hb (k := 0) (by decide +kernel) rfl (lv_at hl 0 rfl) ?_
  refine lv_bipush hx hb (n := 10) (v := 10) (by decide +kernel) (by decide) ?_
  refine cn_na C0 hW 10 (by decide) (by decide) (by decide) (by decide) (by decide) (by decide +kernel) (fun q11 H hW => ?_)
  have hW : cn_W D A s [(b, .inr (0, [.ref q0, .int 0, .ref q1, .ref q2, .ref q3, .ref q4, .ref q5, .ref q6, .int 0, .ref q7, .ref q8, .ref q9, .int 0, .ref q10, .null, .int 0])), (q0, .inl (dA 0, 7, .inl (cn_rf))), (q1, .inl (dA 0, 24, .inl (fun _ => 0))), (q2, .inl (dA 0, 24, .inl (fun _ => 0))), (q3, .inl (dA 0, 24, .inl (fun _ => 0))), (q4, .inl (dA 0, 24, .inl (fun _ => 0))), (q5, .inl (dA 0, 24, .inl (fun _ => 0))), (q6, .inl (dA 0, 24, .inl (fun _ => 0))), (q7, .inl (dA 0, 6, .inl (fun _ => 0))), (q8, .inl (dA 0, 6, .inl (fun _ => 0))), (q9, .inl (dA 0, 6, .inl (fun _ => 0))), (q10, .inl (dA 0, 6, .inl (fun _ => 0))), (q11, .inl (dA 0, 10, .inl (fun _ => 0)))] H _ := hW
  refine W.widen (k := 12) (n := 185) (Nat.le_of_ble_eq_true rfl) (Nat.le_of_ble_eq_true rfl) ?_
  refine cn_put C0 hni hW (q0 := 0) (k := 14) (v := .ref q11) (ty := .array .int) nn_y0 rfl rfl nn_w0 nn_ok0 nn_n0 (by decide) (dk_tb 134 rfl rfl) rfl (by decide +kernel) rfl rfl (Nat.le_of_ble_eq_true rfl) (by decide +kernel) (fun H locs hW => ?_)
  have hW : cn_W D A s [(b, .inr (0, [.ref q0, .int 0, .ref q1, .ref q2, .ref q3, .ref q4, .ref q5, .ref q6, .int 0, .ref q7, .ref q8, .ref q9, .int 0, .ref q10, .ref q11, .int 0])), (q0, .inl (dA 0, 7, .inl (cn_rf))), (q1, .inl (dA 0, 24, .inl (fun _ => 0))), (q2, .inl (dA 0, 24, .inl (fun _ => 0))), (q3, .inl (dA 0, 24, .inl (fun _ => 0))), (q4, .inl (dA 0, 24, .inl (fun _ => 0))), (q5, .inl (dA 0, 24, .inl (fun _ => 0))), (q6, .inl (dA 0, 24, .inl (fun _ => 0))), (q7, .inl (dA 0, 6, .inl (fun _ => 0))), (q8, .inl (dA 0, 6, .inl (fun _ => 0))), (q9, .inl (dA 0, 6, .inl (fun _ => 0))), (q10, .inl (dA 0, 6, .inl (fun _ => 0))), (q11, .inl (dA 0, 10, .inl (fun _ => 0)))] H _ := hW
  refine W.eq (g2 := F0 m 120 ls []) rfl ?_
  refine lv_aload_n hx hb (k := 0) (by decide +kernel) rfl (lv_at hl 0 rfl) ?_
  refine lv_iconst hx hb (n := 1) (v := 1) (by decide +kernel) (by decide) ?_
  refine cn_put C0 hni hW (q0 := 0) (k := 15) (v := .int 1) (ty := .int) nn_y0 rfl rfl nn_w0 nn_ok0 nn_n0 (by decide) (dk_tb 136 rfl rfl) rfl (by decide +kernel) rfl rfl (Nat.le_of_ble_eq_true rfl) (by decide +kernel) (fun H locs hW => ?_)
  have hW : cn_W D A s [(b, .inr (0, [.ref q0, .int 0, .ref q1, .ref q2, .ref q3, .ref q4, .ref q5, .ref q6, .int 0, .ref q7, .ref q8, .ref q9, .int 0, .ref q10, .ref q11, .int 1])), (q0, .inl (dA 0, 7, .inl (cn_rf))), (q1, .inl (dA 0, 24, .inl (fun _ => 0))), (q2, .inl (dA 0, 24, .inl (fun _ => 0))), (q3, .inl (dA 0, 24, .inl (fun _ => 0))), (q4, .inl (dA 0, 24, .inl (fun _ => 0))), (q5, .inl (dA 0, 24, .inl (fun _ => 0))), (q6, .inl (dA 0, 24, .inl (fun _ => 0))), (q7, .inl (dA 0, 6, .inl (fun _ => 0))), (q8, .inl (dA 0, 6, .inl (fun _ => 0))), (q9, .inl (dA 0, 6, .inl (fun _ => 0))), (q10, .inl (dA 0, 6, .inl (fun _ => 0))), (q11, .inl (dA 0, 10, .inl (fun _ => 0)))] H _ := hW
  refine W.eq (g2 := F0 m 125 ls []) rfl ?_
  refine lv_aload_n hx hb (k := 0) (by decide +kernel) rfl (lv_at hl 0 rfl) ?_
  refine va_get hx hb hts nn_w0 hown hK.1 hW.1 0 rfl rfl 14 (by decide) (hts _ (dk_tb 134 rfl rfl)) (fun _ z => z) (v := .ref q11) rfl (by decide +kernel) ?_
  refine lv_iconst hx hb (n := (-1)) (v := (-1)) (by decide +kernel) (by decide) ?_
  refine cn_callF C0 hml (wr := [(b, .inr (0, [.ref q0, .int 0, .ref q1, .ref q2, .ref q3, .ref q4, .ref q5, .ref q6, .int 0, .ref q7, .ref q8, .ref q9, .int 0, .ref q10, .ref q11, .int 1])), (q0, .inl (dA 0, 7, .inl (cn_rf))), (q1, .inl (dA 0, 24, .inl (fun _ => 0))), (q2, .inl (dA 0, 24, .inl (fun _ => 0))), (q3, .inl (dA 0, 24, .inl (fun _ => 0))), (q4, .inl (dA 0, 24, .inl (fun _ => 0))), (q5, .inl (dA 0, 24, .inl (fun _ => 0))), (q6, .inl (dA 0, 24, .inl (fun _ => 0))), (q7, .inl (dA 0, 6, .inl (fun _ => 0))), (q8, .inl (dA 0, 6, .inl (fun _ => 0))), (q9, .inl (dA 0, 6, .inl (fun _ => 0))), (q10, .inl (dA 0, 6, .inl (fun _ => 0)))]) hW (n := 10) (by decide) (dk_tb 94 rfl rfl) ⟨by decide, by decide⟩ hl.1 (rest := []) rfl (by decide) (by decide +kernel) ⟨by decide, by decide⟩ (fun H locs hW => ?_)
  have hW : cn_W D A s [(b, .inr (0, [.ref q0, .int 0, .ref q1, .ref q2, .ref q3, .ref q4, .ref q5, .ref q6, .int 0, .ref q7, .ref q8, .ref q9, .int 0, .ref q10, .ref q11, .int 1])), (q0, .inl (dA 0, 7, .inl (cn_rf))), (q1, .inl (dA 0, 24, .inl (fun _ => 0))), (q2, .inl (dA 0, 24, .inl (fun _ => 0))), (q3, .inl (dA 0, 24, .inl (fun _ => 0))), (q4, .inl (dA 0, 24, .inl (fun _ => 0))), (q5, .inl (dA 0, 24, .inl (fun _ => 0))), (q6, .inl (dA 0, 24, .inl (fun _ => 0))), (q7, .inl (dA 0, 6, .inl (fun _ => 0))), (q8, .inl (dA 0, 6, .inl (fun _ => 0))), (q9, .inl (dA 0, 6, .inl (fun _ => 0))), (q10, .inl (dA 0, 6, .inl (fun _ => 0))), (q11, .inl (dA 0, 10, .inl (fun j => if j < 10 then (-1) else (fun _ => 0) j)))] H _ := hW
  refine W.eq (g2 := F0 m 133 ls []) rfl ?_
  refine W.widen (k := 12) (n := 185) (Nat.le_of_ble_eq_true rfl) (Nat.le_of_ble_eq_true rfl) ?_
  exact W.vret hx hb hr (fun t ht _ => ⟨⟨_, _, rfl, ⟨q0, q1, q2, q3, q4, q5, q6, q7, q8, q9, q10, q11, rfl, rfl⟩, by rw [ht]; exact hW.1, hW.2.1⟩, hW.2.2.F ht⟩) hW.2.2.2.2 (by decide +kernel)
