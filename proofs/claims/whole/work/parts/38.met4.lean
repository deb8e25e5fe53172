/-! THE METHODS: their contracts -/
theorem k_6_write : dk_ckT t_6_write prog_8_method_73_code 4 t_6_write.2.2.1 b_6_write = true := by decide +kernel
set_option maxRecDepth 20000 in
theorem hc_6_write : ∀ q ∈ t_6_write.2.1, ∃ n Sm, dk_nth g_6_write q.2.2 = some (n, Sm) ∧ dk_Call y_6_write.cls ({ frames := 2, cells := 0, slots := 0, locals := 42 }) prog_8_method_73_code 4 q.2.1 q.1 n Sm :=
  dk_ac ⟨1, s_6_isSheet, rfl, fun hx hb hml hown hts hF => dk_callS e_6_isSheet (dk_ac (dk_tb 1234 rfl rfl) wv_6_isSheet) ⟨rfl, rfl⟩ hd_6_isSheet ⟨by decide, by decide⟩ ⟨Nat.zero_le _, Nat.zero_le _⟩ hx hb hml hown hts hF⟩
    (dk_ac ⟨2, s_6_finds, rfl, fun hx hb hml hown hts hF => dk_callV e_6_finds dk_rcV rfl (dk_ac (dk_tb 951 rfl rfl) wv_6_finds) ⟨rfl, rfl⟩ hd_6_finds ⟨by decide, by decide⟩ ⟨Nat.zero_le _, Nat.zero_le _⟩ hx hb hml hown hts hF⟩
    (dk_ac ⟨3, s_6_in, rfl, fun hx hb hml hown hts hF => dk_callS e_6_in (dk_ac (dk_tb 948 rfl rfl) wv_6_in) ⟨rfl, rfl⟩ hd_6_in ⟨by decide, by decide⟩ ⟨Nat.zero_le _, Nat.zero_le _⟩ hx hb hml hown hts hF⟩
    (dk_an)))
theorem e_6_write : dk_Met y_6_write prog_8_method_73_code 4 (some .int) ({ frames := 2, cells := 0, slots := 0, locals := 42 }) s_6_write := dk_metV 6 (dk_met (y := y_6_write) (cc := prog_8_method_73_code) (maxL := 4) (ret := (some .int)) (rm := ({ frames := 2, cells := 0, slots := 0, locals := 42 })) (T := t_6_write) (tb := b_6_write) (G := g_6_write) (by decide +kernel) ⟨fun _ => rfl, fun z => absurd z (by decide), fun z => absurd z (by decide), fun z => absurd z (by decide)⟩ (fun _ _ _ _ _ hts hd => tok_6 hts hd) h_6_write k_6_write rfl (fun i kd j h => hc_6_write (i, kd, j) (dk_lk_mem h)))
set_option maxRecDepth 20000 in
theorem wv_6_write : ∀ w ∈ [Cond.instanceMethod y_6_write, Cond.selects y_6_write.cls y_6_write y_6_write, Cond.initialized y_6_write.cls, Cond.code y_6_write prog_8_method_73_code 4 (some .int)], w ∈ dk_TB := dk_ac (dk_tb 1238 rfl rfl) (dk_ac (dk_tb 1239 rfl rfl) (dk_ac (dk_tb 64 rfl rfl) (dk_ac (dk_tb 1240 rfl rfl) (dk_an))))
theorem hd_6_write : y_6_write.cls ≠ "java/lang/invoke/MethodHandle" ∧ y_6_write.cls ≠ "java/lang/invoke/VarHandle" ∧ (parseMethodDescriptor y_6_write.desc).map (fun d => d.parameters.length) = some 3 := by decide +kernel
theorem k_6_copy : dk_ckT t_6_copy prog_8_method_74_code 7 t_6_copy.2.2.1 b_6_copy = true := by decide +kernel
set_option maxRecDepth 20000 in
theorem hc_6_copy : ∀ q ∈ t_6_copy.2.1, ∃ n Sm, dk_nth g_6_copy q.2.2 = some (n, Sm) ∧ dk_Call y_6_copy.cls ({ frames := 2, cells := 0, slots := 0, locals := 42 }) prog_8_method_74_code 7 q.2.1 q.1 n Sm :=
  dk_ac ⟨1, s_6_isSheet, rfl, fun hx hb hml hown hts hF => dk_callS e_6_isSheet (dk_ac (dk_tb 1234 rfl rfl) wv_6_isSheet) ⟨rfl, rfl⟩ hd_6_isSheet ⟨by decide, by decide⟩ ⟨Nat.zero_le _, Nat.zero_le _⟩ hx hb hml hown hts hF⟩
    (dk_ac ⟨2, s_6_finds, rfl, fun hx hb hml hown hts hF => dk_callV e_6_finds dk_rcV rfl (dk_ac (dk_tb 951 rfl rfl) wv_6_finds) ⟨rfl, rfl⟩ hd_6_finds ⟨by decide, by decide⟩ ⟨Nat.zero_le _, Nat.zero_le _⟩ hx hb hml hown hts hF⟩
    (dk_an))
theorem e_6_copy : dk_Met y_6_copy prog_8_method_74_code 7 (some .int) ({ frames := 2, cells := 0, slots := 0, locals := 42 }) s_6_copy := dk_metV 6 (dk_met (y := y_6_copy) (cc := prog_8_method_74_code) (maxL := 7) (ret := (some .int)) (rm := ({ frames := 2, cells := 0, slots := 0, locals := 42 })) (T := t_6_copy) (tb := b_6_copy) (G := g_6_copy) (by decide +kernel) ⟨fun _ => rfl, fun z => absurd z (by decide), fun z => absurd z (by decide), fun z => absurd z (by decide)⟩ (fun _ _ _ _ _ hts hd => tok_6 hts hd) h_6_copy k_6_copy rfl (fun i kd j h => hc_6_copy (i, kd, j) (dk_lk_mem h)))
set_option maxRecDepth 20000 in
theorem wv_6_copy : ∀ w ∈ [Cond.instanceMethod y_6_copy, Cond.selects y_6_copy.cls y_6_copy y_6_copy, Cond.initialized y_6_copy.cls, Cond.code y_6_copy prog_8_method_74_code 7 (some .int)], w ∈ dk_TB := dk_ac (dk_tb 1242 rfl rfl) (dk_ac (dk_tb 1243 rfl rfl) (dk_ac (dk_tb 64 rfl rfl) (dk_ac (dk_tb 1244 rfl rfl) (dk_an))))
theorem hd_6_copy : y_6_copy.cls ≠ "java/lang/invoke/MethodHandle" ∧ y_6_copy.cls ≠ "java/lang/invoke/VarHandle" ∧ (parseMethodDescriptor y_6_copy.desc).map (fun d => d.parameters.length) = some 5 := by decide +kernel
theorem k_6_load : dk_ckT t_6_load prog_8_method_75_code 4 t_6_load.2.2.1 b_6_load = true := by decide +kernel
set_option maxRecDepth 20000 in
theorem hc_6_load : ∀ q ∈ t_6_load.2.1, ∃ n Sm, dk_nth g_6_load q.2.2 = some (n, Sm) ∧ dk_Call y_6_load.cls ({ frames := 2, cells := 0, slots := 0, locals := 46 }) prog_8_method_75_code 4 q.2.1 q.1 n Sm :=
  dk_ac ⟨1, s_6_isSheet, rfl, fun hx hb hml hown hts hF => dk_callS e_6_isSheet (dk_ac (dk_tb 1234 rfl rfl) wv_6_isSheet) ⟨rfl, rfl⟩ hd_6_isSheet ⟨by decide, by decide⟩ ⟨Nat.zero_le _, Nat.zero_le _⟩ hx hb hml hown hts hF⟩
    (dk_ac ⟨2, s_6_finds, rfl, fun hx hb hml hown hts hF => dk_callV e_6_finds dk_rcV rfl (dk_ac (dk_tb 951 rfl rfl) wv_6_finds) ⟨rfl, rfl⟩ hd_6_finds ⟨by decide, by decide⟩ ⟨Nat.zero_le _, Nat.zero_le _⟩ hx hb hml hown hts hF⟩
    (dk_ac ⟨2, s_6_wrapped, rfl, fun hx hb hml hown hts hF => dk_callV e_6_wrapped dk_rcV rfl (dk_ac (dk_tb 956 rfl rfl) wv_6_wrapped) ⟨rfl, rfl⟩ hd_6_wrapped ⟨by decide, by decide⟩ ⟨Nat.zero_le _, Nat.zero_le _⟩ hx hb hml hown hts hF⟩
    (dk_an)))
theorem e_6_load : dk_Met y_6_load prog_8_method_75_code 4 (some .int) ({ frames := 2, cells := 0, slots := 0, locals := 46 }) s_6_load := dk_metV 6 (dk_met (y := y_6_load) (cc := prog_8_method_75_code) (maxL := 4) (ret := (some .int)) (rm := ({ frames := 2, cells := 0, slots := 0, locals := 46 })) (T := t_6_load) (tb := b_6_load) (G := g_6_load) (by decide +kernel) ⟨fun _ => rfl, fun z => absurd z (by decide), fun z => absurd z (by decide), fun z => absurd z (by decide)⟩ (fun _ _ _ _ _ hts hd => tok_6 hts hd) h_6_load k_6_load rfl (fun i kd j h => hc_6_load (i, kd, j) (dk_lk_mem h)))
set_option maxRecDepth 20000 in
theorem wv_6_load : ∀ w ∈ [Cond.instanceMethod y_6_load, Cond.selects y_6_load.cls y_6_load y_6_load, Cond.initialized y_6_load.cls, Cond.code y_6_load prog_8_method_75_code 4 (some .int)], w ∈ dk_TB := dk_ac (dk_tb 1246 rfl rfl) (dk_ac (dk_tb 1247 rfl rfl) (dk_ac (dk_tb 64 rfl rfl) (dk_ac (dk_tb 1248 rfl rfl) (dk_an))))
theorem hd_6_load : y_6_load.cls ≠ "java/lang/invoke/MethodHandle" ∧ y_6_load.cls ≠ "java/lang/invoke/VarHandle" ∧ (parseMethodDescriptor y_6_load.desc).map (fun d => d.parameters.length) = some 1 := by decide +kernel
theorem k_6_judge : dk_ckT t_6_judge prog_8_method_76_code 3 t_6_judge.2.2.1 b_6_judge = true := by decide +kernel
set_option maxRecDepth 20000 in
theorem hc_6_judge : ∀ q ∈ t_6_judge.2.1, ∃ n Sm, dk_nth g_6_judge q.2.2 = some (n, Sm) ∧ dk_Call y_6_judge.cls ({ frames := 6, cells := 0, slots := 0, locals := 135 }) prog_8_method_76_code 3 q.2.1 q.1 n Sm :=
  dk_ac ⟨1, s_6_isSheet, rfl, fun hx hb hml hown hts hF => dk_callS e_6_isSheet (dk_ac (dk_tb 1234 rfl rfl) wv_6_isSheet) ⟨rfl, rfl⟩ hd_6_isSheet ⟨by decide, by decide⟩ ⟨Nat.zero_le _, Nat.zero_le _⟩ hx hb hml hown hts hF⟩
    (dk_ac ⟨2, s_6_finds, rfl, fun hx hb hml hown hts hF => dk_callV e_6_finds dk_rcV rfl (dk_ac (dk_tb 951 rfl rfl) wv_6_finds) ⟨rfl, rfl⟩ hd_6_finds ⟨by decide, by decide⟩ ⟨Nat.zero_le _, Nat.zero_le _⟩ hx hb hml hown hts hF⟩
    (dk_ac ⟨1, s_6_beginMarch, rfl, fun hx hb hml hown hts hF => dk_callV e_6_beginMarch dk_rcV rfl (dk_ac (dk_tb 1047 rfl rfl) wv_6_beginMarch) ⟨rfl, rfl⟩ hd_6_beginMarch ⟨by decide, by decide⟩ ⟨Nat.zero_le _, Nat.zero_le _⟩ hx hb hml hown hts hF⟩
    (dk_ac ⟨1, s_6_goes, rfl, fun hx hb hml hown hts hF => dk_callV e_6_goes dk_rcV rfl (dk_ac (dk_tb 1114 rfl rfl) wv_6_goes) ⟨rfl, rfl⟩ hd_6_goes ⟨by decide, by decide⟩ ⟨Nat.zero_le _, Nat.zero_le _⟩ hx hb hml hown hts hF⟩
    (dk_ac ⟨1, s_6_worstNow, rfl, fun hx hb hml hown hts hF => dk_callV e_6_worstNow dk_rcV rfl (dk_ac (dk_tb 1118 rfl rfl) wv_6_worstNow) ⟨rfl, rfl⟩ hd_6_worstNow ⟨by decide, by decide⟩ ⟨Nat.zero_le _, Nat.zero_le _⟩ hx hb hml hown hts hF⟩
    (dk_an)))))
theorem e_6_judge : dk_Met y_6_judge prog_8_method_76_code 3 (some .int) ({ frames := 6, cells := 0, slots := 0, locals := 135 }) s_6_judge := dk_metV 6 (dk_met (y := y_6_judge) (cc := prog_8_method_76_code) (maxL := 3) (ret := (some .int)) (rm := ({ frames := 6, cells := 0, slots := 0, locals := 135 })) (T := t_6_judge) (tb := b_6_judge) (G := g_6_judge) (by decide +kernel) ⟨fun _ => rfl, fun z => absurd z (by decide), fun z => absurd z (by decide), fun z => absurd z (by decide)⟩ (fun _ _ _ _ _ hts hd => tok_6 hts hd) h_6_judge k_6_judge rfl (fun i kd j h => hc_6_judge (i, kd, j) (dk_lk_mem h)))
set_option maxRecDepth 20000 in
theorem wv_6_judge : ∀ w ∈ [Cond.instanceMethod y_6_judge, Cond.selects y_6_judge.cls y_6_judge y_6_judge, Cond.initialized y_6_judge.cls, Cond.code y_6_judge prog_8_method_76_code 3 (some .int)], w ∈ dk_TB := dk_ac (dk_tb 1250 rfl rfl) (dk_ac (dk_tb 1251 rfl rfl) (dk_ac (dk_tb 64 rfl rfl) (dk_ac (dk_tb 1252 rfl rfl) (dk_an))))
theorem hd_6_judge : y_6_judge.cls ≠ "java/lang/invoke/MethodHandle" ∧ y_6_judge.cls ≠ "java/lang/invoke/VarHandle" ∧ (parseMethodDescriptor y_6_judge.desc).map (fun d => d.parameters.length) = some 1 := by decide +kernel
theorem k_6_move : dk_ckT t_6_move prog_8_method_77_code 5 t_6_move.2.2.1 b_6_move = true := by decide +kernel
set_option maxRecDepth 20000 in
theorem hc_6_move : ∀ q ∈ t_6_move.2.1, ∃ n Sm, dk_nth g_6_move q.2.2 = some (n, Sm) ∧ dk_Call y_6_move.cls ({ frames := 0, cells := 0, slots := 0, locals := 0 }) prog_8_method_77_code 5 q.2.1 q.1 n Sm :=
  dk_an
theorem e_6_move : dk_Met y_6_move prog_8_method_77_code 5 none ({ frames := 0, cells := 0, slots := 0, locals := 0 }) s_6_move := dk_metV 6 (dk_met (y := y_6_move) (cc := prog_8_method_77_code) (maxL := 5) (ret := none) (rm := ({ frames := 0, cells := 0, slots := 0, locals := 0 })) (T := t_6_move) (tb := b_6_move) (G := g_6_move) (by decide +kernel) ⟨fun z => absurd z (by decide), fun z => absurd z (by decide), fun _ => rfl, fun z => absurd z (by decide)⟩ (fun _ _ _ _ _ hts hd => tok_6 hts hd) h_6_move k_6_move rfl (fun i kd j h => hc_6_move (i, kd, j) (dk_lk_mem h)))
set_option maxRecDepth 20000 in
theorem wv_6_move : ∀ w ∈ [Cond.instanceMethod y_6_move, Cond.selects y_6_move.cls y_6_move y_6_move, Cond.initialized y_6_move.cls, Cond.code y_6_move prog_8_method_77_code 5 none], w ∈ dk_TB := dk_ac (dk_tb 1263 rfl rfl) (dk_ac (dk_tb 55 rfl rfl) (dk_ac (dk_tb 64 rfl rfl) (dk_ac (dk_tb 1264 rfl rfl) (dk_an))))
theorem hd_6_move : y_6_move.cls ≠ "java/lang/invoke/MethodHandle" ∧ y_6_move.cls ≠ "java/lang/invoke/VarHandle" ∧ (parseMethodDescriptor y_6_move.desc).map (fun d => d.parameters.length) = some 3 := by decide +kernel
theorem k_6_moveAll : dk_ckT t_6_moveAll prog_8_method_78_code 2 t_6_moveAll.2.2.1 b_6_moveAll = true := by decide +kernel
set_option maxRecDepth 20000 in
theorem hc_6_moveAll : ∀ q ∈ t_6_moveAll.2.1, ∃ n Sm, dk_nth g_6_moveAll q.2.2 = some (n, Sm) ∧ dk_Call y_6_moveAll.cls ({ frames := 1, cells := 0, slots := 0, locals := 24 }) prog_8_method_78_code 2 q.2.1 q.1 n Sm :=
  dk_ac ⟨4, s_6_move, rfl, fun hx hb hml hown hts hF => dk_callV e_6_move dk_rcV rfl (dk_ac (dk_tb 1261 rfl rfl) wv_6_move) ⟨rfl, rfl⟩ hd_6_move ⟨by decide, by decide⟩ ⟨Nat.zero_le _, Nat.zero_le _⟩ hx hb hml hown hts hF⟩
    (dk_an)
theorem e_6_moveAll : dk_Met y_6_moveAll prog_8_method_78_code 2 none ({ frames := 1, cells := 0, slots := 0, locals := 24 }) s_6_moveAll := dk_metV 6 (dk_met (y := y_6_moveAll) (cc := prog_8_method_78_code) (maxL := 2) (ret := none) (rm := ({ frames := 1, cells := 0, slots := 0, locals := 24 })) (T := t_6_moveAll) (tb := b_6_moveAll) (G := g_6_moveAll) (by decide +kernel) ⟨fun z => absurd z (by decide), fun z => absurd z (by decide), fun _ => rfl, fun z => absurd z (by decide)⟩ (fun _ _ _ _ _ hts hd => tok_6 hts hd) h_6_moveAll k_6_moveAll rfl (fun i kd j h => hc_6_moveAll (i, kd, j) (dk_lk_mem h)))
set_option maxRecDepth 20000 in
theorem wv_6_moveAll : ∀ w ∈ [Cond.instanceMethod y_6_moveAll, Cond.selects y_6_moveAll.cls y_6_moveAll y_6_moveAll, Cond.initialized y_6_moveAll.cls, Cond.code y_6_moveAll prog_8_method_78_code 2 none], w ∈ dk_TB := dk_ac (dk_tb 1259 rfl rfl) (dk_ac (dk_tb 54 rfl rfl) (dk_ac (dk_tb 64 rfl rfl) (dk_ac (dk_tb 1260 rfl rfl) (dk_an))))
theorem hd_6_moveAll : y_6_moveAll.cls ≠ "java/lang/invoke/MethodHandle" ∧ y_6_moveAll.cls ≠ "java/lang/invoke/VarHandle" ∧ (parseMethodDescriptor y_6_moveAll.desc).map (fun d => d.parameters.length) = some 1 := by decide +kernel
theorem k_6_image : dk_ckT t_6_image prog_8_method_79_code 1 t_6_image.2.2.1 b_6_image = true := by decide +kernel
set_option maxRecDepth 20000 in
theorem hc_6_image : ∀ q ∈ t_6_image.2.1, ∃ n Sm, dk_nth g_6_image q.2.2 = some (n, Sm) ∧ dk_Call y_6_image.cls ({ frames := 2, cells := 0, slots := 0, locals := 45 }) prog_8_method_79_code 1 q.2.1 q.1 n Sm :=
  dk_ac ⟨2, s_6_moveAll, rfl, fun hx hb hml hown hts hF => dk_callV e_6_moveAll dk_rcV rfl (dk_ac (dk_tb 1257 rfl rfl) wv_6_moveAll) ⟨rfl, rfl⟩ hd_6_moveAll ⟨by decide, by decide⟩ ⟨Nat.zero_le _, Nat.zero_le _⟩ hx hb hml hown hts hF⟩
    (dk_an)
theorem e_6_image : dk_Met y_6_image prog_8_method_79_code 1 (some .int) ({ frames := 2, cells := 0, slots := 0, locals := 45 }) s_6_image := dk_metV 6 (dk_met (y := y_6_image) (cc := prog_8_method_79_code) (maxL := 1) (ret := (some .int)) (rm := ({ frames := 2, cells := 0, slots := 0, locals := 45 })) (T := t_6_image) (tb := b_6_image) (G := g_6_image) (by decide +kernel) ⟨fun _ => rfl, fun z => absurd z (by decide), fun z => absurd z (by decide), fun z => absurd z (by decide)⟩ (fun _ _ _ _ _ hts hd => tok_6 hts hd) h_6_image k_6_image rfl (fun i kd j h => hc_6_image (i, kd, j) (dk_lk_mem h)))
set_option maxRecDepth 20000 in
theorem wv_6_image : ∀ w ∈ [Cond.instanceMethod y_6_image, Cond.selects y_6_image.cls y_6_image y_6_image, Cond.initialized y_6_image.cls, Cond.code y_6_image prog_8_method_79_code 1 (some .int)], w ∈ dk_TB := dk_ac (dk_tb 1254 rfl rfl) (dk_ac (dk_tb 1255 rfl rfl) (dk_ac (dk_tb 64 rfl rfl) (dk_ac (dk_tb 1256 rfl rfl) (dk_an))))
theorem hd_6_image : y_6_image.cls ≠ "java/lang/invoke/MethodHandle" ∧ y_6_image.cls ≠ "java/lang/invoke/VarHandle" ∧ (parseMethodDescriptor y_6_image.desc).map (fun d => d.parameters.length) = some 0 := by decide +kernel
theorem k_6_undo : dk_ckT t_6_undo prog_8_method_80_code 1 t_6_undo.2.2.1 b_6_undo = true := by decide +kernel
set_option maxRecDepth 20000 in
theorem hc_6_undo : ∀ q ∈ t_6_undo.2.1, ∃ n Sm, dk_nth g_6_undo q.2.2 = some (n, Sm) ∧ dk_Call y_6_undo.cls ({ frames := 2, cells := 0, slots := 0, locals := 45 }) prog_8_method_80_code 1 q.2.1 q.1 n Sm :=
  dk_ac ⟨2, s_6_finds, rfl, fun hx hb hml hown hts hF => dk_callV e_6_finds dk_rcV rfl (dk_ac (dk_tb 951 rfl rfl) wv_6_finds) ⟨rfl, rfl⟩ hd_6_finds ⟨by decide, by decide⟩ ⟨Nat.zero_le _, Nat.zero_le _⟩ hx hb hml hown hts hF⟩
    (dk_ac ⟨2, s_6_moveAll, rfl, fun hx hb hml hown hts hF => dk_callV e_6_moveAll dk_rcV rfl (dk_ac (dk_tb 1257 rfl rfl) wv_6_moveAll) ⟨rfl, rfl⟩ hd_6_moveAll ⟨by decide, by decide⟩ ⟨Nat.zero_le _, Nat.zero_le _⟩ hx hb hml hown hts hF⟩
    (dk_an))
theorem e_6_undo : dk_Met y_6_undo prog_8_method_80_code 1 (some .int) ({ frames := 2, cells := 0, slots := 0, locals := 45 }) s_6_undo := dk_metV 6 (dk_met (y := y_6_undo) (cc := prog_8_method_80_code) (maxL := 1) (ret := (some .int)) (rm := ({ frames := 2, cells := 0, slots := 0, locals := 45 })) (T := t_6_undo) (tb := b_6_undo) (G := g_6_undo) (by decide +kernel) ⟨fun _ => rfl, fun z => absurd z (by decide), fun z => absurd z (by decide), fun z => absurd z (by decide)⟩ (fun _ _ _ _ _ hts hd => tok_6 hts hd) h_6_undo k_6_undo rfl (fun i kd j h => hc_6_undo (i, kd, j) (dk_lk_mem h)))
set_option maxRecDepth 20000 in
theorem wv_6_undo : ∀ w ∈ [Cond.instanceMethod y_6_undo, Cond.selects y_6_undo.cls y_6_undo y_6_undo, Cond.initialized y_6_undo.cls, Cond.code y_6_undo prog_8_method_80_code 1 (some .int)], w ∈ dk_TB := dk_ac (dk_tb 1266 rfl rfl) (dk_ac (dk_tb 1267 rfl rfl) (dk_ac (dk_tb 64 rfl rfl) (dk_ac (dk_tb 1268 rfl rfl) (dk_an))))
theorem hd_6_undo : y_6_undo.cls ≠ "java/lang/invoke/MethodHandle" ∧ y_6_undo.cls ≠ "java/lang/invoke/VarHandle" ∧ (parseMethodDescriptor y_6_undo.desc).map (fun d => d.parameters.length) = some 0 := by decide +kernel
theorem k_6_tear : dk_ckT t_6_tear prog_8_method_81_code 2 t_6_tear.2.2.1 b_6_tear = true := by decide +kernel
set_option maxRecDepth 20000 in
theorem hc_6_tear : ∀ q ∈ t_6_tear.2.1, ∃ n Sm, dk_nth g_6_tear q.2.2 = some (n, Sm) ∧ dk_Call y_6_tear.cls ({ frames := 0, cells := 0, slots := 0, locals := 0 }) prog_8_method_81_code 2 q.2.1 q.1 n Sm :=
  dk_an
theorem e_6_tear : dk_Met y_6_tear prog_8_method_81_code 2 (some .int) ({ frames := 0, cells := 0, slots := 0, locals := 0 }) s_6_tear := dk_metV 6 (dk_met (y := y_6_tear) (cc := prog_8_method_81_code) (maxL := 2) (ret := (some .int)) (rm := ({ frames := 0, cells := 0, slots := 0, locals := 0 })) (T := t_6_tear) (tb := b_6_tear) (G := g_6_tear) (by decide +kernel) ⟨fun _ => rfl, fun z => absurd z (by decide), fun z => absurd z (by decide), fun z => absurd z (by decide)⟩ (fun _ _ _ _ _ hts hd => tok_6 hts hd) h_6_tear k_6_tear rfl (fun i kd j h => hc_6_tear (i, kd, j) (dk_lk_mem h)))
set_option maxRecDepth 20000 in
theorem wv_6_tear : ∀ w ∈ [Cond.instanceMethod y_6_tear, Cond.selects y_6_tear.cls y_6_tear y_6_tear, Cond.initialized y_6_tear.cls, Cond.code y_6_tear prog_8_method_81_code 2 (some .int)], w ∈ dk_TB := dk_ac (dk_tb 1270 rfl rfl) (dk_ac (dk_tb 1271 rfl rfl) (dk_ac (dk_tb 64 rfl rfl) (dk_ac (dk_tb 1272 rfl rfl) (dk_an))))
theorem hd_6_tear : y_6_tear.cls ≠ "java/lang/invoke/MethodHandle" ∧ y_6_tear.cls ≠ "java/lang/invoke/VarHandle" ∧ (parseMethodDescriptor y_6_tear.desc).map (fun d => d.parameters.length) = some 0 := by decide +kernel
theorem k_6_count : dk_ckT t_6_count prog_8_method_82_code 4 t_6_count.2.2.1 b_6_count = true := by decide +kernel
set_option maxRecDepth 20000 in
theorem hc_6_count : ∀ q ∈ t_6_count.2.1, ∃ n Sm, dk_nth g_6_count q.2.2 = some (n, Sm) ∧ dk_Call y_6_count.cls ({ frames := 1, cells := 0, slots := 0, locals := 21 }) prog_8_method_82_code 4 q.2.1 q.1 n Sm :=
  dk_ac ⟨2, s_6_finds, rfl, fun hx hb hml hown hts hF => dk_callV e_6_finds dk_rcV rfl (dk_ac (dk_tb 951 rfl rfl) wv_6_finds) ⟨rfl, rfl⟩ hd_6_finds ⟨by decide, by decide⟩ ⟨Nat.zero_le _, Nat.zero_le _⟩ hx hb hml hown hts hF⟩
    (dk_an)
theorem e_6_count : dk_Met y_6_count prog_8_method_82_code 4 (some .int) ({ frames := 1, cells := 0, slots := 0, locals := 21 }) s_6_count := dk_metV 6 (dk_met (y := y_6_count) (cc := prog_8_method_82_code) (maxL := 4) (ret := (some .int)) (rm := ({ frames := 1, cells := 0, slots := 0, locals := 21 })) (T := t_6_count) (tb := b_6_count) (G := g_6_count) (by decide +kernel) ⟨fun _ => rfl, fun z => absurd z (by decide), fun z => absurd z (by decide), fun z => absurd z (by decide)⟩ (fun _ _ _ _ _ hts hd => tok_6 hts hd) h_6_count k_6_count rfl (fun i kd j h => hc_6_count (i, kd, j) (dk_lk_mem h)))
set_option maxRecDepth 20000 in
theorem wv_6_count : ∀ w ∈ [Cond.instanceMethod y_6_count, Cond.selects y_6_count.cls y_6_count y_6_count, Cond.initialized y_6_count.cls, Cond.code y_6_count prog_8_method_82_code 4 (some .int)], w ∈ dk_TB := dk_ac (dk_tb 1274 rfl rfl) (dk_ac (dk_tb 1275 rfl rfl) (dk_ac (dk_tb 64 rfl rfl) (dk_ac (dk_tb 1276 rfl rfl) (dk_an))))
theorem hd_6_count : y_6_count.cls ≠ "java/lang/invoke/MethodHandle" ∧ y_6_count.cls ≠ "java/lang/invoke/VarHandle" ∧ (parseMethodDescriptor y_6_count.desc).map (fun d => d.parameters.length) = some 1 := by decide +kernel
theorem k_6_status : dk_ckT t_6_status prog_8_method_83_code 4 t_6_status.2.2.1 b_6_status = true := by decide +kernel
set_option maxRecDepth 20000 in
theorem hc_6_status : ∀ q ∈ t_6_status.2.1, ∃ n Sm, dk_nth g_6_status q.2.2 = some (n, Sm) ∧ dk_Call y_6_status.cls ({ frames := 1, cells := 0, slots := 0, locals := 22 }) prog_8_method_83_code 4 q.2.1 q.1 n Sm :=
  dk_ac ⟨3, s_6_in, rfl, fun hx hb hml hown hts hF => dk_callS e_6_in (dk_ac (dk_tb 948 rfl rfl) wv_6_in) ⟨rfl, rfl⟩ hd_6_in ⟨by decide, by decide⟩ ⟨Nat.zero_le _, Nat.zero_le _⟩ hx hb hml hown hts hF⟩
    (dk_ac ⟨2, s_6_finds, rfl, fun hx hb hml hown hts hF => dk_callV e_6_finds dk_rcV rfl (dk_ac (dk_tb 951 rfl rfl) wv_6_finds) ⟨rfl, rfl⟩ hd_6_finds ⟨by decide, by decide⟩ ⟨Nat.zero_le _, Nat.zero_le _⟩ hx hb hml hown hts hF⟩
    (dk_an))
theorem e_6_status : dk_Met y_6_status prog_8_method_83_code 4 (some .int) ({ frames := 1, cells := 0, slots := 0, locals := 22 }) s_6_status := dk_metV 6 (dk_met (y := y_6_status) (cc := prog_8_method_83_code) (maxL := 4) (ret := (some .int)) (rm := ({ frames := 1, cells := 0, slots := 0, locals := 22 })) (T := t_6_status) (tb := b_6_status) (G := g_6_status) (by decide +kernel) ⟨fun _ => rfl, fun z => absurd z (by decide), fun z => absurd z (by decide), fun z => absurd z (by decide)⟩ (fun _ _ _ _ _ hts hd => tok_6 hts hd) h_6_status k_6_status rfl (fun i kd j h => hc_6_status (i, kd, j) (dk_lk_mem h)))
set_option maxRecDepth 20000 in
theorem wv_6_status : ∀ w ∈ [Cond.instanceMethod y_6_status, Cond.selects y_6_status.cls y_6_status y_6_status, Cond.initialized y_6_status.cls, Cond.code y_6_status prog_8_method_83_code 4 (some .int)], w ∈ dk_TB := dk_ac (dk_tb 1278 rfl rfl) (dk_ac (dk_tb 1279 rfl rfl) (dk_ac (dk_tb 64 rfl rfl) (dk_ac (dk_tb 1280 rfl rfl) (dk_an))))
theorem hd_6_status : y_6_status.cls ≠ "java/lang/invoke/MethodHandle" ∧ y_6_status.cls ≠ "java/lang/invoke/VarHandle" ∧ (parseMethodDescriptor y_6_status.desc).map (fun d => d.parameters.length) = some 1 := by decide +kernel
