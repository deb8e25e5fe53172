/-! THE METHODS: their contracts -/
theorem k_5_isUnder : dk_ckT t_5_isUnder prog_1_method_54_code 4 t_5_isUnder.2.2.1 b_5_isUnder = true := by decide +kernel
set_option maxRecDepth 20000 in
theorem hc_5_isUnder : ∀ q ∈ t_5_isUnder.2.1, ∃ n Sm, dk_nth g_5_isUnder q.2.2 = some (n, Sm) ∧ dk_Call y_5_isUnder.cls ({ frames := 1, cells := 0, slots := 0, locals := 22 }) prog_1_method_54_code 4 q.2.1 q.1 n Sm :=
  dk_ac ⟨3, s_5_isWithin, rfl, fun hx hb hml hown hts hF => dk_callS e_5_isWithin (dk_ac (dk_tb 316 rfl rfl) wv_5_isWithin) ⟨rfl, rfl⟩ hd_5_isWithin ⟨by decide, by decide⟩ ⟨Nat.zero_le _, Nat.zero_le _⟩ hx hb hml hown hts hF⟩
    (dk_an)
theorem e_5_isUnder : dk_Met y_5_isUnder prog_1_method_54_code 4 (some .boolean) ({ frames := 1, cells := 0, slots := 0, locals := 22 }) s_5_isUnder := dk_met (y := y_5_isUnder) (cc := prog_1_method_54_code) (maxL := 4) (ret := (some .boolean)) (rm := ({ frames := 1, cells := 0, slots := 0, locals := 22 })) (T := t_5_isUnder) (tb := b_5_isUnder) (G := g_5_isUnder) (by decide +kernel) ⟨fun z => absurd z (by decide), fun _ => rfl, fun z => absurd z (by decide), fun z => absurd z (by decide)⟩ (fun _ _ _ _ _ hts hd => tok_5 hts hd) h_5_isUnder k_5_isUnder rfl (fun i kd j h => hc_5_isUnder (i, kd, j) (dk_lk_mem h))
set_option maxRecDepth 20000 in
theorem wv_5_isUnder : ∀ w ∈ [Cond.static y_5_isUnder, Cond.initialized y_5_isUnder.cls, Cond.code y_5_isUnder prog_1_method_54_code 4 (some .boolean)], w ∈ dk_TB := dk_ac (dk_tb 753 rfl rfl) (dk_ac (dk_tb 57 rfl rfl) (dk_ac (dk_tb 754 rfl rfl) (dk_an)))
theorem hd_5_isUnder : y_5_isUnder.cls ≠ "java/lang/invoke/MethodHandle" ∧ y_5_isUnder.cls ≠ "java/lang/invoke/VarHandle" ∧ (parseMethodDescriptor y_5_isUnder.desc).map (fun d => d.parameters.length) = some 2 := by decide +kernel
theorem k_5_as : dk_ckT t_5_as prog_1_method_33_code 4 t_5_as.2.2.1 b_5_as = true := by decide +kernel
set_option maxRecDepth 20000 in
theorem hc_5_as : ∀ q ∈ t_5_as.2.1, ∃ n Sm, dk_nth g_5_as q.2.2 = some (n, Sm) ∧ dk_Call y_5_as.cls ({ frames := 2, cells := 0, slots := 0, locals := 45 }) prog_1_method_33_code 4 q.2.1 q.1 n Sm :=
  dk_ac ⟨3, s_5_isWithin, rfl, fun hx hb hml hown hts hF => dk_callS e_5_isWithin (dk_ac (dk_tb 316 rfl rfl) wv_5_isWithin) ⟨rfl, rfl⟩ hd_5_isWithin ⟨by decide, by decide⟩ ⟨Nat.zero_le _, Nat.zero_le _⟩ hx hb hml hown hts hF⟩
    (dk_ac ⟨2, s_5_finding, rfl, fun hx hb hml hown hts hF => dk_callV e_5_finding dk_rcV rfl (dk_ac (dk_tb 323 rfl rfl) wv_5_finding) ⟨rfl, rfl⟩ hd_5_finding ⟨by decide, by decide⟩ ⟨Nat.zero_le _, Nat.zero_le _⟩ hx hb hml hown hts hF⟩
    (dk_ac ⟨2, s_0_hasRank, rfl, fun hx hb hml hown hts hF => dk_callV e_0_hasRank dk_rcV rfl (dk_ac (dk_tb 470 rfl rfl) wv_0_hasRank) ⟨rfl, rfl⟩ hd_0_hasRank ⟨by decide, by decide⟩ ⟨Nat.zero_le _, Nat.zero_le _⟩ hx hb hml hown hts hF⟩
    (dk_ac ⟨2, s_5_isUnder, rfl, fun hx hb hml hown hts hF => dk_callS e_5_isUnder (dk_ac (dk_tb 752 rfl rfl) wv_5_isUnder) ⟨rfl, rfl⟩ hd_5_isUnder ⟨by decide, by decide⟩ ⟨Nat.zero_le _, Nat.zero_le _⟩ hx hb hml hown hts hF⟩
    (dk_an))))
theorem e_5_as : dk_Met y_5_as prog_1_method_33_code 4 (some .int) ({ frames := 2, cells := 0, slots := 0, locals := 45 }) s_5_as := dk_metV 5 (dk_met (y := y_5_as) (cc := prog_1_method_33_code) (maxL := 4) (ret := (some .int)) (rm := ({ frames := 2, cells := 0, slots := 0, locals := 45 })) (T := t_5_as) (tb := b_5_as) (G := g_5_as) (by decide +kernel) ⟨fun _ => rfl, fun z => absurd z (by decide), fun z => absurd z (by decide), fun z => absurd z (by decide)⟩ (fun _ _ _ _ _ hts hd => tok_5 hts hd) h_5_as k_5_as rfl (fun i kd j h => hc_5_as (i, kd, j) (dk_lk_mem h)))
set_option maxRecDepth 20000 in
theorem wv_5_as : ∀ w ∈ [Cond.instanceMethod y_5_as, Cond.selects y_5_as.cls y_5_as y_5_as, Cond.initialized y_5_as.cls, Cond.code y_5_as prog_1_method_33_code 4 (some .int)], w ∈ dk_TB := dk_ac (dk_tb 749 rfl rfl) (dk_ac (dk_tb 750 rfl rfl) (dk_ac (dk_tb 57 rfl rfl) (dk_ac (dk_tb 751 rfl rfl) (dk_an))))
theorem hd_5_as : y_5_as.cls ≠ "java/lang/invoke/MethodHandle" ∧ y_5_as.cls ≠ "java/lang/invoke/VarHandle" ∧ (parseMethodDescriptor y_5_as.desc).map (fun d => d.parameters.length) = some 2 := by decide +kernel
theorem k_5_isSheet : dk_ckT t_5_isSheet prog_1_method_49_code 1 t_5_isSheet.2.2.1 b_5_isSheet = true := by decide +kernel
set_option maxRecDepth 20000 in
theorem hc_5_isSheet : ∀ q ∈ t_5_isSheet.2.1, ∃ n Sm, dk_nth g_5_isSheet q.2.2 = some (n, Sm) ∧ dk_Call y_5_isSheet.cls ({ frames := 1, cells := 0, slots := 0, locals := 22 }) prog_1_method_49_code 1 q.2.1 q.1 n Sm :=
  dk_ac ⟨3, s_5_isWithin, rfl, fun hx hb hml hown hts hF => dk_callS e_5_isWithin (dk_ac (dk_tb 316 rfl rfl) wv_5_isWithin) ⟨rfl, rfl⟩ hd_5_isWithin ⟨by decide, by decide⟩ ⟨Nat.zero_le _, Nat.zero_le _⟩ hx hb hml hown hts hF⟩
    (dk_an)
theorem e_5_isSheet : dk_Met y_5_isSheet prog_1_method_49_code 1 (some .boolean) ({ frames := 1, cells := 0, slots := 0, locals := 22 }) s_5_isSheet := dk_met (y := y_5_isSheet) (cc := prog_1_method_49_code) (maxL := 1) (ret := (some .boolean)) (rm := ({ frames := 1, cells := 0, slots := 0, locals := 22 })) (T := t_5_isSheet) (tb := b_5_isSheet) (G := g_5_isSheet) (by decide +kernel) ⟨fun z => absurd z (by decide), fun _ => rfl, fun z => absurd z (by decide), fun z => absurd z (by decide)⟩ (fun _ _ _ _ _ hts hd => tok_5 hts hd) h_5_isSheet k_5_isSheet rfl (fun i kd j h => hc_5_isSheet (i, kd, j) (dk_lk_mem h))
set_option maxRecDepth 20000 in
theorem wv_5_isSheet : ∀ w ∈ [Cond.static y_5_isSheet, Cond.initialized y_5_isSheet.cls, Cond.code y_5_isSheet prog_1_method_49_code 1 (some .boolean)], w ∈ dk_TB := dk_ac (dk_tb 762 rfl rfl) (dk_ac (dk_tb 57 rfl rfl) (dk_ac (dk_tb 763 rfl rfl) (dk_an)))
theorem hd_5_isSheet : y_5_isSheet.cls ≠ "java/lang/invoke/MethodHandle" ∧ y_5_isSheet.cls ≠ "java/lang/invoke/VarHandle" ∧ (parseMethodDescriptor y_5_isSheet.desc).map (fun d => d.parameters.length) = some 1 := by decide +kernel
theorem k_2_makeAnew : dk_ckT t_2_makeAnew prog_4_method_3_code 3 t_2_makeAnew.2.2.1 b_2_makeAnew = true := by decide +kernel
set_option maxRecDepth 20000 in
theorem hc_2_makeAnew : ∀ q ∈ t_2_makeAnew.2.1, ∃ n Sm, dk_nth g_2_makeAnew q.2.2 = some (n, Sm) ∧ dk_Call y_2_makeAnew.cls ({ frames := 1, cells := 0, slots := 0, locals := 23 }) prog_4_method_3_code 3 q.2.1 q.1 n Sm :=
  dk_ac ⟨2, s_9_fill, rfl, fun hx hb hml hown hts hF => dk_callS e_9_fill (dk_ac (dk_tb 768 rfl rfl) wv_9_fill) ⟨rfl, rfl⟩ hd_9_fill ⟨by decide, by decide⟩ ⟨Nat.zero_le _, Nat.zero_le _⟩ hx hb hml hown hts hF⟩
    (dk_an)
theorem e_2_makeAnew : dk_Met y_2_makeAnew prog_4_method_3_code 3 none ({ frames := 1, cells := 0, slots := 0, locals := 23 }) s_2_makeAnew := dk_metV 2 (dk_met (y := y_2_makeAnew) (cc := prog_4_method_3_code) (maxL := 3) (ret := none) (rm := ({ frames := 1, cells := 0, slots := 0, locals := 23 })) (T := t_2_makeAnew) (tb := b_2_makeAnew) (G := g_2_makeAnew) (by decide +kernel) ⟨fun z => absurd z (by decide), fun z => absurd z (by decide), fun _ => rfl, fun z => absurd z (by decide)⟩ (fun _ _ _ _ _ hts hd => tok_2 hts hd) h_2_makeAnew k_2_makeAnew rfl (fun i kd j h => hc_2_makeAnew (i, kd, j) (dk_lk_mem h)))
set_option maxRecDepth 20000 in
theorem wv_2_makeAnew : ∀ w ∈ [Cond.instanceMethod y_2_makeAnew, Cond.selects y_2_makeAnew.cls y_2_makeAnew y_2_makeAnew, Cond.initialized y_2_makeAnew.cls, Cond.code y_2_makeAnew prog_4_method_3_code 3 none], w ∈ dk_TB := dk_ac (dk_tb 765 rfl rfl) (dk_ac (dk_tb 766 rfl rfl) (dk_ac (dk_tb 63 rfl rfl) (dk_ac (dk_tb 767 rfl rfl) (dk_an))))
theorem hd_2_makeAnew : y_2_makeAnew.cls ≠ "java/lang/invoke/MethodHandle" ∧ y_2_makeAnew.cls ≠ "java/lang/invoke/VarHandle" ∧ (parseMethodDescriptor y_2_makeAnew.desc).map (fun d => d.parameters.length) = some 2 := by decide +kernel
theorem k_5_sheet : dk_ckT t_5_sheet prog_1_method_34_code 4 t_5_sheet.2.2.1 b_5_sheet = true := by decide +kernel
set_option maxRecDepth 20000 in
theorem hc_5_sheet : ∀ q ∈ t_5_sheet.2.1, ∃ n Sm, dk_nth g_5_sheet q.2.2 = some (n, Sm) ∧ dk_Call y_5_sheet.cls ({ frames := 2, cells := 0, slots := 0, locals := 45 }) prog_1_method_34_code 4 q.2.1 q.1 n Sm :=
  dk_ac ⟨1, s_5_isSheet, rfl, fun hx hb hml hown hts hF => dk_callS e_5_isSheet (dk_ac (dk_tb 761 rfl rfl) wv_5_isSheet) ⟨rfl, rfl⟩ hd_5_isSheet ⟨by decide, by decide⟩ ⟨Nat.zero_le _, Nat.zero_le _⟩ hx hb hml hown hts hF⟩
    (dk_ac ⟨2, s_5_finding, rfl, fun hx hb hml hown hts hF => dk_callV e_5_finding dk_rcV rfl (dk_ac (dk_tb 323 rfl rfl) wv_5_finding) ⟨rfl, rfl⟩ hd_5_finding ⟨by decide, by decide⟩ ⟨Nat.zero_le _, Nat.zero_le _⟩ hx hb hml hown hts hF⟩
    (dk_ac ⟨3, s_2_makeAnew, rfl, fun hx hb hml hown hts hF => dk_callV e_2_makeAnew dk_rcV rfl (dk_ac (dk_tb 764 rfl rfl) wv_2_makeAnew) ⟨rfl, rfl⟩ hd_2_makeAnew ⟨by decide, by decide⟩ ⟨Nat.zero_le _, Nat.zero_le _⟩ hx hb hml hown hts hF⟩
    (dk_an)))
theorem e_5_sheet : dk_Met y_5_sheet prog_1_method_34_code 4 (some .int) ({ frames := 2, cells := 0, slots := 0, locals := 45 }) s_5_sheet := dk_metV 5 (dk_met (y := y_5_sheet) (cc := prog_1_method_34_code) (maxL := 4) (ret := (some .int)) (rm := ({ frames := 2, cells := 0, slots := 0, locals := 45 })) (T := t_5_sheet) (tb := b_5_sheet) (G := g_5_sheet) (by decide +kernel) ⟨fun _ => rfl, fun z => absurd z (by decide), fun z => absurd z (by decide), fun z => absurd z (by decide)⟩ (fun _ _ _ _ _ hts hd => tok_5 hts hd) h_5_sheet k_5_sheet rfl (fun i kd j h => hc_5_sheet (i, kd, j) (dk_lk_mem h)))
set_option maxRecDepth 20000 in
theorem wv_5_sheet : ∀ w ∈ [Cond.instanceMethod y_5_sheet, Cond.selects y_5_sheet.cls y_5_sheet y_5_sheet, Cond.initialized y_5_sheet.cls, Cond.code y_5_sheet prog_1_method_34_code 4 (some .int)], w ∈ dk_TB := dk_ac (dk_tb 758 rfl rfl) (dk_ac (dk_tb 759 rfl rfl) (dk_ac (dk_tb 57 rfl rfl) (dk_ac (dk_tb 760 rfl rfl) (dk_an))))
theorem hd_5_sheet : y_5_sheet.cls ≠ "java/lang/invoke/MethodHandle" ∧ y_5_sheet.cls ≠ "java/lang/invoke/VarHandle" ∧ (parseMethodDescriptor y_5_sheet.desc).map (fun d => d.parameters.length) = some 3 := by decide +kernel
theorem k_2_isMissing : dk_ckT t_2_isMissing prog_4_method_2_code 1 t_2_isMissing.2.2.1 b_2_isMissing = true := by decide +kernel
set_option maxRecDepth 20000 in
theorem hc_2_isMissing : ∀ q ∈ t_2_isMissing.2.1, ∃ n Sm, dk_nth g_2_isMissing q.2.2 = some (n, Sm) ∧ dk_Call y_2_isMissing.cls ({ frames := 0, cells := 0, slots := 0, locals := 0 }) prog_4_method_2_code 1 q.2.1 q.1 n Sm :=
  dk_an
theorem e_2_isMissing : dk_Met y_2_isMissing prog_4_method_2_code 1 (some .boolean) ({ frames := 0, cells := 0, slots := 0, locals := 0 }) s_2_isMissing := dk_metV 2 (dk_met (y := y_2_isMissing) (cc := prog_4_method_2_code) (maxL := 1) (ret := (some .boolean)) (rm := ({ frames := 0, cells := 0, slots := 0, locals := 0 })) (T := t_2_isMissing) (tb := b_2_isMissing) (G := g_2_isMissing) (by decide +kernel) ⟨fun z => absurd z (by decide), fun _ => rfl, fun z => absurd z (by decide), fun z => absurd z (by decide)⟩ (fun _ _ _ _ _ hts hd => tok_2 hts hd) h_2_isMissing k_2_isMissing rfl (fun i kd j h => hc_2_isMissing (i, kd, j) (dk_lk_mem h)))
set_option maxRecDepth 20000 in
theorem wv_2_isMissing : ∀ w ∈ [Cond.instanceMethod y_2_isMissing, Cond.selects y_2_isMissing.cls y_2_isMissing y_2_isMissing, Cond.initialized y_2_isMissing.cls, Cond.code y_2_isMissing prog_4_method_2_code 1 (some .boolean)], w ∈ dk_TB := dk_ac (dk_tb 774 rfl rfl) (dk_ac (dk_tb 775 rfl rfl) (dk_ac (dk_tb 63 rfl rfl) (dk_ac (dk_tb 776 rfl rfl) (dk_an))))
theorem hd_2_isMissing : y_2_isMissing.cls ≠ "java/lang/invoke/MethodHandle" ∧ y_2_isMissing.cls ≠ "java/lang/invoke/VarHandle" ∧ (parseMethodDescriptor y_2_isMissing.desc).map (fun d => d.parameters.length) = some 0 := by decide +kernel
theorem k_2_put : dk_ckT t_2_put prog_4_method_4_code 3 t_2_put.2.2.1 b_2_put = true := by decide +kernel
set_option maxRecDepth 20000 in
theorem hc_2_put : ∀ q ∈ t_2_put.2.1, ∃ n Sm, dk_nth g_2_put q.2.2 = some (n, Sm) ∧ dk_Call y_2_put.cls ({ frames := 0, cells := 0, slots := 0, locals := 0 }) prog_4_method_4_code 3 q.2.1 q.1 n Sm :=
  dk_an
theorem e_2_put : dk_Met y_2_put prog_4_method_4_code 3 none ({ frames := 0, cells := 0, slots := 0, locals := 0 }) s_2_put := dk_metV 2 (dk_met (y := y_2_put) (cc := prog_4_method_4_code) (maxL := 3) (ret := none) (rm := ({ frames := 0, cells := 0, slots := 0, locals := 0 })) (T := t_2_put) (tb := b_2_put) (G := g_2_put) (by decide +kernel) ⟨fun z => absurd z (by decide), fun z => absurd z (by decide), fun _ => rfl, fun z => absurd z (by decide)⟩ (fun _ _ _ _ _ hts hd => tok_2 hts hd) h_2_put k_2_put rfl (fun i kd j h => hc_2_put (i, kd, j) (dk_lk_mem h)))
set_option maxRecDepth 20000 in
theorem wv_2_put : ∀ w ∈ [Cond.instanceMethod y_2_put, Cond.selects y_2_put.cls y_2_put y_2_put, Cond.initialized y_2_put.cls, Cond.code y_2_put prog_4_method_4_code 3 none], w ∈ dk_TB := dk_ac (dk_tb 778 rfl rfl) (dk_ac (dk_tb 779 rfl rfl) (dk_ac (dk_tb 63 rfl rfl) (dk_ac (dk_tb 780 rfl rfl) (dk_an))))
theorem hd_2_put : y_2_put.cls ≠ "java/lang/invoke/MethodHandle" ∧ y_2_put.cls ≠ "java/lang/invoke/VarHandle" ∧ (parseMethodDescriptor y_2_put.desc).map (fun d => d.parameters.length) = some 2 := by decide +kernel
theorem k_5_write : dk_ckT t_5_write prog_1_method_35_code 4 t_5_write.2.2.1 b_5_write = true := by decide +kernel
set_option maxRecDepth 20000 in
theorem hc_5_write : ∀ q ∈ t_5_write.2.1, ∃ n Sm, dk_nth g_5_write q.2.2 = some (n, Sm) ∧ dk_Call y_5_write.cls ({ frames := 2, cells := 0, slots := 0, locals := 42 }) prog_1_method_35_code 4 q.2.1 q.1 n Sm :=
  dk_ac ⟨1, s_5_isSheet, rfl, fun hx hb hml hown hts hF => dk_callS e_5_isSheet (dk_ac (dk_tb 761 rfl rfl) wv_5_isSheet) ⟨rfl, rfl⟩ hd_5_isSheet ⟨by decide, by decide⟩ ⟨Nat.zero_le _, Nat.zero_le _⟩ hx hb hml hown hts hF⟩
    (dk_ac ⟨2, s_5_finding, rfl, fun hx hb hml hown hts hF => dk_callV e_5_finding dk_rcV rfl (dk_ac (dk_tb 323 rfl rfl) wv_5_finding) ⟨rfl, rfl⟩ hd_5_finding ⟨by decide, by decide⟩ ⟨Nat.zero_le _, Nat.zero_le _⟩ hx hb hml hown hts hF⟩
    (dk_ac ⟨1, s_2_isMissing, rfl, fun hx hb hml hown hts hF => dk_callV e_2_isMissing dk_rcV rfl (dk_ac (dk_tb 773 rfl rfl) wv_2_isMissing) ⟨rfl, rfl⟩ hd_2_isMissing ⟨by decide, by decide⟩ ⟨Nat.zero_le _, Nat.zero_le _⟩ hx hb hml hown hts hF⟩
    (dk_ac ⟨3, s_5_isWithin, rfl, fun hx hb hml hown hts hF => dk_callS e_5_isWithin (dk_ac (dk_tb 316 rfl rfl) wv_5_isWithin) ⟨rfl, rfl⟩ hd_5_isWithin ⟨by decide, by decide⟩ ⟨Nat.zero_le _, Nat.zero_le _⟩ hx hb hml hown hts hF⟩
    (dk_ac ⟨3, s_2_put, rfl, fun hx hb hml hown hts hF => dk_callV e_2_put dk_rcV rfl (dk_ac (dk_tb 777 rfl rfl) wv_2_put) ⟨rfl, rfl⟩ hd_2_put ⟨by decide, by decide⟩ ⟨Nat.zero_le _, Nat.zero_le _⟩ hx hb hml hown hts hF⟩
    (dk_an)))))
theorem e_5_write : dk_Met y_5_write prog_1_method_35_code 4 (some .int) ({ frames := 2, cells := 0, slots := 0, locals := 42 }) s_5_write := dk_metV 5 (dk_met (y := y_5_write) (cc := prog_1_method_35_code) (maxL := 4) (ret := (some .int)) (rm := ({ frames := 2, cells := 0, slots := 0, locals := 42 })) (T := t_5_write) (tb := b_5_write) (G := g_5_write) (by decide +kernel) ⟨fun _ => rfl, fun z => absurd z (by decide), fun z => absurd z (by decide), fun z => absurd z (by decide)⟩ (fun _ _ _ _ _ hts hd => tok_5 hts hd) h_5_write k_5_write rfl (fun i kd j h => hc_5_write (i, kd, j) (dk_lk_mem h)))
set_option maxRecDepth 20000 in
theorem wv_5_write : ∀ w ∈ [Cond.instanceMethod y_5_write, Cond.selects y_5_write.cls y_5_write y_5_write, Cond.initialized y_5_write.cls, Cond.code y_5_write prog_1_method_35_code 4 (some .int)], w ∈ dk_TB := dk_ac (dk_tb 770 rfl rfl) (dk_ac (dk_tb 771 rfl rfl) (dk_ac (dk_tb 57 rfl rfl) (dk_ac (dk_tb 772 rfl rfl) (dk_an))))
theorem hd_5_write : y_5_write.cls ≠ "java/lang/invoke/MethodHandle" ∧ y_5_write.cls ≠ "java/lang/invoke/VarHandle" ∧ (parseMethodDescriptor y_5_write.desc).map (fun d => d.parameters.length) = some 3 := by decide +kernel
theorem k_2_hasFrom : dk_ckT t_2_hasFrom prog_4_method_5_code 3 t_2_hasFrom.2.2.1 b_2_hasFrom = true := by decide +kernel
set_option maxRecDepth 20000 in
theorem hc_2_hasFrom : ∀ q ∈ t_2_hasFrom.2.1, ∃ n Sm, dk_nth g_2_hasFrom q.2.2 = some (n, Sm) ∧ dk_Call y_2_hasFrom.cls ({ frames := 0, cells := 0, slots := 0, locals := 0 }) prog_4_method_5_code 3 q.2.1 q.1 n Sm :=
  dk_an
theorem e_2_hasFrom : dk_Met y_2_hasFrom prog_4_method_5_code 3 (some .boolean) ({ frames := 0, cells := 0, slots := 0, locals := 0 }) s_2_hasFrom := dk_metV 2 (dk_met (y := y_2_hasFrom) (cc := prog_4_method_5_code) (maxL := 3) (ret := (some .boolean)) (rm := ({ frames := 0, cells := 0, slots := 0, locals := 0 })) (T := t_2_hasFrom) (tb := b_2_hasFrom) (G := g_2_hasFrom) (by decide +kernel) ⟨fun z => absurd z (by decide), fun _ => rfl, fun z => absurd z (by decide), fun z => absurd z (by decide)⟩ (fun _ _ _ _ _ hts hd => tok_2 hts hd) h_2_hasFrom k_2_hasFrom rfl (fun i kd j h => hc_2_hasFrom (i, kd, j) (dk_lk_mem h)))
set_option maxRecDepth 20000 in
theorem wv_2_hasFrom : ∀ w ∈ [Cond.instanceMethod y_2_hasFrom, Cond.selects y_2_hasFrom.cls y_2_hasFrom y_2_hasFrom, Cond.initialized y_2_hasFrom.cls, Cond.code y_2_hasFrom prog_4_method_5_code 3 (some .boolean)], w ∈ dk_TB := dk_ac (dk_tb 786 rfl rfl) (dk_ac (dk_tb 787 rfl rfl) (dk_ac (dk_tb 63 rfl rfl) (dk_ac (dk_tb 788 rfl rfl) (dk_an))))
theorem hd_2_hasFrom : y_2_hasFrom.cls ≠ "java/lang/invoke/MethodHandle" ∧ y_2_hasFrom.cls ≠ "java/lang/invoke/VarHandle" ∧ (parseMethodDescriptor y_2_hasFrom.desc).map (fun d => d.parameters.length) = some 2 := by decide +kernel
theorem k_5_copy : dk_ckT t_5_copy prog_1_method_36_code 8 t_5_copy.2.2.1 b_5_copy = true := by decide +kernel
set_option maxRecDepth 20000 in
theorem hc_5_copy : ∀ q ∈ t_5_copy.2.1, ∃ n Sm, dk_nth g_5_copy q.2.2 = some (n, Sm) ∧ dk_Call y_5_copy.cls ({ frames := 2, cells := 0, slots := 0, locals := 64 }) prog_1_method_36_code 8 q.2.1 q.1 n Sm :=
  dk_ac ⟨1, s_5_isSheet, rfl, fun hx hb hml hown hts hF => dk_callS e_5_isSheet (dk_ac (dk_tb 761 rfl rfl) wv_5_isSheet) ⟨rfl, rfl⟩ hd_5_isSheet ⟨by decide, by decide⟩ ⟨Nat.zero_le _, Nat.zero_le _⟩ hx hb hml hown hts hF⟩
    (dk_ac ⟨2, s_5_finding, rfl, fun hx hb hml hown hts hF => dk_callV e_5_finding dk_rcV rfl (dk_ac (dk_tb 323 rfl rfl) wv_5_finding) ⟨rfl, rfl⟩ hd_5_finding ⟨by decide, by decide⟩ ⟨Nat.zero_le _, Nat.zero_le _⟩ hx hb hml hown hts hF⟩
    (dk_ac ⟨1, s_2_isMissing, rfl, fun hx hb hml hown hts hF => dk_callV e_2_isMissing dk_rcV rfl (dk_ac (dk_tb 773 rfl rfl) wv_2_isMissing) ⟨rfl, rfl⟩ hd_2_isMissing ⟨by decide, by decide⟩ ⟨Nat.zero_le _, Nat.zero_le _⟩ hx hb hml hown hts hF⟩
    (dk_ac ⟨3, s_2_hasFrom, rfl, fun hx hb hml hown hts hF => dk_callV e_2_hasFrom dk_rcV rfl (dk_ac (dk_tb 785 rfl rfl) wv_2_hasFrom) ⟨rfl, rfl⟩ hd_2_hasFrom ⟨by decide, by decide⟩ ⟨Nat.zero_le _, Nat.zero_le _⟩ hx hb hml hown hts hF⟩
    (dk_ac ⟨5, s_ac, rfl, call_ac (own := nn_R5) (i := 190) (dk_tb 592 rfl rfl) (by decide) (by decide)⟩
    (dk_an)))))
theorem e_5_copy : dk_Met y_5_copy prog_1_method_36_code 8 (some .int) ({ frames := 2, cells := 0, slots := 0, locals := 64 }) s_5_copy := dk_metV 5 (dk_met (y := y_5_copy) (cc := prog_1_method_36_code) (maxL := 8) (ret := (some .int)) (rm := ({ frames := 2, cells := 0, slots := 0, locals := 64 })) (T := t_5_copy) (tb := b_5_copy) (G := g_5_copy) (by decide +kernel) ⟨fun _ => rfl, fun z => absurd z (by decide), fun z => absurd z (by decide), fun z => absurd z (by decide)⟩ (fun _ _ _ _ _ hts hd => tok_5 hts hd) h_5_copy k_5_copy rfl (fun i kd j h => hc_5_copy (i, kd, j) (dk_lk_mem h)))
set_option maxRecDepth 20000 in
theorem wv_5_copy : ∀ w ∈ [Cond.instanceMethod y_5_copy, Cond.selects y_5_copy.cls y_5_copy y_5_copy, Cond.initialized y_5_copy.cls, Cond.code y_5_copy prog_1_method_36_code 8 (some .int)], w ∈ dk_TB := dk_ac (dk_tb 782 rfl rfl) (dk_ac (dk_tb 783 rfl rfl) (dk_ac (dk_tb 57 rfl rfl) (dk_ac (dk_tb 784 rfl rfl) (dk_an))))
theorem hd_5_copy : y_5_copy.cls ≠ "java/lang/invoke/MethodHandle" ∧ y_5_copy.cls ≠ "java/lang/invoke/VarHandle" ∧ (parseMethodDescriptor y_5_copy.desc).map (fun d => d.parameters.length) = some 5 := by decide +kernel
theorem k_5_load : dk_ckT t_5_load prog_1_method_37_code 4 t_5_load.2.2.1 b_5_load = true := by decide +kernel
set_option maxRecDepth 20000 in
theorem hc_5_load : ∀ q ∈ t_5_load.2.1, ∃ n Sm, dk_nth g_5_load q.2.2 = some (n, Sm) ∧ dk_Call y_5_load.cls ({ frames := 2, cells := 0, slots := 0, locals := 43 }) prog_1_method_37_code 4 q.2.1 q.1 n Sm :=
  dk_ac ⟨1, s_5_isSheet, rfl, fun hx hb hml hown hts hF => dk_callS e_5_isSheet (dk_ac (dk_tb 761 rfl rfl) wv_5_isSheet) ⟨rfl, rfl⟩ hd_5_isSheet ⟨by decide, by decide⟩ ⟨Nat.zero_le _, Nat.zero_le _⟩ hx hb hml hown hts hF⟩
    (dk_ac ⟨2, s_5_finding, rfl, fun hx hb hml hown hts hF => dk_callV e_5_finding dk_rcV rfl (dk_ac (dk_tb 323 rfl rfl) wv_5_finding) ⟨rfl, rfl⟩ hd_5_finding ⟨by decide, by decide⟩ ⟨Nat.zero_le _, Nat.zero_le _⟩ hx hb hml hown hts hF⟩
    (dk_ac ⟨1, s_2_isMissing, rfl, fun hx hb hml hown hts hF => dk_callV e_2_isMissing dk_rcV rfl (dk_ac (dk_tb 773 rfl rfl) wv_2_isMissing) ⟨rfl, rfl⟩ hd_2_isMissing ⟨by decide, by decide⟩ ⟨Nat.zero_le _, Nat.zero_le _⟩ hx hb hml hown hts hF⟩
    (dk_ac ⟨2, s_8_min, rfl, fun hx hb hml hown hts hF => dk_callS e_8_min (dk_ac (dk_tb 707 rfl rfl) wv_8_min) ⟨rfl, rfl⟩ hd_8_min ⟨by decide, by decide⟩ ⟨Nat.zero_le _, Nat.zero_le _⟩ hx hb hml hown hts hF⟩
    (dk_ac ⟨2, s_0_wrap, rfl, fun hx hb hml hown hts hF => dk_callV e_0_wrap dk_rcV rfl (dk_ac (dk_tb 538 rfl rfl) wv_0_wrap) ⟨rfl, rfl⟩ hd_0_wrap ⟨by decide, by decide⟩ ⟨Nat.zero_le _, Nat.zero_le _⟩ hx hb hml hown hts hF⟩
    (dk_an)))))
theorem e_5_load : dk_Met y_5_load prog_1_method_37_code 4 (some .int) ({ frames := 2, cells := 0, slots := 0, locals := 43 }) s_5_load := dk_metV 5 (dk_met (y := y_5_load) (cc := prog_1_method_37_code) (maxL := 4) (ret := (some .int)) (rm := ({ frames := 2, cells := 0, slots := 0, locals := 43 })) (T := t_5_load) (tb := b_5_load) (G := g_5_load) (by decide +kernel) ⟨fun _ => rfl, fun z => absurd z (by decide), fun z => absurd z (by decide), fun z => absurd z (by decide)⟩ (fun _ _ _ _ _ hts hd => tok_5 hts hd) h_5_load k_5_load rfl (fun i kd j h => hc_5_load (i, kd, j) (dk_lk_mem h)))
set_option maxRecDepth 20000 in
theorem wv_5_load : ∀ w ∈ [Cond.instanceMethod y_5_load, Cond.selects y_5_load.cls y_5_load y_5_load, Cond.initialized y_5_load.cls, Cond.code y_5_load prog_1_method_37_code 4 (some .int)], w ∈ dk_TB := dk_ac (dk_tb 790 rfl rfl) (dk_ac (dk_tb 791 rfl rfl) (dk_ac (dk_tb 57 rfl rfl) (dk_ac (dk_tb 792 rfl rfl) (dk_an))))
theorem hd_5_load : y_5_load.cls ≠ "java/lang/invoke/MethodHandle" ∧ y_5_load.cls ≠ "java/lang/invoke/VarHandle" ∧ (parseMethodDescriptor y_5_load.desc).map (fun d => d.parameters.length) = some 1 := by decide +kernel
theorem k_5_judge : dk_ckT t_5_judge prog_1_method_38_code 3 t_5_judge.2.2.1 b_5_judge = true := by decide +kernel
set_option maxRecDepth 20000 in
theorem hc_5_judge : ∀ q ∈ t_5_judge.2.1, ∃ n Sm, dk_nth g_5_judge q.2.2 = some (n, Sm) ∧ dk_Call y_5_judge.cls ({ frames := 7, cells := 0, slots := 0, locals := 149 }) prog_1_method_38_code 3 q.2.1 q.1 n Sm :=
  dk_ac ⟨1, s_5_isSheet, rfl, fun hx hb hml hown hts hF => dk_callS e_5_isSheet (dk_ac (dk_tb 761 rfl rfl) wv_5_isSheet) ⟨rfl, rfl⟩ hd_5_isSheet ⟨by decide, by decide⟩ ⟨Nat.zero_le _, Nat.zero_le _⟩ hx hb hml hown hts hF⟩
    (dk_ac ⟨2, s_5_finding, rfl, fun hx hb hml hown hts hF => dk_callV e_5_finding dk_rcV rfl (dk_ac (dk_tb 323 rfl rfl) wv_5_finding) ⟨rfl, rfl⟩ hd_5_finding ⟨by decide, by decide⟩ ⟨Nat.zero_le _, Nat.zero_le _⟩ hx hb hml hown hts hF⟩
    (dk_ac ⟨1, s_2_isMissing, rfl, fun hx hb hml hown hts hF => dk_callV e_2_isMissing dk_rcV rfl (dk_ac (dk_tb 773 rfl rfl) wv_2_isMissing) ⟨rfl, rfl⟩ hd_2_isMissing ⟨by decide, by decide⟩ ⟨Nat.zero_le _, Nat.zero_le _⟩ hx hb hml hown hts hF⟩
    (dk_ac ⟨1, s_5_setOut, rfl, fun hx hb hml hown hts hF => dk_callV e_5_setOut dk_rcV rfl (dk_ac (dk_tb 571 rfl rfl) wv_5_setOut) ⟨rfl, rfl⟩ hd_5_setOut ⟨by decide, by decide⟩ ⟨Nat.zero_le _, Nat.zero_le _⟩ hx hb hml hown hts hF⟩
    (dk_ac ⟨1, s_4_step, rfl, fun hx hb hml hown hts hF => dk_callV e_4_step dk_rcV rfl (dk_ac (dk_tb 620 rfl rfl) wv_4_step) ⟨rfl, rfl⟩ hd_4_step ⟨by decide, by decide⟩ ⟨Nat.zero_le _, Nat.zero_le _⟩ hx hb hml hown hts hF⟩
    (dk_ac ⟨2, s_0_worstOf, rfl, fun hx hb hml hown hts hF => dk_callV e_0_worstOf dk_rcV rfl (dk_ac (dk_tb 593 rfl rfl) wv_0_worstOf) ⟨rfl, rfl⟩ hd_0_worstOf ⟨by decide, by decide⟩ ⟨Nat.zero_le _, Nat.zero_le _⟩ hx hb hml hown hts hF⟩
    (dk_an))))))
theorem e_5_judge : dk_Met y_5_judge prog_1_method_38_code 3 (some .int) ({ frames := 7, cells := 0, slots := 0, locals := 149 }) s_5_judge := dk_metV 5 (dk_met (y := y_5_judge) (cc := prog_1_method_38_code) (maxL := 3) (ret := (some .int)) (rm := ({ frames := 7, cells := 0, slots := 0, locals := 149 })) (T := t_5_judge) (tb := b_5_judge) (G := g_5_judge) (by decide +kernel) ⟨fun _ => rfl, fun z => absurd z (by decide), fun z => absurd z (by decide), fun z => absurd z (by decide)⟩ (fun _ _ _ _ _ hts hd => tok_5 hts hd) h_5_judge k_5_judge rfl (fun i kd j h => hc_5_judge (i, kd, j) (dk_lk_mem h)))
set_option maxRecDepth 20000 in
theorem wv_5_judge : ∀ w ∈ [Cond.instanceMethod y_5_judge, Cond.selects y_5_judge.cls y_5_judge y_5_judge, Cond.initialized y_5_judge.cls, Cond.code y_5_judge prog_1_method_38_code 3 (some .int)], w ∈ dk_TB := dk_ac (dk_tb 794 rfl rfl) (dk_ac (dk_tb 795 rfl rfl) (dk_ac (dk_tb 57 rfl rfl) (dk_ac (dk_tb 796 rfl rfl) (dk_an))))
theorem hd_5_judge : y_5_judge.cls ≠ "java/lang/invoke/MethodHandle" ∧ y_5_judge.cls ≠ "java/lang/invoke/VarHandle" ∧ (parseMethodDescriptor y_5_judge.desc).map (fun d => d.parameters.length) = some 1 := by decide +kernel
theorem k_0_becomeAs : dk_ckT t_0_becomeAs prog_2_method_2_code 2 t_0_becomeAs.2.2.1 b_0_becomeAs = true := by decide +kernel
set_option maxRecDepth 20000 in
theorem hc_0_becomeAs : ∀ q ∈ t_0_becomeAs.2.1, ∃ n Sm, dk_nth g_0_becomeAs q.2.2 = some (n, Sm) ∧ dk_Call y_0_becomeAs.cls ({ frames := 1, cells := 0, slots := 0, locals := 64 }) prog_2_method_2_code 2 q.2.1 q.1 n Sm :=
  dk_ac ⟨5, s_ac, rfl, call_ac (own := nn_R0) (i := 75) (dk_tb 805 rfl rfl) (by decide) (by decide)⟩
    (dk_an)
theorem e_0_becomeAs : dk_Met y_0_becomeAs prog_2_method_2_code 2 none ({ frames := 1, cells := 0, slots := 0, locals := 64 }) s_0_becomeAs := dk_metV 0 (dk_met (y := y_0_becomeAs) (cc := prog_2_method_2_code) (maxL := 2) (ret := none) (rm := ({ frames := 1, cells := 0, slots := 0, locals := 64 })) (T := t_0_becomeAs) (tb := b_0_becomeAs) (G := g_0_becomeAs) (by decide +kernel) ⟨fun z => absurd z (by decide), fun z => absurd z (by decide), fun _ => rfl, fun z => absurd z (by decide)⟩ (fun _ _ _ _ _ hts hd => tok_0 hts hd) h_0_becomeAs k_0_becomeAs rfl (fun i kd j h => hc_0_becomeAs (i, kd, j) (dk_lk_mem h)))
set_option maxRecDepth 20000 in
theorem wv_0_becomeAs : ∀ w ∈ [Cond.instanceMethod y_0_becomeAs, Cond.selects y_0_becomeAs.cls y_0_becomeAs y_0_becomeAs, Cond.initialized y_0_becomeAs.cls, Cond.code y_0_becomeAs prog_2_method_2_code 2 none], w ∈ dk_TB := dk_ac (dk_tb 802 rfl rfl) (dk_ac (dk_tb 803 rfl rfl) (dk_ac (dk_tb 58 rfl rfl) (dk_ac (dk_tb 804 rfl rfl) (dk_an))))
theorem hd_0_becomeAs : y_0_becomeAs.cls ≠ "java/lang/invoke/MethodHandle" ∧ y_0_becomeAs.cls ≠ "java/lang/invoke/VarHandle" ∧ (parseMethodDescriptor y_0_becomeAs.desc).map (fun d => d.parameters.length) = some 1 := by decide +kernel
theorem k_5_image : dk_ckT t_5_image prog_1_method_39_code 1 t_5_image.2.2.1 b_5_image = true := by decide +kernel
set_option maxRecDepth 20000 in
theorem hc_5_image : ∀ q ∈ t_5_image.2.1, ∃ n Sm, dk_nth g_5_image q.2.2 = some (n, Sm) ∧ dk_Call y_5_image.cls ({ frames := 2, cells := 0, slots := 0, locals := 85 }) prog_1_method_39_code 1 q.2.1 q.1 n Sm :=
  dk_ac ⟨2, s_0_becomeAs, rfl, fun hx hb hml hown hts hF => dk_callV e_0_becomeAs dk_rcV rfl (dk_ac (dk_tb 801 rfl rfl) wv_0_becomeAs) ⟨rfl, rfl⟩ hd_0_becomeAs ⟨by decide, by decide⟩ ⟨Nat.zero_le _, Nat.zero_le _⟩ hx hb hml hown hts hF⟩
    (dk_an)
theorem e_5_image : dk_Met y_5_image prog_1_method_39_code 1 (some .int) ({ frames := 2, cells := 0, slots := 0, locals := 85 }) s_5_image := dk_metV 5 (dk_met (y := y_5_image) (cc := prog_1_method_39_code) (maxL := 1) (ret := (some .int)) (rm := ({ frames := 2, cells := 0, slots := 0, locals := 85 })) (T := t_5_image) (tb := b_5_image) (G := g_5_image) (by decide +kernel) ⟨fun _ => rfl, fun z => absurd z (by decide), fun z => absurd z (by decide), fun z => absurd z (by decide)⟩ (fun _ _ _ _ _ hts hd => tok_5 hts hd) h_5_image k_5_image rfl (fun i kd j h => hc_5_image (i, kd, j) (dk_lk_mem h)))
set_option maxRecDepth 20000 in
theorem wv_5_image : ∀ w ∈ [Cond.instanceMethod y_5_image, Cond.selects y_5_image.cls y_5_image y_5_image, Cond.initialized y_5_image.cls, Cond.code y_5_image prog_1_method_39_code 1 (some .int)], w ∈ dk_TB := dk_ac (dk_tb 798 rfl rfl) (dk_ac (dk_tb 799 rfl rfl) (dk_ac (dk_tb 57 rfl rfl) (dk_ac (dk_tb 800 rfl rfl) (dk_an))))
theorem hd_5_image : y_5_image.cls ≠ "java/lang/invoke/MethodHandle" ∧ y_5_image.cls ≠ "java/lang/invoke/VarHandle" ∧ (parseMethodDescriptor y_5_image.desc).map (fun d => d.parameters.length) = some 0 := by decide +kernel
theorem k_5_undo : dk_ckT t_5_undo prog_1_method_40_code 1 t_5_undo.2.2.1 b_5_undo = true := by decide +kernel
set_option maxRecDepth 20000 in
theorem hc_5_undo : ∀ q ∈ t_5_undo.2.1, ∃ n Sm, dk_nth g_5_undo q.2.2 = some (n, Sm) ∧ dk_Call y_5_undo.cls ({ frames := 2, cells := 0, slots := 0, locals := 85 }) prog_1_method_40_code 1 q.2.1 q.1 n Sm :=
  dk_ac ⟨2, s_5_finding, rfl, fun hx hb hml hown hts hF => dk_callV e_5_finding dk_rcV rfl (dk_ac (dk_tb 323 rfl rfl) wv_5_finding) ⟨rfl, rfl⟩ hd_5_finding ⟨by decide, by decide⟩ ⟨Nat.zero_le _, Nat.zero_le _⟩ hx hb hml hown hts hF⟩
    (dk_ac ⟨2, s_0_becomeAs, rfl, fun hx hb hml hown hts hF => dk_callV e_0_becomeAs dk_rcV rfl (dk_ac (dk_tb 801 rfl rfl) wv_0_becomeAs) ⟨rfl, rfl⟩ hd_0_becomeAs ⟨by decide, by decide⟩ ⟨Nat.zero_le _, Nat.zero_le _⟩ hx hb hml hown hts hF⟩
    (dk_an))
theorem e_5_undo : dk_Met y_5_undo prog_1_method_40_code 1 (some .int) ({ frames := 2, cells := 0, slots := 0, locals := 85 }) s_5_undo := dk_metV 5 (dk_met (y := y_5_undo) (cc := prog_1_method_40_code) (maxL := 1) (ret := (some .int)) (rm := ({ frames := 2, cells := 0, slots := 0, locals := 85 })) (T := t_5_undo) (tb := b_5_undo) (G := g_5_undo) (by decide +kernel) ⟨fun _ => rfl, fun z => absurd z (by decide), fun z => absurd z (by decide), fun z => absurd z (by decide)⟩ (fun _ _ _ _ _ hts hd => tok_5 hts hd) h_5_undo k_5_undo rfl (fun i kd j h => hc_5_undo (i, kd, j) (dk_lk_mem h)))
set_option maxRecDepth 20000 in
theorem wv_5_undo : ∀ w ∈ [Cond.instanceMethod y_5_undo, Cond.selects y_5_undo.cls y_5_undo y_5_undo, Cond.initialized y_5_undo.cls, Cond.code y_5_undo prog_1_method_40_code 1 (some .int)], w ∈ dk_TB := dk_ac (dk_tb 807 rfl rfl) (dk_ac (dk_tb 808 rfl rfl) (dk_ac (dk_tb 57 rfl rfl) (dk_ac (dk_tb 809 rfl rfl) (dk_an))))
theorem hd_5_undo : y_5_undo.cls ≠ "java/lang/invoke/MethodHandle" ∧ y_5_undo.cls ≠ "java/lang/invoke/VarHandle" ∧ (parseMethodDescriptor y_5_undo.desc).map (fun d => d.parameters.length) = some 0 := by decide +kernel
theorem k_5_tear : dk_ckT t_5_tear prog_1_method_41_code 2 t_5_tear.2.2.1 b_5_tear = true := by decide +kernel
set_option maxRecDepth 20000 in
theorem hc_5_tear : ∀ q ∈ t_5_tear.2.1, ∃ n Sm, dk_nth g_5_tear q.2.2 = some (n, Sm) ∧ dk_Call y_5_tear.cls ({ frames := 0, cells := 0, slots := 0, locals := 0 }) prog_1_method_41_code 2 q.2.1 q.1 n Sm :=
  dk_an
theorem e_5_tear : dk_Met y_5_tear prog_1_method_41_code 2 (some .int) ({ frames := 0, cells := 0, slots := 0, locals := 0 }) s_5_tear := dk_metV 5 (dk_met (y := y_5_tear) (cc := prog_1_method_41_code) (maxL := 2) (ret := (some .int)) (rm := ({ frames := 0, cells := 0, slots := 0, locals := 0 })) (T := t_5_tear) (tb := b_5_tear) (G := g_5_tear) (by decide +kernel) ⟨fun _ => rfl, fun z => absurd z (by decide), fun z => absurd z (by decide), fun z => absurd z (by decide)⟩ (fun _ _ _ _ _ hts hd => tok_5 hts hd) h_5_tear k_5_tear rfl (fun i kd j h => hc_5_tear (i, kd, j) (dk_lk_mem h)))
set_option maxRecDepth 20000 in
theorem wv_5_tear : ∀ w ∈ [Cond.instanceMethod y_5_tear, Cond.selects y_5_tear.cls y_5_tear y_5_tear, Cond.initialized y_5_tear.cls, Cond.code y_5_tear prog_1_method_41_code 2 (some .int)], w ∈ dk_TB := dk_ac (dk_tb 811 rfl rfl) (dk_ac (dk_tb 812 rfl rfl) (dk_ac (dk_tb 57 rfl rfl) (dk_ac (dk_tb 813 rfl rfl) (dk_an))))
theorem hd_5_tear : y_5_tear.cls ≠ "java/lang/invoke/MethodHandle" ∧ y_5_tear.cls ≠ "java/lang/invoke/VarHandle" ∧ (parseMethodDescriptor y_5_tear.desc).map (fun d => d.parameters.length) = some 0 := by decide +kernel
theorem k_0_spotsHeld : dk_ckT t_0_spotsHeld prog_2_method_17_code 3 t_0_spotsHeld.2.2.1 b_0_spotsHeld = true := by decide +kernel
set_option maxRecDepth 20000 in
theorem hc_0_spotsHeld : ∀ q ∈ t_0_spotsHeld.2.1, ∃ n Sm, dk_nth g_0_spotsHeld q.2.2 = some (n, Sm) ∧ dk_Call y_0_spotsHeld.cls ({ frames := 0, cells := 0, slots := 0, locals := 0 }) prog_2_method_17_code 3 q.2.1 q.1 n Sm :=
  dk_an
theorem e_0_spotsHeld : dk_Met y_0_spotsHeld prog_2_method_17_code 3 (some .int) ({ frames := 0, cells := 0, slots := 0, locals := 0 }) s_0_spotsHeld := dk_metV 0 (dk_met (y := y_0_spotsHeld) (cc := prog_2_method_17_code) (maxL := 3) (ret := (some .int)) (rm := ({ frames := 0, cells := 0, slots := 0, locals := 0 })) (T := t_0_spotsHeld) (tb := b_0_spotsHeld) (G := g_0_spotsHeld) (by decide +kernel) ⟨fun _ => rfl, fun z => absurd z (by decide), fun z => absurd z (by decide), fun z => absurd z (by decide)⟩ (fun _ _ _ _ _ hts hd => tok_0 hts hd) h_0_spotsHeld k_0_spotsHeld rfl (fun i kd j h => hc_0_spotsHeld (i, kd, j) (dk_lk_mem h)))
set_option maxRecDepth 20000 in
theorem wv_0_spotsHeld : ∀ w ∈ [Cond.instanceMethod y_0_spotsHeld, Cond.selects y_0_spotsHeld.cls y_0_spotsHeld y_0_spotsHeld, Cond.initialized y_0_spotsHeld.cls, Cond.code y_0_spotsHeld prog_2_method_17_code 3 (some .int)], w ∈ dk_TB := dk_ac (dk_tb 819 rfl rfl) (dk_ac (dk_tb 820 rfl rfl) (dk_ac (dk_tb 58 rfl rfl) (dk_ac (dk_tb 821 rfl rfl) (dk_an))))
theorem hd_0_spotsHeld : y_0_spotsHeld.cls ≠ "java/lang/invoke/MethodHandle" ∧ y_0_spotsHeld.cls ≠ "java/lang/invoke/VarHandle" ∧ (parseMethodDescriptor y_0_spotsHeld.desc).map (fun d => d.parameters.length) = some 0 := by decide +kernel
theorem k_5_count : dk_ckT t_5_count prog_1_method_42_code 2 t_5_count.2.2.1 b_5_count = true := by decide +kernel
set_option maxRecDepth 20000 in
theorem hc_5_count : ∀ q ∈ t_5_count.2.1, ∃ n Sm, dk_nth g_5_count q.2.2 = some (n, Sm) ∧ dk_Call y_5_count.cls ({ frames := 1, cells := 0, slots := 0, locals := 22 }) prog_1_method_42_code 2 q.2.1 q.1 n Sm :=
  dk_ac ⟨1, s_0_spotsHeld, rfl, fun hx hb hml hown hts hF => dk_callV e_0_spotsHeld dk_rcV rfl (dk_ac (dk_tb 818 rfl rfl) wv_0_spotsHeld) ⟨rfl, rfl⟩ hd_0_spotsHeld ⟨by decide, by decide⟩ ⟨Nat.zero_le _, Nat.zero_le _⟩ hx hb hml hown hts hF⟩
    (dk_ac ⟨2, s_5_finding, rfl, fun hx hb hml hown hts hF => dk_callV e_5_finding dk_rcV rfl (dk_ac (dk_tb 323 rfl rfl) wv_5_finding) ⟨rfl, rfl⟩ hd_5_finding ⟨by decide, by decide⟩ ⟨Nat.zero_le _, Nat.zero_le _⟩ hx hb hml hown hts hF⟩
    (dk_an))
theorem e_5_count : dk_Met y_5_count prog_1_method_42_code 2 (some .int) ({ frames := 1, cells := 0, slots := 0, locals := 22 }) s_5_count := dk_metV 5 (dk_met (y := y_5_count) (cc := prog_1_method_42_code) (maxL := 2) (ret := (some .int)) (rm := ({ frames := 1, cells := 0, slots := 0, locals := 22 })) (T := t_5_count) (tb := b_5_count) (G := g_5_count) (by decide +kernel) ⟨fun _ => rfl, fun z => absurd z (by decide), fun z => absurd z (by decide), fun z => absurd z (by decide)⟩ (fun _ _ _ _ _ hts hd => tok_5 hts hd) h_5_count k_5_count rfl (fun i kd j h => hc_5_count (i, kd, j) (dk_lk_mem h)))
set_option maxRecDepth 20000 in
theorem wv_5_count : ∀ w ∈ [Cond.instanceMethod y_5_count, Cond.selects y_5_count.cls y_5_count y_5_count, Cond.initialized y_5_count.cls, Cond.code y_5_count prog_1_method_42_code 2 (some .int)], w ∈ dk_TB := dk_ac (dk_tb 815 rfl rfl) (dk_ac (dk_tb 816 rfl rfl) (dk_ac (dk_tb 57 rfl rfl) (dk_ac (dk_tb 817 rfl rfl) (dk_an))))
theorem hd_5_count : y_5_count.cls ≠ "java/lang/invoke/MethodHandle" ∧ y_5_count.cls ≠ "java/lang/invoke/VarHandle" ∧ (parseMethodDescriptor y_5_count.desc).map (fun d => d.parameters.length) = some 1 := by decide +kernel
theorem k_5_status : dk_ckT t_5_status prog_1_method_43_code 4 t_5_status.2.2.1 b_5_status = true := by decide +kernel
set_option maxRecDepth 20000 in
theorem hc_5_status : ∀ q ∈ t_5_status.2.1, ∃ n Sm, dk_nth g_5_status q.2.2 = some (n, Sm) ∧ dk_Call y_5_status.cls ({ frames := 1, cells := 0, slots := 0, locals := 22 }) prog_1_method_43_code 4 q.2.1 q.1 n Sm :=
  dk_ac ⟨3, s_5_isWithin, rfl, fun hx hb hml hown hts hF => dk_callS e_5_isWithin (dk_ac (dk_tb 316 rfl rfl) wv_5_isWithin) ⟨rfl, rfl⟩ hd_5_isWithin ⟨by decide, by decide⟩ ⟨Nat.zero_le _, Nat.zero_le _⟩ hx hb hml hown hts hF⟩
    (dk_ac ⟨2, s_5_finding, rfl, fun hx hb hml hown hts hF => dk_callV e_5_finding dk_rcV rfl (dk_ac (dk_tb 323 rfl rfl) wv_5_finding) ⟨rfl, rfl⟩ hd_5_finding ⟨by decide, by decide⟩ ⟨Nat.zero_le _, Nat.zero_le _⟩ hx hb hml hown hts hF⟩
    (dk_an))
theorem e_5_status : dk_Met y_5_status prog_1_method_43_code 4 (some .int) ({ frames := 1, cells := 0, slots := 0, locals := 22 }) s_5_status := dk_metV 5 (dk_met (y := y_5_status) (cc := prog_1_method_43_code) (maxL := 4) (ret := (some .int)) (rm := ({ frames := 1, cells := 0, slots := 0, locals := 22 })) (T := t_5_status) (tb := b_5_status) (G := g_5_status) (by decide +kernel) ⟨fun _ => rfl, fun z => absurd z (by decide), fun z => absurd z (by decide), fun z => absurd z (by decide)⟩ (fun _ _ _ _ _ hts hd => tok_5 hts hd) h_5_status k_5_status rfl (fun i kd j h => hc_5_status (i, kd, j) (dk_lk_mem h)))
set_option maxRecDepth 20000 in
theorem wv_5_status : ∀ w ∈ [Cond.instanceMethod y_5_status, Cond.selects y_5_status.cls y_5_status y_5_status, Cond.initialized y_5_status.cls, Cond.code y_5_status prog_1_method_43_code 4 (some .int)], w ∈ dk_TB := dk_ac (dk_tb 823 rfl rfl) (dk_ac (dk_tb 824 rfl rfl) (dk_ac (dk_tb 57 rfl rfl) (dk_ac (dk_tb 825 rfl rfl) (dk_an))))
theorem hd_5_status : y_5_status.cls ≠ "java/lang/invoke/MethodHandle" ∧ y_5_status.cls ≠ "java/lang/invoke/VarHandle" ∧ (parseMethodDescriptor y_5_status.desc).map (fun d => d.parameters.length) = some 1 := by decide +kernel
theorem k_6_in : dk_ckT t_6_in prog_8_method_2_code 3 t_6_in.2.2.1 b_6_in = true := by decide +kernel
set_option maxRecDepth 20000 in
theorem hc_6_in : ∀ q ∈ t_6_in.2.1, ∃ n Sm, dk_nth g_6_in q.2.2 = some (n, Sm) ∧ dk_Call y_6_in.cls ({ frames := 0, cells := 0, slots := 0, locals := 0 }) prog_8_method_2_code 3 q.2.1 q.1 n Sm :=
  dk_an
theorem e_6_in : dk_Met y_6_in prog_8_method_2_code 3 (some .boolean) ({ frames := 0, cells := 0, slots := 0, locals := 0 }) s_6_in := dk_met (y := y_6_in) (cc := prog_8_method_2_code) (maxL := 3) (ret := (some .boolean)) (rm := ({ frames := 0, cells := 0, slots := 0, locals := 0 })) (T := t_6_in) (tb := b_6_in) (G := g_6_in) (by decide +kernel) ⟨fun z => absurd z (by decide), fun _ => rfl, fun z => absurd z (by decide), fun z => absurd z (by decide)⟩ (fun _ _ _ _ _ hts hd => tok_6 hts hd) h_6_in k_6_in rfl (fun i kd j h => hc_6_in (i, kd, j) (dk_lk_mem h))
set_option maxRecDepth 20000 in
theorem wv_6_in : ∀ w ∈ [Cond.static y_6_in, Cond.initialized y_6_in.cls, Cond.code y_6_in prog_8_method_2_code 3 (some .boolean)], w ∈ dk_TB := dk_ac (dk_tb 949 rfl rfl) (dk_ac (dk_tb 64 rfl rfl) (dk_ac (dk_tb 950 rfl rfl) (dk_an)))
theorem hd_6_in : y_6_in.cls ≠ "java/lang/invoke/MethodHandle" ∧ y_6_in.cls ≠ "java/lang/invoke/VarHandle" ∧ (parseMethodDescriptor y_6_in.desc).map (fun d => d.parameters.length) = some 3 := by decide +kernel
theorem k_6_finds : dk_ckT t_6_finds prog_8_method_3_code 2 t_6_finds.2.2.1 b_6_finds = true := by decide +kernel
set_option maxRecDepth 20000 in
theorem hc_6_finds : ∀ q ∈ t_6_finds.2.1, ∃ n Sm, dk_nth g_6_finds q.2.2 = some (n, Sm) ∧ dk_Call y_6_finds.cls ({ frames := 0, cells := 0, slots := 0, locals := 0 }) prog_8_method_3_code 2 q.2.1 q.1 n Sm :=
  dk_an
theorem e_6_finds : dk_Met y_6_finds prog_8_method_3_code 2 (some .int) ({ frames := 0, cells := 0, slots := 0, locals := 0 }) s_6_finds := dk_metV 6 (dk_met (y := y_6_finds) (cc := prog_8_method_3_code) (maxL := 2) (ret := (some .int)) (rm := ({ frames := 0, cells := 0, slots := 0, locals := 0 })) (T := t_6_finds) (tb := b_6_finds) (G := g_6_finds) (by decide +kernel) ⟨fun _ => rfl, fun z => absurd z (by decide), fun z => absurd z (by decide), fun z => absurd z (by decide)⟩ (fun _ _ _ _ _ hts hd => tok_6 hts hd) h_6_finds k_6_finds rfl (fun i kd j h => hc_6_finds (i, kd, j) (dk_lk_mem h)))
set_option maxRecDepth 20000 in
theorem wv_6_finds : ∀ w ∈ [Cond.instanceMethod y_6_finds, Cond.selects y_6_finds.cls y_6_finds y_6_finds, Cond.initialized y_6_finds.cls, Cond.code y_6_finds prog_8_method_3_code 2 (some .int)], w ∈ dk_TB := dk_ac (dk_tb 953 rfl rfl) (dk_ac (dk_tb 24 rfl rfl) (dk_ac (dk_tb 64 rfl rfl) (dk_ac (dk_tb 954 rfl rfl) (dk_an))))
theorem hd_6_finds : y_6_finds.cls ≠ "java/lang/invoke/MethodHandle" ∧ y_6_finds.cls ≠ "java/lang/invoke/VarHandle" ∧ (parseMethodDescriptor y_6_finds.desc).map (fun d => d.parameters.length) = some 1 := by decide +kernel
theorem k_6_wrappedBy : dk_ckT t_6_wrappedBy prog_8_method_8_code 5 t_6_wrappedBy.2.2.1 b_6_wrappedBy = true := by decide +kernel
set_option maxRecDepth 20000 in
theorem hc_6_wrappedBy : ∀ q ∈ t_6_wrappedBy.2.1, ∃ n Sm, dk_nth g_6_wrappedBy q.2.2 = some (n, Sm) ∧ dk_Call y_6_wrappedBy.cls ({ frames := 0, cells := 0, slots := 0, locals := 0 }) prog_8_method_8_code 5 q.2.1 q.1 n Sm :=
  dk_an
theorem e_6_wrappedBy : dk_Met y_6_wrappedBy prog_8_method_8_code 5 (some .int) ({ frames := 0, cells := 0, slots := 0, locals := 0 }) s_6_wrappedBy := dk_met (y := y_6_wrappedBy) (cc := prog_8_method_8_code) (maxL := 5) (ret := (some .int)) (rm := ({ frames := 0, cells := 0, slots := 0, locals := 0 })) (T := t_6_wrappedBy) (tb := b_6_wrappedBy) (G := g_6_wrappedBy) (by decide +kernel) ⟨fun _ => rfl, fun z => absurd z (by decide), fun z => absurd z (by decide), fun z => absurd z (by decide)⟩ (fun _ _ _ _ _ hts hd => tok_6 hts hd) h_6_wrappedBy k_6_wrappedBy rfl (fun i kd j h => hc_6_wrappedBy (i, kd, j) (dk_lk_mem h))
set_option maxRecDepth 20000 in
theorem wv_6_wrappedBy : ∀ w ∈ [Cond.static y_6_wrappedBy, Cond.initialized y_6_wrappedBy.cls, Cond.code y_6_wrappedBy prog_8_method_8_code 5 (some .int)], w ∈ dk_TB := dk_ac (dk_tb 961 rfl rfl) (dk_ac (dk_tb 64 rfl rfl) (dk_ac (dk_tb 962 rfl rfl) (dk_an)))
theorem hd_6_wrappedBy : y_6_wrappedBy.cls ≠ "java/lang/invoke/MethodHandle" ∧ y_6_wrappedBy.cls ≠ "java/lang/invoke/VarHandle" ∧ (parseMethodDescriptor y_6_wrappedBy.desc).map (fun d => d.parameters.length) = some 2 := by decide +kernel
theorem k_6_wrapped : dk_ckT t_6_wrapped prog_8_method_9_code 3 t_6_wrapped.2.2.1 b_6_wrapped = true := by decide +kernel
set_option maxRecDepth 20000 in
theorem hc_6_wrapped : ∀ q ∈ t_6_wrapped.2.1, ∃ n Sm, dk_nth g_6_wrapped q.2.2 = some (n, Sm) ∧ dk_Call y_6_wrapped.cls ({ frames := 1, cells := 0, slots := 0, locals := 24 }) prog_8_method_9_code 3 q.2.1 q.1 n Sm :=
  dk_ac ⟨2, s_6_wrappedBy, rfl, fun hx hb hml hown hts hF => dk_callS e_6_wrappedBy (dk_ac (dk_tb 960 rfl rfl) wv_6_wrappedBy) ⟨rfl, rfl⟩ hd_6_wrappedBy ⟨by decide, by decide⟩ ⟨Nat.zero_le _, Nat.zero_le _⟩ hx hb hml hown hts hF⟩
    (dk_an)
theorem e_6_wrapped : dk_Met y_6_wrapped prog_8_method_9_code 3 (some .int) ({ frames := 1, cells := 0, slots := 0, locals := 24 }) s_6_wrapped := dk_metV 6 (dk_met (y := y_6_wrapped) (cc := prog_8_method_9_code) (maxL := 3) (ret := (some .int)) (rm := ({ frames := 1, cells := 0, slots := 0, locals := 24 })) (T := t_6_wrapped) (tb := b_6_wrapped) (G := g_6_wrapped) (by decide +kernel) ⟨fun _ => rfl, fun z => absurd z (by decide), fun z => absurd z (by decide), fun z => absurd z (by decide)⟩ (fun _ _ _ _ _ hts hd => tok_6 hts hd) h_6_wrapped k_6_wrapped rfl (fun i kd j h => hc_6_wrapped (i, kd, j) (dk_lk_mem h)))
set_option maxRecDepth 20000 in
theorem wv_6_wrapped : ∀ w ∈ [Cond.instanceMethod y_6_wrapped, Cond.selects y_6_wrapped.cls y_6_wrapped y_6_wrapped, Cond.initialized y_6_wrapped.cls, Cond.code y_6_wrapped prog_8_method_9_code 3 (some .int)], w ∈ dk_TB := dk_ac (dk_tb 958 rfl rfl) (dk_ac (dk_tb 25 rfl rfl) (dk_ac (dk_tb 64 rfl rfl) (dk_ac (dk_tb 959 rfl rfl) (dk_an))))
theorem hd_6_wrapped : y_6_wrapped.cls ≠ "java/lang/invoke/MethodHandle" ∧ y_6_wrapped.cls ≠ "java/lang/invoke/VarHandle" ∧ (parseMethodDescriptor y_6_wrapped.desc).map (fun d => d.parameters.length) = some 1 := by decide +kernel
theorem k_6_rule : dk_ckT t_6_rule prog_8_method_10_code 5 t_6_rule.2.2.1 b_6_rule = true := by decide +kernel
set_option maxRecDepth 20000 in
theorem hc_6_rule : ∀ q ∈ t_6_rule.2.1, ∃ n Sm, dk_nth g_6_rule q.2.2 = some (n, Sm) ∧ dk_Call y_6_rule.cls ({ frames := 2, cells := 0, slots := 0, locals := 46 }) prog_8_method_10_code 5 q.2.1 q.1 n Sm :=
  dk_ac ⟨3, s_6_in, rfl, fun hx hb hml hown hts hF => dk_callS e_6_in (dk_ac (dk_tb 948 rfl rfl) wv_6_in) ⟨rfl, rfl⟩ hd_6_in ⟨by decide, by decide⟩ ⟨Nat.zero_le _, Nat.zero_le _⟩ hx hb hml hown hts hF⟩
    (dk_ac ⟨2, s_6_finds, rfl, fun hx hb hml hown hts hF => dk_callV e_6_finds dk_rcV rfl (dk_ac (dk_tb 951 rfl rfl) wv_6_finds) ⟨rfl, rfl⟩ hd_6_finds ⟨by decide, by decide⟩ ⟨Nat.zero_le _, Nat.zero_le _⟩ hx hb hml hown hts hF⟩
    (dk_ac ⟨2, s_6_wrapped, rfl, fun hx hb hml hown hts hF => dk_callV e_6_wrapped dk_rcV rfl (dk_ac (dk_tb 956 rfl rfl) wv_6_wrapped) ⟨rfl, rfl⟩ hd_6_wrapped ⟨by decide, by decide⟩ ⟨Nat.zero_le _, Nat.zero_le _⟩ hx hb hml hown hts hF⟩
    (dk_an)))
theorem e_6_rule : dk_Met y_6_rule prog_8_method_10_code 5 (some .int) ({ frames := 2, cells := 0, slots := 0, locals := 46 }) s_6_rule := dk_metV 6 (dk_met (y := y_6_rule) (cc := prog_8_method_10_code) (maxL := 5) (ret := (some .int)) (rm := ({ frames := 2, cells := 0, slots := 0, locals := 46 })) (T := t_6_rule) (tb := b_6_rule) (G := g_6_rule) (by decide +kernel) ⟨fun _ => rfl, fun z => absurd z (by decide), fun z => absurd z (by decide), fun z => absurd z (by decide)⟩ (fun _ _ _ _ _ hts hd => tok_6 hts hd) h_6_rule k_6_rule rfl (fun i kd j h => hc_6_rule (i, kd, j) (dk_lk_mem h)))
set_option maxRecDepth 20000 in
theorem wv_6_rule : ∀ w ∈ [Cond.instanceMethod y_6_rule, Cond.selects y_6_rule.cls y_6_rule y_6_rule, Cond.initialized y_6_rule.cls, Cond.code y_6_rule prog_8_method_10_code 5 (some .int)], w ∈ dk_TB := dk_ac (dk_tb 945 rfl rfl) (dk_ac (dk_tb 946 rfl rfl) (dk_ac (dk_tb 64 rfl rfl) (dk_ac (dk_tb 947 rfl rfl) (dk_an))))
theorem hd_6_rule : y_6_rule.cls ≠ "java/lang/invoke/MethodHandle" ∧ y_6_rule.cls ≠ "java/lang/invoke/VarHandle" ∧ (parseMethodDescriptor y_6_rule.desc).map (fun d => d.parameters.length) = some 2 := by decide +kernel
theorem k_6_feed : dk_ckT t_6_feed prog_8_method_12_code 4 t_6_feed.2.2.1 b_6_feed = true := by decide +kernel
set_option maxRecDepth 20000 in
theorem hc_6_feed : ∀ q ∈ t_6_feed.2.1, ∃ n Sm, dk_nth g_6_feed q.2.2 = some (n, Sm) ∧ dk_Call y_6_feed.cls ({ frames := 1, cells := 0, slots := 0, locals := 22 }) prog_8_method_12_code 4 q.2.1 q.1 n Sm :=
  dk_ac ⟨3, s_6_in, rfl, fun hx hb hml hown hts hF => dk_callS e_6_in (dk_ac (dk_tb 948 rfl rfl) wv_6_in) ⟨rfl, rfl⟩ hd_6_in ⟨by decide, by decide⟩ ⟨Nat.zero_le _, Nat.zero_le _⟩ hx hb hml hown hts hF⟩
    (dk_ac ⟨2, s_6_finds, rfl, fun hx hb hml hown hts hF => dk_callV e_6_finds dk_rcV rfl (dk_ac (dk_tb 951 rfl rfl) wv_6_finds) ⟨rfl, rfl⟩ hd_6_finds ⟨by decide, by decide⟩ ⟨Nat.zero_le _, Nat.zero_le _⟩ hx hb hml hown hts hF⟩
    (dk_an))
theorem e_6_feed : dk_Met y_6_feed prog_8_method_12_code 4 (some .int) ({ frames := 1, cells := 0, slots := 0, locals := 22 }) s_6_feed := dk_metV 6 (dk_met (y := y_6_feed) (cc := prog_8_method_12_code) (maxL := 4) (ret := (some .int)) (rm := ({ frames := 1, cells := 0, slots := 0, locals := 22 })) (T := t_6_feed) (tb := b_6_feed) (G := g_6_feed) (by decide +kernel) ⟨fun _ => rfl, fun z => absurd z (by decide), fun z => absurd z (by decide), fun z => absurd z (by decide)⟩ (fun _ _ _ _ _ hts hd => tok_6 hts hd) h_6_feed k_6_feed rfl (fun i kd j h => hc_6_feed (i, kd, j) (dk_lk_mem h)))
set_option maxRecDepth 20000 in
theorem wv_6_feed : ∀ w ∈ [Cond.instanceMethod y_6_feed, Cond.selects y_6_feed.cls y_6_feed y_6_feed, Cond.initialized y_6_feed.cls, Cond.code y_6_feed prog_8_method_12_code 4 (some .int)], w ∈ dk_TB := dk_ac (dk_tb 965 rfl rfl) (dk_ac (dk_tb 966 rfl rfl) (dk_ac (dk_tb 64 rfl rfl) (dk_ac (dk_tb 967 rfl rfl) (dk_an))))
theorem hd_6_feed : y_6_feed.cls ≠ "java/lang/invoke/MethodHandle" ∧ y_6_feed.cls ≠ "java/lang/invoke/VarHandle" ∧ (parseMethodDescriptor y_6_feed.desc).map (fun d => d.parameters.length) = some 2 := by decide +kernel
theorem k_6_wipe : dk_ckT t_6_wipe prog_8_method_13_code 2 t_6_wipe.2.2.1 b_6_wipe = true := by decide +kernel
set_option maxRecDepth 20000 in
theorem hc_6_wipe : ∀ q ∈ t_6_wipe.2.1, ∃ n Sm, dk_nth g_6_wipe q.2.2 = some (n, Sm) ∧ dk_Call y_6_wipe.cls ({ frames := 0, cells := 0, slots := 0, locals := 0 }) prog_8_method_13_code 2 q.2.1 q.1 n Sm :=
  dk_an
theorem e_6_wipe : dk_Met y_6_wipe prog_8_method_13_code 2 (some .int) ({ frames := 0, cells := 0, slots := 0, locals := 0 }) s_6_wipe := dk_metV 6 (dk_met (y := y_6_wipe) (cc := prog_8_method_13_code) (maxL := 2) (ret := (some .int)) (rm := ({ frames := 0, cells := 0, slots := 0, locals := 0 })) (T := t_6_wipe) (tb := b_6_wipe) (G := g_6_wipe) (by decide +kernel) ⟨fun _ => rfl, fun z => absurd z (by decide), fun z => absurd z (by decide), fun z => absurd z (by decide)⟩ (fun _ _ _ _ _ hts hd => tok_6 hts hd) h_6_wipe k_6_wipe rfl (fun i kd j h => hc_6_wipe (i, kd, j) (dk_lk_mem h)))
set_option maxRecDepth 20000 in
theorem wv_6_wipe : ∀ w ∈ [Cond.instanceMethod y_6_wipe, Cond.selects y_6_wipe.cls y_6_wipe y_6_wipe, Cond.initialized y_6_wipe.cls, Cond.code y_6_wipe prog_8_method_13_code 2 (some .int)], w ∈ dk_TB := dk_ac (dk_tb 969 rfl rfl) (dk_ac (dk_tb 970 rfl rfl) (dk_ac (dk_tb 64 rfl rfl) (dk_ac (dk_tb 971 rfl rfl) (dk_an))))
theorem hd_6_wipe : y_6_wipe.cls ≠ "java/lang/invoke/MethodHandle" ∧ y_6_wipe.cls ≠ "java/lang/invoke/VarHandle" ∧ (parseMethodDescriptor y_6_wipe.desc).map (fun d => d.parameters.length) = some 0 := by decide +kernel
theorem k_6_byteAt : dk_ckT t_6_byteAt prog_8_method_14_code 2 t_6_byteAt.2.2.1 b_6_byteAt = true := by decide +kernel
set_option maxRecDepth 20000 in
theorem hc_6_byteAt : ∀ q ∈ t_6_byteAt.2.1, ∃ n Sm, dk_nth g_6_byteAt q.2.2 = some (n, Sm) ∧ dk_Call y_6_byteAt.cls ({ frames := 0, cells := 0, slots := 0, locals := 0 }) prog_8_method_14_code 2 q.2.1 q.1 n Sm :=
  dk_an
theorem e_6_byteAt : dk_Met y_6_byteAt prog_8_method_14_code 2 (some .int) ({ frames := 0, cells := 0, slots := 0, locals := 0 }) s_6_byteAt := dk_metV 6 (dk_met (y := y_6_byteAt) (cc := prog_8_method_14_code) (maxL := 2) (ret := (some .int)) (rm := ({ frames := 0, cells := 0, slots := 0, locals := 0 })) (T := t_6_byteAt) (tb := b_6_byteAt) (G := g_6_byteAt) (by decide +kernel) ⟨fun _ => rfl, fun z => absurd z (by decide), fun z => absurd z (by decide), fun z => absurd z (by decide)⟩ (fun _ _ _ _ _ hts hd => tok_6 hts hd) h_6_byteAt k_6_byteAt rfl (fun i kd j h => hc_6_byteAt (i, kd, j) (dk_lk_mem h)))
set_option maxRecDepth 20000 in
theorem wv_6_byteAt : ∀ w ∈ [Cond.instanceMethod y_6_byteAt, Cond.selects y_6_byteAt.cls y_6_byteAt y_6_byteAt, Cond.initialized y_6_byteAt.cls, Cond.code y_6_byteAt prog_8_method_14_code 2 (some .int)], w ∈ dk_TB := dk_ac (dk_tb 982 rfl rfl) (dk_ac (dk_tb 27 rfl rfl) (dk_ac (dk_tb 64 rfl rfl) (dk_ac (dk_tb 983 rfl rfl) (dk_an))))
theorem hd_6_byteAt : y_6_byteAt.cls ≠ "java/lang/invoke/MethodHandle" ∧ y_6_byteAt.cls ≠ "java/lang/invoke/VarHandle" ∧ (parseMethodDescriptor y_6_byteAt.desc).map (fun d => d.parameters.length) = some 1 := by decide +kernel
theorem k_6_isLetter : dk_ckT t_6_isLetter prog_8_method_15_code 1 t_6_isLetter.2.2.1 b_6_isLetter = true := by decide +kernel
set_option maxRecDepth 20000 in
theorem hc_6_isLetter : ∀ q ∈ t_6_isLetter.2.1, ∃ n Sm, dk_nth g_6_isLetter q.2.2 = some (n, Sm) ∧ dk_Call y_6_isLetter.cls ({ frames := 1, cells := 0, slots := 0, locals := 22 }) prog_8_method_15_code 1 q.2.1 q.1 n Sm :=
  dk_ac ⟨3, s_6_in, rfl, fun hx hb hml hown hts hF => dk_callS e_6_in (dk_ac (dk_tb 948 rfl rfl) wv_6_in) ⟨rfl, rfl⟩ hd_6_in ⟨by decide, by decide⟩ ⟨Nat.zero_le _, Nat.zero_le _⟩ hx hb hml hown hts hF⟩
    (dk_an)
theorem e_6_isLetter : dk_Met y_6_isLetter prog_8_method_15_code 1 (some .boolean) ({ frames := 1, cells := 0, slots := 0, locals := 22 }) s_6_isLetter := dk_met (y := y_6_isLetter) (cc := prog_8_method_15_code) (maxL := 1) (ret := (some .boolean)) (rm := ({ frames := 1, cells := 0, slots := 0, locals := 22 })) (T := t_6_isLetter) (tb := b_6_isLetter) (G := g_6_isLetter) (by decide +kernel) ⟨fun z => absurd z (by decide), fun _ => rfl, fun z => absurd z (by decide), fun z => absurd z (by decide)⟩ (fun _ _ _ _ _ hts hd => tok_6 hts hd) h_6_isLetter k_6_isLetter rfl (fun i kd j h => hc_6_isLetter (i, kd, j) (dk_lk_mem h))
set_option maxRecDepth 20000 in
theorem wv_6_isLetter : ∀ w ∈ [Cond.static y_6_isLetter, Cond.initialized y_6_isLetter.cls, Cond.code y_6_isLetter prog_8_method_15_code 1 (some .boolean)], w ∈ dk_TB := dk_ac (dk_tb 985 rfl rfl) (dk_ac (dk_tb 64 rfl rfl) (dk_ac (dk_tb 986 rfl rfl) (dk_an)))
theorem hd_6_isLetter : y_6_isLetter.cls ≠ "java/lang/invoke/MethodHandle" ∧ y_6_isLetter.cls ≠ "java/lang/invoke/VarHandle" ∧ (parseMethodDescriptor y_6_isLetter.desc).map (fun d => d.parameters.length) = some 1 := by decide +kernel
theorem k_6_isDigit : dk_ckT t_6_isDigit prog_8_method_16_code 1 t_6_isDigit.2.2.1 b_6_isDigit = true := by decide +kernel
set_option maxRecDepth 20000 in
theorem hc_6_isDigit : ∀ q ∈ t_6_isDigit.2.1, ∃ n Sm, dk_nth g_6_isDigit q.2.2 = some (n, Sm) ∧ dk_Call y_6_isDigit.cls ({ frames := 1, cells := 0, slots := 0, locals := 22 }) prog_8_method_16_code 1 q.2.1 q.1 n Sm :=
  dk_ac ⟨3, s_6_in, rfl, fun hx hb hml hown hts hF => dk_callS e_6_in (dk_ac (dk_tb 948 rfl rfl) wv_6_in) ⟨rfl, rfl⟩ hd_6_in ⟨by decide, by decide⟩ ⟨Nat.zero_le _, Nat.zero_le _⟩ hx hb hml hown hts hF⟩
    (dk_an)
theorem e_6_isDigit : dk_Met y_6_isDigit prog_8_method_16_code 1 (some .boolean) ({ frames := 1, cells := 0, slots := 0, locals := 22 }) s_6_isDigit := dk_met (y := y_6_isDigit) (cc := prog_8_method_16_code) (maxL := 1) (ret := (some .boolean)) (rm := ({ frames := 1, cells := 0, slots := 0, locals := 22 })) (T := t_6_isDigit) (tb := b_6_isDigit) (G := g_6_isDigit) (by decide +kernel) ⟨fun z => absurd z (by decide), fun _ => rfl, fun z => absurd z (by decide), fun z => absurd z (by decide)⟩ (fun _ _ _ _ _ hts hd => tok_6 hts hd) h_6_isDigit k_6_isDigit rfl (fun i kd j h => hc_6_isDigit (i, kd, j) (dk_lk_mem h))
set_option maxRecDepth 20000 in
theorem wv_6_isDigit : ∀ w ∈ [Cond.static y_6_isDigit, Cond.initialized y_6_isDigit.cls, Cond.code y_6_isDigit prog_8_method_16_code 1 (some .boolean)], w ∈ dk_TB := dk_ac (dk_tb 988 rfl rfl) (dk_ac (dk_tb 64 rfl rfl) (dk_ac (dk_tb 989 rfl rfl) (dk_an)))
theorem hd_6_isDigit : y_6_isDigit.cls ≠ "java/lang/invoke/MethodHandle" ∧ y_6_isDigit.cls ≠ "java/lang/invoke/VarHandle" ∧ (parseMethodDescriptor y_6_isDigit.desc).map (fun d => d.parameters.length) = some 1 := by decide +kernel
theorem k_6_advance : dk_ckT t_6_advance prog_8_method_17_code 2 t_6_advance.2.2.1 b_6_advance = true := by decide +kernel
set_option maxRecDepth 20000 in
theorem hc_6_advance : ∀ q ∈ t_6_advance.2.1, ∃ n Sm, dk_nth g_6_advance q.2.2 = some (n, Sm) ∧ dk_Call y_6_advance.cls ({ frames := 2, cells := 0, slots := 0, locals := 42 }) prog_8_method_17_code 2 q.2.1 q.1 n Sm :=
  dk_ac ⟨2, s_6_byteAt, rfl, fun hx hb hml hown hts hF => dk_callV e_6_byteAt dk_rcV rfl (dk_ac (dk_tb 980 rfl rfl) wv_6_byteAt) ⟨rfl, rfl⟩ hd_6_byteAt ⟨by decide, by decide⟩ ⟨Nat.zero_le _, Nat.zero_le _⟩ hx hb hml hown hts hF⟩
    (dk_ac ⟨1, s_6_isLetter, rfl, fun hx hb hml hown hts hF => dk_callS e_6_isLetter (dk_ac (dk_tb 984 rfl rfl) wv_6_isLetter) ⟨rfl, rfl⟩ hd_6_isLetter ⟨by decide, by decide⟩ ⟨Nat.zero_le _, Nat.zero_le _⟩ hx hb hml hown hts hF⟩
    (dk_ac ⟨1, s_6_isDigit, rfl, fun hx hb hml hown hts hF => dk_callS e_6_isDigit (dk_ac (dk_tb 987 rfl rfl) wv_6_isDigit) ⟨rfl, rfl⟩ hd_6_isDigit ⟨by decide, by decide⟩ ⟨Nat.zero_le _, Nat.zero_le _⟩ hx hb hml hown hts hF⟩
    (dk_an)))
theorem e_6_advance : dk_Met y_6_advance prog_8_method_17_code 2 none ({ frames := 2, cells := 0, slots := 0, locals := 42 }) s_6_advance := dk_metV 6 (dk_met (y := y_6_advance) (cc := prog_8_method_17_code) (maxL := 2) (ret := none) (rm := ({ frames := 2, cells := 0, slots := 0, locals := 42 })) (T := t_6_advance) (tb := b_6_advance) (G := g_6_advance) (by decide +kernel) ⟨fun z => absurd z (by decide), fun z => absurd z (by decide), fun _ => rfl, fun z => absurd z (by decide)⟩ (fun _ _ _ _ _ hts hd => tok_6 hts hd) h_6_advance k_6_advance rfl (fun i kd j h => hc_6_advance (i, kd, j) (dk_lk_mem h)))
set_option maxRecDepth 20000 in
theorem wv_6_advance : ∀ w ∈ [Cond.instanceMethod y_6_advance, Cond.selects y_6_advance.cls y_6_advance y_6_advance, Cond.initialized y_6_advance.cls, Cond.code y_6_advance prog_8_method_17_code 2 none], w ∈ dk_TB := dk_ac (dk_tb 978 rfl rfl) (dk_ac (dk_tb 26 rfl rfl) (dk_ac (dk_tb 64 rfl rfl) (dk_ac (dk_tb 979 rfl rfl) (dk_an))))
theorem hd_6_advance : y_6_advance.cls ≠ "java/lang/invoke/MethodHandle" ∧ y_6_advance.cls ≠ "java/lang/invoke/VarHandle" ∧ (parseMethodDescriptor y_6_advance.desc).map (fun d => d.parameters.length) = some 0 := by decide +kernel
theorem k_6_isWord : dk_ckT t_6_isWord prog_8_method_18_code 3 t_6_isWord.2.2.1 b_6_isWord = true := by decide +kernel
set_option maxRecDepth 20000 in
theorem hc_6_isWord : ∀ q ∈ t_6_isWord.2.1, ∃ n Sm, dk_nth g_6_isWord q.2.2 = some (n, Sm) ∧ dk_Call y_6_isWord.cls ({ frames := 0, cells := 0, slots := 0, locals := 0 }) prog_8_method_18_code 3 q.2.1 q.1 n Sm :=
  dk_an
theorem e_6_isWord : dk_Met y_6_isWord prog_8_method_18_code 3 (some .boolean) ({ frames := 0, cells := 0, slots := 0, locals := 0 }) s_6_isWord := dk_metV 6 (dk_met (y := y_6_isWord) (cc := prog_8_method_18_code) (maxL := 3) (ret := (some .boolean)) (rm := ({ frames := 0, cells := 0, slots := 0, locals := 0 })) (T := t_6_isWord) (tb := b_6_isWord) (G := g_6_isWord) (by decide +kernel) ⟨fun z => absurd z (by decide), fun _ => rfl, fun z => absurd z (by decide), fun z => absurd z (by decide)⟩ (fun _ _ _ _ _ hts hd => tok_6 hts hd) h_6_isWord k_6_isWord rfl (fun i kd j h => hc_6_isWord (i, kd, j) (dk_lk_mem h)))
set_option maxRecDepth 20000 in
theorem wv_6_isWord : ∀ w ∈ [Cond.instanceMethod y_6_isWord, Cond.selects y_6_isWord.cls y_6_isWord y_6_isWord, Cond.initialized y_6_isWord.cls, Cond.code y_6_isWord prog_8_method_18_code 3 (some .boolean)], w ∈ dk_TB := dk_ac (dk_tb 1004 rfl rfl) (dk_ac (dk_tb 30 rfl rfl) (dk_ac (dk_tb 64 rfl rfl) (dk_ac (dk_tb 1005 rfl rfl) (dk_an))))
theorem hd_6_isWord : y_6_isWord.cls ≠ "java/lang/invoke/MethodHandle" ∧ y_6_isWord.cls ≠ "java/lang/invoke/VarHandle" ∧ (parseMethodDescriptor y_6_isWord.desc).map (fun d => d.parameters.length) = some 1 := by decide +kernel
theorem k_6_kindHere : dk_ckT t_6_kindHere prog_8_method_19_code 1 t_6_kindHere.2.2.1 b_6_kindHere = true := by decide +kernel
set_option maxRecDepth 20000 in
theorem hc_6_kindHere : ∀ q ∈ t_6_kindHere.2.1, ∃ n Sm, dk_nth g_6_kindHere q.2.2 = some (n, Sm) ∧ dk_Call y_6_kindHere.cls ({ frames := 1, cells := 0, slots := 0, locals := 22 }) prog_8_method_19_code 1 q.2.1 q.1 n Sm :=
  dk_ac ⟨2, s_6_isWord, rfl, fun hx hb hml hown hts hF => dk_callV e_6_isWord dk_rcV rfl (dk_ac (dk_tb 1002 rfl rfl) wv_6_isWord) ⟨rfl, rfl⟩ hd_6_isWord ⟨by decide, by decide⟩ ⟨Nat.zero_le _, Nat.zero_le _⟩ hx hb hml hown hts hF⟩
    (dk_an)
theorem e_6_kindHere : dk_Met y_6_kindHere prog_8_method_19_code 1 (some .int) ({ frames := 1, cells := 0, slots := 0, locals := 22 }) s_6_kindHere := dk_metV 6 (dk_met (y := y_6_kindHere) (cc := prog_8_method_19_code) (maxL := 1) (ret := (some .int)) (rm := ({ frames := 1, cells := 0, slots := 0, locals := 22 })) (T := t_6_kindHere) (tb := b_6_kindHere) (G := g_6_kindHere) (by decide +kernel) ⟨fun _ => rfl, fun z => absurd z (by decide), fun z => absurd z (by decide), fun z => absurd z (by decide)⟩ (fun _ _ _ _ _ hts hd => tok_6 hts hd) h_6_kindHere k_6_kindHere rfl (fun i kd j h => hc_6_kindHere (i, kd, j) (dk_lk_mem h)))
set_option maxRecDepth 20000 in
theorem wv_6_kindHere : ∀ w ∈ [Cond.instanceMethod y_6_kindHere, Cond.selects y_6_kindHere.cls y_6_kindHere y_6_kindHere, Cond.initialized y_6_kindHere.cls, Cond.code y_6_kindHere prog_8_method_19_code 1 (some .int)], w ∈ dk_TB := dk_ac (dk_tb 999 rfl rfl) (dk_ac (dk_tb 29 rfl rfl) (dk_ac (dk_tb 64 rfl rfl) (dk_ac (dk_tb 1000 rfl rfl) (dk_an))))
theorem hd_6_kindHere : y_6_kindHere.cls ≠ "java/lang/invoke/MethodHandle" ∧ y_6_kindHere.cls ≠ "java/lang/invoke/VarHandle" ∧ (parseMethodDescriptor y_6_kindHere.desc).map (fun d => d.parameters.length) = some 0 := by decide +kernel
theorem k_6_wantNumber : dk_ckT t_6_wantNumber prog_8_method_21_code 4 t_6_wantNumber.2.2.1 b_6_wantNumber = true := by decide +kernel
set_option maxRecDepth 20000 in
theorem hc_6_wantNumber : ∀ q ∈ t_6_wantNumber.2.1, ∃ n Sm, dk_nth g_6_wantNumber q.2.2 = some (n, Sm) ∧ dk_Call y_6_wantNumber.cls ({ frames := 3, cells := 0, slots := 0, locals := 63 }) prog_8_method_21_code 4 q.2.1 q.1 n Sm :=
  dk_ac ⟨3, s_6_in, rfl, fun hx hb hml hown hts hF => dk_callS e_6_in (dk_ac (dk_tb 948 rfl rfl) wv_6_in) ⟨rfl, rfl⟩ hd_6_in ⟨by decide, by decide⟩ ⟨Nat.zero_le _, Nat.zero_le _⟩ hx hb hml hown hts hF⟩
    (dk_ac ⟨1, s_6_advance, rfl, fun hx hb hml hown hts hF => dk_callV e_6_advance dk_rcV rfl (dk_ac (dk_tb 976 rfl rfl) wv_6_advance) ⟨rfl, rfl⟩ hd_6_advance ⟨by decide, by decide⟩ ⟨Nat.zero_le _, Nat.zero_le _⟩ hx hb hml hown hts hF⟩
    (dk_an))
theorem e_6_wantNumber : dk_Met y_6_wantNumber prog_8_method_21_code 4 (some .int) ({ frames := 3, cells := 0, slots := 0, locals := 63 }) s_6_wantNumber := dk_metV 6 (dk_met (y := y_6_wantNumber) (cc := prog_8_method_21_code) (maxL := 4) (ret := (some .int)) (rm := ({ frames := 3, cells := 0, slots := 0, locals := 63 })) (T := t_6_wantNumber) (tb := b_6_wantNumber) (G := g_6_wantNumber) (by decide +kernel) ⟨fun _ => rfl, fun z => absurd z (by decide), fun z => absurd z (by decide), fun z => absurd z (by decide)⟩ (fun _ _ _ _ _ hts hd => tok_6 hts hd) h_6_wantNumber k_6_wantNumber rfl (fun i kd j h => hc_6_wantNumber (i, kd, j) (dk_lk_mem h)))
set_option maxRecDepth 20000 in
theorem wv_6_wantNumber : ∀ w ∈ [Cond.instanceMethod y_6_wantNumber, Cond.selects y_6_wantNumber.cls y_6_wantNumber y_6_wantNumber, Cond.initialized y_6_wantNumber.cls, Cond.code y_6_wantNumber prog_8_method_21_code 4 (some .int)], w ∈ dk_TB := dk_ac (dk_tb 1014 rfl rfl) (dk_ac (dk_tb 31 rfl rfl) (dk_ac (dk_tb 64 rfl rfl) (dk_ac (dk_tb 1015 rfl rfl) (dk_an))))
theorem hd_6_wantNumber : y_6_wantNumber.cls ≠ "java/lang/invoke/MethodHandle" ∧ y_6_wantNumber.cls ≠ "java/lang/invoke/VarHandle" ∧ (parseMethodDescriptor y_6_wantNumber.desc).map (fun d => d.parameters.length) = some 2 := by decide +kernel
theorem k_6_moreHere : dk_ckT t_6_moreHere prog_8_method_20_code 1 t_6_moreHere.2.2.1 b_6_moreHere = true := by decide +kernel
set_option maxRecDepth 20000 in
theorem hc_6_moreHere : ∀ q ∈ t_6_moreHere.2.1, ∃ n Sm, dk_nth g_6_moreHere q.2.2 = some (n, Sm) ∧ dk_Call y_6_moreHere.cls ({ frames := 1, cells := 0, slots := 0, locals := 22 }) prog_8_method_20_code 1 q.2.1 q.1 n Sm :=
  dk_ac ⟨2, s_6_isWord, rfl, fun hx hb hml hown hts hF => dk_callV e_6_isWord dk_rcV rfl (dk_ac (dk_tb 1002 rfl rfl) wv_6_isWord) ⟨rfl, rfl⟩ hd_6_isWord ⟨by decide, by decide⟩ ⟨Nat.zero_le _, Nat.zero_le _⟩ hx hb hml hown hts hF⟩
    (dk_an)
theorem e_6_moreHere : dk_Met y_6_moreHere prog_8_method_20_code 1 (some .int) ({ frames := 1, cells := 0, slots := 0, locals := 22 }) s_6_moreHere := dk_metV 6 (dk_met (y := y_6_moreHere) (cc := prog_8_method_20_code) (maxL := 1) (ret := (some .int)) (rm := ({ frames := 1, cells := 0, slots := 0, locals := 22 })) (T := t_6_moreHere) (tb := b_6_moreHere) (G := g_6_moreHere) (by decide +kernel) ⟨fun _ => rfl, fun z => absurd z (by decide), fun z => absurd z (by decide), fun z => absurd z (by decide)⟩ (fun _ _ _ _ _ hts hd => tok_6 hts hd) h_6_moreHere k_6_moreHere rfl (fun i kd j h => hc_6_moreHere (i, kd, j) (dk_lk_mem h)))
set_option maxRecDepth 20000 in
theorem wv_6_moreHere : ∀ w ∈ [Cond.instanceMethod y_6_moreHere, Cond.selects y_6_moreHere.cls y_6_moreHere y_6_moreHere, Cond.initialized y_6_moreHere.cls, Cond.code y_6_moreHere prog_8_method_20_code 1 (some .int)], w ∈ dk_TB := dk_ac (dk_tb 1019 rfl rfl) (dk_ac (dk_tb 32 rfl rfl) (dk_ac (dk_tb 64 rfl rfl) (dk_ac (dk_tb 1020 rfl rfl) (dk_an))))
theorem hd_6_moreHere : y_6_moreHere.cls ≠ "java/lang/invoke/MethodHandle" ∧ y_6_moreHere.cls ≠ "java/lang/invoke/VarHandle" ∧ (parseMethodDescriptor y_6_moreHere.desc).map (fun d => d.parameters.length) = some 0 := by decide +kernel
theorem k_6_wantGroup : dk_ckT t_6_wantGroup prog_8_method_22_code 4 t_6_wantGroup.2.2.1 b_6_wantGroup = true := by decide +kernel
set_option maxRecDepth 20000 in
theorem hc_6_wantGroup : ∀ q ∈ t_6_wantGroup.2.1, ∃ n Sm, dk_nth g_6_wantGroup q.2.2 = some (n, Sm) ∧ dk_Call y_6_wantGroup.cls ({ frames := 4, cells := 0, slots := 0, locals := 86 }) prog_8_method_22_code 4 q.2.1 q.1 n Sm :=
  dk_ac ⟨1, s_6_kindHere, rfl, fun hx hb hml hown hts hF => dk_callV e_6_kindHere dk_rcV rfl (dk_ac (dk_tb 997 rfl rfl) wv_6_kindHere) ⟨rfl, rfl⟩ hd_6_kindHere ⟨by decide, by decide⟩ ⟨Nat.zero_le _, Nat.zero_le _⟩ hx hb hml hown hts hF⟩
    (dk_ac ⟨1, s_6_advance, rfl, fun hx hb hml hown hts hF => dk_callV e_6_advance dk_rcV rfl (dk_ac (dk_tb 976 rfl rfl) wv_6_advance) ⟨rfl, rfl⟩ hd_6_advance ⟨by decide, by decide⟩ ⟨Nat.zero_le _, Nat.zero_le _⟩ hx hb hml hown hts hF⟩
    (dk_ac ⟨3, s_6_wantNumber, rfl, fun hx hb hml hown hts hF => dk_callV e_6_wantNumber dk_rcV rfl (dk_ac (dk_tb 1012 rfl rfl) wv_6_wantNumber) ⟨rfl, rfl⟩ hd_6_wantNumber ⟨by decide, by decide⟩ ⟨Nat.zero_le _, Nat.zero_le _⟩ hx hb hml hown hts hF⟩
    (dk_ac ⟨2, s_6_isWord, rfl, fun hx hb hml hown hts hF => dk_callV e_6_isWord dk_rcV rfl (dk_ac (dk_tb 1002 rfl rfl) wv_6_isWord) ⟨rfl, rfl⟩ hd_6_isWord ⟨by decide, by decide⟩ ⟨Nat.zero_le _, Nat.zero_le _⟩ hx hb hml hown hts hF⟩
    (dk_ac ⟨1, s_6_moreHere, rfl, fun hx hb hml hown hts hF => dk_callV e_6_moreHere dk_rcV rfl (dk_ac (dk_tb 1017 rfl rfl) wv_6_moreHere) ⟨rfl, rfl⟩ hd_6_moreHere ⟨by decide, by decide⟩ ⟨Nat.zero_le _, Nat.zero_le _⟩ hx hb hml hown hts hF⟩
    (dk_an)))))
theorem e_6_wantGroup : dk_Met y_6_wantGroup prog_8_method_22_code 4 none ({ frames := 4, cells := 0, slots := 0, locals := 86 }) s_6_wantGroup := dk_metV 6 (dk_met (y := y_6_wantGroup) (cc := prog_8_method_22_code) (maxL := 4) (ret := none) (rm := ({ frames := 4, cells := 0, slots := 0, locals := 86 })) (T := t_6_wantGroup) (tb := b_6_wantGroup) (G := g_6_wantGroup) (by decide +kernel) ⟨fun z => absurd z (by decide), fun z => absurd z (by decide), fun _ => rfl, fun z => absurd z (by decide)⟩ (fun _ _ _ _ _ hts hd => tok_6 hts hd) h_6_wantGroup k_6_wantGroup rfl (fun i kd j h => hc_6_wantGroup (i, kd, j) (dk_lk_mem h)))
set_option maxRecDepth 20000 in
theorem wv_6_wantGroup : ∀ w ∈ [Cond.instanceMethod y_6_wantGroup, Cond.selects y_6_wantGroup.cls y_6_wantGroup y_6_wantGroup, Cond.initialized y_6_wantGroup.cls, Cond.code y_6_wantGroup prog_8_method_22_code 4 none], w ∈ dk_TB := dk_ac (dk_tb 995 rfl rfl) (dk_ac (dk_tb 28 rfl rfl) (dk_ac (dk_tb 64 rfl rfl) (dk_ac (dk_tb 996 rfl rfl) (dk_an))))
theorem hd_6_wantGroup : y_6_wantGroup.cls ≠ "java/lang/invoke/MethodHandle" ∧ y_6_wantGroup.cls ≠ "java/lang/invoke/VarHandle" ∧ (parseMethodDescriptor y_6_wantGroup.desc).map (fun d => d.parameters.length) = some 0 := by decide +kernel
theorem k_6_its : dk_ckT t_6_its prog_8_method_11_code 3 t_6_its.2.2.1 b_6_its = true := by decide +kernel
set_option maxRecDepth 20000 in
theorem hc_6_its : ∀ q ∈ t_6_its.2.1, ∃ n Sm, dk_nth g_6_its q.2.2 = some (n, Sm) ∧ dk_Call y_6_its.cls ({ frames := 0, cells := 0, slots := 0, locals := 0 }) prog_8_method_11_code 3 q.2.1 q.1 n Sm :=
  dk_an
theorem e_6_its : dk_Met y_6_its prog_8_method_11_code 3 (some .int) ({ frames := 0, cells := 0, slots := 0, locals := 0 }) s_6_its := dk_metV 6 (dk_met (y := y_6_its) (cc := prog_8_method_11_code) (maxL := 3) (ret := (some .int)) (rm := ({ frames := 0, cells := 0, slots := 0, locals := 0 })) (T := t_6_its) (tb := b_6_its) (G := g_6_its) (by decide +kernel) ⟨fun _ => rfl, fun z => absurd z (by decide), fun z => absurd z (by decide), fun z => absurd z (by decide)⟩ (fun _ _ _ _ _ hts hd => tok_6 hts hd) h_6_its k_6_its rfl (fun i kd j h => hc_6_its (i, kd, j) (dk_lk_mem h)))
set_option maxRecDepth 20000 in
theorem wv_6_its : ∀ w ∈ [Cond.instanceMethod y_6_its, Cond.selects y_6_its.cls y_6_its y_6_its, Cond.initialized y_6_its.cls, Cond.code y_6_its prog_8_method_11_code 3 (some .int)], w ∈ dk_TB := dk_ac (dk_tb 1026 rfl rfl) (dk_ac (dk_tb 33 rfl rfl) (dk_ac (dk_tb 64 rfl rfl) (dk_ac (dk_tb 1027 rfl rfl) (dk_an))))
theorem hd_6_its : y_6_its.cls ≠ "java/lang/invoke/MethodHandle" ∧ y_6_its.cls ≠ "java/lang/invoke/VarHandle" ∧ (parseMethodDescriptor y_6_its.desc).map (fun d => d.parameters.length) = some 2 := by decide +kernel
theorem k_6_column : dk_ckT t_6_column prog_8_method_23_code 4 t_6_column.2.2.1 b_6_column = true := by decide +kernel
set_option maxRecDepth 20000 in
theorem hc_6_column : ∀ q ∈ t_6_column.2.1, ∃ n Sm, dk_nth g_6_column q.2.2 = some (n, Sm) ∧ dk_Call y_6_column.cls ({ frames := 5, cells := 0, slots := 0, locals := 109 }) prog_8_method_23_code 4 q.2.1 q.1 n Sm :=
  dk_ac ⟨1, s_6_advance, rfl, fun hx hb hml hown hts hF => dk_callV e_6_advance dk_rcV rfl (dk_ac (dk_tb 976 rfl rfl) wv_6_advance) ⟨rfl, rfl⟩ hd_6_advance ⟨by decide, by decide⟩ ⟨Nat.zero_le _, Nat.zero_le _⟩ hx hb hml hown hts hF⟩
    (dk_ac ⟨1, s_6_wantGroup, rfl, fun hx hb hml hown hts hF => dk_callV e_6_wantGroup dk_rcV rfl (dk_ac (dk_tb 993 rfl rfl) wv_6_wantGroup) ⟨rfl, rfl⟩ hd_6_wantGroup ⟨by decide, by decide⟩ ⟨Nat.zero_le _, Nat.zero_le _⟩ hx hb hml hown hts hF⟩
    (dk_ac ⟨2, s_6_finds, rfl, fun hx hb hml hown hts hF => dk_callV e_6_finds dk_rcV rfl (dk_ac (dk_tb 951 rfl rfl) wv_6_finds) ⟨rfl, rfl⟩ hd_6_finds ⟨by decide, by decide⟩ ⟨Nat.zero_le _, Nat.zero_le _⟩ hx hb hml hown hts hF⟩
    (dk_ac ⟨3, s_6_its, rfl, fun hx hb hml hown hts hF => dk_callV e_6_its dk_rcV rfl (dk_ac (dk_tb 1024 rfl rfl) wv_6_its) ⟨rfl, rfl⟩ hd_6_its ⟨by decide, by decide⟩ ⟨Nat.zero_le _, Nat.zero_le _⟩ hx hb hml hown hts hF⟩
    (dk_an))))
theorem e_6_column : dk_Met y_6_column prog_8_method_23_code 4 (some .int) ({ frames := 5, cells := 0, slots := 0, locals := 109 }) s_6_column := dk_metV 6 (dk_met (y := y_6_column) (cc := prog_8_method_23_code) (maxL := 4) (ret := (some .int)) (rm := ({ frames := 5, cells := 0, slots := 0, locals := 109 })) (T := t_6_column) (tb := b_6_column) (G := g_6_column) (by decide +kernel) ⟨fun _ => rfl, fun z => absurd z (by decide), fun z => absurd z (by decide), fun z => absurd z (by decide)⟩ (fun _ _ _ _ _ hts hd => tok_6 hts hd) h_6_column k_6_column rfl (fun i kd j h => hc_6_column (i, kd, j) (dk_lk_mem h)))
set_option maxRecDepth 20000 in
theorem wv_6_column : ∀ w ∈ [Cond.instanceMethod y_6_column, Cond.selects y_6_column.cls y_6_column y_6_column, Cond.initialized y_6_column.cls, Cond.code y_6_column prog_8_method_23_code 4 (some .int)], w ∈ dk_TB := dk_ac (dk_tb 973 rfl rfl) (dk_ac (dk_tb 974 rfl rfl) (dk_ac (dk_tb 64 rfl rfl) (dk_ac (dk_tb 975 rfl rfl) (dk_an))))
theorem hd_6_column : y_6_column.cls ≠ "java/lang/invoke/MethodHandle" ∧ y_6_column.cls ≠ "java/lang/invoke/VarHandle" ∧ (parseMethodDescriptor y_6_column.desc).map (fun d => d.parameters.length) = some 0 := by decide +kernel
theorem k_6_isPlace : dk_ckT t_6_isPlace prog_8_method_6_code 1 t_6_isPlace.2.2.1 b_6_isPlace = true := by decide +kernel
set_option maxRecDepth 20000 in
theorem hc_6_isPlace : ∀ q ∈ t_6_isPlace.2.1, ∃ n Sm, dk_nth g_6_isPlace q.2.2 = some (n, Sm) ∧ dk_Call y_6_isPlace.cls ({ frames := 1, cells := 0, slots := 0, locals := 22 }) prog_8_method_6_code 1 q.2.1 q.1 n Sm :=
  dk_ac ⟨3, s_6_in, rfl, fun hx hb hml hown hts hF => dk_callS e_6_in (dk_ac (dk_tb 948 rfl rfl) wv_6_in) ⟨rfl, rfl⟩ hd_6_in ⟨by decide, by decide⟩ ⟨Nat.zero_le _, Nat.zero_le _⟩ hx hb hml hown hts hF⟩
    (dk_an)
theorem e_6_isPlace : dk_Met y_6_isPlace prog_8_method_6_code 1 (some .boolean) ({ frames := 1, cells := 0, slots := 0, locals := 22 }) s_6_isPlace := dk_met (y := y_6_isPlace) (cc := prog_8_method_6_code) (maxL := 1) (ret := (some .boolean)) (rm := ({ frames := 1, cells := 0, slots := 0, locals := 22 })) (T := t_6_isPlace) (tb := b_6_isPlace) (G := g_6_isPlace) (by decide +kernel) ⟨fun z => absurd z (by decide), fun _ => rfl, fun z => absurd z (by decide), fun z => absurd z (by decide)⟩ (fun _ _ _ _ _ hts hd => tok_6 hts hd) h_6_isPlace k_6_isPlace rfl (fun i kd j h => hc_6_isPlace (i, kd, j) (dk_lk_mem h))
set_option maxRecDepth 20000 in
theorem wv_6_isPlace : ∀ w ∈ [Cond.static y_6_isPlace, Cond.initialized y_6_isPlace.cls, Cond.code y_6_isPlace prog_8_method_6_code 1 (some .boolean)], w ∈ dk_TB := dk_ac (dk_tb 1033 rfl rfl) (dk_ac (dk_tb 64 rfl rfl) (dk_ac (dk_tb 1034 rfl rfl) (dk_an)))
theorem hd_6_isPlace : y_6_isPlace.cls ≠ "java/lang/invoke/MethodHandle" ∧ y_6_isPlace.cls ≠ "java/lang/invoke/VarHandle" ∧ (parseMethodDescriptor y_6_isPlace.desc).map (fun d => d.parameters.length) = some 1 := by decide +kernel
theorem k_6_lagOf : dk_ckT t_6_lagOf prog_8_method_24_code 3 t_6_lagOf.2.2.1 b_6_lagOf = true := by decide +kernel
set_option maxRecDepth 20000 in
theorem hc_6_lagOf : ∀ q ∈ t_6_lagOf.2.1, ∃ n Sm, dk_nth g_6_lagOf q.2.2 = some (n, Sm) ∧ dk_Call y_6_lagOf.cls ({ frames := 0, cells := 0, slots := 0, locals := 0 }) prog_8_method_24_code 3 q.2.1 q.1 n Sm :=
  dk_an
theorem e_6_lagOf : dk_Met y_6_lagOf prog_8_method_24_code 3 (some .int) ({ frames := 0, cells := 0, slots := 0, locals := 0 }) s_6_lagOf := dk_metV 6 (dk_met (y := y_6_lagOf) (cc := prog_8_method_24_code) (maxL := 3) (ret := (some .int)) (rm := ({ frames := 0, cells := 0, slots := 0, locals := 0 })) (T := t_6_lagOf) (tb := b_6_lagOf) (G := g_6_lagOf) (by decide +kernel) ⟨fun _ => rfl, fun z => absurd z (by decide), fun z => absurd z (by decide), fun z => absurd z (by decide)⟩ (fun _ _ _ _ _ hts hd => tok_6 hts hd) h_6_lagOf k_6_lagOf rfl (fun i kd j h => hc_6_lagOf (i, kd, j) (dk_lk_mem h)))
set_option maxRecDepth 20000 in
theorem wv_6_lagOf : ∀ w ∈ [Cond.instanceMethod y_6_lagOf, Cond.selects y_6_lagOf.cls y_6_lagOf y_6_lagOf, Cond.initialized y_6_lagOf.cls, Cond.code y_6_lagOf prog_8_method_24_code 3 (some .int)], w ∈ dk_TB := dk_ac (dk_tb 1037 rfl rfl) (dk_ac (dk_tb 34 rfl rfl) (dk_ac (dk_tb 64 rfl rfl) (dk_ac (dk_tb 1038 rfl rfl) (dk_an))))
theorem hd_6_lagOf : y_6_lagOf.cls ≠ "java/lang/invoke/MethodHandle" ∧ y_6_lagOf.cls ≠ "java/lang/invoke/VarHandle" ∧ (parseMethodDescriptor y_6_lagOf.desc).map (fun d => d.parameters.length) = some 2 := by decide +kernel
theorem k_6_lag : dk_ckT t_6_lag prog_8_method_25_code 3 t_6_lag.2.2.1 b_6_lag = true := by decide +kernel
set_option maxRecDepth 20000 in
theorem hc_6_lag : ∀ q ∈ t_6_lag.2.1, ∃ n Sm, dk_nth g_6_lag q.2.2 = some (n, Sm) ∧ dk_Call y_6_lag.cls ({ frames := 2, cells := 0, slots := 0, locals := 42 }) prog_8_method_25_code 3 q.2.1 q.1 n Sm :=
  dk_ac ⟨1, s_6_isPlace, rfl, fun hx hb hml hown hts hF => dk_callS e_6_isPlace (dk_ac (dk_tb 1032 rfl rfl) wv_6_isPlace) ⟨rfl, rfl⟩ hd_6_isPlace ⟨by decide, by decide⟩ ⟨Nat.zero_le _, Nat.zero_le _⟩ hx hb hml hown hts hF⟩
    (dk_ac ⟨3, s_6_lagOf, rfl, fun hx hb hml hown hts hF => dk_callV e_6_lagOf dk_rcV rfl (dk_ac (dk_tb 1035 rfl rfl) wv_6_lagOf) ⟨rfl, rfl⟩ hd_6_lagOf ⟨by decide, by decide⟩ ⟨Nat.zero_le _, Nat.zero_le _⟩ hx hb hml hown hts hF⟩
    (dk_ac ⟨2, s_6_finds, rfl, fun hx hb hml hown hts hF => dk_callV e_6_finds dk_rcV rfl (dk_ac (dk_tb 951 rfl rfl) wv_6_finds) ⟨rfl, rfl⟩ hd_6_finds ⟨by decide, by decide⟩ ⟨Nat.zero_le _, Nat.zero_le _⟩ hx hb hml hown hts hF⟩
    (dk_an)))
theorem e_6_lag : dk_Met y_6_lag prog_8_method_25_code 3 (some .int) ({ frames := 2, cells := 0, slots := 0, locals := 42 }) s_6_lag := dk_metV 6 (dk_met (y := y_6_lag) (cc := prog_8_method_25_code) (maxL := 3) (ret := (some .int)) (rm := ({ frames := 2, cells := 0, slots := 0, locals := 42 })) (T := t_6_lag) (tb := b_6_lag) (G := g_6_lag) (by decide +kernel) ⟨fun _ => rfl, fun z => absurd z (by decide), fun z => absurd z (by decide), fun z => absurd z (by decide)⟩ (fun _ _ _ _ _ hts hd => tok_6 hts hd) h_6_lag k_6_lag rfl (fun i kd j h => hc_6_lag (i, kd, j) (dk_lk_mem h)))
set_option maxRecDepth 20000 in
theorem wv_6_lag : ∀ w ∈ [Cond.instanceMethod y_6_lag, Cond.selects y_6_lag.cls y_6_lag y_6_lag, Cond.initialized y_6_lag.cls, Cond.code y_6_lag prog_8_method_25_code 3 (some .int)], w ∈ dk_TB := dk_ac (dk_tb 1029 rfl rfl) (dk_ac (dk_tb 1030 rfl rfl) (dk_ac (dk_tb 64 rfl rfl) (dk_ac (dk_tb 1031 rfl rfl) (dk_an))))
theorem hd_6_lag : y_6_lag.cls ≠ "java/lang/invoke/MethodHandle" ∧ y_6_lag.cls ≠ "java/lang/invoke/VarHandle" ∧ (parseMethodDescriptor y_6_lag.desc).map (fun d => d.parameters.length) = some 2 := by decide +kernel
theorem k_6_isRank : dk_ckT t_6_isRank prog_8_method_4_code 2 t_6_isRank.2.2.1 b_6_isRank = true := by decide +kernel
set_option maxRecDepth 20000 in
theorem hc_6_isRank : ∀ q ∈ t_6_isRank.2.1, ∃ n Sm, dk_nth g_6_isRank q.2.2 = some (n, Sm) ∧ dk_Call y_6_isRank.cls ({ frames := 1, cells := 0, slots := 0, locals := 22 }) prog_8_method_4_code 2 q.2.1 q.1 n Sm :=
  dk_ac ⟨3, s_6_in, rfl, fun hx hb hml hown hts hF => dk_callS e_6_in (dk_ac (dk_tb 948 rfl rfl) wv_6_in) ⟨rfl, rfl⟩ hd_6_in ⟨by decide, by decide⟩ ⟨Nat.zero_le _, Nat.zero_le _⟩ hx hb hml hown hts hF⟩
    (dk_an)
theorem e_6_isRank : dk_Met y_6_isRank prog_8_method_4_code 2 (some .boolean) ({ frames := 1, cells := 0, slots := 0, locals := 22 }) s_6_isRank := dk_metV 6 (dk_met (y := y_6_isRank) (cc := prog_8_method_4_code) (maxL := 2) (ret := (some .boolean)) (rm := ({ frames := 1, cells := 0, slots := 0, locals := 22 })) (T := t_6_isRank) (tb := b_6_isRank) (G := g_6_isRank) (by decide +kernel) ⟨fun z => absurd z (by decide), fun _ => rfl, fun z => absurd z (by decide), fun z => absurd z (by decide)⟩ (fun _ _ _ _ _ hts hd => tok_6 hts hd) h_6_isRank k_6_isRank rfl (fun i kd j h => hc_6_isRank (i, kd, j) (dk_lk_mem h)))
set_option maxRecDepth 20000 in
theorem wv_6_isRank : ∀ w ∈ [Cond.instanceMethod y_6_isRank, Cond.selects y_6_isRank.cls y_6_isRank y_6_isRank, Cond.initialized y_6_isRank.cls, Cond.code y_6_isRank prog_8_method_4_code 2 (some .boolean)], w ∈ dk_TB := dk_ac (dk_tb 1045 rfl rfl) (dk_ac (dk_tb 35 rfl rfl) (dk_ac (dk_tb 64 rfl rfl) (dk_ac (dk_tb 1046 rfl rfl) (dk_an))))
theorem hd_6_isRank : y_6_isRank.cls ≠ "java/lang/invoke/MethodHandle" ∧ y_6_isRank.cls ≠ "java/lang/invoke/VarHandle" ∧ (parseMethodDescriptor y_6_isRank.desc).map (fun d => d.parameters.length) = some 1 := by decide +kernel
theorem k_6_beginMarch : dk_ckT t_6_beginMarch prog_8_method_33_code 2 t_6_beginMarch.2.2.1 b_6_beginMarch = true := by decide +kernel
set_option maxRecDepth 20000 in
theorem hc_6_beginMarch : ∀ q ∈ t_6_beginMarch.2.1, ∃ n Sm, dk_nth g_6_beginMarch q.2.2 = some (n, Sm) ∧ dk_Call y_6_beginMarch.cls ({ frames := 0, cells := 0, slots := 0, locals := 0 }) prog_8_method_33_code 2 q.2.1 q.1 n Sm :=
  dk_an
theorem e_6_beginMarch : dk_Met y_6_beginMarch prog_8_method_33_code 2 none ({ frames := 0, cells := 0, slots := 0, locals := 0 }) s_6_beginMarch := dk_metV 6 (dk_met (y := y_6_beginMarch) (cc := prog_8_method_33_code) (maxL := 2) (ret := none) (rm := ({ frames := 0, cells := 0, slots := 0, locals := 0 })) (T := t_6_beginMarch) (tb := b_6_beginMarch) (G := g_6_beginMarch) (by decide +kernel) ⟨fun z => absurd z (by decide), fun z => absurd z (by decide), fun _ => rfl, fun z => absurd z (by decide)⟩ (fun _ _ _ _ _ hts hd => tok_6 hts hd) h_6_beginMarch k_6_beginMarch rfl (fun i kd j h => hc_6_beginMarch (i, kd, j) (dk_lk_mem h)))
set_option maxRecDepth 20000 in
theorem wv_6_beginMarch : ∀ w ∈ [Cond.instanceMethod y_6_beginMarch, Cond.selects y_6_beginMarch.cls y_6_beginMarch y_6_beginMarch, Cond.initialized y_6_beginMarch.cls, Cond.code y_6_beginMarch prog_8_method_33_code 2 none], w ∈ dk_TB := dk_ac (dk_tb 1049 rfl rfl) (dk_ac (dk_tb 36 rfl rfl) (dk_ac (dk_tb 64 rfl rfl) (dk_ac (dk_tb 1050 rfl rfl) (dk_an))))
theorem hd_6_beginMarch : y_6_beginMarch.cls ≠ "java/lang/invoke/MethodHandle" ∧ y_6_beginMarch.cls ≠ "java/lang/invoke/VarHandle" ∧ (parseMethodDescriptor y_6_beginMarch.desc).map (fun d => d.parameters.length) = some 0 := by decide +kernel
theorem k_6_size : dk_ckT t_6_size prog_8_method_7_code 1 t_6_size.2.2.1 b_6_size = true := by decide +kernel
set_option maxRecDepth 20000 in
theorem hc_6_size : ∀ q ∈ t_6_size.2.1, ∃ n Sm, dk_nth g_6_size q.2.2 = some (n, Sm) ∧ dk_Call y_6_size.cls ({ frames := 0, cells := 0, slots := 0, locals := 0 }) prog_8_method_7_code 1 q.2.1 q.1 n Sm :=
  dk_an
theorem e_6_size : dk_Met y_6_size prog_8_method_7_code 1 (some .int) ({ frames := 0, cells := 0, slots := 0, locals := 0 }) s_6_size := dk_met (y := y_6_size) (cc := prog_8_method_7_code) (maxL := 1) (ret := (some .int)) (rm := ({ frames := 0, cells := 0, slots := 0, locals := 0 })) (T := t_6_size) (tb := b_6_size) (G := g_6_size) (by decide +kernel) ⟨fun _ => rfl, fun z => absurd z (by decide), fun z => absurd z (by decide), fun z => absurd z (by decide)⟩ (fun _ _ _ _ _ hts hd => tok_6 hts hd) h_6_size k_6_size rfl (fun i kd j h => hc_6_size (i, kd, j) (dk_lk_mem h))
set_option maxRecDepth 20000 in
theorem wv_6_size : ∀ w ∈ [Cond.static y_6_size, Cond.initialized y_6_size.cls, Cond.code y_6_size prog_8_method_7_code 1 (some .int)], w ∈ dk_TB := dk_ac (dk_tb 1056 rfl rfl) (dk_ac (dk_tb 64 rfl rfl) (dk_ac (dk_tb 1057 rfl rfl) (dk_an)))
theorem hd_6_size : y_6_size.cls ≠ "java/lang/invoke/MethodHandle" ∧ y_6_size.cls ≠ "java/lang/invoke/VarHandle" ∧ (parseMethodDescriptor y_6_size.desc).map (fun d => d.parameters.length) = some 1 := by decide +kernel
theorem k_6_drumFor : dk_ckT t_6_drumFor prog_8_method_26_code 6 t_6_drumFor.2.2.1 b_6_drumFor = true := by decide +kernel
set_option maxRecDepth 20000 in
theorem hc_6_drumFor : ∀ q ∈ t_6_drumFor.2.1, ∃ n Sm, dk_nth g_6_drumFor q.2.2 = some (n, Sm) ∧ dk_Call y_6_drumFor.cls ({ frames := 1, cells := 0, slots := 0, locals := 22 }) prog_8_method_26_code 6 q.2.1 q.1 n Sm :=
  dk_ac ⟨3, s_6_its, rfl, fun hx hb hml hown hts hF => dk_callV e_6_its dk_rcV rfl (dk_ac (dk_tb 1024 rfl rfl) wv_6_its) ⟨rfl, rfl⟩ hd_6_its ⟨by decide, by decide⟩ ⟨Nat.zero_le _, Nat.zero_le _⟩ hx hb hml hown hts hF⟩
    (dk_ac ⟨1, s_6_size, rfl, fun hx hb hml hown hts hF => dk_callS e_6_size (dk_ac (dk_tb 1055 rfl rfl) wv_6_size) ⟨rfl, rfl⟩ hd_6_size ⟨by decide, by decide⟩ ⟨Nat.zero_le _, Nat.zero_le _⟩ hx hb hml hown hts hF⟩
    (dk_an))
theorem e_6_drumFor : dk_Met y_6_drumFor prog_8_method_26_code 6 (some .int) ({ frames := 1, cells := 0, slots := 0, locals := 22 }) s_6_drumFor := dk_metV 6 (dk_met (y := y_6_drumFor) (cc := prog_8_method_26_code) (maxL := 6) (ret := (some .int)) (rm := ({ frames := 1, cells := 0, slots := 0, locals := 22 })) (T := t_6_drumFor) (tb := b_6_drumFor) (G := g_6_drumFor) (by decide +kernel) ⟨fun _ => rfl, fun z => absurd z (by decide), fun z => absurd z (by decide), fun z => absurd z (by decide)⟩ (fun _ _ _ _ _ hts hd => tok_6 hts hd) h_6_drumFor k_6_drumFor rfl (fun i kd j h => hc_6_drumFor (i, kd, j) (dk_lk_mem h)))
set_option maxRecDepth 20000 in
theorem wv_6_drumFor : ∀ w ∈ [Cond.instanceMethod y_6_drumFor, Cond.selects y_6_drumFor.cls y_6_drumFor y_6_drumFor, Cond.initialized y_6_drumFor.cls, Cond.code y_6_drumFor prog_8_method_26_code 6 (some .int)], w ∈ dk_TB := dk_ac (dk_tb 1053 rfl rfl) (dk_ac (dk_tb 37 rfl rfl) (dk_ac (dk_tb 64 rfl rfl) (dk_ac (dk_tb 1054 rfl rfl) (dk_an))))
theorem hd_6_drumFor : y_6_drumFor.cls ≠ "java/lang/invoke/MethodHandle" ∧ y_6_drumFor.cls ≠ "java/lang/invoke/VarHandle" ∧ (parseMethodDescriptor y_6_drumFor.desc).map (fun d => d.parameters.length) = some 1 := by decide +kernel
theorem k_6_byEar : dk_ckT t_6_byEar prog_8_method_28_code 3 t_6_byEar.2.2.1 b_6_byEar = true := by decide +kernel
set_option maxRecDepth 20000 in
theorem hc_6_byEar : ∀ q ∈ t_6_byEar.2.1, ∃ n Sm, dk_nth g_6_byEar q.2.2 = some (n, Sm) ∧ dk_Call y_6_byEar.cls ({ frames := 2, cells := 0, slots := 0, locals := 47 }) prog_8_method_28_code 3 q.2.1 q.1 n Sm :=
  dk_ac ⟨2, s_6_drumFor, rfl, fun hx hb hml hown hts hF => dk_callV e_6_drumFor dk_rcV rfl (dk_ac (dk_tb 1051 rfl rfl) wv_6_drumFor) ⟨rfl, rfl⟩ hd_6_drumFor ⟨by decide, by decide⟩ ⟨Nat.zero_le _, Nat.zero_le _⟩ hx hb hml hown hts hF⟩
    (dk_ac ⟨3, s_6_its, rfl, fun hx hb hml hown hts hF => dk_callV e_6_its dk_rcV rfl (dk_ac (dk_tb 1024 rfl rfl) wv_6_its) ⟨rfl, rfl⟩ hd_6_its ⟨by decide, by decide⟩ ⟨Nat.zero_le _, Nat.zero_le _⟩ hx hb hml hown hts hF⟩
    (dk_ac ⟨3, s_6_lagOf, rfl, fun hx hb hml hown hts hF => dk_callV e_6_lagOf dk_rcV rfl (dk_ac (dk_tb 1035 rfl rfl) wv_6_lagOf) ⟨rfl, rfl⟩ hd_6_lagOf ⟨by decide, by decide⟩ ⟨Nat.zero_le _, Nat.zero_le _⟩ hx hb hml hown hts hF⟩
    (dk_ac ⟨2, s_6_wrapped, rfl, fun hx hb hml hown hts hF => dk_callV e_6_wrapped dk_rcV rfl (dk_ac (dk_tb 956 rfl rfl) wv_6_wrapped) ⟨rfl, rfl⟩ hd_6_wrapped ⟨by decide, by decide⟩ ⟨Nat.zero_le _, Nat.zero_le _⟩ hx hb hml hown hts hF⟩
    (dk_an))))
theorem e_6_byEar : dk_Met y_6_byEar prog_8_method_28_code 3 (some .int) ({ frames := 2, cells := 0, slots := 0, locals := 47 }) s_6_byEar := dk_metV 6 (dk_met (y := y_6_byEar) (cc := prog_8_method_28_code) (maxL := 3) (ret := (some .int)) (rm := ({ frames := 2, cells := 0, slots := 0, locals := 47 })) (T := t_6_byEar) (tb := b_6_byEar) (G := g_6_byEar) (by decide +kernel) ⟨fun _ => rfl, fun z => absurd z (by decide), fun z => absurd z (by decide), fun z => absurd z (by decide)⟩ (fun _ _ _ _ _ hts hd => tok_6 hts hd) h_6_byEar k_6_byEar rfl (fun i kd j h => hc_6_byEar (i, kd, j) (dk_lk_mem h)))
set_option maxRecDepth 20000 in
theorem wv_6_byEar : ∀ w ∈ [Cond.instanceMethod y_6_byEar, Cond.selects y_6_byEar.cls y_6_byEar y_6_byEar, Cond.initialized y_6_byEar.cls, Cond.code y_6_byEar prog_8_method_28_code 3 (some .int)], w ∈ dk_TB := dk_ac (dk_tb 1064 rfl rfl) (dk_ac (dk_tb 39 rfl rfl) (dk_ac (dk_tb 64 rfl rfl) (dk_ac (dk_tb 1065 rfl rfl) (dk_an))))
theorem hd_6_byEar : y_6_byEar.cls ≠ "java/lang/invoke/MethodHandle" ∧ y_6_byEar.cls ≠ "java/lang/invoke/VarHandle" ∧ (parseMethodDescriptor y_6_byEar.desc).map (fun d => d.parameters.length) = some 1 := by decide +kernel
