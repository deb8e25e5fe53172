/-! WHAT THE JDK DOES: rows that are copied; texts -/
def s_ac : dk_S := fun as h Q => match as with
  | [.inr (.inr a), .inl sp, .inr (.inr b), .inl dp, .inl n] => match dk_ar (h a) 0, dk_ar (h b) 0 with
    | some (na, f), some (nb, g) => (0 ≤ sp ∧ 0 ≤ dp ∧ 0 ≤ n ∧ sp + n ≤ na ∧ dp + n ≤ nb ∧ sp + n < 2147483648 ∧ dp + n < 2147483648) ∧ Q none (dk_up h b (.inl (0, nb, fun j => if dp ≤ j ∧ j < dp + n then f (sp + (j - dp)) else g j)))
    | _, _ => False
  | _ => False
theorem o_ac : dk_mono s_ac := by
  intro as h Q Q2 hQ q
  unfold s_ac at q ⊢
  split at q
  · split at q
    · exact ⟨q.1, hQ _ _ q.2⟩
    · exact q.elim
  · exact q.elim
theorem dk_cpy (f g : Int → Int) {sp dp n : Int} (h1 : 0 ≤ sp) (h2 : 0 ≤ dp) (h3 : 0 ≤ n) (b1 : sp + n < 2147483648) (b2 : dp + n < 2147483648) : va_cpy (fun j : Nat => Int32.ofInt (f j)) (fun j : Nat => Int32.ofInt (g j)) (Int32.ofInt sp).toNatClampNeg (Int32.ofInt dp).toNatClampNeg (Int32.ofInt n).toNatClampNeg = fun j : Nat => Int32.ofInt ((fun j : Int => if dp ≤ j ∧ j < dp + n then f (sp + (j - dp)) else g j) j) := by
  funext j
  rw [dk_clamp h1 (by omega), dk_clamp h2 (by omega), dk_clamp h3 (by omega)]
  unfold va_cpy
  by_cases c : dp.toNat ≤ j ∧ j < dp.toNat + n.toNat
  · rw [if_pos c]
    have c2 : dp ≤ (j : Int) ∧ (j : Int) < dp + n := by omega
    simp only [if_pos c2]
    congr 2
    omega
  · rw [if_neg c]
    have c2 : ¬ (dp ≤ (j : Int) ∧ (j : Int) < dp + n) := by omega
    simp only [if_neg c2]
set_option maxRecDepth 20000 in
theorem call_ac {own : String} {R : Room} {cc : ByteArray} {nL i : Nat} (hl0 : Cond.methodLink own i arraycopyName ∈ dk_TB) (hfr : 1 ≤ R.frames) (hlo : 26 ≤ R.locals) : dk_Call own R cc nL 1 i 5 s_ac := by
  intro p l e s m args below meth c Qf ad dA D A ro adV hx hb hml hown hts hF
  intro pc ins L S as h hins hdg hlen hsz hSem H locs ls hW hS hl
  have hins : ins = .invokestatic i := by
    rcases hins with ⟨h1, -⟩ | ⟨-, h1⟩
    · cases h1
    · exact h1
  subst hins
  unfold s_ac at hSem
  split at hSem
  · rename_i a sp b dp n
    split at hSem
    · rename_i na f nb g ea eb
      obtain ⟨⟨v1, v2, v3, v4, v5, v6, v7⟩, kk⟩ := hSem
      have ea := dk_ar_inv ea
      have eb := dk_ar_inv eb
      have ha := dk_lt hF.1 hW (a := a) (fun t n f z => by rw [ea] at z; cases z; exact ⟨by decide, by decide⟩)
      have hb1 := dk_lt hF.1 hW (a := b) (fun t n f z => by rw [eb] at z; cases z; exact ⟨by decide, by decide⟩)
      have nn : ∀ {z : Int}, 0 ≤ z → z < 2147483648 → ¬ Int32.ofInt z < 0 := by
        intro z h1 h2 h3
        have h4 : Int32.ofInt z < Int32.ofInt 0 := h3
        rw [dk_ofInt_lt ⟨by omega, by omega⟩ ⟨by omega, by omega⟩] at h4
        omega
      refine va_copyi (ty := .int) (c0 := dA 0) (c1 := dA 0) (f := fun j => Int32.ofInt (f j)) (g := fun j => Int32.ofInt (g j)) (sp := Int32.ofInt sp) (dp := Int32.ofInt dp) (n := Int32.ofInt n) hx hb (by rw [hml]; exact hl.1.symm) hown (hts _ hl0) (hts _ (dk_tb 581 rfl rfl)) (hts _ (dk_tb 580 rfl rfl)) (hts _ (dk_tb 70 rfl rfl)) hF.1.1 hW.1 (dk_D hF.1 h) hS a b 0 0 (by rw [dk_ws_at ha, ea]; rfl) (by rw [dk_ws_at hb1, eb]; rfl) rfl rfl rfl (nn v1 (by omega)) (nn v2 (by omega)) (nn v3 (by omega)) (by rw [dk_clamp v1 (by omega), dk_clamp v3 (by omega)]; omega) (by rw [dk_clamp v2 (by omega), dk_clamp v3 (by omega)]; omega) (fun _ _ => rfl) hfr ?_ hdg (fun H1 locs1 hP1 _ hS1 => ?_)
      · have e1 : nativeFrameWords "java/lang/System" "arraycopy" 5 = 7 := by decide +kernel
        rw [e1, dk_sz_cat]
        have hsz2 : dk_sz ([].append S) ≤ 8 := hsz
        omega
      · rw [dk_cpy f g v1 v2 v3 v6 v7] at hP1
        exact kk H1 locs1 ls (dk_Wd_up hW hb1 (fun t n f z => by cases z; omega) (by rw [← dk_ws_set]; exact hP1)) hS1 hl
    · exact hSem.elim
  · exact hSem.elim
def s_sl : dk_S := fun as h Q => match as with
  | [.inr (.inr k)] => (110 ≤ k ∧ k < 121) ∧ Q (some (dk_I (dk_sl.getD (k - 110) 0 : Nat))) h
  | _ => False
def s_sc : dk_S := fun as h Q => match as with
  | [.inr (.inr k), .inl i] => (110 ≤ k ∧ k < 121 ∧ 0 ≤ i ∧ i < (dk_sl.getD (k - 110) 0 : Nat)) ∧ Q (some (dk_I (((dk_by.getD (k - 110) []).getD i.toNat 0).toInt))) h
  | _ => False
theorem o_sl : dk_mono s_sl := by
  intro as h Q Q2 hQ q
  unfold s_sl at q ⊢
  split at q
  · exact ⟨q.1, hQ _ _ q.2⟩
  · exact q.elim
theorem o_sc : dk_mono s_sc := by
  intro as h Q Q2 hQ q
  unfold s_sc at q ⊢
  split at q
  · exact ⟨q.1, hQ _ _ q.2⟩
  · exact q.elim
/-! WHAT THE JDK DOES WITH A TEXT: length, charAt -/
abbrev jx_0 : Room := { frames := 0, cells := 0, slots := 0, locals := 0 }
section JX
variable (ad : Nat → Nat) (dA : Nat → ClassId) (D : va_G) (A : Nat → Prop) (ro : dk_H) (adV : Nat → Nat) (h : dk_H)
def jx_P (vs : List Value) : Array Value → State → Prop := va_Pc vs (fun U => dk_Fa ad dA D A ro adV U ∧ dk_Wd ad dA D 77 dk_cl ro h U.heap)
/-- the method answers r of these values, and leaves the heap -/
def jx_M (y : MethodName) (cc : ByteArray) (maxL : Nat) (ret : Option FieldType) (rm : Room) (vs : List Value) (r : Option dk_V) : Prop :=
  ∀ l : Launch, Met l y (dk_wd y cc maxL ret) rm (jx_P ad dA D A ro adV h vs) (dk_Qc ad dA D A ro (fun r2 h2 => r2 = r ∧ h2 = h)) 0 0 A
def jx_At (p : Program) (s : State) (m : MethodId) (meth : Method) (c : Code) (args : Array Value) (cc : ByteArray) (maxL : Nat) (ret : Option FieldType) (own : String) : Prop :=
  p.tables.exec = Jvm.exec ∧ c.code = cc ∧ c.maxLocals = maxL ∧ meth.sig.returnType = ret ∧ meth.locks = false ∧ s.vm.findClass own = some m.cls ∧ (∀ w ∈ dk_TB, w.before args s = true) ∧ dk_Fa ad dA D A ro adV s ∧ dk_Wd ad dA D 77 dk_cl ro h s.heap
def jx_Ct (p : Program) (s : State) (m : MethodId) (c : Code) (args : Array Value) (cc : ByteArray) (maxL : Nat) (own : String) : Prop :=
  p.tables.exec = Jvm.exec ∧ c.code = cc ∧ c.maxLocals = maxL ∧ s.vm.findClass own = some m.cls ∧ (∀ w ∈ dk_TB, w.before args s = true) ∧ dk_Fa ad dA D A ro adV s
end JX
section JY
variable {ad : Nat → Nat} {dA : Nat → ClassId} {D : va_G} {A : Nat → Prop} {ro : dk_H} {adV : Nat → Nat} {h : dk_H}
theorem jx_met {y : MethodName} {cc : ByteArray} {maxL : Nat} {ret : Option FieldType} {rm : Room} {vs : List Value} {r : Option dk_V} (hy : plainFor y = true)
    (body : ∀ (p : Program) (l : Launch) (e : Env) (s : State) (m : MethodId) (below : List Frame) (meth : Method) (c : Code), jx_At ad dA D A ro adV h p s m meth c vs.toArray cc maxL ret y.cls →
      W p l e rm s m vs.toArray below meth c s.heap [] 0 0 (MQ below (dk_Qc ad dA D A ro (fun r2 h2 => r2 = r ∧ h2 = h)) vs.toArray s 0 0 A) (F0 m 0 ((lg_sl vs ++ List.replicate (maxL - (lg_sl vs).length) Slot.unset).toArray) [])) : jx_M ad dA D A ro adV h y cc maxL ret rm vs r := by
  intro l
  refine va_MetF (cc := cc) (maxL := maxL) (ret := ret) hy rfl ?_
  intro p e s m args below meth c s₁ B hml hv
  obtain ⟨rfl, hF, hW⟩ := hv
  have hts0 := atoms_spec (ws := dk_wd y cc maxL ret) B.pre
  have hts : ∀ w ∈ dk_TB, w.before vs.toArray s = true := fun w hw => hts0 w (List.mem_cons_of_mem _ hw)
  have hown : s.vm.findClass y.cls = some m.cls := findClass_of_methodNamed B.named
  rw [lg_entry_eq]
  exact body p l e s m below meth c ⟨B.exec, B.bytes, hml, B.returns, B.notSynchronized, hown, hts, hF, hW⟩
theorem jx_fin {s : State} {H : Heap} {locs : List Loc} {args : Array Value} {r : Option dk_V} {v : Option Value} (hW : dk_Wd ad dA D 77 dk_cl ro h H) (hS : va_S A s.heap H locs) (hv : v = r.map (dk_cv ad)) :
    ∀ t : State, t.heap = H → s.WarmedH t.vm → dk_Qc ad dA D A ro (fun r2 h2 => r2 = r ∧ h2 = h) args s (.returned v) t := fun t ht _ => ⟨⟨r, h, by rw [hv], ⟨rfl, rfl⟩, by rw [ht]; exact hW⟩, hS.F ht⟩
theorem jx_blind {vs : List Value} : FrameBlind (jx_P ad dA D A ro adV h vs) := fun a U g mk1 q => ⟨q.1, dk_Fa_same rfl rfl q.2.1, q.2.2⟩
theorem jx_recv {s : State} {H : Heap} {locs : List Loc} {i : Nat} (hF : dk_Fa ad dA D A ro adV s) (hi : i < 11) (hS : va_S A s.heap H locs) : ∃ cell : Cell, H[ad (110 + i)]? = some cell ∧ cell.vm.isStatics = false ∧ s.vm.findClass "java/lang/String" = some cell.cls := by
  have hE := hF.2.2.2.2.2.1
  exact vk_recv (adK := fun i => ad (110 + i)) (i := i) hE hi hS
section JZ
variable {p : Program} {l : Launch} {e : Env} {R : Room} {s : State} {m : MethodId} {args : Array Value} {below : List Frame} {meth : Method} {c : Code} {Qf : State → Prop} {cc : ByteArray} {nL : Nat} {own : String}
theorem jx_callS {y : MethodName} {bytes : ByteArray} {maxL : Nat} {ret : Option FieldType} {rm : Room} {vs : List Value} {r : Option dk_V} {i k : Nat} (C0 : jx_Ct ad dA D A ro adV p s m c args cc nL own) (hM : jx_M ad dA D A ro adV h y bytes maxL ret rm vs r)
    (hw : ∀ w ∈ [Cond.methodLink own i y, Cond.static y, Cond.initialized y.cls, Cond.code y bytes maxL ret], w ∈ dk_TB) (hz : rm.cells = 0 ∧ rm.slots = 0)
    (hd : y.cls ≠ "java/lang/invoke/MethodHandle" ∧ y.cls ≠ "java/lang/invoke/VarHandle" ∧ (parseMethodDescriptor y.desc).map (fun d => d.parameters.length) = some k) (hR : rm.frames + 1 ≤ R.frames ∧ 8 + (maxL + 11) + rm.locals ≤ R.locals)
    (hn : vs.length = k) {H : Heap} {locs : List Loc} (hW : dk_Wd ad dA D 77 dk_cl ro h H) (hS : va_S A s.heap H locs) {ls : Array Slot} (hls : ls.size = nL) {pc : Nat} {st rest : List Value} (hst : st = vs.reverse ++ rest) (hsz : (rest.map fun v => v.category).sum ≤ 8) (hdg : decode cc pc = .ok (.invokestatic i, 3))
    (kk : ∀ (H1 : Heap) (locs1 : List Loc), dk_Wd ad dA D 77 dk_cl ro h H1 → va_S A s.heap H1 locs1 → W p l e R s m args below meth c H1 locs1 0 0 Qf (F0 m (pc + 3) ls ((r.map (dk_cv ad)).toList ++ rest))) : W p l e R s m args below meth c H locs 0 0 Qf (F0 m pc ls st) := by
  obtain ⟨hx, hb, hml, hown, hts, hF⟩ := C0
  have hG : GoodIn dk_TB (va_wsS own i y (dk_wd y bytes maxL ret)) := by
    intro w hw2
    have h1 : w ∈ dk_TB := by
      rcases List.mem_append.mp hw2 with h3 | h3
      · exact hw w (by simp only [List.mem_cons, List.not_mem_nil, or_false] at h3 ⊢; rcases h3 with h3 | h3 | h3 <;> simp [h3])
      · exact (dk_goodTB (hw _ (by simp)) w h3).1
    exact ⟨h1, good_of_word (dk_TB_good h1)⟩
  have hq : ∀ (U : State), U.heap = H → ∀ a : Nat, a < s.heap.size → ¬ A a → U.heap[a]? = s.heap[a]? := fun U hU a h1 h2 => by rw [hU]; exact hS.2.1 a h1 h2
  refine dk_goR (rest := rest) (va_runS (As := vs) ⟨hx, hb, hml, hown, hts⟩ (hM l) (va_cwS k hts hG rfl hz.1 hz.2 hd hR) ⟨jx_blind, fun U hU hWm => ⟨rfl, dk_Fa_warm hWm (hq U hU) hF, by rw [hU]; exact hW⟩⟩ rfl hn hls hst (lv_room hsz) hdg ⟨Nat.zero_le _, Nat.zero_le _⟩) hS (fun r2 h2 H1 locs1 hq2 hW2 hS2 => ?_)
  obtain ⟨rfl, rfl⟩ := hq2
  exact kk H1 locs1 hW2 hS2
theorem jx_callV {y : MethodName} {bytes : ByteArray} {maxL : Nat} {ret : Option FieldType} {rm : Room} {b : Nat} {vs : List Value} {r : Option dk_V} {i k : Nat} (C0 : jx_Ct ad dA D A ro adV p s m c args cc nL own) (hM : jx_M ad dA D A ro adV h y bytes maxL ret rm (.ref b :: vs) r)
    (hw : ∀ w ∈ [Cond.methodLink own i y, Cond.instanceMethod y, Cond.selects y.cls y y, Cond.initialized y.cls, Cond.code y bytes maxL ret], w ∈ dk_TB) (hz : rm.cells = 0 ∧ rm.slots = 0)
    (hd : y.cls ≠ "java/lang/invoke/MethodHandle" ∧ y.cls ≠ "java/lang/invoke/VarHandle" ∧ (parseMethodDescriptor y.desc).map (fun d => d.parameters.length) = some k) (hR : rm.frames + 1 ≤ R.frames ∧ 8 + (maxL + 11) + rm.locals ≤ R.locals)
    (hn : vs.length = k) {H : Heap} {locs : List Loc} (hW : dk_Wd ad dA D 77 dk_cl ro h H) (hS : va_S A s.heap H locs) (hrc : ∃ cell : Cell, H[b]? = some cell ∧ cell.vm.isStatics = false ∧ s.vm.findClass y.cls = some cell.cls) {ls : Array Slot} (hls : ls.size = nL) {pc : Nat} {st rest : List Value} (hst : st = vs.reverse ++ .ref b :: rest) (hsz : (rest.map fun v => v.category).sum ≤ 8) (hdg : decode cc pc = .ok (.invokevirtual i, 3))
    (kk : ∀ (H1 : Heap) (locs1 : List Loc), dk_Wd ad dA D 77 dk_cl ro h H1 → va_S A s.heap H1 locs1 → W p l e R s m args below meth c H1 locs1 0 0 Qf (F0 m (pc + 3) ls ((r.map (dk_cv ad)).toList ++ rest))) : W p l e R s m args below meth c H locs 0 0 Qf (F0 m pc ls st) := by
  obtain ⟨hx, hb, hml, hown, hts, hF⟩ := C0
  have hG : GoodIn dk_TB (wsV own i y.cls y (dk_wd y bytes maxL ret)) := by
    intro w hw2
    have h1 : w ∈ dk_TB := by
      rcases List.mem_append.mp hw2 with h3 | h3
      · exact hw w (by simp only [List.mem_cons, List.not_mem_nil, or_false] at h3 ⊢; rcases h3 with h3 | h3 | h3 | h3 <;> simp [h3])
      · exact (dk_goodTB (hw _ (by simp)) w h3).1
    exact ⟨h1, good_of_word (dk_TB_good h1)⟩
  have hq : ∀ (U : State), U.heap = H → ∀ a : Nat, a < s.heap.size → ¬ A a → U.heap[a]? = s.heap[a]? := fun U hU a h1 h2 => by rw [hU]; exact hS.2.1 a h1 h2
  refine dk_goR (rest := rest) (va_runV (As := vs) ⟨hx, hb, hml, hown, hts⟩ (hM l) (cwV k hts hG rfl hz.1 hz.2 ⟨rfl, hd⟩ hR) ⟨jx_blind, hrc, fun U hU hWm => ⟨rfl, dk_Fa_warm hWm (hq U hU) hF, by rw [hU]; exact hW⟩⟩ rfl hn hls hst (lv_room hsz) hdg ⟨Nat.zero_le _, Nat.zero_le _⟩) hS (fun r2 h2 H1 locs1 hq2 hW2 hS2 => ?_)
  obtain ⟨rfl, rfl⟩ := hq2
  exact kk H1 locs1 hW2 hS2
end JZ
abbrev jx_yco : MethodName := ⟨"java/lang/String", "coder", "()B"⟩
abbrev jx_yla : MethodName := ⟨"java/lang/String", "isLatin1", "()Z"⟩
abbrev jx_yle : MethodName := ⟨"java/lang/String", "length", "()I"⟩
abbrev jx_yca : MethodName := ⟨"java/lang/String", "charAt", "(I)C"⟩
abbrev jx_ylc : MethodName := ⟨"java/lang/StringLatin1", "charAt", "([BI)C"⟩
abbrev jx_yci : MethodName := ⟨"java/lang/String", "checkIndex", "(II)V"⟩
abbrev jx_ypc : MethodName := ⟨"jdk/internal/util/Preconditions", "checkIndex", "(IILjava/util/function/BiFunction;)I"⟩
set_option maxRecDepth 20000
theorem jx_co {i : Nat} (hi : i < 11) : jx_M ad dA D A ro adV h jx_yco prog_11_method_152_code 1 (some .byte) jx_0 [.ref (ad (110 + i))] (some (dk_I 0)) := by
  refine jx_met (by decide +kernel) (fun p l e s m below meth c C0 => ?_)
  obtain ⟨hx, hb, hml, hr, hlocks, hown, hts, hF, hW⟩ := C0
  have hS : va_S A s.heap s.heap [] := va_S.rf
  have hE := hF.2.2.2.2.2.1
  have hZ : va_Z "java/lang/String" "COMPACT_STRINGS" "Z" (.int 1) A s s.heap := hF.2.2.2.2.2.2.1 ("java/lang/String", "COMPACT_STRINGS", "Z", 1) (by simp [dk_zi])
  refine va_gets hx hb hZ hS hown (hts _ (dk_tb 395 rfl rfl)) (fun _ z => z) (by decide +kernel) ?_
  refine lv_if_eq hx hb (by decide +kernel) (off := 10) (tgt := 13) (by decide) (fun z => absurd z (by decide)) (fun _ => ?_)
  refine lv_aload_n hx hb (k := 0) (by decide +kernel) rfl (by rfl) ?_
  refine vk_getf hx hb (hE.1 i hi).2.1 hS hown (hts _ (dk_tb 1282 rfl rfl)) (fun _ z => z) (by decide +kernel) ?_
  refine lv_goto hx hb (by decide +kernel) (off := 4) (tgt := 14) (by decide) ?_
  exact W.zret hx hb hr (by decide +kernel) (jx_fin hW hS (by rfl)) hS.2.2 (by decide +kernel)
theorem jx_la {i : Nat} (hi : i < 11) : jx_M ad dA D A ro adV h jx_yla prog_11_method_154_code 1 (some .boolean) jx_0 [.ref (ad (110 + i))] (some (dk_I 1)) := by
  refine jx_met (by decide +kernel) (fun p l e s m below meth c C0 => ?_)
  obtain ⟨hx, hb, hml, hr, hlocks, hown, hts, hF, hW⟩ := C0
  have hS : va_S A s.heap s.heap [] := va_S.rf
  have hE := hF.2.2.2.2.2.1
  have hZ : va_Z "java/lang/String" "COMPACT_STRINGS" "Z" (.int 1) A s s.heap := hF.2.2.2.2.2.2.1 ("java/lang/String", "COMPACT_STRINGS", "Z", 1) (by simp [dk_zi])
  refine va_gets hx hb hZ hS hown (hts _ (dk_tb 395 rfl rfl)) (fun _ z => z) (by decide +kernel) ?_
  refine lv_if_eq hx hb (by decide +kernel) (off := 14) (tgt := 17) (by decide) (fun z => absurd z (by decide)) (fun _ => ?_)
  refine lv_aload_n hx hb (k := 0) (by decide +kernel) rfl (by rfl) ?_
  refine vk_getf hx hb (hE.1 i hi).2.1 hS hown (hts _ (dk_tb 1282 rfl rfl)) (fun _ z => z) (by decide +kernel) ?_
  refine lv_if_ne hx hb (by decide +kernel) (off := 7) (tgt := 17) (by decide) (fun z => absurd rfl z) (fun _ => ?_)
  refine lv_iconst hx hb (n := 1) (v := 1) (by decide +kernel) (by decide) ?_
  refine lv_goto hx hb (by decide +kernel) (off := 4) (tgt := 18) (by decide) ?_
  exact W.zret hx hb hr (by decide +kernel) (jx_fin hW hS (by rfl)) hS.2.2 (by decide +kernel)
theorem jx_pc {k n : Int32} {v : Value} (h0 : ¬ k < 0) (hkn : k < n) : jx_M ad dA D A ro adV h jx_ypc prog_16_method_11_code 3 (some .int) jx_0 [.int k, .int n, v] (some (dk_I k.toInt)) := by
  refine jx_met (by decide +kernel) (fun p l e s m below meth c C0 => ?_)
  obtain ⟨hx, hb, hml, hr, hlocks, hown, hts, hF, hW⟩ := C0
  have hS : va_S A s.heap s.heap [] := va_S.rf
  refine lv_iload_n hx hb (k := 0) (x := k) (by decide +kernel) rfl (by rfl) ?_
  refine lv_if_lt hx hb (by decide +kernel) (off := 8) (tgt := 9) (by decide) (fun z => absurd z h0) (fun _ => ?_)
  refine lv_iload_n hx hb (k := 0) (x := k) (by decide +kernel) rfl (by rfl) ?_
  refine lv_iload_n hx hb (k := 1) (x := n) (by decide +kernel) rfl (by rfl) ?_
  refine lv_icmp_lt hx hb (by decide +kernel) (off := 10) (tgt := 16) (by decide) (fun _ => ?_) (fun z => absurd hkn z)
  refine lv_iload_n hx hb (k := 0) (x := k) (by decide +kernel) rfl (by rfl) ?_
  exact W.iret hx hb hr (jx_fin hW hS (by simp [dk_cv])) hS.2.2 (by decide +kernel)
theorem jx_ci {k n : Int32} (h0 : ¬ k < 0) (hkn : k < n) : jx_M ad dA D A ro adV h jx_yci prog_11_method_155_code 2 none { frames := 1, cells := 0, slots := 0, locals := 22 } [.int k, .int n] none := by
  refine jx_met (by decide +kernel) (fun p l e s m below meth c C0 => ?_)
  obtain ⟨hx, hb, hml, hr, hlocks, hown, hts, hF, hW⟩ := C0
  have C1 : jx_Ct ad dA D A ro adV p s m c _ _ _ _ := ⟨hx, hb, hml, hown, hts, hF⟩
  have hS : va_S A s.heap s.heap [] := va_S.rf
  have hZ : va_Zq "jdk/internal/util/Preconditions" "SIOOBE_FORMATTER" "Ljava/util/function/BiFunction;" A s s.heap := hF.2.2.2.2.2.2.2 ("jdk/internal/util/Preconditions", "SIOOBE_FORMATTER", "Ljava/util/function/BiFunction;") (by simp [dk_zr])
  refine lv_iload_n hx hb (k := 0) (x := k) (by decide +kernel) rfl (by rfl) ?_
  refine lv_iload_n hx hb (k := 1) (x := n) (by decide +kernel) rfl (by rfl) ?_
  have go : ∀ v : Value, va_Z "jdk/internal/util/Preconditions" "SIOOBE_FORMATTER" "Ljava/util/function/BiFunction;" v A s s.heap → W p l e { frames := 1, cells := 0, slots := 0, locals := 22 } s m ([.int k, .int n] : List Value).toArray below meth c s.heap [] 0 0 (MQ below (dk_Qc ad dA D A ro (fun r2 h2 => r2 = none ∧ h2 = h)) ([.int k, .int n] : List Value).toArray s 0 0 A) (F0 m 2 ((lg_sl [.int k, .int n] ++ List.replicate (2 - (lg_sl [.int k, .int n]).length) Slot.unset).toArray) [.int n, .int k]) := by
    intro v hv
    refine va_gets hx hb hv hS hown (hts _ (dk_tb 411 rfl rfl)) (fun _ z => z) (by decide +kernel) ?_
    refine jx_callS C1 (jx_pc (v := v) h0 hkn) (i := 1059) (k := 3) (rest := []) (dk_ac (dk_tb 413 rfl rfl) (dk_ac (dk_tb 414 rfl rfl) (dk_ac (dk_tb 68 rfl rfl) (dk_ac (dk_tb 415 rfl rfl) dk_an)))) ⟨rfl, rfl⟩ (by decide +kernel) (by decide) rfl hW hS (by rfl) (by rfl) (by decide) (by decide +kernel) (fun H1 locs1 hW1 hS1 => ?_)
    refine lv_pop hx hb (by decide +kernel) (by rfl) ?_
    exact W.vret hx hb hr (jx_fin hW1 hS1 rfl) hS1.2.2 (by decide +kernel)
  rcases hZ with hv | ⟨t, hv⟩
  · exact go _ hv
  · exact go _ hv
theorem jx_bytes : ∀ i, i < 11 → ∀ j, j < dk_sl.getD i 0 → ((dk_by.getD i []).getD j 0 &&& 255 = (dk_by.getD i []).getD j 0 ∧ ((dk_by.getD i []).getD j 0).toUInt32 % 65536 = ((dk_by.getD i []).getD j 0).toUInt32 ∧ narrow .char (.int ((dk_by.getD i []).getD j 0)) = .int ((dk_by.getD i []).getD j 0)) := by decide +kernel
theorem jx_lens : ∀ i, i < 11 → dk_sl.getD i 0 < 10 := by decide +kernel
theorem jx_lc {i k : Nat} (hi : i < 11) (hk : k < dk_sl.getD i 0) : jx_M ad dA D A ro adV h jx_ylc prog_12_method_2_code 2 (some .char) { frames := 2, cells := 0, slots := 0, locals := 43 } [.ref (adV i), .int (nI k)] (some (dk_I ((dk_by.getD i []).getD k 0).toInt)) := by
  refine jx_met (by decide +kernel) (fun p l e s m below meth c C0 => ?_)
  obtain ⟨hx, hb, hml, hr, hlocks, hown, hts, hF, hW⟩ := C0
  have C1 : jx_Ct ad dA D A ro adV p s m c _ _ _ _ := ⟨hx, hb, hml, hown, hts, hF⟩
  have hS : va_S A s.heap s.heap [] := va_S.rf
  have hE := hF.2.2.2.2.2.1
  have hT := (hE.1 i hi).2.2.2
  have hl := jx_lens i hi
  obtain ⟨b1, b2, b3⟩ := jx_bytes i hi k hk
  refine lv_iload_n hx hb (k := 1) (x := nI k) (by decide +kernel) rfl (by rfl) ?_
  refine lv_aload_n hx hb (k := 0) (by decide +kernel) rfl (by rfl) ?_
  refine va_tlen hx hb hT hS (v := nI (dk_sl.getD i 0)) rfl (by decide +kernel) ?_
  refine jx_callS C1 (jx_ci (k := nI k) (n := nI (dk_sl.getD i 0)) (nI_pos (by omega)) (nI_lt hk (by omega))) (i := 9) (k := 2) (rest := []) (dk_ac (dk_tb 408 rfl rfl) (dk_ac (dk_tb 409 rfl rfl) (dk_ac (dk_tb 66 rfl rfl) (dk_ac (dk_tb 410 rfl rfl) dk_an)))) ⟨rfl, rfl⟩ (by decide +kernel) (by decide) rfl hW hS (by rfl) (by rfl) (by decide) (by decide +kernel) (fun H1 locs1 hW1 hS1 => ?_)
  refine lv_aload_n hx hb (k := 0) (by decide +kernel) rfl (by rfl) ?_
  refine lv_iload_n hx hb (k := 1) (x := nI k) (by decide +kernel) rfl (by rfl) ?_
  refine va_tb hx hb hT hS1 (vp_in_nI hk (by omega)) (v := .int ((dk_by.getD i []).getD k 0)) (by rw [nI_clamp (by omega)]) (by decide +kernel) ?_
  refine lv_sipush hx hb (n := 255) (v := 255) (by decide +kernel) (by decide) ?_
  refine lv_iand hx hb (by decide +kernel) ?_
  refine lv_i2c hx hb (v := (dk_by.getD i []).getD k 0) (by decide +kernel) (by rw [b1, b2]; simp) ?_
  exact W.zret hx hb hr b3 (jx_fin hW1 hS1 (by simp [dk_cv])) hS1.2.2 (by decide +kernel)
theorem jx_le {i : Nat} (hi : i < 11) : jx_M ad dA D A ro adV h jx_yle prog_11_method_54_code 1 (some .int) { frames := 1, cells := 0, slots := 0, locals := 20 } [.ref (ad (110 + i))] (some (dk_I (dk_sl.getD i 0 : Nat))) := by
  refine jx_met (by decide +kernel) (fun p l e s m below meth c C0 => ?_)
  obtain ⟨hx, hb, hml, hr, hlocks, hown, hts, hF, hW⟩ := C0
  have C1 : jx_Ct ad dA D A ro adV p s m c _ _ _ _ := ⟨hx, hb, hml, hown, hts, hF⟩
  have hS : va_S A s.heap s.heap [] := va_S.rf
  have hE := hF.2.2.2.2.2.1
  have hT := (hE.1 i hi).2.2.2
  refine lv_aload_n hx hb (k := 0) (by decide +kernel) rfl (by rfl) ?_
  refine vk_getf hx hb (hE.1 i hi).2.2.1 hS hown (hts _ (dk_tb 1281 rfl rfl)) (fun _ z => z) (by decide +kernel) ?_
  refine va_tlen hx hb hT hS (v := nI (dk_sl.getD i 0)) rfl (by decide +kernel) ?_
  refine lv_aload_n hx hb (k := 0) (by decide +kernel) rfl (by rfl) ?_
  refine jx_callV C1 (jx_co hi) (i := 335) (k := 0) (rest := [.int (nI (dk_sl.getD i 0))]) (dk_ac (dk_tb 391 rfl rfl) (dk_ac (dk_tb 392 rfl rfl) (dk_ac (dk_tb 393 rfl rfl) (dk_ac (dk_tb 66 rfl rfl) (dk_ac (dk_tb 394 rfl rfl) dk_an))))) ⟨rfl, rfl⟩ (by decide +kernel) (by decide) rfl hW hS (jx_recv hF hi hS) (by rfl) (by rfl) (by simp [Value.category]) (by decide +kernel) (fun H1 locs1 hW1 hS1 => ?_)
  refine lv_ishr hx hb (x := nI (dk_sl.getD i 0)) (y := 0) (by decide +kernel) ?_
  rw [sb_shr0]
  exact W.iret hx hb hr (jx_fin hW1 hS1 (by simp [dk_cv, nI]; rfl)) hS1.2.2 (by decide +kernel)
theorem jx_ca {i k : Nat} (hi : i < 11) (hk : k < dk_sl.getD i 0) : jx_M ad dA D A ro adV h jx_yca prog_11_method_56_code 2 (some .char) { frames := 3, cells := 0, slots := 0, locals := 64 } [.ref (ad (110 + i)), .int (nI k)] (some (dk_I ((dk_by.getD i []).getD k 0).toInt)) := by
  refine jx_met (by decide +kernel) (fun p l e s m below meth c C0 => ?_)
  obtain ⟨hx, hb, hml, hr, hlocks, hown, hts, hF, hW⟩ := C0
  have C1 : jx_Ct ad dA D A ro adV p s m c _ _ _ _ := ⟨hx, hb, hml, hown, hts, hF⟩
  have hS : va_S A s.heap s.heap [] := va_S.rf
  have hE := hF.2.2.2.2.2.1
  obtain ⟨b1, b2, b3⟩ := jx_bytes i hi k hk
  refine lv_aload_n hx hb (k := 0) (by decide +kernel) rfl (by rfl) ?_
  refine jx_callV C1 (jx_la hi) (i := 492) (k := 0) (rest := []) (dk_ac (dk_tb 401 rfl rfl) (dk_ac (dk_tb 402 rfl rfl) (dk_ac (dk_tb 403 rfl rfl) (dk_ac (dk_tb 66 rfl rfl) (dk_ac (dk_tb 404 rfl rfl) dk_an))))) ⟨rfl, rfl⟩ (by decide +kernel) (by decide) rfl hW hS (jx_recv hF hi hS) (by rfl) (by rfl) (by decide) (by decide +kernel) (fun H1 locs1 hW1 hS1 => ?_)
  refine lv_if_eq hx hb (x := 1) (by decide +kernel) (off := 12) (tgt := 16) (by decide) (fun z => absurd z (by decide)) (fun _ => ?_)
  refine lv_aload_n hx hb (k := 0) (by decide +kernel) rfl (by rfl) ?_
  refine vk_getf hx hb (hE.1 i hi).2.2.1 hS1 hown (hts _ (dk_tb 1281 rfl rfl)) (fun _ z => z) (by decide +kernel) ?_
  refine lv_iload_n hx hb (k := 1) (x := nI k) (by decide +kernel) rfl (by rfl) ?_
  refine jx_callS C1 (jx_lc hi hk) (i := 495) (k := 2) (rest := []) (dk_ac (dk_tb 405 rfl rfl) (dk_ac (dk_tb 406 rfl rfl) (dk_ac (dk_tb 67 rfl rfl) (dk_ac (dk_tb 407 rfl rfl) dk_an)))) ⟨rfl, rfl⟩ (by decide +kernel) (by decide) rfl hW1 hS1 (by rfl) (by rfl) (by decide) (by decide +kernel) (fun H2 locs2 hW2 hS2 => ?_)
  show W _ _ _ _ _ _ _ _ _ _ _ _ _ _ _ (F0 m 15 _ [.int (Int32.ofInt ((dk_by.getD i []).getD k 0).toInt)])
  rw [Int32.ofInt_toInt]
  exact W.zret hx hb hr b3 (jx_fin hW2 hS2 (by simp [dk_cv])) hS2.2.2 (by decide +kernel)
end JY
theorem call_sl {own : String} {R : Room} {cc : ByteArray} {nL i : Nat} (hl0 : Cond.methodLink own i ⟨"java/lang/String", "length", "()I"⟩ ∈ dk_TB) (hfr : 2 ≤ R.frames) (hlo : 80 ≤ R.locals) : dk_Call own R cc nL 0 i 1 s_sl := by
  intro p l e s m args below meth c Qf ad dA D A ro adV hx hb hml hown hts hF
  intro pc ins L S as h hins hdg hlen hsz hSem H locs ls hW hS hl
  have hins : ins = .invokevirtual i := by
    rcases hins with ⟨-, h1⟩ | ⟨h1, -⟩
    · exact h1
    · cases h1
  subst hins
  unfold s_sl at hSem
  split at hSem
  · rename_i k
    obtain ⟨⟨v1, v2⟩, kk⟩ := hSem
    obtain ⟨j, rfl⟩ : ∃ j, k = 110 + j := ⟨k - 110, by omega⟩
    have hj : j < 11 := by omega
    have ej : 110 + j - 110 = j := by omega
    rw [ej] at kk
    refine jx_callV ⟨hx, hb, hml, hown, hts, hF⟩ (jx_le (h := h) hj) (i := i) (k := 0) (rest := S.map (dk_cv ad)) (dk_ac hl0 (dk_ac (dk_tb 388 rfl rfl) (dk_ac (dk_tb 389 rfl rfl) (dk_ac (dk_tb 66 rfl rfl) (dk_ac (dk_tb 390 rfl rfl) dk_an))))) ⟨rfl, rfl⟩ (by decide +kernel) ⟨by simpa using hfr, by simp; omega⟩ rfl hW hS (jx_recv hF hj hS) hl.1 (by simp [dk_cv]) (by rw [dk_sz_cat]; exact hsz) hdg (fun H1 locs1 hW1 hS1 => ?_)
    exact kk H1 locs1 ls hW1 hS1 hl
  · exact hSem.elim
theorem call_sc {own : String} {R : Room} {cc : ByteArray} {nL i : Nat} (hl0 : Cond.methodLink own i ⟨"java/lang/String", "charAt", "(I)C"⟩ ∈ dk_TB) (hfr : 5 ≤ R.frames) (hlo : 160 ≤ R.locals) : dk_Call own R cc nL 0 i 2 s_sc := by
  intro p l e s m args below meth c Qf ad dA D A ro adV hx hb hml hown hts hF
  intro pc ins L S as h hins hdg hlen hsz hSem H locs ls hW hS hl
  have hins : ins = .invokevirtual i := by
    rcases hins with ⟨-, h1⟩ | ⟨h1, -⟩
    · exact h1
    · cases h1
  subst hins
  unfold s_sc at hSem
  split at hSem
  · rename_i k z
    obtain ⟨⟨v1, v2, v3, v4⟩, kk⟩ := hSem
    obtain ⟨j, rfl⟩ : ∃ j, k = 110 + j := ⟨k - 110, by omega⟩
    have hj : j < 11 := by omega
    have ej : 110 + j - 110 = j := by omega
    rw [ej] at kk v4
    obtain ⟨q, rfl⟩ : ∃ q : Nat, z = q := ⟨z.toNat, by omega⟩
    have hq : q < dk_sl.getD j 0 := by omega
    rw [Int.toNat_natCast] at kk
    refine jx_callV ⟨hx, hb, hml, hown, hts, hF⟩ (jx_ca (h := h) hj hq) (i := i) (k := 1) (rest := S.map (dk_cv ad)) (dk_ac hl0 (dk_ac (dk_tb 398 rfl rfl) (dk_ac (dk_tb 399 rfl rfl) (dk_ac (dk_tb 66 rfl rfl) (dk_ac (dk_tb 400 rfl rfl) dk_an))))) ⟨rfl, rfl⟩ (by decide +kernel) ⟨by simp; omega, by simp; omega⟩ rfl hW hS (jx_recv hF hj hS) hl.1 (by simp [dk_cv, nI]; rfl) (by rw [dk_sz_cat]; exact hsz) hdg (fun H1 locs1 hW1 hS1 => ?_)
    exact kk H1 locs1 ls hW1 hS1 hl
  · exact hSem.elim
