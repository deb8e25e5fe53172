/-! CONSTRUCTORS: the first rules' copy; a row filled -/
section CN2
variable {p : Program} {l : Launch} {e : Env} {R : Room} {s : State} {m : MethodId} {args : Array Value} {below : List Frame} {meth : Method} {c : Code} {H : Heap} {locs : List Loc} {cells slots : Nat} {Q : State → Prop}
variable {cc : ByteArray} {pc : Nat} {ls : Array Slot} {rest : List Value} {dA : Nat → ClassId} {D : va_G} {A : Nat → Prop} {ws : va_W} {own : String} {n0 tF : Nat}
theorem cn_ias (C0 : cn_C p s m args meth c cc own dA D A n0 tF) (hW : cn_W D A s ws H locs) (q0 : Nat) {a n : Nat} {f : Nat → Int32} (ha : ws[q0]? = some (a, .inl (dA 0, n, .inl f))) {i x : Int32} (hin : vp_in i n) (hdg : decode cc pc = .ok (.iastore, 1))
    (kk : ∀ (H1 : Heap) (locs1 : List Loc), cn_W D A s (ws.set q0 (a, .inl (dA 0, n, .inl (upd f i.toNatClampNeg x)))) H1 locs1 → W p l e R s m args below meth c H1 locs1 cells slots Q (F0 m (pc + 1) ls rest)) : W p l e R s m args below meth c H locs cells slots Q (F0 m pc ls (.int x :: .int i :: .ref a :: rest)) := by
  obtain ⟨hx, hb, hown, hts, hK, hA, hAn⟩ := C0
  obtain ⟨hP, hD, hS⟩ := hW
  exact va_iast hx hb hK.1 hP hD hS q0 0 ha rfl hin hdg (fun H1 locs1 a1 a2 a3 => kk H1 locs1 ⟨a1, a2, a3⟩)
set_option maxRecDepth 20000 in
theorem cn_clone (C0 : cn_C p s m args meth c cc own dA D A n0 tF) (hW : cn_W D A s ws H locs) (hml : c.maxLocals = ls.size) {index : Nat} (hlink : Cond.methodLink own index ⟨"[I", "clone", "()Ljava/lang/Object;"⟩ ∈ dk_TB) (hframes : 1 ≤ R.frames) (hlocals : (rest.map fun v => v.category).sum + 14 ≤ R.locals) (hcells : cells + 1 ≤ R.cells) (hslots : slots + 7 ≤ R.slots) (hdg : decode cc pc = .ok (.invokevirtual index, 3))
    (kk : ∀ (q : Nat) (H1 : Heap), cn_W D A s (ws ++ [(q, .inl (dA 0, 7, .inl cn_rf))]) H1 locs → W p l e R s m args below meth c H1 locs (cells + 1) (slots + 7) Q (F0 m (pc + 3) ls (.ref q :: rest))) : W p l e R s m args below meth c H locs cells slots Q (F0 m pc ls (.ref tF :: rest)) := by
  obtain ⟨hx, hb, hown, hts, hK, hA, hAn⟩ := C0
  obtain ⟨hP, hD, hS⟩ := hW
  obtain ⟨cell, h1, h2, h3, h4, h5, h6, h7⟩ := (hK.2.2.1.narrow hAn).kept hS.2.1
  have hcA : cell.cls = dA 0 := Option.some.inj (h6.symm.trans (va_nm_int (hK.1.2 0 (dA 0, .int) rfl).2))
  have hsz : cell.slots.size = 7 := by rw [h5]; exact arrV_size _ _ _
  have hcellE : ({ cls := cell.cls, slots := cell.slots } : Cell) = vp_cell (dA 0) (7, .inl cn_rf) := by
    rw [h5, hcA]; rfl
  obtain ⟨c0, t0', f1, f2, f3⟩ := Cond.castable_spec (va_Nw.use (A := args) rfl hK.2.2.2.2.2.1)
  cases h6.symm.trans f1
  intro T hT X
  obtain ⟨-, kA, hkA, comp, hkind⟩ := State.isArrayOf_alike X.warmed.alike h2
  obtain ⟨-, kS, hkS, compS, hkindS⟩ := h2
  obtain ⟨vm', X', st⟩ := X.cloneArray hx hown (hts _ hlink) (hts _ (dk_tb 88 rfl rfl)) (hts _ (dk_tb 89 rfl rfl)) (hts _ (dk_tb 90 rfl rfl)) (hts _ (dk_tb 91 rfl rfl)) (a := tF) (cell := cell) (by rw [hT]; exact h1) h4 h3 h6 f2 f3
    (fun i v hv => by
      have hk' : T.vm.classes[cell.cls]? = some kA := hkA
      have hf : fits .int v = true := va_fit (cA := cell.cls) (n := 7) (F := fun j => .int (cn_rf j)) (ty := .int) (fun _ _ => rfl) i v (by rw [← h5]; exact hv)
      simpa [State.fitsSlot, State.slotType?, hk', hkind] using hf)
    (g := F0 m pc ls (.ref tF :: rest)) rfl (by rw [hml]) rfl (by rw [hb]; exact hdg) hframes (by show 2 * 0 + _ + 14 ≤ _; omega) hcells (by rw [hsz]; exact hslots) (hloader := Vm.clonesLoader_of_array hkS hkindS)
  rw [hcellE, hsz] at X'
  rw [hcellE, hT] at st
  generalize hH1 : H.push (vp_cell (dA 0) (7, .inl cn_rf)) = H1
  have z1 : H1.size = H.size + 1 := by rw [← hH1, Array.size_push]
  have e1 : H1[H.size]? = some (vp_cell (dA 0) (7, .inl cn_rf)) := by rw [← hH1, Array.getElem?_push_size]
  have o1 : ∀ q : Nat, q < H.size → H1[q]? = H[q]? := fun q hq => by rw [← hH1, Array.getElem?_push, if_neg (Nat.ne_of_lt hq)]
  have hk : ∀ (k : Nat) (y : Nat × va_E), ws[k]? = some y → H1[y.1]? = H[y.1]? := fun k y hy => o1 y.1 ((hP k y hy).lt)
  obtain ⟨t, b1, b2⟩ := kk H.size H1 ⟨(hP.kept hk).app (fun k y hy => by
      have hz : k < 1 := (List.getElem?_eq_some_iff.mp hy).1
      rw [show k = 0 by omega] at hy
      cases hy
      exact e1), hD.push hP rfl (hA _ hS.1), Nat.le_trans hS.1 (by omega), fun y h1 h2 => (o1 y (Nat.lt_of_lt_of_le h1 hS.1)).trans (hS.2.1 y h1 h2), hS.2.2⟩
    ((T.setVm vm').pushCell (vp_cell (dA 0) (7, .inl cn_rf))) (by rw [← hH1, ← hT]; rfl) X'
  exact ⟨t, st t b1, b2⟩
end CN2
abbrev cn_yf : MethodName := ⟨"java/util/Arrays", "fill", "([II)V"⟩
def cn_fP (dA : Nat → ClassId) (D : va_G) (q n : Nat) (f : Nat → Int32) (v : Int32) (sz : Nat) : Array Value → State → Prop := va_Pc [.ref q, .int v] (fun U => U.heap.size = sz ∧ va_P D dk_cl [(q, .inl (dA 0, n, .inl f))] U.heap ∧ va_K D dk_cl (dk_ty dA) U)
def cn_fQ (dA : Nat → ClassId) (D : va_G) (A : Nat → Prop) (q n : Nat) (f : Nat → Int32) (v : Int32) : Array Value → State → Outcome → State → Prop := fun _ st oc t => (oc = .returned none ∧ va_P D dk_cl [(q, .inl (dA 0, n, .inl (fun j => if j < n then v else f j)))] t.heap) ∧ va_F A st t
theorem cn_upd {f : Nat → Int32} {v : Int32} {i : Nat} : upd (fun j => if j < i then v else f j) i v = fun j => if j < i + 1 then v else f j := by
  funext j
  by_cases h : j = i
  · subst h
    rw [pk_us, if_pos (by omega)]
  · rw [pk_un h]
    by_cases h2 : j < i
    · rw [if_pos h2, if_pos (by omega)]
    · rw [if_neg h2, if_neg (by omega)]
theorem cn_d1 {A : Nat → Prop} {q : Nat} {x : va_E} (h : A q) : va_D A [(q, x)] := by
  refine ⟨fun i j p y hp hq _ => ?_, fun k y hy => ?_⟩
  · match i, j, hp, hq with
    | 0, 0, _, _ => rfl
    | 0, j + 1, _, hq => cases hq
    | i + 1, _, hp, _ => cases hp
  · match k, hy with
    | 0, hy => cases hy; exact h
    | k + 1, hy => cases hy
set_option maxRecDepth 20000 in
theorem cn_fill {dA : Nat → ClassId} {D : va_G} {q n : Nat} {f : Nat → Int32} {v : Int32} {sz : Nat} (hn : n < 2 ^ 31) (l : Launch) : Met l cn_yf (dk_wd cn_yf prog_15_method_103_code 4 none) jx_0 (cn_fP dA D q n f v sz) (cn_fQ dA D (va_A [(q, .inl (dA 0, n, .inl f))] sz) q n f v) 0 0 (va_A [(q, .inl (dA 0, n, .inl f))] sz) := by
  refine va_MetF (cc := prog_15_method_103_code) (maxL := 4) (ret := none) (by decide +kernel) rfl ?_
  intro p e s m args below meth c s₁ B hml hv
  obtain ⟨rfl, rfl, hP, hK⟩ := hv
  have hx := B.exec
  have hb := B.bytes
  have hr := B.returns
  have hlocks := B.notSynchronized
  rw [lg_entry_eq]
  have hl := lv_entry ([.ref q, .int v]) (n := 4) (Nat.le_of_ble_eq_true rfl)
  generalize hAe : va_A [(q, Sum.inl (dA 0, n, Sum.inl f))] s.heap.size = A
  have hAq : A q := by rw [← hAe]; exact Or.inl ⟨0, _, rfl⟩
  generalize (lg_sl ([.ref q, .int v]) ++ List.replicate (4 - (lg_sl ([.ref q, .int v])).length) Slot.unset).toArray = ls at hl ⊢
  have hl : lv_has ls 4 [(0, .ref q), (1, .int v)] := hl
  have hS : va_S A s.heap s.heap [] := va_S.rf
  refine lv_iconst hx hb (n := 0) (v := 0) (by decide +kernel) (by decide) ?_
  refine lv_istore_n hx hb (k := 2) (by decide +kernel) rfl hl (by decide) rfl (fun ls hl => ?_)
  have hl : lv_has ls 4 [(2, .int 0), (0, .ref q), (1, .int v)] := hl
  refine lv_aload_n hx hb (k := 0) (by decide +kernel) rfl (lv_at hl 1 rfl) ?_
  refine va_alen hx hb hK hP 0 0 rfl rfl (v := nI n) rfl (by decide +kernel) ?_
  refine lv_istore_n hx hb (k := 3) (by decide +kernel) rfl hl (by decide) rfl (fun ls hl => ?_)
  have hl : lv_has ls 4 [(3, .int (nI n)), (2, .int 0), (0, .ref q), (1, .int v)] := hl
  have hl := lv_sub (l' := [(0, .ref q), (1, .int v), (2, .int (nI 0)), (3, .int (nI n))]) hl [2, 3, 1, 0] rfl
  have loop : ∀ (d i : Nat) (ls : Array Slot) (H : Heap) (locs : List Loc), i + d = n → lv_has ls 4 [(0, .ref q), (1, .int v), (2, .int (nI i)), (3, .int (nI n))] → va_P D dk_cl [(q, .inl (dA 0, n, .inl (fun j => if j < i then v else f j)))] H → va_S A s.heap H locs →
      W p l e (headSpec (dk_wd cn_yf prog_15_method_103_code 4 none) jx_0).room s m ([.ref q, .int v] : List Value).toArray below meth c H locs 0 0 (MQ below (cn_fQ dA D A q n f v) ([.ref q, .int v] : List Value).toArray s 0 0 A) (F0 m 5 ls []) := by
    intro d
    induction d with
    | zero =>
      intro i ls H locs hid hl hP hS
      have hi : i = n := by omega
      subst hi
      refine lv_iload_n hx hb (k := 2) (by decide +kernel) rfl (lv_at hl 2 rfl) ?_
      refine lv_iload_n hx hb (k := 3) (by decide +kernel) rfl (lv_at hl 3 rfl) ?_
      refine lv_icmp_ge hx hb (off := 13) (tgt := 20) (by decide +kernel) (by decide) (fun _ => ?_) (fun z => absurd (nI_le (Nat.le_refl i) hn) z)
      exact W.vret hx hb hr (fun t ht _ => ⟨⟨rfl, by rw [ht]; exact hP⟩, hS.F ht⟩) hS.2.2 (by decide +kernel)
    | succ d ih =>
      intro i ls H locs hid hl hP hS
      have hi : i < n := by omega
      refine lv_iload_n hx hb (k := 2) (by decide +kernel) rfl (lv_at hl 2 rfl) ?_
      refine lv_iload_n hx hb (k := 3) (by decide +kernel) rfl (lv_at hl 3 rfl) ?_
      refine lv_icmp_ge hx hb (off := 13) (tgt := 20) (by decide +kernel) (by decide) (fun z => absurd z (nI_ge hi hn)) (fun _ => ?_)
      refine lv_aload_n hx hb (k := 0) (by decide +kernel) rfl (lv_at hl 0 rfl) ?_
      refine lv_iload_n hx hb (k := 2) (by decide +kernel) rfl (lv_at hl 2 rfl) ?_
      refine lv_iload_n hx hb (k := 1) (by decide +kernel) rfl (lv_at hl 1 rfl) ?_
      refine va_iast hx hb hK hP (cn_d1 hAq) hS 0 0 rfl rfl (vp_in_nI hi hn) (by decide +kernel) (fun H locs hP _ hS => ?_)
      rw [nI_clamp (by omega), cn_upd] at hP
      have hP : va_P D dk_cl [(q, .inl (dA 0, n, .inl (fun j => if j < i + 1 then v else f j)))] H := hP
      refine lv_iinc hx hb (n := 1) (k := 2) (v := nI (i + 1)) (by decide +kernel) hl rfl (by rw [nI_succ]; rfl) (by decide) rfl (fun ls hl => ?_)
      have hl : lv_has ls 4 [(2, .int (nI (i + 1))), (0, .ref q), (1, .int v), (3, .int (nI n))] := hl
      refine lv_goto hx hb (off := -12) (tgt := 5) (by decide +kernel) (by decide) ?_
      exact ih (i + 1) ls H locs (by omega) (lv_sub hl [1, 2, 0, 3] rfl) hP hS
  exact loop n 0 ls s.heap [] (by omega) hl (by simpa using hP) hS
theorem cn_TT {t n : Nat} {f : Nat → Int32} {A : Nat → Prop} {U : State} {H : Heap} (h : cn_T t f n A U H) : va_T .int t n (fun j => .int (f j)) A U H := by
  obtain ⟨cell, h1, h2, h3, h4, h5, h6, h7⟩ := h
  have hsz : cell.slots.size = n := by rw [h5]; exact arrV_size _ _ _
  exact ⟨cell, h1, h2, h3, by omega, by rw [hsz], fun j hj => by rw [h5]; exact arrV_read _ _ hj, h7⟩
section CN3
variable {p : Program} {l : Launch} {e : Env} {R : Room} {s : State} {m : MethodId} {args : Array Value} {below : List Frame} {meth : Method} {c : Code} {H : Heap} {locs : List Loc} {cells slots : Nat} {Q : State → Prop}
variable {cc : ByteArray} {pc : Nat} {ls : Array Slot} {rest : List Value} {dA : Nat → ClassId} {D : va_G} {A : Nat → Prop} {ws : va_W} {own : String} {n0 tF : Nat}
theorem cn_new (C0 : cn_C p s m args meth c cc own dA D A n0 tF) (hW : cn_W D A s ws H locs) {ci N index : Nat} {C : String} {T : u_T} {fs : List Value} (hin : ∀ w ∈ u_ws C T N, w ∈ dk_TB) (ty : Nat → FieldType) (hty : ∀ k, k < N → parseFieldDescriptor (T k).2.2.1 = some (ty k)) (hcl : Cond.classLink own index C ∈ dk_TB) (hinst : Cond.instantiable C N ∈ dk_TB) (hini : Cond.initialized C ∈ dk_TB) (hc : dk_cl[ci]? = some (C, T, N)) (hfs : ∀ j, j < N → defaultValue (ty j) = vp_V fs j) (hcells : cells + 1 ≤ R.cells) (hslots : slots + N ≤ R.slots) (hdg : decode cc pc = .ok (.new index, 3))
    (kk : ∀ (q : Nat) (H1 : Heap), cn_W D A s (ws ++ [(q, .inr (ci, fs))]) H1 locs → W p l e R s m args below meth c H1 locs (cells + 1) (slots + N) Q (F0 m (pc + 3) ls (.ref q :: rest))) : W p l e R s m args below meth c H locs cells slots Q (F0 m pc ls rest) := by
  obtain ⟨hx, hb, hown, hts, hK, hA, hAn⟩ := C0
  obtain ⟨hP, hD, hS⟩ := hW
  exact va_new hx hb hts hin ty hty hown (hts _ hcl) (hts _ hinst) (hts _ hini) hK.1 hP hD hS hA hc hfs hcells hslots hdg (fun q H1 a1 a2 a3 => kk q H1 ⟨a1, a2, a3⟩)
theorem cn_cS {cA : ClassId} (hK : va_K D dk_cl (dk_ty dA) s) (hK2 : va_K D dk_cl (dk_ty dA ++ [(cA, .object "LongColumn$Sheet")]) s) : cA = dA 2 := by
  obtain ⟨-, -, -, -, -, h1⟩ := (hK.2 2 (dA 2, .object "LongColumn$Sheet") rfl).2
  obtain ⟨-, -, -, -, -, h2⟩ := (hK2.2 3 (cA, .object "LongColumn$Sheet") rfl).2
  exact Option.some.inj (h2.symm.trans h1)
theorem cn_nq (C0 : cn_C p s m args meth c cc own dA D A n0 tF) (hW : cn_W D A s ws H locs) {n : Int32} {index : Nat} (N : Nat) (hn : ¬ n < 0) (hN : n.toNatClampNeg = N) (hbytes : N * 4 ≤ 536870912) (hcells : cells + 1 ≤ R.cells) (hslots : slots + N ≤ R.slots) (hcl : Cond.classLink own index "LongColumn$Sheet" ∈ dk_TB) (hdg : decode cc pc = .ok (.anewarray index, 3))
    (kk : ∀ (q : Nat) (H1 : Heap), cn_W D A s (ws ++ [(q, .inl (dA 2, N, .inr (.inr (.inr (.inr (fun _ => none))))))]) H1 locs → W p l e R s m args below meth c H1 locs (cells + 1) (slots + N) Q (F0 m (pc + 3) ls (.ref q :: rest))) : W p l e R s m args below meth c H locs cells slots Q (F0 m pc ls (.int n :: rest)) := by
  obtain ⟨hx, hb, hown, hts, hK, hA, hAn⟩ := C0
  obtain ⟨hP, hD, hS⟩ := hW
  refine va_newq hx hb hown (hts _ hcl) hK.2.2.2.2.2.2 hK.1 hP hD hS hA hn hN hbytes hcells hslots hdg (fun q cA H1 hK2 a1 a2 a3 => ?_)
  cases cn_cS hK.1 hK2
  exact kk q H1 ⟨a1, a2, a3⟩
theorem cn_aas (C0 : cn_C p s m args meth c cc own dA D A n0 tF) (hW : cn_W D A s ws H locs) (q0 qk : Nat) {a n v : Nat} {vs : List Value} {f : Nat → Option Nat} (ha : ws[q0]? = some (a, .inl (dA 2, n, .inr (.inr (.inr (.inr f)))))) (hv : ws[qk]? = some (v, .inr (2, vs))) {i : Int32} (hin : vp_in i n) (hdg : decode cc pc = .ok (.aastore, 1))
    (kk : ∀ (H1 : Heap) (locs1 : List Loc), cn_W D A s (ws.set q0 (a, .inl (dA 2, n, .inr (.inr (.inr (.inr (va_up f i.toNatClampNeg (some v)))))))) H1 locs1 → W p l e R s m args below meth c H1 locs1 cells slots Q (F0 m (pc + 1) ls rest)) : W p l e R s m args below meth c H locs cells slots Q (F0 m pc ls (.ref v :: .int i :: .ref a :: rest)) := by
  obtain ⟨hx, hb, hown, hts, hK, hA, hAn⟩ := C0
  obtain ⟨hP, hD, hS⟩ := hW
  exact va_astq (r := (nn_R2, nn_T2, 3)) hx hb hK.1 hP hD hS q0 2 qk 2 ha rfl hv rfl hin hdg (fun H1 locs1 a1 a2 a3 => kk H1 locs1 ⟨a1, a2, a3⟩)
set_option maxRecDepth 20000 in
theorem cn_callF {nL i q n : Nat} {f : Nat → Int32} {v : Int32} {wr : va_W} {st : List Value} (C0 : cn_C p s m args meth c cc own dA D A n0 tF) (hml : c.maxLocals = nL) (hW : cn_W D A s (wr ++ [(q, .inl (dA 0, n, .inl f))]) H locs) (hn : n < 2 ^ 31) (hlink : Cond.methodLink own i cn_yf ∈ dk_TB) (hR : 1 ≤ R.frames ∧ 23 ≤ R.locals)
    (hls : ls.size = nL) (hst : st = .int v :: .ref q :: rest) (hsz : (rest.map fun v => v.category).sum ≤ 8) (hdg : decode cc pc = .ok (.invokestatic i, 3)) (hcs : cells + 0 ≤ R.cells ∧ slots + 0 ≤ R.slots)
    (kk : ∀ (H1 : Heap) (locs1 : List Loc), cn_W D A s (wr ++ [(q, .inl (dA 0, n, .inl (fun j => if j < n then v else f j)))]) H1 locs1 → W p l e R s m args below meth c H1 locs1 (cells + 0) (slots + 0) Q (F0 m (pc + 3) ls rest)) : W p l e R s m args below meth c H locs cells slots Q (F0 m pc ls st) := by
  obtain ⟨hx, hb, hown, hts, hK, hA, hAn⟩ := C0
  obtain ⟨hP, hD, hS⟩ := hW
  have hG : GoodIn dk_TB (va_wsS own i cn_yf (dk_wd cn_yf prog_15_method_103_code 4 none)) := by
    intro w hw2
    have h1 : w ∈ dk_TB := by
      rcases List.mem_append.mp hw2 with h3 | h3
      · simp only [List.mem_cons, List.not_mem_nil, or_false] at h3
        rcases h3 with h3 | h3 | h3
        · rw [h3]; exact hlink
        · rw [h3]; exact dk_tb 95 rfl rfl
        · rw [h3]; exact dk_tb 59 rfl rfl
      · exact (dk_goodTB (dk_tb 96 rfl rfl) w h3).1
    exact ⟨h1, good_of_word (dk_TB_good h1)⟩
  have hF : ∀ z, va_A [(q, Sum.inl (dA 0, n, Sum.inl f))] H.size z → A z := by
    intro z hz
    rcases hz with ⟨k, e2, hz⟩ | hz
    · match k, hz with
      | 0, hz => cases hz; exact hD.2 wr.length (q, .inl (dA 0, n, .inl f)) (by simp)
      | k + 1, hz => cases hz
    · exact hA z (Nat.le_trans hS.1 hz)
  have hPc : va_P D dk_cl [(q, .inl (dA 0, n, .inl f))] H := by
    intro k x hx
    match k, hx with
    | 0, hx => cases hx; exact hP wr.length _ (by simp)
    | k + 1, hx => cases hx
  have hr := va_runS (p := p) (l := l) (e := e) (R := R) (s := s) (m := m) (args := args) (below := below) (meth := meth) (c := c) (H := H) (locs := locs) (cells := cells) (slots := slots) (g := F0 m pc ls st) (As := [.ref q, .int v]) (rest := rest) ⟨hx, hb, hml, hown, hts⟩ (cn_fill (dA := dA) (D := D) (q := q) (f := f) (v := v) (sz := H.size) hn l) (va_cwS 2 hts hG rfl rfl rfl (by decide +kernel) ⟨by simpa using hR.1, by simpa using hR.2⟩)
    ⟨fun a U g mk1 z => ⟨z.1, z.2.1, z.2.2.1, z.2.2.2.moved (Vm.Alike.refl _)⟩, fun U hU hWm => ⟨rfl, by rw [hU], by rw [hU]; exact hPc, hK.1.moved hWm.alike⟩⟩ rfl rfl hls (by rw [hst]; rfl) (lv_room hsz) hdg hcs
  intro T hT X
  obtain ⟨v2, st₀, t, T', L, h0, X', hL, e1, e2, ⟨⟨hv, hP1⟩, hz, hk⟩, st2⟩ := hr T hT X
  cases hv
  rw [h0] at hz hk
  obtain ⟨hP2, hD2⟩ := cn_join hP hD hk hF hP1 (cn_d1 (Or.inl ⟨0, _, rfl⟩))
  obtain ⟨t2, a1, b1⟩ := kk T'.heap (locs ++ L) ⟨by rw [e1]; exact hP2, hD2, Nat.le_trans hS.1 (by rw [e1]; exact hz), fun y h1 h2 => by rw [e1, hk y (Nat.lt_of_lt_of_le h1 hS.1) (fun z => h2 (hF y z))]; exact hS.2.1 y h1 h2, fun y hy => by
      rcases List.mem_append.mp hy with h | h
      · exact hS.2.2 y h
      · exact hF _ (hL y h)⟩ T' rfl X'
  exact ⟨t2, st2 t2 a1, b1⟩
end CN3
