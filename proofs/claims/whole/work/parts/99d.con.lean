/-! CONSTRUCTORS: rows -/
/-- a static row that is only read, as a cell -/
def cn_T (t : Nat) (f : Nat → Int32) (n : Nat) (A : Nat → Prop) (U : State) (H : Heap) : Prop := ∃ cell : Cell, H[t]? = some cell ∧ U.isArrayOf cell .int ∧ cell.vm ≠ .unknown ∧ (∀ k, cell.vm ≠ .statics k) ∧ cell.slots = (arrV cell.cls n (fun j => .int (f j))).slots ∧ U.vm.findClass "[I" = some cell.cls ∧ ¬ A t
theorem cn_T.moved {t n : Nat} {f : Nat → Int32} {A : Nat → Prop} {u U : State} {H : Heap} (hvm : u.vm.Alike U.vm) (h : cn_T t f n A u H) : cn_T t f n A U H := by
  obtain ⟨cell, h1, h2, h3, h4, h5, h6, h7⟩ := h
  exact ⟨cell, h1, State.isArrayOf_alike hvm h2, h3, h4, h5, by rw [hvm.findClass]; exact h6, h7⟩
theorem cn_T.kept {t n : Nat} {f : Nat → Int32} {A : Nat → Prop} {U : State} {H H1 : Heap} (h : cn_T t f n A U H) (hq : ∀ a : Nat, a < H.size → ¬ A a → H1[a]? = H[a]?) : cn_T t f n A U H1 := by
  obtain ⟨cell, h1, h2, h3, h4, h5, h6, h7⟩ := h
  exact ⟨cell, by rw [hq t (Array.getElem?_eq_some_iff.mp h1).1 h7]; exact h1, h2, h3, h4, h5, h6, h7⟩
theorem cn_T.narrow {t n : Nat} {f : Nat → Int32} {A B : Nat → Prop} {U : State} {H : Heap} (h : cn_T t f n A U H) (hAB : ∀ q, B q → A q) : cn_T t f n B U H := by
  obtain ⟨cell, h1, h2, h3, h4, h5, h6, h7⟩ := h
  exact ⟨cell, h1, h2, h3, h4, h5, h6, fun z => h7 (hAB _ z)⟩
def cn_rf : Nat → Int32 := fun j => ([500, 1100, 0, 30, 0, 100, 20] : List Int32).getD j 0
def cn_nF : List (String × Nat × String × String × String × String) := [("LongColumn$Column", 9, "LongColumn", "RULE_FIRST", "[I", "LongColumn"), ("LongColumn$Senses", 9, "LongColumn", "RULE_FIRST", "[I", "LongColumn")]
def cn_nM : List (String × Nat × MethodName × String) := [("LongColumn", 25, ⟨"LongColumn$TextReader", "<init>", "()V"⟩, "LongColumn"), ("LongColumn", 67, ⟨"LongColumn$Sheet", "<init>", "()V"⟩, "LongColumn")]
/-- what is known all along the constructors -/
def cn_K (dA : Nat → ClassId) (D : va_G) (n0 tF : Nat) (U : State) : Prop :=
  va_K D dk_cl (dk_ty dA) U ∧ va_Z "LongColumn" "RULE_FIRST" "[I" (.ref tF) (fun q => n0 ≤ q) U U.heap ∧ cn_T tF cn_rf 7 (fun q => n0 ≤ q) U U.heap ∧ (∀ q ∈ cn_nF, va_Nw (.fieldLinkNest q.1 q.2.1 q.2.2.1 q.2.2.2.1 q.2.2.2.2.1 q.2.2.2.2.2) U) ∧ (∀ q ∈ cn_nM, va_Nw (.methodLinkNest q.1 q.2.1 q.2.2.1 q.2.2.2) U) ∧ va_Nw (.castable "[I" "java/lang/Cloneable") U ∧ va_AO "LongColumn$Sheet" U
section CN0
variable {dA : Nat → ClassId} {D : va_G} {n0 tF : Nat}
theorem cn_K_warm {s U : State} (hW : s.WarmedH U.vm) (hq : ∀ a : Nat, a < s.heap.size → ¬ n0 ≤ a → U.heap[a]? = s.heap[a]?) (h : cn_K dA D n0 tF s) : cn_K dA D n0 tF U := by
  obtain ⟨h1, h2, h3, h4, h5, h6, h7⟩ := h
  exact ⟨h1.moved hW.alike, (h2.moved hW.alike).kept hq, (h3.moved hW.alike).kept hq, fun q m => (h4 q m).warmF hW, fun q m => (h5 q m).warmM hW, h6.warmC hW, h7.moved hW.alike⟩
theorem cn_K_same {s U : State} (hv : U.vm = s.vm) (hh : U.heap = s.heap) (h : cn_K dA D n0 tF s) : cn_K dA D n0 tF U := by
  obtain ⟨h1, h2, h3, h4, h5, h6, h7⟩ := h
  have ha : s.vm.Alike U.vm := by rw [hv]; exact Vm.Alike.refl _
  have hq : ∀ a : Nat, a < s.heap.size → ¬ n0 ≤ a → U.heap[a]? = s.heap[a]? := fun a _ _ => by rw [hh]
  exact ⟨h1.moved ha, (h2.moved ha).kept hq, (h3.moved ha).kept hq, fun q m => (h4 q m).same rfl hv.symm, fun q m => (h5 q m).same rfl hv.symm, h6.same rfl hv.symm, h7.moved ha⟩
end CN0
/-- the context of a constructor's walk -/
def cn_C (p : Program) (s : State) (m : MethodId) (args : Array Value) (meth : Method) (c : Code) (cc : ByteArray) (own : String) (dA : Nat → ClassId) (D : va_G) (A : Nat → Prop) (n0 tF : Nat) : Prop :=
  p.tables.exec = Jvm.exec ∧ c.code = cc ∧ s.vm.findClass own = some m.cls ∧ (∀ w ∈ dk_TB, w.before args s = true) ∧ cn_K dA D n0 tF s ∧ (∀ q, s.heap.size ≤ q → A q) ∧ (∀ q, A q → n0 ≤ q)
def cn_W (D : va_G) (A : Nat → Prop) (s : State) (ws : va_W) (H : Heap) (locs : List Loc) : Prop := va_P D dk_cl ws H ∧ va_D A ws ∧ va_S A s.heap H locs
def cn_Q (D : va_G) (A : Nat → Prop) (b ci : Nat) (post : List Value → va_W → Prop) : Array Value → State → Outcome → State → Prop := fun _ st oc t =>
  (∃ (fs : List Value) (xs : va_W), oc = .returned none ∧ post fs xs ∧ va_P D dk_cl ((b, .inr (ci, fs)) :: xs) t.heap ∧ va_D A ((b, .inr (ci, fs)) :: xs)) ∧ va_F A st t
def cn_P (dA : Nat → ClassId) (D : va_G) (n0 tF b ci : Nat) (dfs vs : List Value) (sz : Nat) : Array Value → State → Prop := va_Pc (.ref b :: vs) (fun U => U.heap.size = sz ∧ va_P D dk_cl [(b, .inr (ci, dfs))] U.heap ∧ cn_K dA D n0 tF U)
/-- a constructor's contract -/
def cn_M (dA : Nat → ClassId) (D : va_G) (n0 tF : Nat) (y : MethodName) (cc : ByteArray) (maxL : Nat) (rm : Room) (ci : Nat) (dfs vs : List Value) (post : List Value → va_W → Prop) (mc ms : Nat) : Prop :=
  ∀ (l : Launch) (b sz : Nat), n0 ≤ b → n0 ≤ sz → Met l y (dk_wd y cc maxL none) rm (cn_P dA D n0 tF b ci dfs vs sz) (cn_Q D (va_A [(b, .inr (ci, dfs))] sz) b ci post) mc ms (va_A [(b, .inr (ci, dfs))] sz)
section CN1
variable {p : Program} {l : Launch} {e : Env} {R : Room} {s : State} {m : MethodId} {args : Array Value} {below : List Frame} {meth : Method} {c : Code} {H : Heap} {locs : List Loc} {cells slots : Nat} {Q : State → Prop}
variable {cc : ByteArray} {pc : Nat} {ls : Array Slot} {rest : List Value} {dA : Nat → ClassId} {D : va_G} {A : Nat → Prop} {ws : va_W} {own : String} {n0 tF : Nat}
theorem cn_met {y : MethodName} {maxL : Nat} {rm : Room} {ci : Nat} {dfs vs : List Value} {post : List Value → va_W → Prop} {mc ms : Nat} (hy : plainFor y = true)
    (body : ∀ (p : Program) (l : Launch) (e : Env) (s : State) (m : MethodId) (below : List Frame) (meth : Method) (c : Code) (b : Nat) (A : Nat → Prop), cn_C p s m (Value.ref b :: vs).toArray meth c cc y.cls dA D A n0 tF → c.maxLocals = maxL → meth.sig.returnType = none → meth.locks = false → meth.name = y.name → cn_W D A s [(b, .inr (ci, dfs))] s.heap [] →
      W p l e rm s m (Value.ref b :: vs).toArray below meth c s.heap [] 0 0 (MQ below (cn_Q D A b ci post) (Value.ref b :: vs).toArray s mc ms A) (F0 m 0 ((lg_sl (.ref b :: vs) ++ List.replicate (maxL - (lg_sl (.ref b :: vs)).length) Slot.unset).toArray) [])) : cn_M dA D n0 tF y cc maxL rm ci dfs vs post mc ms := by
  intro l b sz hb0 hsz0
  refine va_MetF (cc := cc) (maxL := maxL) (ret := none) hy rfl ?_
  intro p e s m args below meth c s₁ B hml hv
  obtain ⟨rfl, rfl, hP, hK⟩ := hv
  have hts0 := atoms_spec (ws := dk_wd y cc maxL none) B.pre
  have hts : ∀ w ∈ dk_TB, w.before (Value.ref b :: vs).toArray s = true := fun w hw => hts0 w (List.mem_cons_of_mem _ hw)
  have hown : s.vm.findClass y.cls = some m.cls := findClass_of_methodNamed B.named
  have hin : meth.name = y.name := (name_of_methodNamed B.named B.method).1
  rw [lg_entry_eq]
  refine body p l e s m below meth c b _ ⟨B.exec, B.bytes, hown, hts, hK, fun q h => Or.inr h, fun q h => ?_⟩ hml B.returns B.notSynchronized hin ⟨hP, ⟨fun i j p q hp hq _ => ?_, fun k q hq => va_A.in hq⟩, va_S.rf⟩
  · rcases h with ⟨k, e2, h⟩ | h
    · match k, h with
      | 0, h => cases h; exact hb0
      | k + 1, h => cases h
    · exact Nat.le_trans hsz0 h
  · match i, j, hp, hq with
    | 0, 0, _, _ => rfl
    | 0, j + 1, _, hq => cases hq
    | i + 1, _, hp, _ => cases hp
theorem cn_cA {cA : ClassId} (hK : va_K D dk_cl (dk_ty dA) s) (hK2 : va_K D dk_cl (dk_ty dA ++ [(cA, .int)]) s) : cA = dA 0 := by
  have h1 := va_nm_int (hK.2 0 (dA 0, .int) rfl).2
  have h2 := va_nm_int (hK2.2 3 (cA, .int) rfl).2
  exact Option.some.inj (h2.symm.trans h1)
theorem cn_cB {cA : ClassId} (hK : va_K D dk_cl (dk_ty dA) s) (hK2 : va_K D dk_cl (dk_ty dA ++ [(cA, .boolean)]) s) : cA = dA 1 := by
  have h1 := va_nm_boolean (hK.2 1 (dA 1, .boolean) rfl).2
  have h2 := va_nm_boolean (hK2.2 3 (cA, .boolean) rfl).2
  exact Option.some.inj (h2.symm.trans h1)
set_option maxRecDepth 20000 in
theorem cn_na (C0 : cn_C p s m args meth c cc own dA D A n0 tF) (hW : cn_W D A s ws H locs) {n : Int32} (N : Nat) (hn : ¬ n < 0) (hN : n.toNatClampNeg = N) (hbytes : N * 4 ≤ 536870912) (hcells : cells + 1 ≤ R.cells) (hslots : slots + N ≤ R.slots) (hdg : decode cc pc = .ok (.newarray .int, 2))
    (kk : ∀ (q : Nat) (H1 : Heap), cn_W D A s (ws ++ [(q, .inl (dA 0, N, .inl (fun _ => 0)))]) H1 locs → W p l e R s m args below meth c H1 locs (cells + 1) (slots + N) Q (F0 m (pc + 2) ls (.ref q :: rest))) : W p l e R s m args below meth c H locs cells slots Q (F0 m pc ls (.int n :: rest)) := by
  obtain ⟨hx, hb, hown, hts, hK, hA, -⟩ := C0
  obtain ⟨hP, hD, hS⟩ := hW
  have h4 : componentBytes .int = 4 := by decide +kernel
  refine va_newa (atype := .int) (ty := .int) (a0 := (N, .inl (fun _ => 0))) hx hb (hts (.arrayClass .int) (dk_tb 171 rfl rfl)) rfl hK.1 hP hD hS hA (fun _ => rfl) hn hN (by rw [h4]; exact hbytes) hcells hslots hdg (fun q cA H1 hK2 hP2 hD2 hS2 => ?_)
  cases cn_cA hK.1 hK2
  exact kk q H1 ⟨hP2, hD2, hS2⟩
set_option maxRecDepth 20000 in
theorem cn_nb (C0 : cn_C p s m args meth c cc own dA D A n0 tF) (hW : cn_W D A s ws H locs) {n : Int32} (N : Nat) (hn : ¬ n < 0) (hN : n.toNatClampNeg = N) (hbytes : N * 1 ≤ 536870912) (hcells : cells + 1 ≤ R.cells) (hslots : slots + N ≤ R.slots) (hdg : decode cc pc = .ok (.newarray .boolean, 2))
    (kk : ∀ (q : Nat) (H1 : Heap), cn_W D A s (ws ++ [(q, .inl (dA 1, N, .inl (fun _ => 0)))]) H1 locs → W p l e R s m args below meth c H1 locs (cells + 1) (slots + N) Q (F0 m (pc + 2) ls (.ref q :: rest))) : W p l e R s m args below meth c H locs cells slots Q (F0 m pc ls (.int n :: rest)) := by
  obtain ⟨hx, hb, hown, hts, hK, hA, -⟩ := C0
  obtain ⟨hP, hD, hS⟩ := hW
  have h4 : componentBytes .boolean = 1 := by decide +kernel
  refine va_newa (atype := .boolean) (ty := .boolean) (a0 := (N, .inl (fun _ => 0))) hx hb (hts (.arrayClass .boolean) (dk_tb 239 rfl rfl)) rfl hK.1 hP hD hS hA (fun _ => rfl) hn hN (by rw [h4]; exact hbytes) hcells hslots hdg (fun q cA H1 hK2 hP2 hD2 hS2 => ?_)
  cases cn_cB hK.1 hK2
  exact kk q H1 ⟨hP2, hD2, hS2⟩
theorem cn_put (C0 : cn_C p s m args meth c cc own dA D A n0 tF) (hni : meth.name = "<init>") (hW : cn_W D A s ws H locs) {ci index q0 k N b : Nat} {T : u_T} {fs : List Value} {v : Value} {ty : FieldType} (ty0 : Nat → FieldType) (he : ws[q0]? = some (b, .inr (ci, fs))) (hc : dk_cl[ci]? = some (own, T, N)) (hin : ∀ w ∈ u_ws own T N, w ∈ dk_TB) (hty : ∀ k, k < N → parseFieldDescriptor (T k).2.2.1 = some (ty0 k)) (hnm : ∀ a, a < N → ∀ b, b < N → a ≠ b → (T a).2.1 ≠ (T b).2.1) (hk : k < N)
    (hlink : Cond.fieldLink own index (T k).1 (T k).2.1 (T k).2.2.1 ∈ dk_TB) (hdecl : (T k).1 = own) (hd : parseFieldDescriptor (T k).2.2.1 = some ty) (hn : narrow ty v = v) (hfit : fits ty v = true) (hl : k < fs.length) (hdg : decode cc pc = .ok (.putfield index, 3))
    (kk : ∀ (H1 : Heap) (locs1 : List Loc), cn_W D A s (ws.set q0 (b, .inr (ci, fs.set k v))) H1 locs1 → W p l e R s m args below meth c H1 locs1 cells slots Q (F0 m (pc + 3) ls rest)) : W p l e R s m args below meth c H locs cells slots Q (F0 m pc ls (v :: .ref b :: rest)) := by
  obtain ⟨hx, hb, hown, hts, hK, hA, -⟩ := C0
  obtain ⟨hP, hD, hS⟩ := hW
  cases hf : (T k).2.2.2 with
  | true => exact va_putF (v := v) hx hb hts hin ty0 hty hnm hown hK.1 hP hD hS q0 he hc k hk (hts _ hlink) (fun _ z => z) hf hni hdecl hd hn hfit hl hdg (fun H1 locs1 a1 a2 a3 => kk H1 locs1 ⟨a1, a2, a3⟩)
  | false => exact va_put (v := v) hx hb hts hin ty0 hty hnm hown hK.1 hP hD hS q0 he hc k hk (hts _ hlink) (fun _ z => z) hf hd hn hfit hl hdg (fun H1 locs1 a1 a2 a3 => kk H1 locs1 ⟨a1, a2, a3⟩)
set_option maxRecDepth 20000 in
theorem cn_obj (C0 : cn_C p s m args meth c cc own dA D A n0 tF) {idx a : Nat} (hlink : Cond.methodLink own idx Lib.objectInit ∈ dk_TB) (hsize : ls.size = c.maxLocals) (hdg : decode cc pc = .ok (.invokespecial idx, 3)) (hframes : 1 ≤ R.frames) (hlocals : 12 ≤ R.locals)
    (kk : W p l e R s m args below meth c H locs cells slots Q (F0 m (pc + 3) ls [])) : W p l e R s m args below meth c H locs cells slots Q (F0 m pc ls [.ref a]) := by
  obtain ⟨hx, hb, hown, hts, hK, hA, -⟩ := C0
  exact W.objInit hx hb hown (hts _ hlink) (hts _ (dk_tb 77 rfl rfl)) (hts _ (dk_tb 78 rfl rfl)) rfl hsize rfl hdg hframes (by show 2 * 0 + 0 + 12 ≤ _; omega) kk
theorem cn_join {A0 : Nat → Prop} {wr w1 : va_W} {x : Nat × va_E} {H1 : Heap} (hP : va_P D dk_cl (wr ++ [x]) H) (hD : va_D A0 (wr ++ [x])) (hk : ∀ q : Nat, q < H.size → ¬ va_A [x] H.size q → H1[q]? = H[q]?) (hF : ∀ q, va_A [x] H.size q → A0 q) (hP1 : va_P D dk_cl w1 H1) (hD1 : va_D (va_A [x] H.size) w1) : va_P D dk_cl (wr ++ w1) H1 ∧ va_D A0 (wr ++ w1) := by
  have out : ∀ (k : Nat) (q : Nat × va_E), wr[k]? = some q → q.1 < H.size ∧ ¬ va_A [x] H.size q.1 := by
    intro k q hq
    have hk2 : k < wr.length := (List.getElem?_eq_some_iff.mp hq).1
    have h1 : (wr ++ [x])[k]? = some q := by rw [List.getElem?_append_left hk2]; exact hq
    have hlt := (hP k q h1).lt
    refine ⟨hlt, fun z => ?_⟩
    rcases z with ⟨j, e2, z⟩ | z
    · match j, z with
      | 0, z =>
        have h2 : (wr ++ [x])[wr.length]? = some x := by simp
        have h3 : x = (q.1, e2) := Option.some.inj z
        have h4 := hD.1 k wr.length q x h1 h2 (by rw [h3])
        omega
      | j + 1, z => cases z
    · omega
  refine ⟨?_, ?_⟩
  · refine va_P.app (fun k q hq => ?_) hP1
    have hk2 : k < wr.length := (List.getElem?_eq_some_iff.mp hq).1
    exact (hP k q (by rw [List.getElem?_append_left hk2]; exact hq)).kept (hk q.1 (out k q hq).1 (out k q hq).2)
  · refine va_D.app ⟨fun i j p q hp hq e2 => ?_, fun k q hq => ?_⟩ (hD1.weaken (fun _ q _ h => hF q.1 h)) (fun i j p q hp hq e2 => ?_)
    · have hi : i < wr.length := (List.getElem?_eq_some_iff.mp hp).1
      have hj : j < wr.length := (List.getElem?_eq_some_iff.mp hq).1
      exact hD.1 i j p q (by rw [List.getElem?_append_left hi]; exact hp) (by rw [List.getElem?_append_left hj]; exact hq) e2
    · have hi : k < wr.length := (List.getElem?_eq_some_iff.mp hq).1
      exact hD.2 k q (by rw [List.getElem?_append_left hi]; exact hq)
    · have := hD1.2 j q hq
      rw [← e2] at this
      exact (out i p hp).2 this
theorem cn_go {wr : va_W} {q ci : Nat} {dfs : List Value} {post : List Value → va_W → Prop} {mc ms : Nat} {st0 : List Value} {a : Array Value} (hA : ∀ q, s.heap.size ≤ q → A q) (hW : cn_W D A s (wr ++ [(q, .inr (ci, dfs))]) H locs)
    (hr : va_Run p l e R s m args below meth c H locs cells slots mc ms (F0 m pc ls st0) rest (cn_Q D (va_A [(q, .inr (ci, dfs))] H.size) q ci post a) (va_A [(q, .inr (ci, dfs))] H.size))
    (kk : ∀ (fs : List Value) (xs : va_W) (H1 : Heap) (locs1 : List Loc), post fs xs → cn_W D A s (wr ++ ((q, .inr (ci, fs)) :: xs)) H1 locs1 → W p l e R s m args below meth c H1 locs1 (cells + mc) (slots + ms) Q (F0 m (pc + 3) ls rest)) : W p l e R s m args below meth c H locs cells slots Q (F0 m pc ls st0) := by
  obtain ⟨hP, hD, hS⟩ := hW
  have hF : ∀ z, va_A [(q, Sum.inr (ci, dfs))] H.size z → A z := by
    intro z hz
    rcases hz with ⟨k, e2, hz⟩ | hz
    · match k, hz with
      | 0, hz => cases hz; exact hD.2 wr.length (q, .inr (ci, dfs)) (by simp)
      | k + 1, hz => cases hz
    · exact hA z (Nat.le_trans hS.1 hz)
  intro T hT X
  obtain ⟨v, st₀, t, T', L, h0, X', hL, e1, e2, ⟨⟨fs, xs, hv, hp, hP1, hD1⟩, hz, hk⟩, st⟩ := hr T hT X
  cases hv
  rw [h0] at hz hk
  obtain ⟨hP2, hD2⟩ := cn_join hP hD hk hF hP1 hD1
  obtain ⟨t2, a1, b1⟩ := kk fs xs T'.heap (locs ++ L) hp ⟨by rw [e1]; exact hP2, hD2, Nat.le_trans hS.1 (by rw [e1]; exact hz), fun y h1 h2 => by rw [e1, hk y (Nat.lt_of_lt_of_le h1 hS.1) (fun z => h2 (hF y z))]; exact hS.2.1 y h1 h2, fun y hy => by
      rcases List.mem_append.mp hy with h | h
      · exact hS.2.2 y h
      · exact hF _ (hL y h)⟩ T' rfl X'
  exact ⟨t2, st t2 a1, b1⟩
theorem cn_blind {b ci sz : Nat} {dfs vs : List Value} : FrameBlind (cn_P dA D n0 tF b ci dfs vs sz) := fun a U g mk1 q => ⟨q.1, q.2.1, q.2.2.1, cn_K_same rfl rfl q.2.2.2⟩
theorem cn_pre {wr : va_W} {q ci : Nat} {dfs vs : List Value} (hKn : cn_K dA D n0 tF s) (hAn : ∀ q, A q → n0 ≤ q) (hW : cn_W D A s (wr ++ [(q, .inr (ci, dfs))]) H locs) (U : State) (hU : U.heap = H) (hWm : s.WarmedH U.vm) : cn_P dA D n0 tF q ci dfs vs H.size (Value.ref q :: vs).toArray U := by
  obtain ⟨hP, hD, hS⟩ := hW
  refine ⟨rfl, by rw [hU], ?_, cn_K_warm hWm (fun a h1 h2 => by rw [hU]; exact hS.2.1 a h1 (fun z => h2 (hAn a z))) hKn⟩
  rw [hU]
  intro k x hx
  match k, hx with
  | 0, hx => cases hx; exact hP wr.length _ (by simp)
  | k + 1, hx => cases hx
/-- a constructor is called -/
theorem cn_call {y : MethodName} {bytes : ByteArray} {maxL nL : Nat} {rm : Room} {ci : Nat} {dfs vs : List Value} {post : List Value → va_W → Prop} {mc ms i k q : Nat} {wr : va_W} {st : List Value} (C0 : cn_C p s m args meth c cc own dA D A n0 tF) (hml : c.maxLocals = nL) (hW : cn_W D A s (wr ++ [(q, .inr (ci, dfs))]) H locs) (hM : cn_M dA D n0 tF y bytes maxL rm ci dfs vs post mc ms)
    (hw : ∀ w ∈ [Cond.methodLink own i y, Cond.instanceMethod y, Cond.initialized y.cls, Cond.code y bytes maxL none], w ∈ dk_TB) (hz : rm.cells = mc ∧ rm.slots = ms) (hy1 : y.name = "<init>")
    (hd : y.cls ≠ "java/lang/invoke/MethodHandle" ∧ y.cls ≠ "java/lang/invoke/VarHandle" ∧ (parseMethodDescriptor y.desc).map (fun d => d.parameters.length) = some k) (hR : rm.frames + 1 ≤ R.frames ∧ 8 + (maxL + 11) + rm.locals ≤ R.locals)
    (hn : vs.length = k) (hls : ls.size = nL) (hst : st = vs.reverse ++ .ref q :: rest) (hsz : (rest.map fun v => v.category).sum ≤ 8) (hdg : decode cc pc = .ok (.invokespecial i, 3)) (hcs : cells + mc ≤ R.cells ∧ slots + ms ≤ R.slots)
    (kk : ∀ (fs : List Value) (xs : va_W) (H1 : Heap) (locs1 : List Loc), post fs xs → cn_W D A s (wr ++ ((q, .inr (ci, fs)) :: xs)) H1 locs1 → W p l e R s m args below meth c H1 locs1 (cells + mc) (slots + ms) Q (F0 m (pc + 3) ls rest)) : W p l e R s m args below meth c H locs cells slots Q (F0 m pc ls st) := by
  obtain ⟨hx, hb, hown, hts, hK, hA, hAn⟩ := C0
  have hq0 : n0 ≤ q := hAn q (hW.2.1.2 wr.length (q, .inr (ci, dfs)) (by simp))
  have hs0 : n0 ≤ H.size := Nat.le_trans (hAn _ (hA _ (Nat.le_refl _))) hW.2.2.1
  exact cn_go hA hW (va_runI (As := vs) ⟨hx, hb, hml, hown, hts⟩ (hM l q H.size hq0 hs0) (cwI k hts (dk_goodTB (hw _ (by simp))) rfl hz.1 hz.2 (hts _ (hw _ (by simp))) (hts _ (hw _ (by simp))) (hts _ (hw _ (by simp))) hy1 hd hR) ⟨cn_blind, fun U hU hWm => cn_pre hK hAn hW U hU hWm⟩ rfl hn hls hst (lv_room hsz) hdg hcs) kk
theorem cn_callN {y : MethodName} {host : String} {bytes : ByteArray} {maxL nL : Nat} {rm : Room} {ci : Nat} {dfs vs : List Value} {post : List Value → va_W → Prop} {mc ms i k q : Nat} {wr : va_W} {st : List Value} (C0 : cn_C p s m args meth c cc own dA D A n0 tF) (hml : c.maxLocals = nL) (hW : cn_W D A s (wr ++ [(q, .inr (ci, dfs))]) H locs) (hM : cn_M dA D n0 tF y bytes maxL rm ci dfs vs post mc ms)
    (hnm : (own, i, y, host) ∈ cn_nM) (hw : ∀ w ∈ [Cond.instanceMethod y, Cond.initialized y.cls, Cond.code y bytes maxL none], w ∈ dk_TB) (hz : rm.cells = mc ∧ rm.slots = ms) (hy1 : y.name = "<init>")
    (hd : y.cls ≠ "java/lang/invoke/MethodHandle" ∧ y.cls ≠ "java/lang/invoke/VarHandle" ∧ (parseMethodDescriptor y.desc).map (fun d => d.parameters.length) = some k) (hR : rm.frames + 1 ≤ R.frames ∧ 8 + (maxL + 11) + rm.locals ≤ R.locals)
    (hn : vs.length = k) (hls : ls.size = nL) (hst : st = vs.reverse ++ .ref q :: rest) (hsz : (rest.map fun v => v.category).sum ≤ 8) (hdg : decode cc pc = .ok (.invokespecial i, 3)) (hcs : cells + mc ≤ R.cells ∧ slots + ms ≤ R.slots)
    (kk : ∀ (fs : List Value) (xs : va_W) (H1 : Heap) (locs1 : List Loc), post fs xs → cn_W D A s (wr ++ ((q, .inr (ci, fs)) :: xs)) H1 locs1 → W p l e R s m args below meth c H1 locs1 (cells + mc) (slots + ms) Q (F0 m (pc + 3) ls rest)) : W p l e R s m args below meth c H locs cells slots Q (F0 m pc ls st) := by
  obtain ⟨hx, hb, hown, hts, hK, hA, hAn⟩ := C0
  have hq0 : n0 ≤ q := hAn q (hW.2.1.2 wr.length (q, .inr (ci, dfs)) (by simp))
  have hs0 : n0 ≤ H.size := Nat.le_trans (hAn _ (hA _ (Nat.le_refl _))) hW.2.2.1
  exact cn_go hA hW (va_runIN (As := vs) ⟨hx, hb, hml, hown, hts⟩ (hM l q H.size hq0 hs0) ⟨va_cnB k hts (dk_goodTB (hw _ (by simp))) rfl hz.1 hz.2 (hK.2.2.2.2.1 _ hnm) (hts _ (hw _ (by simp))) hd hR, hy1, hts _ (hw _ (by simp))⟩ ⟨cn_blind, fun U hU hWm => cn_pre hK hAn hW U hU hWm⟩ rfl hn hls hst (lv_room hsz) hdg hcs) kk
end CN1
