/-! CONTRACTS: a method of the pure machine as a contract of the real one; calls of it -/
def dk_Fa (ad : Nat → Nat) (dA : Nat → ClassId) (D : va_G) (A : Nat → Prop) (ro : dk_H) (adV : Nat → Nat) (U : State) : Prop := dk_Fx ad dA D 77 A dk_cl ro U ∧ dk_DD ad A adV U
def dk_Pc (ad : Nat → Nat) (dA : Nat → ClassId) (D : va_G) (A : Nat → Prop) (ro : dk_H) (adV : Nat → Nat) (as : List dk_V) (h : dk_H) : Array Value → State → Prop :=
  va_Pc (as.map (dk_cv ad)) (fun U => dk_Fa ad dA D A ro adV U ∧ dk_Wd ad dA D 77 dk_cl ro h U.heap)
def dk_Qc (ad : Nat → Nat) (dA : Nat → ClassId) (D : va_G) (A : Nat → Prop) (ro : dk_H) (Q : dk_Q) : Array Value → State → Outcome → State → Prop := fun _ st oc t =>
  (∃ (r : Option dk_V) (h2 : dk_H), oc = .returned (r.map (dk_cv ad)) ∧ Q r h2 ∧ dk_Wd ad dA D 77 dk_cl ro h2 t.heap) ∧ va_F A st t
/-- the words of a method -/
def dk_wd (y : MethodName) (cc : ByteArray) (maxL : Nat) (ret : Option FieldType) : List Cond := .code y cc maxL ret :: dk_TB
def dk_Met (y : MethodName) (cc : ByteArray) (maxL : Nat) (ret : Option FieldType) (rm : Room) (Sm : dk_S) : Prop :=
  ∀ (l : Launch) (ad : Nat → Nat) (dA : Nat → ClassId) (D : va_G) (A : Nat → Prop) (ro : dk_H) (adV : Nat → Nat) (as : List dk_V) (h : dk_H) (Q : dk_Q), Sm as h Q → Met l y (dk_wd y cc maxL ret) rm (dk_Pc ad dA D A ro adV as h) (dk_Qc ad dA D A ro Q) 0 0 A
theorem dk_Fa_warm {ad : Nat → Nat} {dA : Nat → ClassId} {D : va_G} {A : Nat → Prop} {ro : dk_H} {adV : Nat → Nat} {s U : State} (hW : s.WarmedH U.vm) (hq : ∀ a : Nat, a < s.heap.size → ¬ A a → U.heap[a]? = s.heap[a]?) (h : dk_Fa ad dA D A ro adV s) : dk_Fa ad dA D A ro adV U := ⟨dk_Fx_moved hW.alike hq h.1, dk_Dy_warm hW hq h.2⟩
theorem dk_Fa_same {ad : Nat → Nat} {dA : Nat → ClassId} {D : va_G} {A : Nat → Prop} {ro : dk_H} {adV : Nat → Nat} {s U : State} (hv : U.vm = s.vm) (hh : U.heap = s.heap) (h : dk_Fa ad dA D A ro adV s) : dk_Fa ad dA D A ro adV U :=
  ⟨dk_Fx_moved (by rw [hv]; exact Vm.Alike.refl _) (fun a _ _ => by rw [hh]) h.1, dk_Dy_same hv hh h.2⟩
theorem dk_blind {ad : Nat → Nat} {dA : Nat → ClassId} {D : va_G} {A : Nat → Prop} {ro : dk_H} {adV : Nat → Nat} {as : List dk_V} {h : dk_H} : FrameBlind (dk_Pc ad dA D A ro adV as h) := fun a U g mk1 q => ⟨q.1, dk_Fa_same rfl rfl q.2.1, q.2.2⟩
section DKM
variable {p : Program} {l : Launch} {e : Env} {R : Room} {s : State} {m : MethodId} {args : Array Value} {below : List Frame} {meth : Method} {c : Code} {cells slots : Nat} {Qf : State → Prop}
variable {ad : Nat → Nat} {dA : Nat → ClassId} {D : va_G} {A : Nat → Prop} {ro : dk_H} {adV : Nat → Nat} {cc : ByteArray} {nL : Nat} {own : String}
/-- behind a call -/
theorem dk_goR {H : Heap} {locs : List Loc} {pc : Nat} {ls : Array Slot} {st0 rest : List Value} {a : Array Value} {Q : dk_Q} (hr : va_Run p l e R s m args below meth c H locs cells slots 0 0 (F0 m pc ls st0) rest (dk_Qc ad dA D A ro Q a) A) (hS : va_S A s.heap H locs)
    (kk : ∀ (r : Option dk_V) (h2 : dk_H) (H1 : Heap) (locs1 : List Loc), Q r h2 → dk_Wd ad dA D 77 dk_cl ro h2 H1 → va_S A s.heap H1 locs1 → W p l e R s m args below meth c H1 locs1 cells slots Qf (F0 m (pc + 3) ls ((r.map (dk_cv ad)).toList ++ rest))) :
    W p l e R s m args below meth c H locs cells slots Qf (F0 m pc ls st0) := by
  intro T hT X
  obtain ⟨v, st₀, t, T', L, h0, X', hL, e1, e2, ⟨⟨r, h2, hv, hq, hw⟩, hz, hk⟩, st⟩ := hr T hT X
  cases hv
  rw [h0] at hz hk
  obtain ⟨t2, a1, b1⟩ := kk r h2 T'.heap (locs ++ L) hq (by rw [e1]; exact hw)
    ⟨Nat.le_trans hS.1 (by rw [e1]; exact hz), fun q h1 h2 => by rw [e1, hk q (Nat.lt_of_lt_of_le h1 hS.1) h2]; exact hS.2.1 q h1 h2, fun q hq => by
      rcases List.mem_append.mp hq with h | h
      · exact hS.2.2 q h
      · exact hL q h⟩ T' rfl X'
  exact ⟨t2, st t2 a1, b1⟩
theorem dk_sz_cat (ad : Nat → Nat) : ∀ S : List dk_V, ((S.map (dk_cv ad)).map fun v => v.category).sum = dk_sz S
  | [] => rfl
  | .inl x :: S => by have := dk_sz_cat ad S; simp_all [dk_sz, dk_cv, Value.category]; omega
  | .inr (.inl x) :: S => by have := dk_sz_cat ad S; simp_all [dk_sz, dk_cv, Value.category]; omega
  | .inr (.inr x) :: S => by have := dk_sz_cat ad S; simp_all [dk_sz, dk_cv, Value.category]; omega
theorem dk_goodTB {y : MethodName} {bytes : ByteArray} {maxL : Nat} {ret : Option FieldType} (hc : Cond.code y bytes maxL ret ∈ dk_TB) : GoodIn dk_TB (dk_wd y bytes maxL ret) := by
  intro w hw
  have h1 : w ∈ dk_TB := by
    rcases List.mem_cons.mp hw with rfl | h
    · exact hc
    · exact h
  exact ⟨h1, good_of_word (dk_TB_good h1)⟩
/-- a method of an object -/
theorem dk_callV {y : MethodName} {bytes : ByteArray} {maxL : Nat} {ret : Option FieldType} {rm : Room} {Sm : dk_S} {i ci k nf : Nat} {F : u_T} (hM : dk_Met y bytes maxL ret rm Sm) (hrc : ∀ as h Q, Sm as h Q → dk_rc ci as h) (hci : dk_cl[ci]? = some (y.cls, F, nf))
    (hw : ∀ w ∈ [Cond.methodLink own i y, Cond.instanceMethod y, Cond.selects y.cls y y, Cond.initialized y.cls, Cond.code y bytes maxL ret], w ∈ dk_TB) (hz : rm.cells = 0 ∧ rm.slots = 0)
    (hd : y.cls ≠ "java/lang/invoke/MethodHandle" ∧ y.cls ≠ "java/lang/invoke/VarHandle" ∧ (parseMethodDescriptor y.desc).map (fun d => d.parameters.length) = some k) (hR : rm.frames + 1 ≤ R.frames ∧ 8 + (maxL + 11) + rm.locals ≤ R.locals) (hcs : cells ≤ R.cells ∧ slots ≤ R.slots)
    (hx : p.tables.exec = Jvm.exec) (hb : c.code = cc) (hml : c.maxLocals = nL) (hown : s.vm.findClass own = some m.cls) (hts : ∀ w ∈ dk_TB, w.before args s = true) (hF : dk_Fa ad dA D A ro adV s) :
    dk_Cok p l e R s m args below meth c cells slots Qf ad dA D 77 A dk_cl ro nL cc 0 i (k + 1) Sm := by
  intro pc ins L S as h hins hdg hlen hsz hSem H locs ls hW hS hl
  have hins : ins = .invokevirtual i := by
    rcases hins with ⟨-, h1⟩ | ⟨h1, -⟩
    · exact h1
    · cases h1
  subst hins
  have hr := hrc _ _ _ hSem
  have hMet := hM l ad dA D A ro adV as h _ hSem
  match as, hr, hlen, hMet with
  | .inr (.inr b) :: As, hr, hlen, hMet =>
    simp only [dk_rc] at hr
    split at hr
    · rename_i cj fs hcell
      subst hr
      have ha := dk_lt hF.1 hW (a := b) (fun t n f z => by rw [hcell] at z; cases z)
      have hG : GoodIn dk_TB (wsV own i y.cls y (dk_wd y bytes maxL ret)) := by
        intro w hw2
        have h1 : w ∈ dk_TB := by
          rcases List.mem_append.mp hw2 with h3 | h3
          · exact hw w (by simp only [List.mem_cons, List.not_mem_nil, or_false] at h3 ⊢; rcases h3 with h3 | h3 | h3 | h3 <;> simp [h3])
          · exact (dk_goodTB (hw _ (by simp)) w h3).1
        exact ⟨h1, good_of_word (dk_TB_good h1)⟩
      have hq : ∀ (U : State), U.heap = H → ∀ a : Nat, a < s.heap.size → ¬ A a → U.heap[a]? = s.heap[a]? := fun U hU a h1 h2 => by rw [hU]; exact hS.2.1 a h1 h2
      refine dk_goR (rest := S.map (dk_cv ad)) (va_runV (As := As.map (dk_cv ad)) ⟨hx, hb, hml, hown, hts⟩ hMet (cwV k hts hG rfl hz.1 hz.2 ⟨rfl, hd⟩ hR) ⟨dk_blind, va_recv hF.1.1 hW.1 hci (by rw [dk_ws_at ha, hcell]; rfl), fun U hU hWm => ⟨rfl, dk_Fa_warm hWm (hq U hU) hF, by rw [hU]; exact hW⟩⟩ rfl (by simp only [List.length_cons] at hlen; rw [List.length_map]; omega) hl.1 ?_ (lv_room (by rw [dk_sz_cat]; exact hsz)) hdg hcs) hS (fun r h2 H1 locs1 hq2 hW2 hS2 => ?_)
      · simp [dk_cv]
      · have k2 := hq2 H1 locs1 ls hW2 hS2 hl
        rw [show ((r.map (dk_cv ad)).toList ++ S.map (dk_cv ad)) = (r.toList ++ S).map (dk_cv ad) by cases r <;> simp]
        exact k2
    · exact hr.elim
/-- a static method -/
theorem dk_callS {y : MethodName} {bytes : ByteArray} {maxL : Nat} {ret : Option FieldType} {rm : Room} {Sm : dk_S} {i k : Nat} (hM : dk_Met y bytes maxL ret rm Sm)
    (hw : ∀ w ∈ [Cond.methodLink own i y, Cond.static y, Cond.initialized y.cls, Cond.code y bytes maxL ret], w ∈ dk_TB) (hz : rm.cells = 0 ∧ rm.slots = 0)
    (hd : y.cls ≠ "java/lang/invoke/MethodHandle" ∧ y.cls ≠ "java/lang/invoke/VarHandle" ∧ (parseMethodDescriptor y.desc).map (fun d => d.parameters.length) = some k) (hR : rm.frames + 1 ≤ R.frames ∧ 8 + (maxL + 11) + rm.locals ≤ R.locals) (hcs : cells ≤ R.cells ∧ slots ≤ R.slots)
    (hx : p.tables.exec = Jvm.exec) (hb : c.code = cc) (hml : c.maxLocals = nL) (hown : s.vm.findClass own = some m.cls) (hts : ∀ w ∈ dk_TB, w.before args s = true) (hF : dk_Fa ad dA D A ro adV s) :
    dk_Cok p l e R s m args below meth c cells slots Qf ad dA D 77 A dk_cl ro nL cc 1 i k Sm := by
  intro pc ins L S as h hins hdg hlen hsz hSem H locs ls hW hS hl
  have hins : ins = .invokestatic i := by
    rcases hins with ⟨h1, -⟩ | ⟨-, h1⟩
    · cases h1
    · exact h1
  subst hins
  have hMet := hM l ad dA D A ro adV as h _ hSem
  have hG : GoodIn dk_TB (va_wsS own i y (dk_wd y bytes maxL ret)) := by
    intro w hw2
    have h1 : w ∈ dk_TB := by
      rcases List.mem_append.mp hw2 with h3 | h3
      · exact hw w (by simp only [List.mem_cons, List.not_mem_nil, or_false] at h3 ⊢; rcases h3 with h3 | h3 | h3 <;> simp [h3])
      · exact (dk_goodTB (hw _ (by simp)) w h3).1
    exact ⟨h1, good_of_word (dk_TB_good h1)⟩
  have hq : ∀ (U : State), U.heap = H → ∀ a : Nat, a < s.heap.size → ¬ A a → U.heap[a]? = s.heap[a]? := fun U hU a h1 h2 => by rw [hU]; exact hS.2.1 a h1 h2
  refine dk_goR (rest := S.map (dk_cv ad)) (va_runS (As := as.map (dk_cv ad)) ⟨hx, hb, hml, hown, hts⟩ hMet (va_cwS k hts hG rfl hz.1 hz.2 hd hR) ⟨dk_blind, fun U hU hWm => ⟨rfl, dk_Fa_warm hWm (hq U hU) hF, by rw [hU]; exact hW⟩⟩ rfl (by rw [List.length_map]; exact hlen) hl.1 ?_ (lv_room (by rw [dk_sz_cat]; exact hsz)) hdg hcs) hS (fun r h2 H1 locs1 hq2 hW2 hS2 => ?_)
  · simp
  · have k2 := hq2 H1 locs1 ls hW2 hS2 hl
    rw [show ((r.map (dk_cv ad)).toList ++ S.map (dk_cv ad)) = (r.toList ++ S).map (dk_cv ad) by cases r <;> simp]
    exact k2
/-- a static method of a nest mate -/
theorem dk_callN {y : MethodName} {bytes : ByteArray} {maxL : Nat} {ret : Option FieldType} {rm : Room} {Sm : dk_S} {i k : Nat} {host : String} (hM : dk_Met y bytes maxL ret rm Sm)
    (hn : (own, i, y, host) ∈ dk_nM) (hw : ∀ w ∈ [Cond.static y, Cond.initialized y.cls, Cond.code y bytes maxL ret], w ∈ dk_TB) (hz : rm.cells = 0 ∧ rm.slots = 0)
    (hd : y.cls ≠ "java/lang/invoke/MethodHandle" ∧ y.cls ≠ "java/lang/invoke/VarHandle" ∧ (parseMethodDescriptor y.desc).map (fun d => d.parameters.length) = some k) (hR : rm.frames + 1 ≤ R.frames ∧ 8 + (maxL + 11) + rm.locals ≤ R.locals) (hcs : cells ≤ R.cells ∧ slots ≤ R.slots)
    (hx : p.tables.exec = Jvm.exec) (hb : c.code = cc) (hml : c.maxLocals = nL) (hown : s.vm.findClass own = some m.cls) (hts : ∀ w ∈ dk_TB, w.before args s = true) (hF : dk_Fa ad dA D A ro adV s) :
    dk_Cok p l e R s m args below meth c cells slots Qf ad dA D 77 A dk_cl ro nL cc 1 i k Sm := by
  intro pc ins L S as h hins hdg hlen hsz hSem H locs ls hW hS hl
  have hins : ins = .invokestatic i := by
    rcases hins with ⟨h1, -⟩ | ⟨-, h1⟩
    · cases h1
    · exact h1
  subst hins
  have hMet := hM l ad dA D A ro adV as h _ hSem
  have hq : ∀ (U : State), U.heap = H → ∀ a : Nat, a < s.heap.size → ¬ A a → U.heap[a]? = s.heap[a]? := fun U hU a h1 h2 => by rw [hU]; exact hS.2.1 a h1 h2
  refine dk_goR (rest := S.map (dk_cv ad)) (va_runSN (As := as.map (dk_cv ad)) ⟨hx, hb, hml, hown, hts⟩ hMet ⟨va_cnB k hts (dk_goodTB (hw _ (by simp))) rfl hz.1 hz.2 (hF.2.2.2.2.1 _ hn) (hts _ (hw _ (by simp))) hd hR, hts _ (hw _ (by simp)), trivial⟩ ⟨dk_blind, fun U hU hWm => ⟨rfl, dk_Fa_warm hWm (hq U hU) hF, by rw [hU]; exact hW⟩⟩ rfl (by rw [List.length_map]; exact hlen) hl.1 ?_ (lv_room (by rw [dk_sz_cat]; exact hsz)) hdg hcs) hS (fun r h2 H1 locs1 hq2 hW2 hS2 => ?_)
  · simp
  · have k2 := hq2 H1 locs1 ls hW2 hS2 hl
    rw [show ((r.map (dk_cv ad)).toList ++ S.map (dk_cv ad)) = (r.toList ++ S).map (dk_cv ad) by cases r <;> simp]
    exact k2
end DKM
theorem dk_k_ret {T : dk_Tm} {pc : Nat} {ins r : Instr} (hr : r = .ireturn ∨ r = .lreturn ∨ r = .areturn ∨ r = .return_) (hk : dk_k T pc ins = some (.inl r)) : (ins = .ireturn ∧ dk_rt T.2.2.2 = some r) ∨ (ins = .areturn ∧ r = .areturn ∧ T.2.2.2 = 3) ∨ (ins = .return_ ∧ r = .return_ ∧ T.2.2.2 = 2) := by
  cases ins
  case ireturn =>
    obtain ⟨q, hq, hk⟩ := dk_bd_inv hk
    cases hk
    exact Or.inl ⟨rfl, hq⟩
  case areturn =>
    simp only [dk_k] at hk
    split at hk
    · cases hk; exact Or.inr (Or.inl ⟨rfl, rfl, by assumption⟩)
    · cases hk
  case return_ =>
    simp only [dk_k] at hk
    split at hk
    · cases hk; exact Or.inr (Or.inr ⟨rfl, rfl, by assumption⟩)
    · cases hk
  case bipush => simp only [dk_k] at hk; split at hk <;> rcases hr with rfl | rfl | rfl | rfl <;> cases hk
  case sipush => simp only [dk_k] at hk; split at hk <;> rcases hr with rfl | rfl | rfl | rfl <;> cases hk
  case ldc =>
    simp only [dk_k] at hk
    split at hk
    · rcases hr with rfl | rfl | rfl | rfl <;> cases hk
    · obtain ⟨q, hq, hk⟩ := dk_bd_inv hk
      cases hk
  case tableswitch =>
    simp only [dk_k] at hk
    split at hk
    · obtain ⟨q, hq, hk⟩ := dk_bd_inv hk
      obtain ⟨q2, hq2, hk⟩ := dk_bd_inv hk
      rcases hr with rfl | rfl | rfl | rfl <;> cases hk
    · cases hk
  case ldc_w => obtain ⟨q, hq, hk⟩ := dk_bd_inv hk; rcases hr with rfl | rfl | rfl | rfl <;> cases hk
  case ldc2_w => obtain ⟨q, hq, hk⟩ := dk_bd_inv hk; rcases hr with rfl | rfl | rfl | rfl <;> cases hk
  case ifCond => obtain ⟨q, hq, hk⟩ := dk_bd_inv hk; rcases hr with rfl | rfl | rfl | rfl <;> cases hk
  case if_icmp => obtain ⟨q, hq, hk⟩ := dk_bd_inv hk; rcases hr with rfl | rfl | rfl | rfl <;> cases hk
  case getfield => obtain ⟨q, hq, hk⟩ := dk_bd_inv hk; cases hk
  case getstatic => obtain ⟨q, hq, hk⟩ := dk_bd_inv hk; cases hk
  case goto => obtain ⟨q, hq, hk⟩ := dk_bd_inv hk; cases hk
  case putfield => obtain ⟨q, hq, hk⟩ := dk_bd_inv hk; split at hk <;> cases hk
  case invokevirtual => obtain ⟨q, hq, hk⟩ := dk_bd_inv hk; split at hk <;> cases hk
  case invokestatic => obtain ⟨q, hq, hk⟩ := dk_bd_inv hk; split at hk <;> cases hk
  all_goals (first | (cases hk; done) | (rcases hr with rfl | rfl | rfl | rfl <;> cases hk; done))
/-- what a method's answer is, by its sort -/
def dk_rk (n : Nat) (ret : Option FieldType) : Prop := (n = 0 → ret = some .int) ∧ (n = 1 → ret = some .boolean) ∧ (n = 2 → ret = none) ∧ (n = 3 → ∃ o, ret = some (.object o))
/-- a call, in every state of a walk of the caller -/
def dk_Call (own : String) (R : Room) (cc : ByteArray) (nL kd i n : Nat) (Sm : dk_S) : Prop :=
  ∀ {p : Program} {l : Launch} {e : Env} {s : State} {m : MethodId} {args : Array Value} {below : List Frame} {meth : Method} {c : Code} {Qf : State → Prop} {ad : Nat → Nat} {dA : Nat → ClassId} {D : va_G} {A : Nat → Prop} {ro : dk_H} {adV : Nat → Nat},
    p.tables.exec = Jvm.exec → c.code = cc → c.maxLocals = nL → s.vm.findClass own = some m.cls → (∀ w ∈ dk_TB, w.before args s = true) → dk_Fa ad dA D A ro adV s → dk_Cok p l e R s m args below meth c 0 0 Qf ad dA D 77 A dk_cl ro nL cc kd i n Sm
set_option maxHeartbeats 4000000 in
/-- THE CONTRACT of a method, out of its blocks -/
theorem dk_met {y : MethodName} {cc : ByteArray} {maxL : Nat} {ret : Option FieldType} {rm : Room} {T : dk_Tm} {tb : dk_T} {G : List (Nat × dk_S)} (hy : plainFor y = true) (hrk : dk_rk T.2.2.2 ret)
    (hT : ∀ (ad : Nat → Nat) (A : Nat → Prop) (adV : Nat → Nat) (args : Array Value) (s : State), (∀ w ∈ dk_TB, w.before args s = true) → dk_DD ad A adV s → dk_Tok ad A dk_cl y.cls dk_TB args s T.1)
    (hG : dk_monoG G) (hck : dk_ckT T cc maxL T.2.2.1 tb = true) (h0 : dk_nth T.2.2.1 0 = some 0)
    (hC : ∀ i kd j, dk_lk T.2.1 i = some (kd, j) → ∃ n Sm, dk_nth G j = some (n, Sm) ∧ dk_Call y.cls rm cc maxL kd i n Sm) : dk_Met y cc maxL ret rm (dk_M G tb maxL) := by
  intro l ad dA D A ro adV as h Q hSem
  refine va_MetF (cc := cc) (maxL := maxL) (ret := ret) hy rfl ?_
  intro p e s m args below meth c s₁ B hml hv
  obtain ⟨rfl, hF, hW⟩ := hv
  have hx := B.exec
  have hb := B.bytes
  have hr := B.returns
  have hts0 := atoms_spec (ws := dk_wd y cc maxL ret) B.pre
  have hts : ∀ w ∈ dk_TB, w.before (as.map (dk_cv ad)).toArray s = true := fun w hw => hts0 w (List.mem_cons_of_mem _ hw)
  have hown : s.vm.findClass y.cls = some m.cls := findClass_of_methodNamed B.named
  have hlocks := B.notSynchronized
  have hl := dk_entry ad as hSem.1
  rw [lg_entry_eq]
  have hS : va_S A s.heap s.heap [] := va_S.rf
  have key := dk_sound (l := l) (e := e) (R := (headSpec (dk_wd y cc maxL ret) rm).room) (below := below) (meth := meth) (cells := 0) (slots := 0) (Q := MQ below (dk_Qc ad dA D A ro Q) (as.map (dk_cv ad)).toArray s 0 0 A) hx hb hown hts hF.1 (hT ad A adV _ s hts hF.2) hG
    (fun i kd j hj => by
      obtain ⟨n, Sm, e1, hc⟩ := hC i kd j hj
      exact ⟨n, Sm, e1, hc hx hb hml hown hts hF⟩)
    (Rq := Q) (fun pc ins n is J L S h hdg hk hn hr2 => ?_) hck hSem.2 h0
  · exact key s.heap [] _ hW hS hl
  · intro H locs ls hW2 hS2 hl2
    have fin : ∀ (r : Option dk_V), Q r h → ∀ t : State, t.heap = H → s.WarmedH t.vm → dk_Qc ad dA D A ro Q (as.map (dk_cv ad)).toArray s (.returned (r.map (dk_cv ad))) t := fun r hq t ht _ => ⟨⟨r, h, rfl, hq, by rw [ht]; exact hW2⟩, hS2.F ht⟩
    rcases hn with rfl | rfl | rfl | rfl
    · rcases dk_k_ret (Or.inl rfl) hk with ⟨rfl, h1⟩ | ⟨-, h1, -⟩ | ⟨-, h1, -⟩
      · have hn : T.2.2.2 = 0 := by
          rcases dk_rt_inv h1 with ⟨h2, -⟩ | ⟨-, h2⟩
          · exact h2
          · cases h2
        have hr := hr.trans (hrk.1 hn)
        simp only [dk_r] at hr2
        split at hr2
        · rename_i x
          exact W.iret hx hb hr (fin (some (dk_I x)) hr2) hS2.2.2 hdg
        · exact hr2.elim
      · cases h1
      · cases h1
    · rcases dk_k_ret (Or.inr (Or.inl rfl)) hk with ⟨rfl, h1⟩ | ⟨-, h1, -⟩ | ⟨-, h1, -⟩
      · have hn : T.2.2.2 = 1 := by
          rcases dk_rt_inv h1 with ⟨-, h2⟩ | ⟨h2, -⟩
          · cases h2
          · exact h2
        have hr := hr.trans (hrk.2.1 hn)
        simp only [dk_r] at hr2
        split at hr2
        · rename_i x
          exact W.zret hx hb hr (by rcases hr2.1 with rfl | rfl <;> decide +kernel) (fin (some (dk_I x)) hr2.2) hS2.2.2 hdg
        · exact hr2.elim
      · cases h1
      · cases h1
    · rcases dk_k_ret (Or.inr (Or.inr (Or.inl rfl))) hk with ⟨-, h1⟩ | ⟨rfl, -, hn⟩ | ⟨-, h1, -⟩
      · rcases dk_rt_inv h1 with ⟨-, h2⟩ | ⟨-, h2⟩ <;> cases h2
      · obtain ⟨o, ho⟩ := hrk.2.2.2 hn
        have hr := hr.trans ho
        simp only [dk_r] at hr2
        split at hr2
        · rename_i x
          exact W.aret hx hb hr (Or.inl ⟨o, rfl⟩) (Or.inr ⟨_, rfl⟩) (fin (some (dk_R x)) hr2) hS2.2.2 hdg
        · exact hr2.elim
      · cases h1
    · rcases dk_k_ret (Or.inr (Or.inr (Or.inr rfl))) hk with ⟨-, h1⟩ | ⟨-, h1, -⟩ | ⟨rfl, -, hn⟩
      · rcases dk_rt_inv h1 with ⟨-, h2⟩ | ⟨-, h2⟩ <;> cases h2
      · cases h1
      · have hr := hr.trans (hrk.2.2.1 hn)
        simp only [dk_r] at hr2
        split at hr2
        · exact W.vret hx hb hr (fin none hr2) hS2.2.2 hdg
        · exact hr2.elim
theorem dk_metV {y : MethodName} {cc : ByteArray} {maxL : Nat} {ret : Option FieldType} {rm : Room} {tb : dk_T} {G : List (Nat × dk_S)} (ci : Nat) (h : dk_Met y cc maxL ret rm (dk_M G tb maxL)) : dk_Met y cc maxL ret rm (dk_MV ci G tb maxL) := fun l ad dA D A ro adV as hh Q q => h l ad dA D A ro adV as hh Q q.2
theorem dk_rcV {ci : Nat} {G : List (Nat × dk_S)} {tb : dk_T} {n : Nat} : ∀ as h Q, dk_MV ci G tb n as h Q → dk_rc ci as h := fun _ _ _ q => q.1
