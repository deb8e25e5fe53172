/-! ONE INSTRUCTION OF THE PURE MACHINE IS ONE OF THE REAL ONE -/
theorem dk_pi_inv {α : Type} {S : List dk_V} {K : Int → List dk_V → Option α} {r : α} (h : dk_pi S K = some r) : ∃ x S2, S = dk_I x :: S2 ∧ K x S2 = some r := by
  match S, h with
  | .inl x :: S, h => exact ⟨x, S, rfl, h⟩
theorem dk_pl_inv {α : Type} {S : List dk_V} {K : Int → List dk_V → Option α} {r : α} (h : dk_pl S K = some r) : ∃ x S2, S = dk_J x :: S2 ∧ K x S2 = some r := by
  match S, h with
  | .inr (.inl x) :: S, h => exact ⟨x, S, rfl, h⟩
theorem dk_pr_inv {α : Type} {S : List dk_V} {K : Nat → List dk_V → Option α} {r : α} (h : dk_pr S K = some r) : ∃ x S2, S = dk_R x :: S2 ∧ K x S2 = some r := by
  match S, h with
  | .inr (.inr x) :: S, h => exact ⟨x, S, rfl, h⟩
theorem dk_bd_inv {α β : Type} {o : Option α} {K : α → Option β} {r : β} (h : dk_bd o K = some r) : ∃ a, o = some a ∧ K a = some r := by
  match o, h with
  | some a, h => exact ⟨a, rfl, h⟩
theorem dk_oi_inv {o : Option dk_V} {e : Int} (h : dk_oi o = some e) : o = some (dk_I e) := by
  match o, h with
  | some (.inl x), h => cases h; rfl
theorem dk_ol_inv {o : Option dk_V} {e : Int} (h : dk_ol o = some e) : o = some (dk_J e) := by
  match o, h with
  | some (.inr (.inl x)), h => cases h; rfl
theorem dk_or2_inv {o : Option dk_V} {e : Nat} (h : dk_or2 o = some e) : o = some (dk_R e) := by
  match o, h with
  | some (.inr (.inr x)), h => cases h; rfl
def dk_lk {α : Type} : List (Nat × α) → Nat → Option α
  | [], _ => none
  | (k, a) :: l, n => if k = n then some a else dk_lk l n
def dk_ix : List Nat → Nat → Nat → Option Nat
  | [], _, _ => none
  | k :: l, n, i => if k = n then some i else dk_ix l n (i + 1)
/-- a class' tables: fields, fields to write, ints, longs, static rows, texts -/
abbrev dk_Tc : Type := List (Nat × Nat × Nat) × List (Nat × Nat × Nat × Nat) × List (Nat × Int) × List (Nat × Int) × List (Nat × Nat) × List (Nat × Nat)
/-- a method's: its class', its calls (entry, sort, place), where its blocks begin, what it answers (0 int, 1 boolean, 2 nothing, 3 a reference) -/
abbrev dk_Tm : Type := dk_Tc × List (Nat × Nat × Nat) × List Nat × Nat
def dk_rt : Nat → Option Instr
  | 0 => some .ireturn
  | 1 => some .lreturn
  | _ => none
def dk_tg (T : dk_Tm) (pc : Nat) (off : Int) : Option Nat := if 0 ≤ (pc : Int) + off then dk_ix T.2.2.1 ((pc : Int) + off).toNat 0 else none
def dk_tgs (T : dk_Tm) (pc : Nat) : List Int → Option (List Int)
  | [] => some []
  | o :: os => dk_bd (dk_tg T pc o) fun b => dk_bd (dk_tgs T pc os) fun bs => some ((b : Int) :: bs)
/-- a real instruction, resolved -/
def dk_k (T : dk_Tm) (pc : Nat) : Instr → Option dk_N
  | .iconst n => some (.inl (.iconst n))
  | .bipush n => if -128 ≤ n ∧ n ≤ 127 then some (.inl (.iconst n)) else none
  | .sipush n => if -32768 ≤ n ∧ n ≤ 32767 then some (.inl (.iconst n)) else none
  | .ldc i => match dk_lk T.1.2.2.1 i with
    | some v => some (.inl (.iconst v))
    | none => dk_bd (dk_lk T.1.2.2.2.2.2 i) fun k => some (.inr (6, k, 1))
  | .ldc_w i => dk_bd (dk_lk T.1.2.2.1 i) fun v => some (.inl (.iconst v))
  | .ldc2_w i => dk_bd (dk_lk T.1.2.2.2.1 i) fun v => some (.inl (.goto_w v))
  | .lconst n => some (.inl (.goto_w n))
  | .iload i => some (.inl (.iload i))
  | .iload_n k => some (.inl (.iload k.val))
  | .lload i => some (.inl (.lload i))
  | .lload_n k => some (.inl (.lload k.val))
  | .aload i => some (.inl (.aload i))
  | .aload_n k => some (.inl (.aload k.val))
  | .istore i => some (.inl (.istore i))
  | .istore_n k => some (.inl (.istore k.val))
  | .lstore i => some (.inl (.lstore i))
  | .lstore_n k => some (.inl (.lstore k.val))
  | .astore i => some (.inl (.astore i))
  | .astore_n k => some (.inl (.astore k.val))
  | .iinc i c => some (.inl (.iinc i c))
  | .iadd => some (.inl .iadd)
  | .isub => some (.inl .isub)
  | .imul => some (.inl .imul)
  | .idiv => some (.inl .idiv)
  | .irem => some (.inl .irem)
  | .ineg => some (.inl .ineg)
  | .iand => some (.inl .iand)
  | .ior => some (.inl .ior)
  | .ixor => some (.inl .ixor)
  | .ishl => some (.inl .ishl)
  | .ishr => some (.inl .ishr)
  | .iushr => some (.inl .iushr)
  | .i2l => some (.inl .i2l)
  | .l2i => some (.inl .l2i)
  | .i2b => some (.inl .i2b)
  | .i2s => some (.inl .i2s)
  | .ladd => some (.inl .ladd)
  | .lsub => some (.inl .lsub)
  | .lmul => some (.inl .lmul)
  | .lrem => some (.inl .lrem)
  | .lcmp => some (.inl .lcmp)
  | .dup => some (.inl .dup)
  | .dup2 => some (.inl .dup2)
  | .pop => some (.inl .pop)
  | .iaload => some (.inl .iaload)
  | .baload => some (.inl .baload)
  | .aaload => some (.inl .aaload)
  | .iastore => some (.inl .iastore)
  | .bastore => some (.inl .bastore)
  | .arraylength => some (.inl .arraylength)
  | .getfield i => dk_bd (dk_lk T.1.1 i) fun q => some (.inr (0, q.1, q.2))
  | .putfield i => dk_bd (dk_lk T.1.2.1 i) fun q => if q.1 = 1 ∨ q.1 = 2 ∨ q.1 = 3 ∨ q.1 = 4 then some (.inr (q.1, q.2.1, q.2.2)) else none
  | .getstatic i => dk_bd (dk_lk T.1.2.2.2.2.1 i) fun k => some (.inr (6, k, 0))
  | .invokevirtual i => dk_bd (dk_lk T.2.1 i) fun q => if q.1 = 0 then some (.inr (5, q.2, 0)) else none
  | .invokestatic i => dk_bd (dk_lk T.2.1 i) fun q => if q.1 = 1 then some (.inr (5, q.2, 1)) else none
  | .goto off => dk_bd (dk_tg T pc off) fun b => some (.inr (7, b, 0))
  | .ifCond c off => dk_bd (dk_tg T pc off) fun b => some (.inl (.ifCond c b))
  | .if_icmp c off => dk_bd (dk_tg T pc off) fun b => some (.inl (.if_icmp c b))
  | .tableswitch d lo hi offs => if (offs.size : Int) = hi - lo + 1 then dk_bd (dk_tg T pc d) fun b => dk_bd (dk_tgs T pc offs.toList) fun bs => some (.inl (.tableswitch b lo hi bs.toArray)) else none
  | .ireturn => dk_bd (dk_rt T.2.2.2) fun r => some (.inl r)
  | .areturn => if T.2.2.2 = 3 then some (.inl .areturn) else none
  | .return_ => if T.2.2.2 = 2 then some (.inl .return_) else none
  | _ => none
theorem dk_rt_inv {n : Nat} {i : Instr} (h : dk_rt n = some i) : (n = 0 ∧ i = .ireturn) ∨ (n = 1 ∧ i = .lreturn) := by
  unfold dk_rt at h
  split at h
  · cases h; exact Or.inl ⟨rfl, rfl⟩
  · cases h; exact Or.inr ⟨rfl, rfl⟩
  · cases h
def dk_ty (dA : Nat → ClassId) : List (ClassId × FieldType) := [(dA 0, .int), (dA 1, .boolean), (dA 2, .object "LongColumn$Sheet")]
/-- what stays: the tables' knowledge of our sorts, the cells apart, the rows that nobody writes -/
def dk_Fx (ad : Nat → Nat) (dA : Nat → ClassId) (D : va_G) (N : Nat) (A : Nat → Prop) (cl : List vw_C) (ro : dk_H) (s : State) : Prop :=
  va_K D cl (dk_ty dA) s ∧ ((∀ i j, i < N → j < N → ad i = ad j → i = j) ∧ ∀ k, k < N → A (ad k)) ∧ ∀ k, N ≤ k → (∃ n f, ro k = .inl (4, n, f) ∧ va_T .int (ad k) n (fun j => .int (Int32.ofInt (f j))) A s s.heap) ∨ ∃ n f, ro k = .inl (5, n, f)
def dk_Wd (ad : Nat → Nat) (dA : Nat → ClassId) (D : va_G) (N : Nat) (cl : List vw_C) (ro : dk_H) (h : dk_H) (H : Heap) : Prop := va_P D cl (dk_ws ad dA N h) H ∧ (∀ k, N ≤ k → h k = ro k) ∧ ∀ k, k < N → ∀ t n f, h k = .inl (t, n, f) → t ≤ 2
theorem dk_D {ad : Nat → Nat} {dA : Nat → ClassId} {D : va_G} {N : Nat} {A : Nat → Prop} {cl : List vw_C} {ro : dk_H} {s : State} (hF : dk_Fx ad dA D N A cl ro s) (h : dk_H) : va_D A (dk_ws ad dA N h) := by
  obtain ⟨-, ⟨h1, h2⟩, -⟩ := hF
  refine ⟨fun i j a b ha hb e => ?_, fun k q hq => ?_⟩
  · obtain ⟨i1, rfl⟩ := dk_ws_of ha
    obtain ⟨j1, rfl⟩ := dk_ws_of hb
    exact h1 i j i1 j1 e
  · obtain ⟨k1, rfl⟩ := dk_ws_of hq
    exact h2 k k1
/-- what a class' tables say is so at the state -/
def dk_Tok (ad : Nat → Nat) (A : Nat → Prop) (cl : List vw_C) (own : String) (Ts : List Cond) (args : Array Value) (s : State) (T : dk_Tc) : Prop :=
  (∀ i ci k, dk_lk T.1 i = some (ci, k) → ∃ (C : String) (F : u_T) (n : Nat), cl[ci]? = some (C, F, n) ∧ k < n ∧ (∀ w ∈ u_ws C F n, w ∈ Ts) ∧ ((Cond.fieldLink own i (F k).1 (F k).2.1 (F k).2.2.1).before args s = true ∨ ∃ host, (Cond.fieldLinkNest own i (F k).1 (F k).2.1 (F k).2.2.1 host).before args s = true)) ∧
  (∀ i kd ci k, dk_lk T.2.1 i = some (kd, ci, k) → ∃ (C : String) (F : u_T) (n : Nat) (ty0 : Nat → FieldType) (ty : FieldType), cl[ci]? = some (C, F, n) ∧ k < n ∧ (∀ w ∈ u_ws C F n, w ∈ Ts) ∧ (Cond.fieldLink own i (F k).1 (F k).2.1 (F k).2.2.1).before args s = true ∧ (∀ k, k < n → parseFieldDescriptor (F k).2.2.1 = some (ty0 k)) ∧ (∀ a, a < n → ∀ b, b < n → a ≠ b → (F a).2.1 ≠ (F b).2.1) ∧ (F k).2.2.2 = false ∧ parseFieldDescriptor (F k).2.2.1 = some ty ∧
    (kd = 1 → ty = .int) ∧ (kd = 2 → ty = .boolean) ∧ (kd = 3 → ty = .array .int) ∧ (kd = 4 → ty = .long)) ∧
  (∀ i v, dk_lk T.2.2.1 i = some v → (Cond.constant own i (Int32.ofInt v)).before args s = true) ∧
  (∀ i v, dk_lk T.2.2.2.1 i = some v → (Cond.constantLong own i (Int64.ofInt v)).before args s = true) ∧
  (∀ i k, dk_lk T.2.2.2.2.1 i = some k → ∃ C n d, va_Z C n d (.ref (ad k)) A s s.heap ∧ (Cond.fieldLink own i C n d).before args s = true) ∧
  (∀ i k, dk_lk T.2.2.2.2.2 i = some k → ∃ tx, vk_R own i tx (ad k) s)
/-- how many bytes an instruction has -/
def dk_ln : Instr → Nat
  | .bipush _ | .ldc _ | .iload _ | .lload _ | .aload _ | .istore _ | .lstore _ | .astore _ => 2
  | .sipush _ | .ldc_w _ | .ldc2_w _ | .iinc _ _ | .getfield _ | .putfield _ | .getstatic _ | .invokevirtual _ | .invokestatic _ | .goto _ | .ifCond _ _ | .if_icmp _ _ => 3
  | _ => 1
theorem dk_ar_inv {c : dk_C} {t : Nat} {q : Nat × (Int → Int)} (h : dk_ar c t = some q) : c = .inl (t, q.1, q.2) := by
  unfold dk_ar at h
  split at h
  · split at h
    · cases h; simp_all
    · cases h
  · cases h
theorem dk_rd_inv {c : dk_C} {q : Nat × (Int → Int)} (h : dk_rd c = some q) : c = .inl (0, q.1, q.2) ∨ c = .inl (4, q.1, q.2) := by
  unfold dk_rd at h
  split at h
  · cases h; exact Or.inl rfl
  · cases h; exact Or.inr rfl
  · cases h
theorem dk_gf_inv {c : dk_C} {ci k : Nat} {v : dk_V} (h : dk_gf c ci k = some v) : ∃ fs, c = .inr (ci, fs) ∧ dk_nth fs k = some v := by
  unfold dk_gf at h
  split at h
  · split at h
    · rename_i e; subst e; exact ⟨_, rfl, h⟩
    · cases h
  · cases h
theorem dk_pf_inv {c c2 : dk_C} {ci k : Nat} {v : dk_V} (h : dk_pf c ci k v = some c2) : ∃ fs, c = .inr (ci, fs) ∧ k < fs.length ∧ c2 = .inr (ci, dk_set fs k v) := by
  unfold dk_pf at h
  split at h
  · split at h
    · rename_i e; obtain ⟨e1, e2⟩ := e; subst e1; cases h; exact ⟨_, rfl, e2, rfl⟩
    · cases h
  · cases h
section DKS
variable {p : Program} {l : Launch} {e : Env} {R : Room} {s : State} {m : MethodId} {args : Array Value} {below : List Frame} {meth : Method} {c : Code} {cells slots : Nat} {Q : State → Prop}
variable {ad : Nat → Nat} {dA : Nat → ClassId} {D : va_G} {N : Nat} {A : Nat → Prop} {cl : List vw_C} {ro : dk_H} {cc : ByteArray} {nL : Nat} {own : String} {Ts : List Cond} {T : dk_Tm}
theorem dk_lt {h : dk_H} {H : Heap} (hF : dk_Fx ad dA D N A cl ro s) (hW : dk_Wd ad dA D N cl ro h H) {a : Nat} (hn : ∀ t n f, h a = .inl (t, n, f) → ¬ t = 4 ∧ ¬ t = 5) : a < N := by
  apply Classical.byContradiction
  intro z
  have z : N ≤ a := by omega
  have e := hW.2.1 a z
  rcases hF.2.2 a z with ⟨n, f, e2, -⟩ | ⟨n, f, e2⟩
  · exact (hn 4 n f (e.trans e2)).1 rfl
  · exact (hn 5 n f (e.trans e2)).2 rfl
theorem dk_no4 {h : dk_H} {H : Heap} (hF : dk_Fx ad dA D N A cl ro s) (hW : dk_Wd ad dA D N cl ro h H) {a : Nat} (ha : a < N) {n : Nat} {f : Int → Int} (hq : h a = .inl (4, n, f)) : False := by
  have := hW.2.2 a ha 4 n f hq
  omega
theorem dk_Wd_up {h : dk_H} {H H2 : Heap} (hW : dk_Wd ad dA D N cl ro h H) {a : Nat} (ha : a < N) {c : dk_C} (hc : ∀ t n f, c = .inl (t, n, f) → t ≤ 2) (hP : va_P D cl (dk_ws ad dA N (dk_up h a c)) H2) : dk_Wd ad dA D N cl ro (dk_up h a c) H2 := by
  refine ⟨hP, fun k hk => ?_, fun k hk t n f z => ?_⟩
  · have : ¬ k = a := by omega
    simp only [dk_up, if_neg this]
    exact hW.2.1 k hk
  · by_cases ek : k = a
    · subst ek
      simp only [dk_up, if_true] at z
      exact hc t n f z
    · simp only [dk_up, if_neg ek] at z
      exact hW.2.2 k hk t n f z
set_option maxHeartbeats 4000000 in
theorem dk_s1 (hx : p.tables.exec = Jvm.exec) (hb : c.code = cc) (hown : s.vm.findClass own = some m.cls) (hts : ∀ w ∈ Ts, w.before args s = true)
    (hF : dk_Fx ad dA D N A cl ro s) (hT : dk_Tok ad A cl own Ts args s T.1) {pc len : Nat} {ins : Instr} {n : dk_N} (hdg : decode cc pc = .ok (ins, len)) (hlen : len = dk_ln ins) (hk : dk_k T pc ins = some n)
    {L L2 : dk_L} {S S2 : List dk_V} {h h2 : dk_H} {vc : Prop} (h1 : dk_1 n L S h = some (vc, L2, S2, h2)) (hvc : vc)
    {H : Heap} {locs : List Loc} {ls : Array Slot} (hW : dk_Wd ad dA D N cl ro h H) (hS : va_S A s.heap H locs) (hl : dk_ls ad ls nL L)
    (kk : ∀ (H2 : Heap) (locs2 : List Loc) (ls2 : Array Slot), dk_Wd ad dA D N cl ro h2 H2 → va_S A s.heap H2 locs2 → dk_ls ad ls2 nL L2 → W p l e R s m args below meth c H2 locs2 cells slots Q (F0 m (pc + len) ls2 (S2.map (dk_cv ad)))) :
    W p l e R s m args below meth c H locs cells slots Q (F0 m pc ls (S.map (dk_cv ad))) := by
  have hP := hW.1
  have hK := hF.1
  have hD := dk_D hF h
  subst hlen
  cases ins
  case iadd =>
    cases hk
    obtain ⟨y, S, rfl, h1⟩ := dk_pi_inv h1
    obtain ⟨x, S, rfl, h1⟩ := dk_pi_inv h1
    cases h1
    have k2 := kk H locs ls hW hS hl
    refine lv_iadd (x := Int32.ofInt x) (y := Int32.ofInt y) hx hb hdg ?_
    rw [← Int32.ofInt_add]
    exact k2
  case isub =>
    cases hk
    obtain ⟨y, S, rfl, h1⟩ := dk_pi_inv h1
    obtain ⟨x, S, rfl, h1⟩ := dk_pi_inv h1
    cases h1
    have k2 := kk H locs ls hW hS hl
    refine lv_isub (x := Int32.ofInt x) (y := Int32.ofInt y) hx hb hdg ?_
    rw [← Int32.ofInt_sub]
    exact k2
  case imul =>
    cases hk
    obtain ⟨y, S, rfl, h1⟩ := dk_pi_inv h1
    obtain ⟨x, S, rfl, h1⟩ := dk_pi_inv h1
    cases h1
    have k2 := kk H locs ls hW hS hl
    refine lv_imul (x := Int32.ofInt x) (y := Int32.ofInt y) hx hb hdg ?_
    rw [← Int32.ofInt_mul]
    exact k2
  case iand =>
    cases hk
    obtain ⟨y, S, rfl, h1⟩ := dk_pi_inv h1
    obtain ⟨x, S, rfl, h1⟩ := dk_pi_inv h1
    cases h1
    have k2 := kk H locs ls hW hS hl
    refine lv_iand (x := Int32.ofInt x) (y := Int32.ofInt y) hx hb hdg ?_
    rw [← dk_andE]
    exact k2
  case ior =>
    cases hk
    obtain ⟨y, S, rfl, h1⟩ := dk_pi_inv h1
    obtain ⟨x, S, rfl, h1⟩ := dk_pi_inv h1
    cases h1
    have k2 := kk H locs ls hW hS hl
    refine lv_ior (x := Int32.ofInt x) (y := Int32.ofInt y) hx hb hdg ?_
    rw [← dk_orE]
    exact k2
  case ixor =>
    cases hk
    obtain ⟨y, S, rfl, h1⟩ := dk_pi_inv h1
    obtain ⟨x, S, rfl, h1⟩ := dk_pi_inv h1
    cases h1
    have k2 := kk H locs ls hW hS hl
    refine lv_ixor (x := Int32.ofInt x) (y := Int32.ofInt y) hx hb hdg ?_
    rw [← dk_xorE]
    exact k2
  case idiv =>
    cases hk
    obtain ⟨y, S, rfl, h1⟩ := dk_pi_inv h1
    obtain ⟨x, S, rfl, h1⟩ := dk_pi_inv h1
    cases h1
    obtain ⟨v1, v2, v3⟩ := hvc
    have k2 := kk H locs ls hW hS hl
    refine lv_idiv (x := Int32.ofInt x) (y := Int32.ofInt y) hx hb hdg (dk_ne0 v2 v3) ?_
    rw [dk_tdiv v1 v2]
    exact k2
  case irem =>
    cases hk
    obtain ⟨y, S, rfl, h1⟩ := dk_pi_inv h1
    obtain ⟨x, S, rfl, h1⟩ := dk_pi_inv h1
    cases h1
    obtain ⟨v1, v2, v3⟩ := hvc
    have k2 := kk H locs ls hW hS hl
    refine lv_irem (x := Int32.ofInt x) (y := Int32.ofInt y) hx hb hdg (dk_ne0 v2 v3) ?_
    rw [dk_tmod v1 v2]
    exact k2
  case ladd =>
    cases hk
    obtain ⟨y, S, rfl, h1⟩ := dk_pl_inv h1
    obtain ⟨x, S, rfl, h1⟩ := dk_pl_inv h1
    cases h1
    have k2 := kk H locs ls hW hS hl
    refine lv_ladd (x := Int64.ofInt x) (y := Int64.ofInt y) hx hb hdg ?_
    rw [← Int64.ofInt_add]
    exact k2
  case lsub =>
    cases hk
    obtain ⟨y, S, rfl, h1⟩ := dk_pl_inv h1
    obtain ⟨x, S, rfl, h1⟩ := dk_pl_inv h1
    cases h1
    have k2 := kk H locs ls hW hS hl
    refine lv_lsub (x := Int64.ofInt x) (y := Int64.ofInt y) hx hb hdg ?_
    rw [← Int64.ofInt_sub]
    exact k2
  case lmul =>
    cases hk
    obtain ⟨y, S, rfl, h1⟩ := dk_pl_inv h1
    obtain ⟨x, S, rfl, h1⟩ := dk_pl_inv h1
    cases h1
    have k2 := kk H locs ls hW hS hl
    refine lv_lmul (x := Int64.ofInt x) (y := Int64.ofInt y) hx hb hdg ?_
    rw [← Int64.ofInt_mul]
    exact k2
  case lrem =>
    cases hk
    obtain ⟨y, S, rfl, h1⟩ := dk_pl_inv h1
    obtain ⟨x, S, rfl, h1⟩ := dk_pl_inv h1
    cases h1
    obtain ⟨v1, v2, v3⟩ := hvc
    have k2 := kk H locs ls hW hS hl
    refine lv_lrem (x := Int64.ofInt x) (y := Int64.ofInt y) hx hb hdg (dk_ne064 v2 v3) ?_
    rw [dk_tmod64 v1 v2]
    exact k2
  case lcmp =>
    cases hk
    obtain ⟨y, S, rfl, h1⟩ := dk_pl_inv h1
    obtain ⟨x, S, rfl, h1⟩ := dk_pl_inv h1
    cases h1
    obtain ⟨v1, v2⟩ := hvc
    have k2 := kk H locs ls hW hS hl
    refine W.lcmp (x := Int64.ofInt x) (y := Int64.ofInt y) hx hb hdg ?_
    rw [dk_lcmp v1 v2]
    exact k2
  case ineg =>
    cases hk
    obtain ⟨x, S, rfl, h1⟩ := dk_pi_inv h1
    cases h1
    have k2 := kk H locs ls hW hS hl
    refine lv_ineg (x := Int32.ofInt x) hx hb hdg ?_
    rw [← Int32.ofInt_neg]
    exact k2
  case ishl =>
    cases hk
    obtain ⟨y, S, rfl, h1⟩ := dk_pi_inv h1
    obtain ⟨x, S, rfl, h1⟩ := dk_pi_inv h1
    cases h1
    have k2 := kk H locs ls hW hS hl
    refine lv_ishl (x := Int32.ofInt x) (y := Int32.ofInt y) hx hb hdg ?_
    rw [dk_shl x hvc.1 hvc.2]
    exact k2
  case ishr =>
    cases hk
    obtain ⟨y, S, rfl, h1⟩ := dk_pi_inv h1
    obtain ⟨x, S, rfl, h1⟩ := dk_pi_inv h1
    cases h1
    have k2 := kk H locs ls hW hS hl
    refine lv_ishr (x := Int32.ofInt x) (y := Int32.ofInt y) hx hb hdg ?_
    rw [dk_shr hvc.1 hvc.2.1 hvc.2.2]
    exact k2
  case iushr =>
    cases hk
    obtain ⟨y, S, rfl, h1⟩ := dk_pi_inv h1
    obtain ⟨x, S, rfl, h1⟩ := dk_pi_inv h1
    cases h1
    have k2 := kk H locs ls hW hS hl
    exact lv_iushr (x := Int32.ofInt x) (y := Int32.ofInt y) hx hb hdg (dk_ushr x hvc.1 hvc.2) k2
  case i2l =>
    cases hk
    obtain ⟨x, S, rfl, h1⟩ := dk_pi_inv h1
    cases h1
    have k2 := kk H locs ls hW hS hl
    exact lv_i2l (x := Int32.ofInt x) hx hb hdg (Int32.toInt64_ofInt (dk_mm hvc).1 (dk_mm hvc).2) k2
  case l2i =>
    cases hk
    obtain ⟨x, S, rfl, h1⟩ := dk_pl_inv h1
    cases h1
    have k2 := kk H locs ls hW hS hl
    exact lv_l2i (x := Int64.ofInt x) hx hb hdg Int64.toInt32_ofInt k2
  case i2b =>
    cases hk
    obtain ⟨x, S, rfl, h1⟩ := dk_pi_inv h1
    cases h1
    have k2 := kk H locs ls hW hS hl
    exact lv_i2b (x := Int32.ofInt x) hx hb hdg (dk_i2b x) k2
  case i2s =>
    cases hk
    obtain ⟨x, S, rfl, h1⟩ := dk_pi_inv h1
    cases h1
    have k2 := kk H locs ls hW hS hl
    exact lv_i2s (x := Int32.ofInt x) hx hb hdg (dk_i2s x) k2
  case iconst v =>
    cases hk
    cases h1
    have k2 := kk H locs ls hW hS hl
    exact lv_iconst hx hb hdg rfl k2
  case lconst v =>
    cases hk
    cases h1
    have k2 := kk H locs ls hW hS hl
    refine lv_lconst hx hb hdg rfl ?_
    have e1 : Int64.ofNat (v : Nat) = Int64.ofInt (((v : Nat) : Int)) := Int64.ofInt_eq_ofNat.symm
    rw [e1]
    exact k2
  case bipush v =>
    simp only [dk_k] at hk
    split at hk
    · rename_i hv
      cases hk
      cases h1
      have k2 := kk H locs ls hW hS hl
      exact lv_bipush hx hb hdg (dk_byteI hv) k2
    · cases hk
  case sipush v =>
    simp only [dk_k] at hk
    split at hk
    · rename_i hv
      cases hk
      cases h1
      have k2 := kk H locs ls hW hS hl
      exact lv_sipush hx hb hdg (dk_shortI hv) k2
    · cases hk
  case ldc i =>
    simp only [dk_k] at hk
    split at hk
    · rename_i v hv
      cases hk
      cases h1
      have k2 := kk H locs ls hW hS hl
      exact lv_ldc hx hb hown (hT.2.2.1 _ _ hv) hdg k2
    · obtain ⟨k, hk1, hk⟩ := dk_bd_inv hk
      cases hk
      cases h1
      have k2 := kk H locs ls hW hS hl
      obtain ⟨tx, hZ⟩ := hT.2.2.2.2.2 _ _ hk1
      exact va_ldcS hx hb hown hZ hdg k2
  case ldc_w i =>
    obtain ⟨v, hv, hk⟩ := dk_bd_inv hk
    cases hk
    cases h1
    have k2 := kk H locs ls hW hS hl
    exact lv_ldcw hx hb hown (hT.2.2.1 _ _ hv) hdg k2
  case ldc2_w i =>
    obtain ⟨v, hv, hk⟩ := dk_bd_inv hk
    cases hk
    cases h1
    have k2 := kk H locs ls hW hS hl
    exact lv_ldc2 hx hb hown (hT.2.2.2.1 _ _ hv) hdg k2
  case iload i =>
    cases hk
    obtain ⟨v, hv, h1⟩ := dk_bd_inv h1
    cases h1
    have k2 := kk H locs ls hW hS hl
    exact lv_iload hx hb hdg (hl.2.2.2 _ _ (dk_oi_inv hv)) k2
  case iload_n i =>
    cases hk
    obtain ⟨v, hv, h1⟩ := dk_bd_inv h1
    cases h1
    have k2 := kk H locs ls hW hS hl
    exact lv_iload_n hx hb hdg rfl (hl.2.2.2 _ _ (dk_oi_inv hv)) k2
  case lload i =>
    cases hk
    obtain ⟨v, hv, h1⟩ := dk_bd_inv h1
    cases h1
    have k2 := kk H locs ls hW hS hl
    exact lv_lload hx hb hdg (hl.2.2.2 _ _ (dk_ol_inv hv)) k2
  case lload_n i =>
    cases hk
    obtain ⟨v, hv, h1⟩ := dk_bd_inv h1
    cases h1
    have k2 := kk H locs ls hW hS hl
    exact lv_lload_n hx hb hdg rfl (hl.2.2.2 _ _ (dk_ol_inv hv)) k2
  case aload i =>
    cases hk
    obtain ⟨v, hv, h1⟩ := dk_bd_inv h1
    cases h1
    have k2 := kk H locs ls hW hS hl
    exact lv_aload hx hb hdg (hl.2.2.2 _ _ (dk_or2_inv hv)) k2
  case aload_n i =>
    cases hk
    obtain ⟨v, hv, h1⟩ := dk_bd_inv h1
    cases h1
    have k2 := kk H locs ls hW hS hl
    exact lv_aload_n hx hb hdg rfl (hl.2.2.2 _ _ (dk_or2_inv hv)) k2
  case istore i =>
    cases hk
    obtain ⟨x, S, rfl, h1⟩ := dk_pi_inv h1
    cases h1
    exact lv_istore hx hb hdg (dk_as_has hl) (by rw [← hl.2.1]; exact hvc) rfl (fun ls2 h3 => kk H locs ls2 hW hS (dk_ls_st hl hvc h3))
  case istore_n i =>
    cases hk
    obtain ⟨x, S, rfl, h1⟩ := dk_pi_inv h1
    cases h1
    exact lv_istore_n hx hb hdg rfl (dk_as_has hl) (by rw [← hl.2.1]; exact hvc) rfl (fun ls2 h3 => kk H locs ls2 hW hS (dk_ls_st hl hvc h3))
  case astore i =>
    cases hk
    obtain ⟨x, S, rfl, h1⟩ := dk_pr_inv h1
    cases h1
    exact lv_astore hx hb hdg (dk_as_has hl) (by rw [← hl.2.1]; exact hvc) rfl (fun ls2 h3 => kk H locs ls2 hW hS (dk_ls_st hl hvc h3))
  case astore_n i =>
    cases hk
    obtain ⟨x, S, rfl, h1⟩ := dk_pr_inv h1
    cases h1
    exact lv_astore_n hx hb hdg rfl (dk_as_has hl) (by rw [← hl.2.1]; exact hvc) rfl (fun ls2 h3 => kk H locs ls2 hW hS (dk_ls_st hl hvc h3))
  case lstore i =>
    cases hk
    obtain ⟨x, S, rfl, h1⟩ := dk_pl_inv h1
    cases h1
    exact lv_lstore hx hb hdg (dk_as_has hl) (by rw [← hl.2.1]; exact hvc) rfl (fun ls2 h3 => kk H locs ls2 hW hS (dk_ls_st2 hl hvc h3))
  case lstore_n i =>
    cases hk
    obtain ⟨x, S, rfl, h1⟩ := dk_pl_inv h1
    cases h1
    exact lv_lstore_n hx hb hdg rfl (dk_as_has hl) (by rw [← hl.2.1]; exact hvc) rfl (fun ls2 h3 => kk H locs ls2 hW hS (dk_ls_st2 hl hvc h3))
  case iinc i v0 =>
    cases hk
    obtain ⟨v, hv, h1⟩ := dk_bd_inv h1
    cases h1
    have hv := dk_oi_inv hv
    have hi := dk_ld_lt hv
    obtain ⟨q, hq⟩ := List.getElem?_of_mem (dk_as_mem (ad := ad) hv)
    exact lv_iinc hx hb hdg (dk_as_has hl) hq (by rw [← Int32.ofInt_add]) (by rw [← hl.2.1]; exact hi) rfl (fun ls2 h3 => kk H locs ls2 hW hS (dk_ls_st hl hi h3))
  case dup =>
    cases hk
    match S, h1 with
    | .inl x :: S, h1 =>
      cases h1
      exact lv_dup (va := .int (Int32.ofInt x)) hx hb hdg rfl (kk H locs ls hW hS hl)
    | .inr (.inr x) :: S, h1 =>
      cases h1
      exact lv_dup (va := .ref (ad x)) hx hb hdg rfl (kk H locs ls hW hS hl)
  case dup2 =>
    cases hk
    obtain ⟨x, S, rfl, h1⟩ := dk_pi_inv h1
    obtain ⟨y, S, rfl, h1⟩ := dk_pr_inv h1
    cases h1
    exact lv_dup2_11 (va := .int (Int32.ofInt x)) (vb := .ref (ad y)) hx hb hdg rfl rfl (kk H locs ls hW hS hl)
  case pop =>
    cases hk
    obtain ⟨x, S, rfl, h1⟩ := dk_pi_inv h1
    cases h1
    exact lv_pop (va := .int (Int32.ofInt x)) hx hb hdg rfl (kk H locs ls hW hS hl)
  case iaload =>
    cases hk
    obtain ⟨i, S, rfl, h1⟩ := dk_pi_inv h1
    obtain ⟨a, S, rfl, h1⟩ := dk_pr_inv h1
    obtain ⟨q, hq, h1⟩ := dk_bd_inv h1
    cases h1
    obtain ⟨v1, v2, v3⟩ := hvc
    have k2 := kk H locs ls hW hS hl
    have e1 : Int32.ofInt (q.2 i) = Int32.ofInt (q.2 (((Int32.ofInt i).toNatClampNeg : Nat) : Int)) := by
      rw [dk_clamp v1 v3, Int.toNat_of_nonneg v1]
    rcases dk_rd_inv hq with hq | hq
    · have ha := dk_lt hF hW (a := a) (fun t n f z => by rw [hq] at z; cases z; exact ⟨by decide, by decide⟩)
      refine va_iald (f := fun j => Int32.ofInt (q.2 j)) hx hb hK hP a 0 (by rw [dk_ws_at ha, hq]; rfl) rfl (dk_vin v1 v2 v3) hdg ?_
      show W _ _ _ _ _ _ _ _ _ _ _ _ _ _ _ (F0 _ _ _ (Value.int (Int32.ofInt (q.2 (((Int32.ofInt i).toNatClampNeg : Nat) : Int))) :: _))
      rw [← e1]
      exact k2
    · have hN : N ≤ a := by
        apply Classical.byContradiction
        intro z
        exact dk_no4 hF hW (by omega) hq
      obtain ⟨n, f, e2, hTT⟩ | ⟨n, f, e2⟩ := hF.2.2 a hN
      · have e3 := (hW.2.1 a hN).symm.trans hq
        rw [e2] at e3
        cases e3
        refine va_ti hx hb hTT hS (dk_vin v1 v2 v3) rfl hdg ?_
        rw [← e1]
        exact k2
      · have e3 := (hW.2.1 a hN).symm.trans hq
        rw [e2] at e3
        cases e3
  case arraylength =>
    cases hk
    obtain ⟨a, S, rfl, h1⟩ := dk_pr_inv h1
    obtain ⟨q, hq, h1⟩ := dk_bd_inv h1
    cases h1
    have k2 := kk H locs ls hW hS hl
    have e1 : Int32.ofNat q.1 = Int32.ofInt (q.1 : Int) := Int32.ofInt_eq_ofNat.symm
    rcases dk_rd_inv hq with hq | hq
    · have ha := dk_lt hF hW (a := a) (fun t n f z => by rw [hq] at z; cases z; exact ⟨by decide, by decide⟩)
      exact va_alen (cA := dA 0) (x := (q.1, .inl (fun j => Int32.ofInt (q.2 j)))) (ty := .int) hx hb hK hP a 0 (by rw [dk_ws_at ha, hq]; rfl) rfl e1 hdg k2
    · have hN : N ≤ a := by
        apply Classical.byContradiction
        intro z
        exact dk_no4 hF hW (by omega) hq
      obtain ⟨n, f, e2, hTT⟩ | ⟨n, f, e2⟩ := hF.2.2 a hN
      · have e3 := (hW.2.1 a hN).symm.trans hq
        rw [e2] at e3
        cases e3
        exact va_tlen hx hb hTT hS e1 hdg k2
      · have e3 := (hW.2.1 a hN).symm.trans hq
        rw [e2] at e3
        cases e3
  case baload =>
    cases hk
    obtain ⟨i, S, rfl, h1⟩ := dk_pi_inv h1
    obtain ⟨a, S, rfl, h1⟩ := dk_pr_inv h1
    obtain ⟨q, hq, h1⟩ := dk_bd_inv h1
    cases h1
    obtain ⟨v1, v2, v3⟩ := hvc
    have k2 := kk H locs ls hW hS hl
    have hq := dk_ar_inv hq
    have e1 : Int32.ofInt (q.2 i) = Int32.ofInt (q.2 (((Int32.ofInt i).toNatClampNeg : Nat) : Int)) := by
      rw [dk_clamp v1 v3, Int.toNat_of_nonneg v1]
    have ha := dk_lt hF hW (a := a) (fun t n f z => by rw [hq] at z; cases z; exact ⟨by decide, by decide⟩)
    refine va_zald (f := fun j => Int32.ofInt (q.2 j)) hx hb hK hP a 1 (by rw [dk_ws_at ha, hq]; rfl) rfl (dk_vin v1 v2 v3) hdg ?_
    show W _ _ _ _ _ _ _ _ _ _ _ _ _ _ _ (F0 _ _ _ (Value.int (Int32.ofInt (q.2 (((Int32.ofInt i).toNatClampNeg : Nat) : Int))) :: _))
    rw [← e1]
    exact k2
  case aaload =>
    cases hk
    obtain ⟨i, S, rfl, h1⟩ := dk_pi_inv h1
    obtain ⟨a, S, rfl, h1⟩ := dk_pr_inv h1
    obtain ⟨q, hq, h1⟩ := dk_bd_inv h1
    cases h1
    obtain ⟨v1, v2, v3⟩ := hvc
    have k2 := kk H locs ls hW hS hl
    have hq := dk_ar_inv hq
    have ha := dk_lt hF hW (a := a) (fun t n f z => by rw [hq] at z; cases z; exact ⟨by decide, by decide⟩)
    refine va_aldq (f := fun j => some (ad (q.2 j).toNat)) hx hb hK hP a 2 (by rw [dk_ws_at ha, hq]; rfl) rfl (dk_vin v1 v2 v3) hdg ?_
    have e1 : va_rf ((fun j : Nat => some (ad (q.2 j).toNat)) (Int32.ofInt i).toNatClampNeg) = dk_cv ad (dk_R (q.2 i).toNat) := by
      show Value.ref (ad (q.2 (((Int32.ofInt i).toNatClampNeg : Nat) : Int)).toNat) = _
      rw [dk_clamp v1 v3, Int.toNat_of_nonneg v1]
      rfl
    rw [e1]
    exact k2
  case iastore =>
    cases hk
    obtain ⟨x, S, rfl, h1⟩ := dk_pi_inv h1
    obtain ⟨i, S, rfl, h1⟩ := dk_pi_inv h1
    obtain ⟨a, S, rfl, h1⟩ := dk_pr_inv h1
    obtain ⟨q, hq, h1⟩ := dk_bd_inv h1
    cases h1
    obtain ⟨v1, v2, v3⟩ := hvc
    have hq := dk_ar_inv hq
    have ha := dk_lt hF hW (a := a) (fun t n f z => by rw [hq] at z; cases z; exact ⟨by decide, by decide⟩)
    refine va_iast (f := fun j => Int32.ofInt (q.2 j)) (x := Int32.ofInt x) hx hb hK hP hD hS a 0 (by rw [dk_ws_at ha, hq]; rfl) rfl (dk_vin v1 v2 v3) hdg (fun H1 locs1 hP1 _ hS1 => ?_)
    rw [dk_upd q.2 x v1 v3] at hP1
    exact kk H1 locs1 ls (dk_Wd_up hW ha (fun t n f z => by cases z; omega) (by rw [← dk_ws_set]; exact hP1)) hS1 hl
  case bastore =>
    cases hk
    obtain ⟨x, S, rfl, h1⟩ := dk_pi_inv h1
    obtain ⟨i, S, rfl, h1⟩ := dk_pi_inv h1
    obtain ⟨a, S, rfl, h1⟩ := dk_pr_inv h1
    obtain ⟨q, hq, h1⟩ := dk_bd_inv h1
    cases h1
    obtain ⟨v1, v2, v3, v4⟩ := hvc
    have hq := dk_ar_inv hq
    have ha := dk_lt hF hW (a := a) (fun t n f z => by rw [hq] at z; cases z; exact ⟨by decide, by decide⟩)
    refine va_zast (f := fun j => Int32.ofInt (q.2 j)) (x := Int32.ofInt x) hx hb hK hP hD hS a 1 (by rw [dk_ws_at ha, hq]; rfl) rfl (dk_vin v1 v2 v3) hdg (fun H1 locs1 hP1 _ hS1 => ?_)
    rw [show vp_nar .boolean (Int32.ofInt x) = Int32.ofInt x by rcases v4 with rfl | rfl <;> decide +kernel, dk_upd q.2 x v1 v3] at hP1
    exact kk H1 locs1 ls (dk_Wd_up hW ha (fun t n f z => by cases z; omega) (by rw [← dk_ws_set]; exact hP1)) hS1 hl
  case getfield i =>
    obtain ⟨q, hq, hk⟩ := dk_bd_inv hk
    cases hk
    obtain ⟨a, S, rfl, h1⟩ := dk_pr_inv h1
    obtain ⟨v, hv, h1⟩ := dk_bd_inv h1
    cases h1
    have k2 := kk H locs ls hW hS hl
    obtain ⟨fs, hfs, hv⟩ := dk_gf_inv hv
    have ha := dk_lt hF hW (a := a) (fun t n f z => by rw [hfs] at z; cases z)
    obtain ⟨C, F, n, g1, g2, g3, g4⟩ := hT.1 i q.1 q.2 hq
    rcases g4 with g4 | ⟨host, g4⟩
    · exact va_get hx hb hts g3 hown hK hP a (fs := fs.map (dk_cv ad)) (by rw [dk_ws_at ha, hfs]; rfl) g1 q.2 g2 g4 (fun _ z => z) (dk_nth_map _ _ _ _ hv) hdg k2
    · exact va_getN hx hb hts g3 hown hK hP a (fs := fs.map (dk_cv ad)) (by rw [dk_ws_at ha, hfs]; rfl) g1 q.2 g2 g4 (fun _ z => z) (dk_nth_map _ _ _ _ hv) hdg k2
  case getstatic i =>
    obtain ⟨k, hq, hk⟩ := dk_bd_inv hk
    cases hk
    cases h1
    have k2 := kk H locs ls hW hS hl
    obtain ⟨C, n, d, g1, g2⟩ := hT.2.2.2.2.1 i k hq
    exact va_gets hx hb g1 hS hown g2 (fun _ z => z) hdg k2
  case putfield i =>
    obtain ⟨q, hq, hk⟩ := dk_bd_inv hk
    obtain ⟨kd, ci, k⟩ := q
    obtain ⟨C, F, n, ty0, ty, g1, g2, g3, g4, g5, g6, g7, g8, t1, t2, t3, t4⟩ := hT.2.1 i kd ci k hq
    dsimp only at hk
    split at hk
    next hkd =>
      cases hk
      rcases hkd with rfl | rfl | rfl | rfl
      · obtain ⟨x, S, rfl, h1⟩ := dk_pi_inv h1
        obtain ⟨a, S, rfl, h1⟩ := dk_pr_inv h1
        obtain ⟨c2, hc2, h1⟩ := dk_bd_inv h1
        cases h1
        obtain ⟨fs, hfs, hlt, rfl⟩ := dk_pf_inv hc2
        have ha := dk_lt hF hW (a := a) (fun t n f z => by rw [hfs] at z; cases z)
        have ety := t1 rfl
        subst ety
        refine va_put (v := .int (Int32.ofInt x)) hx hb hts g3 ty0 g5 g6 hown hK hP hD hS a (fs := fs.map (dk_cv ad)) (by rw [dk_ws_at ha, hfs]; rfl) g1 k g2 g4 (fun _ z => z) g7 g8 rfl rfl (by rw [List.length_map]; exact hlt) hdg (fun H1 locs1 hP1 _ hS1 => ?_)
        refine kk H1 locs1 ls (dk_Wd_up hW ha (fun t n f z => by cases z) ?_) hS1 hl
        rw [← dk_ws_set]
        have e1 : dk_ce ad dA (.inr (ci, dk_set fs k (dk_I (dk_nm x)))) = .inr (ci, (fs.map (dk_cv ad)).set k (.int (Int32.ofInt x))) := by
          show Sum.inr (ci, (dk_set fs k _).map (dk_cv ad)) = _
          rw [dk_set_map]
          show Sum.inr (ci, (fs.map (dk_cv ad)).set k (.int (Int32.ofInt (dk_nm x)))) = _
          rw [dk_nmE]
        rw [e1]
        exact hP1
      · obtain ⟨x, S, rfl, h1⟩ := dk_pi_inv h1
        obtain ⟨a, S, rfl, h1⟩ := dk_pr_inv h1
        obtain ⟨c2, hc2, h1⟩ := dk_bd_inv h1
        cases h1
        obtain ⟨fs, hfs, hlt, rfl⟩ := dk_pf_inv hc2
        have ha := dk_lt hF hW (a := a) (fun t n f z => by rw [hfs] at z; cases z)
        have ety := t2 rfl
        subst ety
        refine va_put (v := .int (Int32.ofInt x)) hx hb hts g3 ty0 g5 g6 hown hK hP hD hS a (fs := fs.map (dk_cv ad)) (by rw [dk_ws_at ha, hfs]; rfl) g1 k g2 g4 (fun _ z => z) g7 g8 (by rcases hvc with rfl | rfl <;> decide +kernel) (by rcases hvc with rfl | rfl <;> decide +kernel) (by rw [List.length_map]; exact hlt) hdg (fun H1 locs1 hP1 _ hS1 => ?_)
        refine kk H1 locs1 ls (dk_Wd_up hW ha (fun t n f z => by cases z) ?_) hS1 hl
        rw [← dk_ws_set]
        have e1 : dk_ce ad dA (.inr (ci, dk_set fs k (dk_I x))) = .inr (ci, (fs.map (dk_cv ad)).set k (.int (Int32.ofInt x))) := by
          show Sum.inr (ci, (dk_set fs k _).map (dk_cv ad)) = _
          rw [dk_set_map]
          rfl
        rw [e1]
        exact hP1
      · obtain ⟨x, S, rfl, h1⟩ := dk_pr_inv h1
        obtain ⟨a, S, rfl, h1⟩ := dk_pr_inv h1
        obtain ⟨c2, hc2, h1⟩ := dk_bd_inv h1
        cases h1
        obtain ⟨fs, hfs, hlt, rfl⟩ := dk_pf_inv hc2
        have ha := dk_lt hF hW (a := a) (fun t n f z => by rw [hfs] at z; cases z)
        have ety := t3 rfl
        subst ety
        refine va_put (v := .ref (ad x)) hx hb hts g3 ty0 g5 g6 hown hK hP hD hS a (fs := fs.map (dk_cv ad)) (by rw [dk_ws_at ha, hfs]; rfl) g1 k g2 g4 (fun _ z => z) g7 g8 rfl rfl (by rw [List.length_map]; exact hlt) hdg (fun H1 locs1 hP1 _ hS1 => ?_)
        refine kk H1 locs1 ls (dk_Wd_up hW ha (fun t n f z => by cases z) ?_) hS1 hl
        rw [← dk_ws_set]
        have e1 : dk_ce ad dA (.inr (ci, dk_set fs k (dk_R x))) = .inr (ci, (fs.map (dk_cv ad)).set k (.ref (ad x))) := by
          show Sum.inr (ci, (dk_set fs k _).map (dk_cv ad)) = _
          rw [dk_set_map]
          rfl
        rw [e1]
        exact hP1
      · obtain ⟨x, S, rfl, h1⟩ := dk_pl_inv h1
        obtain ⟨a, S, rfl, h1⟩ := dk_pr_inv h1
        obtain ⟨c2, hc2, h1⟩ := dk_bd_inv h1
        cases h1
        obtain ⟨fs, hfs, hlt, rfl⟩ := dk_pf_inv hc2
        have ha := dk_lt hF hW (a := a) (fun t n f z => by rw [hfs] at z; cases z)
        have ety := t4 rfl
        subst ety
        refine va_put (v := .long (Int64.ofInt x)) hx hb hts g3 ty0 g5 g6 hown hK hP hD hS a (fs := fs.map (dk_cv ad)) (by rw [dk_ws_at ha, hfs]; rfl) g1 k g2 g4 (fun _ z => z) g7 g8 rfl rfl (by rw [List.length_map]; exact hlt) hdg (fun H1 locs1 hP1 _ hS1 => ?_)
        refine kk H1 locs1 ls (dk_Wd_up hW ha (fun t n f z => by cases z) ?_) hS1 hl
        rw [← dk_ws_set]
        have e1 : dk_ce ad dA (.inr (ci, dk_set fs k (dk_J x))) = .inr (ci, (fs.map (dk_cv ad)).set k (.long (Int64.ofInt x))) := by
          show Sum.inr (ci, (dk_set fs k _).map (dk_cv ad)) = _
          rw [dk_set_map]
          rfl
        rw [e1]
        exact hP1
    next => cases hk
  case invokevirtual =>
    obtain ⟨q, hq, hk⟩ := dk_bd_inv hk
    split at hk
    · cases hk; cases h1
    · cases hk
  case invokestatic =>
    obtain ⟨q, hq, hk⟩ := dk_bd_inv hk
    split at hk
    · cases hk; cases h1
    · cases hk
  case goto =>
    obtain ⟨q, hq, hk⟩ := dk_bd_inv hk
    cases hk
    cases h1
  case ifCond =>
    obtain ⟨q, hq, hk⟩ := dk_bd_inv hk
    cases hk
    cases h1
  case if_icmp =>
    obtain ⟨q, hq, hk⟩ := dk_bd_inv hk
    cases hk
    cases h1
  case tableswitch =>
    simp only [dk_k] at hk
    split at hk
    · obtain ⟨q, hq, hk⟩ := dk_bd_inv hk
      obtain ⟨q2, hq2, hk⟩ := dk_bd_inv hk
      cases hk
      cases h1
    · cases hk
  case ireturn =>
    obtain ⟨q, hq, hk⟩ := dk_bd_inv hk
    cases hk
    rcases dk_rt_inv hq with ⟨-, rfl⟩ | ⟨-, rfl⟩ <;> cases h1
  case areturn =>
    simp only [dk_k] at hk
    split at hk
    · cases hk; cases h1
    · cases hk
  case return_ =>
    simp only [dk_k] at hk
    split at hk
    · cases hk; cases h1
    · cases hk
  all_goals (first | (cases hk; done) | (cases hk; cases h1; done))
end DKS
