/-! THE PURE MACHINE: blocks of resolved instructions over whole numbers, a heap of numbered cells -/
abbrev dk_V : Type := Int ⊕ (Int ⊕ Nat)
abbrev dk_I (e : Int) : dk_V := Sum.inl e
abbrev dk_J (e : Int) : dk_V := Sum.inr (Sum.inl e)
abbrev dk_R (k : Nat) : dk_V := Sum.inr (Sum.inr k)
/-- a cell: a row (its sort, its length, its numbers), or an object (its kind, its fields) -/
abbrev dk_C : Type := (Nat × Nat × (Int → Int)) ⊕ (Nat × List dk_V)
abbrev dk_H : Type := Nat → dk_C
abbrev dk_L : Type := List (Option dk_V)
abbrev dk_Q : Type := Option dk_V → dk_H → Prop
/-- what a method does: its arguments, the heap, what must hold behind it -/
abbrev dk_S : Type := List dk_V → dk_H → dk_Q → Prop
abbrev dk_N : Type := Instr ⊕ (Nat × Nat × Nat)
def dk_nth {α : Type} : List α → Nat → Option α
  | [], _ => none
  | a :: _, 0 => some a
  | _ :: l, n + 1 => dk_nth l n
def dk_set {α : Type} : List α → Nat → α → List α
  | [], _, _ => []
  | _ :: l, 0, x => x :: l
  | a :: l, n + 1, x => a :: dk_set l n x
def dk_ld : dk_L → Nat → Option dk_V
  | [], _ => none
  | a :: _, 0 => a
  | _ :: l, n + 1 => dk_ld l n
/-- a store of one word: a long whose second half it takes is gone -/
def dk_st : dk_L → Nat → dk_V → dk_L
  | [], _, _ => []
  | _ :: l, 0, x => some x :: l
  | some (.inr (.inl _)) :: _ :: l, 1, x => none :: some x :: l
  | a :: l, n + 1, x => a :: dk_st l n x
/-- a store of two words -/
def dk_st2 : dk_L → Nat → dk_V → dk_L
  | [], _, _ => []
  | [_], _, _ => []
  | _ :: _ :: l, 0, x => some x :: none :: l
  | some (.inr (.inl _)) :: _ :: _ :: l, 1, x => none :: some x :: none :: l
  | a :: l, n + 1, x => a :: dk_st2 l n x
def dk_mask : List Bool → dk_L → dk_L
  | true :: m, a :: l => a :: dk_mask m l
  | false :: m, _ :: l => none :: dk_mask m l
  | _, _ => []
def dk_up {α : Type} (h : Nat → α) (k : Nat) (c : α) : Nat → α := fun j => if j = k then c else h j
def dk_ui (f : Int → Int) (k : Int) (c : Int) : Int → Int := fun j => if j = k then c else f j
def dk_in (e : Int) : Prop := -2147483648 ≤ e ∧ e ≤ 2147483647
def dk_in64 (e : Int) : Prop := -9223372036854775808 ≤ e ∧ e ≤ 9223372036854775807
def dk_and (x y : Int) : Int := (Int32.ofInt x &&& Int32.ofInt y).toInt
def dk_or (x y : Int) : Int := (Int32.ofInt x ||| Int32.ofInt y).toInt
def dk_xor (x y : Int) : Int := (Int32.ofInt x ^^^ Int32.ofInt y).toInt
def dk_cmp (x y : Int) : Int := if y < x then 1 else if x = y then 0 else -1
def dk_gf (c : dk_C) (ci k : Nat) : Option dk_V := match c with
  | .inr (cj, fs) => if cj = ci then dk_nth fs k else none
  | _ => none
def dk_pf (c : dk_C) (ci k : Nat) (v : dk_V) : Option dk_C := match c with
  | .inr (cj, fs) => if cj = ci ∧ k < fs.length then some (.inr (cj, dk_set fs k v)) else none
  | _ => none
def dk_ar (c : dk_C) (t : Nat) : Option (Nat × (Int → Int)) := match c with
  | .inl (u, n, f) => if u = t then some (n, f) else none
  | _ => none
/-- a row of ints that may be read: one of ours (sort 0), or one that nobody writes (sort 4) -/
def dk_rd (c : dk_C) : Option (Nat × (Int → Int)) := match c with
  | .inl (0, n, f) => some (n, f)
  | .inl (4, n, f) => some (n, f)
  | _ => none
def dk_cc : ClassFile.Cond → Int → Int → Prop
  | .eq, x, y => x = y
  | .ne, x, y => ¬ x = y
  | .lt, x, y => x < y
  | .ge, x, y => y ≤ x
  | .gt, x, y => y < x
  | .le, x, y => x ≤ y
/-- a number as an int holds it -/
def dk_nm (e : Int) : Int := if -2147483648 ≤ e ∧ e ≤ 2147483647 then e else e.bmod 4294967296
/-- the stack's top as an int, a long, a reference -/
def dk_pi {α : Type} (S : List dk_V) (K : Int → List dk_V → Option α) : Option α := match S with
  | .inl x :: S => K x S
  | _ => none
def dk_pl {α : Type} (S : List dk_V) (K : Int → List dk_V → Option α) : Option α := match S with
  | .inr (.inl x) :: S => K x S
  | _ => none
def dk_pr {α : Type} (S : List dk_V) (K : Nat → List dk_V → Option α) : Option α := match S with
  | .inr (.inr x) :: S => K x S
  | _ => none
def dk_bd {α β : Type} (o : Option α) (K : α → Option β) : Option β := match o with
  | some a => K a
  | none => none
def dk_oi (o : Option dk_V) : Option Int := match o with
  | some (.inl e) => some e
  | _ => none
def dk_ol (o : Option dk_V) : Option Int := match o with
  | some (.inr (.inl e)) => some e
  | _ => none
def dk_or2 (o : Option dk_V) : Option Nat := match o with
  | some (.inr (.inr e)) => some e
  | _ => none
/-- one instruction that only goes on: what it asks, and the state behind it -/
def dk_1 (i : dk_N) (L : dk_L) (S : List dk_V) (h : dk_H) : Option (Prop × dk_L × List dk_V × dk_H) := match i with
  | .inl (.iconst c) => some (True, L, dk_I c :: S, h)
  | .inl (.goto_w c) => some (True, L, dk_J c :: S, h)
  | .inr (6, k, _) => some (True, L, dk_R k :: S, h)
  | .inl (.iload i) => dk_bd (dk_oi (dk_ld L i)) fun e => some (True, L, dk_I e :: S, h)
  | .inl (.lload i) => dk_bd (dk_ol (dk_ld L i)) fun e => some (True, L, dk_J e :: S, h)
  | .inl (.aload i) => dk_bd (dk_or2 (dk_ld L i)) fun e => some (True, L, dk_R e :: S, h)
  | .inl (.istore i) => dk_pi S fun e S => some (i < L.length, dk_st L i (dk_I e), S, h)
  | .inl (.astore i) => dk_pr S fun e S => some (i < L.length, dk_st L i (dk_R e), S, h)
  | .inl (.lstore i) => dk_pl S fun e S => some (i + 1 < L.length, dk_st2 L i (dk_J e), S, h)
  | .inl (.iinc i c) => dk_bd (dk_oi (dk_ld L i)) fun e => some (True, dk_st L i (dk_I (e + c)), S, h)
  | .inl .iadd => dk_pi S fun y S => dk_pi S fun x S => some (True, L, dk_I (x + y) :: S, h)
  | .inl .isub => dk_pi S fun y S => dk_pi S fun x S => some (True, L, dk_I (x - y) :: S, h)
  | .inl .imul => dk_pi S fun y S => dk_pi S fun x S => some (True, L, dk_I (x * y) :: S, h)
  | .inl .idiv => dk_pi S fun y S => dk_pi S fun x S => some (dk_in x ∧ dk_in y ∧ ¬ y = 0, L, dk_I (x.tdiv y) :: S, h)
  | .inl .irem => dk_pi S fun y S => dk_pi S fun x S => some (dk_in x ∧ dk_in y ∧ ¬ y = 0, L, dk_I (x.tmod y) :: S, h)
  | .inl .ineg => dk_pi S fun x S => some (True, L, dk_I (-x) :: S, h)
  | .inl .iand => dk_pi S fun y S => dk_pi S fun x S => some (True, L, dk_I (dk_and x y) :: S, h)
  | .inl .ior => dk_pi S fun y S => dk_pi S fun x S => some (True, L, dk_I (dk_or x y) :: S, h)
  | .inl .ixor => dk_pi S fun y S => dk_pi S fun x S => some (True, L, dk_I (dk_xor x y) :: S, h)
  | .inl .ishl => dk_pi S fun y S => dk_pi S fun x S => some (0 ≤ y ∧ y < 32, L, dk_I (x * 2 ^ y.toNat) :: S, h)
  | .inl .ishr => dk_pi S fun y S => dk_pi S fun x S => some (dk_in x ∧ 0 ≤ y ∧ y < 32, L, dk_I (x / 2 ^ y.toNat) :: S, h)
  | .inl .iushr => dk_pi S fun y S => dk_pi S fun x S => some (0 ≤ y ∧ y < 32, L, dk_I (x % 4294967296 / 2 ^ y.toNat) :: S, h)
  | .inl .i2l => dk_pi S fun x S => some (dk_in x, L, dk_J x :: S, h)
  | .inl .l2i => dk_pl S fun x S => some (True, L, dk_I x :: S, h)
  | .inl .i2b => dk_pi S fun x S => some (True, L, dk_I (x.bmod 256) :: S, h)
  | .inl .i2s => dk_pi S fun x S => some (True, L, dk_I (x.bmod 65536) :: S, h)
  | .inl .ladd => dk_pl S fun y S => dk_pl S fun x S => some (True, L, dk_J (x + y) :: S, h)
  | .inl .lsub => dk_pl S fun y S => dk_pl S fun x S => some (True, L, dk_J (x - y) :: S, h)
  | .inl .lmul => dk_pl S fun y S => dk_pl S fun x S => some (True, L, dk_J (x * y) :: S, h)
  | .inl .lrem => dk_pl S fun y S => dk_pl S fun x S => some (dk_in64 x ∧ dk_in64 y ∧ ¬ y = 0, L, dk_J (x.tmod y) :: S, h)
  | .inl .lcmp => dk_pl S fun y S => dk_pl S fun x S => some (dk_in64 x ∧ dk_in64 y, L, dk_I (dk_cmp x y) :: S, h)
  | .inl .dup => match S with
    | .inl x :: S => some (True, L, dk_I x :: dk_I x :: S, h)
    | .inr (.inr x) :: S => some (True, L, dk_R x :: dk_R x :: S, h)
    | _ => none
  | .inl .dup2 => dk_pi S fun x S => dk_pr S fun y S => some (True, L, dk_I x :: dk_R y :: dk_I x :: dk_R y :: S, h)
  | .inl .pop => dk_pi S fun _ S => some (True, L, S, h)
  | .inr (0, ci, k) => dk_pr S fun a S => dk_bd (dk_gf (h a) ci k) fun v => some (True, L, v :: S, h)
  | .inr (1, ci, k) => dk_pi S fun e S => dk_pr S fun a S => dk_bd (dk_pf (h a) ci k (dk_I (dk_nm e))) fun c => some (True, L, S, dk_up h a c)
  | .inr (2, ci, k) => dk_pi S fun e S => dk_pr S fun a S => dk_bd (dk_pf (h a) ci k (dk_I e)) fun c => some (e = 0 ∨ e = 1, L, S, dk_up h a c)
  | .inr (3, ci, k) => dk_pr S fun e S => dk_pr S fun a S => dk_bd (dk_pf (h a) ci k (dk_R e)) fun c => some (True, L, S, dk_up h a c)
  | .inr (4, ci, k) => dk_pl S fun e S => dk_pr S fun a S => dk_bd (dk_pf (h a) ci k (dk_J e)) fun c => some (True, L, S, dk_up h a c)
  | .inl .iaload => dk_pi S fun i S => dk_pr S fun a S => dk_bd (dk_rd (h a)) fun q => some (0 ≤ i ∧ i < q.1 ∧ i < 2147483648, L, dk_I (q.2 i) :: S, h)
  | .inl .baload => dk_pi S fun i S => dk_pr S fun a S => dk_bd (dk_ar (h a) 1) fun q => some (0 ≤ i ∧ i < q.1 ∧ i < 2147483648, L, dk_I (q.2 i) :: S, h)
  | .inl .aaload => dk_pi S fun i S => dk_pr S fun a S => dk_bd (dk_ar (h a) 2) fun q => some (0 ≤ i ∧ i < q.1 ∧ i < 2147483648, L, dk_R (q.2 i).toNat :: S, h)
  | .inl .iastore => dk_pi S fun x S => dk_pi S fun i S => dk_pr S fun a S => dk_bd (dk_ar (h a) 0) fun q => some (0 ≤ i ∧ i < q.1 ∧ i < 2147483648, L, S, dk_up h a (.inl (0, q.1, dk_ui q.2 i x)))
  | .inl .bastore => dk_pi S fun x S => dk_pi S fun i S => dk_pr S fun a S => dk_bd (dk_ar (h a) 1) fun q => some (0 ≤ i ∧ i < q.1 ∧ i < 2147483648 ∧ (x = 0 ∨ x = 1), L, S, dk_up h a (.inl (1, q.1, dk_ui q.2 i x)))
  | .inl .arraylength => dk_pr S fun a S => dk_bd (dk_rd (h a)) fun q => some (True, L, dk_I q.1 :: S, h)
  | _ => none
def dk_sz : List dk_V → Nat
  | [] => 0
  | .inr (.inl _) :: S => dk_sz S + 2
  | _ :: S => dk_sz S + 1
/-- the branches of a switch -/
def dk_sw (x : Int) (J : Nat → Prop) : List Int → Int → Prop
  | [], _ => True
  | t :: ts, v => (x = v → J t.toNat) ∧ dk_sw x J ts (v + 1)
def dk_r (G : List (Nat × dk_S)) (R : dk_Q) (J : Nat → dk_L → List dk_V → dk_H → Prop) : List dk_N → dk_L → List dk_V → dk_H → Prop
  | [], _, _, _ => False
  | .inr (5, j, _) :: is, L, S, h => match dk_nth G j with
    | some (n, T) => n ≤ S.length ∧ dk_sz (S.drop n) ≤ 8 ∧ T (S.take n).reverse h (fun r h2 => dk_r G R J is L (r.toList ++ S.drop n) h2)
    | none => False
  | .inr (7, t, _) :: _, L, S, h => J t L S h
  | .inl (.ifCond c t) :: is, L, S, h => match S with
    | .inl x :: S => dk_in x ∧ (dk_cc c x 0 → J t.toNat L S h) ∧ (¬ dk_cc c x 0 → dk_r G R J is L S h)
    | _ => False
  | .inl (.if_icmp c t) :: is, L, S, h => match S with
    | .inl y :: .inl x :: S => dk_in x ∧ dk_in y ∧ (dk_cc c x y → J t.toNat L S h) ∧ (¬ dk_cc c x y → dk_r G R J is L S h)
    | _ => False
  | .inl (.tableswitch d lo hi offs) :: _, L, S, h => match S with
    | .inl x :: S => dk_in x ∧ (x < lo ∨ hi < x → J d.toNat L S h) ∧ dk_sw x (fun b => J b L S h) offs.toList lo
    | _ => False
  | .inl .ireturn :: _, _, S, h => match S with
    | [.inl x] => R (some (dk_I x)) h
    | _ => False
  | .inl .lreturn :: _, _, S, h => match S with
    | [.inl x] => (x = 0 ∨ x = 1) ∧ R (some (dk_I x)) h
    | _ => False
  | .inl .areturn :: _, _, S, h => match S with
    | [.inr (.inr x)] => R (some (dk_R x)) h
    | _ => False
  | .inl .return_ :: _, _, S, h => match S with
    | [] => R none h
    | _ => False
  | i :: is, L, S, h => match dk_1 i L S h with
    | some (vc, L2, S2, h2) => vc ∧ dk_r G R J is L2 S2 h2
    | none => False
abbrev dk_T : Type := List (List Bool × List dk_N)
def dk_B (G : List (Nat × dk_S)) (tb : dk_T) (R : dk_Q) (P : Nat → dk_L → List dk_V → dk_H → Prop) (b : Nat) (L : dk_L) (S : List dk_V) (h : dk_H) : Prop := ∃ mk is, dk_nth tb b = some (mk, is) ∧ dk_r G R P is (dk_mask mk L) S h
def dk_WP (G : List (Nat × dk_S)) (tb : dk_T) (R : dk_Q) (b : Nat) (L : dk_L) (S : List dk_V) (h : dk_H) : Prop := ∀ P : Nat → dk_L → List dk_V → dk_H → Prop, (∀ b L S h, dk_B G tb R P b L S h → P b L S h) → P b L S h
/-- a method's meaning may be weakened behind it -/
def dk_mono (T : dk_S) : Prop := ∀ as h (Q Q2 : dk_Q), (∀ r h2, Q r h2 → Q2 r h2) → T as h Q → T as h Q2
def dk_monoG (G : List (Nat × dk_S)) : Prop := ∀ q ∈ G, dk_mono q.2
theorem dk_nth_mem {α : Type} : ∀ {l : List α} {n : Nat} {a : α}, dk_nth l n = some a → a ∈ l
  | [], _, _, h => by simp [dk_nth] at h
  | b :: l, 0, a, h => by simp only [dk_nth, Option.some.injEq] at h; rw [h]; exact List.mem_cons_self
  | b :: l, n + 1, a, h => List.mem_cons_of_mem _ (dk_nth_mem (l := l) (n := n) h)
theorem dk_sw_mono {x : Int} {J J2 : Nat → Prop} (hJ : ∀ b, J b → J2 b) : ∀ (ts : List Int) (v : Int), dk_sw x J ts v → dk_sw x J2 ts v
  | [], _, _ => trivial
  | _ :: ts, v, h => ⟨fun e => hJ _ (h.1 e), dk_sw_mono hJ ts (v + 1) h.2⟩
def dk_d (o : Option (Prop × dk_L × List dk_V × dk_H)) (K : dk_L → List dk_V → dk_H → Prop) : Prop := match o with
  | some (vc, L2, S2, h2) => vc ∧ K L2 S2 h2
  | none => False
theorem dk_d_mono {o : Option (Prop × dk_L × List dk_V × dk_H)} {K K2 : dk_L → List dk_V → dk_H → Prop} (hK : ∀ L S h, K L S h → K2 L S h) (q : dk_d o K) : dk_d o K2 := by
  cases o with
  | none => exact q.elim
  | some w => exact ⟨q.1, hK _ _ _ q.2⟩
/-- the instructions that only go on -/
def dk_isS : dk_N → Bool
  | .inr (t, _, _) => !(t == 5) && !(t == 7)
  | .inl (.ifCond _ _) => false
  | .inl (.if_icmp _ _) => false
  | .inl (.tableswitch _ _ _ _) => false
  | .inl .ireturn => false
  | .inl .lreturn => false
  | .inl .areturn => false
  | .inl .return_ => false
  | _ => true
theorem dk_r_s {G : List (Nat × dk_S)} {R : dk_Q} {J : Nat → dk_L → List dk_V → dk_H → Prop} {i : dk_N} (hi : dk_isS i = true) (is : List dk_N) (L : dk_L) (S : List dk_V) (h : dk_H) : dk_r G R J (i :: is) L S h = dk_d (dk_1 i L S h) (dk_r G R J is) := by
  rcases i with ins | ⟨t, j, k⟩
  · cases ins <;> first | rfl | cases hi
  · have h5 : ¬ t = 5 := by intro e; subst e; cases hi
    have h7 : ¬ t = 7 := by intro e; subst e; cases hi
    unfold dk_r
    split <;> simp_all
    rfl
theorem dk_r_mono {G : List (Nat × dk_S)} (hG : dk_monoG G) {R R2 : dk_Q} (hR : ∀ r h, R r h → R2 r h) {J J2 : Nat → dk_L → List dk_V → dk_H → Prop} (hJ : ∀ b L S h, J b L S h → J2 b L S h) : ∀ (is : List dk_N) (L : dk_L) (S : List dk_V) (h : dk_H), dk_r G R J is L S h → dk_r G R2 J2 is L S h := by
  intro is
  induction is with
  | nil => intro L S h q; exact q.elim
  | cons i is ih =>
    intro L S h q
    cases hi : dk_isS i with
    | true =>
      rw [dk_r_s hi] at q ⊢
      exact dk_d_mono ih q
    | false =>
      rcases i with ins | ⟨t, j, k⟩
      · cases ins
        all_goals (try (cases hi; done))
        all_goals (simp only [dk_r] at q ⊢)
        all_goals (split at q)
        all_goals (try (exact q.elim))
        all_goals (try (exact hR _ _ q))
        all_goals (try (exact ⟨q.1, hR _ _ q.2⟩))
        all_goals (try (exact ⟨q.1, fun c => hJ _ _ _ _ (q.2.1 c), fun c => ih _ _ _ (q.2.2 c)⟩))
        all_goals (try (exact ⟨q.1, q.2.1, fun c => hJ _ _ _ _ (q.2.2.1 c), fun c => ih _ _ _ (q.2.2.2 c)⟩))
        all_goals (try (exact ⟨q.1, fun c => hJ _ _ _ _ (q.2.1 c), dk_sw_mono (fun b => hJ b _ _ _) _ _ q.2.2⟩))
      · have h57 : t = 5 ∨ t = 7 := by
          simp only [dk_isS] at hi
          by_cases a : t = 5
          · exact Or.inl a
          · by_cases b : t = 7
            · exact Or.inr b
            · simp [a, b] at hi
        rcases h57 with rfl | rfl
        · simp only [dk_r] at q ⊢
          cases e : dk_nth G j with
          | none => rw [e] at q; exact q.elim
          | some w =>
            rw [e] at q
            exact ⟨q.1, q.2.1, hG w (dk_nth_mem e) _ _ _ _ (fun r h2 => ih _ _ _) q.2.2⟩
        · exact hJ _ _ _ _ q
theorem dk_WP_step {G : List (Nat × dk_S)} (hG : dk_monoG G) {tb : dk_T} {R : dk_Q} {b : Nat} {L : dk_L} {S : List dk_V} {h : dk_H} (q : dk_B G tb R (dk_WP G tb R) b L S h) : dk_WP G tb R b L S h := by
  intro P hP
  obtain ⟨mk, is, e, q⟩ := q
  exact hP b L S h ⟨mk, is, e, dk_r_mono hG (fun _ _ z => z) (fun b L S h z => z P hP) is _ S h q⟩
/-- a block, by its place -/
theorem dk_blk {G : List (Nat × dk_S)} (hG : dk_monoG G) {tb : dk_T} {R : dk_Q} {b : Nat} {L : dk_L} {S : List dk_V} {h : dk_H} {mk : List Bool} {is : List dk_N} (e : dk_nth tb b = some (mk, is)) (q : dk_r G R (dk_WP G tb R) is (dk_mask mk L) S h) : dk_WP G tb R b L S h := dk_WP_step hG ⟨mk, is, e, q⟩
theorem dk_WP_mono {G : List (Nat × dk_S)} (hG : dk_monoG G) {tb : dk_T} {R R2 : dk_Q} (hR : ∀ r h, R r h → R2 r h) {b : Nat} {L : dk_L} {S : List dk_V} {h : dk_H} (q : dk_WP G tb R b L S h) : dk_WP G tb R2 b L S h := by
  refine q (fun b L S h => dk_WP G tb R2 b L S h) ?_
  intro b L S h q2
  obtain ⟨mk1, is, e, w⟩ := q2
  exact dk_blk hG e (dk_r_mono hG hR (fun _ _ _ _ z => z) is _ S h w)
/-- the locals with which a method begins -/
def dk_lc : List dk_V → dk_L
  | [] => []
  | .inr (.inl e) :: l => some (dk_J e) :: none :: dk_lc l
  | v :: l => some v :: dk_lc l
def dk_args (n : Nat) (as : List dk_V) : dk_L := dk_lc as ++ List.replicate (n - (dk_lc as).length) none
/-- the meaning of a method: its calls, its blocks, how many locals it has -/
def dk_M (G : List (Nat × dk_S)) (tb : dk_T) (n : Nat) : dk_S := fun as h Q => (dk_lc as).length ≤ n ∧ dk_WP G tb Q 0 (dk_args n as) [] h
theorem dk_M_mono {G : List (Nat × dk_S)} (hG : dk_monoG G) (tb : dk_T) (n : Nat) : dk_mono (dk_M G tb n) := fun _ _ _ _ hQ q => ⟨q.1, dk_WP_mono hG hQ q.2⟩
/-- the first argument is an object of a kind -/
def dk_rc (ci : Nat) (as : List dk_V) (h : dk_H) : Prop := match as with
  | .inr (.inr b) :: _ => match h b with
    | .inr (cj, _) => cj = ci
    | _ => False
  | _ => False
def dk_MV (ci : Nat) (G : List (Nat × dk_S)) (tb : dk_T) (n : Nat) : dk_S := fun as h Q => dk_rc ci as h ∧ dk_M G tb n as h Q
theorem dk_MV_mono {G : List (Nat × dk_S)} (ci : Nat) (hG : dk_monoG G) (tb : dk_T) (n : Nat) : dk_mono (dk_MV ci G tb n) := fun as h Q Q2 hQ q => ⟨q.1, dk_M_mono hG tb n as h Q Q2 hQ q.2⟩
theorem dk_monoG_nil : dk_monoG [] := fun _ h => absurd h List.not_mem_nil
theorem dk_monoG_cons {n : Nat} {T : dk_S} {G : List (Nat × dk_S)} (h1 : dk_mono T) (h2 : dk_monoG G) : dk_monoG ((n, T) :: G) := fun q hq => by
  rcases List.mem_cons.mp hq with rfl | hq
  · exact h1
  · exact h2 q hq
