/-! BLOCKS: a walk of the pure machine is a walk of the real one -/
def dk_tm : dk_N → Bool
  | .inr (t, _, _) => t == 7
  | .inl (.tableswitch _ _ _ _) => true
  | .inl .ireturn => true
  | .inl .lreturn => true
  | .inl .areturn => true
  | .inl .return_ => true
  | _ => false
def dk_isT : dk_N → Bool
  | .inl (.tableswitch _ _ _ _) => true
  | _ => false
/-- going on into the next block -/
def dk_ft : dk_N → Option Nat
  | .inr (7, t, 1) => some t
  | _ => none
/-- the blocks are what the bytes say -/
def dk_ck (T : dk_Tm) (cc : ByteArray) : Nat → List dk_N → Bool
  | _, [] => false
  | pc, n :: is => match dk_ft n with
    | some t => decide (dk_ix T.2.2.1 pc 0 = some t)
    | none => match decode cc pc with
      | .ok (ins, len) => decide (dk_k T pc ins = some n) && (dk_isT n || decide (len = dk_ln ins)) && (dk_tm n || dk_ck T cc (pc + len) is)
      | _ => false
def dk_ckT (T : dk_Tm) (cc : ByteArray) (nL : Nat) : List Nat → dk_T → Bool
  | [], [] => true
  | pc :: pcs, (mk1, is) :: tb => decide (mk1.length = nL) && dk_ck T cc pc is && dk_ckT T cc nL pcs tb
  | _, _ => false
theorem dk_ckT_at {T : dk_Tm} {cc : ByteArray} {nL : Nat} : ∀ (pcs : List Nat) (tb : dk_T), dk_ckT T cc nL pcs tb = true → ∀ (b : Nat) (mk1 : List Bool) (is : List dk_N), dk_nth tb b = some (mk1, is) → ∃ pc, dk_nth pcs b = some pc ∧ mk1.length = nL ∧ dk_ck T cc pc is = true
  | [], [], _, b, mk1, is, h => by simp [dk_nth] at h
  | [], _ :: _, h, _, _, _, _ => by simp [dk_ckT] at h
  | _ :: _, [], h, _, _, _, _ => by simp [dk_ckT] at h
  | pc :: pcs, (mk2, is2) :: tb, h, b, mk1, is, hb => by
    simp only [dk_ckT, Bool.and_eq_true, decide_eq_true_eq] at h
    cases b with
    | zero =>
      simp only [dk_nth, Option.some.injEq] at hb
      cases hb
      exact ⟨pc, rfl, h.1.1, h.1.2⟩
    | succ b => exact dk_ckT_at pcs tb h.2 b mk1 is hb
theorem dk_ix_nth : ∀ (l : List Nat) (n i b : Nat), dk_ix l n i = some b → i ≤ b ∧ dk_nth l (b - i) = some n
  | [], n, i, b, h => by simp [dk_ix] at h
  | k :: l, n, i, b, h => by
    unfold dk_ix at h
    split at h
    · rename_i e
      cases h
      subst e
      exact ⟨Nat.le_refl _, by simp [dk_nth]⟩
    · obtain ⟨h1, h2⟩ := dk_ix_nth l n (i + 1) b h
      refine ⟨by omega, ?_⟩
      rw [show b - i = (b - (i + 1)) + 1 by omega]
      exact h2
theorem dk_tg_spec {T : dk_Tm} {pc b : Nat} {off : Int} (h : dk_tg T pc off = some b) : ∃ q : Nat, (pc : Int) + off = (q : Int) ∧ dk_nth T.2.2.1 b = some q := by
  unfold dk_tg at h
  split at h
  · rename_i h0
    obtain ⟨-, h2⟩ := dk_ix_nth _ _ _ _ h
    exact ⟨((pc : Int) + off).toNat, by omega, h2⟩
  · cases h
def dk_Go (p : Program) (l : Launch) (e : Env) (R : Room) (s : State) (m : MethodId) (args : Array Value) (below : List Frame) (meth : Method) (c : Code) (cells slots : Nat) (Q : State → Prop) (ad : Nat → Nat) (dA : Nat → ClassId) (D : va_G) (N : Nat) (A : Nat → Prop) (cl : List vw_C) (ro : dk_H) (nL : Nat) (pc : Nat) (L : dk_L) (S : List dk_V) (h : dk_H) : Prop :=
  ∀ (H : Heap) (locs : List Loc) (ls : Array Slot), dk_Wd ad dA D N cl ro h H → va_S A s.heap H locs → dk_ls ad ls nL L → W p l e R s m args below meth c H locs cells slots Q (F0 m pc ls (S.map (dk_cv ad)))
/-- a call that the real machine can do: by the number of its entry -/
def dk_Cok (p : Program) (l : Launch) (e : Env) (R : Room) (s : State) (m : MethodId) (args : Array Value) (below : List Frame) (meth : Method) (c : Code) (cells slots : Nat) (Q : State → Prop) (ad : Nat → Nat) (dA : Nat → ClassId) (D : va_G) (N : Nat) (A : Nat → Prop) (cl : List vw_C) (ro : dk_H) (nL : Nat) (cc : ByteArray) (kd i n : Nat) (Sm : dk_S) : Prop :=
  ∀ (pc : Nat) (ins : Instr) (L : dk_L) (S as : List dk_V) (h : dk_H), (kd = 0 ∧ ins = .invokevirtual i) ∨ (kd = 1 ∧ ins = .invokestatic i) → decode cc pc = .ok (ins, 3) → as.length = n → dk_sz S ≤ 8 →
    Sm as h (fun r h2 => dk_Go p l e R s m args below meth c cells slots Q ad dA D N A cl ro nL (pc + 3) L (r.toList ++ S) h2) → dk_Go p l e R s m args below meth c cells slots Q ad dA D N A cl ro nL pc L (as.reverse ++ S) h
def dk_isR (n : dk_N) : Prop := n = .inl .ireturn ∨ n = .inl .lreturn ∨ n = .inl .areturn ∨ n = .inl .return_
section DKB
variable {p : Program} {l : Launch} {e : Env} {R : Room} {s : State} {m : MethodId} {args : Array Value} {below : List Frame} {meth : Method} {c : Code} {cells slots : Nat} {Q : State → Prop}
variable {ad : Nat → Nat} {dA : Nat → ClassId} {D : va_G} {N : Nat} {A : Nat → Prop} {cl : List vw_C} {ro : dk_H} {cc : ByteArray} {nL : Nat} {own : String} {Ts : List Cond} {T : dk_Tm} {G : List (Nat × dk_S)} {Rq : dk_Q}
theorem dk_swI {x : Int} {J : Nat → Prop} : ∀ (ts : List Int) (v : Int), dk_sw x J ts v → v ≤ x → ∀ t, ts[(x - v).toNat]? = some t → J t.toNat
  | [], v, _, _, t, ht => by simp at ht
  | u :: ts, v, h, hv, t, ht => by
    by_cases e : x = v
    · subst e
      simp only [Int.sub_self, Int.toNat_zero, List.getElem?_cons_zero, Option.some.injEq] at ht
      rw [← ht]
      exact h.1 rfl
    · have e1 : (x - v).toNat = (x - (v + 1)).toNat + 1 := by omega
      rw [e1, List.getElem?_cons_succ] at ht
      exact dk_swI ts (v + 1) h.2 (by omega) t ht
theorem dk_tgs_at : ∀ (os bs : List Int) {pc : Nat}, dk_tgs T pc os = some bs → os.length = bs.length ∧ ∀ (j : Nat) (o : Int), os[j]? = some o → ∃ b : Nat, bs[j]? = some (b : Int) ∧ dk_tg T pc o = some b
  | [], bs, pc, h => by
    cases h
    exact ⟨rfl, fun j o h => by simp at h⟩
  | o :: os, bs, pc, h => by
    obtain ⟨b, hb, h⟩ := dk_bd_inv h
    obtain ⟨bs2, hbs, h⟩ := dk_bd_inv h
    cases h
    obtain ⟨h1, h2⟩ := dk_tgs_at os bs2 hbs
    refine ⟨by simp [h1], fun j o2 ho => ?_⟩
    cases j with
    | zero => simp only [List.getElem?_cons_zero, Option.some.injEq] at ho; subst ho; exact ⟨b, rfl, hb⟩
    | succ j => exact h2 j o2 ho
set_option maxHeartbeats 4000000 in
theorem dk_blockS (hx : p.tables.exec = Jvm.exec) (hb : c.code = cc) (hown : s.vm.findClass own = some m.cls) (hts : ∀ w ∈ Ts, w.before args s = true)
    (hF : dk_Fx ad dA D N A cl ro s) (hT : dk_Tok ad A cl own Ts args s T.1)
    (hM : dk_monoG G) (hC : ∀ i kd j, dk_lk T.2.1 i = some (kd, j) → ∃ n Sm, dk_nth G j = some (n, Sm) ∧ dk_Cok p l e R s m args below meth c cells slots Q ad dA D N A cl ro nL cc kd i n Sm)
    (hR : ∀ (pc : Nat) (ins : Instr) (n : dk_N) (is : List dk_N) (J : Nat → dk_L → List dk_V → dk_H → Prop) (L : dk_L) (S : List dk_V) (h : dk_H), decode cc pc = .ok (ins, 1) → dk_k T pc ins = some n → dk_isR n → dk_r G Rq J (n :: is) L S h → dk_Go p l e R s m args below meth c cells slots Q ad dA D N A cl ro nL pc L S h)
    {J : Nat → dk_L → List dk_V → dk_H → Prop} (hJ : ∀ b L S h, J b L S h → ∀ q, dk_nth T.2.2.1 b = some q → dk_Go p l e R s m args below meth c cells slots Q ad dA D N A cl ro nL q L S h) :
    ∀ (is : List dk_N) (pc : Nat) (L : dk_L) (S : List dk_V) (h : dk_H), dk_ck T cc pc is = true → dk_r G Rq J is L S h → dk_Go p l e R s m args below meth c cells slots Q ad dA D N A cl ro nL pc L S h := by
  intro is
  induction is with
  | nil => intro pc L S h hck; cases hck
  | cons n is ih =>
    intro pc L S h hck q
    unfold dk_ck at hck
    split at hck
    · rename_i t ht
      have hn : n = .inr (7, t, 1) := by
        unfold dk_ft at ht
        split at ht
        · cases ht; rfl
        · cases ht
      subst hn
      have hq : J t L S h := q
      obtain ⟨-, h2⟩ := dk_ix_nth _ _ _ _ (of_decide_eq_true hck)
      exact hJ t L S h hq pc h2
    · split at hck
      · rename_i hft ins len hdg
        simp only [Bool.and_eq_true, Bool.or_eq_true, decide_eq_true_eq] at hck
        obtain ⟨⟨hk, hlen⟩, hrest⟩ := hck
        cases hi : dk_isS n with
        | true =>
          rw [dk_r_s hi] at q
          have hnT : dk_isT n = false := by
            rcases n with i | i
            · cases i <;> first | rfl | cases hi
            · rfl
          have hnt : dk_tm n = false := by
            rcases n with i | ⟨t, j, k⟩
            · cases i <;> first | rfl | cases hi
            · simp only [dk_isS, Bool.and_eq_true, Bool.not_eq_true'] at hi
              exact hi.2
          have hlen := hlen.resolve_left (by rw [hnT]; simp)
          have hrest := hrest.resolve_left (by rw [hnt]; simp)
          cases h1 : dk_1 n L S h with
          | none => rw [h1] at q; exact q.elim
          | some w =>
            rw [h1] at q
            obtain ⟨vc, L2, S2, h2⟩ := w
            obtain ⟨hvc, q⟩ := q
            intro H locs ls hW hS hl
            exact dk_s1 hx hb hown hts hF hT hdg hlen hk h1 hvc hW hS hl (fun H2 locs2 ls2 hW2 hS2 hl2 => ih (pc + len) L2 S2 h2 hrest q H2 locs2 ls2 hW2 hS2 hl2)
        | false =>
          cases ins
          case invokevirtual i =>
            obtain ⟨q0, hj, hk⟩ := dk_bd_inv hk
            obtain ⟨kd, j⟩ := q0
            have hkd : kd = 0 := by
              split at hk
              · assumption
              · cases hk
            rw [if_pos hkd] at hk
            cases hk
            have hlen : len = 3 := hlen.resolve_left (by simp [dk_isT])
            have hrest := hrest.resolve_left (by simp [dk_tm])
            subst hlen
            obtain ⟨n, Sm, e1, hc⟩ := hC i kd j hj
            simp only [dk_r, e1] at q
            obtain ⟨q1, q2, q3⟩ := q
            have e2 : S = (S.take n).reverse.reverse ++ S.drop n := by rw [List.reverse_reverse, List.take_append_drop]
            rw [e2]
            exact hc pc _ L (S.drop n) (S.take n).reverse h (Or.inl ⟨hkd, rfl⟩) hdg (by rw [List.length_reverse, List.length_take]; omega) q2 (hM _ (dk_nth_mem e1) _ _ _ _ (fun r h2 z => ih (pc + 3) L _ h2 hrest z) q3)
          case invokestatic i =>
            obtain ⟨q0, hj, hk⟩ := dk_bd_inv hk
            obtain ⟨kd, j⟩ := q0
            have hkd : kd = 1 := by
              split at hk
              · assumption
              · cases hk
            rw [if_pos hkd] at hk
            cases hk
            have hlen : len = 3 := hlen.resolve_left (by simp [dk_isT])
            have hrest := hrest.resolve_left (by simp [dk_tm])
            subst hlen
            obtain ⟨n, Sm, e1, hc⟩ := hC i kd j hj
            simp only [dk_r, e1] at q
            obtain ⟨q1, q2, q3⟩ := q
            have e2 : S = (S.take n).reverse.reverse ++ S.drop n := by rw [List.reverse_reverse, List.take_append_drop]
            rw [e2]
            exact hc pc _ L (S.drop n) (S.take n).reverse h (Or.inr ⟨hkd, rfl⟩) hdg (by rw [List.length_reverse, List.length_take]; omega) q2 (hM _ (dk_nth_mem e1) _ _ _ _ (fun r h2 z => ih (pc + 3) L _ h2 hrest z) q3)
          case goto off =>
            obtain ⟨b, hb1, hk⟩ := dk_bd_inv hk
            cases hk
            have hlen : len = 3 := hlen.resolve_left (by simp [dk_isT])
            subst hlen
            obtain ⟨tq, e1, e2⟩ := dk_tg_spec hb1
            intro H locs ls hW hS hl
            exact lv_goto hx hb hdg e1 (hJ b L S h q tq e2 H locs ls hW hS hl)
          case ifCond cd off =>
            obtain ⟨b, hb1, hk⟩ := dk_bd_inv hk
            cases hk
            have hlen : len = 3 := hlen.resolve_left (by simp [dk_isT])
            replace hrest := hrest.resolve_left (by simp [dk_tm])
            subst hlen
            obtain ⟨tq, e1, e2⟩ := dk_tg_spec hb1
            simp only [dk_r] at q
            split at q
            · rename_i x S
              obtain ⟨v1, q2, q3⟩ := q
              have v0 : dk_in 0 := ⟨by omega, by omega⟩
              intro H locs ls hW hS hl
              cases cd
              · exact lv_if_eq hx hb hdg e1 (fun z => hJ b L S h (q2 ((dk_ofInt_eq v1 v0).mp z)) tq e2 H locs ls hW hS hl) (fun z => ih (pc + 3) L S h hrest (q3 (fun w => z ((dk_ofInt_eq v1 v0).mpr w))) H locs ls hW hS hl)
              · exact lv_if_ne hx hb hdg e1 (fun z => hJ b L S h (q2 (fun w => z ((dk_ofInt_eq v1 v0).mpr w))) tq e2 H locs ls hW hS hl) (fun z => ih (pc + 3) L S h hrest (q3 (fun w => w ((dk_ofInt_eq v1 v0).mp z))) H locs ls hW hS hl)
              · exact lv_if_lt hx hb hdg e1 (fun z => hJ b L S h (q2 ((dk_ofInt_lt v1 v0).mp z)) tq e2 H locs ls hW hS hl) (fun z => ih (pc + 3) L S h hrest (q3 (fun w => z ((dk_ofInt_lt v1 v0).mpr w))) H locs ls hW hS hl)
              · exact lv_if_ge hx hb hdg e1 (fun z => hJ b L S h (q2 ((dk_ofInt_le v0 v1).mp z)) tq e2 H locs ls hW hS hl) (fun z => ih (pc + 3) L S h hrest (q3 (fun w => z ((dk_ofInt_le v0 v1).mpr w))) H locs ls hW hS hl)
              · exact lv_if_gt hx hb hdg e1 (fun z => hJ b L S h (q2 ((dk_ofInt_lt v0 v1).mp z)) tq e2 H locs ls hW hS hl) (fun z => ih (pc + 3) L S h hrest (q3 (fun w => z ((dk_ofInt_lt v0 v1).mpr w))) H locs ls hW hS hl)
              · exact lv_if_le hx hb hdg e1 (fun z => hJ b L S h (q2 ((dk_ofInt_le v1 v0).mp z)) tq e2 H locs ls hW hS hl) (fun z => ih (pc + 3) L S h hrest (q3 (fun w => z ((dk_ofInt_le v1 v0).mpr w))) H locs ls hW hS hl)
            · exact q.elim
          case if_icmp cd off =>
            obtain ⟨b, hb1, hk⟩ := dk_bd_inv hk
            cases hk
            have hlen : len = 3 := hlen.resolve_left (by simp [dk_isT])
            replace hrest := hrest.resolve_left (by simp [dk_tm])
            subst hlen
            obtain ⟨tq, e1, e2⟩ := dk_tg_spec hb1
            simp only [dk_r] at q
            split at q
            · rename_i y x S
              obtain ⟨v1, v2, q2, q3⟩ := q
              intro H locs ls hW hS hl
              cases cd
              · exact lv_icmp_eq hx hb hdg e1 (fun z => hJ b L S h (q2 ((dk_ofInt_eq v1 v2).mp z)) tq e2 H locs ls hW hS hl) (fun z => ih (pc + 3) L S h hrest (q3 (fun w => z ((dk_ofInt_eq v1 v2).mpr w))) H locs ls hW hS hl)
              · exact lv_icmp_ne hx hb hdg e1 (fun z => hJ b L S h (q2 (fun w => z ((dk_ofInt_eq v1 v2).mpr w))) tq e2 H locs ls hW hS hl) (fun z => ih (pc + 3) L S h hrest (q3 (fun w => w ((dk_ofInt_eq v1 v2).mp z))) H locs ls hW hS hl)
              · exact lv_icmp_lt hx hb hdg e1 (fun z => hJ b L S h (q2 ((dk_ofInt_lt v1 v2).mp z)) tq e2 H locs ls hW hS hl) (fun z => ih (pc + 3) L S h hrest (q3 (fun w => z ((dk_ofInt_lt v1 v2).mpr w))) H locs ls hW hS hl)
              · exact lv_icmp_ge hx hb hdg e1 (fun z => hJ b L S h (q2 ((dk_ofInt_le v2 v1).mp z)) tq e2 H locs ls hW hS hl) (fun z => ih (pc + 3) L S h hrest (q3 (fun w => z ((dk_ofInt_le v2 v1).mpr w))) H locs ls hW hS hl)
              · exact lv_icmp_gt hx hb hdg e1 (fun z => hJ b L S h (q2 ((dk_ofInt_lt v2 v1).mp z)) tq e2 H locs ls hW hS hl) (fun z => ih (pc + 3) L S h hrest (q3 (fun w => z ((dk_ofInt_lt v2 v1).mpr w))) H locs ls hW hS hl)
              · exact lv_icmp_le hx hb hdg e1 (fun z => hJ b L S h (q2 ((dk_ofInt_le v1 v2).mp z)) tq e2 H locs ls hW hS hl) (fun z => ih (pc + 3) L S h hrest (q3 (fun w => z ((dk_ofInt_le v1 v2).mpr w))) H locs ls hW hS hl)
            · exact q.elim
          case tableswitch d lo hi1 offs =>
            simp only [dk_k] at hk
            split at hk
            · rename_i hsz
              obtain ⟨b, hb1, hk⟩ := dk_bd_inv hk
              obtain ⟨bs, hb2, hk⟩ := dk_bd_inv hk
              cases hk
              simp only [dk_r] at q
              split at q
              · rename_i x S
                obtain ⟨v1, q2, q3⟩ := q
                intro H locs ls hW hS hl
                have ex := dk_toInt v1
                by_cases ho : x < lo ∨ hi1 < x
                · obtain ⟨tq, e1, e2⟩ := dk_tg_spec hb1
                  exact lv_tableOut (x := Int32.ofInt x) hx hb hdg (by rw [ex]; exact ho) e1 (hJ b L S h (q2 ho) tq e2 H locs ls hW hS hl)
                · have n1 : lo ≤ x := by omega
                  have n2 : x ≤ hi1 := by omega
                  obtain ⟨g1, g2⟩ := dk_tgs_at offs.toList bs hb2
                  have hlt : (x - lo).toNat < offs.toList.length := by rw [Array.length_toList]; omega
                  obtain ⟨b2, e3, e4⟩ := g2 (x - lo).toNat (offs.toList[(x - lo).toNat]) (List.getElem?_eq_getElem hlt)
                  obtain ⟨tq, e1, e2⟩ := dk_tg_spec e4
                  have q4 := dk_swI _ lo q3 n1 (b2 : Int) e3
                  exact lv_tableIn (x := Int32.ofInt x) hx hb hdg (by rw [ex]; omega) (by rw [ex]; omega) (by rw [ex, ← Array.getElem?_toList]; exact List.getElem?_eq_getElem hlt) e1 (hJ b2 L S h q4 tq e2 H locs ls hW hS hl)
              · exact q.elim
            · cases hk
          case ireturn =>
            have hk2 := hk
            obtain ⟨r, hr, hk⟩ := dk_bd_inv hk
            cases hk
            rcases dk_rt_inv hr with ⟨-, rfl⟩ | ⟨-, rfl⟩
            · have hlen : len = 1 := hlen.resolve_left (by simp [dk_isT])
              subst hlen
              exact hR pc _ _ is J L S h hdg hk2 (Or.inl rfl) q
            · have hlen : len = 1 := hlen.resolve_left (by simp [dk_isT])
              subst hlen
              exact hR pc _ _ is J L S h hdg hk2 (Or.inr (Or.inl rfl)) q
          case areturn =>
            have hk2 := hk
            simp only [dk_k] at hk
            split at hk
            · cases hk
              have hlen : len = 1 := hlen.resolve_left (by simp [dk_isT])
              subst hlen
              exact hR pc _ _ is J L S h hdg hk2 (Or.inr (Or.inr (Or.inl rfl))) q
            · cases hk
          case return_ =>
            have hk2 := hk
            simp only [dk_k] at hk
            split at hk
            · cases hk
              have hlen : len = 1 := hlen.resolve_left (by simp [dk_isT])
              subst hlen
              exact hR pc _ _ is J L S h hdg hk2 (Or.inr (Or.inr (Or.inr rfl))) q
            · cases hk
          case bipush =>
            simp only [dk_k] at hk
            split at hk <;> cases hk
            cases hi
          case sipush =>
            simp only [dk_k] at hk
            split at hk <;> cases hk
            cases hi
          case ldc =>
            simp only [dk_k] at hk
            split at hk
            · cases hk; cases hi
            · obtain ⟨k, hk1, hk⟩ := dk_bd_inv hk
              cases hk
              cases hi
          case ldc_w =>
            obtain ⟨k, hk1, hk⟩ := dk_bd_inv hk
            cases hk
            cases hi
          case ldc2_w =>
            obtain ⟨k, hk1, hk⟩ := dk_bd_inv hk
            cases hk
            cases hi
          case getfield =>
            obtain ⟨k, hk1, hk⟩ := dk_bd_inv hk
            cases hk
            cases hi
          case getstatic =>
            obtain ⟨k, hk1, hk⟩ := dk_bd_inv hk
            cases hk
            cases hi
          case putfield =>
            obtain ⟨k, hk1, hk⟩ := dk_bd_inv hk
            split at hk
            · rename_i hd
              cases hk
              rcases hd with hd | hd | hd | hd <;> rw [hd] at hi <;> cases hi
            · cases hk
          all_goals (first | (cases hk; done) | (cases hk; cases hi; done))
      · cases hck
/-- from a block's start -/
theorem dk_sound (hx : p.tables.exec = Jvm.exec) (hb : c.code = cc) (hown : s.vm.findClass own = some m.cls) (hts : ∀ w ∈ Ts, w.before args s = true)
    (hF : dk_Fx ad dA D N A cl ro s) (hT : dk_Tok ad A cl own Ts args s T.1) (hM : dk_monoG G)
    (hC : ∀ i kd j, dk_lk T.2.1 i = some (kd, j) → ∃ n Sm, dk_nth G j = some (n, Sm) ∧ dk_Cok p l e R s m args below meth c cells slots Q ad dA D N A cl ro nL cc kd i n Sm)
    (hR : ∀ (pc : Nat) (ins : Instr) (n : dk_N) (is : List dk_N) (J : Nat → dk_L → List dk_V → dk_H → Prop) (L : dk_L) (S : List dk_V) (h : dk_H), decode cc pc = .ok (ins, 1) → dk_k T pc ins = some n → dk_isR n → dk_r G Rq J (n :: is) L S h → dk_Go p l e R s m args below meth c cells slots Q ad dA D N A cl ro nL pc L S h)
    {tb : dk_T} (hck : dk_ckT T cc nL T.2.2.1 tb = true) {b : Nat} {L : dk_L} {S : List dk_V} {h : dk_H} (q : dk_WP G tb Rq b L S h) {pc : Nat} (hpc : dk_nth T.2.2.1 b = some pc) :
    dk_Go p l e R s m args below meth c cells slots Q ad dA D N A cl ro nL pc L S h := by
  refine q (fun b L S h => ∀ pc, dk_nth T.2.2.1 b = some pc → dk_Go p l e R s m args below meth c cells slots Q ad dA D N A cl ro nL pc L S h) ?_ pc hpc
  intro b L S h w pc hpc
  obtain ⟨mk1, is, e1, w⟩ := w
  obtain ⟨pc2, g1, g2, g3⟩ := dk_ckT_at _ _ hck b mk1 is e1
  cases hpc.symm.trans g1
  intro H locs ls hW hS hl
  exact dk_blockS hx hb hown hts hF hT hM hC hR (fun b L S h z q hq => z q hq) is pc _ S h g3 w H locs ls hW hS (dk_ls_mask g2 hl)
end DKB
