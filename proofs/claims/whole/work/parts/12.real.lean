/-! THE PURE MACHINE AND THE REAL ONE: values, cells, locals -/
def dk_cv (ad : Nat → Nat) : dk_V → Value
  | .inl e => .int (Int32.ofInt e)
  | .inr (.inl e) => .long (Int64.ofInt e)
  | .inr (.inr k) => .ref (ad k)
def dk_ce (ad : Nat → Nat) (dA : Nat → ClassId) : dk_C → va_E
  | .inl (2, n, f) => .inl (dA 2, n, .inr (.inr (.inr (.inr (fun j => some (ad (f j).toNat))))))
  | .inl (t, n, f) => .inl (dA t, n, .inl (fun j => Int32.ofInt (f j)))
  | .inr (ci, fs) => .inr (ci, fs.map (dk_cv ad))
def dk_ws (ad : Nat → Nat) (dA : Nat → ClassId) (N : Nat) (h : dk_H) : va_W := (List.range N).map (fun k => (ad k, dk_ce ad dA (h k)))
theorem dk_ws_at {ad : Nat → Nat} {dA : Nat → ClassId} {N : Nat} {h : dk_H} {k : Nat} (hk : k < N) : (dk_ws ad dA N h)[k]? = some (ad k, dk_ce ad dA (h k)) := by
  simp [dk_ws, hk]
theorem dk_ws_of {ad : Nat → Nat} {dA : Nat → ClassId} {N : Nat} {h : dk_H} {k : Nat} {q : Nat × va_E} (e : (dk_ws ad dA N h)[k]? = some q) : k < N ∧ q = (ad k, dk_ce ad dA (h k)) := by
  have hk : k < N := by
    have := (List.getElem?_eq_some_iff.mp e).1
    simpa [dk_ws] using this
  rw [dk_ws_at hk] at e
  exact ⟨hk, (Option.some.inj e).symm⟩
theorem dk_ws_set {ad : Nat → Nat} {dA : Nat → ClassId} {N : Nat} {h : dk_H} {k : Nat} (c : dk_C) : (dk_ws ad dA N h).set k (ad k, dk_ce ad dA c) = dk_ws ad dA N (dk_up h k c) := by
  apply List.ext_getElem?
  intro j
  by_cases hj : j < N
  · by_cases e : j = k
    · subst e
      rw [dk_ws_at hj, List.getElem?_set_self (by simpa [dk_ws] using hj)]
      simp [dk_up]
    · rw [dk_ws_at hj, List.getElem?_set_ne (fun z => e z.symm), dk_ws_at hj]
      simp [dk_up, e]
  · rw [List.getElem?_eq_none (by simpa [dk_ws] using hj), List.getElem?_eq_none (by simpa [dk_ws] using hj)]
theorem dk_toInt {e : Int} (h : dk_in e) : (Int32.ofInt e).toInt = e := Int32.toInt_ofInt_of_le (by have := h.1; omega) (by have := h.2; omega)
theorem dk_toInt64 {e : Int} (h : dk_in64 e) : (Int64.ofInt e).toInt = e := Int64.toInt_ofInt_of_le (by have := h.1; omega) (by have := h.2; omega)
theorem dk_ofInt_eq {x y : Int} (hx : dk_in x) (hy : dk_in y) : Int32.ofInt x = Int32.ofInt y ↔ x = y := by
  rw [← Int32.toInt_inj, dk_toInt hx, dk_toInt hy]
theorem dk_ofInt_le {x y : Int} (hx : dk_in x) (hy : dk_in y) : Int32.ofInt x ≤ Int32.ofInt y ↔ x ≤ y := by
  rw [Int32.le_iff_toInt_le, dk_toInt hx, dk_toInt hy]
theorem dk_ofInt_lt {x y : Int} (hx : dk_in x) (hy : dk_in y) : Int32.ofInt x < Int32.ofInt y ↔ x < y := by
  rw [Int32.lt_iff_toInt_lt, dk_toInt hx, dk_toInt hy]
theorem dk_clamp {i : Int} (h0 : 0 ≤ i) (h1 : i < 2147483648) : (Int32.ofInt i).toNatClampNeg = i.toNat := Int32.toNatClampNeg_ofInt_of_le (by omega) (by omega)
theorem dk_vin {i : Int} {n : Nat} (h0 : 0 ≤ i) (hn : i < n) (h1 : i < 2147483648) : vp_in (Int32.ofInt i) n := by
  rw [vp_in_iff, dk_toInt ⟨by omega, by omega⟩]
  omega
theorem dk_upd (f : Int → Int) {i : Int} (x : Int) (h0 : 0 ≤ i) (h1 : i < 2147483648) : upd (fun j : Nat => Int32.ofInt (f j)) (Int32.ofInt i).toNatClampNeg (Int32.ofInt x) = fun j : Nat => Int32.ofInt (dk_ui f i x j) := by
  funext j
  rw [dk_clamp h0 h1]
  unfold dk_ui upd
  by_cases e : j = i.toNat
  · rw [if_pos e, if_pos (by omega)]
  · rw [if_neg e, if_neg (by omega)]
def dk_ls (ad : Nat → Nat) (ls : Array Slot) (nL : Nat) (L : dk_L) : Prop := ls.size = nL ∧ L.length = nL ∧ lv_wf ls ∧ ∀ i v, dk_ld L i = some v → ls[i]? = some (.val (dk_cv ad v))
def dk_as (ad : Nat → Nat) (L : dk_L) : List (Nat × Value) := (List.range L.length).filterMap (fun i => (dk_ld L i).map (fun v => (i, dk_cv ad v)))
theorem dk_ld_lt : ∀ {L : dk_L} {i : Nat} {v : dk_V}, dk_ld L i = some v → i < L.length
  | [], _, _, h => by simp [dk_ld] at h
  | _ :: _, 0, _, _ => by simp
  | _ :: l, n + 1, v, h => by
    have := dk_ld_lt (L := l) (i := n) (v := v) h
    simp; omega
theorem dk_as_has {ad : Nat → Nat} {ls : Array Slot} {nL : Nat} {L : dk_L} (h : dk_ls ad ls nL L) : lv_has ls nL (dk_as ad L) := by
  refine ⟨h.1, h.2.2.1, fun q hq => ?_⟩
  obtain ⟨i, -, hi⟩ := List.mem_filterMap.mp hq
  cases e : dk_ld L i with
  | none => rw [e] at hi; cases hi
  | some v =>
    rw [e] at hi
    cases hi
    exact h.2.2.2 i v e
theorem dk_as_mem {ad : Nat → Nat} {L : dk_L} {i : Nat} {v : dk_V} (e : dk_ld L i = some v) : (i, dk_cv ad v) ∈ dk_as ad L :=
  List.mem_filterMap.mpr ⟨i, List.mem_range.mpr (dk_ld_lt e), by rw [e]; rfl⟩
theorem dk_st_len : ∀ (L : dk_L) (i : Nat) (x : dk_V), (dk_st L i x).length = L.length := by
  intro L i x
  fun_induction dk_st L i x <;> simp_all
theorem dk_st_ld : ∀ (L : dk_L) (i : Nat) (x : dk_V), i < L.length → ∀ (j : Nat) (v : dk_V), dk_ld (dk_st L i x) j = some v → (j = i ∧ v = x) ∨ (j ≠ i ∧ dk_ld L j = some v ∧ ¬ (j + 1 = i ∧ ∃ e, v = dk_J e)) := by
  intro L
  induction L with
  | nil => intro i x hi; simp at hi
  | cons a l ih =>
    intro i x hi j v h
    cases i with
    | zero =>
      cases j with
      | zero => simp only [dk_st, dk_ld, Option.some.injEq] at h; exact Or.inl ⟨rfl, h.symm⟩
      | succ j => exact Or.inr ⟨by omega, h, fun z => by omega⟩
    | succ n =>
      simp only [List.length_cons] at hi
      have go : dk_ld (a :: dk_st l n x) j = some v → ¬ (n = 0 ∧ ∃ e, a = some (dk_J e)) → (j = n + 1 ∧ v = x) ∨ (j ≠ n + 1 ∧ dk_ld (a :: l) j = some v ∧ ¬ (j + 1 = n + 1 ∧ ∃ e, v = dk_J e)) := by
        intro h hn
        cases j with
        | zero =>
          refine Or.inr ⟨by omega, h, fun z => hn ⟨by omega, ?_⟩⟩
          obtain ⟨e, rfl⟩ := z.2
          exact ⟨e, h⟩
        | succ j =>
          rcases ih n x (by omega) j v h with ⟨q1, q2⟩ | ⟨q1, q2, q3⟩
          · exact Or.inl ⟨by omega, q2⟩
          · exact Or.inr ⟨by omega, q2, fun z => q3 ⟨by omega, z.2⟩⟩
      by_cases c : n = 0 ∧ ∃ e, a = some (dk_J e)
      · obtain ⟨rfl, e, rfl⟩ := c
        cases l with
        | nil => simp at hi
        | cons b l =>
          match j, h with
          | 0, h => simp [dk_st, dk_ld] at h
          | 1, h => exact Or.inl ⟨rfl, (Option.some.inj (show some x = some v from h)).symm⟩
          | j + 2, h => exact Or.inr ⟨by omega, h, fun z => by omega⟩
      · refine go ?_ c
        have e1 : dk_st (a :: l) (n + 1) x = a :: dk_st l n x := by
          cases n with
          | succ n => cases a with
            | none => rfl
            | some w => rcases w with w | w | w <;> cases l <;> rfl
          | zero => cases a with
            | none => rfl
            | some w => rcases w with w | w | w
                        · rfl
                        · exact absurd ⟨rfl, w, rfl⟩ c
                        · rfl
        rw [e1] at h
        exact h
theorem dk_st2_len : ∀ (L : dk_L) (i : Nat) (x : dk_V), i + 1 < L.length → (dk_st2 L i x).length = L.length := by
  intro L
  induction L with
  | nil => intro i x hi; simp at hi
  | cons a l ih =>
    intro i x hi
    cases l with
    | nil => simp at hi
    | cons b l =>
      cases i with
      | zero => rfl
      | succ n =>
        have e2 := ih n x (by simp only [List.length_cons] at hi ⊢; omega)
        cases n with
        | succ n => cases a with
          | none => simp only [dk_st2, List.length_cons] at e2 ⊢; omega
          | some w => rcases w with w | w | w <;> cases l <;> simp only [dk_st2, List.length_cons] at e2 ⊢ <;> omega
        | zero => cases a with
          | none => simp only [dk_st2, List.length_cons] at e2 ⊢; omega
          | some w => rcases w with w | w | w <;> cases l <;> simp_all [dk_st2]
theorem dk_st2_ld : ∀ (L : dk_L) (i : Nat) (x : dk_V), i + 1 < L.length → ∀ (j : Nat) (v : dk_V), dk_ld (dk_st2 L i x) j = some v → (j = i ∧ v = x) ∨ (j ≠ i ∧ j ≠ i + 1 ∧ dk_ld L j = some v ∧ ¬ (j + 1 = i ∧ ∃ e, v = dk_J e)) := by
  intro L
  induction L with
  | nil => intro i x hi; simp at hi
  | cons a l ih =>
    intro i x hi j v h
    cases l with
    | nil => simp at hi
    | cons b l =>
    cases i with
    | zero =>
      match j, h with
      | 0, h => simp only [dk_st2, dk_ld, Option.some.injEq] at h; exact Or.inl ⟨rfl, h.symm⟩
      | 1, h => simp [dk_st2, dk_ld] at h
      | j + 2, h => exact Or.inr ⟨by omega, by omega, h, fun z => by omega⟩
    | succ n =>
      have hi2 : n + 1 < (b :: l).length := by simp only [List.length_cons] at hi ⊢; omega
      have go : dk_ld (a :: dk_st2 (b :: l) n x) j = some v → ¬ (n = 0 ∧ ∃ e, a = some (dk_J e)) → (j = n + 1 ∧ v = x) ∨ (j ≠ n + 1 ∧ j ≠ n + 1 + 1 ∧ dk_ld (a :: b :: l) j = some v ∧ ¬ (j + 1 = n + 1 ∧ ∃ e, v = dk_J e)) := by
        intro h hn
        cases j with
        | zero =>
          refine Or.inr ⟨by omega, by omega, h, fun z => hn ⟨by omega, ?_⟩⟩
          obtain ⟨e, rfl⟩ := z.2
          exact ⟨e, h⟩
        | succ j =>
          rcases ih n x hi2 j v h with ⟨q1, q2⟩ | ⟨q1, q2, q3, q4⟩
          · exact Or.inl ⟨by omega, q2⟩
          · exact Or.inr ⟨by omega, by omega, q3, fun z => q4 ⟨by omega, z.2⟩⟩
      by_cases c : n = 0 ∧ ∃ e, a = some (dk_J e)
      · obtain ⟨rfl, e, rfl⟩ := c
        cases l with
        | nil => simp at hi
        | cons d l =>
          match j, h with
          | 0, h => simp [dk_st2, dk_ld] at h
          | 1, h => exact Or.inl ⟨rfl, (Option.some.inj (show some x = some v from h)).symm⟩
          | 2, h => simp [dk_st2, dk_ld] at h
          | j + 3, h => exact Or.inr ⟨by omega, by omega, h, fun z => by omega⟩
      · refine go ?_ c
        have e1 : dk_st2 (a :: b :: l) (n + 1) x = a :: dk_st2 (b :: l) n x := by
          cases n with
          | succ n => cases a with
            | none => rfl
            | some w => rcases w with w | w | w <;> cases l <;> rfl
          | zero => cases a with
            | none => cases l <;> rfl
            | some w => rcases w with w | w | w
                        · cases l <;> rfl
                        · exact absurd ⟨rfl, w, rfl⟩ c
                        · cases l <;> rfl
        rw [e1] at h
        exact h
theorem dk_cv_cat (ad : Nat → Nat) (v : dk_V) : (dk_cv ad v).category = 2 ↔ ∃ e, v = dk_J e := by
  rcases v with e | e | e
  · simp [dk_cv, Value.category]
  · simp [dk_cv, Value.category]
  · simp [dk_cv, Value.category]
theorem dk_ls_st {ad : Nat → Nat} {ls ls2 : Array Slot} {nL i : Nat} {L : dk_L} {x : dk_V} (h : dk_ls ad ls nL L) (hi : i < L.length) (h2 : lv_has ls2 nL ((i, dk_cv ad x) :: (dk_as ad L).filter (fun q => !(q.1 == i) && !(q.1 + 1 == i && q.2.category == 2)))) : dk_ls ad ls2 nL (dk_st L i x) := by
  refine ⟨h2.1, by rw [dk_st_len]; exact h.2.1, h2.2.1, fun j v e => ?_⟩
  rcases dk_st_ld L i x hi j v e with ⟨rfl, rfl⟩ | ⟨q1, q2, q3⟩
  · exact h2.2.2 (_, _) List.mem_cons_self
  · refine h2.2.2 (j, dk_cv ad v) (List.mem_cons_of_mem _ (List.mem_filter.mpr ⟨dk_as_mem q2, ?_⟩))
    have q4 : ¬ (j + 1 = i ∧ (dk_cv ad v).category = 2) := fun z => q3 ⟨z.1, (dk_cv_cat ad v).mp z.2⟩
    simp only [Bool.and_eq_true, Bool.not_eq_true', beq_eq_false_iff_ne, ne_eq, Bool.and_eq_false_iff]
    refine ⟨q1, ?_⟩
    by_cases a : j + 1 = i
    · exact Or.inr (fun z => q4 ⟨a, z⟩)
    · exact Or.inl a
theorem dk_ls_st2 {ad : Nat → Nat} {ls ls2 : Array Slot} {nL i : Nat} {L : dk_L} {x : dk_V} (h : dk_ls ad ls nL L) (hi : i + 1 < L.length) (h2 : lv_has ls2 nL ((i, dk_cv ad x) :: (dk_as ad L).filter (fun q => !(q.1 == i) && (!(q.1 == i + 1) && !(q.1 + 1 == i && q.2.category == 2))))) : dk_ls ad ls2 nL (dk_st2 L i x) := by
  refine ⟨h2.1, by rw [dk_st2_len L i x hi]; exact h.2.1, h2.2.1, fun j v e => ?_⟩
  rcases dk_st2_ld L i x hi j v e with ⟨rfl, rfl⟩ | ⟨q1, q0, q2, q3⟩
  · exact h2.2.2 (_, _) List.mem_cons_self
  · refine h2.2.2 (j, dk_cv ad v) (List.mem_cons_of_mem _ (List.mem_filter.mpr ⟨dk_as_mem q2, ?_⟩))
    have q4 : ¬ (j + 1 = i ∧ (dk_cv ad v).category = 2) := fun z => q3 ⟨z.1, (dk_cv_cat ad v).mp z.2⟩
    simp only [Bool.and_eq_true, Bool.not_eq_true', beq_eq_false_iff_ne, ne_eq, Bool.and_eq_false_iff]
    refine ⟨q1, q0, ?_⟩
    by_cases a : j + 1 = i
    · exact Or.inr (fun z => q4 ⟨a, z⟩)
    · exact Or.inl a
theorem dk_mask_len : ∀ (m : List Bool) (L : dk_L), m.length = L.length → (dk_mask m L).length = L.length
  | [], [], _ => rfl
  | [], _ :: _, h => by simp at h
  | _ :: _, [], h => by simp at h
  | true :: m, a :: l, h => by simp only [dk_mask, List.length_cons] at h ⊢; rw [dk_mask_len m l (by omega)]
  | false :: m, a :: l, h => by simp only [dk_mask, List.length_cons] at h ⊢; rw [dk_mask_len m l (by omega)]
theorem dk_mask_ld : ∀ (m : List Bool) (L : dk_L) (i : Nat) (v : dk_V), dk_ld (dk_mask m L) i = some v → dk_ld L i = some v
  | [], _, i, v, h => by simp [dk_mask, dk_ld] at h
  | true :: _, [], i, v, h => by simp [dk_mask, dk_ld] at h
  | false :: _, [], i, v, h => by simp [dk_mask, dk_ld] at h
  | true :: m, a :: l, 0, v, h => h
  | true :: m, a :: l, i + 1, v, h => dk_mask_ld m l i v h
  | false :: m, a :: l, 0, v, h => by simp [dk_mask, dk_ld] at h
  | false :: m, a :: l, i + 1, v, h => dk_mask_ld m l i v h
theorem dk_ls_mask {ad : Nat → Nat} {ls : Array Slot} {nL : Nat} {L : dk_L} {m : List Bool} (hm : m.length = nL) (h : dk_ls ad ls nL L) : dk_ls ad ls nL (dk_mask m L) :=
  ⟨h.1, by rw [dk_mask_len m L (by rw [hm, h.2.1])]; exact h.2.1, h.2.2.1, fun i v e => h.2.2.2 i v (dk_mask_ld m L i v e)⟩
theorem dk_lc_args (ad : Nat → Nat) : ∀ (as : List dk_V) (b i : Nat) (v : dk_V), dk_ld (dk_lc as) i = some v → (b + i, dk_cv ad v) ∈ lv_args b (as.map (dk_cv ad))
  | [], b, i, v, h => by simp [dk_lc, dk_ld] at h
  | .inl e :: l, b, 0, v, h => by
    simp only [dk_lc, dk_ld, Option.some.injEq] at h
    rw [← h]
    exact List.mem_cons_self
  | .inl e :: l, b, i + 1, v, h => by
    have q := dk_lc_args ad l (b + 1) i v h
    rw [show b + (i + 1) = b + 1 + i by omega]
    exact List.mem_cons_of_mem _ q
  | .inr (.inr e) :: l, b, 0, v, h => by
    simp only [dk_lc, dk_ld, Option.some.injEq] at h
    rw [← h]
    exact List.mem_cons_self
  | .inr (.inr e) :: l, b, i + 1, v, h => by
    have q := dk_lc_args ad l (b + 1) i v h
    rw [show b + (i + 1) = b + 1 + i by omega]
    exact List.mem_cons_of_mem _ q
  | .inr (.inl e) :: l, b, 0, v, h => by
    simp only [dk_lc, dk_ld, Option.some.injEq] at h
    rw [← h]
    exact List.mem_cons_self
  | .inr (.inl e) :: l, b, 1, v, h => by simp [dk_lc, dk_ld] at h
  | .inr (.inl e) :: l, b, i + 2, v, h => by
    have q := dk_lc_args ad l (b + 2) i v h
    rw [show b + (i + 2) = b + 2 + i by omega]
    exact List.mem_cons_of_mem _ q
theorem dk_ld_app : ∀ (L : dk_L) (n i : Nat) (v : dk_V), dk_ld (L ++ List.replicate n none) i = some v → dk_ld L i = some v
  | [], 0, i, v, h => h
  | [], n + 1, 0, v, h => by simp [List.replicate, dk_ld] at h
  | [], n + 1, i + 1, v, h => by
    have : dk_ld ([] ++ List.replicate n none) i = some v := h
    have q := dk_ld_app [] n i v this
    simp [dk_ld] at q
  | a :: l, n, 0, v, h => h
  | a :: l, n, i + 1, v, h => dk_ld_app l n i v h
theorem dk_lc_len (ad : Nat → Nat) : ∀ (as : List dk_V), (dk_lc as).length = (lg_sl (as.map (dk_cv ad))).length
  | [] => rfl
  | .inl e :: l => by
    have := dk_lc_len ad l
    simp_all [dk_lc, lg_sl, dk_cv, Value.category]
  | .inr (.inr e) :: l => by
    have := dk_lc_len ad l
    simp_all [dk_lc, lg_sl, dk_cv, Value.category]
  | .inr (.inl e) :: l => by
    have := dk_lc_len ad l
    simp_all [dk_lc, lg_sl, dk_cv, Value.category]
theorem dk_entry (ad : Nat → Nat) (as : List dk_V) {n : Nat} (h : (dk_lc as).length ≤ n) : dk_ls ad ((lg_sl (as.map (dk_cv ad)) ++ List.replicate (n - (lg_sl (as.map (dk_cv ad))).length) Slot.unset).toArray) n (dk_args n as) := by
  obtain ⟨h1, h2, h3⟩ := lv_entry (as.map (dk_cv ad)) (n := n) (by rw [← dk_lc_len]; exact h)
  refine ⟨h1, by simp [dk_args]; omega, h2, fun i v e => ?_⟩
  have q := dk_lc_args ad as 0 i v (dk_ld_app _ _ _ _ e)
  rw [Nat.zero_add] at q
  exact h3 _ q
