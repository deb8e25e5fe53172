/-! NUMBERS: what the real instructions make of whole numbers -/
theorem dk_mm {x : Int} (h : dk_in x) : Int32.minValue.toInt ≤ x ∧ x ≤ Int32.maxValue.toInt := by
  have h1 := h.1
  have h2 := h.2
  exact ⟨by rw [Int32.toInt_minValue]; omega, by rw [Int32.toInt_maxValue]; omega⟩
theorem dk_mm64 {x : Int} (h : dk_in64 x) : Int64.minValue.toInt ≤ x ∧ x ≤ Int64.maxValue.toInt := by
  have h1 := h.1
  have h2 := h.2
  exact ⟨by rw [Int64.toInt_minValue]; omega, by rw [Int64.toInt_maxValue]; omega⟩
theorem dk_tdiv {x y : Int} (hx : dk_in x) (hy : dk_in y) : Int32.ofInt x / Int32.ofInt y = Int32.ofInt (x.tdiv y) := (Int32.ofInt_tdiv (dk_mm hx).1 (dk_mm hx).2 (dk_mm hy).1 (dk_mm hy).2).symm
theorem dk_tdiv64 {x y : Int} (hx : dk_in64 x) (hy : dk_in64 y) : Int64.ofInt x / Int64.ofInt y = Int64.ofInt (x.tdiv y) := (Int64.ofInt_tdiv (dk_mm64 hx).1 (dk_mm64 hx).2 (dk_mm64 hy).1 (dk_mm64 hy).2).symm
theorem dk_tmod {x y : Int} (hx : dk_in x) (hy : dk_in y) : Int32.ofInt x - Int32.ofInt x / Int32.ofInt y * Int32.ofInt y = Int32.ofInt (x.tmod y) := by
  rw [dk_tdiv hx hy, ← Int32.ofInt_mul, ← Int32.ofInt_sub]
  congr 1
  have := Int.tmod_def x y
  rw [this, Int.mul_comm]
theorem dk_tmod64 {x y : Int} (hx : dk_in64 x) (hy : dk_in64 y) : Int64.ofInt x - Int64.ofInt x / Int64.ofInt y * Int64.ofInt y = Int64.ofInt (x.tmod y) := by
  rw [dk_tdiv64 hx hy, ← Int64.ofInt_mul, ← Int64.ofInt_sub]
  congr 1
  have := Int.tmod_def x y
  rw [this, Int.mul_comm]
theorem dk_ne0 {y : Int} (hy : dk_in y) (h : ¬ y = 0) : ¬ Int32.ofInt y = 0 := by
  intro e
  have e2 : Int32.ofInt y = Int32.ofInt 0 := e
  exact h ((dk_ofInt_eq hy ⟨by omega, by omega⟩).mp e2)
theorem dk_ne064 {y : Int} (hy : dk_in64 y) (h : ¬ y = 0) : ¬ Int64.ofInt y = 0 := by
  intro e
  have e2 : (Int64.ofInt y).toInt = 0 := by rw [e]; rfl
  rw [dk_toInt64 hy] at e2
  exact h e2
theorem dk_tn (x : Int) : (Int32.ofInt x).toBitVec.toNat = (x % 4294967296).toNat := by
  rw [Int32.toBitVec_ofInt, BitVec.toNat_ofInt]
  rfl
theorem dk_bv {a b : Int32} (h : a.toBitVec.toNat = b.toBitVec.toNat) : a = b := Int32.toBitVec.inj (BitVec.eq_of_toNat_eq h)
theorem dk_lt32 {y : Int} (h0 : 0 ≤ y) (h1 : y < 32) : ∃ k : Fin 32, y = ((k : Nat) : Int) := ⟨⟨y.toNat, by omega⟩, by simp only; omega⟩
theorem dk_sh1 : ∀ k : Fin 32, (((Int32.ofInt ((k : Nat) : Int)) &&& 31).toBitVec.smod 32).toNat = k := by decide +kernel
theorem dk_sh2 : ∀ k : Fin 32, (((Int32.ofInt ((k : Nat) : Int)).toUInt32 &&& Int32.toUInt32 31).toBitVec % 32).toNat = k := by decide +kernel
theorem dk_shl (x : Int) {y : Int} (h0 : 0 ≤ y) (h1 : y < 32) : Int32.ofInt x <<< (Int32.ofInt y &&& 31) = Int32.ofInt (x * 2 ^ y.toNat) := by
  obtain ⟨k, rfl⟩ := dk_lt32 h0 h1
  apply dk_bv
  rw [pk_shl _ _ k (dk_sh1 k), dk_tn, dk_tn]
  have e1 : ((k : Nat) : Int).toNat = k := by omega
  rw [e1]
  have h2 : (0 : Int) ≤ x % 4294967296 := Int.emod_nonneg _ (by omega)
  have h3 : (0 : Int) ≤ x * 2 ^ (k : Nat) % 4294967296 := Int.emod_nonneg _ (by omega)
  apply Int.ofNat_inj.mp
  rw [Int.toNat_of_nonneg h3, show (2 ^ 32 : Nat) = 4294967296 from rfl, Int.natCast_emod, Int.natCast_mul, Int.natCast_pow, Int.toNat_of_nonneg h2]
  show x % 4294967296 * 2 ^ (k : Nat) % 4294967296 = x * 2 ^ (k : Nat) % 4294967296
  rw [Int.mul_emod, Int.emod_emod_of_dvd _ (Int.dvd_refl _), ← Int.mul_emod]
theorem dk_shr {x : Int} (hx : dk_in x) {y : Int} (h0 : 0 ≤ y) (h1 : y < 32) : Int32.ofInt x >>> (Int32.ofInt y &&& 31) = Int32.ofInt (x / 2 ^ y.toNat) := by
  obtain ⟨k, rfl⟩ := dk_lt32 h0 h1
  have e1 : ((k : Nat) : Int).toNat = k := by omega
  rw [e1]
  apply Int32.toInt_inj.mp
  rw [pk_shr _ _ k (dk_sh1 k), dk_toInt hx, Int.shiftRight_eq_div_pow]
  have p : (0 : Int) < 2 ^ (k : Nat) := Int.pow_pos (by omega)
  have h2 := hx.1
  have h3 := hx.2
  rw [dk_toInt]
  · push_cast; rfl
  · have p1 : (1 : Int) ≤ 2 ^ (k : Nat) := p
    constructor
    · rw [Int.le_ediv_iff_mul_le p]
      have : (2147483648 : Int) * 1 ≤ 2147483648 * 2 ^ (k : Nat) := Int.mul_le_mul_of_nonneg_left p1 (by omega)
      omega
    · apply Int.le_of_lt_add_one
      rw [Int.ediv_lt_iff_lt_mul p]
      have : (2147483648 : Int) * 1 ≤ 2147483648 * 2 ^ (k : Nat) := Int.mul_le_mul_of_nonneg_left p1 (by omega)
      omega
theorem dk_ushr (x : Int) {y : Int} (h0 : 0 ≤ y) (h1 : y < 32) : ((Int32.ofInt x).toUInt32 >>> ((Int32.ofInt y).toUInt32 &&& Int32.toUInt32 31)).toInt32 = Int32.ofInt (x % 4294967296 / 2 ^ y.toNat) := by
  obtain ⟨k, rfl⟩ := dk_lt32 h0 h1
  have e1 : ((k : Nat) : Int).toNat = k := by omega
  rw [e1]
  apply dk_bv
  rw [pk_ushr _ _ k (dk_sh2 k), dk_tn, dk_tn]
  have h2 : (0 : Int) ≤ x % 4294967296 := Int.emod_nonneg _ (by omega)
  have h4 : x % 4294967296 < 4294967296 := Int.emod_lt_of_pos _ (by omega)
  have p : (0 : Int) < 2 ^ (k : Nat) := Int.pow_pos (by omega)
  have h5 : 0 ≤ x % 4294967296 / 2 ^ (k : Nat) := Int.ediv_nonneg h2 (by omega)
  have h6 : x % 4294967296 / 2 ^ (k : Nat) ≤ x % 4294967296 := Int.ediv_le_self _ h2
  rw [Int.emod_eq_of_lt h5 (by omega)]
  apply Int.ofNat_inj.mp
  rw [Int.toNat_of_nonneg h5]
  push_cast
  rw [Int.toNat_of_nonneg h2]
theorem dk_bm8 (x : Int) : -128 ≤ x.bmod 256 ∧ x.bmod 256 < 128 := by
  have h1 := @Int.le_bmod x 256 (by omega)
  have h2 := @Int.bmod_lt x 256 (by omega)
  omega
theorem dk_bm16 (x : Int) : -32768 ≤ x.bmod 65536 ∧ x.bmod 65536 < 32768 := by
  have h1 := @Int.le_bmod x 65536 (by omega)
  have h2 := @Int.bmod_lt x 65536 (by omega)
  omega
theorem dk_i2b (x : Int) : (Int32.ofInt x).toInt8.toInt32 = Int32.ofInt (x.bmod 256) := by
  have := dk_bm8 x
  apply Int32.toInt_inj.mp
  rw [dk_toInt ⟨by omega, by omega⟩, Int8.toInt_toInt32, Int32.toInt8_ofInt, Int8.toInt_ofInt]
theorem dk_i2s (x : Int) : (Int32.ofInt x).toInt16.toInt32 = Int32.ofInt (x.bmod 65536) := by
  have := dk_bm16 x
  apply Int32.toInt_inj.mp
  rw [dk_toInt ⟨by omega, by omega⟩, Int16.toInt_toInt32, Int32.toInt16_ofInt, Int16.toInt_ofInt]
theorem dk_lcmp {x y : Int} (hx : dk_in64 x) (hy : dk_in64 y) : lg_cmp (Int64.ofInt x) (Int64.ofInt y) = Int32.ofInt (dk_cmp x y) := by
  unfold lg_cmp dk_cmp
  simp only [gt_iff_lt, Int64.lt_iff_toInt_lt, ← Int64.toInt_inj, dk_toInt64 hx, dk_toInt64 hy]
  split
  · rfl
  · split <;> rfl
theorem dk_andE (x y : Int) : Int32.ofInt (dk_and x y) = Int32.ofInt x &&& Int32.ofInt y := Int32.ofInt_toInt _
theorem dk_orE (x y : Int) : Int32.ofInt (dk_or x y) = Int32.ofInt x ||| Int32.ofInt y := Int32.ofInt_toInt _
theorem dk_xorE (x y : Int) : Int32.ofInt (dk_xor x y) = Int32.ofInt x ^^^ Int32.ofInt y := Int32.ofInt_toInt _
theorem dk_byteI {n : Int} (h : -128 ≤ n ∧ n ≤ 127) : (Int8.ofInt n).toInt32 = Int32.ofInt n := Int8.toInt32_ofInt (by rw [Int8.toInt_minValue]; omega) (by rw [Int8.toInt_maxValue]; omega)
theorem dk_shortI {n : Int} (h : -32768 ≤ n ∧ n ≤ 32767) : (Int16.ofInt n).toInt32 = Int32.ofInt n := Int16.toInt32_ofInt (by rw [Int16.toInt_minValue]; omega) (by rw [Int16.toInt_maxValue]; omega)
theorem dk_set_map {α β : Type} (f : α → β) : ∀ (l : List α) (k : Nat) (x : α), (dk_set l k x).map f = (l.map f).set k (f x)
  | [], _, _ => rfl
  | _ :: _, 0, _ => rfl
  | a :: l, k + 1, x => by simp only [dk_set, List.map_cons, List.set_cons_succ]; rw [dk_set_map f l k x]
theorem dk_nth_map {α β : Type} (f : α → β) : ∀ (l : List α) (k : Nat) (x : α), dk_nth l k = some x → (l.map f)[k]? = some (f x)
  | [], _, _, h => by simp [dk_nth] at h
  | a :: _, 0, x, h => by simp only [dk_nth, Option.some.injEq] at h; simp [h]
  | a :: l, k + 1, x, h => by simp only [List.map_cons, List.getElem?_cons_succ]; exact dk_nth_map f l k x h
theorem dk_nmE (e : Int) : Int32.ofInt (dk_nm e) = Int32.ofInt e := by
  unfold dk_nm
  split
  · rfl
  · apply Int32.toInt_inj.mp
    rw [Int32.toInt_ofInt, Int32.toInt_ofInt]
    exact Int.bmod_bmod
theorem dk_nm_in {e : Int} (h1 : -2147483648 ≤ e) (h2 : e ≤ 2147483647) : dk_nm e = e := if_pos ⟨h1, h2⟩
theorem dk_nm_bd (e : Int) : -2147483648 ≤ dk_nm e ∧ dk_nm e ≤ 2147483647 := by
  unfold dk_nm
  split
  · assumption
  · have h1 := @Int.le_bmod e 4294967296 (by omega)
    have h2 := @Int.bmod_lt e 4294967296 (by omega)
    omega
