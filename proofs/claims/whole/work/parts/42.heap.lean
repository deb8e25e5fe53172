/-! THE HEAP of the two objects: rows a, numbers i, the two walks' rows w; the script: n numbers xs -/
def hh_len (k : Nat) : Option (Nat × Nat) := match k with
  | 2 => some (0, 7)
  | 3 => some (0, 24)
  | 4 => some (0, 24)
  | 5 => some (0, 24)
  | 6 => some (0, 24)
  | 7 => some (0, 24)
  | 8 => some (0, 24)
  | 9 => some (0, 6)
  | 10 => some (0, 6)
  | 11 => some (0, 6)
  | 12 => some (0, 6)
  | 13 => some (0, 10)
  | 15 => some (0, 7)
  | 16 => some (0, 24)
  | 17 => some (0, 24)
  | 18 => some (0, 24)
  | 19 => some (0, 24)
  | 20 => some (0, 24)
  | 21 => some (0, 24)
  | 22 => some (0, 6)
  | 23 => some (0, 6)
  | 24 => some (0, 6)
  | 25 => some (0, 6)
  | 26 => some (0, 10)
  | 28 => some (0, 120)
  | 29 => some (0, 66)
  | 35 => some (0, 40)
  | 36 => some (0, 40)
  | 37 => some (0, 40)
  | 38 => some (0, 40)
  | 40 => some (0, 24)
  | 41 => some (1, 24)
  | 42 => some (0, 24)
  | 43 => some (0, 576)
  | 45 => some (0, 24)
  | 46 => some (0, 24)
  | 48 => some (0, 24)
  | 49 => some (0, 24)
  | 50 => some (0, 4824)
  | 51 => some (0, 24)
  | 52 => some (0, 7)
  | 54 => some (0, 7)
  | 55 => some (0, 7)
  | 56 => some (0, 7)
  | 57 => some (0, 120)
  | 58 => some (0, 24)
  | 59 => some (0, 18)
  | 60 => some (0, 6)
  | 61 => some (0, 10)
  | 62 => some (0, 7)
  | 63 => some (0, 120)
  | 64 => some (0, 180)
  | 65 => some (0, 24)
  | 66 => some (0, 24)
  | 67 => some (0, 4848)
  | 68 => some (0, 2400)
  | 69 => some (0, 24)
  | 70 => some (1, 24)
  | 71 => some (0, 4)
  | 72 => some (0, 4)
  | 73 => some (0, 160)
  | 74 => some (0, 40)
  | 75 => some (0, 200)
  | 76 => some (0, 4)
  | _ => none
def hh_ob (w : Nat → Nat) (i : Nat → Int) (k : Nat) : dk_C := match k with
  | 0 => .inr (5, [.inr (.inr 1), .inr (.inr 14), .inl (i 8), .inr (.inr 27), .inr (.inr 30), .inr (.inr 39), .inr (.inr 44), .inr (.inr 47), .inr (.inr 50), .inr (.inr 51), .inr (.inr 52)])
  | 1 => .inr (0, [.inr (.inr 2), .inl (i 0), .inr (.inr 3), .inr (.inr 4), .inr (.inr 5), .inr (.inr 6), .inr (.inr 7), .inr (.inr 8), .inl (i 1), .inr (.inr 9), .inr (.inr 10), .inr (.inr 11), .inl (i 2), .inr (.inr 12), .inr (.inr 13), .inl (i 3)])
  | 14 => .inr (0, [.inr (.inr 15), .inl (i 4), .inr (.inr 16), .inr (.inr 17), .inr (.inr 18), .inr (.inr 19), .inr (.inr 20), .inr (.inr 21), .inl (i 5), .inr (.inr 22), .inr (.inr 23), .inr (.inr 24), .inl (i 6), .inr (.inr 25), .inr (.inr 26), .inl (i 7)])
  | 27 => .inr (3, [.inr (.inr 28), .inl (i 9), .inl (i 10), .inl (i 11), .inr (.inr 29), .inl (i 12), .inl (i 13), .inl (i 14), .inl (i 15)])
  | 31 => .inr (2, [.inl (i 16), .inl (i 20), .inr (.inr 35)])
  | 32 => .inr (2, [.inl (i 17), .inl (i 21), .inr (.inr 36)])
  | 33 => .inr (2, [.inl (i 18), .inl (i 22), .inr (.inr 37)])
  | 34 => .inr (2, [.inl (i 19), .inl (i 23), .inr (.inr 38)])
  | 39 => .inr (1, [.inr (.inr 1), .inl (i 24), .inr (.inr 40), .inr (.inr 41), .inr (.inr 42), .inr (.inr 43)])
  | 44 => .inr (4, [.inr (.inr 1), .inr (.inr 39), .inr (.inr (w 0)), .inr (.inr (w 1))])
  | 47 => .inr (4, [.inr (.inr 1), .inr (.inr 39), .inr (.inr (w 2)), .inr (.inr (w 3))])
  | 53 => .inr (6, [.inr (.inr 54), .inr (.inr 55), .inr (.inr 56), .inl (i 30), .inr (.inr 57), .inr (.inr 58), .inl (i 31), .inr (.inr 59), .inl (i 32), .inr (.inr 60), .inl (i 33), .inr (.inr 61), .inr (.inr 62), .inr (.inr 63), .inl (i 34), .inl (i 35), .inl (i 36), .inl (i 37), .inr (.inl (i 38)), .inl (i 39), .inl (i 40), .inr (.inr 64), .inl (i 41), .inr (.inr 65), .inr (.inr 66), .inr (.inr 67), .inr (.inr 68), .inr (.inr 69), .inr (.inr 70), .inr (.inr 71), .inr (.inr 72), .inr (.inr 73), .inr (.inr 74), .inl (i 42), .inr (.inr 75), .inl (i 43), .inr (.inr 76)])
  | _ => .inl (2, 4, fun j => 31 + j)
def hh_t (l : List Int) : Int → Int := fun j => l.getD j.toNat 0
def hh_le : Int → Int := hh_t [100, 500, -200, 0, -999, 0, 0]
def hh_mo : Int → Int := hh_t [2000, 2000, 200, 500, 999, 999, 999]
def hh_un : Int → Int := hh_t [-1, 0, 0, 2, 1, 0, 5]
def hh_ro (n : Nat) (xs : Int → Int) (k : Nat) : dk_C := match k with
  | 100 => .inl (4, n, xs)
  | 101 => .inl (4, 7, hh_le)
  | 102 => .inl (4, 7, hh_mo)
  | 103 => .inl (4, 7, hh_un)
  | _ => .inl (5, 0, fun _ => 0)
def HH (n : Nat) (xs : Int → Int) (w : Nat → Nat) (a : Nat → Int → Int) (i : Nat → Int) : dk_H := fun k => match hh_len k with
  | some (t, m) => .inl (t, m, a k)
  | none => if k < 77 then hh_ob w i k else hh_ro n xs k
section XH
variable {G : List (Nat × dk_S)} {R : dk_Q} {J : Nat → dk_L → List dk_V → dk_H → Prop} {is : List dk_N} {L : dk_L} {S : List dk_V} {n : Nat} {xs : Int → Int} {w : Nat → Nat} {a : Nat → Int → Int} {i : Nat → Int}
theorem HH_ua {k t m : Nat} (hk : hh_len k = some (t, m)) (f : Int → Int) : dk_up (HH n xs w a i) k (.inl (t, m, f)) = HH n xs w (dk_up a k f) i := by
  funext j
  by_cases e : j = k
  · subst e
    simp only [dk_up, HH, hk, if_true]
  · simp only [dk_up, HH, if_neg e]
theorem HH_at {k t m : Nat} (hk : hh_len k = some (t, m)) : HH n xs w a i k = .inl (t, m, a k) := by simp only [HH, hk]
theorem HH_ui {k : Nat} (hk : hh_len k = none) (hk2 : k < 77) {i2 : Nat → Int} {w2 : Nat → Nat} (h : ∀ j, ¬ j = k → hh_ob w2 i2 j = hh_ob w i j) : dk_up (HH n xs w a i) k (hh_ob w2 i2 k) = HH n xs w2 a i2 := by
  funext j
  by_cases e : j = k
  · subst e
    simp only [dk_up, HH, hk, if_true, if_pos hk2]
  · simp only [dk_up, HH, if_neg e, h j e]
theorem xo_0_0  : dk_r G R J (.inr (0, 5, 0) :: is) L (.inr (.inr 0) :: S) (HH n xs w a i) = dk_r G R J is L (.inr (.inr 1) :: S) (HH n xs w a i) := propext ⟨fun q => And.right (a := True) q, fun q => (⟨trivial, q⟩ : True ∧ _)⟩
theorem xo_0_1  : dk_r G R J (.inr (0, 5, 1) :: is) L (.inr (.inr 0) :: S) (HH n xs w a i) = dk_r G R J is L (.inr (.inr 14) :: S) (HH n xs w a i) := propext ⟨fun q => And.right (a := True) q, fun q => (⟨trivial, q⟩ : True ∧ _)⟩
theorem xo_0_2  : dk_r G R J (.inr (0, 5, 2) :: is) L (.inr (.inr 0) :: S) (HH n xs w a i) = dk_r G R J is L (.inl (i 8) :: S) (HH n xs w a i) := propext ⟨fun q => And.right (a := True) q, fun q => (⟨trivial, q⟩ : True ∧ _)⟩
theorem xo_0_3  : dk_r G R J (.inr (0, 5, 3) :: is) L (.inr (.inr 0) :: S) (HH n xs w a i) = dk_r G R J is L (.inr (.inr 27) :: S) (HH n xs w a i) := propext ⟨fun q => And.right (a := True) q, fun q => (⟨trivial, q⟩ : True ∧ _)⟩
theorem xo_0_4  : dk_r G R J (.inr (0, 5, 4) :: is) L (.inr (.inr 0) :: S) (HH n xs w a i) = dk_r G R J is L (.inr (.inr 30) :: S) (HH n xs w a i) := propext ⟨fun q => And.right (a := True) q, fun q => (⟨trivial, q⟩ : True ∧ _)⟩
theorem xo_0_5  : dk_r G R J (.inr (0, 5, 5) :: is) L (.inr (.inr 0) :: S) (HH n xs w a i) = dk_r G R J is L (.inr (.inr 39) :: S) (HH n xs w a i) := propext ⟨fun q => And.right (a := True) q, fun q => (⟨trivial, q⟩ : True ∧ _)⟩
theorem xo_0_6  : dk_r G R J (.inr (0, 5, 6) :: is) L (.inr (.inr 0) :: S) (HH n xs w a i) = dk_r G R J is L (.inr (.inr 44) :: S) (HH n xs w a i) := propext ⟨fun q => And.right (a := True) q, fun q => (⟨trivial, q⟩ : True ∧ _)⟩
theorem xo_0_7  : dk_r G R J (.inr (0, 5, 7) :: is) L (.inr (.inr 0) :: S) (HH n xs w a i) = dk_r G R J is L (.inr (.inr 47) :: S) (HH n xs w a i) := propext ⟨fun q => And.right (a := True) q, fun q => (⟨trivial, q⟩ : True ∧ _)⟩
theorem xo_0_8  : dk_r G R J (.inr (0, 5, 8) :: is) L (.inr (.inr 0) :: S) (HH n xs w a i) = dk_r G R J is L (.inr (.inr 50) :: S) (HH n xs w a i) := propext ⟨fun q => And.right (a := True) q, fun q => (⟨trivial, q⟩ : True ∧ _)⟩
theorem xo_0_9  : dk_r G R J (.inr (0, 5, 9) :: is) L (.inr (.inr 0) :: S) (HH n xs w a i) = dk_r G R J is L (.inr (.inr 51) :: S) (HH n xs w a i) := propext ⟨fun q => And.right (a := True) q, fun q => (⟨trivial, q⟩ : True ∧ _)⟩
theorem xo_0_10  : dk_r G R J (.inr (0, 5, 10) :: is) L (.inr (.inr 0) :: S) (HH n xs w a i) = dk_r G R J is L (.inr (.inr 52) :: S) (HH n xs w a i) := propext ⟨fun q => And.right (a := True) q, fun q => (⟨trivial, q⟩ : True ∧ _)⟩
theorem xo_1_0  : dk_r G R J (.inr (0, 0, 0) :: is) L (.inr (.inr 1) :: S) (HH n xs w a i) = dk_r G R J is L (.inr (.inr 2) :: S) (HH n xs w a i) := propext ⟨fun q => And.right (a := True) q, fun q => (⟨trivial, q⟩ : True ∧ _)⟩
theorem xo_1_1  : dk_r G R J (.inr (0, 0, 1) :: is) L (.inr (.inr 1) :: S) (HH n xs w a i) = dk_r G R J is L (.inl (i 0) :: S) (HH n xs w a i) := propext ⟨fun q => And.right (a := True) q, fun q => (⟨trivial, q⟩ : True ∧ _)⟩
theorem xo_1_2  : dk_r G R J (.inr (0, 0, 2) :: is) L (.inr (.inr 1) :: S) (HH n xs w a i) = dk_r G R J is L (.inr (.inr 3) :: S) (HH n xs w a i) := propext ⟨fun q => And.right (a := True) q, fun q => (⟨trivial, q⟩ : True ∧ _)⟩
theorem xo_1_3  : dk_r G R J (.inr (0, 0, 3) :: is) L (.inr (.inr 1) :: S) (HH n xs w a i) = dk_r G R J is L (.inr (.inr 4) :: S) (HH n xs w a i) := propext ⟨fun q => And.right (a := True) q, fun q => (⟨trivial, q⟩ : True ∧ _)⟩
theorem xo_1_4  : dk_r G R J (.inr (0, 0, 4) :: is) L (.inr (.inr 1) :: S) (HH n xs w a i) = dk_r G R J is L (.inr (.inr 5) :: S) (HH n xs w a i) := propext ⟨fun q => And.right (a := True) q, fun q => (⟨trivial, q⟩ : True ∧ _)⟩
theorem xo_1_5  : dk_r G R J (.inr (0, 0, 5) :: is) L (.inr (.inr 1) :: S) (HH n xs w a i) = dk_r G R J is L (.inr (.inr 6) :: S) (HH n xs w a i) := propext ⟨fun q => And.right (a := True) q, fun q => (⟨trivial, q⟩ : True ∧ _)⟩
theorem xo_1_6  : dk_r G R J (.inr (0, 0, 6) :: is) L (.inr (.inr 1) :: S) (HH n xs w a i) = dk_r G R J is L (.inr (.inr 7) :: S) (HH n xs w a i) := propext ⟨fun q => And.right (a := True) q, fun q => (⟨trivial, q⟩ : True ∧ _)⟩
theorem xo_1_7  : dk_r G R J (.inr (0, 0, 7) :: is) L (.inr (.inr 1) :: S) (HH n xs w a i) = dk_r G R J is L (.inr (.inr 8) :: S) (HH n xs w a i) := propext ⟨fun q => And.right (a := True) q, fun q => (⟨trivial, q⟩ : True ∧ _)⟩
theorem xo_1_8  : dk_r G R J (.inr (0, 0, 8) :: is) L (.inr (.inr 1) :: S) (HH n xs w a i) = dk_r G R J is L (.inl (i 1) :: S) (HH n xs w a i) := propext ⟨fun q => And.right (a := True) q, fun q => (⟨trivial, q⟩ : True ∧ _)⟩
theorem xo_1_9  : dk_r G R J (.inr (0, 0, 9) :: is) L (.inr (.inr 1) :: S) (HH n xs w a i) = dk_r G R J is L (.inr (.inr 9) :: S) (HH n xs w a i) := propext ⟨fun q => And.right (a := True) q, fun q => (⟨trivial, q⟩ : True ∧ _)⟩
theorem xo_1_10  : dk_r G R J (.inr (0, 0, 10) :: is) L (.inr (.inr 1) :: S) (HH n xs w a i) = dk_r G R J is L (.inr (.inr 10) :: S) (HH n xs w a i) := propext ⟨fun q => And.right (a := True) q, fun q => (⟨trivial, q⟩ : True ∧ _)⟩
theorem xo_1_11  : dk_r G R J (.inr (0, 0, 11) :: is) L (.inr (.inr 1) :: S) (HH n xs w a i) = dk_r G R J is L (.inr (.inr 11) :: S) (HH n xs w a i) := propext ⟨fun q => And.right (a := True) q, fun q => (⟨trivial, q⟩ : True ∧ _)⟩
theorem xo_1_12  : dk_r G R J (.inr (0, 0, 12) :: is) L (.inr (.inr 1) :: S) (HH n xs w a i) = dk_r G R J is L (.inl (i 2) :: S) (HH n xs w a i) := propext ⟨fun q => And.right (a := True) q, fun q => (⟨trivial, q⟩ : True ∧ _)⟩
theorem xo_1_13  : dk_r G R J (.inr (0, 0, 13) :: is) L (.inr (.inr 1) :: S) (HH n xs w a i) = dk_r G R J is L (.inr (.inr 12) :: S) (HH n xs w a i) := propext ⟨fun q => And.right (a := True) q, fun q => (⟨trivial, q⟩ : True ∧ _)⟩
theorem xo_1_14  : dk_r G R J (.inr (0, 0, 14) :: is) L (.inr (.inr 1) :: S) (HH n xs w a i) = dk_r G R J is L (.inr (.inr 13) :: S) (HH n xs w a i) := propext ⟨fun q => And.right (a := True) q, fun q => (⟨trivial, q⟩ : True ∧ _)⟩
theorem xo_1_15  : dk_r G R J (.inr (0, 0, 15) :: is) L (.inr (.inr 1) :: S) (HH n xs w a i) = dk_r G R J is L (.inl (i 3) :: S) (HH n xs w a i) := propext ⟨fun q => And.right (a := True) q, fun q => (⟨trivial, q⟩ : True ∧ _)⟩
theorem xo_14_0  : dk_r G R J (.inr (0, 0, 0) :: is) L (.inr (.inr 14) :: S) (HH n xs w a i) = dk_r G R J is L (.inr (.inr 15) :: S) (HH n xs w a i) := propext ⟨fun q => And.right (a := True) q, fun q => (⟨trivial, q⟩ : True ∧ _)⟩
theorem xo_14_1  : dk_r G R J (.inr (0, 0, 1) :: is) L (.inr (.inr 14) :: S) (HH n xs w a i) = dk_r G R J is L (.inl (i 4) :: S) (HH n xs w a i) := propext ⟨fun q => And.right (a := True) q, fun q => (⟨trivial, q⟩ : True ∧ _)⟩
theorem xo_14_2  : dk_r G R J (.inr (0, 0, 2) :: is) L (.inr (.inr 14) :: S) (HH n xs w a i) = dk_r G R J is L (.inr (.inr 16) :: S) (HH n xs w a i) := propext ⟨fun q => And.right (a := True) q, fun q => (⟨trivial, q⟩ : True ∧ _)⟩
theorem xo_14_3  : dk_r G R J (.inr (0, 0, 3) :: is) L (.inr (.inr 14) :: S) (HH n xs w a i) = dk_r G R J is L (.inr (.inr 17) :: S) (HH n xs w a i) := propext ⟨fun q => And.right (a := True) q, fun q => (⟨trivial, q⟩ : True ∧ _)⟩
theorem xo_14_4  : dk_r G R J (.inr (0, 0, 4) :: is) L (.inr (.inr 14) :: S) (HH n xs w a i) = dk_r G R J is L (.inr (.inr 18) :: S) (HH n xs w a i) := propext ⟨fun q => And.right (a := True) q, fun q => (⟨trivial, q⟩ : True ∧ _)⟩
theorem xo_14_5  : dk_r G R J (.inr (0, 0, 5) :: is) L (.inr (.inr 14) :: S) (HH n xs w a i) = dk_r G R J is L (.inr (.inr 19) :: S) (HH n xs w a i) := propext ⟨fun q => And.right (a := True) q, fun q => (⟨trivial, q⟩ : True ∧ _)⟩
theorem xo_14_6  : dk_r G R J (.inr (0, 0, 6) :: is) L (.inr (.inr 14) :: S) (HH n xs w a i) = dk_r G R J is L (.inr (.inr 20) :: S) (HH n xs w a i) := propext ⟨fun q => And.right (a := True) q, fun q => (⟨trivial, q⟩ : True ∧ _)⟩
theorem xo_14_7  : dk_r G R J (.inr (0, 0, 7) :: is) L (.inr (.inr 14) :: S) (HH n xs w a i) = dk_r G R J is L (.inr (.inr 21) :: S) (HH n xs w a i) := propext ⟨fun q => And.right (a := True) q, fun q => (⟨trivial, q⟩ : True ∧ _)⟩
theorem xo_14_8  : dk_r G R J (.inr (0, 0, 8) :: is) L (.inr (.inr 14) :: S) (HH n xs w a i) = dk_r G R J is L (.inl (i 5) :: S) (HH n xs w a i) := propext ⟨fun q => And.right (a := True) q, fun q => (⟨trivial, q⟩ : True ∧ _)⟩
theorem xo_14_9  : dk_r G R J (.inr (0, 0, 9) :: is) L (.inr (.inr 14) :: S) (HH n xs w a i) = dk_r G R J is L (.inr (.inr 22) :: S) (HH n xs w a i) := propext ⟨fun q => And.right (a := True) q, fun q => (⟨trivial, q⟩ : True ∧ _)⟩
theorem xo_14_10  : dk_r G R J (.inr (0, 0, 10) :: is) L (.inr (.inr 14) :: S) (HH n xs w a i) = dk_r G R J is L (.inr (.inr 23) :: S) (HH n xs w a i) := propext ⟨fun q => And.right (a := True) q, fun q => (⟨trivial, q⟩ : True ∧ _)⟩
theorem xo_14_11  : dk_r G R J (.inr (0, 0, 11) :: is) L (.inr (.inr 14) :: S) (HH n xs w a i) = dk_r G R J is L (.inr (.inr 24) :: S) (HH n xs w a i) := propext ⟨fun q => And.right (a := True) q, fun q => (⟨trivial, q⟩ : True ∧ _)⟩
theorem xo_14_12  : dk_r G R J (.inr (0, 0, 12) :: is) L (.inr (.inr 14) :: S) (HH n xs w a i) = dk_r G R J is L (.inl (i 6) :: S) (HH n xs w a i) := propext ⟨fun q => And.right (a := True) q, fun q => (⟨trivial, q⟩ : True ∧ _)⟩
theorem xo_14_13  : dk_r G R J (.inr (0, 0, 13) :: is) L (.inr (.inr 14) :: S) (HH n xs w a i) = dk_r G R J is L (.inr (.inr 25) :: S) (HH n xs w a i) := propext ⟨fun q => And.right (a := True) q, fun q => (⟨trivial, q⟩ : True ∧ _)⟩
theorem xo_14_14  : dk_r G R J (.inr (0, 0, 14) :: is) L (.inr (.inr 14) :: S) (HH n xs w a i) = dk_r G R J is L (.inr (.inr 26) :: S) (HH n xs w a i) := propext ⟨fun q => And.right (a := True) q, fun q => (⟨trivial, q⟩ : True ∧ _)⟩
theorem xo_14_15  : dk_r G R J (.inr (0, 0, 15) :: is) L (.inr (.inr 14) :: S) (HH n xs w a i) = dk_r G R J is L (.inl (i 7) :: S) (HH n xs w a i) := propext ⟨fun q => And.right (a := True) q, fun q => (⟨trivial, q⟩ : True ∧ _)⟩
theorem xo_27_0  : dk_r G R J (.inr (0, 3, 0) :: is) L (.inr (.inr 27) :: S) (HH n xs w a i) = dk_r G R J is L (.inr (.inr 28) :: S) (HH n xs w a i) := propext ⟨fun q => And.right (a := True) q, fun q => (⟨trivial, q⟩ : True ∧ _)⟩
theorem xo_27_1  : dk_r G R J (.inr (0, 3, 1) :: is) L (.inr (.inr 27) :: S) (HH n xs w a i) = dk_r G R J is L (.inl (i 9) :: S) (HH n xs w a i) := propext ⟨fun q => And.right (a := True) q, fun q => (⟨trivial, q⟩ : True ∧ _)⟩
theorem xo_27_2  : dk_r G R J (.inr (0, 3, 2) :: is) L (.inr (.inr 27) :: S) (HH n xs w a i) = dk_r G R J is L (.inl (i 10) :: S) (HH n xs w a i) := propext ⟨fun q => And.right (a := True) q, fun q => (⟨trivial, q⟩ : True ∧ _)⟩
theorem xo_27_3  : dk_r G R J (.inr (0, 3, 3) :: is) L (.inr (.inr 27) :: S) (HH n xs w a i) = dk_r G R J is L (.inl (i 11) :: S) (HH n xs w a i) := propext ⟨fun q => And.right (a := True) q, fun q => (⟨trivial, q⟩ : True ∧ _)⟩
theorem xo_27_4  : dk_r G R J (.inr (0, 3, 4) :: is) L (.inr (.inr 27) :: S) (HH n xs w a i) = dk_r G R J is L (.inr (.inr 29) :: S) (HH n xs w a i) := propext ⟨fun q => And.right (a := True) q, fun q => (⟨trivial, q⟩ : True ∧ _)⟩
theorem xo_27_5  : dk_r G R J (.inr (0, 3, 5) :: is) L (.inr (.inr 27) :: S) (HH n xs w a i) = dk_r G R J is L (.inl (i 12) :: S) (HH n xs w a i) := propext ⟨fun q => And.right (a := True) q, fun q => (⟨trivial, q⟩ : True ∧ _)⟩
theorem xo_27_6  : dk_r G R J (.inr (0, 3, 6) :: is) L (.inr (.inr 27) :: S) (HH n xs w a i) = dk_r G R J is L (.inl (i 13) :: S) (HH n xs w a i) := propext ⟨fun q => And.right (a := True) q, fun q => (⟨trivial, q⟩ : True ∧ _)⟩
theorem xo_27_7  : dk_r G R J (.inr (0, 3, 7) :: is) L (.inr (.inr 27) :: S) (HH n xs w a i) = dk_r G R J is L (.inl (i 14) :: S) (HH n xs w a i) := propext ⟨fun q => And.right (a := True) q, fun q => (⟨trivial, q⟩ : True ∧ _)⟩
theorem xo_27_8  : dk_r G R J (.inr (0, 3, 8) :: is) L (.inr (.inr 27) :: S) (HH n xs w a i) = dk_r G R J is L (.inl (i 15) :: S) (HH n xs w a i) := propext ⟨fun q => And.right (a := True) q, fun q => (⟨trivial, q⟩ : True ∧ _)⟩
theorem xo_31_0  : dk_r G R J (.inr (0, 2, 0) :: is) L (.inr (.inr 31) :: S) (HH n xs w a i) = dk_r G R J is L (.inl (i 16) :: S) (HH n xs w a i) := propext ⟨fun q => And.right (a := True) q, fun q => (⟨trivial, q⟩ : True ∧ _)⟩
theorem xo_31_1  : dk_r G R J (.inr (0, 2, 1) :: is) L (.inr (.inr 31) :: S) (HH n xs w a i) = dk_r G R J is L (.inl (i 20) :: S) (HH n xs w a i) := propext ⟨fun q => And.right (a := True) q, fun q => (⟨trivial, q⟩ : True ∧ _)⟩
theorem xo_31_2  : dk_r G R J (.inr (0, 2, 2) :: is) L (.inr (.inr 31) :: S) (HH n xs w a i) = dk_r G R J is L (.inr (.inr 35) :: S) (HH n xs w a i) := propext ⟨fun q => And.right (a := True) q, fun q => (⟨trivial, q⟩ : True ∧ _)⟩
theorem xo_32_0  : dk_r G R J (.inr (0, 2, 0) :: is) L (.inr (.inr 32) :: S) (HH n xs w a i) = dk_r G R J is L (.inl (i 17) :: S) (HH n xs w a i) := propext ⟨fun q => And.right (a := True) q, fun q => (⟨trivial, q⟩ : True ∧ _)⟩
theorem xo_32_1  : dk_r G R J (.inr (0, 2, 1) :: is) L (.inr (.inr 32) :: S) (HH n xs w a i) = dk_r G R J is L (.inl (i 21) :: S) (HH n xs w a i) := propext ⟨fun q => And.right (a := True) q, fun q => (⟨trivial, q⟩ : True ∧ _)⟩
theorem xo_32_2  : dk_r G R J (.inr (0, 2, 2) :: is) L (.inr (.inr 32) :: S) (HH n xs w a i) = dk_r G R J is L (.inr (.inr 36) :: S) (HH n xs w a i) := propext ⟨fun q => And.right (a := True) q, fun q => (⟨trivial, q⟩ : True ∧ _)⟩
theorem xo_33_0  : dk_r G R J (.inr (0, 2, 0) :: is) L (.inr (.inr 33) :: S) (HH n xs w a i) = dk_r G R J is L (.inl (i 18) :: S) (HH n xs w a i) := propext ⟨fun q => And.right (a := True) q, fun q => (⟨trivial, q⟩ : True ∧ _)⟩
theorem xo_33_1  : dk_r G R J (.inr (0, 2, 1) :: is) L (.inr (.inr 33) :: S) (HH n xs w a i) = dk_r G R J is L (.inl (i 22) :: S) (HH n xs w a i) := propext ⟨fun q => And.right (a := True) q, fun q => (⟨trivial, q⟩ : True ∧ _)⟩
theorem xo_33_2  : dk_r G R J (.inr (0, 2, 2) :: is) L (.inr (.inr 33) :: S) (HH n xs w a i) = dk_r G R J is L (.inr (.inr 37) :: S) (HH n xs w a i) := propext ⟨fun q => And.right (a := True) q, fun q => (⟨trivial, q⟩ : True ∧ _)⟩
theorem xo_34_0  : dk_r G R J (.inr (0, 2, 0) :: is) L (.inr (.inr 34) :: S) (HH n xs w a i) = dk_r G R J is L (.inl (i 19) :: S) (HH n xs w a i) := propext ⟨fun q => And.right (a := True) q, fun q => (⟨trivial, q⟩ : True ∧ _)⟩
theorem xo_34_1  : dk_r G R J (.inr (0, 2, 1) :: is) L (.inr (.inr 34) :: S) (HH n xs w a i) = dk_r G R J is L (.inl (i 23) :: S) (HH n xs w a i) := propext ⟨fun q => And.right (a := True) q, fun q => (⟨trivial, q⟩ : True ∧ _)⟩
theorem xo_34_2  : dk_r G R J (.inr (0, 2, 2) :: is) L (.inr (.inr 34) :: S) (HH n xs w a i) = dk_r G R J is L (.inr (.inr 38) :: S) (HH n xs w a i) := propext ⟨fun q => And.right (a := True) q, fun q => (⟨trivial, q⟩ : True ∧ _)⟩
theorem xo_39_0  : dk_r G R J (.inr (0, 1, 0) :: is) L (.inr (.inr 39) :: S) (HH n xs w a i) = dk_r G R J is L (.inr (.inr 1) :: S) (HH n xs w a i) := propext ⟨fun q => And.right (a := True) q, fun q => (⟨trivial, q⟩ : True ∧ _)⟩
theorem xo_39_1  : dk_r G R J (.inr (0, 1, 1) :: is) L (.inr (.inr 39) :: S) (HH n xs w a i) = dk_r G R J is L (.inl (i 24) :: S) (HH n xs w a i) := propext ⟨fun q => And.right (a := True) q, fun q => (⟨trivial, q⟩ : True ∧ _)⟩
theorem xo_39_2  : dk_r G R J (.inr (0, 1, 2) :: is) L (.inr (.inr 39) :: S) (HH n xs w a i) = dk_r G R J is L (.inr (.inr 40) :: S) (HH n xs w a i) := propext ⟨fun q => And.right (a := True) q, fun q => (⟨trivial, q⟩ : True ∧ _)⟩
theorem xo_39_3  : dk_r G R J (.inr (0, 1, 3) :: is) L (.inr (.inr 39) :: S) (HH n xs w a i) = dk_r G R J is L (.inr (.inr 41) :: S) (HH n xs w a i) := propext ⟨fun q => And.right (a := True) q, fun q => (⟨trivial, q⟩ : True ∧ _)⟩
theorem xo_39_4  : dk_r G R J (.inr (0, 1, 4) :: is) L (.inr (.inr 39) :: S) (HH n xs w a i) = dk_r G R J is L (.inr (.inr 42) :: S) (HH n xs w a i) := propext ⟨fun q => And.right (a := True) q, fun q => (⟨trivial, q⟩ : True ∧ _)⟩
theorem xo_39_5  : dk_r G R J (.inr (0, 1, 5) :: is) L (.inr (.inr 39) :: S) (HH n xs w a i) = dk_r G R J is L (.inr (.inr 43) :: S) (HH n xs w a i) := propext ⟨fun q => And.right (a := True) q, fun q => (⟨trivial, q⟩ : True ∧ _)⟩
theorem xo_44_0  : dk_r G R J (.inr (0, 4, 0) :: is) L (.inr (.inr 44) :: S) (HH n xs w a i) = dk_r G R J is L (.inr (.inr 1) :: S) (HH n xs w a i) := propext ⟨fun q => And.right (a := True) q, fun q => (⟨trivial, q⟩ : True ∧ _)⟩
theorem xo_44_1  : dk_r G R J (.inr (0, 4, 1) :: is) L (.inr (.inr 44) :: S) (HH n xs w a i) = dk_r G R J is L (.inr (.inr 39) :: S) (HH n xs w a i) := propext ⟨fun q => And.right (a := True) q, fun q => (⟨trivial, q⟩ : True ∧ _)⟩
theorem xo_44_2  : dk_r G R J (.inr (0, 4, 2) :: is) L (.inr (.inr 44) :: S) (HH n xs w a i) = dk_r G R J is L (.inr (.inr (w 0)) :: S) (HH n xs w a i) := propext ⟨fun q => And.right (a := True) q, fun q => (⟨trivial, q⟩ : True ∧ _)⟩
theorem xo_44_3  : dk_r G R J (.inr (0, 4, 3) :: is) L (.inr (.inr 44) :: S) (HH n xs w a i) = dk_r G R J is L (.inr (.inr (w 1)) :: S) (HH n xs w a i) := propext ⟨fun q => And.right (a := True) q, fun q => (⟨trivial, q⟩ : True ∧ _)⟩
theorem xo_47_0  : dk_r G R J (.inr (0, 4, 0) :: is) L (.inr (.inr 47) :: S) (HH n xs w a i) = dk_r G R J is L (.inr (.inr 1) :: S) (HH n xs w a i) := propext ⟨fun q => And.right (a := True) q, fun q => (⟨trivial, q⟩ : True ∧ _)⟩
theorem xo_47_1  : dk_r G R J (.inr (0, 4, 1) :: is) L (.inr (.inr 47) :: S) (HH n xs w a i) = dk_r G R J is L (.inr (.inr 39) :: S) (HH n xs w a i) := propext ⟨fun q => And.right (a := True) q, fun q => (⟨trivial, q⟩ : True ∧ _)⟩
theorem xo_47_2  : dk_r G R J (.inr (0, 4, 2) :: is) L (.inr (.inr 47) :: S) (HH n xs w a i) = dk_r G R J is L (.inr (.inr (w 2)) :: S) (HH n xs w a i) := propext ⟨fun q => And.right (a := True) q, fun q => (⟨trivial, q⟩ : True ∧ _)⟩
theorem xo_47_3  : dk_r G R J (.inr (0, 4, 3) :: is) L (.inr (.inr 47) :: S) (HH n xs w a i) = dk_r G R J is L (.inr (.inr (w 3)) :: S) (HH n xs w a i) := propext ⟨fun q => And.right (a := True) q, fun q => (⟨trivial, q⟩ : True ∧ _)⟩
theorem xo_53_0  : dk_r G R J (.inr (0, 6, 0) :: is) L (.inr (.inr 53) :: S) (HH n xs w a i) = dk_r G R J is L (.inr (.inr 54) :: S) (HH n xs w a i) := propext ⟨fun q => And.right (a := True) q, fun q => (⟨trivial, q⟩ : True ∧ _)⟩
theorem xo_53_1  : dk_r G R J (.inr (0, 6, 1) :: is) L (.inr (.inr 53) :: S) (HH n xs w a i) = dk_r G R J is L (.inr (.inr 55) :: S) (HH n xs w a i) := propext ⟨fun q => And.right (a := True) q, fun q => (⟨trivial, q⟩ : True ∧ _)⟩
theorem xo_53_2  : dk_r G R J (.inr (0, 6, 2) :: is) L (.inr (.inr 53) :: S) (HH n xs w a i) = dk_r G R J is L (.inr (.inr 56) :: S) (HH n xs w a i) := propext ⟨fun q => And.right (a := True) q, fun q => (⟨trivial, q⟩ : True ∧ _)⟩
theorem xo_53_3  : dk_r G R J (.inr (0, 6, 3) :: is) L (.inr (.inr 53) :: S) (HH n xs w a i) = dk_r G R J is L (.inl (i 30) :: S) (HH n xs w a i) := propext ⟨fun q => And.right (a := True) q, fun q => (⟨trivial, q⟩ : True ∧ _)⟩
theorem xo_53_4  : dk_r G R J (.inr (0, 6, 4) :: is) L (.inr (.inr 53) :: S) (HH n xs w a i) = dk_r G R J is L (.inr (.inr 57) :: S) (HH n xs w a i) := propext ⟨fun q => And.right (a := True) q, fun q => (⟨trivial, q⟩ : True ∧ _)⟩
theorem xo_53_5  : dk_r G R J (.inr (0, 6, 5) :: is) L (.inr (.inr 53) :: S) (HH n xs w a i) = dk_r G R J is L (.inr (.inr 58) :: S) (HH n xs w a i) := propext ⟨fun q => And.right (a := True) q, fun q => (⟨trivial, q⟩ : True ∧ _)⟩
theorem xo_53_6  : dk_r G R J (.inr (0, 6, 6) :: is) L (.inr (.inr 53) :: S) (HH n xs w a i) = dk_r G R J is L (.inl (i 31) :: S) (HH n xs w a i) := propext ⟨fun q => And.right (a := True) q, fun q => (⟨trivial, q⟩ : True ∧ _)⟩
theorem xo_53_7  : dk_r G R J (.inr (0, 6, 7) :: is) L (.inr (.inr 53) :: S) (HH n xs w a i) = dk_r G R J is L (.inr (.inr 59) :: S) (HH n xs w a i) := propext ⟨fun q => And.right (a := True) q, fun q => (⟨trivial, q⟩ : True ∧ _)⟩
theorem xo_53_8  : dk_r G R J (.inr (0, 6, 8) :: is) L (.inr (.inr 53) :: S) (HH n xs w a i) = dk_r G R J is L (.inl (i 32) :: S) (HH n xs w a i) := propext ⟨fun q => And.right (a := True) q, fun q => (⟨trivial, q⟩ : True ∧ _)⟩
theorem xo_53_9  : dk_r G R J (.inr (0, 6, 9) :: is) L (.inr (.inr 53) :: S) (HH n xs w a i) = dk_r G R J is L (.inr (.inr 60) :: S) (HH n xs w a i) := propext ⟨fun q => And.right (a := True) q, fun q => (⟨trivial, q⟩ : True ∧ _)⟩
theorem xo_53_10  : dk_r G R J (.inr (0, 6, 10) :: is) L (.inr (.inr 53) :: S) (HH n xs w a i) = dk_r G R J is L (.inl (i 33) :: S) (HH n xs w a i) := propext ⟨fun q => And.right (a := True) q, fun q => (⟨trivial, q⟩ : True ∧ _)⟩
theorem xo_53_11  : dk_r G R J (.inr (0, 6, 11) :: is) L (.inr (.inr 53) :: S) (HH n xs w a i) = dk_r G R J is L (.inr (.inr 61) :: S) (HH n xs w a i) := propext ⟨fun q => And.right (a := True) q, fun q => (⟨trivial, q⟩ : True ∧ _)⟩
theorem xo_53_12  : dk_r G R J (.inr (0, 6, 12) :: is) L (.inr (.inr 53) :: S) (HH n xs w a i) = dk_r G R J is L (.inr (.inr 62) :: S) (HH n xs w a i) := propext ⟨fun q => And.right (a := True) q, fun q => (⟨trivial, q⟩ : True ∧ _)⟩
theorem xo_53_13  : dk_r G R J (.inr (0, 6, 13) :: is) L (.inr (.inr 53) :: S) (HH n xs w a i) = dk_r G R J is L (.inr (.inr 63) :: S) (HH n xs w a i) := propext ⟨fun q => And.right (a := True) q, fun q => (⟨trivial, q⟩ : True ∧ _)⟩
theorem xo_53_14  : dk_r G R J (.inr (0, 6, 14) :: is) L (.inr (.inr 53) :: S) (HH n xs w a i) = dk_r G R J is L (.inl (i 34) :: S) (HH n xs w a i) := propext ⟨fun q => And.right (a := True) q, fun q => (⟨trivial, q⟩ : True ∧ _)⟩
theorem xo_53_15  : dk_r G R J (.inr (0, 6, 15) :: is) L (.inr (.inr 53) :: S) (HH n xs w a i) = dk_r G R J is L (.inl (i 35) :: S) (HH n xs w a i) := propext ⟨fun q => And.right (a := True) q, fun q => (⟨trivial, q⟩ : True ∧ _)⟩
theorem xo_53_16  : dk_r G R J (.inr (0, 6, 16) :: is) L (.inr (.inr 53) :: S) (HH n xs w a i) = dk_r G R J is L (.inl (i 36) :: S) (HH n xs w a i) := propext ⟨fun q => And.right (a := True) q, fun q => (⟨trivial, q⟩ : True ∧ _)⟩
theorem xo_53_17  : dk_r G R J (.inr (0, 6, 17) :: is) L (.inr (.inr 53) :: S) (HH n xs w a i) = dk_r G R J is L (.inl (i 37) :: S) (HH n xs w a i) := propext ⟨fun q => And.right (a := True) q, fun q => (⟨trivial, q⟩ : True ∧ _)⟩
theorem xo_53_18  : dk_r G R J (.inr (0, 6, 18) :: is) L (.inr (.inr 53) :: S) (HH n xs w a i) = dk_r G R J is L (.inr (.inl (i 38)) :: S) (HH n xs w a i) := propext ⟨fun q => And.right (a := True) q, fun q => (⟨trivial, q⟩ : True ∧ _)⟩
theorem xo_53_19  : dk_r G R J (.inr (0, 6, 19) :: is) L (.inr (.inr 53) :: S) (HH n xs w a i) = dk_r G R J is L (.inl (i 39) :: S) (HH n xs w a i) := propext ⟨fun q => And.right (a := True) q, fun q => (⟨trivial, q⟩ : True ∧ _)⟩
theorem xo_53_20  : dk_r G R J (.inr (0, 6, 20) :: is) L (.inr (.inr 53) :: S) (HH n xs w a i) = dk_r G R J is L (.inl (i 40) :: S) (HH n xs w a i) := propext ⟨fun q => And.right (a := True) q, fun q => (⟨trivial, q⟩ : True ∧ _)⟩
theorem xo_53_21  : dk_r G R J (.inr (0, 6, 21) :: is) L (.inr (.inr 53) :: S) (HH n xs w a i) = dk_r G R J is L (.inr (.inr 64) :: S) (HH n xs w a i) := propext ⟨fun q => And.right (a := True) q, fun q => (⟨trivial, q⟩ : True ∧ _)⟩
theorem xo_53_22  : dk_r G R J (.inr (0, 6, 22) :: is) L (.inr (.inr 53) :: S) (HH n xs w a i) = dk_r G R J is L (.inl (i 41) :: S) (HH n xs w a i) := propext ⟨fun q => And.right (a := True) q, fun q => (⟨trivial, q⟩ : True ∧ _)⟩
theorem xo_53_23  : dk_r G R J (.inr (0, 6, 23) :: is) L (.inr (.inr 53) :: S) (HH n xs w a i) = dk_r G R J is L (.inr (.inr 65) :: S) (HH n xs w a i) := propext ⟨fun q => And.right (a := True) q, fun q => (⟨trivial, q⟩ : True ∧ _)⟩
theorem xo_53_24  : dk_r G R J (.inr (0, 6, 24) :: is) L (.inr (.inr 53) :: S) (HH n xs w a i) = dk_r G R J is L (.inr (.inr 66) :: S) (HH n xs w a i) := propext ⟨fun q => And.right (a := True) q, fun q => (⟨trivial, q⟩ : True ∧ _)⟩
theorem xo_53_25  : dk_r G R J (.inr (0, 6, 25) :: is) L (.inr (.inr 53) :: S) (HH n xs w a i) = dk_r G R J is L (.inr (.inr 67) :: S) (HH n xs w a i) := propext ⟨fun q => And.right (a := True) q, fun q => (⟨trivial, q⟩ : True ∧ _)⟩
theorem xo_53_26  : dk_r G R J (.inr (0, 6, 26) :: is) L (.inr (.inr 53) :: S) (HH n xs w a i) = dk_r G R J is L (.inr (.inr 68) :: S) (HH n xs w a i) := propext ⟨fun q => And.right (a := True) q, fun q => (⟨trivial, q⟩ : True ∧ _)⟩
theorem xo_53_27  : dk_r G R J (.inr (0, 6, 27) :: is) L (.inr (.inr 53) :: S) (HH n xs w a i) = dk_r G R J is L (.inr (.inr 69) :: S) (HH n xs w a i) := propext ⟨fun q => And.right (a := True) q, fun q => (⟨trivial, q⟩ : True ∧ _)⟩
theorem xo_53_28  : dk_r G R J (.inr (0, 6, 28) :: is) L (.inr (.inr 53) :: S) (HH n xs w a i) = dk_r G R J is L (.inr (.inr 70) :: S) (HH n xs w a i) := propext ⟨fun q => And.right (a := True) q, fun q => (⟨trivial, q⟩ : True ∧ _)⟩
theorem xo_53_29  : dk_r G R J (.inr (0, 6, 29) :: is) L (.inr (.inr 53) :: S) (HH n xs w a i) = dk_r G R J is L (.inr (.inr 71) :: S) (HH n xs w a i) := propext ⟨fun q => And.right (a := True) q, fun q => (⟨trivial, q⟩ : True ∧ _)⟩
theorem xo_53_30  : dk_r G R J (.inr (0, 6, 30) :: is) L (.inr (.inr 53) :: S) (HH n xs w a i) = dk_r G R J is L (.inr (.inr 72) :: S) (HH n xs w a i) := propext ⟨fun q => And.right (a := True) q, fun q => (⟨trivial, q⟩ : True ∧ _)⟩
theorem xo_53_31  : dk_r G R J (.inr (0, 6, 31) :: is) L (.inr (.inr 53) :: S) (HH n xs w a i) = dk_r G R J is L (.inr (.inr 73) :: S) (HH n xs w a i) := propext ⟨fun q => And.right (a := True) q, fun q => (⟨trivial, q⟩ : True ∧ _)⟩
theorem xo_53_32  : dk_r G R J (.inr (0, 6, 32) :: is) L (.inr (.inr 53) :: S) (HH n xs w a i) = dk_r G R J is L (.inr (.inr 74) :: S) (HH n xs w a i) := propext ⟨fun q => And.right (a := True) q, fun q => (⟨trivial, q⟩ : True ∧ _)⟩
theorem xo_53_33  : dk_r G R J (.inr (0, 6, 33) :: is) L (.inr (.inr 53) :: S) (HH n xs w a i) = dk_r G R J is L (.inl (i 42) :: S) (HH n xs w a i) := propext ⟨fun q => And.right (a := True) q, fun q => (⟨trivial, q⟩ : True ∧ _)⟩
theorem xo_53_34  : dk_r G R J (.inr (0, 6, 34) :: is) L (.inr (.inr 53) :: S) (HH n xs w a i) = dk_r G R J is L (.inr (.inr 75) :: S) (HH n xs w a i) := propext ⟨fun q => And.right (a := True) q, fun q => (⟨trivial, q⟩ : True ∧ _)⟩
theorem xo_53_35  : dk_r G R J (.inr (0, 6, 35) :: is) L (.inr (.inr 53) :: S) (HH n xs w a i) = dk_r G R J is L (.inl (i 43) :: S) (HH n xs w a i) := propext ⟨fun q => And.right (a := True) q, fun q => (⟨trivial, q⟩ : True ∧ _)⟩
theorem xo_53_36  : dk_r G R J (.inr (0, 6, 36) :: is) L (.inr (.inr 53) :: S) (HH n xs w a i) = dk_r G R J is L (.inr (.inr 76) :: S) (HH n xs w a i) := propext ⟨fun q => And.right (a := True) q, fun q => (⟨trivial, q⟩ : True ∧ _)⟩
theorem xp_0_2 {e : Int} (hz : e = 0 ∨ e = 1) : dk_r G R J (.inr (2, 5, 2) :: is) L (.inl e :: .inr (.inr 0) :: S) (HH n xs w a i) = dk_r G R J is L S (HH n xs w a (dk_up i 8 e)) := by
  have e1 : dk_up (HH n xs w a i) 0 (hh_ob w (dk_up i 8 e) 0) = HH n xs w a (dk_up i 8 e) := HH_ui rfl (by decide) (fun j hj => by unfold hh_ob; split <;> first | rfl | exact absurd rfl hj)
  rw [← e1]
  exact propext ⟨fun q => And.right (a := (e = 0 ∨ e = 1)) q, fun q => (⟨hz, q⟩ : (e = 0 ∨ e = 1) ∧ _)⟩
theorem xp_1_1 {e : Int} (h1 : -2147483648 ≤ e) (h2 : e ≤ 2147483647) : dk_r G R J (.inr (1, 0, 1) :: is) L (.inl e :: .inr (.inr 1) :: S) (HH n xs w a i) = dk_r G R J is L S (HH n xs w a (dk_up i 0 e)) := by
  have e1 : dk_up (HH n xs w a i) 1 (hh_ob w (dk_up i 0 e) 1) = HH n xs w a (dk_up i 0 e) := HH_ui rfl (by decide) (fun j hj => by unfold hh_ob; split <;> first | rfl | exact absurd rfl hj)
  have e2 : dk_r G R J (.inr (1, 0, 1) :: is) L (.inl e :: .inr (.inr 1) :: S) (HH n xs w a i) = dk_r G R J is L S (dk_up (HH n xs w a i) 1 (hh_ob w (dk_up i 0 (dk_nm e)) 1)) := propext ⟨fun q => And.right (a := True) q, fun q => (⟨trivial, q⟩ : True ∧ _)⟩
  rw [e2, dk_nm_in h1 h2, e1]
theorem xp_1_8 {e : Int} (h1 : -2147483648 ≤ e) (h2 : e ≤ 2147483647) : dk_r G R J (.inr (1, 0, 8) :: is) L (.inl e :: .inr (.inr 1) :: S) (HH n xs w a i) = dk_r G R J is L S (HH n xs w a (dk_up i 1 e)) := by
  have e1 : dk_up (HH n xs w a i) 1 (hh_ob w (dk_up i 1 e) 1) = HH n xs w a (dk_up i 1 e) := HH_ui rfl (by decide) (fun j hj => by unfold hh_ob; split <;> first | rfl | exact absurd rfl hj)
  have e2 : dk_r G R J (.inr (1, 0, 8) :: is) L (.inl e :: .inr (.inr 1) :: S) (HH n xs w a i) = dk_r G R J is L S (dk_up (HH n xs w a i) 1 (hh_ob w (dk_up i 1 (dk_nm e)) 1)) := propext ⟨fun q => And.right (a := True) q, fun q => (⟨trivial, q⟩ : True ∧ _)⟩
  rw [e2, dk_nm_in h1 h2, e1]
theorem xp_1_12 {e : Int} (h1 : -2147483648 ≤ e) (h2 : e ≤ 2147483647) : dk_r G R J (.inr (1, 0, 12) :: is) L (.inl e :: .inr (.inr 1) :: S) (HH n xs w a i) = dk_r G R J is L S (HH n xs w a (dk_up i 2 e)) := by
  have e1 : dk_up (HH n xs w a i) 1 (hh_ob w (dk_up i 2 e) 1) = HH n xs w a (dk_up i 2 e) := HH_ui rfl (by decide) (fun j hj => by unfold hh_ob; split <;> first | rfl | exact absurd rfl hj)
  have e2 : dk_r G R J (.inr (1, 0, 12) :: is) L (.inl e :: .inr (.inr 1) :: S) (HH n xs w a i) = dk_r G R J is L S (dk_up (HH n xs w a i) 1 (hh_ob w (dk_up i 2 (dk_nm e)) 1)) := propext ⟨fun q => And.right (a := True) q, fun q => (⟨trivial, q⟩ : True ∧ _)⟩
  rw [e2, dk_nm_in h1 h2, e1]
theorem xp_1_15 {e : Int} (h1 : -2147483648 ≤ e) (h2 : e ≤ 2147483647) : dk_r G R J (.inr (1, 0, 15) :: is) L (.inl e :: .inr (.inr 1) :: S) (HH n xs w a i) = dk_r G R J is L S (HH n xs w a (dk_up i 3 e)) := by
  have e1 : dk_up (HH n xs w a i) 1 (hh_ob w (dk_up i 3 e) 1) = HH n xs w a (dk_up i 3 e) := HH_ui rfl (by decide) (fun j hj => by unfold hh_ob; split <;> first | rfl | exact absurd rfl hj)
  have e2 : dk_r G R J (.inr (1, 0, 15) :: is) L (.inl e :: .inr (.inr 1) :: S) (HH n xs w a i) = dk_r G R J is L S (dk_up (HH n xs w a i) 1 (hh_ob w (dk_up i 3 (dk_nm e)) 1)) := propext ⟨fun q => And.right (a := True) q, fun q => (⟨trivial, q⟩ : True ∧ _)⟩
  rw [e2, dk_nm_in h1 h2, e1]
theorem xq_1_15 {e : Int} : dk_r G R J (.inr (1, 0, 15) :: is) L (.inl e :: .inr (.inr 1) :: S) (HH n xs w a i) = dk_r G R J is L S (HH n xs w a (dk_up i 3 (dk_nm e))) := by
  have e1 : dk_up (HH n xs w a i) 1 (hh_ob w (dk_up i 3 (dk_nm e)) 1) = HH n xs w a (dk_up i 3 (dk_nm e)) := HH_ui rfl (by decide) (fun j hj => by unfold hh_ob; split <;> first | rfl | exact absurd rfl hj)
  rw [← e1]
  exact propext ⟨fun q => And.right (a := True) q, fun q => (⟨trivial, q⟩ : True ∧ _)⟩
theorem xp_14_1 {e : Int} (h1 : -2147483648 ≤ e) (h2 : e ≤ 2147483647) : dk_r G R J (.inr (1, 0, 1) :: is) L (.inl e :: .inr (.inr 14) :: S) (HH n xs w a i) = dk_r G R J is L S (HH n xs w a (dk_up i 4 e)) := by
  have e1 : dk_up (HH n xs w a i) 14 (hh_ob w (dk_up i 4 e) 14) = HH n xs w a (dk_up i 4 e) := HH_ui rfl (by decide) (fun j hj => by unfold hh_ob; split <;> first | rfl | exact absurd rfl hj)
  have e2 : dk_r G R J (.inr (1, 0, 1) :: is) L (.inl e :: .inr (.inr 14) :: S) (HH n xs w a i) = dk_r G R J is L S (dk_up (HH n xs w a i) 14 (hh_ob w (dk_up i 4 (dk_nm e)) 14)) := propext ⟨fun q => And.right (a := True) q, fun q => (⟨trivial, q⟩ : True ∧ _)⟩
  rw [e2, dk_nm_in h1 h2, e1]
theorem xp_14_8 {e : Int} (h1 : -2147483648 ≤ e) (h2 : e ≤ 2147483647) : dk_r G R J (.inr (1, 0, 8) :: is) L (.inl e :: .inr (.inr 14) :: S) (HH n xs w a i) = dk_r G R J is L S (HH n xs w a (dk_up i 5 e)) := by
  have e1 : dk_up (HH n xs w a i) 14 (hh_ob w (dk_up i 5 e) 14) = HH n xs w a (dk_up i 5 e) := HH_ui rfl (by decide) (fun j hj => by unfold hh_ob; split <;> first | rfl | exact absurd rfl hj)
  have e2 : dk_r G R J (.inr (1, 0, 8) :: is) L (.inl e :: .inr (.inr 14) :: S) (HH n xs w a i) = dk_r G R J is L S (dk_up (HH n xs w a i) 14 (hh_ob w (dk_up i 5 (dk_nm e)) 14)) := propext ⟨fun q => And.right (a := True) q, fun q => (⟨trivial, q⟩ : True ∧ _)⟩
  rw [e2, dk_nm_in h1 h2, e1]
theorem xp_14_12 {e : Int} (h1 : -2147483648 ≤ e) (h2 : e ≤ 2147483647) : dk_r G R J (.inr (1, 0, 12) :: is) L (.inl e :: .inr (.inr 14) :: S) (HH n xs w a i) = dk_r G R J is L S (HH n xs w a (dk_up i 6 e)) := by
  have e1 : dk_up (HH n xs w a i) 14 (hh_ob w (dk_up i 6 e) 14) = HH n xs w a (dk_up i 6 e) := HH_ui rfl (by decide) (fun j hj => by unfold hh_ob; split <;> first | rfl | exact absurd rfl hj)
  have e2 : dk_r G R J (.inr (1, 0, 12) :: is) L (.inl e :: .inr (.inr 14) :: S) (HH n xs w a i) = dk_r G R J is L S (dk_up (HH n xs w a i) 14 (hh_ob w (dk_up i 6 (dk_nm e)) 14)) := propext ⟨fun q => And.right (a := True) q, fun q => (⟨trivial, q⟩ : True ∧ _)⟩
  rw [e2, dk_nm_in h1 h2, e1]
theorem xp_14_15 {e : Int} (h1 : -2147483648 ≤ e) (h2 : e ≤ 2147483647) : dk_r G R J (.inr (1, 0, 15) :: is) L (.inl e :: .inr (.inr 14) :: S) (HH n xs w a i) = dk_r G R J is L S (HH n xs w a (dk_up i 7 e)) := by
  have e1 : dk_up (HH n xs w a i) 14 (hh_ob w (dk_up i 7 e) 14) = HH n xs w a (dk_up i 7 e) := HH_ui rfl (by decide) (fun j hj => by unfold hh_ob; split <;> first | rfl | exact absurd rfl hj)
  have e2 : dk_r G R J (.inr (1, 0, 15) :: is) L (.inl e :: .inr (.inr 14) :: S) (HH n xs w a i) = dk_r G R J is L S (dk_up (HH n xs w a i) 14 (hh_ob w (dk_up i 7 (dk_nm e)) 14)) := propext ⟨fun q => And.right (a := True) q, fun q => (⟨trivial, q⟩ : True ∧ _)⟩
  rw [e2, dk_nm_in h1 h2, e1]
theorem xp_27_1 {e : Int} (h1 : -2147483648 ≤ e) (h2 : e ≤ 2147483647) : dk_r G R J (.inr (1, 3, 1) :: is) L (.inl e :: .inr (.inr 27) :: S) (HH n xs w a i) = dk_r G R J is L S (HH n xs w a (dk_up i 9 e)) := by
  have e1 : dk_up (HH n xs w a i) 27 (hh_ob w (dk_up i 9 e) 27) = HH n xs w a (dk_up i 9 e) := HH_ui rfl (by decide) (fun j hj => by unfold hh_ob; split <;> first | rfl | exact absurd rfl hj)
  have e2 : dk_r G R J (.inr (1, 3, 1) :: is) L (.inl e :: .inr (.inr 27) :: S) (HH n xs w a i) = dk_r G R J is L S (dk_up (HH n xs w a i) 27 (hh_ob w (dk_up i 9 (dk_nm e)) 27)) := propext ⟨fun q => And.right (a := True) q, fun q => (⟨trivial, q⟩ : True ∧ _)⟩
  rw [e2, dk_nm_in h1 h2, e1]
theorem xp_27_2 {e : Int} (h1 : -2147483648 ≤ e) (h2 : e ≤ 2147483647) : dk_r G R J (.inr (1, 3, 2) :: is) L (.inl e :: .inr (.inr 27) :: S) (HH n xs w a i) = dk_r G R J is L S (HH n xs w a (dk_up i 10 e)) := by
  have e1 : dk_up (HH n xs w a i) 27 (hh_ob w (dk_up i 10 e) 27) = HH n xs w a (dk_up i 10 e) := HH_ui rfl (by decide) (fun j hj => by unfold hh_ob; split <;> first | rfl | exact absurd rfl hj)
  have e2 : dk_r G R J (.inr (1, 3, 2) :: is) L (.inl e :: .inr (.inr 27) :: S) (HH n xs w a i) = dk_r G R J is L S (dk_up (HH n xs w a i) 27 (hh_ob w (dk_up i 10 (dk_nm e)) 27)) := propext ⟨fun q => And.right (a := True) q, fun q => (⟨trivial, q⟩ : True ∧ _)⟩
  rw [e2, dk_nm_in h1 h2, e1]
theorem xp_27_3 {e : Int} (h1 : -2147483648 ≤ e) (h2 : e ≤ 2147483647) : dk_r G R J (.inr (1, 3, 3) :: is) L (.inl e :: .inr (.inr 27) :: S) (HH n xs w a i) = dk_r G R J is L S (HH n xs w a (dk_up i 11 e)) := by
  have e1 : dk_up (HH n xs w a i) 27 (hh_ob w (dk_up i 11 e) 27) = HH n xs w a (dk_up i 11 e) := HH_ui rfl (by decide) (fun j hj => by unfold hh_ob; split <;> first | rfl | exact absurd rfl hj)
  have e2 : dk_r G R J (.inr (1, 3, 3) :: is) L (.inl e :: .inr (.inr 27) :: S) (HH n xs w a i) = dk_r G R J is L S (dk_up (HH n xs w a i) 27 (hh_ob w (dk_up i 11 (dk_nm e)) 27)) := propext ⟨fun q => And.right (a := True) q, fun q => (⟨trivial, q⟩ : True ∧ _)⟩
  rw [e2, dk_nm_in h1 h2, e1]
theorem xp_27_5 {e : Int} (h1 : -2147483648 ≤ e) (h2 : e ≤ 2147483647) : dk_r G R J (.inr (1, 3, 5) :: is) L (.inl e :: .inr (.inr 27) :: S) (HH n xs w a i) = dk_r G R J is L S (HH n xs w a (dk_up i 12 e)) := by
  have e1 : dk_up (HH n xs w a i) 27 (hh_ob w (dk_up i 12 e) 27) = HH n xs w a (dk_up i 12 e) := HH_ui rfl (by decide) (fun j hj => by unfold hh_ob; split <;> first | rfl | exact absurd rfl hj)
  have e2 : dk_r G R J (.inr (1, 3, 5) :: is) L (.inl e :: .inr (.inr 27) :: S) (HH n xs w a i) = dk_r G R J is L S (dk_up (HH n xs w a i) 27 (hh_ob w (dk_up i 12 (dk_nm e)) 27)) := propext ⟨fun q => And.right (a := True) q, fun q => (⟨trivial, q⟩ : True ∧ _)⟩
  rw [e2, dk_nm_in h1 h2, e1]
theorem xp_27_6 {e : Int} (h1 : -2147483648 ≤ e) (h2 : e ≤ 2147483647) : dk_r G R J (.inr (1, 3, 6) :: is) L (.inl e :: .inr (.inr 27) :: S) (HH n xs w a i) = dk_r G R J is L S (HH n xs w a (dk_up i 13 e)) := by
  have e1 : dk_up (HH n xs w a i) 27 (hh_ob w (dk_up i 13 e) 27) = HH n xs w a (dk_up i 13 e) := HH_ui rfl (by decide) (fun j hj => by unfold hh_ob; split <;> first | rfl | exact absurd rfl hj)
  have e2 : dk_r G R J (.inr (1, 3, 6) :: is) L (.inl e :: .inr (.inr 27) :: S) (HH n xs w a i) = dk_r G R J is L S (dk_up (HH n xs w a i) 27 (hh_ob w (dk_up i 13 (dk_nm e)) 27)) := propext ⟨fun q => And.right (a := True) q, fun q => (⟨trivial, q⟩ : True ∧ _)⟩
  rw [e2, dk_nm_in h1 h2, e1]
theorem xp_27_7 {e : Int} (h1 : -2147483648 ≤ e) (h2 : e ≤ 2147483647) : dk_r G R J (.inr (1, 3, 7) :: is) L (.inl e :: .inr (.inr 27) :: S) (HH n xs w a i) = dk_r G R J is L S (HH n xs w a (dk_up i 14 e)) := by
  have e1 : dk_up (HH n xs w a i) 27 (hh_ob w (dk_up i 14 e) 27) = HH n xs w a (dk_up i 14 e) := HH_ui rfl (by decide) (fun j hj => by unfold hh_ob; split <;> first | rfl | exact absurd rfl hj)
  have e2 : dk_r G R J (.inr (1, 3, 7) :: is) L (.inl e :: .inr (.inr 27) :: S) (HH n xs w a i) = dk_r G R J is L S (dk_up (HH n xs w a i) 27 (hh_ob w (dk_up i 14 (dk_nm e)) 27)) := propext ⟨fun q => And.right (a := True) q, fun q => (⟨trivial, q⟩ : True ∧ _)⟩
  rw [e2, dk_nm_in h1 h2, e1]
theorem xp_27_8 {e : Int} (h1 : -2147483648 ≤ e) (h2 : e ≤ 2147483647) : dk_r G R J (.inr (1, 3, 8) :: is) L (.inl e :: .inr (.inr 27) :: S) (HH n xs w a i) = dk_r G R J is L S (HH n xs w a (dk_up i 15 e)) := by
  have e1 : dk_up (HH n xs w a i) 27 (hh_ob w (dk_up i 15 e) 27) = HH n xs w a (dk_up i 15 e) := HH_ui rfl (by decide) (fun j hj => by unfold hh_ob; split <;> first | rfl | exact absurd rfl hj)
  have e2 : dk_r G R J (.inr (1, 3, 8) :: is) L (.inl e :: .inr (.inr 27) :: S) (HH n xs w a i) = dk_r G R J is L S (dk_up (HH n xs w a i) 27 (hh_ob w (dk_up i 15 (dk_nm e)) 27)) := propext ⟨fun q => And.right (a := True) q, fun q => (⟨trivial, q⟩ : True ∧ _)⟩
  rw [e2, dk_nm_in h1 h2, e1]
theorem xp_31_0 {e : Int} (h1 : -2147483648 ≤ e) (h2 : e ≤ 2147483647) : dk_r G R J (.inr (1, 2, 0) :: is) L (.inl e :: .inr (.inr 31) :: S) (HH n xs w a i) = dk_r G R J is L S (HH n xs w a (dk_up i 16 e)) := by
  have e1 : dk_up (HH n xs w a i) 31 (hh_ob w (dk_up i 16 e) 31) = HH n xs w a (dk_up i 16 e) := HH_ui rfl (by decide) (fun j hj => by unfold hh_ob; split <;> first | rfl | exact absurd rfl hj)
  have e2 : dk_r G R J (.inr (1, 2, 0) :: is) L (.inl e :: .inr (.inr 31) :: S) (HH n xs w a i) = dk_r G R J is L S (dk_up (HH n xs w a i) 31 (hh_ob w (dk_up i 16 (dk_nm e)) 31)) := propext ⟨fun q => And.right (a := True) q, fun q => (⟨trivial, q⟩ : True ∧ _)⟩
  rw [e2, dk_nm_in h1 h2, e1]
theorem xp_31_1 {e : Int} (h1 : -2147483648 ≤ e) (h2 : e ≤ 2147483647) : dk_r G R J (.inr (1, 2, 1) :: is) L (.inl e :: .inr (.inr 31) :: S) (HH n xs w a i) = dk_r G R J is L S (HH n xs w a (dk_up i 20 e)) := by
  have e1 : dk_up (HH n xs w a i) 31 (hh_ob w (dk_up i 20 e) 31) = HH n xs w a (dk_up i 20 e) := HH_ui rfl (by decide) (fun j hj => by unfold hh_ob; split <;> first | rfl | exact absurd rfl hj)
  have e2 : dk_r G R J (.inr (1, 2, 1) :: is) L (.inl e :: .inr (.inr 31) :: S) (HH n xs w a i) = dk_r G R J is L S (dk_up (HH n xs w a i) 31 (hh_ob w (dk_up i 20 (dk_nm e)) 31)) := propext ⟨fun q => And.right (a := True) q, fun q => (⟨trivial, q⟩ : True ∧ _)⟩
  rw [e2, dk_nm_in h1 h2, e1]
theorem xp_32_0 {e : Int} (h1 : -2147483648 ≤ e) (h2 : e ≤ 2147483647) : dk_r G R J (.inr (1, 2, 0) :: is) L (.inl e :: .inr (.inr 32) :: S) (HH n xs w a i) = dk_r G R J is L S (HH n xs w a (dk_up i 17 e)) := by
  have e1 : dk_up (HH n xs w a i) 32 (hh_ob w (dk_up i 17 e) 32) = HH n xs w a (dk_up i 17 e) := HH_ui rfl (by decide) (fun j hj => by unfold hh_ob; split <;> first | rfl | exact absurd rfl hj)
  have e2 : dk_r G R J (.inr (1, 2, 0) :: is) L (.inl e :: .inr (.inr 32) :: S) (HH n xs w a i) = dk_r G R J is L S (dk_up (HH n xs w a i) 32 (hh_ob w (dk_up i 17 (dk_nm e)) 32)) := propext ⟨fun q => And.right (a := True) q, fun q => (⟨trivial, q⟩ : True ∧ _)⟩
  rw [e2, dk_nm_in h1 h2, e1]
theorem xp_32_1 {e : Int} (h1 : -2147483648 ≤ e) (h2 : e ≤ 2147483647) : dk_r G R J (.inr (1, 2, 1) :: is) L (.inl e :: .inr (.inr 32) :: S) (HH n xs w a i) = dk_r G R J is L S (HH n xs w a (dk_up i 21 e)) := by
  have e1 : dk_up (HH n xs w a i) 32 (hh_ob w (dk_up i 21 e) 32) = HH n xs w a (dk_up i 21 e) := HH_ui rfl (by decide) (fun j hj => by unfold hh_ob; split <;> first | rfl | exact absurd rfl hj)
  have e2 : dk_r G R J (.inr (1, 2, 1) :: is) L (.inl e :: .inr (.inr 32) :: S) (HH n xs w a i) = dk_r G R J is L S (dk_up (HH n xs w a i) 32 (hh_ob w (dk_up i 21 (dk_nm e)) 32)) := propext ⟨fun q => And.right (a := True) q, fun q => (⟨trivial, q⟩ : True ∧ _)⟩
  rw [e2, dk_nm_in h1 h2, e1]
theorem xp_33_0 {e : Int} (h1 : -2147483648 ≤ e) (h2 : e ≤ 2147483647) : dk_r G R J (.inr (1, 2, 0) :: is) L (.inl e :: .inr (.inr 33) :: S) (HH n xs w a i) = dk_r G R J is L S (HH n xs w a (dk_up i 18 e)) := by
  have e1 : dk_up (HH n xs w a i) 33 (hh_ob w (dk_up i 18 e) 33) = HH n xs w a (dk_up i 18 e) := HH_ui rfl (by decide) (fun j hj => by unfold hh_ob; split <;> first | rfl | exact absurd rfl hj)
  have e2 : dk_r G R J (.inr (1, 2, 0) :: is) L (.inl e :: .inr (.inr 33) :: S) (HH n xs w a i) = dk_r G R J is L S (dk_up (HH n xs w a i) 33 (hh_ob w (dk_up i 18 (dk_nm e)) 33)) := propext ⟨fun q => And.right (a := True) q, fun q => (⟨trivial, q⟩ : True ∧ _)⟩
  rw [e2, dk_nm_in h1 h2, e1]
theorem xp_33_1 {e : Int} (h1 : -2147483648 ≤ e) (h2 : e ≤ 2147483647) : dk_r G R J (.inr (1, 2, 1) :: is) L (.inl e :: .inr (.inr 33) :: S) (HH n xs w a i) = dk_r G R J is L S (HH n xs w a (dk_up i 22 e)) := by
  have e1 : dk_up (HH n xs w a i) 33 (hh_ob w (dk_up i 22 e) 33) = HH n xs w a (dk_up i 22 e) := HH_ui rfl (by decide) (fun j hj => by unfold hh_ob; split <;> first | rfl | exact absurd rfl hj)
  have e2 : dk_r G R J (.inr (1, 2, 1) :: is) L (.inl e :: .inr (.inr 33) :: S) (HH n xs w a i) = dk_r G R J is L S (dk_up (HH n xs w a i) 33 (hh_ob w (dk_up i 22 (dk_nm e)) 33)) := propext ⟨fun q => And.right (a := True) q, fun q => (⟨trivial, q⟩ : True ∧ _)⟩
  rw [e2, dk_nm_in h1 h2, e1]
theorem xp_34_0 {e : Int} (h1 : -2147483648 ≤ e) (h2 : e ≤ 2147483647) : dk_r G R J (.inr (1, 2, 0) :: is) L (.inl e :: .inr (.inr 34) :: S) (HH n xs w a i) = dk_r G R J is L S (HH n xs w a (dk_up i 19 e)) := by
  have e1 : dk_up (HH n xs w a i) 34 (hh_ob w (dk_up i 19 e) 34) = HH n xs w a (dk_up i 19 e) := HH_ui rfl (by decide) (fun j hj => by unfold hh_ob; split <;> first | rfl | exact absurd rfl hj)
  have e2 : dk_r G R J (.inr (1, 2, 0) :: is) L (.inl e :: .inr (.inr 34) :: S) (HH n xs w a i) = dk_r G R J is L S (dk_up (HH n xs w a i) 34 (hh_ob w (dk_up i 19 (dk_nm e)) 34)) := propext ⟨fun q => And.right (a := True) q, fun q => (⟨trivial, q⟩ : True ∧ _)⟩
  rw [e2, dk_nm_in h1 h2, e1]
theorem xp_34_1 {e : Int} (h1 : -2147483648 ≤ e) (h2 : e ≤ 2147483647) : dk_r G R J (.inr (1, 2, 1) :: is) L (.inl e :: .inr (.inr 34) :: S) (HH n xs w a i) = dk_r G R J is L S (HH n xs w a (dk_up i 23 e)) := by
  have e1 : dk_up (HH n xs w a i) 34 (hh_ob w (dk_up i 23 e) 34) = HH n xs w a (dk_up i 23 e) := HH_ui rfl (by decide) (fun j hj => by unfold hh_ob; split <;> first | rfl | exact absurd rfl hj)
  have e2 : dk_r G R J (.inr (1, 2, 1) :: is) L (.inl e :: .inr (.inr 34) :: S) (HH n xs w a i) = dk_r G R J is L S (dk_up (HH n xs w a i) 34 (hh_ob w (dk_up i 23 (dk_nm e)) 34)) := propext ⟨fun q => And.right (a := True) q, fun q => (⟨trivial, q⟩ : True ∧ _)⟩
  rw [e2, dk_nm_in h1 h2, e1]
theorem xp_39_1 {e : Int} (h1 : -2147483648 ≤ e) (h2 : e ≤ 2147483647) : dk_r G R J (.inr (1, 1, 1) :: is) L (.inl e :: .inr (.inr 39) :: S) (HH n xs w a i) = dk_r G R J is L S (HH n xs w a (dk_up i 24 e)) := by
  have e1 : dk_up (HH n xs w a i) 39 (hh_ob w (dk_up i 24 e) 39) = HH n xs w a (dk_up i 24 e) := HH_ui rfl (by decide) (fun j hj => by unfold hh_ob; split <;> first | rfl | exact absurd rfl hj)
  have e2 : dk_r G R J (.inr (1, 1, 1) :: is) L (.inl e :: .inr (.inr 39) :: S) (HH n xs w a i) = dk_r G R J is L S (dk_up (HH n xs w a i) 39 (hh_ob w (dk_up i 24 (dk_nm e)) 39)) := propext ⟨fun q => And.right (a := True) q, fun q => (⟨trivial, q⟩ : True ∧ _)⟩
  rw [e2, dk_nm_in h1 h2, e1]
theorem xp_44_2 {e : Nat} : dk_r G R J (.inr (3, 4, 2) :: is) L (.inr (.inr e) :: .inr (.inr 44) :: S) (HH n xs w a i) = dk_r G R J is L S (HH n xs (dk_up w 0 e) a i) := by
  have e1 : dk_up (HH n xs w a i) 44 (hh_ob (dk_up w 0 e) i 44) = HH n xs (dk_up w 0 e) a i := HH_ui rfl (by decide) (fun j hj => by unfold hh_ob; split <;> first | rfl | exact absurd rfl hj)
  rw [← e1]
  exact propext ⟨fun q => And.right (a := True) q, fun q => (⟨trivial, q⟩ : True ∧ _)⟩
theorem xp_44_3 {e : Nat} : dk_r G R J (.inr (3, 4, 3) :: is) L (.inr (.inr e) :: .inr (.inr 44) :: S) (HH n xs w a i) = dk_r G R J is L S (HH n xs (dk_up w 1 e) a i) := by
  have e1 : dk_up (HH n xs w a i) 44 (hh_ob (dk_up w 1 e) i 44) = HH n xs (dk_up w 1 e) a i := HH_ui rfl (by decide) (fun j hj => by unfold hh_ob; split <;> first | rfl | exact absurd rfl hj)
  rw [← e1]
  exact propext ⟨fun q => And.right (a := True) q, fun q => (⟨trivial, q⟩ : True ∧ _)⟩
theorem xp_47_2 {e : Nat} : dk_r G R J (.inr (3, 4, 2) :: is) L (.inr (.inr e) :: .inr (.inr 47) :: S) (HH n xs w a i) = dk_r G R J is L S (HH n xs (dk_up w 2 e) a i) := by
  have e1 : dk_up (HH n xs w a i) 47 (hh_ob (dk_up w 2 e) i 47) = HH n xs (dk_up w 2 e) a i := HH_ui rfl (by decide) (fun j hj => by unfold hh_ob; split <;> first | rfl | exact absurd rfl hj)
  rw [← e1]
  exact propext ⟨fun q => And.right (a := True) q, fun q => (⟨trivial, q⟩ : True ∧ _)⟩
theorem xp_47_3 {e : Nat} : dk_r G R J (.inr (3, 4, 3) :: is) L (.inr (.inr e) :: .inr (.inr 47) :: S) (HH n xs w a i) = dk_r G R J is L S (HH n xs (dk_up w 3 e) a i) := by
  have e1 : dk_up (HH n xs w a i) 47 (hh_ob (dk_up w 3 e) i 47) = HH n xs (dk_up w 3 e) a i := HH_ui rfl (by decide) (fun j hj => by unfold hh_ob; split <;> first | rfl | exact absurd rfl hj)
  rw [← e1]
  exact propext ⟨fun q => And.right (a := True) q, fun q => (⟨trivial, q⟩ : True ∧ _)⟩
theorem xp_53_3 {e : Int} (h1 : -2147483648 ≤ e) (h2 : e ≤ 2147483647) : dk_r G R J (.inr (1, 6, 3) :: is) L (.inl e :: .inr (.inr 53) :: S) (HH n xs w a i) = dk_r G R J is L S (HH n xs w a (dk_up i 30 e)) := by
  have e1 : dk_up (HH n xs w a i) 53 (hh_ob w (dk_up i 30 e) 53) = HH n xs w a (dk_up i 30 e) := HH_ui rfl (by decide) (fun j hj => by unfold hh_ob; split <;> first | rfl | exact absurd rfl hj)
  have e2 : dk_r G R J (.inr (1, 6, 3) :: is) L (.inl e :: .inr (.inr 53) :: S) (HH n xs w a i) = dk_r G R J is L S (dk_up (HH n xs w a i) 53 (hh_ob w (dk_up i 30 (dk_nm e)) 53)) := propext ⟨fun q => And.right (a := True) q, fun q => (⟨trivial, q⟩ : True ∧ _)⟩
  rw [e2, dk_nm_in h1 h2, e1]
theorem xp_53_6 {e : Int} (h1 : -2147483648 ≤ e) (h2 : e ≤ 2147483647) : dk_r G R J (.inr (1, 6, 6) :: is) L (.inl e :: .inr (.inr 53) :: S) (HH n xs w a i) = dk_r G R J is L S (HH n xs w a (dk_up i 31 e)) := by
  have e1 : dk_up (HH n xs w a i) 53 (hh_ob w (dk_up i 31 e) 53) = HH n xs w a (dk_up i 31 e) := HH_ui rfl (by decide) (fun j hj => by unfold hh_ob; split <;> first | rfl | exact absurd rfl hj)
  have e2 : dk_r G R J (.inr (1, 6, 6) :: is) L (.inl e :: .inr (.inr 53) :: S) (HH n xs w a i) = dk_r G R J is L S (dk_up (HH n xs w a i) 53 (hh_ob w (dk_up i 31 (dk_nm e)) 53)) := propext ⟨fun q => And.right (a := True) q, fun q => (⟨trivial, q⟩ : True ∧ _)⟩
  rw [e2, dk_nm_in h1 h2, e1]
theorem xp_53_8 {e : Int} (h1 : -2147483648 ≤ e) (h2 : e ≤ 2147483647) : dk_r G R J (.inr (1, 6, 8) :: is) L (.inl e :: .inr (.inr 53) :: S) (HH n xs w a i) = dk_r G R J is L S (HH n xs w a (dk_up i 32 e)) := by
  have e1 : dk_up (HH n xs w a i) 53 (hh_ob w (dk_up i 32 e) 53) = HH n xs w a (dk_up i 32 e) := HH_ui rfl (by decide) (fun j hj => by unfold hh_ob; split <;> first | rfl | exact absurd rfl hj)
  have e2 : dk_r G R J (.inr (1, 6, 8) :: is) L (.inl e :: .inr (.inr 53) :: S) (HH n xs w a i) = dk_r G R J is L S (dk_up (HH n xs w a i) 53 (hh_ob w (dk_up i 32 (dk_nm e)) 53)) := propext ⟨fun q => And.right (a := True) q, fun q => (⟨trivial, q⟩ : True ∧ _)⟩
  rw [e2, dk_nm_in h1 h2, e1]
theorem xp_53_10 {e : Int} (h1 : -2147483648 ≤ e) (h2 : e ≤ 2147483647) : dk_r G R J (.inr (1, 6, 10) :: is) L (.inl e :: .inr (.inr 53) :: S) (HH n xs w a i) = dk_r G R J is L S (HH n xs w a (dk_up i 33 e)) := by
  have e1 : dk_up (HH n xs w a i) 53 (hh_ob w (dk_up i 33 e) 53) = HH n xs w a (dk_up i 33 e) := HH_ui rfl (by decide) (fun j hj => by unfold hh_ob; split <;> first | rfl | exact absurd rfl hj)
  have e2 : dk_r G R J (.inr (1, 6, 10) :: is) L (.inl e :: .inr (.inr 53) :: S) (HH n xs w a i) = dk_r G R J is L S (dk_up (HH n xs w a i) 53 (hh_ob w (dk_up i 33 (dk_nm e)) 53)) := propext ⟨fun q => And.right (a := True) q, fun q => (⟨trivial, q⟩ : True ∧ _)⟩
  rw [e2, dk_nm_in h1 h2, e1]
theorem xq_53_10 {e : Int} : dk_r G R J (.inr (1, 6, 10) :: is) L (.inl e :: .inr (.inr 53) :: S) (HH n xs w a i) = dk_r G R J is L S (HH n xs w a (dk_up i 33 (dk_nm e))) := by
  have e1 : dk_up (HH n xs w a i) 53 (hh_ob w (dk_up i 33 (dk_nm e)) 53) = HH n xs w a (dk_up i 33 (dk_nm e)) := HH_ui rfl (by decide) (fun j hj => by unfold hh_ob; split <;> first | rfl | exact absurd rfl hj)
  rw [← e1]
  exact propext ⟨fun q => And.right (a := True) q, fun q => (⟨trivial, q⟩ : True ∧ _)⟩
theorem xp_53_14 {e : Int} (h1 : -2147483648 ≤ e) (h2 : e ≤ 2147483647) : dk_r G R J (.inr (1, 6, 14) :: is) L (.inl e :: .inr (.inr 53) :: S) (HH n xs w a i) = dk_r G R J is L S (HH n xs w a (dk_up i 34 e)) := by
  have e1 : dk_up (HH n xs w a i) 53 (hh_ob w (dk_up i 34 e) 53) = HH n xs w a (dk_up i 34 e) := HH_ui rfl (by decide) (fun j hj => by unfold hh_ob; split <;> first | rfl | exact absurd rfl hj)
  have e2 : dk_r G R J (.inr (1, 6, 14) :: is) L (.inl e :: .inr (.inr 53) :: S) (HH n xs w a i) = dk_r G R J is L S (dk_up (HH n xs w a i) 53 (hh_ob w (dk_up i 34 (dk_nm e)) 53)) := propext ⟨fun q => And.right (a := True) q, fun q => (⟨trivial, q⟩ : True ∧ _)⟩
  rw [e2, dk_nm_in h1 h2, e1]
theorem xp_53_15 {e : Int} (h1 : -2147483648 ≤ e) (h2 : e ≤ 2147483647) : dk_r G R J (.inr (1, 6, 15) :: is) L (.inl e :: .inr (.inr 53) :: S) (HH n xs w a i) = dk_r G R J is L S (HH n xs w a (dk_up i 35 e)) := by
  have e1 : dk_up (HH n xs w a i) 53 (hh_ob w (dk_up i 35 e) 53) = HH n xs w a (dk_up i 35 e) := HH_ui rfl (by decide) (fun j hj => by unfold hh_ob; split <;> first | rfl | exact absurd rfl hj)
  have e2 : dk_r G R J (.inr (1, 6, 15) :: is) L (.inl e :: .inr (.inr 53) :: S) (HH n xs w a i) = dk_r G R J is L S (dk_up (HH n xs w a i) 53 (hh_ob w (dk_up i 35 (dk_nm e)) 53)) := propext ⟨fun q => And.right (a := True) q, fun q => (⟨trivial, q⟩ : True ∧ _)⟩
  rw [e2, dk_nm_in h1 h2, e1]
theorem xp_53_16 {e : Int} (h1 : -2147483648 ≤ e) (h2 : e ≤ 2147483647) : dk_r G R J (.inr (1, 6, 16) :: is) L (.inl e :: .inr (.inr 53) :: S) (HH n xs w a i) = dk_r G R J is L S (HH n xs w a (dk_up i 36 e)) := by
  have e1 : dk_up (HH n xs w a i) 53 (hh_ob w (dk_up i 36 e) 53) = HH n xs w a (dk_up i 36 e) := HH_ui rfl (by decide) (fun j hj => by unfold hh_ob; split <;> first | rfl | exact absurd rfl hj)
  have e2 : dk_r G R J (.inr (1, 6, 16) :: is) L (.inl e :: .inr (.inr 53) :: S) (HH n xs w a i) = dk_r G R J is L S (dk_up (HH n xs w a i) 53 (hh_ob w (dk_up i 36 (dk_nm e)) 53)) := propext ⟨fun q => And.right (a := True) q, fun q => (⟨trivial, q⟩ : True ∧ _)⟩
  rw [e2, dk_nm_in h1 h2, e1]
theorem xp_53_17 {e : Int} (h1 : -2147483648 ≤ e) (h2 : e ≤ 2147483647) : dk_r G R J (.inr (1, 6, 17) :: is) L (.inl e :: .inr (.inr 53) :: S) (HH n xs w a i) = dk_r G R J is L S (HH n xs w a (dk_up i 37 e)) := by
  have e1 : dk_up (HH n xs w a i) 53 (hh_ob w (dk_up i 37 e) 53) = HH n xs w a (dk_up i 37 e) := HH_ui rfl (by decide) (fun j hj => by unfold hh_ob; split <;> first | rfl | exact absurd rfl hj)
  have e2 : dk_r G R J (.inr (1, 6, 17) :: is) L (.inl e :: .inr (.inr 53) :: S) (HH n xs w a i) = dk_r G R J is L S (dk_up (HH n xs w a i) 53 (hh_ob w (dk_up i 37 (dk_nm e)) 53)) := propext ⟨fun q => And.right (a := True) q, fun q => (⟨trivial, q⟩ : True ∧ _)⟩
  rw [e2, dk_nm_in h1 h2, e1]
theorem xp_53_18 {e : Int} : dk_r G R J (.inr (4, 6, 18) :: is) L (.inr (.inl e) :: .inr (.inr 53) :: S) (HH n xs w a i) = dk_r G R J is L S (HH n xs w a (dk_up i 38 e)) := by
  have e1 : dk_up (HH n xs w a i) 53 (hh_ob w (dk_up i 38 e) 53) = HH n xs w a (dk_up i 38 e) := HH_ui rfl (by decide) (fun j hj => by unfold hh_ob; split <;> first | rfl | exact absurd rfl hj)
  rw [← e1]
  exact propext ⟨fun q => And.right (a := True) q, fun q => (⟨trivial, q⟩ : True ∧ _)⟩
theorem xp_53_19 {e : Int} (h1 : -2147483648 ≤ e) (h2 : e ≤ 2147483647) : dk_r G R J (.inr (1, 6, 19) :: is) L (.inl e :: .inr (.inr 53) :: S) (HH n xs w a i) = dk_r G R J is L S (HH n xs w a (dk_up i 39 e)) := by
  have e1 : dk_up (HH n xs w a i) 53 (hh_ob w (dk_up i 39 e) 53) = HH n xs w a (dk_up i 39 e) := HH_ui rfl (by decide) (fun j hj => by unfold hh_ob; split <;> first | rfl | exact absurd rfl hj)
  have e2 : dk_r G R J (.inr (1, 6, 19) :: is) L (.inl e :: .inr (.inr 53) :: S) (HH n xs w a i) = dk_r G R J is L S (dk_up (HH n xs w a i) 53 (hh_ob w (dk_up i 39 (dk_nm e)) 53)) := propext ⟨fun q => And.right (a := True) q, fun q => (⟨trivial, q⟩ : True ∧ _)⟩
  rw [e2, dk_nm_in h1 h2, e1]
theorem xp_53_20 {e : Int} (hz : e = 0 ∨ e = 1) : dk_r G R J (.inr (2, 6, 20) :: is) L (.inl e :: .inr (.inr 53) :: S) (HH n xs w a i) = dk_r G R J is L S (HH n xs w a (dk_up i 40 e)) := by
  have e1 : dk_up (HH n xs w a i) 53 (hh_ob w (dk_up i 40 e) 53) = HH n xs w a (dk_up i 40 e) := HH_ui rfl (by decide) (fun j hj => by unfold hh_ob; split <;> first | rfl | exact absurd rfl hj)
  rw [← e1]
  exact propext ⟨fun q => And.right (a := (e = 0 ∨ e = 1)) q, fun q => (⟨hz, q⟩ : (e = 0 ∨ e = 1) ∧ _)⟩
theorem xp_53_22 {e : Int} (h1 : -2147483648 ≤ e) (h2 : e ≤ 2147483647) : dk_r G R J (.inr (1, 6, 22) :: is) L (.inl e :: .inr (.inr 53) :: S) (HH n xs w a i) = dk_r G R J is L S (HH n xs w a (dk_up i 41 e)) := by
  have e1 : dk_up (HH n xs w a i) 53 (hh_ob w (dk_up i 41 e) 53) = HH n xs w a (dk_up i 41 e) := HH_ui rfl (by decide) (fun j hj => by unfold hh_ob; split <;> first | rfl | exact absurd rfl hj)
  have e2 : dk_r G R J (.inr (1, 6, 22) :: is) L (.inl e :: .inr (.inr 53) :: S) (HH n xs w a i) = dk_r G R J is L S (dk_up (HH n xs w a i) 53 (hh_ob w (dk_up i 41 (dk_nm e)) 53)) := propext ⟨fun q => And.right (a := True) q, fun q => (⟨trivial, q⟩ : True ∧ _)⟩
  rw [e2, dk_nm_in h1 h2, e1]
theorem xp_53_33 {e : Int} (hz : e = 0 ∨ e = 1) : dk_r G R J (.inr (2, 6, 33) :: is) L (.inl e :: .inr (.inr 53) :: S) (HH n xs w a i) = dk_r G R J is L S (HH n xs w a (dk_up i 42 e)) := by
  have e1 : dk_up (HH n xs w a i) 53 (hh_ob w (dk_up i 42 e) 53) = HH n xs w a (dk_up i 42 e) := HH_ui rfl (by decide) (fun j hj => by unfold hh_ob; split <;> first | rfl | exact absurd rfl hj)
  rw [← e1]
  exact propext ⟨fun q => And.right (a := (e = 0 ∨ e = 1)) q, fun q => (⟨hz, q⟩ : (e = 0 ∨ e = 1) ∧ _)⟩
theorem xp_53_35 {e : Int} (h1 : -2147483648 ≤ e) (h2 : e ≤ 2147483647) : dk_r G R J (.inr (1, 6, 35) :: is) L (.inl e :: .inr (.inr 53) :: S) (HH n xs w a i) = dk_r G R J is L S (HH n xs w a (dk_up i 43 e)) := by
  have e1 : dk_up (HH n xs w a i) 53 (hh_ob w (dk_up i 43 e) 53) = HH n xs w a (dk_up i 43 e) := HH_ui rfl (by decide) (fun j hj => by unfold hh_ob; split <;> first | rfl | exact absurd rfl hj)
  have e2 : dk_r G R J (.inr (1, 6, 35) :: is) L (.inl e :: .inr (.inr 53) :: S) (HH n xs w a i) = dk_r G R J is L S (dk_up (HH n xs w a i) 53 (hh_ob w (dk_up i 43 (dk_nm e)) 53)) := propext ⟨fun q => And.right (a := True) q, fun q => (⟨trivial, q⟩ : True ∧ _)⟩
  rw [e2, dk_nm_in h1 h2, e1]
theorem xa_2 {e : Int} (h0 : 0 ≤ e) (h1 : e < 7) : dk_r G R J (.inl .iaload :: is) L (.inl e :: .inr (.inr 2) :: S) (HH n xs w a i) = dk_r G R J is L (.inl (a 2 e) :: S) (HH n xs w a i) := propext ⟨fun q => And.right (a := (0 ≤ e ∧ e < ((7 : Nat) : Int) ∧ e < 2147483648)) q, fun q => (⟨⟨h0, by omega, by omega⟩, q⟩ : (0 ≤ e ∧ e < ((7 : Nat) : Int) ∧ e < 2147483648) ∧ _)⟩
theorem xs_2 {e x : Int} (h0 : 0 ≤ e) (h1 : e < 7) : dk_r G R J (.inl .iastore :: is) L (.inl x :: .inl e :: .inr (.inr 2) :: S) (HH n xs w a i) = dk_r G R J is L S (HH n xs w (dk_up a 2 (dk_ui (a 2) e x)) i) := by
  rw [← HH_ua (k := 2) (t := 0) (m := 7) rfl]
  exact propext ⟨fun q => And.right (a := (0 ≤ e ∧ e < ((7 : Nat) : Int) ∧ e < 2147483648)) q, fun q => (⟨⟨h0, by omega, by omega⟩, q⟩ : (0 ≤ e ∧ e < ((7 : Nat) : Int) ∧ e < 2147483648) ∧ _)⟩
theorem xa_3 {e : Int} (h0 : 0 ≤ e) (h1 : e < 24) : dk_r G R J (.inl .iaload :: is) L (.inl e :: .inr (.inr 3) :: S) (HH n xs w a i) = dk_r G R J is L (.inl (a 3 e) :: S) (HH n xs w a i) := propext ⟨fun q => And.right (a := (0 ≤ e ∧ e < ((24 : Nat) : Int) ∧ e < 2147483648)) q, fun q => (⟨⟨h0, by omega, by omega⟩, q⟩ : (0 ≤ e ∧ e < ((24 : Nat) : Int) ∧ e < 2147483648) ∧ _)⟩
theorem xs_3 {e x : Int} (h0 : 0 ≤ e) (h1 : e < 24) : dk_r G R J (.inl .iastore :: is) L (.inl x :: .inl e :: .inr (.inr 3) :: S) (HH n xs w a i) = dk_r G R J is L S (HH n xs w (dk_up a 3 (dk_ui (a 3) e x)) i) := by
  rw [← HH_ua (k := 3) (t := 0) (m := 24) rfl]
  exact propext ⟨fun q => And.right (a := (0 ≤ e ∧ e < ((24 : Nat) : Int) ∧ e < 2147483648)) q, fun q => (⟨⟨h0, by omega, by omega⟩, q⟩ : (0 ≤ e ∧ e < ((24 : Nat) : Int) ∧ e < 2147483648) ∧ _)⟩
theorem xa_4 {e : Int} (h0 : 0 ≤ e) (h1 : e < 24) : dk_r G R J (.inl .iaload :: is) L (.inl e :: .inr (.inr 4) :: S) (HH n xs w a i) = dk_r G R J is L (.inl (a 4 e) :: S) (HH n xs w a i) := propext ⟨fun q => And.right (a := (0 ≤ e ∧ e < ((24 : Nat) : Int) ∧ e < 2147483648)) q, fun q => (⟨⟨h0, by omega, by omega⟩, q⟩ : (0 ≤ e ∧ e < ((24 : Nat) : Int) ∧ e < 2147483648) ∧ _)⟩
theorem xs_4 {e x : Int} (h0 : 0 ≤ e) (h1 : e < 24) : dk_r G R J (.inl .iastore :: is) L (.inl x :: .inl e :: .inr (.inr 4) :: S) (HH n xs w a i) = dk_r G R J is L S (HH n xs w (dk_up a 4 (dk_ui (a 4) e x)) i) := by
  rw [← HH_ua (k := 4) (t := 0) (m := 24) rfl]
  exact propext ⟨fun q => And.right (a := (0 ≤ e ∧ e < ((24 : Nat) : Int) ∧ e < 2147483648)) q, fun q => (⟨⟨h0, by omega, by omega⟩, q⟩ : (0 ≤ e ∧ e < ((24 : Nat) : Int) ∧ e < 2147483648) ∧ _)⟩
theorem xa_5 {e : Int} (h0 : 0 ≤ e) (h1 : e < 24) : dk_r G R J (.inl .iaload :: is) L (.inl e :: .inr (.inr 5) :: S) (HH n xs w a i) = dk_r G R J is L (.inl (a 5 e) :: S) (HH n xs w a i) := propext ⟨fun q => And.right (a := (0 ≤ e ∧ e < ((24 : Nat) : Int) ∧ e < 2147483648)) q, fun q => (⟨⟨h0, by omega, by omega⟩, q⟩ : (0 ≤ e ∧ e < ((24 : Nat) : Int) ∧ e < 2147483648) ∧ _)⟩
theorem xs_5 {e x : Int} (h0 : 0 ≤ e) (h1 : e < 24) : dk_r G R J (.inl .iastore :: is) L (.inl x :: .inl e :: .inr (.inr 5) :: S) (HH n xs w a i) = dk_r G R J is L S (HH n xs w (dk_up a 5 (dk_ui (a 5) e x)) i) := by
  rw [← HH_ua (k := 5) (t := 0) (m := 24) rfl]
  exact propext ⟨fun q => And.right (a := (0 ≤ e ∧ e < ((24 : Nat) : Int) ∧ e < 2147483648)) q, fun q => (⟨⟨h0, by omega, by omega⟩, q⟩ : (0 ≤ e ∧ e < ((24 : Nat) : Int) ∧ e < 2147483648) ∧ _)⟩
theorem xa_6 {e : Int} (h0 : 0 ≤ e) (h1 : e < 24) : dk_r G R J (.inl .iaload :: is) L (.inl e :: .inr (.inr 6) :: S) (HH n xs w a i) = dk_r G R J is L (.inl (a 6 e) :: S) (HH n xs w a i) := propext ⟨fun q => And.right (a := (0 ≤ e ∧ e < ((24 : Nat) : Int) ∧ e < 2147483648)) q, fun q => (⟨⟨h0, by omega, by omega⟩, q⟩ : (0 ≤ e ∧ e < ((24 : Nat) : Int) ∧ e < 2147483648) ∧ _)⟩
theorem xs_6 {e x : Int} (h0 : 0 ≤ e) (h1 : e < 24) : dk_r G R J (.inl .iastore :: is) L (.inl x :: .inl e :: .inr (.inr 6) :: S) (HH n xs w a i) = dk_r G R J is L S (HH n xs w (dk_up a 6 (dk_ui (a 6) e x)) i) := by
  rw [← HH_ua (k := 6) (t := 0) (m := 24) rfl]
  exact propext ⟨fun q => And.right (a := (0 ≤ e ∧ e < ((24 : Nat) : Int) ∧ e < 2147483648)) q, fun q => (⟨⟨h0, by omega, by omega⟩, q⟩ : (0 ≤ e ∧ e < ((24 : Nat) : Int) ∧ e < 2147483648) ∧ _)⟩
theorem xa_7 {e : Int} (h0 : 0 ≤ e) (h1 : e < 24) : dk_r G R J (.inl .iaload :: is) L (.inl e :: .inr (.inr 7) :: S) (HH n xs w a i) = dk_r G R J is L (.inl (a 7 e) :: S) (HH n xs w a i) := propext ⟨fun q => And.right (a := (0 ≤ e ∧ e < ((24 : Nat) : Int) ∧ e < 2147483648)) q, fun q => (⟨⟨h0, by omega, by omega⟩, q⟩ : (0 ≤ e ∧ e < ((24 : Nat) : Int) ∧ e < 2147483648) ∧ _)⟩
theorem xs_7 {e x : Int} (h0 : 0 ≤ e) (h1 : e < 24) : dk_r G R J (.inl .iastore :: is) L (.inl x :: .inl e :: .inr (.inr 7) :: S) (HH n xs w a i) = dk_r G R J is L S (HH n xs w (dk_up a 7 (dk_ui (a 7) e x)) i) := by
  rw [← HH_ua (k := 7) (t := 0) (m := 24) rfl]
  exact propext ⟨fun q => And.right (a := (0 ≤ e ∧ e < ((24 : Nat) : Int) ∧ e < 2147483648)) q, fun q => (⟨⟨h0, by omega, by omega⟩, q⟩ : (0 ≤ e ∧ e < ((24 : Nat) : Int) ∧ e < 2147483648) ∧ _)⟩
theorem xa_8 {e : Int} (h0 : 0 ≤ e) (h1 : e < 24) : dk_r G R J (.inl .iaload :: is) L (.inl e :: .inr (.inr 8) :: S) (HH n xs w a i) = dk_r G R J is L (.inl (a 8 e) :: S) (HH n xs w a i) := propext ⟨fun q => And.right (a := (0 ≤ e ∧ e < ((24 : Nat) : Int) ∧ e < 2147483648)) q, fun q => (⟨⟨h0, by omega, by omega⟩, q⟩ : (0 ≤ e ∧ e < ((24 : Nat) : Int) ∧ e < 2147483648) ∧ _)⟩
theorem xs_8 {e x : Int} (h0 : 0 ≤ e) (h1 : e < 24) : dk_r G R J (.inl .iastore :: is) L (.inl x :: .inl e :: .inr (.inr 8) :: S) (HH n xs w a i) = dk_r G R J is L S (HH n xs w (dk_up a 8 (dk_ui (a 8) e x)) i) := by
  rw [← HH_ua (k := 8) (t := 0) (m := 24) rfl]
  exact propext ⟨fun q => And.right (a := (0 ≤ e ∧ e < ((24 : Nat) : Int) ∧ e < 2147483648)) q, fun q => (⟨⟨h0, by omega, by omega⟩, q⟩ : (0 ≤ e ∧ e < ((24 : Nat) : Int) ∧ e < 2147483648) ∧ _)⟩
theorem xa_9 {e : Int} (h0 : 0 ≤ e) (h1 : e < 6) : dk_r G R J (.inl .iaload :: is) L (.inl e :: .inr (.inr 9) :: S) (HH n xs w a i) = dk_r G R J is L (.inl (a 9 e) :: S) (HH n xs w a i) := propext ⟨fun q => And.right (a := (0 ≤ e ∧ e < ((6 : Nat) : Int) ∧ e < 2147483648)) q, fun q => (⟨⟨h0, by omega, by omega⟩, q⟩ : (0 ≤ e ∧ e < ((6 : Nat) : Int) ∧ e < 2147483648) ∧ _)⟩
theorem xs_9 {e x : Int} (h0 : 0 ≤ e) (h1 : e < 6) : dk_r G R J (.inl .iastore :: is) L (.inl x :: .inl e :: .inr (.inr 9) :: S) (HH n xs w a i) = dk_r G R J is L S (HH n xs w (dk_up a 9 (dk_ui (a 9) e x)) i) := by
  rw [← HH_ua (k := 9) (t := 0) (m := 6) rfl]
  exact propext ⟨fun q => And.right (a := (0 ≤ e ∧ e < ((6 : Nat) : Int) ∧ e < 2147483648)) q, fun q => (⟨⟨h0, by omega, by omega⟩, q⟩ : (0 ≤ e ∧ e < ((6 : Nat) : Int) ∧ e < 2147483648) ∧ _)⟩
theorem xa_10 {e : Int} (h0 : 0 ≤ e) (h1 : e < 6) : dk_r G R J (.inl .iaload :: is) L (.inl e :: .inr (.inr 10) :: S) (HH n xs w a i) = dk_r G R J is L (.inl (a 10 e) :: S) (HH n xs w a i) := propext ⟨fun q => And.right (a := (0 ≤ e ∧ e < ((6 : Nat) : Int) ∧ e < 2147483648)) q, fun q => (⟨⟨h0, by omega, by omega⟩, q⟩ : (0 ≤ e ∧ e < ((6 : Nat) : Int) ∧ e < 2147483648) ∧ _)⟩
theorem xs_10 {e x : Int} (h0 : 0 ≤ e) (h1 : e < 6) : dk_r G R J (.inl .iastore :: is) L (.inl x :: .inl e :: .inr (.inr 10) :: S) (HH n xs w a i) = dk_r G R J is L S (HH n xs w (dk_up a 10 (dk_ui (a 10) e x)) i) := by
  rw [← HH_ua (k := 10) (t := 0) (m := 6) rfl]
  exact propext ⟨fun q => And.right (a := (0 ≤ e ∧ e < ((6 : Nat) : Int) ∧ e < 2147483648)) q, fun q => (⟨⟨h0, by omega, by omega⟩, q⟩ : (0 ≤ e ∧ e < ((6 : Nat) : Int) ∧ e < 2147483648) ∧ _)⟩
theorem xa_11 {e : Int} (h0 : 0 ≤ e) (h1 : e < 6) : dk_r G R J (.inl .iaload :: is) L (.inl e :: .inr (.inr 11) :: S) (HH n xs w a i) = dk_r G R J is L (.inl (a 11 e) :: S) (HH n xs w a i) := propext ⟨fun q => And.right (a := (0 ≤ e ∧ e < ((6 : Nat) : Int) ∧ e < 2147483648)) q, fun q => (⟨⟨h0, by omega, by omega⟩, q⟩ : (0 ≤ e ∧ e < ((6 : Nat) : Int) ∧ e < 2147483648) ∧ _)⟩
theorem xs_11 {e x : Int} (h0 : 0 ≤ e) (h1 : e < 6) : dk_r G R J (.inl .iastore :: is) L (.inl x :: .inl e :: .inr (.inr 11) :: S) (HH n xs w a i) = dk_r G R J is L S (HH n xs w (dk_up a 11 (dk_ui (a 11) e x)) i) := by
  rw [← HH_ua (k := 11) (t := 0) (m := 6) rfl]
  exact propext ⟨fun q => And.right (a := (0 ≤ e ∧ e < ((6 : Nat) : Int) ∧ e < 2147483648)) q, fun q => (⟨⟨h0, by omega, by omega⟩, q⟩ : (0 ≤ e ∧ e < ((6 : Nat) : Int) ∧ e < 2147483648) ∧ _)⟩
theorem xa_12 {e : Int} (h0 : 0 ≤ e) (h1 : e < 6) : dk_r G R J (.inl .iaload :: is) L (.inl e :: .inr (.inr 12) :: S) (HH n xs w a i) = dk_r G R J is L (.inl (a 12 e) :: S) (HH n xs w a i) := propext ⟨fun q => And.right (a := (0 ≤ e ∧ e < ((6 : Nat) : Int) ∧ e < 2147483648)) q, fun q => (⟨⟨h0, by omega, by omega⟩, q⟩ : (0 ≤ e ∧ e < ((6 : Nat) : Int) ∧ e < 2147483648) ∧ _)⟩
theorem xs_12 {e x : Int} (h0 : 0 ≤ e) (h1 : e < 6) : dk_r G R J (.inl .iastore :: is) L (.inl x :: .inl e :: .inr (.inr 12) :: S) (HH n xs w a i) = dk_r G R J is L S (HH n xs w (dk_up a 12 (dk_ui (a 12) e x)) i) := by
  rw [← HH_ua (k := 12) (t := 0) (m := 6) rfl]
  exact propext ⟨fun q => And.right (a := (0 ≤ e ∧ e < ((6 : Nat) : Int) ∧ e < 2147483648)) q, fun q => (⟨⟨h0, by omega, by omega⟩, q⟩ : (0 ≤ e ∧ e < ((6 : Nat) : Int) ∧ e < 2147483648) ∧ _)⟩
theorem xa_13 {e : Int} (h0 : 0 ≤ e) (h1 : e < 10) : dk_r G R J (.inl .iaload :: is) L (.inl e :: .inr (.inr 13) :: S) (HH n xs w a i) = dk_r G R J is L (.inl (a 13 e) :: S) (HH n xs w a i) := propext ⟨fun q => And.right (a := (0 ≤ e ∧ e < ((10 : Nat) : Int) ∧ e < 2147483648)) q, fun q => (⟨⟨h0, by omega, by omega⟩, q⟩ : (0 ≤ e ∧ e < ((10 : Nat) : Int) ∧ e < 2147483648) ∧ _)⟩
theorem xs_13 {e x : Int} (h0 : 0 ≤ e) (h1 : e < 10) : dk_r G R J (.inl .iastore :: is) L (.inl x :: .inl e :: .inr (.inr 13) :: S) (HH n xs w a i) = dk_r G R J is L S (HH n xs w (dk_up a 13 (dk_ui (a 13) e x)) i) := by
  rw [← HH_ua (k := 13) (t := 0) (m := 10) rfl]
  exact propext ⟨fun q => And.right (a := (0 ≤ e ∧ e < ((10 : Nat) : Int) ∧ e < 2147483648)) q, fun q => (⟨⟨h0, by omega, by omega⟩, q⟩ : (0 ≤ e ∧ e < ((10 : Nat) : Int) ∧ e < 2147483648) ∧ _)⟩
theorem xa_15 {e : Int} (h0 : 0 ≤ e) (h1 : e < 7) : dk_r G R J (.inl .iaload :: is) L (.inl e :: .inr (.inr 15) :: S) (HH n xs w a i) = dk_r G R J is L (.inl (a 15 e) :: S) (HH n xs w a i) := propext ⟨fun q => And.right (a := (0 ≤ e ∧ e < ((7 : Nat) : Int) ∧ e < 2147483648)) q, fun q => (⟨⟨h0, by omega, by omega⟩, q⟩ : (0 ≤ e ∧ e < ((7 : Nat) : Int) ∧ e < 2147483648) ∧ _)⟩
theorem xs_15 {e x : Int} (h0 : 0 ≤ e) (h1 : e < 7) : dk_r G R J (.inl .iastore :: is) L (.inl x :: .inl e :: .inr (.inr 15) :: S) (HH n xs w a i) = dk_r G R J is L S (HH n xs w (dk_up a 15 (dk_ui (a 15) e x)) i) := by
  rw [← HH_ua (k := 15) (t := 0) (m := 7) rfl]
  exact propext ⟨fun q => And.right (a := (0 ≤ e ∧ e < ((7 : Nat) : Int) ∧ e < 2147483648)) q, fun q => (⟨⟨h0, by omega, by omega⟩, q⟩ : (0 ≤ e ∧ e < ((7 : Nat) : Int) ∧ e < 2147483648) ∧ _)⟩
theorem xa_16 {e : Int} (h0 : 0 ≤ e) (h1 : e < 24) : dk_r G R J (.inl .iaload :: is) L (.inl e :: .inr (.inr 16) :: S) (HH n xs w a i) = dk_r G R J is L (.inl (a 16 e) :: S) (HH n xs w a i) := propext ⟨fun q => And.right (a := (0 ≤ e ∧ e < ((24 : Nat) : Int) ∧ e < 2147483648)) q, fun q => (⟨⟨h0, by omega, by omega⟩, q⟩ : (0 ≤ e ∧ e < ((24 : Nat) : Int) ∧ e < 2147483648) ∧ _)⟩
theorem xs_16 {e x : Int} (h0 : 0 ≤ e) (h1 : e < 24) : dk_r G R J (.inl .iastore :: is) L (.inl x :: .inl e :: .inr (.inr 16) :: S) (HH n xs w a i) = dk_r G R J is L S (HH n xs w (dk_up a 16 (dk_ui (a 16) e x)) i) := by
  rw [← HH_ua (k := 16) (t := 0) (m := 24) rfl]
  exact propext ⟨fun q => And.right (a := (0 ≤ e ∧ e < ((24 : Nat) : Int) ∧ e < 2147483648)) q, fun q => (⟨⟨h0, by omega, by omega⟩, q⟩ : (0 ≤ e ∧ e < ((24 : Nat) : Int) ∧ e < 2147483648) ∧ _)⟩
theorem xa_17 {e : Int} (h0 : 0 ≤ e) (h1 : e < 24) : dk_r G R J (.inl .iaload :: is) L (.inl e :: .inr (.inr 17) :: S) (HH n xs w a i) = dk_r G R J is L (.inl (a 17 e) :: S) (HH n xs w a i) := propext ⟨fun q => And.right (a := (0 ≤ e ∧ e < ((24 : Nat) : Int) ∧ e < 2147483648)) q, fun q => (⟨⟨h0, by omega, by omega⟩, q⟩ : (0 ≤ e ∧ e < ((24 : Nat) : Int) ∧ e < 2147483648) ∧ _)⟩
theorem xs_17 {e x : Int} (h0 : 0 ≤ e) (h1 : e < 24) : dk_r G R J (.inl .iastore :: is) L (.inl x :: .inl e :: .inr (.inr 17) :: S) (HH n xs w a i) = dk_r G R J is L S (HH n xs w (dk_up a 17 (dk_ui (a 17) e x)) i) := by
  rw [← HH_ua (k := 17) (t := 0) (m := 24) rfl]
  exact propext ⟨fun q => And.right (a := (0 ≤ e ∧ e < ((24 : Nat) : Int) ∧ e < 2147483648)) q, fun q => (⟨⟨h0, by omega, by omega⟩, q⟩ : (0 ≤ e ∧ e < ((24 : Nat) : Int) ∧ e < 2147483648) ∧ _)⟩
theorem xa_18 {e : Int} (h0 : 0 ≤ e) (h1 : e < 24) : dk_r G R J (.inl .iaload :: is) L (.inl e :: .inr (.inr 18) :: S) (HH n xs w a i) = dk_r G R J is L (.inl (a 18 e) :: S) (HH n xs w a i) := propext ⟨fun q => And.right (a := (0 ≤ e ∧ e < ((24 : Nat) : Int) ∧ e < 2147483648)) q, fun q => (⟨⟨h0, by omega, by omega⟩, q⟩ : (0 ≤ e ∧ e < ((24 : Nat) : Int) ∧ e < 2147483648) ∧ _)⟩
theorem xs_18 {e x : Int} (h0 : 0 ≤ e) (h1 : e < 24) : dk_r G R J (.inl .iastore :: is) L (.inl x :: .inl e :: .inr (.inr 18) :: S) (HH n xs w a i) = dk_r G R J is L S (HH n xs w (dk_up a 18 (dk_ui (a 18) e x)) i) := by
  rw [← HH_ua (k := 18) (t := 0) (m := 24) rfl]
  exact propext ⟨fun q => And.right (a := (0 ≤ e ∧ e < ((24 : Nat) : Int) ∧ e < 2147483648)) q, fun q => (⟨⟨h0, by omega, by omega⟩, q⟩ : (0 ≤ e ∧ e < ((24 : Nat) : Int) ∧ e < 2147483648) ∧ _)⟩
theorem xa_19 {e : Int} (h0 : 0 ≤ e) (h1 : e < 24) : dk_r G R J (.inl .iaload :: is) L (.inl e :: .inr (.inr 19) :: S) (HH n xs w a i) = dk_r G R J is L (.inl (a 19 e) :: S) (HH n xs w a i) := propext ⟨fun q => And.right (a := (0 ≤ e ∧ e < ((24 : Nat) : Int) ∧ e < 2147483648)) q, fun q => (⟨⟨h0, by omega, by omega⟩, q⟩ : (0 ≤ e ∧ e < ((24 : Nat) : Int) ∧ e < 2147483648) ∧ _)⟩
theorem xs_19 {e x : Int} (h0 : 0 ≤ e) (h1 : e < 24) : dk_r G R J (.inl .iastore :: is) L (.inl x :: .inl e :: .inr (.inr 19) :: S) (HH n xs w a i) = dk_r G R J is L S (HH n xs w (dk_up a 19 (dk_ui (a 19) e x)) i) := by
  rw [← HH_ua (k := 19) (t := 0) (m := 24) rfl]
  exact propext ⟨fun q => And.right (a := (0 ≤ e ∧ e < ((24 : Nat) : Int) ∧ e < 2147483648)) q, fun q => (⟨⟨h0, by omega, by omega⟩, q⟩ : (0 ≤ e ∧ e < ((24 : Nat) : Int) ∧ e < 2147483648) ∧ _)⟩
theorem xa_20 {e : Int} (h0 : 0 ≤ e) (h1 : e < 24) : dk_r G R J (.inl .iaload :: is) L (.inl e :: .inr (.inr 20) :: S) (HH n xs w a i) = dk_r G R J is L (.inl (a 20 e) :: S) (HH n xs w a i) := propext ⟨fun q => And.right (a := (0 ≤ e ∧ e < ((24 : Nat) : Int) ∧ e < 2147483648)) q, fun q => (⟨⟨h0, by omega, by omega⟩, q⟩ : (0 ≤ e ∧ e < ((24 : Nat) : Int) ∧ e < 2147483648) ∧ _)⟩
theorem xs_20 {e x : Int} (h0 : 0 ≤ e) (h1 : e < 24) : dk_r G R J (.inl .iastore :: is) L (.inl x :: .inl e :: .inr (.inr 20) :: S) (HH n xs w a i) = dk_r G R J is L S (HH n xs w (dk_up a 20 (dk_ui (a 20) e x)) i) := by
  rw [← HH_ua (k := 20) (t := 0) (m := 24) rfl]
  exact propext ⟨fun q => And.right (a := (0 ≤ e ∧ e < ((24 : Nat) : Int) ∧ e < 2147483648)) q, fun q => (⟨⟨h0, by omega, by omega⟩, q⟩ : (0 ≤ e ∧ e < ((24 : Nat) : Int) ∧ e < 2147483648) ∧ _)⟩
theorem xa_21 {e : Int} (h0 : 0 ≤ e) (h1 : e < 24) : dk_r G R J (.inl .iaload :: is) L (.inl e :: .inr (.inr 21) :: S) (HH n xs w a i) = dk_r G R J is L (.inl (a 21 e) :: S) (HH n xs w a i) := propext ⟨fun q => And.right (a := (0 ≤ e ∧ e < ((24 : Nat) : Int) ∧ e < 2147483648)) q, fun q => (⟨⟨h0, by omega, by omega⟩, q⟩ : (0 ≤ e ∧ e < ((24 : Nat) : Int) ∧ e < 2147483648) ∧ _)⟩
theorem xs_21 {e x : Int} (h0 : 0 ≤ e) (h1 : e < 24) : dk_r G R J (.inl .iastore :: is) L (.inl x :: .inl e :: .inr (.inr 21) :: S) (HH n xs w a i) = dk_r G R J is L S (HH n xs w (dk_up a 21 (dk_ui (a 21) e x)) i) := by
  rw [← HH_ua (k := 21) (t := 0) (m := 24) rfl]
  exact propext ⟨fun q => And.right (a := (0 ≤ e ∧ e < ((24 : Nat) : Int) ∧ e < 2147483648)) q, fun q => (⟨⟨h0, by omega, by omega⟩, q⟩ : (0 ≤ e ∧ e < ((24 : Nat) : Int) ∧ e < 2147483648) ∧ _)⟩
theorem xa_22 {e : Int} (h0 : 0 ≤ e) (h1 : e < 6) : dk_r G R J (.inl .iaload :: is) L (.inl e :: .inr (.inr 22) :: S) (HH n xs w a i) = dk_r G R J is L (.inl (a 22 e) :: S) (HH n xs w a i) := propext ⟨fun q => And.right (a := (0 ≤ e ∧ e < ((6 : Nat) : Int) ∧ e < 2147483648)) q, fun q => (⟨⟨h0, by omega, by omega⟩, q⟩ : (0 ≤ e ∧ e < ((6 : Nat) : Int) ∧ e < 2147483648) ∧ _)⟩
theorem xs_22 {e x : Int} (h0 : 0 ≤ e) (h1 : e < 6) : dk_r G R J (.inl .iastore :: is) L (.inl x :: .inl e :: .inr (.inr 22) :: S) (HH n xs w a i) = dk_r G R J is L S (HH n xs w (dk_up a 22 (dk_ui (a 22) e x)) i) := by
  rw [← HH_ua (k := 22) (t := 0) (m := 6) rfl]
  exact propext ⟨fun q => And.right (a := (0 ≤ e ∧ e < ((6 : Nat) : Int) ∧ e < 2147483648)) q, fun q => (⟨⟨h0, by omega, by omega⟩, q⟩ : (0 ≤ e ∧ e < ((6 : Nat) : Int) ∧ e < 2147483648) ∧ _)⟩
theorem xa_23 {e : Int} (h0 : 0 ≤ e) (h1 : e < 6) : dk_r G R J (.inl .iaload :: is) L (.inl e :: .inr (.inr 23) :: S) (HH n xs w a i) = dk_r G R J is L (.inl (a 23 e) :: S) (HH n xs w a i) := propext ⟨fun q => And.right (a := (0 ≤ e ∧ e < ((6 : Nat) : Int) ∧ e < 2147483648)) q, fun q => (⟨⟨h0, by omega, by omega⟩, q⟩ : (0 ≤ e ∧ e < ((6 : Nat) : Int) ∧ e < 2147483648) ∧ _)⟩
theorem xs_23 {e x : Int} (h0 : 0 ≤ e) (h1 : e < 6) : dk_r G R J (.inl .iastore :: is) L (.inl x :: .inl e :: .inr (.inr 23) :: S) (HH n xs w a i) = dk_r G R J is L S (HH n xs w (dk_up a 23 (dk_ui (a 23) e x)) i) := by
  rw [← HH_ua (k := 23) (t := 0) (m := 6) rfl]
  exact propext ⟨fun q => And.right (a := (0 ≤ e ∧ e < ((6 : Nat) : Int) ∧ e < 2147483648)) q, fun q => (⟨⟨h0, by omega, by omega⟩, q⟩ : (0 ≤ e ∧ e < ((6 : Nat) : Int) ∧ e < 2147483648) ∧ _)⟩
theorem xa_24 {e : Int} (h0 : 0 ≤ e) (h1 : e < 6) : dk_r G R J (.inl .iaload :: is) L (.inl e :: .inr (.inr 24) :: S) (HH n xs w a i) = dk_r G R J is L (.inl (a 24 e) :: S) (HH n xs w a i) := propext ⟨fun q => And.right (a := (0 ≤ e ∧ e < ((6 : Nat) : Int) ∧ e < 2147483648)) q, fun q => (⟨⟨h0, by omega, by omega⟩, q⟩ : (0 ≤ e ∧ e < ((6 : Nat) : Int) ∧ e < 2147483648) ∧ _)⟩
theorem xs_24 {e x : Int} (h0 : 0 ≤ e) (h1 : e < 6) : dk_r G R J (.inl .iastore :: is) L (.inl x :: .inl e :: .inr (.inr 24) :: S) (HH n xs w a i) = dk_r G R J is L S (HH n xs w (dk_up a 24 (dk_ui (a 24) e x)) i) := by
  rw [← HH_ua (k := 24) (t := 0) (m := 6) rfl]
  exact propext ⟨fun q => And.right (a := (0 ≤ e ∧ e < ((6 : Nat) : Int) ∧ e < 2147483648)) q, fun q => (⟨⟨h0, by omega, by omega⟩, q⟩ : (0 ≤ e ∧ e < ((6 : Nat) : Int) ∧ e < 2147483648) ∧ _)⟩
theorem xa_25 {e : Int} (h0 : 0 ≤ e) (h1 : e < 6) : dk_r G R J (.inl .iaload :: is) L (.inl e :: .inr (.inr 25) :: S) (HH n xs w a i) = dk_r G R J is L (.inl (a 25 e) :: S) (HH n xs w a i) := propext ⟨fun q => And.right (a := (0 ≤ e ∧ e < ((6 : Nat) : Int) ∧ e < 2147483648)) q, fun q => (⟨⟨h0, by omega, by omega⟩, q⟩ : (0 ≤ e ∧ e < ((6 : Nat) : Int) ∧ e < 2147483648) ∧ _)⟩
theorem xs_25 {e x : Int} (h0 : 0 ≤ e) (h1 : e < 6) : dk_r G R J (.inl .iastore :: is) L (.inl x :: .inl e :: .inr (.inr 25) :: S) (HH n xs w a i) = dk_r G R J is L S (HH n xs w (dk_up a 25 (dk_ui (a 25) e x)) i) := by
  rw [← HH_ua (k := 25) (t := 0) (m := 6) rfl]
  exact propext ⟨fun q => And.right (a := (0 ≤ e ∧ e < ((6 : Nat) : Int) ∧ e < 2147483648)) q, fun q => (⟨⟨h0, by omega, by omega⟩, q⟩ : (0 ≤ e ∧ e < ((6 : Nat) : Int) ∧ e < 2147483648) ∧ _)⟩
theorem xa_26 {e : Int} (h0 : 0 ≤ e) (h1 : e < 10) : dk_r G R J (.inl .iaload :: is) L (.inl e :: .inr (.inr 26) :: S) (HH n xs w a i) = dk_r G R J is L (.inl (a 26 e) :: S) (HH n xs w a i) := propext ⟨fun q => And.right (a := (0 ≤ e ∧ e < ((10 : Nat) : Int) ∧ e < 2147483648)) q, fun q => (⟨⟨h0, by omega, by omega⟩, q⟩ : (0 ≤ e ∧ e < ((10 : Nat) : Int) ∧ e < 2147483648) ∧ _)⟩
theorem xs_26 {e x : Int} (h0 : 0 ≤ e) (h1 : e < 10) : dk_r G R J (.inl .iastore :: is) L (.inl x :: .inl e :: .inr (.inr 26) :: S) (HH n xs w a i) = dk_r G R J is L S (HH n xs w (dk_up a 26 (dk_ui (a 26) e x)) i) := by
  rw [← HH_ua (k := 26) (t := 0) (m := 10) rfl]
  exact propext ⟨fun q => And.right (a := (0 ≤ e ∧ e < ((10 : Nat) : Int) ∧ e < 2147483648)) q, fun q => (⟨⟨h0, by omega, by omega⟩, q⟩ : (0 ≤ e ∧ e < ((10 : Nat) : Int) ∧ e < 2147483648) ∧ _)⟩
theorem xa_28 {e : Int} (h0 : 0 ≤ e) (h1 : e < 120) : dk_r G R J (.inl .iaload :: is) L (.inl e :: .inr (.inr 28) :: S) (HH n xs w a i) = dk_r G R J is L (.inl (a 28 e) :: S) (HH n xs w a i) := propext ⟨fun q => And.right (a := (0 ≤ e ∧ e < ((120 : Nat) : Int) ∧ e < 2147483648)) q, fun q => (⟨⟨h0, by omega, by omega⟩, q⟩ : (0 ≤ e ∧ e < ((120 : Nat) : Int) ∧ e < 2147483648) ∧ _)⟩
theorem xs_28 {e x : Int} (h0 : 0 ≤ e) (h1 : e < 120) : dk_r G R J (.inl .iastore :: is) L (.inl x :: .inl e :: .inr (.inr 28) :: S) (HH n xs w a i) = dk_r G R J is L S (HH n xs w (dk_up a 28 (dk_ui (a 28) e x)) i) := by
  rw [← HH_ua (k := 28) (t := 0) (m := 120) rfl]
  exact propext ⟨fun q => And.right (a := (0 ≤ e ∧ e < ((120 : Nat) : Int) ∧ e < 2147483648)) q, fun q => (⟨⟨h0, by omega, by omega⟩, q⟩ : (0 ≤ e ∧ e < ((120 : Nat) : Int) ∧ e < 2147483648) ∧ _)⟩
theorem xa_29 {e : Int} (h0 : 0 ≤ e) (h1 : e < 66) : dk_r G R J (.inl .iaload :: is) L (.inl e :: .inr (.inr 29) :: S) (HH n xs w a i) = dk_r G R J is L (.inl (a 29 e) :: S) (HH n xs w a i) := propext ⟨fun q => And.right (a := (0 ≤ e ∧ e < ((66 : Nat) : Int) ∧ e < 2147483648)) q, fun q => (⟨⟨h0, by omega, by omega⟩, q⟩ : (0 ≤ e ∧ e < ((66 : Nat) : Int) ∧ e < 2147483648) ∧ _)⟩
theorem xs_29 {e x : Int} (h0 : 0 ≤ e) (h1 : e < 66) : dk_r G R J (.inl .iastore :: is) L (.inl x :: .inl e :: .inr (.inr 29) :: S) (HH n xs w a i) = dk_r G R J is L S (HH n xs w (dk_up a 29 (dk_ui (a 29) e x)) i) := by
  rw [← HH_ua (k := 29) (t := 0) (m := 66) rfl]
  exact propext ⟨fun q => And.right (a := (0 ≤ e ∧ e < ((66 : Nat) : Int) ∧ e < 2147483648)) q, fun q => (⟨⟨h0, by omega, by omega⟩, q⟩ : (0 ≤ e ∧ e < ((66 : Nat) : Int) ∧ e < 2147483648) ∧ _)⟩
theorem xa_35 {e : Int} (h0 : 0 ≤ e) (h1 : e < 40) : dk_r G R J (.inl .iaload :: is) L (.inl e :: .inr (.inr 35) :: S) (HH n xs w a i) = dk_r G R J is L (.inl (a 35 e) :: S) (HH n xs w a i) := propext ⟨fun q => And.right (a := (0 ≤ e ∧ e < ((40 : Nat) : Int) ∧ e < 2147483648)) q, fun q => (⟨⟨h0, by omega, by omega⟩, q⟩ : (0 ≤ e ∧ e < ((40 : Nat) : Int) ∧ e < 2147483648) ∧ _)⟩
theorem xs_35 {e x : Int} (h0 : 0 ≤ e) (h1 : e < 40) : dk_r G R J (.inl .iastore :: is) L (.inl x :: .inl e :: .inr (.inr 35) :: S) (HH n xs w a i) = dk_r G R J is L S (HH n xs w (dk_up a 35 (dk_ui (a 35) e x)) i) := by
  rw [← HH_ua (k := 35) (t := 0) (m := 40) rfl]
  exact propext ⟨fun q => And.right (a := (0 ≤ e ∧ e < ((40 : Nat) : Int) ∧ e < 2147483648)) q, fun q => (⟨⟨h0, by omega, by omega⟩, q⟩ : (0 ≤ e ∧ e < ((40 : Nat) : Int) ∧ e < 2147483648) ∧ _)⟩
theorem xa_36 {e : Int} (h0 : 0 ≤ e) (h1 : e < 40) : dk_r G R J (.inl .iaload :: is) L (.inl e :: .inr (.inr 36) :: S) (HH n xs w a i) = dk_r G R J is L (.inl (a 36 e) :: S) (HH n xs w a i) := propext ⟨fun q => And.right (a := (0 ≤ e ∧ e < ((40 : Nat) : Int) ∧ e < 2147483648)) q, fun q => (⟨⟨h0, by omega, by omega⟩, q⟩ : (0 ≤ e ∧ e < ((40 : Nat) : Int) ∧ e < 2147483648) ∧ _)⟩
theorem xs_36 {e x : Int} (h0 : 0 ≤ e) (h1 : e < 40) : dk_r G R J (.inl .iastore :: is) L (.inl x :: .inl e :: .inr (.inr 36) :: S) (HH n xs w a i) = dk_r G R J is L S (HH n xs w (dk_up a 36 (dk_ui (a 36) e x)) i) := by
  rw [← HH_ua (k := 36) (t := 0) (m := 40) rfl]
  exact propext ⟨fun q => And.right (a := (0 ≤ e ∧ e < ((40 : Nat) : Int) ∧ e < 2147483648)) q, fun q => (⟨⟨h0, by omega, by omega⟩, q⟩ : (0 ≤ e ∧ e < ((40 : Nat) : Int) ∧ e < 2147483648) ∧ _)⟩
theorem xa_37 {e : Int} (h0 : 0 ≤ e) (h1 : e < 40) : dk_r G R J (.inl .iaload :: is) L (.inl e :: .inr (.inr 37) :: S) (HH n xs w a i) = dk_r G R J is L (.inl (a 37 e) :: S) (HH n xs w a i) := propext ⟨fun q => And.right (a := (0 ≤ e ∧ e < ((40 : Nat) : Int) ∧ e < 2147483648)) q, fun q => (⟨⟨h0, by omega, by omega⟩, q⟩ : (0 ≤ e ∧ e < ((40 : Nat) : Int) ∧ e < 2147483648) ∧ _)⟩
theorem xs_37 {e x : Int} (h0 : 0 ≤ e) (h1 : e < 40) : dk_r G R J (.inl .iastore :: is) L (.inl x :: .inl e :: .inr (.inr 37) :: S) (HH n xs w a i) = dk_r G R J is L S (HH n xs w (dk_up a 37 (dk_ui (a 37) e x)) i) := by
  rw [← HH_ua (k := 37) (t := 0) (m := 40) rfl]
  exact propext ⟨fun q => And.right (a := (0 ≤ e ∧ e < ((40 : Nat) : Int) ∧ e < 2147483648)) q, fun q => (⟨⟨h0, by omega, by omega⟩, q⟩ : (0 ≤ e ∧ e < ((40 : Nat) : Int) ∧ e < 2147483648) ∧ _)⟩
theorem xa_38 {e : Int} (h0 : 0 ≤ e) (h1 : e < 40) : dk_r G R J (.inl .iaload :: is) L (.inl e :: .inr (.inr 38) :: S) (HH n xs w a i) = dk_r G R J is L (.inl (a 38 e) :: S) (HH n xs w a i) := propext ⟨fun q => And.right (a := (0 ≤ e ∧ e < ((40 : Nat) : Int) ∧ e < 2147483648)) q, fun q => (⟨⟨h0, by omega, by omega⟩, q⟩ : (0 ≤ e ∧ e < ((40 : Nat) : Int) ∧ e < 2147483648) ∧ _)⟩
theorem xs_38 {e x : Int} (h0 : 0 ≤ e) (h1 : e < 40) : dk_r G R J (.inl .iastore :: is) L (.inl x :: .inl e :: .inr (.inr 38) :: S) (HH n xs w a i) = dk_r G R J is L S (HH n xs w (dk_up a 38 (dk_ui (a 38) e x)) i) := by
  rw [← HH_ua (k := 38) (t := 0) (m := 40) rfl]
  exact propext ⟨fun q => And.right (a := (0 ≤ e ∧ e < ((40 : Nat) : Int) ∧ e < 2147483648)) q, fun q => (⟨⟨h0, by omega, by omega⟩, q⟩ : (0 ≤ e ∧ e < ((40 : Nat) : Int) ∧ e < 2147483648) ∧ _)⟩
theorem xa_40 {e : Int} (h0 : 0 ≤ e) (h1 : e < 24) : dk_r G R J (.inl .iaload :: is) L (.inl e :: .inr (.inr 40) :: S) (HH n xs w a i) = dk_r G R J is L (.inl (a 40 e) :: S) (HH n xs w a i) := propext ⟨fun q => And.right (a := (0 ≤ e ∧ e < ((24 : Nat) : Int) ∧ e < 2147483648)) q, fun q => (⟨⟨h0, by omega, by omega⟩, q⟩ : (0 ≤ e ∧ e < ((24 : Nat) : Int) ∧ e < 2147483648) ∧ _)⟩
theorem xs_40 {e x : Int} (h0 : 0 ≤ e) (h1 : e < 24) : dk_r G R J (.inl .iastore :: is) L (.inl x :: .inl e :: .inr (.inr 40) :: S) (HH n xs w a i) = dk_r G R J is L S (HH n xs w (dk_up a 40 (dk_ui (a 40) e x)) i) := by
  rw [← HH_ua (k := 40) (t := 0) (m := 24) rfl]
  exact propext ⟨fun q => And.right (a := (0 ≤ e ∧ e < ((24 : Nat) : Int) ∧ e < 2147483648)) q, fun q => (⟨⟨h0, by omega, by omega⟩, q⟩ : (0 ≤ e ∧ e < ((24 : Nat) : Int) ∧ e < 2147483648) ∧ _)⟩
theorem xa_41 {e : Int} (h0 : 0 ≤ e) (h1 : e < 24) : dk_r G R J (.inl .baload :: is) L (.inl e :: .inr (.inr 41) :: S) (HH n xs w a i) = dk_r G R J is L (.inl (a 41 e) :: S) (HH n xs w a i) := propext ⟨fun q => And.right (a := (0 ≤ e ∧ e < ((24 : Nat) : Int) ∧ e < 2147483648)) q, fun q => (⟨⟨h0, by omega, by omega⟩, q⟩ : (0 ≤ e ∧ e < ((24 : Nat) : Int) ∧ e < 2147483648) ∧ _)⟩
theorem xs_41 {e x : Int} (h0 : 0 ≤ e) (h1 : e < 24) (hz : x = 0 ∨ x = 1) : dk_r G R J (.inl .bastore :: is) L (.inl x :: .inl e :: .inr (.inr 41) :: S) (HH n xs w a i) = dk_r G R J is L S (HH n xs w (dk_up a 41 (dk_ui (a 41) e x)) i) := by
  rw [← HH_ua (k := 41) (t := 1) (m := 24) rfl]
  exact propext ⟨fun q => And.right (a := (0 ≤ e ∧ e < ((24 : Nat) : Int) ∧ e < 2147483648 ∧ (x = 0 ∨ x = 1))) q, fun q => (⟨⟨h0, by omega, by omega, hz⟩, q⟩ : (0 ≤ e ∧ e < ((24 : Nat) : Int) ∧ e < 2147483648 ∧ (x = 0 ∨ x = 1)) ∧ _)⟩
theorem xa_42 {e : Int} (h0 : 0 ≤ e) (h1 : e < 24) : dk_r G R J (.inl .iaload :: is) L (.inl e :: .inr (.inr 42) :: S) (HH n xs w a i) = dk_r G R J is L (.inl (a 42 e) :: S) (HH n xs w a i) := propext ⟨fun q => And.right (a := (0 ≤ e ∧ e < ((24 : Nat) : Int) ∧ e < 2147483648)) q, fun q => (⟨⟨h0, by omega, by omega⟩, q⟩ : (0 ≤ e ∧ e < ((24 : Nat) : Int) ∧ e < 2147483648) ∧ _)⟩
theorem xs_42 {e x : Int} (h0 : 0 ≤ e) (h1 : e < 24) : dk_r G R J (.inl .iastore :: is) L (.inl x :: .inl e :: .inr (.inr 42) :: S) (HH n xs w a i) = dk_r G R J is L S (HH n xs w (dk_up a 42 (dk_ui (a 42) e x)) i) := by
  rw [← HH_ua (k := 42) (t := 0) (m := 24) rfl]
  exact propext ⟨fun q => And.right (a := (0 ≤ e ∧ e < ((24 : Nat) : Int) ∧ e < 2147483648)) q, fun q => (⟨⟨h0, by omega, by omega⟩, q⟩ : (0 ≤ e ∧ e < ((24 : Nat) : Int) ∧ e < 2147483648) ∧ _)⟩
theorem xa_43 {e : Int} (h0 : 0 ≤ e) (h1 : e < 576) : dk_r G R J (.inl .iaload :: is) L (.inl e :: .inr (.inr 43) :: S) (HH n xs w a i) = dk_r G R J is L (.inl (a 43 e) :: S) (HH n xs w a i) := propext ⟨fun q => And.right (a := (0 ≤ e ∧ e < ((576 : Nat) : Int) ∧ e < 2147483648)) q, fun q => (⟨⟨h0, by omega, by omega⟩, q⟩ : (0 ≤ e ∧ e < ((576 : Nat) : Int) ∧ e < 2147483648) ∧ _)⟩
theorem xs_43 {e x : Int} (h0 : 0 ≤ e) (h1 : e < 576) : dk_r G R J (.inl .iastore :: is) L (.inl x :: .inl e :: .inr (.inr 43) :: S) (HH n xs w a i) = dk_r G R J is L S (HH n xs w (dk_up a 43 (dk_ui (a 43) e x)) i) := by
  rw [← HH_ua (k := 43) (t := 0) (m := 576) rfl]
  exact propext ⟨fun q => And.right (a := (0 ≤ e ∧ e < ((576 : Nat) : Int) ∧ e < 2147483648)) q, fun q => (⟨⟨h0, by omega, by omega⟩, q⟩ : (0 ≤ e ∧ e < ((576 : Nat) : Int) ∧ e < 2147483648) ∧ _)⟩
theorem xa_45 {e : Int} (h0 : 0 ≤ e) (h1 : e < 24) : dk_r G R J (.inl .iaload :: is) L (.inl e :: .inr (.inr 45) :: S) (HH n xs w a i) = dk_r G R J is L (.inl (a 45 e) :: S) (HH n xs w a i) := propext ⟨fun q => And.right (a := (0 ≤ e ∧ e < ((24 : Nat) : Int) ∧ e < 2147483648)) q, fun q => (⟨⟨h0, by omega, by omega⟩, q⟩ : (0 ≤ e ∧ e < ((24 : Nat) : Int) ∧ e < 2147483648) ∧ _)⟩
theorem xs_45 {e x : Int} (h0 : 0 ≤ e) (h1 : e < 24) : dk_r G R J (.inl .iastore :: is) L (.inl x :: .inl e :: .inr (.inr 45) :: S) (HH n xs w a i) = dk_r G R J is L S (HH n xs w (dk_up a 45 (dk_ui (a 45) e x)) i) := by
  rw [← HH_ua (k := 45) (t := 0) (m := 24) rfl]
  exact propext ⟨fun q => And.right (a := (0 ≤ e ∧ e < ((24 : Nat) : Int) ∧ e < 2147483648)) q, fun q => (⟨⟨h0, by omega, by omega⟩, q⟩ : (0 ≤ e ∧ e < ((24 : Nat) : Int) ∧ e < 2147483648) ∧ _)⟩
theorem xa_46 {e : Int} (h0 : 0 ≤ e) (h1 : e < 24) : dk_r G R J (.inl .iaload :: is) L (.inl e :: .inr (.inr 46) :: S) (HH n xs w a i) = dk_r G R J is L (.inl (a 46 e) :: S) (HH n xs w a i) := propext ⟨fun q => And.right (a := (0 ≤ e ∧ e < ((24 : Nat) : Int) ∧ e < 2147483648)) q, fun q => (⟨⟨h0, by omega, by omega⟩, q⟩ : (0 ≤ e ∧ e < ((24 : Nat) : Int) ∧ e < 2147483648) ∧ _)⟩
theorem xs_46 {e x : Int} (h0 : 0 ≤ e) (h1 : e < 24) : dk_r G R J (.inl .iastore :: is) L (.inl x :: .inl e :: .inr (.inr 46) :: S) (HH n xs w a i) = dk_r G R J is L S (HH n xs w (dk_up a 46 (dk_ui (a 46) e x)) i) := by
  rw [← HH_ua (k := 46) (t := 0) (m := 24) rfl]
  exact propext ⟨fun q => And.right (a := (0 ≤ e ∧ e < ((24 : Nat) : Int) ∧ e < 2147483648)) q, fun q => (⟨⟨h0, by omega, by omega⟩, q⟩ : (0 ≤ e ∧ e < ((24 : Nat) : Int) ∧ e < 2147483648) ∧ _)⟩
theorem xa_48 {e : Int} (h0 : 0 ≤ e) (h1 : e < 24) : dk_r G R J (.inl .iaload :: is) L (.inl e :: .inr (.inr 48) :: S) (HH n xs w a i) = dk_r G R J is L (.inl (a 48 e) :: S) (HH n xs w a i) := propext ⟨fun q => And.right (a := (0 ≤ e ∧ e < ((24 : Nat) : Int) ∧ e < 2147483648)) q, fun q => (⟨⟨h0, by omega, by omega⟩, q⟩ : (0 ≤ e ∧ e < ((24 : Nat) : Int) ∧ e < 2147483648) ∧ _)⟩
theorem xs_48 {e x : Int} (h0 : 0 ≤ e) (h1 : e < 24) : dk_r G R J (.inl .iastore :: is) L (.inl x :: .inl e :: .inr (.inr 48) :: S) (HH n xs w a i) = dk_r G R J is L S (HH n xs w (dk_up a 48 (dk_ui (a 48) e x)) i) := by
  rw [← HH_ua (k := 48) (t := 0) (m := 24) rfl]
  exact propext ⟨fun q => And.right (a := (0 ≤ e ∧ e < ((24 : Nat) : Int) ∧ e < 2147483648)) q, fun q => (⟨⟨h0, by omega, by omega⟩, q⟩ : (0 ≤ e ∧ e < ((24 : Nat) : Int) ∧ e < 2147483648) ∧ _)⟩
theorem xa_49 {e : Int} (h0 : 0 ≤ e) (h1 : e < 24) : dk_r G R J (.inl .iaload :: is) L (.inl e :: .inr (.inr 49) :: S) (HH n xs w a i) = dk_r G R J is L (.inl (a 49 e) :: S) (HH n xs w a i) := propext ⟨fun q => And.right (a := (0 ≤ e ∧ e < ((24 : Nat) : Int) ∧ e < 2147483648)) q, fun q => (⟨⟨h0, by omega, by omega⟩, q⟩ : (0 ≤ e ∧ e < ((24 : Nat) : Int) ∧ e < 2147483648) ∧ _)⟩
theorem xs_49 {e x : Int} (h0 : 0 ≤ e) (h1 : e < 24) : dk_r G R J (.inl .iastore :: is) L (.inl x :: .inl e :: .inr (.inr 49) :: S) (HH n xs w a i) = dk_r G R J is L S (HH n xs w (dk_up a 49 (dk_ui (a 49) e x)) i) := by
  rw [← HH_ua (k := 49) (t := 0) (m := 24) rfl]
  exact propext ⟨fun q => And.right (a := (0 ≤ e ∧ e < ((24 : Nat) : Int) ∧ e < 2147483648)) q, fun q => (⟨⟨h0, by omega, by omega⟩, q⟩ : (0 ≤ e ∧ e < ((24 : Nat) : Int) ∧ e < 2147483648) ∧ _)⟩
theorem xa_50 {e : Int} (h0 : 0 ≤ e) (h1 : e < 4824) : dk_r G R J (.inl .iaload :: is) L (.inl e :: .inr (.inr 50) :: S) (HH n xs w a i) = dk_r G R J is L (.inl (a 50 e) :: S) (HH n xs w a i) := propext ⟨fun q => And.right (a := (0 ≤ e ∧ e < ((4824 : Nat) : Int) ∧ e < 2147483648)) q, fun q => (⟨⟨h0, by omega, by omega⟩, q⟩ : (0 ≤ e ∧ e < ((4824 : Nat) : Int) ∧ e < 2147483648) ∧ _)⟩
theorem xs_50 {e x : Int} (h0 : 0 ≤ e) (h1 : e < 4824) : dk_r G R J (.inl .iastore :: is) L (.inl x :: .inl e :: .inr (.inr 50) :: S) (HH n xs w a i) = dk_r G R J is L S (HH n xs w (dk_up a 50 (dk_ui (a 50) e x)) i) := by
  rw [← HH_ua (k := 50) (t := 0) (m := 4824) rfl]
  exact propext ⟨fun q => And.right (a := (0 ≤ e ∧ e < ((4824 : Nat) : Int) ∧ e < 2147483648)) q, fun q => (⟨⟨h0, by omega, by omega⟩, q⟩ : (0 ≤ e ∧ e < ((4824 : Nat) : Int) ∧ e < 2147483648) ∧ _)⟩
theorem xa_51 {e : Int} (h0 : 0 ≤ e) (h1 : e < 24) : dk_r G R J (.inl .iaload :: is) L (.inl e :: .inr (.inr 51) :: S) (HH n xs w a i) = dk_r G R J is L (.inl (a 51 e) :: S) (HH n xs w a i) := propext ⟨fun q => And.right (a := (0 ≤ e ∧ e < ((24 : Nat) : Int) ∧ e < 2147483648)) q, fun q => (⟨⟨h0, by omega, by omega⟩, q⟩ : (0 ≤ e ∧ e < ((24 : Nat) : Int) ∧ e < 2147483648) ∧ _)⟩
theorem xs_51 {e x : Int} (h0 : 0 ≤ e) (h1 : e < 24) : dk_r G R J (.inl .iastore :: is) L (.inl x :: .inl e :: .inr (.inr 51) :: S) (HH n xs w a i) = dk_r G R J is L S (HH n xs w (dk_up a 51 (dk_ui (a 51) e x)) i) := by
  rw [← HH_ua (k := 51) (t := 0) (m := 24) rfl]
  exact propext ⟨fun q => And.right (a := (0 ≤ e ∧ e < ((24 : Nat) : Int) ∧ e < 2147483648)) q, fun q => (⟨⟨h0, by omega, by omega⟩, q⟩ : (0 ≤ e ∧ e < ((24 : Nat) : Int) ∧ e < 2147483648) ∧ _)⟩
theorem xa_52 {e : Int} (h0 : 0 ≤ e) (h1 : e < 7) : dk_r G R J (.inl .iaload :: is) L (.inl e :: .inr (.inr 52) :: S) (HH n xs w a i) = dk_r G R J is L (.inl (a 52 e) :: S) (HH n xs w a i) := propext ⟨fun q => And.right (a := (0 ≤ e ∧ e < ((7 : Nat) : Int) ∧ e < 2147483648)) q, fun q => (⟨⟨h0, by omega, by omega⟩, q⟩ : (0 ≤ e ∧ e < ((7 : Nat) : Int) ∧ e < 2147483648) ∧ _)⟩
theorem xs_52 {e x : Int} (h0 : 0 ≤ e) (h1 : e < 7) : dk_r G R J (.inl .iastore :: is) L (.inl x :: .inl e :: .inr (.inr 52) :: S) (HH n xs w a i) = dk_r G R J is L S (HH n xs w (dk_up a 52 (dk_ui (a 52) e x)) i) := by
  rw [← HH_ua (k := 52) (t := 0) (m := 7) rfl]
  exact propext ⟨fun q => And.right (a := (0 ≤ e ∧ e < ((7 : Nat) : Int) ∧ e < 2147483648)) q, fun q => (⟨⟨h0, by omega, by omega⟩, q⟩ : (0 ≤ e ∧ e < ((7 : Nat) : Int) ∧ e < 2147483648) ∧ _)⟩
theorem xa_54 {e : Int} (h0 : 0 ≤ e) (h1 : e < 7) : dk_r G R J (.inl .iaload :: is) L (.inl e :: .inr (.inr 54) :: S) (HH n xs w a i) = dk_r G R J is L (.inl (a 54 e) :: S) (HH n xs w a i) := propext ⟨fun q => And.right (a := (0 ≤ e ∧ e < ((7 : Nat) : Int) ∧ e < 2147483648)) q, fun q => (⟨⟨h0, by omega, by omega⟩, q⟩ : (0 ≤ e ∧ e < ((7 : Nat) : Int) ∧ e < 2147483648) ∧ _)⟩
theorem xs_54 {e x : Int} (h0 : 0 ≤ e) (h1 : e < 7) : dk_r G R J (.inl .iastore :: is) L (.inl x :: .inl e :: .inr (.inr 54) :: S) (HH n xs w a i) = dk_r G R J is L S (HH n xs w (dk_up a 54 (dk_ui (a 54) e x)) i) := by
  rw [← HH_ua (k := 54) (t := 0) (m := 7) rfl]
  exact propext ⟨fun q => And.right (a := (0 ≤ e ∧ e < ((7 : Nat) : Int) ∧ e < 2147483648)) q, fun q => (⟨⟨h0, by omega, by omega⟩, q⟩ : (0 ≤ e ∧ e < ((7 : Nat) : Int) ∧ e < 2147483648) ∧ _)⟩
theorem xa_55 {e : Int} (h0 : 0 ≤ e) (h1 : e < 7) : dk_r G R J (.inl .iaload :: is) L (.inl e :: .inr (.inr 55) :: S) (HH n xs w a i) = dk_r G R J is L (.inl (a 55 e) :: S) (HH n xs w a i) := propext ⟨fun q => And.right (a := (0 ≤ e ∧ e < ((7 : Nat) : Int) ∧ e < 2147483648)) q, fun q => (⟨⟨h0, by omega, by omega⟩, q⟩ : (0 ≤ e ∧ e < ((7 : Nat) : Int) ∧ e < 2147483648) ∧ _)⟩
theorem xs_55 {e x : Int} (h0 : 0 ≤ e) (h1 : e < 7) : dk_r G R J (.inl .iastore :: is) L (.inl x :: .inl e :: .inr (.inr 55) :: S) (HH n xs w a i) = dk_r G R J is L S (HH n xs w (dk_up a 55 (dk_ui (a 55) e x)) i) := by
  rw [← HH_ua (k := 55) (t := 0) (m := 7) rfl]
  exact propext ⟨fun q => And.right (a := (0 ≤ e ∧ e < ((7 : Nat) : Int) ∧ e < 2147483648)) q, fun q => (⟨⟨h0, by omega, by omega⟩, q⟩ : (0 ≤ e ∧ e < ((7 : Nat) : Int) ∧ e < 2147483648) ∧ _)⟩
theorem xa_56 {e : Int} (h0 : 0 ≤ e) (h1 : e < 7) : dk_r G R J (.inl .iaload :: is) L (.inl e :: .inr (.inr 56) :: S) (HH n xs w a i) = dk_r G R J is L (.inl (a 56 e) :: S) (HH n xs w a i) := propext ⟨fun q => And.right (a := (0 ≤ e ∧ e < ((7 : Nat) : Int) ∧ e < 2147483648)) q, fun q => (⟨⟨h0, by omega, by omega⟩, q⟩ : (0 ≤ e ∧ e < ((7 : Nat) : Int) ∧ e < 2147483648) ∧ _)⟩
theorem xs_56 {e x : Int} (h0 : 0 ≤ e) (h1 : e < 7) : dk_r G R J (.inl .iastore :: is) L (.inl x :: .inl e :: .inr (.inr 56) :: S) (HH n xs w a i) = dk_r G R J is L S (HH n xs w (dk_up a 56 (dk_ui (a 56) e x)) i) := by
  rw [← HH_ua (k := 56) (t := 0) (m := 7) rfl]
  exact propext ⟨fun q => And.right (a := (0 ≤ e ∧ e < ((7 : Nat) : Int) ∧ e < 2147483648)) q, fun q => (⟨⟨h0, by omega, by omega⟩, q⟩ : (0 ≤ e ∧ e < ((7 : Nat) : Int) ∧ e < 2147483648) ∧ _)⟩
theorem xa_57 {e : Int} (h0 : 0 ≤ e) (h1 : e < 120) : dk_r G R J (.inl .iaload :: is) L (.inl e :: .inr (.inr 57) :: S) (HH n xs w a i) = dk_r G R J is L (.inl (a 57 e) :: S) (HH n xs w a i) := propext ⟨fun q => And.right (a := (0 ≤ e ∧ e < ((120 : Nat) : Int) ∧ e < 2147483648)) q, fun q => (⟨⟨h0, by omega, by omega⟩, q⟩ : (0 ≤ e ∧ e < ((120 : Nat) : Int) ∧ e < 2147483648) ∧ _)⟩
theorem xs_57 {e x : Int} (h0 : 0 ≤ e) (h1 : e < 120) : dk_r G R J (.inl .iastore :: is) L (.inl x :: .inl e :: .inr (.inr 57) :: S) (HH n xs w a i) = dk_r G R J is L S (HH n xs w (dk_up a 57 (dk_ui (a 57) e x)) i) := by
  rw [← HH_ua (k := 57) (t := 0) (m := 120) rfl]
  exact propext ⟨fun q => And.right (a := (0 ≤ e ∧ e < ((120 : Nat) : Int) ∧ e < 2147483648)) q, fun q => (⟨⟨h0, by omega, by omega⟩, q⟩ : (0 ≤ e ∧ e < ((120 : Nat) : Int) ∧ e < 2147483648) ∧ _)⟩
theorem xa_58 {e : Int} (h0 : 0 ≤ e) (h1 : e < 24) : dk_r G R J (.inl .iaload :: is) L (.inl e :: .inr (.inr 58) :: S) (HH n xs w a i) = dk_r G R J is L (.inl (a 58 e) :: S) (HH n xs w a i) := propext ⟨fun q => And.right (a := (0 ≤ e ∧ e < ((24 : Nat) : Int) ∧ e < 2147483648)) q, fun q => (⟨⟨h0, by omega, by omega⟩, q⟩ : (0 ≤ e ∧ e < ((24 : Nat) : Int) ∧ e < 2147483648) ∧ _)⟩
theorem xs_58 {e x : Int} (h0 : 0 ≤ e) (h1 : e < 24) : dk_r G R J (.inl .iastore :: is) L (.inl x :: .inl e :: .inr (.inr 58) :: S) (HH n xs w a i) = dk_r G R J is L S (HH n xs w (dk_up a 58 (dk_ui (a 58) e x)) i) := by
  rw [← HH_ua (k := 58) (t := 0) (m := 24) rfl]
  exact propext ⟨fun q => And.right (a := (0 ≤ e ∧ e < ((24 : Nat) : Int) ∧ e < 2147483648)) q, fun q => (⟨⟨h0, by omega, by omega⟩, q⟩ : (0 ≤ e ∧ e < ((24 : Nat) : Int) ∧ e < 2147483648) ∧ _)⟩
theorem xa_59 {e : Int} (h0 : 0 ≤ e) (h1 : e < 18) : dk_r G R J (.inl .iaload :: is) L (.inl e :: .inr (.inr 59) :: S) (HH n xs w a i) = dk_r G R J is L (.inl (a 59 e) :: S) (HH n xs w a i) := propext ⟨fun q => And.right (a := (0 ≤ e ∧ e < ((18 : Nat) : Int) ∧ e < 2147483648)) q, fun q => (⟨⟨h0, by omega, by omega⟩, q⟩ : (0 ≤ e ∧ e < ((18 : Nat) : Int) ∧ e < 2147483648) ∧ _)⟩
theorem xs_59 {e x : Int} (h0 : 0 ≤ e) (h1 : e < 18) : dk_r G R J (.inl .iastore :: is) L (.inl x :: .inl e :: .inr (.inr 59) :: S) (HH n xs w a i) = dk_r G R J is L S (HH n xs w (dk_up a 59 (dk_ui (a 59) e x)) i) := by
  rw [← HH_ua (k := 59) (t := 0) (m := 18) rfl]
  exact propext ⟨fun q => And.right (a := (0 ≤ e ∧ e < ((18 : Nat) : Int) ∧ e < 2147483648)) q, fun q => (⟨⟨h0, by omega, by omega⟩, q⟩ : (0 ≤ e ∧ e < ((18 : Nat) : Int) ∧ e < 2147483648) ∧ _)⟩
theorem xa_60 {e : Int} (h0 : 0 ≤ e) (h1 : e < 6) : dk_r G R J (.inl .iaload :: is) L (.inl e :: .inr (.inr 60) :: S) (HH n xs w a i) = dk_r G R J is L (.inl (a 60 e) :: S) (HH n xs w a i) := propext ⟨fun q => And.right (a := (0 ≤ e ∧ e < ((6 : Nat) : Int) ∧ e < 2147483648)) q, fun q => (⟨⟨h0, by omega, by omega⟩, q⟩ : (0 ≤ e ∧ e < ((6 : Nat) : Int) ∧ e < 2147483648) ∧ _)⟩
theorem xs_60 {e x : Int} (h0 : 0 ≤ e) (h1 : e < 6) : dk_r G R J (.inl .iastore :: is) L (.inl x :: .inl e :: .inr (.inr 60) :: S) (HH n xs w a i) = dk_r G R J is L S (HH n xs w (dk_up a 60 (dk_ui (a 60) e x)) i) := by
  rw [← HH_ua (k := 60) (t := 0) (m := 6) rfl]
  exact propext ⟨fun q => And.right (a := (0 ≤ e ∧ e < ((6 : Nat) : Int) ∧ e < 2147483648)) q, fun q => (⟨⟨h0, by omega, by omega⟩, q⟩ : (0 ≤ e ∧ e < ((6 : Nat) : Int) ∧ e < 2147483648) ∧ _)⟩
theorem xa_61 {e : Int} (h0 : 0 ≤ e) (h1 : e < 10) : dk_r G R J (.inl .iaload :: is) L (.inl e :: .inr (.inr 61) :: S) (HH n xs w a i) = dk_r G R J is L (.inl (a 61 e) :: S) (HH n xs w a i) := propext ⟨fun q => And.right (a := (0 ≤ e ∧ e < ((10 : Nat) : Int) ∧ e < 2147483648)) q, fun q => (⟨⟨h0, by omega, by omega⟩, q⟩ : (0 ≤ e ∧ e < ((10 : Nat) : Int) ∧ e < 2147483648) ∧ _)⟩
theorem xs_61 {e x : Int} (h0 : 0 ≤ e) (h1 : e < 10) : dk_r G R J (.inl .iastore :: is) L (.inl x :: .inl e :: .inr (.inr 61) :: S) (HH n xs w a i) = dk_r G R J is L S (HH n xs w (dk_up a 61 (dk_ui (a 61) e x)) i) := by
  rw [← HH_ua (k := 61) (t := 0) (m := 10) rfl]
  exact propext ⟨fun q => And.right (a := (0 ≤ e ∧ e < ((10 : Nat) : Int) ∧ e < 2147483648)) q, fun q => (⟨⟨h0, by omega, by omega⟩, q⟩ : (0 ≤ e ∧ e < ((10 : Nat) : Int) ∧ e < 2147483648) ∧ _)⟩
theorem xa_62 {e : Int} (h0 : 0 ≤ e) (h1 : e < 7) : dk_r G R J (.inl .iaload :: is) L (.inl e :: .inr (.inr 62) :: S) (HH n xs w a i) = dk_r G R J is L (.inl (a 62 e) :: S) (HH n xs w a i) := propext ⟨fun q => And.right (a := (0 ≤ e ∧ e < ((7 : Nat) : Int) ∧ e < 2147483648)) q, fun q => (⟨⟨h0, by omega, by omega⟩, q⟩ : (0 ≤ e ∧ e < ((7 : Nat) : Int) ∧ e < 2147483648) ∧ _)⟩
theorem xs_62 {e x : Int} (h0 : 0 ≤ e) (h1 : e < 7) : dk_r G R J (.inl .iastore :: is) L (.inl x :: .inl e :: .inr (.inr 62) :: S) (HH n xs w a i) = dk_r G R J is L S (HH n xs w (dk_up a 62 (dk_ui (a 62) e x)) i) := by
  rw [← HH_ua (k := 62) (t := 0) (m := 7) rfl]
  exact propext ⟨fun q => And.right (a := (0 ≤ e ∧ e < ((7 : Nat) : Int) ∧ e < 2147483648)) q, fun q => (⟨⟨h0, by omega, by omega⟩, q⟩ : (0 ≤ e ∧ e < ((7 : Nat) : Int) ∧ e < 2147483648) ∧ _)⟩
theorem xa_63 {e : Int} (h0 : 0 ≤ e) (h1 : e < 120) : dk_r G R J (.inl .iaload :: is) L (.inl e :: .inr (.inr 63) :: S) (HH n xs w a i) = dk_r G R J is L (.inl (a 63 e) :: S) (HH n xs w a i) := propext ⟨fun q => And.right (a := (0 ≤ e ∧ e < ((120 : Nat) : Int) ∧ e < 2147483648)) q, fun q => (⟨⟨h0, by omega, by omega⟩, q⟩ : (0 ≤ e ∧ e < ((120 : Nat) : Int) ∧ e < 2147483648) ∧ _)⟩
theorem xs_63 {e x : Int} (h0 : 0 ≤ e) (h1 : e < 120) : dk_r G R J (.inl .iastore :: is) L (.inl x :: .inl e :: .inr (.inr 63) :: S) (HH n xs w a i) = dk_r G R J is L S (HH n xs w (dk_up a 63 (dk_ui (a 63) e x)) i) := by
  rw [← HH_ua (k := 63) (t := 0) (m := 120) rfl]
  exact propext ⟨fun q => And.right (a := (0 ≤ e ∧ e < ((120 : Nat) : Int) ∧ e < 2147483648)) q, fun q => (⟨⟨h0, by omega, by omega⟩, q⟩ : (0 ≤ e ∧ e < ((120 : Nat) : Int) ∧ e < 2147483648) ∧ _)⟩
theorem xa_64 {e : Int} (h0 : 0 ≤ e) (h1 : e < 180) : dk_r G R J (.inl .iaload :: is) L (.inl e :: .inr (.inr 64) :: S) (HH n xs w a i) = dk_r G R J is L (.inl (a 64 e) :: S) (HH n xs w a i) := propext ⟨fun q => And.right (a := (0 ≤ e ∧ e < ((180 : Nat) : Int) ∧ e < 2147483648)) q, fun q => (⟨⟨h0, by omega, by omega⟩, q⟩ : (0 ≤ e ∧ e < ((180 : Nat) : Int) ∧ e < 2147483648) ∧ _)⟩
theorem xs_64 {e x : Int} (h0 : 0 ≤ e) (h1 : e < 180) : dk_r G R J (.inl .iastore :: is) L (.inl x :: .inl e :: .inr (.inr 64) :: S) (HH n xs w a i) = dk_r G R J is L S (HH n xs w (dk_up a 64 (dk_ui (a 64) e x)) i) := by
  rw [← HH_ua (k := 64) (t := 0) (m := 180) rfl]
  exact propext ⟨fun q => And.right (a := (0 ≤ e ∧ e < ((180 : Nat) : Int) ∧ e < 2147483648)) q, fun q => (⟨⟨h0, by omega, by omega⟩, q⟩ : (0 ≤ e ∧ e < ((180 : Nat) : Int) ∧ e < 2147483648) ∧ _)⟩
theorem xa_65 {e : Int} (h0 : 0 ≤ e) (h1 : e < 24) : dk_r G R J (.inl .iaload :: is) L (.inl e :: .inr (.inr 65) :: S) (HH n xs w a i) = dk_r G R J is L (.inl (a 65 e) :: S) (HH n xs w a i) := propext ⟨fun q => And.right (a := (0 ≤ e ∧ e < ((24 : Nat) : Int) ∧ e < 2147483648)) q, fun q => (⟨⟨h0, by omega, by omega⟩, q⟩ : (0 ≤ e ∧ e < ((24 : Nat) : Int) ∧ e < 2147483648) ∧ _)⟩
theorem xs_65 {e x : Int} (h0 : 0 ≤ e) (h1 : e < 24) : dk_r G R J (.inl .iastore :: is) L (.inl x :: .inl e :: .inr (.inr 65) :: S) (HH n xs w a i) = dk_r G R J is L S (HH n xs w (dk_up a 65 (dk_ui (a 65) e x)) i) := by
  rw [← HH_ua (k := 65) (t := 0) (m := 24) rfl]
  exact propext ⟨fun q => And.right (a := (0 ≤ e ∧ e < ((24 : Nat) : Int) ∧ e < 2147483648)) q, fun q => (⟨⟨h0, by omega, by omega⟩, q⟩ : (0 ≤ e ∧ e < ((24 : Nat) : Int) ∧ e < 2147483648) ∧ _)⟩
theorem xa_66 {e : Int} (h0 : 0 ≤ e) (h1 : e < 24) : dk_r G R J (.inl .iaload :: is) L (.inl e :: .inr (.inr 66) :: S) (HH n xs w a i) = dk_r G R J is L (.inl (a 66 e) :: S) (HH n xs w a i) := propext ⟨fun q => And.right (a := (0 ≤ e ∧ e < ((24 : Nat) : Int) ∧ e < 2147483648)) q, fun q => (⟨⟨h0, by omega, by omega⟩, q⟩ : (0 ≤ e ∧ e < ((24 : Nat) : Int) ∧ e < 2147483648) ∧ _)⟩
theorem xs_66 {e x : Int} (h0 : 0 ≤ e) (h1 : e < 24) : dk_r G R J (.inl .iastore :: is) L (.inl x :: .inl e :: .inr (.inr 66) :: S) (HH n xs w a i) = dk_r G R J is L S (HH n xs w (dk_up a 66 (dk_ui (a 66) e x)) i) := by
  rw [← HH_ua (k := 66) (t := 0) (m := 24) rfl]
  exact propext ⟨fun q => And.right (a := (0 ≤ e ∧ e < ((24 : Nat) : Int) ∧ e < 2147483648)) q, fun q => (⟨⟨h0, by omega, by omega⟩, q⟩ : (0 ≤ e ∧ e < ((24 : Nat) : Int) ∧ e < 2147483648) ∧ _)⟩
theorem xa_67 {e : Int} (h0 : 0 ≤ e) (h1 : e < 4848) : dk_r G R J (.inl .iaload :: is) L (.inl e :: .inr (.inr 67) :: S) (HH n xs w a i) = dk_r G R J is L (.inl (a 67 e) :: S) (HH n xs w a i) := propext ⟨fun q => And.right (a := (0 ≤ e ∧ e < ((4848 : Nat) : Int) ∧ e < 2147483648)) q, fun q => (⟨⟨h0, by omega, by omega⟩, q⟩ : (0 ≤ e ∧ e < ((4848 : Nat) : Int) ∧ e < 2147483648) ∧ _)⟩
theorem xs_67 {e x : Int} (h0 : 0 ≤ e) (h1 : e < 4848) : dk_r G R J (.inl .iastore :: is) L (.inl x :: .inl e :: .inr (.inr 67) :: S) (HH n xs w a i) = dk_r G R J is L S (HH n xs w (dk_up a 67 (dk_ui (a 67) e x)) i) := by
  rw [← HH_ua (k := 67) (t := 0) (m := 4848) rfl]
  exact propext ⟨fun q => And.right (a := (0 ≤ e ∧ e < ((4848 : Nat) : Int) ∧ e < 2147483648)) q, fun q => (⟨⟨h0, by omega, by omega⟩, q⟩ : (0 ≤ e ∧ e < ((4848 : Nat) : Int) ∧ e < 2147483648) ∧ _)⟩
theorem xa_68 {e : Int} (h0 : 0 ≤ e) (h1 : e < 2400) : dk_r G R J (.inl .iaload :: is) L (.inl e :: .inr (.inr 68) :: S) (HH n xs w a i) = dk_r G R J is L (.inl (a 68 e) :: S) (HH n xs w a i) := propext ⟨fun q => And.right (a := (0 ≤ e ∧ e < ((2400 : Nat) : Int) ∧ e < 2147483648)) q, fun q => (⟨⟨h0, by omega, by omega⟩, q⟩ : (0 ≤ e ∧ e < ((2400 : Nat) : Int) ∧ e < 2147483648) ∧ _)⟩
theorem xs_68 {e x : Int} (h0 : 0 ≤ e) (h1 : e < 2400) : dk_r G R J (.inl .iastore :: is) L (.inl x :: .inl e :: .inr (.inr 68) :: S) (HH n xs w a i) = dk_r G R J is L S (HH n xs w (dk_up a 68 (dk_ui (a 68) e x)) i) := by
  rw [← HH_ua (k := 68) (t := 0) (m := 2400) rfl]
  exact propext ⟨fun q => And.right (a := (0 ≤ e ∧ e < ((2400 : Nat) : Int) ∧ e < 2147483648)) q, fun q => (⟨⟨h0, by omega, by omega⟩, q⟩ : (0 ≤ e ∧ e < ((2400 : Nat) : Int) ∧ e < 2147483648) ∧ _)⟩
theorem xa_69 {e : Int} (h0 : 0 ≤ e) (h1 : e < 24) : dk_r G R J (.inl .iaload :: is) L (.inl e :: .inr (.inr 69) :: S) (HH n xs w a i) = dk_r G R J is L (.inl (a 69 e) :: S) (HH n xs w a i) := propext ⟨fun q => And.right (a := (0 ≤ e ∧ e < ((24 : Nat) : Int) ∧ e < 2147483648)) q, fun q => (⟨⟨h0, by omega, by omega⟩, q⟩ : (0 ≤ e ∧ e < ((24 : Nat) : Int) ∧ e < 2147483648) ∧ _)⟩
theorem xs_69 {e x : Int} (h0 : 0 ≤ e) (h1 : e < 24) : dk_r G R J (.inl .iastore :: is) L (.inl x :: .inl e :: .inr (.inr 69) :: S) (HH n xs w a i) = dk_r G R J is L S (HH n xs w (dk_up a 69 (dk_ui (a 69) e x)) i) := by
  rw [← HH_ua (k := 69) (t := 0) (m := 24) rfl]
  exact propext ⟨fun q => And.right (a := (0 ≤ e ∧ e < ((24 : Nat) : Int) ∧ e < 2147483648)) q, fun q => (⟨⟨h0, by omega, by omega⟩, q⟩ : (0 ≤ e ∧ e < ((24 : Nat) : Int) ∧ e < 2147483648) ∧ _)⟩
theorem xa_70 {e : Int} (h0 : 0 ≤ e) (h1 : e < 24) : dk_r G R J (.inl .baload :: is) L (.inl e :: .inr (.inr 70) :: S) (HH n xs w a i) = dk_r G R J is L (.inl (a 70 e) :: S) (HH n xs w a i) := propext ⟨fun q => And.right (a := (0 ≤ e ∧ e < ((24 : Nat) : Int) ∧ e < 2147483648)) q, fun q => (⟨⟨h0, by omega, by omega⟩, q⟩ : (0 ≤ e ∧ e < ((24 : Nat) : Int) ∧ e < 2147483648) ∧ _)⟩
theorem xs_70 {e x : Int} (h0 : 0 ≤ e) (h1 : e < 24) (hz : x = 0 ∨ x = 1) : dk_r G R J (.inl .bastore :: is) L (.inl x :: .inl e :: .inr (.inr 70) :: S) (HH n xs w a i) = dk_r G R J is L S (HH n xs w (dk_up a 70 (dk_ui (a 70) e x)) i) := by
  rw [← HH_ua (k := 70) (t := 1) (m := 24) rfl]
  exact propext ⟨fun q => And.right (a := (0 ≤ e ∧ e < ((24 : Nat) : Int) ∧ e < 2147483648 ∧ (x = 0 ∨ x = 1))) q, fun q => (⟨⟨h0, by omega, by omega, hz⟩, q⟩ : (0 ≤ e ∧ e < ((24 : Nat) : Int) ∧ e < 2147483648 ∧ (x = 0 ∨ x = 1)) ∧ _)⟩
theorem xa_71 {e : Int} (h0 : 0 ≤ e) (h1 : e < 4) : dk_r G R J (.inl .iaload :: is) L (.inl e :: .inr (.inr 71) :: S) (HH n xs w a i) = dk_r G R J is L (.inl (a 71 e) :: S) (HH n xs w a i) := propext ⟨fun q => And.right (a := (0 ≤ e ∧ e < ((4 : Nat) : Int) ∧ e < 2147483648)) q, fun q => (⟨⟨h0, by omega, by omega⟩, q⟩ : (0 ≤ e ∧ e < ((4 : Nat) : Int) ∧ e < 2147483648) ∧ _)⟩
theorem xs_71 {e x : Int} (h0 : 0 ≤ e) (h1 : e < 4) : dk_r G R J (.inl .iastore :: is) L (.inl x :: .inl e :: .inr (.inr 71) :: S) (HH n xs w a i) = dk_r G R J is L S (HH n xs w (dk_up a 71 (dk_ui (a 71) e x)) i) := by
  rw [← HH_ua (k := 71) (t := 0) (m := 4) rfl]
  exact propext ⟨fun q => And.right (a := (0 ≤ e ∧ e < ((4 : Nat) : Int) ∧ e < 2147483648)) q, fun q => (⟨⟨h0, by omega, by omega⟩, q⟩ : (0 ≤ e ∧ e < ((4 : Nat) : Int) ∧ e < 2147483648) ∧ _)⟩
theorem xa_72 {e : Int} (h0 : 0 ≤ e) (h1 : e < 4) : dk_r G R J (.inl .iaload :: is) L (.inl e :: .inr (.inr 72) :: S) (HH n xs w a i) = dk_r G R J is L (.inl (a 72 e) :: S) (HH n xs w a i) := propext ⟨fun q => And.right (a := (0 ≤ e ∧ e < ((4 : Nat) : Int) ∧ e < 2147483648)) q, fun q => (⟨⟨h0, by omega, by omega⟩, q⟩ : (0 ≤ e ∧ e < ((4 : Nat) : Int) ∧ e < 2147483648) ∧ _)⟩
theorem xs_72 {e x : Int} (h0 : 0 ≤ e) (h1 : e < 4) : dk_r G R J (.inl .iastore :: is) L (.inl x :: .inl e :: .inr (.inr 72) :: S) (HH n xs w a i) = dk_r G R J is L S (HH n xs w (dk_up a 72 (dk_ui (a 72) e x)) i) := by
  rw [← HH_ua (k := 72) (t := 0) (m := 4) rfl]
  exact propext ⟨fun q => And.right (a := (0 ≤ e ∧ e < ((4 : Nat) : Int) ∧ e < 2147483648)) q, fun q => (⟨⟨h0, by omega, by omega⟩, q⟩ : (0 ≤ e ∧ e < ((4 : Nat) : Int) ∧ e < 2147483648) ∧ _)⟩
theorem xa_73 {e : Int} (h0 : 0 ≤ e) (h1 : e < 160) : dk_r G R J (.inl .iaload :: is) L (.inl e :: .inr (.inr 73) :: S) (HH n xs w a i) = dk_r G R J is L (.inl (a 73 e) :: S) (HH n xs w a i) := propext ⟨fun q => And.right (a := (0 ≤ e ∧ e < ((160 : Nat) : Int) ∧ e < 2147483648)) q, fun q => (⟨⟨h0, by omega, by omega⟩, q⟩ : (0 ≤ e ∧ e < ((160 : Nat) : Int) ∧ e < 2147483648) ∧ _)⟩
theorem xs_73 {e x : Int} (h0 : 0 ≤ e) (h1 : e < 160) : dk_r G R J (.inl .iastore :: is) L (.inl x :: .inl e :: .inr (.inr 73) :: S) (HH n xs w a i) = dk_r G R J is L S (HH n xs w (dk_up a 73 (dk_ui (a 73) e x)) i) := by
  rw [← HH_ua (k := 73) (t := 0) (m := 160) rfl]
  exact propext ⟨fun q => And.right (a := (0 ≤ e ∧ e < ((160 : Nat) : Int) ∧ e < 2147483648)) q, fun q => (⟨⟨h0, by omega, by omega⟩, q⟩ : (0 ≤ e ∧ e < ((160 : Nat) : Int) ∧ e < 2147483648) ∧ _)⟩
theorem xa_74 {e : Int} (h0 : 0 ≤ e) (h1 : e < 40) : dk_r G R J (.inl .iaload :: is) L (.inl e :: .inr (.inr 74) :: S) (HH n xs w a i) = dk_r G R J is L (.inl (a 74 e) :: S) (HH n xs w a i) := propext ⟨fun q => And.right (a := (0 ≤ e ∧ e < ((40 : Nat) : Int) ∧ e < 2147483648)) q, fun q => (⟨⟨h0, by omega, by omega⟩, q⟩ : (0 ≤ e ∧ e < ((40 : Nat) : Int) ∧ e < 2147483648) ∧ _)⟩
theorem xs_74 {e x : Int} (h0 : 0 ≤ e) (h1 : e < 40) : dk_r G R J (.inl .iastore :: is) L (.inl x :: .inl e :: .inr (.inr 74) :: S) (HH n xs w a i) = dk_r G R J is L S (HH n xs w (dk_up a 74 (dk_ui (a 74) e x)) i) := by
  rw [← HH_ua (k := 74) (t := 0) (m := 40) rfl]
  exact propext ⟨fun q => And.right (a := (0 ≤ e ∧ e < ((40 : Nat) : Int) ∧ e < 2147483648)) q, fun q => (⟨⟨h0, by omega, by omega⟩, q⟩ : (0 ≤ e ∧ e < ((40 : Nat) : Int) ∧ e < 2147483648) ∧ _)⟩
theorem xa_75 {e : Int} (h0 : 0 ≤ e) (h1 : e < 200) : dk_r G R J (.inl .iaload :: is) L (.inl e :: .inr (.inr 75) :: S) (HH n xs w a i) = dk_r G R J is L (.inl (a 75 e) :: S) (HH n xs w a i) := propext ⟨fun q => And.right (a := (0 ≤ e ∧ e < ((200 : Nat) : Int) ∧ e < 2147483648)) q, fun q => (⟨⟨h0, by omega, by omega⟩, q⟩ : (0 ≤ e ∧ e < ((200 : Nat) : Int) ∧ e < 2147483648) ∧ _)⟩
theorem xs_75 {e x : Int} (h0 : 0 ≤ e) (h1 : e < 200) : dk_r G R J (.inl .iastore :: is) L (.inl x :: .inl e :: .inr (.inr 75) :: S) (HH n xs w a i) = dk_r G R J is L S (HH n xs w (dk_up a 75 (dk_ui (a 75) e x)) i) := by
  rw [← HH_ua (k := 75) (t := 0) (m := 200) rfl]
  exact propext ⟨fun q => And.right (a := (0 ≤ e ∧ e < ((200 : Nat) : Int) ∧ e < 2147483648)) q, fun q => (⟨⟨h0, by omega, by omega⟩, q⟩ : (0 ≤ e ∧ e < ((200 : Nat) : Int) ∧ e < 2147483648) ∧ _)⟩
theorem xa_76 {e : Int} (h0 : 0 ≤ e) (h1 : e < 4) : dk_r G R J (.inl .iaload :: is) L (.inl e :: .inr (.inr 76) :: S) (HH n xs w a i) = dk_r G R J is L (.inl (a 76 e) :: S) (HH n xs w a i) := propext ⟨fun q => And.right (a := (0 ≤ e ∧ e < ((4 : Nat) : Int) ∧ e < 2147483648)) q, fun q => (⟨⟨h0, by omega, by omega⟩, q⟩ : (0 ≤ e ∧ e < ((4 : Nat) : Int) ∧ e < 2147483648) ∧ _)⟩
theorem xs_76 {e x : Int} (h0 : 0 ≤ e) (h1 : e < 4) : dk_r G R J (.inl .iastore :: is) L (.inl x :: .inl e :: .inr (.inr 76) :: S) (HH n xs w a i) = dk_r G R J is L S (HH n xs w (dk_up a 76 (dk_ui (a 76) e x)) i) := by
  rw [← HH_ua (k := 76) (t := 0) (m := 4) rfl]
  exact propext ⟨fun q => And.right (a := (0 ≤ e ∧ e < ((4 : Nat) : Int) ∧ e < 2147483648)) q, fun q => (⟨⟨h0, by omega, by omega⟩, q⟩ : (0 ≤ e ∧ e < ((4 : Nat) : Int) ∧ e < 2147483648) ∧ _)⟩
theorem xa_w {k m : Nat} (hk : hh_len k = some (0, m)) {e : Int} (h0 : 0 ≤ e) (h1 : e < m) (h2 : e < 2147483648) : dk_r G R J (.inl .iaload :: is) L (.inl e :: .inr (.inr k) :: S) (HH n xs w a i) = dk_r G R J is L (.inl (a k e) :: S) (HH n xs w a i) := by
  have e1 : dk_rd (HH n xs w a i k) = some (m, a k) := by rw [HH_at hk]; rfl
  have e2 : dk_1 (.inl .iaload) L (.inl e :: .inr (.inr k) :: S) (HH n xs w a i) = some ((0 ≤ e ∧ e < m ∧ e < 2147483648), L, .inl (a k e) :: S, (HH n xs w a i)) := by
    show dk_bd (dk_rd (HH n xs w a i k)) _ = _
    rw [e1]
    rfl
  rw [dk_r_s rfl, e2]
  exact propext ⟨fun q => q.2, fun q => ⟨⟨h0, h1, h2⟩, q⟩⟩
theorem xs_w {k m : Nat} (hk : hh_len k = some (0, m)) {e x : Int} (h0 : 0 ≤ e) (h1 : e < m) (h2 : e < 2147483648) : dk_r G R J (.inl .iastore :: is) L (.inl x :: .inl e :: .inr (.inr k) :: S) (HH n xs w a i) = dk_r G R J is L S (HH n xs w (dk_up a k (dk_ui (a k) e x)) i) := by
  have e1 : dk_ar (HH n xs w a i k) 0 = some (m, a k) := by rw [HH_at hk]; rfl
  have e2 : dk_1 (.inl .iastore) L (.inl x :: .inl e :: .inr (.inr k) :: S) (HH n xs w a i) = some ((0 ≤ e ∧ e < m ∧ e < 2147483648), L, S, dk_up (HH n xs w a i) k (.inl (0, m, dk_ui (a k) e x))) := by
    show dk_bd (dk_ar (HH n xs w a i k) 0) _ = _
    rw [e1]
    rfl
  rw [dk_r_s rfl, e2, ← HH_ua hk]
  exact propext ⟨fun q => q.2, fun q => ⟨⟨h0, h1, h2⟩, q⟩⟩
theorem xa_101 {e : Int} (h0 : 0 ≤ e) (h1 : e < 7) : dk_r G R J (.inl .iaload :: is) L (.inl e :: .inr (.inr 101) :: S) (HH n xs w a i) = dk_r G R J is L (.inl (hh_le e) :: S) (HH n xs w a i) := propext ⟨fun q => And.right (a := (0 ≤ e ∧ e < ((7 : Nat) : Int) ∧ e < 2147483648)) q, fun q => (⟨⟨h0, by omega, by omega⟩, q⟩ : (0 ≤ e ∧ e < ((7 : Nat) : Int) ∧ e < 2147483648) ∧ _)⟩
theorem xa_102 {e : Int} (h0 : 0 ≤ e) (h1 : e < 7) : dk_r G R J (.inl .iaload :: is) L (.inl e :: .inr (.inr 102) :: S) (HH n xs w a i) = dk_r G R J is L (.inl (hh_mo e) :: S) (HH n xs w a i) := propext ⟨fun q => And.right (a := (0 ≤ e ∧ e < ((7 : Nat) : Int) ∧ e < 2147483648)) q, fun q => (⟨⟨h0, by omega, by omega⟩, q⟩ : (0 ≤ e ∧ e < ((7 : Nat) : Int) ∧ e < 2147483648) ∧ _)⟩
theorem xa_103 {e : Int} (h0 : 0 ≤ e) (h1 : e < 7) : dk_r G R J (.inl .iaload :: is) L (.inl e :: .inr (.inr 103) :: S) (HH n xs w a i) = dk_r G R J is L (.inl (hh_un e) :: S) (HH n xs w a i) := propext ⟨fun q => And.right (a := (0 ≤ e ∧ e < ((7 : Nat) : Int) ∧ e < 2147483648)) q, fun q => (⟨⟨h0, by omega, by omega⟩, q⟩ : (0 ≤ e ∧ e < ((7 : Nat) : Int) ∧ e < 2147483648) ∧ _)⟩
theorem xa_100 {e : Int} (h0 : 0 ≤ e) (h1 : e < n) (h2 : e < 2147483648) : dk_r G R J (.inl .iaload :: is) L (.inl e :: .inr (.inr 100) :: S) (HH n xs w a i) = dk_r G R J is L (.inl (xs e) :: S) (HH n xs w a i) := propext ⟨fun q => And.right (a := (0 ≤ e ∧ e < n ∧ e < 2147483648)) q, fun q => (⟨⟨h0, h1, h2⟩, q⟩ : (0 ≤ e ∧ e < n ∧ e < 2147483648) ∧ _)⟩
theorem xo_len100  : dk_r G R J (.inl .arraylength :: is) L (.inr (.inr 100) :: S) (HH n xs w a i) = dk_r G R J is L (.inl n :: S) (HH n xs w a i) := propext ⟨fun q => And.right (a := True) q, fun q => (⟨trivial, q⟩ : True ∧ _)⟩
theorem xa_30 {e : Int} (h0 : 0 ≤ e) (h1 : e < 4) : dk_r G R J (.inl .aaload :: is) L (.inl e :: .inr (.inr 30) :: S) (HH n xs w a i) = dk_r G R J is L (.inr (.inr (31 + e).toNat) :: S) (HH n xs w a i) := propext ⟨fun q => And.right (a := (0 ≤ e ∧ e < ((4 : Nat) : Int) ∧ e < 2147483648)) q, fun q => (⟨⟨h0, by omega, by omega⟩, q⟩ : (0 ≤ e ∧ e < ((4 : Nat) : Int) ∧ e < 2147483648) ∧ _)⟩
theorem xc_0 {j q0 : Nat} {T : dk_S}  {h : dk_H} (hg : dk_nth G j = some (0, T)) : dk_r G R J (.inr (5, j, q0) :: is) L (S) h = (dk_sz S ≤ 8 ∧ T [] h (fun r h2 => dk_r G R J is L (r.toList ++ S) h2)) := by
  simp only [dk_r, hg]
  exact propext ⟨fun q => ⟨q.2.1, q.2.2⟩, fun q => ⟨by first | omega | (simp only [List.length_cons]; omega), q.1, q.2⟩⟩
theorem xc_1 {j q0 : Nat} {T : dk_S} {x0 : dk_V} {h : dk_H} (hg : dk_nth G j = some (1, T)) : dk_r G R J (.inr (5, j, q0) :: is) L (x0 :: S) h = (dk_sz S ≤ 8 ∧ T [x0] h (fun r h2 => dk_r G R J is L (r.toList ++ S) h2)) := by
  simp only [dk_r, hg]
  exact propext ⟨fun q => ⟨q.2.1, q.2.2⟩, fun q => ⟨by first | omega | (simp only [List.length_cons]; omega), q.1, q.2⟩⟩
theorem xc_2 {j q0 : Nat} {T : dk_S} {x0 x1 : dk_V} {h : dk_H} (hg : dk_nth G j = some (2, T)) : dk_r G R J (.inr (5, j, q0) :: is) L (x1 :: x0 :: S) h = (dk_sz S ≤ 8 ∧ T [x0, x1] h (fun r h2 => dk_r G R J is L (r.toList ++ S) h2)) := by
  simp only [dk_r, hg]
  exact propext ⟨fun q => ⟨q.2.1, q.2.2⟩, fun q => ⟨by first | omega | (simp only [List.length_cons]; omega), q.1, q.2⟩⟩
theorem xc_3 {j q0 : Nat} {T : dk_S} {x0 x1 x2 : dk_V} {h : dk_H} (hg : dk_nth G j = some (3, T)) : dk_r G R J (.inr (5, j, q0) :: is) L (x2 :: x1 :: x0 :: S) h = (dk_sz S ≤ 8 ∧ T [x0, x1, x2] h (fun r h2 => dk_r G R J is L (r.toList ++ S) h2)) := by
  simp only [dk_r, hg]
  exact propext ⟨fun q => ⟨q.2.1, q.2.2⟩, fun q => ⟨by first | omega | (simp only [List.length_cons]; omega), q.1, q.2⟩⟩
theorem xc_4 {j q0 : Nat} {T : dk_S} {x0 x1 x2 x3 : dk_V} {h : dk_H} (hg : dk_nth G j = some (4, T)) : dk_r G R J (.inr (5, j, q0) :: is) L (x3 :: x2 :: x1 :: x0 :: S) h = (dk_sz S ≤ 8 ∧ T [x0, x1, x2, x3] h (fun r h2 => dk_r G R J is L (r.toList ++ S) h2)) := by
  simp only [dk_r, hg]
  exact propext ⟨fun q => ⟨q.2.1, q.2.2⟩, fun q => ⟨by first | omega | (simp only [List.length_cons]; omega), q.1, q.2⟩⟩
theorem xc_5 {j q0 : Nat} {T : dk_S} {x0 x1 x2 x3 x4 : dk_V} {h : dk_H} (hg : dk_nth G j = some (5, T)) : dk_r G R J (.inr (5, j, q0) :: is) L (x4 :: x3 :: x2 :: x1 :: x0 :: S) h = (dk_sz S ≤ 8 ∧ T [x0, x1, x2, x3, x4] h (fun r h2 => dk_r G R J is L (r.toList ++ S) h2)) := by
  simp only [dk_r, hg]
  exact propext ⟨fun q => ⟨q.2.1, q.2.2⟩, fun q => ⟨by first | omega | (simp only [List.length_cons]; omega), q.1, q.2⟩⟩
theorem xc_6 {j q0 : Nat} {T : dk_S} {x0 x1 x2 x3 x4 x5 : dk_V} {h : dk_H} (hg : dk_nth G j = some (6, T)) : dk_r G R J (.inr (5, j, q0) :: is) L (x5 :: x4 :: x3 :: x2 :: x1 :: x0 :: S) h = (dk_sz S ≤ 8 ∧ T [x0, x1, x2, x3, x4, x5] h (fun r h2 => dk_r G R J is L (r.toList ++ S) h2)) := by
  simp only [dk_r, hg]
  exact propext ⟨fun q => ⟨q.2.1, q.2.2⟩, fun q => ⟨by first | omega | (simp only [List.length_cons]; omega), q.1, q.2⟩⟩
theorem xz_i {x : Int} : dk_sz (.inl x :: S) = dk_sz S + 1 := rfl
theorem xz_r {x : Nat} : dk_sz (.inr (.inr x) :: S) = dk_sz S + 1 := rfl
theorem xz_l {x : Int} : dk_sz (.inr (.inl x) :: S) = dk_sz S + 2 := rfl
theorem xz_n : dk_sz [] = 0 := rfl
theorem xm_t {m : List Bool} {l : Option dk_V} : dk_mask (true :: m) (l :: L) = l :: dk_mask m L := rfl
theorem xm_f {m : List Bool} {l : Option dk_V} : dk_mask (false :: m) (l :: L) = none :: dk_mask m L := rfl
theorem xm_n : dk_mask [] [] = [] := rfl
theorem xw_t {t : Int} {ts : List Int} {v x : Int} {J2 : Nat → Prop} : dk_sw x J2 (t :: ts) v = ((x = v → J2 t.toNat) ∧ dk_sw x J2 ts (v + 1)) := rfl
theorem xw_n {v x : Int} {J2 : Nat → Prop} : dk_sw x J2 [] v = True := rfl
theorem xtl_s {α : Type} {x : α} {l : List α} : (some x).toList ++ l = x :: l := rfl
theorem xtl_n {α : Type} {l : List α} : (none : Option α).toList ++ l = l := rfl
theorem dk_un {tb : dk_T} {Q : dk_Q} (hG : dk_monoG G) {b : Nat} {h : dk_H} {mk1 : List Bool} (e : dk_nth tb b = some (mk1, is)) : dk_WP G tb Q b L S h = dk_r G Q (dk_WP G tb Q) is (dk_mask mk1 L) S h := by
  refine propext ⟨fun q => ?_, fun q => dk_blk hG e q⟩
  have q2 := q (fun b L S h => dk_B G tb Q (dk_WP G tb Q) b L S h) (fun b L S h q3 => by
    obtain ⟨mk2, is2, e2, q3⟩ := q3
    exact ⟨mk2, is2, e2, dk_r_mono hG (fun _ _ z => z) (fun b L S h z => dk_WP_step hG z) is2 _ S h q3⟩)
  obtain ⟨mk2, is2, e2, q2⟩ := q2
  cases e.symm.trans e2
  exact q2
end XH
