/-! THE START: the world that the constructors leave -/
def st_r : Int → Int := hh_t [500, 1100, 0, 30, 0, 100, 20]
def st_s : Int → Int := fun j => if j < 10 then -1 else 0
def st_a (k : Nat) : Int → Int := match k with
  | 2 => st_r
  | 15 => st_r
  | 54 => st_r
  | 13 => st_s
  | 26 => st_s
  | 61 => st_s
  | 55 => hh_le
  | 56 => hh_mo
  | _ => fun _ => 0
def st_i (k : Nat) : Int := match k with
  | 3 => 1
  | 7 => 1
  | 33 => 1
  | 24 => 500
  | _ => 0
def st_w (k : Nat) : Nat := match k with
  | 0 => 45
  | 1 => 46
  | 2 => 48
  | _ => 49
theorem st_sh : sh1 0 0 (fun _ => 0) 0 0 (fun _ => 0) := ⟨Or.inl rfl, by omega, fun _ => rfl, rfl, rfl, fun j _ _ => ⟨⟨show (-2147483648 : Int) ≤ 0 by decide, show (0 : Int) ≤ 2147483647 by decide⟩, rfl⟩⟩
theorem st_7 {P : Int → Prop} (h : P 0 ∧ P 1 ∧ P 2 ∧ P 3 ∧ P 4 ∧ P 5 ∧ P 6) : ∀ j : Int, 0 ≤ j → j < 7 → P j := by
  intro j h1 h2
  obtain ⟨a0, a1, a2, a3, a4, a5, a6⟩ := h
  rcases (show j = 0 ∨ j = 1 ∨ j = 2 ∨ j = 3 ∨ j = 4 ∨ j = 5 ∨ j = 6 by omega) with rfl | rfl | rfl | rfl | rfl | rfl | rfl
  all_goals assumption
theorem st_Inv : Inv 0 st_w st_a st_i := by
  refine ⟨⟨Or.inl ⟨rfl, rfl⟩, Or.inl ⟨rfl, rfl⟩⟩, ?_, ?_, ⟨Or.inl rfl, rfl, fun z => absurd z (by decide)⟩, ⟨by decide, rfl, fun j h1 h2 => ?_⟩, ⟨st_sh, st_sh, st_sh, st_sh⟩, ⟨by omega, fun j _ _ => ⟨⟨Int.le_refl 0, Int.le_refl 0⟩, rfl⟩⟩, fun j _ _ => ⟨rfl, rfl⟩⟩
  · refine ⟨by decide, by decide, by decide, by decide, by decide, by decide, by decide, by decide, fun r h1 h2 => ?_, by decide, fun r h1 h2 => ?_, by decide, fun r h1 h2 => ?_, fun s h1 h2 => Or.inl ?_, by decide⟩
    · have : st_i 0 = 0 := rfl
      omega
    · have : st_i 1 = 0 := rfl
      omega
    · have : st_i 2 = 0 := rfl
      omega
    · show st_s s = -1
      unfold st_s
      rw [if_pos h2]
  · refine ⟨fun j hj => ?_, fun j _ _ => rfl, fun r h1 h2 => ?_, fun r h1 h2 => ?_, fun r h1 h2 => ?_, fun s _ _ => rfl⟩
    · rcases (show j = 0 ∨ j = 1 ∨ j = 2 ∨ j = 3 by omega) with rfl | rfl | rfl | rfl <;> rfl
    · have : st_i 0 = 0 := rfl
      omega
    · have : st_i 1 = 0 := rfl
      omega
    · have : st_i 2 = 0 := rfl
      omega
  · have : st_i 9 = 0 := rfl
    omega
theorem hh_len_ro {k : Nat} (hk : 77 ≤ k) : hh_len k = none := by
  unfold hh_len
  split
  all_goals first | rfl | omega
theorem HH_ro {n : Nat} {xs : Int → Int} {w : Nat → Nat} {a : Nat → Int → Int} {i : Nat → Int} {k : Nat} (hk : 77 ≤ k) : HH n xs w a i k = hh_ro n xs k := by
  unfold HH
  rw [hh_len_ro hk]
  simp only [if_neg (show ¬ k < 77 by omega)]
theorem hh_len_2 {k : Nat} {q : Nat × Nat} (h : hh_len k = some q) : q.1 ≤ 2 := by
  unfold hh_len at h
  split at h
  all_goals first | (cases h; decide) | cases h
theorem HH_2 {n : Nat} {xs : Int → Int} {w : Nat → Nat} {a : Nat → Int → Int} {i : Nat → Int} {k : Nat} (hk : k < 77) {t m : Nat} {f : Int → Int} (h : HH n xs w a i k = .inl (t, m, f)) : t ≤ 2 := by
  unfold HH at h
  cases hl : hh_len k with
  | some q =>
    rw [hl] at h
    cases h
    exact hh_len_2 hl
  | none =>
    rw [hl] at h
    simp only [if_pos hk] at h
    unfold hh_ob at h
    split at h
    all_goals first | (cases h; done) | (cases h; decide)
theorem st_arr {D : va_G} {H : Heap} {q n : Nat} {c : ClassId} {f g : Nat → Int32} (h : va_at D dk_cl (q, .inl (c, n, .inl f)) H) (e : ∀ j, j < n → f j = g j) : va_at D dk_cl (q, .inl (c, n, .inl g)) H := by
  have h1 : H[q]? = some (arrV c n (fun j => .int (f j))) := h
  show H[q]? = some (arrV c n (fun j => .int (g j)))
  rw [h1]
  congr 1
  unfold arrV
  congr 1
  congr 1
  funext j
  show Value.int (f j.1) = Value.int (g j.1)
  rw [e j.1 j.2]
theorem st_row {D : va_G} {H : Heap} {q n : Nat} {c : ClassId} {f g : Nat → Option Nat} (h : va_at D dk_cl (q, .inl (c, n, .inr (.inr (.inr (.inr f))))) H) (e : ∀ j, j < n → f j = g j) : va_at D dk_cl (q, .inl (c, n, .inr (.inr (.inr (.inr g))))) H := by
  have h1 : H[q]? = some (vp_cell c (n, .inr (.inr (.inr (.inr f))))) := h
  show H[q]? = some (vp_cell c (n, .inr (.inr (.inr (.inr g)))))
  rw [h1]
  congr 1
  unfold vp_cell arrV
  dsimp only
  congr 1
  congr 1
  funext j
  rw [e j.1 j.2]
theorem st_l7 {P : Nat → Prop} (h : P 0 ∧ P 1 ∧ P 2 ∧ P 3 ∧ P 4 ∧ P 5 ∧ P 6) : ∀ j : Nat, j < 7 → P j := by
  intro j h2
  obtain ⟨a0, a1, a2, a3, a4, a5, a6⟩ := h
  rcases (show j = 0 ∨ j = 1 ∨ j = 2 ∨ j = 3 ∨ j = 4 ∨ j = 5 ∨ j = 6 by omega) with rfl | rfl | rfl | rfl | rfl | rfl | rfl
  all_goals assumption
theorem st_l4 {P : Nat → Prop} (h : P 0 ∧ P 1 ∧ P 2 ∧ P 3) : ∀ j : Nat, j < 4 → P j := by
  intro j h2
  obtain ⟨a0, a1, a2, a3⟩ := h
  rcases (show j = 0 ∨ j = 1 ∨ j = 2 ∨ j = 3 by omega) with rfl | rfl | rfl | rfl
  all_goals assumption
theorem st_l10 {P : Nat → Prop} (h : P 0 ∧ P 1 ∧ P 2 ∧ P 3 ∧ P 4 ∧ P 5 ∧ P 6 ∧ P 7 ∧ P 8 ∧ P 9) : ∀ j : Nat, j < 10 → P j := by
  intro j h2
  obtain ⟨a0, a1, a2, a3, a4, a5, a6, a7, a8, a9⟩ := h
  rcases (show j = 0 ∨ j = 1 ∨ j = 2 ∨ j = 3 ∨ j = 4 ∨ j = 5 ∨ j = 6 ∨ j = 7 ∨ j = 8 ∨ j = 9 by omega) with rfl | rfl | rfl | rfl | rfl | rfl | rfl | rfl | rfl | rfl
  all_goals assumption
def st_W (ad : Nat → Nat) (dA : Nat → ClassId) : va_W := [(ad 0, .inr (5, [.ref (ad 1), .ref (ad 14), .int 0, .ref (ad 27), .ref (ad 30), .ref (ad 39), .ref (ad 44), .ref (ad 47), .ref (ad 50), .ref (ad 51), .ref (ad 52)])),
  (ad 1, .inr (0, [.ref (ad 2), .int 0, .ref (ad 3), .ref (ad 4), .ref (ad 5), .ref (ad 6), .ref (ad 7), .ref (ad 8), .int 0, .ref (ad 9), .ref (ad 10), .ref (ad 11), .int 0, .ref (ad 12), .ref (ad 13), .int 1])),
  (ad 2, .inl (dA 0, 7, .inl (cn_rf))),
  (ad 3, .inl (dA 0, 24, .inl (fun _ => 0))),
  (ad 4, .inl (dA 0, 24, .inl (fun _ => 0))),
  (ad 5, .inl (dA 0, 24, .inl (fun _ => 0))),
  (ad 6, .inl (dA 0, 24, .inl (fun _ => 0))),
  (ad 7, .inl (dA 0, 24, .inl (fun _ => 0))),
  (ad 8, .inl (dA 0, 24, .inl (fun _ => 0))),
  (ad 9, .inl (dA 0, 6, .inl (fun _ => 0))),
  (ad 10, .inl (dA 0, 6, .inl (fun _ => 0))),
  (ad 11, .inl (dA 0, 6, .inl (fun _ => 0))),
  (ad 12, .inl (dA 0, 6, .inl (fun _ => 0))),
  (ad 13, .inl (dA 0, 10, .inl (fun j => if j < 10 then (-1) else (fun _ => 0) j))),
  (ad 14, .inr (0, [.ref (ad 15), .int 0, .ref (ad 16), .ref (ad 17), .ref (ad 18), .ref (ad 19), .ref (ad 20), .ref (ad 21), .int 0, .ref (ad 22), .ref (ad 23), .ref (ad 24), .int 0, .ref (ad 25), .ref (ad 26), .int 1])),
  (ad 15, .inl (dA 0, 7, .inl (cn_rf))),
  (ad 16, .inl (dA 0, 24, .inl (fun _ => 0))),
  (ad 17, .inl (dA 0, 24, .inl (fun _ => 0))),
  (ad 18, .inl (dA 0, 24, .inl (fun _ => 0))),
  (ad 19, .inl (dA 0, 24, .inl (fun _ => 0))),
  (ad 20, .inl (dA 0, 24, .inl (fun _ => 0))),
  (ad 21, .inl (dA 0, 24, .inl (fun _ => 0))),
  (ad 22, .inl (dA 0, 6, .inl (fun _ => 0))),
  (ad 23, .inl (dA 0, 6, .inl (fun _ => 0))),
  (ad 24, .inl (dA 0, 6, .inl (fun _ => 0))),
  (ad 25, .inl (dA 0, 6, .inl (fun _ => 0))),
  (ad 26, .inl (dA 0, 10, .inl (fun j => if j < 10 then (-1) else (fun _ => 0) j))),
  (ad 27, .inr (3, [.ref (ad 28), .int 0, .int 0, .int 0, .ref (ad 29), .int 0, .int 0, .int 0, .int 0])),
  (ad 28, .inl (dA 0, 120, .inl (fun _ => 0))),
  (ad 29, .inl (dA 0, 66, .inl (fun _ => 0))),
  (ad 30, .inl (dA 2, 4, .inr (.inr (.inr (.inr (va_up (va_up (va_up (va_up (fun _ => none) (0 : Int32).toNatClampNeg (some (ad 31))) (1 : Int32).toNatClampNeg (some (ad 32))) (2 : Int32).toNatClampNeg (some (ad 33))) (3 : Int32).toNatClampNeg (some (ad 34)))))))),
  (ad 39, .inr (1, [.ref (ad 1), .int 500, .ref (ad 40), .ref (ad 41), .ref (ad 42), .ref (ad 43)])),
  (ad 40, .inl (dA 0, 24, .inl (fun _ => 0))),
  (ad 41, .inl (dA 1, 24, .inl (fun _ => 0))),
  (ad 42, .inl (dA 0, 24, .inl (fun _ => 0))),
  (ad 43, .inl (dA 0, 576, .inl (fun _ => 0))),
  (ad 44, .inr (4, [.ref (ad 1), .ref (ad 39), .ref (ad 45), .ref (ad 46)])),
  (ad 45, .inl (dA 0, 24, .inl (fun _ => 0))),
  (ad 46, .inl (dA 0, 24, .inl (fun _ => 0))),
  (ad 47, .inr (4, [.ref (ad 1), .ref (ad 39), .ref (ad 48), .ref (ad 49)])),
  (ad 48, .inl (dA 0, 24, .inl (fun _ => 0))),
  (ad 49, .inl (dA 0, 24, .inl (fun _ => 0))),
  (ad 50, .inl (dA 0, 4824, .inl (fun _ => 0))),
  (ad 51, .inl (dA 0, 24, .inl (fun _ => 0))),
  (ad 52, .inl (dA 0, 7, .inl (fun _ => 0))),
  (ad 31, .inr (2, [.int 0, .int 0, .ref (ad 35)])),
  (ad 35, .inl (dA 0, 40, .inl (fun _ => 0))),
  (ad 32, .inr (2, [.int 0, .int 0, .ref (ad 36)])),
  (ad 36, .inl (dA 0, 40, .inl (fun _ => 0))),
  (ad 33, .inr (2, [.int 0, .int 0, .ref (ad 37)])),
  (ad 37, .inl (dA 0, 40, .inl (fun _ => 0))),
  (ad 34, .inr (2, [.int 0, .int 0, .ref (ad 38)])),
  (ad 38, .inl (dA 0, 40, .inl (fun _ => 0))),
  (ad 53, .inr (6, [.ref (ad 54), .ref (ad 55), .ref (ad 56), .int 0, .ref (ad 57), .ref (ad 58), .int 0, .ref (ad 59), .int 0, .ref (ad 60), .int 1, .ref (ad 61), .ref (ad 62), .ref (ad 63), .int 0, .int 0, .int 0, .int 0, .long 0, .int 0, .int 0, .ref (ad 64), .int 0, .ref (ad 65), .ref (ad 66), .ref (ad 67), .ref (ad 68), .ref (ad 69), .ref (ad 70), .ref (ad 71), .ref (ad 72), .ref (ad 73), .ref (ad 74), .int 0, .ref (ad 75), .int 0, .ref (ad 76)])),
  (ad 54, .inl (dA 0, 7, .inl (upd (upd (upd (upd (upd (upd (upd (fun _ => 0) (0 : Int32).toNatClampNeg 500) (1 : Int32).toNatClampNeg 1100) (2 : Int32).toNatClampNeg 0) (3 : Int32).toNatClampNeg 30) (4 : Int32).toNatClampNeg 0) (5 : Int32).toNatClampNeg 100) (6 : Int32).toNatClampNeg 20))),
  (ad 55, .inl (dA 0, 7, .inl (upd (upd (upd (upd (upd (upd (upd (fun _ => 0) (0 : Int32).toNatClampNeg 100) (1 : Int32).toNatClampNeg 500) (2 : Int32).toNatClampNeg (-200)) (3 : Int32).toNatClampNeg 0) (4 : Int32).toNatClampNeg (-999)) (5 : Int32).toNatClampNeg 0) (6 : Int32).toNatClampNeg 0))),
  (ad 56, .inl (dA 0, 7, .inl (upd (upd (upd (upd (upd (upd (upd (fun _ => 0) (0 : Int32).toNatClampNeg 2000) (1 : Int32).toNatClampNeg 2000) (2 : Int32).toNatClampNeg 200) (3 : Int32).toNatClampNeg 500) (4 : Int32).toNatClampNeg 999) (5 : Int32).toNatClampNeg 999) (6 : Int32).toNatClampNeg 999))),
  (ad 57, .inl (dA 0, 120, .inl (fun _ => 0))),
  (ad 58, .inl (dA 0, 24, .inl (fun _ => 0))),
  (ad 59, .inl (dA 0, 18, .inl (fun _ => 0))),
  (ad 60, .inl (dA 0, 6, .inl (fun _ => 0))),
  (ad 61, .inl (dA 0, 10, .inl (upd (upd (upd (upd (upd (upd (upd (upd (upd (upd (fun _ => 0) (0 : Int32).toNatClampNeg (-1)) (1 : Int32).toNatClampNeg (-1)) (2 : Int32).toNatClampNeg (-1)) (3 : Int32).toNatClampNeg (-1)) (4 : Int32).toNatClampNeg (-1)) (5 : Int32).toNatClampNeg (-1)) (6 : Int32).toNatClampNeg (-1)) (7 : Int32).toNatClampNeg (-1)) (8 : Int32).toNatClampNeg (-1)) (9 : Int32).toNatClampNeg (-1)))),
  (ad 62, .inl (dA 0, 7, .inl (fun _ => 0))),
  (ad 63, .inl (dA 0, 120, .inl (fun _ => 0))),
  (ad 64, .inl (dA 0, 180, .inl (fun _ => 0))),
  (ad 65, .inl (dA 0, 24, .inl (fun _ => 0))),
  (ad 66, .inl (dA 0, 24, .inl (fun _ => 0))),
  (ad 67, .inl (dA 0, 4848, .inl (fun _ => 0))),
  (ad 68, .inl (dA 0, 2400, .inl (fun _ => 0))),
  (ad 69, .inl (dA 0, 24, .inl (fun _ => 0))),
  (ad 70, .inl (dA 1, 24, .inl (fun _ => 0))),
  (ad 71, .inl (dA 0, 4, .inl (fun _ => 0))),
  (ad 72, .inl (dA 0, 4, .inl (fun _ => 0))),
  (ad 73, .inl (dA 0, 160, .inl (fun _ => 0))),
  (ad 74, .inl (dA 0, 40, .inl (fun _ => 0))),
  (ad 75, .inl (dA 0, 200, .inl (fun _ => 0))),
  (ad 76, .inl (dA 0, 4, .inl (fun _ => 0)))]
def st_p : List Nat := [0, 1, 2, 3, 4, 5, 6, 7, 8, 9, 10, 11, 12, 13, 14, 15, 16, 17, 18, 19, 20, 21, 22, 23, 24, 25, 26, 27, 28, 29, 30, 45, 47, 49, 51, 46, 48, 50, 52, 31, 32, 33, 34, 35, 36, 37, 38, 39, 40, 41, 42, 43, 44, 53, 54, 55, 56, 57, 58, 59, 60, 61, 62, 63, 64, 65, 66, 67, 68, 69, 70, 71, 72, 73, 74, 75, 76]
set_option maxRecDepth 100000 in
set_option maxHeartbeats 4000000 in
theorem st_P {ad : Nat → Nat} {dA : Nat → ClassId} {D : va_G} {H : Heap} {n : Nat} {xs : Int → Int} (hP : va_P D dk_cl (st_W ad dA) H) : va_P D dk_cl (dk_ws ad dA 77 (HH n xs st_w st_a st_i)) H := by
  intro k q hq
  obtain ⟨hk, rfl⟩ := dk_ws_of hq
  match k, hk with
  | 0, _ => exact (hP 0 _ rfl)
  | 1, _ => exact (hP 1 _ rfl)
  | 2, _ => exact st_arr (hP 2 _ rfl) (st_l7 ⟨rfl, rfl, rfl, rfl, rfl, rfl, rfl⟩)
  | 3, _ => exact (hP 3 _ rfl)
  | 4, _ => exact (hP 4 _ rfl)
  | 5, _ => exact (hP 5 _ rfl)
  | 6, _ => exact (hP 6 _ rfl)
  | 7, _ => exact (hP 7 _ rfl)
  | 8, _ => exact (hP 8 _ rfl)
  | 9, _ => exact (hP 9 _ rfl)
  | 10, _ => exact (hP 10 _ rfl)
  | 11, _ => exact (hP 11 _ rfl)
  | 12, _ => exact (hP 12 _ rfl)
  | 13, _ => exact st_arr (hP 13 _ rfl) (st_l10 ⟨rfl, rfl, rfl, rfl, rfl, rfl, rfl, rfl, rfl, rfl⟩)
  | 14, _ => exact (hP 14 _ rfl)
  | 15, _ => exact st_arr (hP 15 _ rfl) (st_l7 ⟨rfl, rfl, rfl, rfl, rfl, rfl, rfl⟩)
  | 16, _ => exact (hP 16 _ rfl)
  | 17, _ => exact (hP 17 _ rfl)
  | 18, _ => exact (hP 18 _ rfl)
  | 19, _ => exact (hP 19 _ rfl)
  | 20, _ => exact (hP 20 _ rfl)
  | 21, _ => exact (hP 21 _ rfl)
  | 22, _ => exact (hP 22 _ rfl)
  | 23, _ => exact (hP 23 _ rfl)
  | 24, _ => exact (hP 24 _ rfl)
  | 25, _ => exact (hP 25 _ rfl)
  | 26, _ => exact st_arr (hP 26 _ rfl) (st_l10 ⟨rfl, rfl, rfl, rfl, rfl, rfl, rfl, rfl, rfl, rfl⟩)
  | 27, _ => exact (hP 27 _ rfl)
  | 28, _ => exact (hP 28 _ rfl)
  | 29, _ => exact (hP 29 _ rfl)
  | 30, _ => exact st_row (hP 30 _ rfl) (st_l4 ⟨rfl, rfl, rfl, rfl⟩)
  | 31, _ => exact (hP 45 _ rfl)
  | 32, _ => exact (hP 47 _ rfl)
  | 33, _ => exact (hP 49 _ rfl)
  | 34, _ => exact (hP 51 _ rfl)
  | 35, _ => exact (hP 46 _ rfl)
  | 36, _ => exact (hP 48 _ rfl)
  | 37, _ => exact (hP 50 _ rfl)
  | 38, _ => exact (hP 52 _ rfl)
  | 39, _ => exact (hP 31 _ rfl)
  | 40, _ => exact (hP 32 _ rfl)
  | 41, _ => exact (hP 33 _ rfl)
  | 42, _ => exact (hP 34 _ rfl)
  | 43, _ => exact (hP 35 _ rfl)
  | 44, _ => exact (hP 36 _ rfl)
  | 45, _ => exact (hP 37 _ rfl)
  | 46, _ => exact (hP 38 _ rfl)
  | 47, _ => exact (hP 39 _ rfl)
  | 48, _ => exact (hP 40 _ rfl)
  | 49, _ => exact (hP 41 _ rfl)
  | 50, _ => exact (hP 42 _ rfl)
  | 51, _ => exact (hP 43 _ rfl)
  | 52, _ => exact (hP 44 _ rfl)
  | 53, _ => exact (hP 53 _ rfl)
  | 54, _ => exact st_arr (hP 54 _ rfl) (st_l7 ⟨rfl, rfl, rfl, rfl, rfl, rfl, rfl⟩)
  | 55, _ => exact st_arr (hP 55 _ rfl) (st_l7 ⟨rfl, rfl, rfl, rfl, rfl, rfl, rfl⟩)
  | 56, _ => exact st_arr (hP 56 _ rfl) (st_l7 ⟨rfl, rfl, rfl, rfl, rfl, rfl, rfl⟩)
  | 57, _ => exact (hP 57 _ rfl)
  | 58, _ => exact (hP 58 _ rfl)
  | 59, _ => exact (hP 59 _ rfl)
  | 60, _ => exact (hP 60 _ rfl)
  | 61, _ => exact st_arr (hP 61 _ rfl) (st_l10 ⟨rfl, rfl, rfl, rfl, rfl, rfl, rfl, rfl, rfl, rfl⟩)
  | 62, _ => exact (hP 62 _ rfl)
  | 63, _ => exact (hP 63 _ rfl)
  | 64, _ => exact (hP 64 _ rfl)
  | 65, _ => exact (hP 65 _ rfl)
  | 66, _ => exact (hP 66 _ rfl)
  | 67, _ => exact (hP 67 _ rfl)
  | 68, _ => exact (hP 68 _ rfl)
  | 69, _ => exact (hP 69 _ rfl)
  | 70, _ => exact (hP 70 _ rfl)
  | 71, _ => exact (hP 71 _ rfl)
  | 72, _ => exact (hP 72 _ rfl)
  | 73, _ => exact (hP 73 _ rfl)
  | 74, _ => exact (hP 74 _ rfl)
  | 75, _ => exact (hP 75 _ rfl)
  | 76, _ => exact (hP 76 _ rfl)
  | k + 77, hk => exact absurd hk (by omega)
set_option maxRecDepth 100000 in
theorem st_pos {ad : Nat → Nat} {dA : Nat → ClassId} : ∀ k, k < 77 → ∃ e, (st_W ad dA)[st_p.getD k 0]? = some (ad k, e) := by
  intro k hk
  match k, hk with
  | 0, _ => exact ⟨_, rfl⟩
  | 1, _ => exact ⟨_, rfl⟩
  | 2, _ => exact ⟨_, rfl⟩
  | 3, _ => exact ⟨_, rfl⟩
  | 4, _ => exact ⟨_, rfl⟩
  | 5, _ => exact ⟨_, rfl⟩
  | 6, _ => exact ⟨_, rfl⟩
  | 7, _ => exact ⟨_, rfl⟩
  | 8, _ => exact ⟨_, rfl⟩
  | 9, _ => exact ⟨_, rfl⟩
  | 10, _ => exact ⟨_, rfl⟩
  | 11, _ => exact ⟨_, rfl⟩
  | 12, _ => exact ⟨_, rfl⟩
  | 13, _ => exact ⟨_, rfl⟩
  | 14, _ => exact ⟨_, rfl⟩
  | 15, _ => exact ⟨_, rfl⟩
  | 16, _ => exact ⟨_, rfl⟩
  | 17, _ => exact ⟨_, rfl⟩
  | 18, _ => exact ⟨_, rfl⟩
  | 19, _ => exact ⟨_, rfl⟩
  | 20, _ => exact ⟨_, rfl⟩
  | 21, _ => exact ⟨_, rfl⟩
  | 22, _ => exact ⟨_, rfl⟩
  | 23, _ => exact ⟨_, rfl⟩
  | 24, _ => exact ⟨_, rfl⟩
  | 25, _ => exact ⟨_, rfl⟩
  | 26, _ => exact ⟨_, rfl⟩
  | 27, _ => exact ⟨_, rfl⟩
  | 28, _ => exact ⟨_, rfl⟩
  | 29, _ => exact ⟨_, rfl⟩
  | 30, _ => exact ⟨_, rfl⟩
  | 31, _ => exact ⟨_, rfl⟩
  | 32, _ => exact ⟨_, rfl⟩
  | 33, _ => exact ⟨_, rfl⟩
  | 34, _ => exact ⟨_, rfl⟩
  | 35, _ => exact ⟨_, rfl⟩
  | 36, _ => exact ⟨_, rfl⟩
  | 37, _ => exact ⟨_, rfl⟩
  | 38, _ => exact ⟨_, rfl⟩
  | 39, _ => exact ⟨_, rfl⟩
  | 40, _ => exact ⟨_, rfl⟩
  | 41, _ => exact ⟨_, rfl⟩
  | 42, _ => exact ⟨_, rfl⟩
  | 43, _ => exact ⟨_, rfl⟩
  | 44, _ => exact ⟨_, rfl⟩
  | 45, _ => exact ⟨_, rfl⟩
  | 46, _ => exact ⟨_, rfl⟩
  | 47, _ => exact ⟨_, rfl⟩
  | 48, _ => exact ⟨_, rfl⟩
  | 49, _ => exact ⟨_, rfl⟩
  | 50, _ => exact ⟨_, rfl⟩
  | 51, _ => exact ⟨_, rfl⟩
  | 52, _ => exact ⟨_, rfl⟩
  | 53, _ => exact ⟨_, rfl⟩
  | 54, _ => exact ⟨_, rfl⟩
  | 55, _ => exact ⟨_, rfl⟩
  | 56, _ => exact ⟨_, rfl⟩
  | 57, _ => exact ⟨_, rfl⟩
  | 58, _ => exact ⟨_, rfl⟩
  | 59, _ => exact ⟨_, rfl⟩
  | 60, _ => exact ⟨_, rfl⟩
  | 61, _ => exact ⟨_, rfl⟩
  | 62, _ => exact ⟨_, rfl⟩
  | 63, _ => exact ⟨_, rfl⟩
  | 64, _ => exact ⟨_, rfl⟩
  | 65, _ => exact ⟨_, rfl⟩
  | 66, _ => exact ⟨_, rfl⟩
  | 67, _ => exact ⟨_, rfl⟩
  | 68, _ => exact ⟨_, rfl⟩
  | 69, _ => exact ⟨_, rfl⟩
  | 70, _ => exact ⟨_, rfl⟩
  | 71, _ => exact ⟨_, rfl⟩
  | 72, _ => exact ⟨_, rfl⟩
  | 73, _ => exact ⟨_, rfl⟩
  | 74, _ => exact ⟨_, rfl⟩
  | 75, _ => exact ⟨_, rfl⟩
  | 76, _ => exact ⟨_, rfl⟩
  | k + 77, hk => exact absurd hk (by omega)
theorem st_inj : ∀ i, i < 77 → ∀ j, j < 77 → st_p.getD i 0 = st_p.getD j 0 → i = j := by decide +kernel
theorem st_D {ad : Nat → Nat} {dA : Nat → ClassId} {A : Nat → Prop} (hD : va_D A (st_W ad dA)) : (∀ i j, i < 77 → j < 77 → ad i = ad j → i = j) ∧ ∀ k, k < 77 → A (ad k) := by
  refine ⟨fun i j hi hj e => ?_, fun k hk => ?_⟩
  · obtain ⟨e1, h1⟩ := st_pos (ad := ad) (dA := dA) i hi
    obtain ⟨e2, h2⟩ := st_pos (ad := ad) (dA := dA) j hj
    exact st_inj i hi j hj (hD.1 _ _ _ _ h1 h2 e)
  · obtain ⟨e1, h1⟩ := st_pos (ad := ad) (dA := dA) k hk
    exact hD.2 _ _ h1
def st_ad (l : List Nat) (b t1 t2 t3 : Nat) (aK : Nat → Nat) : Nat → Nat := fun k => if k < 77 then l.getD k 0 else if k = 100 then b else if k = 101 then t1 else if k = 102 then t2 else if k = 103 then t3 else aK (k - 110)
