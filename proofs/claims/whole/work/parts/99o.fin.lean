/-! THE LAW: from its loop's head to its end -/
theorem st_hR {p : Program} {l : Launch} {e : Env} {s : State} {m : MethodId} {below : List Frame} {meth : Method} {c : Code} {b : Nat} {ad : Nat → Nat} {dA : Nat → ClassId} {D : va_G} {ro : dk_H} (hx : p.tables.exec = Jvm.exec) (hb : c.code = code) (hr : meth.sig.returnType = ret) (hlocks : meth.locks = false) :
    ∀ (pc : Nat) (ins : Instr) (n : dk_N) (is : List dk_N) (J : Nat → dk_L → List dk_V → dk_H → Prop) (L : dk_L) (S : List dk_V) (h : dk_H), decode code pc = .ok (ins, 1) → dk_k t_law pc ins = some n → dk_isR n → dk_r g_law (fun r _ => r = some (.inl 1)) J (n :: is) L S h → dk_Go p l e room_1 s m #[Value.ref b] below meth c 600000 7302250 (lw_Z below #[Value.ref b] s) ad dA D 77 (fun q => s.heap.size ≤ q) dk_cl ro 4 pc L S h := by
  intro pc ins n is J L S h hdg hk hn hr2
  rcases hn with rfl | rfl | rfl | rfl
  · rcases dk_k_ret (Or.inl rfl) hk with ⟨-, h1⟩ | ⟨-, h1, -⟩ | ⟨-, h1, -⟩
    · cases h1
    · cases h1
    · cases h1
  · rcases dk_k_ret (Or.inr (Or.inl rfl)) hk with ⟨rfl, h1⟩ | ⟨-, h1, -⟩ | ⟨-, h1, -⟩
    · simp only [dk_r] at hr2
      split at hr2
      · rename_i x
        obtain ⟨-, h2⟩ := hr2
        cases h2
        intro H locs ls hW hS hl
        refine va_forget (fun q hq => hS.2.2 q hq) ?_
        exact lw_ret hx hb hr hlocks hdg
      · exact hr2.elim
    · cases h1
    · cases h1
  · rcases dk_k_ret (Or.inr (Or.inr (Or.inl rfl))) hk with ⟨-, h1⟩ | ⟨-, -, h1⟩ | ⟨-, h1, -⟩
    · rcases dk_rt_inv h1 with ⟨-, h2⟩ | ⟨-, h2⟩ <;> cases h2
    · exact absurd h1 (by decide)
    · cases h1
  · rcases dk_k_ret (Or.inr (Or.inr (Or.inr rfl))) hk with ⟨-, h1⟩ | ⟨-, h1, -⟩ | ⟨-, -, h1⟩
    · rcases dk_rt_inv h1 with ⟨-, h2⟩ | ⟨-, h2⟩ <;> cases h2
    · cases h1
    · exact absurd h1 (by decide)
theorem st_fin {p : Program} {l : Launch} {e : Env} {s : State} {m : MethodId} {below : List Frame} {meth : Method} {c : Code} {b L : Nat} {xs : Nat → Int32} (hL : L ≤ 384) (C0 : lw_At p s m meth c b L xs) {ad : Nat → Nat} {dA : Nat → ClassId} {D : va_G} {adV : Nat → Nat} {H : Heap} {locs : List Loc} {ls : Array Slot}
    (hK : va_K D dk_cl (dk_ty dA) s) (h100 : ad 100 = b) (h101 : va_T .int (ad 101) 7 (fun j => .int (Int32.ofInt (hh_le j))) (fun q => s.heap.size ≤ q) s s.heap) (h102 : va_T .int (ad 102) 7 (fun j => .int (Int32.ofInt (hh_mo j))) (fun q => s.heap.size ≤ q) s s.heap) (h103 : va_T .int (ad 103) 7 (fun j => .int (Int32.ofInt (hh_un j))) (fun q => s.heap.size ≤ q) s s.heap) (hDD : dk_DD ad (fun q => s.heap.size ≤ q) adV s)
    (hW : cn_W D (fun q => s.heap.size ≤ q) s (st_W ad dA) H locs) (hl : lv_has ls 4 [(3, .int 0), (2, .ref (ad 53)), (1, .ref (ad 0)), (0, .ref b)]) :
    W p l e room_1 s m #[Value.ref b] below meth c H locs 600000 7302250 (lw_Z below #[Value.ref b] s) (F0 m 18 ls []) := by
  obtain ⟨hx, hb, hr, hml, hown, hts, hX, hbl, hlocks, hgv⟩ := id C0
  have htb : ∀ w ∈ dk_TB, w.before #[Value.ref b] s = true := fun w hw => hts w (dk_TB_in hw)
  generalize hxs : (fun j : Int => (xs j.toNat).toInt) = xz
  have hsc : va_T .int (ad 100) L (fun j => .int (Int32.ofInt (xz j))) (fun q => s.heap.size ≤ q) s s.heap := by
    obtain ⟨scr, g1, g2, g3, g4, g5⟩ := hX
    rw [h100]
    refine ⟨scr, g1, g2, g3, by omega, by rw [g4], fun j hj => ?_, by omega⟩
    rw [g5 j hj, ← hxs]
    simp
  have hFx : dk_Fx ad dA D 77 (fun q => s.heap.size ≤ q) dk_cl (hh_ro L xz) s := by
    refine ⟨hK, st_D hW.2.1, fun k hk => ?_⟩
    by_cases c0 : k = 100
    · subst c0; exact Or.inl ⟨L, xz, rfl, hsc⟩
    by_cases c1 : k = 101
    · subst c1; exact Or.inl ⟨7, hh_le, rfl, h101⟩
    by_cases c2 : k = 102
    · subst c2; exact Or.inl ⟨7, hh_mo, rfl, h102⟩
    by_cases c3 : k = 103
    · subst c3; exact Or.inl ⟨7, hh_un, rfl, h103⟩
    right
    unfold hh_ro
    split
    all_goals first | exact ⟨_, _, rfl⟩ | (exfalso; omega)
  have hF : dk_Fa ad dA D (fun q => s.heap.size ≤ q) (hh_ro L xz) adV s := ⟨hFx, hDD⟩
  have hWd : dk_Wd ad dA D 77 dk_cl (hh_ro L xz) (HH L xz st_w st_a st_i) H := ⟨st_P hW.1, fun k hk => HH_ro hk, fun k hk t n f z => HH_2 hk z⟩
  have hH : lw_H (fun r _ => r = some (.inl 1)) (fun b2 L2 S h => ∀ pc, dk_nth t_law.2.2.1 b2 = some pc → dk_Go p l e room_1 s m #[Value.ref b] below meth c 600000 7302250 (lw_Z below #[Value.ref b] s) ad dA D 77 (fun q => s.heap.size ≤ q) dk_cl (hh_ro L xz) 4 pc L2 S h) L xz := by
    refine ⟨fun b2 L2 S h w pc hpc => ?_, fun b2 L2 S h q pc hpc H locs ls hW hS hl => q (hW.2.1 100 (by omega)) pc hpc H locs ls hW hS hl, fun j => ?_, hL⟩
    · obtain ⟨mk1, is, e1, w⟩ := w
      obtain ⟨pc2, g1, g2, g3⟩ := dk_ckT_at _ _ k_law b2 mk1 is e1
      cases hpc.symm.trans g1
      intro H locs ls hW hS hl
      exact dk_blockS hx hb hown htb hFx (tok_n _) h_law (fun i kd j hj => hc_law hx hb hml hown htb hF (i, kd, j) (dk_lk_mem hj)) (st_hR hx hb hr hlocks) (fun b L S h z q hq => z q hq) is pc _ S h g3 w H locs ls hW hS (dk_ls_mask g2 hl)
    · rw [← hxs]
      show -2147483648 ≤ (xs j.toNat).toInt ∧ (xs j.toNat).toInt ≤ 2147483647
      exact ⟨Int32.le_toInt _, by have := Int32.toInt_lt (xs j.toNat); omega⟩
  refine lw_loop hH (fun _ => rfl) 64 0 st_w st_a st_i (by omega) (by omega) (by omega) st_Inv 18 rfl H locs ls hWd hW.2.2 ⟨hl.1, rfl, hl.2.1, fun i v hv => ?_⟩
  match i, hv with
  | 0, hv => cases hv; show _ = some (Slot.val (Value.ref (ad 100))); rw [h100]; exact lv_at hl 3 rfl
  | 1, hv => cases hv; exact lv_at hl 2 rfl
  | 2, hv => cases hv; exact lv_at hl 1 rfl
  | 3, hv => cases hv; exact lv_at hl 0 rfl
  | i + 4, hv => cases hv
