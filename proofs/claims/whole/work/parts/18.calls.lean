/-! CONTRACTS: a method of the pure machine as a contract of the real one; calls -/
/-- what stays over all calls: sorts, rows that nobody writes, statics, texts, nest words, what the texts hold -/
def dk_Dy (ad : Nat → Nat) (A : Nat → Prop) (zs : List (String × String × String × Nat)) (rs : List (String × Nat × String × Nat)) (nF : List (String × Nat × String × String × String × String)) (nM : List (String × Nat × MethodName × String)) (ln : List Nat) (by1 : List (List Int32)) (adV : Nat → Nat) (k0 : Nat) (zi : List (String × String × String × Int32)) (zr : List (String × String × String)) (U : State) : Prop :=
  (∀ q ∈ zs, va_Z q.1 q.2.1 q.2.2.1 (.ref (ad q.2.2.2)) A U U.heap) ∧ (∀ q ∈ rs, vk_R q.1 q.2.1 q.2.2.1 (ad q.2.2.2) U) ∧ (∀ q ∈ nF, va_Nw (.fieldLinkNest q.1 q.2.1 q.2.2.1 q.2.2.2.1 q.2.2.2.2.1 q.2.2.2.2.2) U) ∧ (∀ q ∈ nM, va_Nw (.methodLinkNest q.1 q.2.1 q.2.2.1 q.2.2.2) U) ∧ vk_S ln.length ln by1 (fun i => ad (k0 + i)) adV A U U.heap ∧ (∀ q ∈ zi, va_Z q.1 q.2.1 q.2.2.1 (.int q.2.2.2) A U U.heap) ∧ (∀ q ∈ zr, va_Zq q.1 q.2.1 q.2.2 A U U.heap)
section DYM
variable {ad : Nat → Nat} {A : Nat → Prop} {zs : List (String × String × String × Nat)} {rs : List (String × Nat × String × Nat)} {nF : List (String × Nat × String × String × String × String)} {nM : List (String × Nat × MethodName × String)} {ln : List Nat} {by1 : List (List Int32)} {adV : Nat → Nat} {k0 : Nat} {zi : List (String × String × String × Int32)} {zr : List (String × String × String)} {s U : State}
theorem dk_Dy_warm (hW : s.WarmedH U.vm) (hq : ∀ a : Nat, a < s.heap.size → ¬ A a → U.heap[a]? = s.heap[a]?) (h : dk_Dy ad A zs rs nF nM ln by1 adV k0 zi zr s) : dk_Dy ad A zs rs nF nM ln by1 adV k0 zi zr U := by
  obtain ⟨h1, h2, h3, h4, h5, h6, h7⟩ := h
  exact ⟨fun q m => ((h1 q m).moved hW.alike).kept hq, fun q m => (h2 q m).warm hW, fun q m => (h3 q m).warmF hW, fun q m => (h4 q m).warmM hW, (h5.moved hW.alike).kept hq, fun q m => ((h6 q m).moved hW.alike).kept hq, fun q m => ((h7 q m).moved hW.alike).kept hq⟩
theorem dk_Dy_same (hv : U.vm = s.vm) (hh : U.heap = s.heap) (h : dk_Dy ad A zs rs nF nM ln by1 adV k0 zi zr s) : dk_Dy ad A zs rs nF nM ln by1 adV k0 zi zr U := by
  obtain ⟨h1, h2, h3, h4, h5, h6, h7⟩ := h
  have ha : s.vm.Alike U.vm := by rw [hv]; exact Vm.Alike.refl _
  have hq : ∀ a : Nat, a < s.heap.size → ¬ A a → U.heap[a]? = s.heap[a]? := fun a _ _ => by rw [hh]
  exact ⟨fun q m => ((h1 q m).moved ha).kept hq, fun q m => (h2 q m).same hv, fun q m => (h3 q m).same rfl hv.symm, fun q m => (h4 q m).same rfl hv.symm, (h5.moved ha).kept hq, fun q m => ((h6 q m).moved ha).kept hq, fun q m => ((h7 q m).moved ha).kept hq⟩
end DYM
theorem dk_Fx_moved {ad : Nat → Nat} {dA : Nat → ClassId} {D : va_G} {N : Nat} {A : Nat → Prop} {cl : List vw_C} {ro : dk_H} {s U : State} (ha : s.vm.Alike U.vm) (hq : ∀ a : Nat, a < s.heap.size → ¬ A a → U.heap[a]? = s.heap[a]?) (h : dk_Fx ad dA D N A cl ro s) : dk_Fx ad dA D N A cl ro U := by
  obtain ⟨h1, h2, h3⟩ := h
  refine ⟨h1.moved ha, h2, fun k hk => ?_⟩
  rcases h3 k hk with ⟨n, f, e1, e2⟩ | h4
  · exact Or.inl ⟨n, f, e1, (e2.moved ha).kept hq⟩
  · exact Or.inr h4
