/-! constructors: new objects on top of any world -/
def NC (U : State) : Prop := va_Nw (.methodLinkNest RX4 23 yX3_init "Orderlattice") U ∧ va_Nw (.methodLinkNest RX4 30 yX0_init "Orderlattice") U ∧ va_Nw (.methodLinkNest RX4 35 yX2_init "Orderlattice") U ∧ va_Nw (.methodLinkNest RX4 40 yX1_init "Orderlattice") U ∧ va_Nw (.methodLinkNest RX0 11 yX3_init "Orderlattice") U ∧ va_Nw (.methodLinkNest RX0 20 yX2_init "Orderlattice") U ∧ va_Nw (.methodLinkNest RX0 30 yX1_init "Orderlattice") U ∧ va_Nw (.methodLinkNest RX3 9 yX2_init "Orderlattice") U
theorem NC.warm {s U : State} (hW : s.WarmedH U.vm) (h : NC s) : NC U := ⟨va_Nw.warmM hW h.1, va_Nw.warmM hW h.2.1, va_Nw.warmM hW h.2.2.1, va_Nw.warmM hW h.2.2.2.1, va_Nw.warmM hW h.2.2.2.2.1, va_Nw.warmM hW h.2.2.2.2.2.1, va_Nw.warmM hW h.2.2.2.2.2.2.1, va_Nw.warmM hW h.2.2.2.2.2.2.2⟩
theorem NC.same {s U : State} (hv : s.vm = U.vm) (h : NC s) : NC U := ⟨va_Nw.same rfl hv h.1, va_Nw.same rfl hv h.2.1, va_Nw.same rfl hv h.2.2.1, va_Nw.same rfl hv h.2.2.2.1, va_Nw.same rfl hv h.2.2.2.2.1, va_Nw.same rfl hv h.2.2.2.2.2.1, va_Nw.same rfl hv h.2.2.2.2.2.2.1, va_Nw.same rfl hv h.2.2.2.2.2.2.2⟩
def PC (dC : Nat → ClassId) (dI : Nat → Nat → Nat) (z : Nat) (G : va_W) (U : State) : Prop := va_P (dC, dI) vwCl G U.heap ∧ va_K (dC, dI) vwCl (tyX dC) U ∧ va_D (zB z) G ∧ z ≤ U.heap.size ∧ NC U
def WC (dC : Nat → ClassId) (dI : Nat → Nat → Nat) (z : Nat) (G : va_W) (s : State) (H : Heap) (locs : List Loc) : Prop := va_P (dC, dI) vwCl G H ∧ va_K (dC, dI) vwCl (tyX dC) s ∧ va_D (zB z) G ∧ va_S (zB z) s.heap H locs ∧ z ≤ s.heap.size ∧ NC s
section KC
variable {dC : Nat → ClassId} {dI : Nat → Nat → Nat} {z : Nat} {G : va_W} {s : State} {H : Heap} {locs : List Loc}
theorem WC.of (h : PC dC dI z G s) : WC dC dI z G s s.heap [] := ⟨h.1, h.2.1, h.2.2.1, va_S.rf, h.2.2.2.1, h.2.2.2.2⟩
theorem WC.P {U : State} (h : WC dC dI z G s H locs) (hU : U.heap = H) (hW : s.WarmedH U.vm) : PC dC dI z G U :=
  ⟨by rw [hU]; exact h.1, va_K.moved hW.alike h.2.1, h.2.2.1, by rw [hU]; exact Nat.le_trans h.2.2.2.2.1 h.2.2.2.1.1, h.2.2.2.2.2.warm hW⟩
theorem WC.F {t : State} (h : WC dC dI z G s H locs) (ht : t.heap = H) : va_F (zB z) s t := h.2.2.2.1.F ht
theorem WC.L (h : WC dC dI z G s H locs) : ∀ q ∈ locs, zB z q.base := h.2.2.2.1.2.2
theorem PC.call {U : State} {g : JFrame} {mk : MethodId} {a : Array Value} (h : PC dC dI z G U) : PC dC dI z G (U.calling g mk a) := ⟨h.1, va_K.moved (u := U) (U := U.calling g mk a) (Vm.Alike.refl U.vm) h.2.1, h.2.2.1, h.2.2.2.1, NC.same (s := U) (U := U.calling g mk a) rfl h.2.2.2.2⟩
theorem PC.blind {av : List Value} : FrameBlind (va_Pc av (PC dC dI z G)) := fun _ _ _ _ h => ⟨h.1, h.2.call⟩
theorem WC.preS {As : List Value} (h : WC dC dI z G s H locs) : PreS s H (va_Pc As (PC dC dI z G)) As := ⟨PC.blind, fun _ hU hW => ⟨rfl, h.P hU hW⟩⟩
theorem WC.to {G' : va_W} {H1 : Heap} {locs1 : List Loc} (h : WC dC dI z G s H locs) (h1 : va_P (dC, dI) vwCl G' H1) (h2 : va_D (zB z) G') (h3 : va_S (zB z) s.heap H1 locs1) : WC dC dI z G' s H1 locs1 := ⟨h1, h.2.1, h2, h3, h.2.2.2.2.1, h.2.2.2.2.2⟩
theorem WC.back {G' : va_W} {t : State} {H1 : Heap} {locs1 : List Loc} (h : WC dC dI z G s H locs) (ht : t.heap = H1) (hB : PC dC dI z G' t) (hS : va_S (zB z) s.heap H1 locs1) : WC dC dI z G' s H1 locs1 := ⟨by rw [← ht]; exact hB.1, h.2.1, hB.2.2.1, hS, h.2.2.2.2.1, h.2.2.2.2.2⟩
theorem WC.eqG {G' : va_W} (e : G = G') (h : WC dC dI z G s H locs) : WC dC dI z G' s H locs := e ▸ h
end KC
theorem cs_get {α : Type} {L M : List α} {j : Nat} : (L ++ M)[L.length + j]? = M[j]? := by
  rw [List.getElem?_append_right (Nat.le_add_right _ _), Nat.add_sub_cancel_left]
theorem cs_set {α : Type} {L M : List α} {j : Nat} {x : α} : (L ++ M).set (L.length + j) x = L ++ M.set j x := by
  induction L with
  | nil => rw [List.nil_append, List.nil_append]; exact congrArg (fun i => M.set i x) (Nat.zero_add j)
  | cons a L ih =>
    rw [List.cons_append, List.length_cons, show L.length + 1 + j = (L.length + j) + 1 by omega]
    exact congrArg (a :: ·) ih
theorem cs_k {α : Type} {G M : List α} {k : Nat} {x : α} (h : k < G.length) : (G.set k x ++ M)[k]? = some x := by
  rw [List.getElem?_append_left (by rw [List.length_set]; exact h), List.getElem?_set_self h]
theorem cs_kset {α : Type} {k : Nat} {x y : α} : ∀ {G M : List α}, k < G.length → (G.set k x ++ M).set k y = G.set k y ++ M := by
  intro G M h
  rw [List.set_append_left _ _ (by rw [List.length_set]; exact h), List.set_set]

