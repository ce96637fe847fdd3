/-! constructors: new objects on top of any world -/
def NC (U : State) : Prop := va_Nw (.methodLinkNest RX4 23 yX3_init "Orderlattice") U ∧ va_Nw (.methodLinkNest RX4 30 yX0_init "Orderlattice") U ∧ va_Nw (.methodLinkNest RX4 35 yX2_init "Orderlattice") U ∧ va_Nw (.methodLinkNest RX4 40 yX1_init "Orderlattice") U ∧ va_Nw (.methodLinkNest RX0 11 yX3_init "Orderlattice") U ∧ va_Nw (.methodLinkNest RX0 20 yX2_init "Orderlattice") U ∧ va_Nw (.methodLinkNest RX0 30 yX1_init "Orderlattice") U ∧ va_Nw (.methodLinkNest RX3 9 yX2_init "Orderlattice") U
theorem NC.warm {s U : State} (hW : s.WarmedH U.vm) (h : NC s) : NC U := ⟨va_Nw.warmM hW h.1, va_Nw.warmM hW h.2.1, va_Nw.warmM hW h.2.2.1, va_Nw.warmM hW h.2.2.2.1, va_Nw.warmM hW h.2.2.2.2.1, va_Nw.warmM hW h.2.2.2.2.2.1, va_Nw.warmM hW h.2.2.2.2.2.2.1, va_Nw.warmM hW h.2.2.2.2.2.2.2⟩
theorem NC.same {s U : State} (hv : s.vm = U.vm) (h : NC s) : NC U := ⟨va_Nw.same rfl hv h.1, va_Nw.same rfl hv h.2.1, va_Nw.same rfl hv h.2.2.1, va_Nw.same rfl hv h.2.2.2.1, va_Nw.same rfl hv h.2.2.2.2.1, va_Nw.same rfl hv h.2.2.2.2.2.1, va_Nw.same rfl hv h.2.2.2.2.2.2.1, va_Nw.same rfl hv h.2.2.2.2.2.2.2⟩
def PC (dC : Nat → ClassId) (dI : Nat → Nat → Nat) (z : Nat) (G : va_W) (U : State) : Prop := va_P (dC, dI) vwCl G U.heap ∧ va_K (dC, dI) vwCl (tyX dC) U ∧ va_D (zB z) G ∧ z ≤ U.heap.size ∧ NC U
def WC (dC : Nat → ClassId) (dI : Nat → Nat → Nat) (z : Nat) (G : va_W) (s : State) (H : Heap) (locs : List Loc) : Prop := va_P (dC, dI) vwCl G H ∧ va_K (dC, dI) vwCl (tyX dC) s ∧ va_D (zB z) G ∧ va_S (zB z) s.heap H locs ∧ z ≤ s.heap.size ∧ NC s
section KC
variable {dC : Nat → ClassId} {dI : Nat → Nat → Nat} {z : Nat} {G : va_W} {s : State} {H : Heap} {locs : List Loc}
theorem WC.of (h : PC dC dI z G s) : WC dC dI z G s s.heap [] := ⟨h.1, h.2.1, h.2.2.1, va_S.rf, h.2.2.2.1, h.2.2.2.2⟩
theorem WC.P {U : State} (h : WC dC dI z G s H locs) (hU : U.heap = H) (hW : s.WarmedH U.vm) : PC dC dI z G U :=
  ⟨by rw [hU]; exact h.1, va_K.moved hW.alike h.2.1, h.2.2.1, by rw [hU]; exact Nat.le_trans h.2.2.2.2.1 h.2.2.2.1.1, h.2.2.2.2.2.warm hW⟩
theorem WC.F {t : State} (h : WC dC dI z G s H locs) (ht : t.heap = H) : va_F (zB z) s t := h.2.2.2.1.F ht
theorem WC.L (h : WC dC dI z G s H locs) : ∀ q ∈ locs, zB z q.base := h.2.2.2.1.2.2
theorem PC.call {U : State} {g : JFrame} {mk : MethodId} {a : Array Value} (h : PC dC dI z G U) : PC dC dI z G (U.calling g mk a) := ⟨h.1, va_K.moved (u := U) (U := U.calling g mk a) (Vm.Alike.refl U.vm) h.2.1, h.2.2.1, h.2.2.2.1, NC.same (s := U) (U := U.calling g mk a) rfl h.2.2.2.2⟩
theorem PC.blind {av : List Value} : FrameBlind (va_Pc av (PC dC dI z G)) := fun _ _ _ _ h => ⟨h.1, h.2.call⟩
theorem WC.preS {As : List Value} (h : WC dC dI z G s H locs) : PreS s H (va_Pc As (PC dC dI z G)) As := ⟨PC.blind, fun _ hU hW => ⟨rfl, h.P hU hW⟩⟩
theorem WC.to {G' : va_W} {H1 : Heap} {locs1 : List Loc} (h : WC dC dI z G s H locs) (h1 : va_P (dC, dI) vwCl G' H1) (h2 : va_D (zB z) G') (h3 : va_S (zB z) s.heap H1 locs1) : WC dC dI z G' s H1 locs1 := ⟨h1, h.2.1, h2, h3, h.2.2.2.2.1, h.2.2.2.2.2⟩
theorem WC.back {G' : va_W} {t : State} {H1 : Heap} {locs1 : List Loc} (h : WC dC dI z G s H locs) (ht : t.heap = H1) (hB : PC dC dI z G' t) (hS : va_S (zB z) s.heap H1 locs1) : WC dC dI z G' s H1 locs1 := ⟨by rw [← ht]; exact hB.1, h.2.1, hB.2.2.1, hS, h.2.2.2.2.1, h.2.2.2.2.2⟩
theorem WC.eqG {G' : va_W} (e : G = G') (h : WC dC dI z G s H locs) : WC dC dI z G' s H locs := e ▸ h
end KC
theorem cs_get {α : Type} {L M : List α} {j : Nat} : (L ++ M)[L.length + j]? = M[j]? := by
  rw [List.getElem?_append_right (Nat.le_add_right _ _), Nat.add_sub_cancel_left]
theorem cs_set {α : Type} {L M : List α} {j : Nat} {x : α} : (L ++ M).set (L.length + j) x = L ++ M.set j x := by
  induction L with
  | nil => rw [List.nil_append, List.nil_append]; exact congrArg (fun i => M.set i x) (Nat.zero_add j)
  | cons a L ih =>
    rw [List.cons_append, List.length_cons, show L.length + 1 + j = (L.length + j) + 1 by omega]
    exact congrArg (a :: ·) ih
theorem cs_k {α : Type} {G M : List α} {k : Nat} {x : α} (h : k < G.length) : (G.set k x ++ M)[k]? = some x := by
  rw [List.getElem?_append_left (by rw [List.length_set]; exact h), List.getElem?_set_self h]
theorem cs_kset {α : Type} {k : Nat} {x y : α} : ∀ {G M : List α}, k < G.length → (G.set k x ++ M).set k y = G.set k y ++ M := by
  intro G M h
  rw [List.set_append_left _ _ (by rw [List.length_set]; exact h), List.set_set]
section KC2
variable {p : Program} {l : Launch} {e : Env} {R : Room} {s : State} {m : MethodId} {args : Array Value} {below : List Frame} {meth : Method} {c : Code} {H : Heap} {locs : List Loc} {cells slots : Nat} {Q : State → Prop}
variable {cc : ByteArray} {pc : Nat} {ls : Array Slot} {rest st0 : List Value} {dC : Nat → ClassId} {dI : Nat → Nat → Nat} {z : Nat} {G : va_W} {index n : Nat} {own : String} {mc ms : Nat} {av : Array Value}
theorem kc_newI (hx : p.tables.exec = Jvm.exec) (hb : c.code = cc) (harr : (Cond.arrayClass .int).before args s = true) (hC : WC dC dI z G s H locs) (hn : n ≤ 65536) (hcells : cells + 1 ≤ R.cells) (hslots : slots + n ≤ R.slots) (hdg : decode cc pc = .ok (.newarray .int, 2))
    (kk : ∀ (q : Nat) (H1 : Heap), WC dC dI z (G ++ [(q, .inl (dC 20, n, .inl (fun _ => nI 0)))]) s H1 locs → W p l e R s m args below meth c H1 locs (cells + 1) (slots + n) Q (F0 m (pc + 2) ls (.ref q :: rest))) : W p l e R s m args below meth c H locs cells slots Q (F0 m pc ls (.int (nI n) :: rest)) := by
  refine va_newa (atype := .int) (ty := .int) (a0 := (n, .inl (fun _ => nI 0))) hx hb harr rfl hC.2.1 hC.1 hC.2.2.1 hC.2.2.2.1 (fun q hq => Nat.le_trans hC.2.2.2.2.1 hq) (fun cA => ?_) (nI_pos (by omega)) (nI_clamp (by omega)) (by show n * 4 ≤ 536870912; omega) hcells hslots hdg (fun q cA H1 hK1 h1 h2 h3 => ?_)
  · rfl
  · have e0 : cA = dC 20 := by
      have e1 := (hK1.2 0 (dC 20, .int) rfl).2
      have e2 := (hK1.2 5 (cA, .int) rfl).2
      exact Option.some.inj (e2.symm.trans e1)
    subst e0
    exact kk q H1 (hC.to h1 h2 h3)
theorem kc_newZ (hx : p.tables.exec = Jvm.exec) (hb : c.code = cc) (harr : (Cond.arrayClass .boolean).before args s = true) (hC : WC dC dI z G s H locs) (hn : n ≤ 65536) (hcells : cells + 1 ≤ R.cells) (hslots : slots + n ≤ R.slots) (hdg : decode cc pc = .ok (.newarray .boolean, 2))
    (kk : ∀ (q : Nat) (H1 : Heap), WC dC dI z (G ++ [(q, .inl (dC 21, n, .inl (fun _ => bI false)))]) s H1 locs → W p l e R s m args below meth c H1 locs (cells + 1) (slots + n) Q (F0 m (pc + 2) ls (.ref q :: rest))) : W p l e R s m args below meth c H locs cells slots Q (F0 m pc ls (.int (nI n) :: rest)) := by
  refine va_newa (atype := .boolean) (ty := .boolean) (a0 := (n, .inl (fun _ => bI false))) hx hb harr rfl hC.2.1 hC.1 hC.2.2.1 hC.2.2.2.1 (fun q hq => Nat.le_trans hC.2.2.2.2.1 hq) (fun cA => ?_) (nI_pos (by omega)) (nI_clamp (by omega)) (by show n * 1 ≤ 536870912; omega) hcells hslots hdg (fun q cA H1 hK1 h1 h2 h3 => ?_)
  · rfl
  · have e0 : cA = dC 21 := by
      have e1 := (hK1.2 1 (dC 21, .boolean) rfl).2
      have e2 := (hK1.2 5 (cA, .boolean) rfl).2
      exact Option.some.inj (e2.symm.trans e1)
    subst e0
    exact kk q H1 (hC.to h1 h2 h3)
theorem kc_newJ (hx : p.tables.exec = Jvm.exec) (hb : c.code = cc) (harr : (Cond.arrayClass .long).before args s = true) (hC : WC dC dI z G s H locs) (hn : n ≤ 65536) (hcells : cells + 1 ≤ R.cells) (hslots : slots + n ≤ R.slots) (hdg : decode cc pc = .ok (.newarray .long, 2))
    (kk : ∀ (q : Nat) (H1 : Heap), WC dC dI z (G ++ [(q, .inl (dC 22, n, .inr (.inl (fun _ => lN 0))))]) s H1 locs → W p l e R s m args below meth c H1 locs (cells + 1) (slots + n) Q (F0 m (pc + 2) ls (.ref q :: rest))) : W p l e R s m args below meth c H locs cells slots Q (F0 m pc ls (.int (nI n) :: rest)) := by
  refine va_newa (atype := .long) (ty := .long) (a0 := (n, .inr (.inl (fun _ => lN 0)))) hx hb harr rfl hC.2.1 hC.1 hC.2.2.1 hC.2.2.2.1 (fun q hq => Nat.le_trans hC.2.2.2.2.1 hq) (fun cA => ?_) (nI_pos (by omega)) (nI_clamp (by omega)) (by show n * 8 ≤ 536870912; omega) hcells hslots hdg (fun q cA H1 hK1 h1 h2 h3 => ?_)
  · rfl
  · have e0 : cA = dC 22 := by
      have e1 := (hK1.2 2 (dC 22, .long) rfl).2
      have e2 := (hK1.2 5 (cA, .long) rfl).2
      exact Option.some.inj (e2.symm.trans e1)
    subst e0
    exact kk q H1 (hC.to h1 h2 h3)
theorem kc_v {S1 : Type} {post : S1 → Prop} {Gf : S1 → va_W} (hr : va_Run p l e R s m args below meth c H locs cells slots mc ms (F0 m pc ls st0) rest (va_Qv post (fun u t => PC dC dI z (Gf u) t) (zB z) av) (zB z)) (hC : WC dC dI z G s H locs)
    (kk : ∀ (u : S1) (H1 : Heap) (locs1 : List Loc), post u → WC dC dI z (Gf u) s H1 locs1 → W p l e R s m args below meth c H1 locs1 (cells + mc) (slots + ms) Q (F0 m (pc + 3) ls rest)) : W p l e R s m args below meth c H locs cells slots Q (F0 m pc ls st0) :=
  va_callv hr hC.2.2.2.1 (fun _ _ h => h) (fun _ h => h) (fun u t H1 locs1 ht hvm hp hb1 _ _ hS => kk u H1 locs1 hp (hC.back ht hb1 hS))
end KC2

