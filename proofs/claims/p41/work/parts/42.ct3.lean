/-! the object itself -/
section KC3
variable {p : Program} {l : Launch} {e : Env} {R : Room} {s : State} {m : MethodId} {args : Array Value} {below : List Frame} {meth : Method} {c : Code} {H : Heap} {locs : List Loc} {cells slots : Nat} {Q : State → Prop}
variable {cc : ByteArray} {pc : Nat} {ls : Array Slot} {rest st0 : List Value} {dC : Nat → ClassId} {dI : Nat → Nat → Nat} {z : Nat} {G : va_W} {index n : Nat} {own : String}
theorem kc_newqR (hx : p.tables.exec = Jvm.exec) (hb : c.code = cc) (hown : s.vm.findClass own = some m.cls) (hcl : (Cond.classLink own index "Orderlattice$Row").before args s = true) (hA : va_AO "Orderlattice$Row" s) (hC : WC dC dI z G s H locs) (hn : n ≤ 65536) (hcells : cells + 1 ≤ R.cells) (hslots : slots + n ≤ R.slots) (hdg : decode cc pc = .ok (.anewarray index, 3))
    (kk : ∀ (q : Nat) (H1 : Heap), WC dC dI z (G ++ [(q, .inl (dC 23, n, .inr (.inr (.inr (.inr (fun _ => none))))))]) s H1 locs → W p l e R s m args below meth c H1 locs (cells + 1) (slots + n) Q (F0 m (pc + 3) ls (.ref q :: rest))) : W p l e R s m args below meth c H locs cells slots Q (F0 m pc ls (.int (nI n) :: rest)) := by
  refine va_newq hx hb hown hcl hA hC.2.1 hC.1 hC.2.2.1 hC.2.2.2.1 (fun q hq => Nat.le_trans hC.2.2.2.2.1 hq) (nI_pos (by omega)) (nI_clamp (by omega)) (by omega) hcells hslots hdg (fun q cA H1 hK1 h1 h2 h3 => ?_)
  have e0 : cA = dC 23 := by
    obtain ⟨_, _, _, _, _, e1⟩ := (hK1.2 3 (dC 23, .object "Orderlattice$Row") rfl).2
    obtain ⟨_, _, _, _, _, e2⟩ := (hK1.2 5 (cA, .object "Orderlattice$Row") rfl).2
    exact Option.some.inj (e2.symm.trans e1)
  subst e0
  exact kk q H1 (hC.to h1 h2 h3)
theorem kc_newqO (hx : p.tables.exec = Jvm.exec) (hb : c.code = cc) (hown : s.vm.findClass own = some m.cls) (hcl : (Cond.classLink own index "Orderlattice$Order").before args s = true) (hA : va_AO "Orderlattice$Order" s) (hC : WC dC dI z G s H locs) (hn : n ≤ 65536) (hcells : cells + 1 ≤ R.cells) (hslots : slots + n ≤ R.slots) (hdg : decode cc pc = .ok (.anewarray index, 3))
    (kk : ∀ (q : Nat) (H1 : Heap), WC dC dI z (G ++ [(q, .inl (dC 24, n, .inr (.inr (.inr (.inr (fun _ => none))))))]) s H1 locs → W p l e R s m args below meth c H1 locs (cells + 1) (slots + n) Q (F0 m (pc + 3) ls (.ref q :: rest))) : W p l e R s m args below meth c H locs cells slots Q (F0 m pc ls (.int (nI n) :: rest)) := by
  refine va_newq hx hb hown hcl hA hC.2.1 hC.1 hC.2.2.1 hC.2.2.2.1 (fun q hq => Nat.le_trans hC.2.2.2.2.1 hq) (nI_pos (by omega)) (nI_clamp (by omega)) (by omega) hcells hslots hdg (fun q cA H1 hK1 h1 h2 h3 => ?_)
  have e0 : cA = dC 24 := by
    obtain ⟨_, _, _, _, _, e1⟩ := (hK1.2 4 (dC 24, .object "Orderlattice$Order") rfl).2
    obtain ⟨_, _, _, _, _, e2⟩ := (hK1.2 5 (cA, .object "Orderlattice$Order") rfl).2
    exact Option.some.inj (e2.symm.trans e1)
  subst e0
  exact kk q H1 (hC.to h1 h2 h3)
end KC3

