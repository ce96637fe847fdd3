/-! texts: the class's world beside a builder's -/
def AZ (ad : Nat → Nat) (z q : Nat) : Prop := AX ad q ∨ zB z q
def TB (dC : Nat → ClassId) (dI : Nat → Nat → Nat) (cB : ClassId) (ad : Nat → Nat) (z : Nat) (G : va_W) (s : State) (H : Heap) : Prop := va_P (dC, dI) vwCl G H ∧ va_K (dC, dI) vwCl [(cB, .byte)] s ∧ va_D (zB z) G ∧ z ≤ s.heap.size ∧ ZBA (AZ ad z) s s.heap ∧ ∀ q, AX ad q → q < z
/-- the two links by which a row and an order reach the gap's maker -/
def NT (U : State) : Prop := va_Nw (.methodLinkNest RX2 65 yX4_appendGap "Orderlattice") U ∧ va_Nw (.methodLinkNest RX1 65 yX4_appendGap "Orderlattice") U
theorem NT.warm {s U : State} (hW : s.WarmedH U.vm) (h : NT s) : NT U := ⟨va_Nw.warmM hW h.1, va_Nw.warmM hW h.2⟩
theorem NT.same {s U : State} (hv : s.vm = U.vm) (h : NT s) : NT U := ⟨va_Nw.same rfl hv h.1, va_Nw.same rfl hv h.2⟩
/-- before a call that makes a text -/
def PT (dC : Nat → ClassId) (dI : Nat → Nat → Nat) (cB : ClassId) (ad : Nat → Nat) (S : XS) (U : State) : Prop := PX dC dI ad S U ∧ va_K (dC, dI) vwCl [(cB, .byte)] U ∧ ZBA (AZ ad U.heap.size) U U.heap ∧ NT U
section KT0
variable {dC : Nat → ClassId} {dI : Nat → Nat → Nat} {cB : ClassId} {ad : Nat → Nat} {z : Nat} {G : va_W} {S : XS} {s : State} {H : Heap} {locs : List Loc}
theorem PX.lt {U : State} (h : PX dC dI ad S U) : ∀ q, AX ad q → q < U.heap.size := by
  rintro q ⟨k, hk, rfl⟩
  exact (h.1 k _ (wX_get hk)).lt
theorem PT.call {U : State} {g : JFrame} {mk : MethodId} {a : Array Value} (h : PT dC dI cB ad S U) : PT dC dI cB ad S (U.calling g mk a) := ⟨h.1.call, va_K.moved (u := U) (U := U.calling g mk a) (Vm.Alike.refl U.vm) h.2.1, ZBA.same (s := U) (U := U.calling g mk a) rfl h.2.2.1, NT.same (s := U) (U := U.calling g mk a) rfl h.2.2.2⟩
theorem PT.blind {av : List Value} : FrameBlind (va_Pc av (PT dC dI cB ad S)) := fun _ _ _ _ h => ⟨h.1, h.2.call⟩
theorem WX.ofT (h : PT dC dI cB ad S s) : WX dC dI ad S (AZ ad s.heap.size) s s.heap [] := ⟨h.1.1, h.1.2.1, h.1.2.2.weaken (fun _ _ _ h => Or.inl h), va_S.rf⟩
theorem TB.of (h : PT dC dI cB ad S s) : TB dC dI cB ad s.heap.size [] s s.heap := ⟨fun k q hk => by simp at hk, h.2.1, ⟨fun i j p q hi => by simp at hi, fun k q hk => by simp at hk⟩, Nat.le_refl _, h.2.2.1, h.1.lt⟩
theorem TB.toPB {U : State} (h : TB dC dI cB ad z G s H) (hX : WX dC dI ad S (AZ ad z) s H locs) (hU : U.heap = H) (hW : s.WarmedH U.vm) : PB dC dI cB z G U := by
  refine ⟨by rw [hU]; exact h.1, va_K.moved hW.alike h.2.1, h.2.2.1, ?_, ?_⟩
  · rw [hU]; exact Nat.le_trans h.2.2.2.1 hX.2.2.2.1
  · rw [hU]; exact ((h.2.2.2.2.1.kept hX.2.2.2.2.1).warm hW).narrow (fun _ hq => Or.inr hq)
theorem TB.preV {a ci : Nat} {q : vw_C} {fs As : List Value} (h : TB dC dI cB ad z G s H) (hX : WX dC dI ad S (AZ ad z) s H locs) (hc : vwCl[ci]? = some q) (k : Nat) (he : G[k]? = some (a, .inr (ci, fs))) : PreV s H q.1 a (va_Pc (Value.ref a :: As) (PB dC dI cB z G)) As :=
  ⟨PB.blind, va_recv h.2.1 h.1 (ci := ci) (q0 := k) hc he, fun _ hU hW => ⟨rfl, h.toPB hX hU hW⟩⟩
theorem TB.preS {As : List Value} (h : TB dC dI cB ad z G s H) (hX : WX dC dI ad S (AZ ad z) s H locs) : PreS s H (va_Pc As (PB dC dI cB z G)) As := ⟨PB.blind, fun _ hU hW => ⟨rfl, h.toPB hX hU hW⟩⟩
theorem TB.toPT {U : State} (h : TB dC dI cB ad z G s H) (hX : WX dC dI ad S (AZ ad z) s H locs) (hN : NT s) (hU : U.heap = H) (hW : s.WarmedH U.vm) : PT dC dI cB ad S U := by
  have hP := hX.P hU hW
  refine ⟨hP, va_K.moved hW.alike h.2.1, ?_, hN.warm hW⟩
  rw [hU]
  refine ((h.2.2.2.2.1.kept hX.2.2.2.2.1).warm hW).narrow (fun q hq => ?_)
  rcases hq with hq | hq
  · exact Or.inl hq
  · exact Or.inr (Nat.le_trans (Nat.le_trans h.2.2.2.1 hX.2.2.2.1) hq)
theorem TB.preRow {i : Nat} {As : List Value} (h : TB dC dI cB ad z G s H) (hX : WX dC dI ad S (AZ ad z) s H locs) (hN : NT s) (hi : i < 8) : PreV s H RX2 (ad (3 * i)) (va_Pc (Value.ref (ad (3 * i)) :: As) (PT dC dI cB ad S)) As :=
  ⟨PT.blind, (hX.preRow hi (As := As)).2.1, fun _ hU hW => ⟨rfl, h.toPT hX hN hU hW⟩⟩
theorem TB.preOrd {i : Nat} {As : List Value} (h : TB dC dI cB ad z G s H) (hX : WX dC dI ad S (AZ ad z) s H locs) (hN : NT s) (hi : i < 6) : PreV s H RX1 (ad (24 + 5 * i)) (va_Pc (Value.ref (ad (24 + 5 * i)) :: As) (PT dC dI cB ad S)) As :=
  ⟨PT.blind, (hX.preOrd hi (As := As)).2.1, fun _ hU hW => ⟨rfl, h.toPT hX hN hU hW⟩⟩
theorem TB.kept {H1 : Heap} (h : TB dC dI cB ad z G s H) (hk : ∀ q, q < H.size → ¬ AX ad q → H1[q]? = H[q]?) : TB dC dI cB ad z G s H1 :=
  ⟨h.1.kept (fun k q hq => hk q.1 ((h.1 k q hq).lt) (fun z9 => by have h1 := h.2.2.2.2.2 _ z9; have h2 : z ≤ q.1 := h.2.2.1.2 k q hq; omega)), h.2⟩
theorem WX.keptZ {H1 : Heap} {locs1 : List Loc} (hX : WX dC dI ad S (AZ ad z) s H locs) (hz : ∀ q, AX ad q → q < z) (hk : ∀ q, q < H.size → ¬ zB z q → H1[q]? = H[q]?) (hS : va_S (AZ ad z) s.heap H1 locs1) : WX dC dI ad S (AZ ad z) s H1 locs1 :=
  ⟨hX.1.kept (fun k q hq => hk q.1 ((hX.1 k q hq).lt) (fun z9 => by obtain ⟨hk6, e⟩ := wX_in k q hq; have := hz q.1 ⟨k, hk6, e⟩; have h2 : z ≤ q.1 := z9; omega)), hX.2.1, hX.2.2.1, hS⟩
end KT0
section KT
variable {p : Program} {l : Launch} {e : Env} {R : Room} {s : State} {m : MethodId} {args : Array Value} {below : List Frame} {meth : Method} {c : Code} {H : Heap} {locs : List Loc} {cells slots : Nat} {Q : State → Prop}
variable {cc : ByteArray} {pc : Nat} {ls : Array Slot} {rest st0 : List Value} {dC : Nat → ClassId} {dI : Nat → Nat → Nat} {cB : ClassId} {ad : Nat → Nat} {z : Nat} {G : va_W} {S : XS} {Ts : List Cond} {index : Nat} {own : String} {mc ms : Nat} {av : Array Value}
theorem kt_v {S1 : Type} {post : S1 → Prop} {Gf : S1 → va_W} (hr : va_Run p l e R s m args below meth c H locs cells slots mc ms (F0 m pc ls st0) rest (va_Qv post (fun u t => PB dC dI cB z (Gf u) t) (zB z) av) (zB z)) (hX : WX dC dI ad S (AZ ad z) s H locs) (hT : TB dC dI cB ad z G s H)
    (kk : ∀ (u : S1) (H1 : Heap) (locs1 : List Loc), post u → WX dC dI ad S (AZ ad z) s H1 locs1 → TB dC dI cB ad z (Gf u) s H1 → W p l e R s m args below meth c H1 locs1 (cells + mc) (slots + ms) Q (F0 m (pc + 3) ls rest)) : W p l e R s m args below meth c H locs cells slots Q (F0 m pc ls st0) :=
  va_callv hr hX.2.2.2 (fun _ _ h => Or.inr h) (fun _ h => Or.inr h) (fun u t H1 locs1 ht hvm hp hb1 _ hk hS => kk u H1 locs1 hp (hX.keptZ hT.2.2.2.2.2 hk hS) ⟨by rw [← ht]; exact hb1.1, hT.2.1, hb1.2.2.1, hT.2.2.2⟩)
theorem kt_r {S1 : Type} {post : S1 → Prop} {Gf : S1 → Nat → va_W} {ra : S1 → Nat → Prop} (hr : va_Run p l e R s m args below meth c H locs cells slots mc ms (F0 m pc ls st0) rest (va_Qr post (fun u q t => ra u q ∧ PB dC dI cB z (Gf u q) t) (zB z) av) (zB z)) (hX : WX dC dI ad S (AZ ad z) s H locs) (hT : TB dC dI cB ad z G s H)
    (kk : ∀ (u : S1) (q : Nat) (H1 : Heap) (locs1 : List Loc), post u → ra u q → WX dC dI ad S (AZ ad z) s H1 locs1 → TB dC dI cB ad z (Gf u q) s H1 → W p l e R s m args below meth c H1 locs1 (cells + mc) (slots + ms) Q (F0 m (pc + 3) ls (.ref q :: rest))) : W p l e R s m args below meth c H locs cells slots Q (F0 m pc ls st0) :=
  va_callr hr hX.2.2.2 (fun _ _ h => Or.inr h) (fun _ h => Or.inr h) (fun u q t H1 locs1 ht hvm hp hb1 _ hk hS => kk u q H1 locs1 hp hb1.1 (hX.keptZ hT.2.2.2.2.2 hk hS) ⟨by rw [← ht]; exact hb1.2.1, hT.2.1, hb1.2.2.2.1, hT.2.2.2⟩)
theorem kt_x {post : XS → Prop} (hr : va_Run p l e R s m args below meth c H locs cells slots 0 0 (F0 m pc ls st0) rest (va_Qv post (PX dC dI ad) (AX ad) av) (AX ad)) (hX : WX dC dI ad S (AZ ad z) s H locs) (hT : TB dC dI cB ad z G s H)
    (kk : ∀ (S1 : XS) (H1 : Heap) (locs1 : List Loc), post S1 → WX dC dI ad S1 (AZ ad z) s H1 locs1 → TB dC dI cB ad z G s H1 → W p l e R s m args below meth c H1 locs1 cells slots Q (F0 m (pc + 3) ls rest)) : W p l e R s m args below meth c H locs cells slots Q (F0 m pc ls st0) :=
  va_callv hr hX.2.2.2 (fun _ _ h => Or.inl h) (fun _ h => Or.inl h) (fun u t H1 locs1 ht hvm hp hB _ hk hS => kk u H1 locs1 hp (kx_back hX (fun _ h => Or.inl h) ht hvm hB hS) (hT.kept hk))
/-- a call that makes a text: the class's world as it was -/
theorem kt_t {post : XS → Prop} (hr : va_Run p l e R s m args below meth c H locs cells slots mc ms (F0 m pc ls st0) rest (va_Qr post (fun S1 _ t => PX dC dI ad S1 t) (AX ad) av) (AX ad)) (hX : WX dC dI ad S (AZ ad z) s H locs) (hT : TB dC dI cB ad z G s H)
    (kk : ∀ (S1 : XS) (q : Nat) (H1 : Heap) (locs1 : List Loc), post S1 → WX dC dI ad S1 (AZ ad z) s H1 locs1 → TB dC dI cB ad z G s H1 → W p l e R s m args below meth c H1 locs1 (cells + mc) (slots + ms) Q (F0 m (pc + 3) ls (.ref q :: rest))) : W p l e R s m args below meth c H locs cells slots Q (F0 m pc ls st0) :=
  va_callr hr hX.2.2.2 (fun _ _ h => Or.inl h) (fun _ h => Or.inl h) (fun u q t H1 locs1 ht hvm hp hB _ hk hS => kk u q H1 locs1 hp (kx_back hX (fun _ h => Or.inl h) ht hvm hB hS) (hT.kept hk))
theorem kt_new (hx : p.tables.exec = Jvm.exec) (hb : c.code = cc) (hts : ∀ w ∈ Ts, w.before args s = true) (hin : ∀ w ∈ u_ws RJ4 TJ4 4, w ∈ Ts) (hown : s.vm.findClass own = some m.cls) (hcl : (Cond.classLink own index RJ4).before args s = true) (hinst : (Cond.instantiable RJ4 4).before args s = true) (hini : (Cond.initialized RJ4).before args s = true) (hX : WX dC dI ad S (AZ ad z) s H locs) (hT : TB dC dI cB ad z [] s H) (hcells : cells + 1 ≤ R.cells) (hslots : slots + 4 ≤ R.slots) (hdg : decode cc pc = .ok (.new index, 3))
    (kk : ∀ (q : Nat) (H1 : Heap), WX dC dI ad S (AZ ad z) s H1 locs → TB dC dI cB ad z [(q, .inr (1, [.null, .int (nI 0), .int (nI 0), .int (nI 0)]))] s H1 → W p l e R s m args below meth c H1 locs (cells + 1) (slots + 4) Q (F0 m (pc + 3) ls (.ref q :: rest))) : W p l e R s m args below meth c H locs cells slots Q (F0 m pc ls rest) := by
  refine va_new (D := (dC, dI)) (ci := 1) (C := RJ4) (T := TJ4) (N := 4) (fs := [.null, .int (nI 0), .int (nI 0), .int (nI 0)]) hx hb hts hin tyJ4 tyJ4_ok hown hcl hinst hini hX.2.1 hX.1 hX.2.2.1 hX.2.2.2 (fun q hq => Or.inr (Nat.le_trans hT.2.2.2.1 hq)) rfl (fun j hj => by rcases (show j = 0 ∨ j = 1 ∨ j = 2 ∨ j = 3 by omega) with rfl | rfl | rfl | rfl <;> rfl) hcells hslots hdg (fun q H1 h1 h2 h3 => ?_)
  have hlen : (wX dC ad S).length = 60 := by rw [wX, List.length_map, List.length_range]
  have h60 : (wX dC ad S ++ [(q, (.inr (1, [.null, .int (nI 0), .int (nI 0), .int (nI 0)]) : va_E))])[60]? = some (q, .inr (1, [.null, .int (nI 0), .int (nI 0), .int (nI 0)])) := by rw [← hlen]; exact app_new
  have hq : zB z q := by
    rcases h2.2 60 _ h60 with ⟨k, hk, e⟩ | h
    · have hk' := app_old (x := (q, (.inr (1, [.null, .int (nI 0), .int (nI 0), .int (nI 0)]) : va_E))) (wX_get (dC := dC) (ad := ad) (S := S) hk)
      have := h2.1 60 k _ _ h60 hk' e
      omega
    · exact h
  refine kk q H1 ⟨fun k x hk => h1 k x (app_old hk), hX.2.1, hX.2.2.1, h3⟩ ⟨fun k x hk => ?_, hT.2.1, ⟨fun i j x y hi hj _ => ?_, fun k x hk => ?_⟩, hT.2.2.2⟩
  · have hz : k < 1 := (List.getElem?_eq_some_iff.mp hk).1
    obtain rfl : k = 0 := by omega
    cases hk
    exact h1 60 _ h60
  · have h1 : i < 1 := (List.getElem?_eq_some_iff.mp hi).1
    have h2 : j < 1 := (List.getElem?_eq_some_iff.mp hj).1
    omega
  · have hz : k < 1 := (List.getElem?_eq_some_iff.mp hk).1
    obtain rfl : k = 0 := by omega
    cases hk
    exact hq
theorem W.filt {g : JFrame} (kk : ∀ locs1 : List Loc, (∀ q ∈ locs1, q ∈ locs ∧ q.base < s.heap.size) → W p l e R s m args below meth c H locs1 cells slots Q g) : W p l e R s m args below meth c H locs cells slots Q g := by
  intro T hT X
  refine kk (locs.filter (fun q => q.base < s.heap.size)) (fun q hq => ?_) T hT ⟨X.admits, X.cas, X.clock, X.frames, X.room, X.hears, X.method, X.code, X.here, X.tail, X.warmed, X.limits, X.bytes, ?_⟩
  · have h := List.mem_filter.mp hq
    exact ⟨h.1, of_decide_eq_true h.2⟩
  · exact State.sameButNew.weaken X.same (fun x hx hl => List.mem_filter.mpr ⟨hx, decide_eq_true hl⟩) (Nat.le_refl _) (Nat.le_refl _)
end KT
theorem free_X {ad : Nat → Nat} {s : State} {H : Heap} {locs locs1 : List Loc} (hS : va_S (AZ ad s.heap.size) s.heap H locs) (h : ∀ q ∈ locs1, q ∈ locs ∧ q.base < s.heap.size) : ∀ q ∈ locs1, AX ad q.base := fun q hq => by
  obtain ⟨h1, h2⟩ := h q hq
  rcases hS.2.2 q h1 with h3 | h3
  · exact h3
  · exact absurd h2 (Nat.not_lt.mpr h3)
theorem va_F.X {ad : Nat → Nat} {s t : State} (h : va_F (AZ ad s.heap.size) s t) : va_F (AX ad) s t := ⟨h.1, fun q hq hA => h.2 q hq (fun z => z.elim hA (fun z2 => by have h3 : s.heap.size ≤ q := z2; omega))⟩
/-! growing: how much, and what it costs -/
theorem cap_b {q cp Q : Nat} (hq : q ≤ Q) (hc : cp ≤ 2 * Q) : sb_cap q cp ≤ 2 * Q := by
  unfold sb_cap
  split
  · exact hc
  · split <;> omega
theorem gm_pot (q cp : Nat) : gm q cp + 2 * cp ≤ 2 * sb_cap q cp := by
  unfold gm sb_cap
  split
  · omega
  · split <;> omega
section KTA
variable {p : Program} {l : Launch} {e : Env} {R : Room} {s : State} {m : MethodId} {args : Array Value} {below : List Frame} {meth : Method} {c : Code} {H : Heap} {locs : List Loc} {cells sl : Nat} {Q : State → Prop}
variable {pc : Nat} {ls : Array Slot} {rest st0 : List Value} {dC : Nat → ClassId} {dI : Nat → Nat → Nat} {cB : ClassId} {ad : Nat → Nat} {z : Nat} {S : XS} {av : Array Value} {a b n cp n2 : Nat} {f : Nat → Int32}
/-- an append, and what it costs -/
theorem kt_app (N : Nat) (hr : va_Run p l e R s m args below meth c H locs cells (sl + 2 * cp) 1 (gm n2 cp) (F0 m pc ls st0) rest (va_Qr (fun u : Nat × (Nat → Int32) => sb_Fit u.2) (fun u q9 t => q9 = a ∧ PB dC dI cB z [(a, eSB u.1 n2), (u.1, eBy cB (sb_cap n2 cp) u.2)] t) (zB z) av) (zB z)) (hX : WX dC dI ad S (AZ ad z) s H locs) (hT : TB dC dI cB ad z [(a, eSB b n), (b, eBy cB cp f)] s H) (hq : n2 ≤ N) (hc : cp ≤ 2 * N)
    (kk : ∀ (b2 c2 : Nat) (f2 : Nat → Int32) (H1 : Heap) (locs1 : List Loc), WX dC dI ad S (AZ ad z) s H1 locs1 → TB dC dI cB ad z [(a, eSB b2 n2), (b2, eBy cB c2 f2)] s H1 → sb_Fit f2 → n2 ≤ c2 → cp ≤ c2 → c2 ≤ 2 * N → W p l e R s m args below meth c H1 locs1 (cells + 1) (sl + 2 * c2) Q (F0 m (pc + 3) ls (.ref a :: rest))) : W p l e R s m args below meth c H locs cells (sl + 2 * cp) Q (F0 m pc ls st0) := by
  refine kt_r hr hX hT (fun u q9 H1 locs1 hu hq9 hX1 hT1 => ?_)
  rw [hq9]
  refine W.widen (Nat.le_refl _) (show sl + 2 * cp + gm n2 cp ≤ sl + 2 * sb_cap n2 cp by have := gm_pot n2 cp; omega) ?_
  exact kk u.1 (sb_cap n2 cp) u.2 H1 locs1 hX1 hT1 hu (sb_cap_ge _ _) (sb_cap_gem _ _) (cap_b hq hc)
def GapQ (n cp : Nat) (u : Nat × Nat × Nat × (Nat → Int32)) : Prop := u.2.1 ≤ n + 1 ∧ u.2.1 ≤ u.2.2.1 ∧ cp ≤ u.2.2.1 ∧ gm (n + 1) cp + 2 * cp ≤ 2 * u.2.2.1 ∧ (u.2.2.1 = cp ∨ u.2.2.1 = sb_cap (n + 1) cp) ∧ sb_Fit u.2.2.2
theorem kt_gap (N : Nat) (hr : va_Run p l e R s m args below meth c H locs cells (sl + 2 * cp) 1 (gm (n + 1) cp) (F0 m pc ls st0) rest (va_Qv (GapQ n cp) (fun u t => PB dC dI cB z [(a, eSB u.1 u.2.1), (u.1, eBy cB u.2.2.1 u.2.2.2)] t) (zB z) av) (zB z)) (hX : WX dC dI ad S (AZ ad z) s H locs) (hT : TB dC dI cB ad z [(a, eSB b n), (b, eBy cB cp f)] s H) (hq : n + 1 ≤ N) (hc : cp ≤ 2 * N)
    (kk : ∀ (b2 n2 c2 : Nat) (f2 : Nat → Int32) (H1 : Heap) (locs1 : List Loc), WX dC dI ad S (AZ ad z) s H1 locs1 → TB dC dI cB ad z [(a, eSB b2 n2), (b2, eBy cB c2 f2)] s H1 → sb_Fit f2 → n2 ≤ n + 1 → n2 ≤ c2 → cp ≤ c2 → c2 ≤ 2 * N → W p l e R s m args below meth c H1 locs1 (cells + 1) (sl + 2 * c2) Q (F0 m (pc + 3) ls rest)) : W p l e R s m args below meth c H locs cells (sl + 2 * cp) Q (F0 m pc ls st0) := by
  refine kt_v hr hX hT (fun u H1 locs1 hu hX1 hT1 => ?_)
  obtain ⟨h1, h2, h3, h4, h5, h6⟩ := hu
  refine W.widen (Nat.le_refl _) (show sl + 2 * cp + gm (n + 1) cp ≤ sl + 2 * u.2.2.1 by omega) ?_
  refine kk u.1 u.2.1 u.2.2.1 u.2.2.2 H1 locs1 hX1 hT1 h6 h1 h2 h3 ?_
  rcases h5 with h5 | h5
  · rw [h5]; exact hc
  · rw [h5]; exact cap_b hq hc
end KTA
theorem dg2 {v : Nat} (h : v < 100) : sb_dg v ≤ 2 := by unfold sb_dg; (repeat' split) <;> omega
theorem dg6 {v : Nat} (h : v < 1000000) : sb_dg v ≤ 6 := by unfold sb_dg; (repeat' split) <;> omega
theorem gap_0 {b n cp : Nat} {f : Nat → Int32} (h0 : n = 0) (hnm : n ≤ cp) (h1 : 1 ≤ cp) (hf : sb_Fit f) : GapQ n cp (b, n, cp, f) :=
  ⟨by show n ≤ n + 1; omega, hnm, Nat.le_refl _, by show gm (n + 1) cp + 2 * cp ≤ 2 * cp; rw [gm, if_pos (by omega)]; omega, Or.inl rfl, hf⟩
theorem gap_1 {b n cp : Nat} {f : Nat → Int32} (hf : sb_Fit f) : GapQ n cp (b, n + 1, sb_cap (n + 1) cp, f) :=
  ⟨Nat.le_refl _, sb_cap_ge _ _, sb_cap_gem _ _, gm_pot _ _, Or.inr rfl, hf⟩
set_option maxHeartbeats 4000000 in
set_option maxRecDepth 100000 in
theorem m_X4_appendGap (l : Launch) (dC : Nat → ClassId) (dI : Nat → Nat → Nat) (cB : ClassId) (z : Nat) (a b n cp : Nat) (f : Nat → Int32) (hnm : n ≤ cp) (hm : cp ≤ 65536) (hf : sb_Fit f) (h1 : 1 ≤ cp) (hcap : sb_cap (n + 1) cp ≤ 65536) : Met l yX4_appendGap wsX4_appendGap ({ frames := 6, cells := 1, slots := (gm (n + 1) cp), locals := 126 } : Room) (va_Pc [.ref a] (PB dC dI cB z [(a, eSB b n), (b, eBy cB cp f)])) (va_Qv (GapQ n cp) (fun u t => PB dC dI cB z [(a, eSB u.1 u.2.1), (u.1, eBy cB u.2.2.1 u.2.2.2)] t) (zB z)) 1 (gm (n + 1) cp) (zB z) := by
  refine ofWF (cc := cX4_appendGap) (maxL := 1) (ret := none) (by decide +kernel) rfl ?_
  intro p e s m args below meth c s₁ B hml hv
  obtain ⟨rfl, hPB⟩ := hv
  have hx := B.exec
  have hb := B.bytes
  have hr := B.returns
  have hts := atoms_spec (ws := wsX4_appendGap) B.pre
  have hown : s.vm.findClass RX4 = some m.cls := findClass_of_methodNamed B.named
  have hlocks := B.notSynchronized
  have hB := WB.of hPB
  have hl := lv_entry ([.ref a]) (n := 1) (Nat.le_of_ble_eq_true rfl)
  rw [lg_entry_eq]
  generalize (lg_sl ([.ref a]) ++ List.replicate (1 - (lg_sl ([.ref a])).length) Slot.unset).toArray = ls at hl ⊢
  have hl : lv_has ls 1 [(0, .ref a)] := hl
  show W p l e ({ frames := 6, cells := 1, slots := (gm (n + 1) cp), locals := 126 } : Room) s m ([.ref a]).toArray below meth c s.heap [] 0 0 (MQ below (va_Qv (GapQ n cp) (fun u t => PB dC dI cB z [(a, eSB u.1 u.2.1), (u.1, eBy cB u.2.2.1 u.2.2.2)] t) (zB z)) ([.ref a]).toArray s 1 (gm (n + 1) cp) (zB z)) (F0 m 0 ls [])
  refine lv_aload_n hx hb dX4_appendGap_0 rfl (lv_at hl 0 rfl) ?_
  refine kx_cr (v := nI n) (va_runV (As := []) (rest := []) ⟨hx, hb, hml, hown, hts⟩ (m_J4_length_8abf5 l dC dI cB z ([(a, eSB b n), (b, eBy cB cp f)]) a b n rfl) (cwV 0 hts gX4_appendGap_J4_length_8abf5 rfl rfl rfl hdJ4_length_8abf5_0 ⟨Nat.le_of_ble_eq_true rfl, Nat.le_of_ble_eq_true rfl⟩) (hB.preV (ci := 1) (q := (RJ4, TJ4, 4)) rfl 0 rfl) rfl rfl hl.1 rfl (lv_room (Nat.le_of_ble_eq_true rfl)) dX4_appendGap_1 ⟨Nat.le_of_ble_eq_true rfl, Nat.le_of_ble_eq_true rfl⟩) (fun _ h => h) ?_
  refine kn_if_le (tgt := 14) hx hb (by omega) dX4_appendGap_4 (by decide) (fun k_1 => ?_) (fun k_1 => ?_)
  · skip
    have h0 := k_1
    exact W.widen (k := 1) (n := (gm (n + 1) cp)) (by simp) (by simp) (W.vret hx hb hr (fun t9 ht9 hW9 => ⟨⟨(b, n, cp, f), rfl, (gap_0 h0 hnm h1 hf), hB.P ht9 hW9⟩, hB.F ht9⟩) hB.L dX4_appendGap_14)
  · skip
    have h0 := k_1
    refine lv_aload_n hx hb dX4_appendGap_7 rfl (lv_at hl 0 rfl) ?_
    refine lv_bipush (v := nI 32) hx hb dX4_appendGap_8 (by decide) ?_
    refine kb_r (va_runV (As := [.int (nI 32)]) (rest := []) ⟨hx, hb, hml, hown, hts⟩ (m_J4_append_cf468 l dC dI cB z a b n cp f (by omega) (by omega) hf 32 (by omega) hcap) (cwV 1 hts gX4_appendGap_J4_append_cf468 rfl rfl rfl hdJ4_append_cf468_1 ⟨Nat.le_of_ble_eq_true rfl, Nat.le_of_ble_eq_true rfl⟩) (hB.preV (ci := 1) (q := (RJ4, TJ4, 4)) rfl 0 rfl) rfl rfl hl.1 rfl (lv_room (Nat.le_of_ble_eq_true rfl)) dX4_appendGap_10 ⟨by simp, by simp⟩) hB (fun u q9 H locs hu hq hB => ?_)
    obtain ⟨b3, f3⟩ := u
    rw [hq]
    replace hB : WB dC dI cB z [(a, eSB b3 (n + 1)), (b3, eBy cB (sb_cap (n + 1) cp) f3)] s H locs := hB
    have hf : sb_Fit f3 := hu
    refine lv_pop hx hb dX4_appendGap_13 rfl ?_
    exact W.widen (k := 1) (n := (gm (n + 1) cp)) (by simp) (by simp) (W.vret hx hb hr (fun t9 ht9 hW9 => ⟨⟨(b3, n + 1, sb_cap (n + 1) cp, f3), rfl, (gap_1 hf), hB.P ht9 hW9⟩, hB.F ht9⟩) hB.L dX4_appendGap_14)
