/-! throwing: what a thrown end rests on, and how it goes on to the caller -/
def IX : String := "java/lang/IndexOutOfBoundsException"
def IA : String := "java/lang/IllegalArgumentException"
def xNames : List String := ["java/lang/RuntimeException", "java/lang/Exception"]
def xDecl : List MethodName := [Bundle.initS "java/lang/RuntimeException", Bundle.initS "java/lang/Exception", Bundle.initS Bundle.tN]
def xBad (cls : String) : List Cond := xDecl.map .declares ++ [.castable cls cls]
def xStr : List (Nat × String) := [(304, "no such row"), (307, "no such order"), (309, "no such place"), (311, "a number is out of its bounds"), (138, "from is above to")]
def ZS (U : State) : Prop := (∀ x ∈ xDecl, va_Nw (.declares x) U) ∧ (va_Nw (.castable IX IX) U ∧ va_Nw (.castable IA IA) U) ∧ ∀ q ∈ xStr, ∃ a, vk_R RX4 q.1 q.2 a U
def ZT (U : State) (H : Heap) : Prop := vx_Zq Bundle.tN "UNASSIGNED_STACK" Bundle.steD (fun _ => False) U H ∧ vx_Zq Bundle.tN "SUPPRESSED_SENTINEL" Bundle.listD (fun _ => False) U H
theorem ZS.warm {s U : State} (hW : s.WarmedH U.vm) (h : ZS s) : ZS U := ⟨fun x hx => va_Nw.warmD hW (h.1 x hx), ⟨va_Nw.warmC hW h.2.1.1, va_Nw.warmC hW h.2.1.2⟩, fun q hq => (h.2.2 q hq).elim (fun a ha => ⟨a, vk_R.warm hW ha⟩)⟩
theorem ZS.same {u U : State} (hv : U.vm = u.vm) (h : ZS u) : ZS U := ⟨fun x hx => va_Nw.same rfl hv.symm (h.1 x hx), ⟨va_Nw.same rfl hv.symm h.2.1.1, va_Nw.same rfl hv.symm h.2.1.2⟩, fun q hq => (h.2.2 q hq).elim (fun a ha => ⟨a, vk_R.same hv ha⟩)⟩
theorem ZT.moved {u U : State} {H : Heap} (hvm : u.vm.Alike U.vm) (h : ZT u H) : ZT U H := ⟨vx_Zq.moved hvm h.1, vx_Zq.moved hvm h.2⟩
theorem ZS.badX {s : State} {args : Array Value} (h : ZS s) : ∀ w ∈ xBad IX, w.before args s = true := by
  intro w hw
  rcases List.mem_append.mp hw with hw | hw
  · obtain ⟨x, hx, rfl⟩ := List.mem_map.mp hw
    exact va_Nw.use rfl (h.1 x hx)
  · rw [List.mem_singleton.mp hw]
    exact va_Nw.use rfl h.2.1.1
theorem ZS.badA {s : State} {args : Array Value} (h : ZS s) : ∀ w ∈ xBad IA, w.before args s = true := by
  intro w hw
  rcases List.mem_append.mp hw with hw | hw
  · obtain ⟨x, hx, rfl⟩ := List.mem_map.mp hw
    exact va_Nw.use rfl (h.1 x hx)
  · rw [List.mem_singleton.mp hw]
    exact va_Nw.use rfl h.2.1.2
theorem xBadX_ok : ∀ w ∈ (vx_atS RX4 306 IX xNames).filter (fun w => !goodWord w), w ∈ xBad IX := by decide +kernel
theorem xBadA_ok : ∀ w ∈ (vx_atS RX4 140 IA xNames).filter (fun w => !goodWord w), w ∈ xBad IA := by decide +kernel
theorem xGoodX : ∀ w ∈ Cond.classLink RX4 302 IX :: Cond.initialized IX :: vx_atS RX4 306 IX xNames, vx_ot w = true := by decide +kernel
theorem xGoodA : ∀ w ∈ Cond.classLink RX4 136 IA :: Cond.initialized IA :: vx_atS RX4 140 IA xNames, vx_ot w = true := by decide +kernel
theorem xFitX : Bundle.fit IX = true := by decide +kernel
theorem xFitA : Bundle.fit IA = true := by decide +kernel
theorem xFitN : ∀ n ∈ xNames, Bundle.fit n = true := by decide +kernel
/-- the world and what a throw rests on -/
def PXZ (dC : Nat → ClassId) (dI : Nat → Nat → Nat) (ad : Nat → Nat) (S : XS) (U : State) : Prop := PX dC dI ad S U ∧ ZS U ∧ ZT U U.heap
theorem PXZ.blind {dC : Nat → ClassId} {dI : Nat → Nat → Nat} {ad : Nat → Nat} {S : XS} {av : List Value} : FrameBlind (va_Pc av (PXZ dC dI ad S)) := fun a U g mk h => ⟨h.1, h.2.1.call, ZS.same (u := U) rfl h.2.2.1, ZT.moved (u := U) (U := U.calling g mk a) (Vm.Alike.refl U.vm) h.2.2.2⟩
theorem PXZ.at {dC : Nat → ClassId} {dI : Nat → Nat → Nat} {ad : Nat → Nat} {S : XS} {s : State} (h : PXZ dC dI ad S s) {U : State} (hU : U.heap = s.heap) (hW : s.WarmedH U.vm) : PXZ dC dI ad S U :=
  ⟨(WX.of h.1).P hU hW, ZS.warm hW h.2.1, by rw [hU]; exact ZT.moved hW.alike h.2.2⟩
theorem PXZ.preX {dC : Nat → ClassId} {dI : Nat → Nat → Nat} {ad : Nat → Nat} {S : XS} {s : State} (h : PXZ dC dI ad S s) {As : List Value} : PreV s s.heap RX4 (ad 57) (va_Pc (Value.ref (ad 57) :: As) (PXZ dC dI ad S)) As :=
  ⟨PXZ.blind, ((WX.of h.1).preTop 57 6 (by decide) (by decide) rfl rfl (As := As)).2.1, fun _ hU hW => ⟨rfl, h.at hU hW⟩⟩
theorem PXZ.preS {dC : Nat → ClassId} {dI : Nat → Nat → Nat} {ad : Nat → Nat} {S : XS} {s : State} (h : PXZ dC dI ad S s) {As : List Value} : PreS s s.heap (va_Pc As (PXZ dC dI ad S)) As :=
  ⟨PXZ.blind, fun _ hU hW => ⟨rfl, h.at hU hW⟩⟩
/-- a thrown end: nothing that was there has changed -/
def XQ (dC : Nat → ClassId) (dI : Nat → Nat → Nat) (ad : Nat → Nat) (S : XS) (cls : String) : String → State → State → Prop := fun E st t => E = cls ∧ PX dC dI ad S t ∧ va_F (fun _ => False) st t
theorem PX.kept {dC : Nat → ClassId} {dI : Nat → Nat → Nat} {ad : Nat → Nat} {S : XS} {s t : State} (h : PX dC dI ad S s) (hvm : s.vm.Alike t.vm) (hk : ∀ q : Nat, q < s.heap.size → t.heap[q]? = s.heap[q]?) : PX dC dI ad S t :=
  ⟨h.1.kept (fun k q hq => hk q.1 (h.1 k q hq).lt), va_K.moved hvm h.2.1, h.2.2⟩
section KXC
variable {p : Program} {l : Launch} {e : Env} {R : Room} {s : State} {m : MethodId} {args : Array Value} {below : List Frame} {meth : Method} {c : Code}
variable {cc : ByteArray} {pc : Nat} {ls : Array Slot} {rest st0 : List Value} {dC : Nat → ClassId} {dI : Nat → Nat → Nat} {ad : Nat → Nat} {S : XS} {Qc : Array Value → State → Outcome → State → Prop}
theorem kx_throw {own cls text : String} {names : List String} {ik is ic : Nat} (hx : p.tables.exec = Jvm.exec) (hb : c.code = cc) (hl : l.stackTraces = false) (hown : s.vm.findClass own = some m.cls) (hcls : Bundle.fit cls = true) (hnames : ∀ n ∈ names, Bundle.fit n = true)
    (hk : (Cond.classLink own ik cls).before args s = true) (hini : (Cond.initialized cls).before args s = true) (hstr : ∃ a, vk_R own is text a s) (hat : ∀ w ∈ vx_atS own ic cls names, w.before args s = true)
    (hgood : ∀ w ∈ Cond.classLink own ik cls :: Cond.initialized cls :: vx_atS own ic cls names, vx_ot w = true) (hZ : ZT s s.heap) (hX : PX dC dI ad S s) (hsize : ls.size = c.maxLocals)
    (d0 : decode cc pc = .ok (.new ik, 3)) (d3 : decode cc (pc + 3) = .ok (.dup, 1)) (d4 : decode cc (pc + 4) = .ok (.ldc_w is, 3)) (d7 : decode cc (pc + 7) = .ok (.invokespecial ic, 3)) (d10 : decode cc (pc + 10) = .ok (.athrow, 1))
    (hex : ∀ x ∈ c.exceptionTable.toList, False) (hRframes : names.length + 3 < R.frames) (hRlocals : (rest.map fun v => v.category).sum + (13 * (names.length + 1) + 43) ≤ R.locals) (hRcells : 0 + 1 ≤ R.cells) (hRslots : 0 + 6 ≤ R.slots) (hlocks : meth.locks = false) :
    W p l e R s m args below meth c s.heap [] 0 0 (vx_MQ below Qc (XQ dC dI ad S cls) args s 1 6 (fun _ => False)) (F0 m pc ls rest) := by
  obtain ⟨a, hstr⟩ := hstr
  exact vx_throwSW hx hb hl hown hcls hnames hk hini hstr hat hgood hZ.1 hZ.2 va_S.rf hsize d0 d3 d4 d7 d10 (fun x h => (hex x h).elim) hRframes hRlocals hRcells hRslots hlocks (fun t hvm hz hk => ⟨rfl, hX.kept hvm hk, hz, fun q h _ => hk q h⟩) (fun _ h => nomatch h) (Nat.le_refl _) (Nat.le_refl _)
theorem kx_throw1 {own cls text : String} {names : List String} {ik is ic : Nat} (hx : p.tables.exec = Jvm.exec) (hb : c.code = cc) (hl : l.stackTraces = false) (hown : s.vm.findClass own = some m.cls) (hcls : Bundle.fit cls = true) (hnames : ∀ n ∈ names, Bundle.fit n = true)
    (hk : (Cond.classLink own ik cls).before args s = true) (hini : (Cond.initialized cls).before args s = true) (hstr : ∃ a, vk_R own is text a s) (hat : ∀ w ∈ vx_atS own ic cls names, w.before args s = true)
    (hgood : ∀ w ∈ Cond.classLink own ik cls :: Cond.initialized cls :: vx_atS own ic cls names, vx_ot w = true) (hZ : ZT s s.heap) (hX : PX dC dI ad S s) (hsize : ls.size = c.maxLocals)
    (d0 : decode cc pc = .ok (.new ik, 3)) (d3 : decode cc (pc + 3) = .ok (.dup, 1)) (d4 : decode cc (pc + 4) = .ok (.ldc is, 2)) (d7 : decode cc (pc + 6) = .ok (.invokespecial ic, 3)) (d10 : decode cc (pc + 9) = .ok (.athrow, 1))
    (hex : ∀ x ∈ c.exceptionTable.toList, False) (hRframes : names.length + 3 < R.frames) (hRlocals : (rest.map fun v => v.category).sum + (13 * (names.length + 1) + 43) ≤ R.locals) (hRcells : 0 + 1 ≤ R.cells) (hRslots : 0 + 6 ≤ R.slots) (hlocks : meth.locks = false) :
    W p l e R s m args below meth c s.heap [] 0 0 (vx_MQ below Qc (XQ dC dI ad S cls) args s 1 6 (fun _ => False)) (F0 m pc ls rest) := by
  obtain ⟨a, hstr⟩ := hstr
  exact vx_throwS hx hb hl hown hcls hnames hk hini hstr hat hgood hZ.1 hZ.2 va_S.rf hsize d0 d3 d4 d7 d10 (fun x h => (hex x h).elim) hRframes hRlocals hRcells hRslots hlocks (fun t hvm hz hk => ⟨rfl, hX.kept hvm hk, hz, fun q h _ => hk q h⟩) (fun _ h => nomatch h) (Nat.le_refl _) (Nat.le_refl _)
/-- a callee's throw that goes on -/
theorem kx_pass {cls : String} (hr : vx_Run p l e R s m args below meth c s.heap [] 0 0 1 6 (F0 m pc ls st0) rest (fun _ _ _ => False) (XQ dC dI ad S cls) (fun _ => False)) (hX : PX dC dI ad S s) (hex : ∀ x ∈ c.exceptionTable.toList, False) (hlocks : meth.locks = false) :
    W p l e R s m args below meth c s.heap [] 0 0 (vx_MQ below Qc (XQ dC dI ad S cls) args s 1 6 (fun _ => False)) (F0 m pc ls st0) := by
  intro T hT X
  rcases hr T hT X with ⟨v, st₀, t, T', L, h0, X', hL, e1, e2, h, st⟩ | ⟨q, st₀, t, T', L, E, ce, h0, X', hL, e1, e2, ⟨hE, hP, hF⟩, hce, hcv, hcl, st⟩
  · exact h.elim
  · subst hE
    obtain ⟨hz, hk⟩ := hF
    rw [h0] at hz hk
    have hk' : ∀ q : Nat, q < s.heap.size → T'.heap[q]? = s.heap[q]? := fun q hq => by rw [e1]; exact hk q hq (fun z => z)
    have K : vx_W p l e R s m args below meth c T'.heap ([] ++ L) (0 + 1) (0 + 6) (vx_MQ below Qc (XQ dC dI ad S E) args s 1 6 (fun _ => False)) (F0 m pc ls rest) q :=
      vx_out (fun x h => (hex x h).elim) hlocks (by rw [e1]; exact hce) hcv hcl (fun t2 ht2 hvm => ⟨rfl, hX.kept hvm (fun q hq => by rw [ht2]; exact hk' q hq), by rw [ht2, e1]; exact hz, fun q hq _ => by rw [ht2]; exact hk' q hq⟩) (fun z hz => by
        rcases List.mem_append.mp hz with h | h
        · cases h
        · exact hL z h) (Nat.le_refl _) (Nat.le_refl _)
    obtain ⟨t2, a1, b1⟩ := K T' rfl X'
    exact ⟨t2, st.trans a1, b1⟩
end KXC
