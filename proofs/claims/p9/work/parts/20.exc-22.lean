section
/-! throwing: what a thrown end rests on, and how it goes on to the caller -/
def IX : String := "java/lang/IndexOutOfBoundsException"
def IA : String := "java/lang/IllegalArgumentException"
def xNames : List String := ["java/lang/RuntimeException", "java/lang/Exception"]
def xDecl : List MethodName := [Bundle.initS "java/lang/RuntimeException", Bundle.initS "java/lang/Exception", Bundle.initS Bundle.tN]
def xBad (cls : String) : List Cond := xDecl.map .declares ++ [.castable cls cls]
def xStr : List (Nat × String) := [(304, "no such row"), (307, "no such order"), (309, "no such place"), (311, "a number is out of its bounds"), (138, "from is above to")]
def ZS (U : State) : Prop := (∀ x ∈ xDecl, va_Nw (.declares x) U) ∧ (va_Nw (.castable IX IX) U ∧ va_Nw (.castable IA IA) U) ∧ ∀ q ∈ xStr, ∃ a, vk_R RX4 q.1 q.2 a U
def ZT (U : State) (H : Heap) : Prop := vx_Zq Bundle.tN "UNASSIGNED_STACK" Bundle.steD (fun _ => False) U H ∧ vx_Zq Bundle.tN "SUPPRESSED_SENTINEL" Bundle.listD (fun _ => False) U H
theorem ZS.warm {s U : State} (hW : s.WarmedH U.vm) (h : ZS s) : ZS U := ⟨fun x hx => va_Nw.warmD hW (h.1 x hx), ⟨va_Nw.warmC hW h.2.1.1, va_Nw.warmC hW h.2.1.2⟩, fun q hq => (h.2.2 q hq).elim (fun a ha => ⟨a, vk_R.warm hW ha⟩)⟩
theorem ZS.same {u U : State} (hv : U.vm = u.vm) (h : ZS u) : ZS U := ⟨fun x hx => va_Nw.same rfl hv.symm (h.1 x hx), ⟨va_Nw.same rfl hv.symm h.2.1.1, va_Nw.same rfl hv.symm h.2.1.2⟩, fun q hq => (h.2.2 q hq).elim (fun a ha => ⟨a, vk_R.same hv ha⟩)⟩
theorem ZT.moved {u U : State} {H : Heap} (hvm : u.vm.Alike U.vm) (h : ZT u H) : ZT U H := ⟨vx_Zq.moved hvm h.1, vx_Zq.moved hvm h.2⟩
theorem ZS.badX {s : State} {args : Array Value} (h : ZS s) : ∀ w ∈ xBad IX, w.before args s = true := by
  intro w hw
  rcases List.mem_append.mp hw with hw | hw
  · obtain ⟨x, hx, rfl⟩ := List.mem_map.mp hw
    exact va_Nw.use rfl (h.1 x hx)
  · rw [List.mem_singleton.mp hw]
    exact va_Nw.use rfl h.2.1.1
theorem ZS.badA {s : State} {args : Array Value} (h : ZS s) : ∀ w ∈ xBad IA, w.before args s = true := by
  intro w hw
  rcases List.mem_append.mp hw with hw | hw
  · obtain ⟨x, hx, rfl⟩ := List.mem_map.mp hw
    exact va_Nw.use rfl (h.1 x hx)
  · rw [List.mem_singleton.mp hw]
    exact va_Nw.use rfl h.2.1.2
theorem xBadX_ok : ∀ w ∈ (vx_atS RX4 306 IX xNames).filter (fun w => !goodWord w), w ∈ xBad IX := by decide +kernel
theorem xBadA_ok : ∀ w ∈ (vx_atS RX4 140 IA xNames).filter (fun w => !goodWord w), w ∈ xBad IA := by decide +kernel
theorem xGoodX : ∀ w ∈ Cond.classLink RX4 302 IX :: Cond.initialized IX :: vx_atS RX4 306 IX xNames, vx_ot w = true := by decide +kernel
theorem xGoodA : ∀ w ∈ Cond.classLink RX4 136 IA :: Cond.initialized IA :: vx_atS RX4 140 IA xNames, vx_ot w = true := by decide +kernel
theorem xFitX : Bundle.fit IX = true := by decide +kernel
theorem xFitA : Bundle.fit IA = true := by decide +kernel
theorem xFitN : ∀ n ∈ xNames, Bundle.fit n = true := by decide +kernel
/-- the world and what a throw rests on -/
def PXZ (dC : Nat → ClassId) (dI : Nat → Nat → Nat) (ad : Nat → Nat) (S : XS) (U : State) : Prop := PX dC dI ad S U ∧ ZS U ∧ ZT U U.heap
theorem PXZ.blind {dC : Nat → ClassId} {dI : Nat → Nat → Nat} {ad : Nat → Nat} {S : XS} {av : List Value} : FrameBlind (va_Pc av (PXZ dC dI ad S)) := fun a U g mk h => ⟨h.1, h.2.1.call, ZS.same (u := U) rfl h.2.2.1, ZT.moved (u := U) (U := U.calling g mk a) (Vm.Alike.refl U.vm) h.2.2.2⟩
theorem PXZ.at {dC : Nat → ClassId} {dI : Nat → Nat → Nat} {ad : Nat → Nat} {S : XS} {s : State} (h : PXZ dC dI ad S s) {U : State} (hU : U.heap = s.heap) (hW : s.WarmedH U.vm) : PXZ dC dI ad S U :=
  ⟨(WX.of h.1).P hU hW, ZS.warm hW h.2.1, by rw [hU]; exact ZT.moved hW.alike h.2.2⟩
theorem PXZ.preX {dC : Nat → ClassId} {dI : Nat → Nat → Nat} {ad : Nat → Nat} {S : XS} {s : State} (h : PXZ dC dI ad S s) {As : List Value} : PreV s s.heap RX4 (ad 57) (va_Pc (Value.ref (ad 57) :: As) (PXZ dC dI ad S)) As :=
  ⟨PXZ.blind, ((WX.of h.1).preTop 57 6 (by decide) (by decide) rfl rfl (As := As)).2.1, fun _ hU hW => ⟨rfl, h.at hU hW⟩⟩
theorem PXZ.preS {dC : Nat → ClassId} {dI : Nat → Nat → Nat} {ad : Nat → Nat} {S : XS} {s : State} (h : PXZ dC dI ad S s) {As : List Value} : PreS s s.heap (va_Pc As (PXZ dC dI ad S)) As :=
  ⟨PXZ.blind, fun _ hU hW => ⟨rfl, h.at hU hW⟩⟩
/-- a thrown end: nothing that was there has changed -/
def XQ (dC : Nat → ClassId) (dI : Nat → Nat → Nat) (ad : Nat → Nat) (S : XS) (cls : String) : String → State → State → Prop := fun E st t => E = cls ∧ PX dC dI ad S t ∧ va_F (fun _ => False) st t
theorem PX.kept {dC : Nat → ClassId} {dI : Nat → Nat → Nat} {ad : Nat → Nat} {S : XS} {s t : State} (h : PX dC dI ad S s) (hvm : s.vm.Alike t.vm) (hk : ∀ q : Nat, q < s.heap.size → t.heap[q]? = s.heap[q]?) : PX dC dI ad S t :=
  ⟨h.1.kept (fun k q hq => hk q.1 (h.1 k q hq).lt), va_K.moved hvm h.2.1, h.2.2⟩
section KXC
variable {p : Program} {l : Launch} {e : Env} {R : Room} {s : State} {m : MethodId} {args : Array Value} {below : List Frame} {meth : Method} {c : Code}
variable {cc : ByteArray} {pc : Nat} {ls : Array Slot} {rest st0 : List Value} {dC : Nat → ClassId} {dI : Nat → Nat → Nat} {ad : Nat → Nat} {S : XS} {Qc : Array Value → State → Outcome → State → Prop}
theorem kx_throw {own cls text : String} {names : List String} {ik is ic : Nat} (hx : p.tables.exec = Jvm.exec) (hb : c.code = cc) (hl : l.stackTraces = false) (hown : s.vm.findClass own = some m.cls) (hcls : Bundle.fit cls = true) (hnames : ∀ n ∈ names, Bundle.fit n = true)
    (hk : (Cond.classLink own ik cls).before args s = true) (hini : (Cond.initialized cls).before args s = true) (hstr : ∃ a, vk_R own is text a s) (hat : ∀ w ∈ vx_atS own ic cls names, w.before args s = true)
    (hgood : ∀ w ∈ Cond.classLink own ik cls :: Cond.initialized cls :: vx_atS own ic cls names, vx_ot w = true) (hZ : ZT s s.heap) (hX : PX dC dI ad S s) (hsize : ls.size = c.maxLocals)
    (d0 : decode cc pc = .ok (.new ik, 3)) (d3 : decode cc (pc + 3) = .ok (.dup, 1)) (d4 : decode cc (pc + 4) = .ok (.ldc_w is, 3)) (d7 : decode cc (pc + 7) = .ok (.invokespecial ic, 3)) (d10 : decode cc (pc + 10) = .ok (.athrow, 1))
    (hex : ∀ x ∈ c.exceptionTable.toList, False) (hRframes : names.length + 3 < R.frames) (hRlocals : (rest.map fun v => v.category).sum + (13 * (names.length + 1) + 43) ≤ R.locals) (hRcells : 0 + 1 ≤ R.cells) (hRslots : 0 + 6 ≤ R.slots) (hlocks : meth.locks = false) :
    W p l e R s m args below meth c s.heap [] 0 0 (vx_MQ below Qc (XQ dC dI ad S cls) args s 1 6 (fun _ => False)) (F0 m pc ls rest) := by
  obtain ⟨a, hstr⟩ := hstr
  exact vx_throwSW hx hb hl hown hcls hnames hk hini hstr hat hgood hZ.1 hZ.2 va_S.rf hsize d0 d3 d4 d7 d10 (fun x h => (hex x h).elim) hRframes hRlocals hRcells hRslots hlocks (fun t hvm hz hk => ⟨rfl, hX.kept hvm hk, hz, fun q h _ => hk q h⟩) (fun _ h => nomatch h) (Nat.le_refl _) (Nat.le_refl _)
theorem kx_throw1 {own cls text : String} {names : List String} {ik is ic : Nat} (hx : p.tables.exec = Jvm.exec) (hb : c.code = cc) (hl : l.stackTraces = false) (hown : s.vm.findClass own = some m.cls) (hcls : Bundle.fit cls = true) (hnames : ∀ n ∈ names, Bundle.fit n = true)
    (hk : (Cond.classLink own ik cls).before args s = true) (hini : (Cond.initialized cls).before args s = true) (hstr : ∃ a, vk_R own is text a s) (hat : ∀ w ∈ vx_atS own ic cls names, w.before args s = true)
    (hgood : ∀ w ∈ Cond.classLink own ik cls :: Cond.initialized cls :: vx_atS own ic cls names, vx_ot w = true) (hZ : ZT s s.heap) (hX : PX dC dI ad S s) (hsize : ls.size = c.maxLocals)
    (d0 : decode cc pc = .ok (.new ik, 3)) (d3 : decode cc (pc + 3) = .ok (.dup, 1)) (d4 : decode cc (pc + 4) = .ok (.ldc is, 2)) (d7 : decode cc (pc + 6) = .ok (.invokespecial ic, 3)) (d10 : decode cc (pc + 9) = .ok (.athrow, 1))
    (hex : ∀ x ∈ c.exceptionTable.toList, False) (hRframes : names.length + 3 < R.frames) (hRlocals : (rest.map fun v => v.category).sum + (13 * (names.length + 1) + 43) ≤ R.locals) (hRcells : 0 + 1 ≤ R.cells) (hRslots : 0 + 6 ≤ R.slots) (hlocks : meth.locks = false) :
    W p l e R s m args below meth c s.heap [] 0 0 (vx_MQ below Qc (XQ dC dI ad S cls) args s 1 6 (fun _ => False)) (F0 m pc ls rest) := by
  obtain ⟨a, hstr⟩ := hstr
  exact vx_throwS hx hb hl hown hcls hnames hk hini hstr hat hgood hZ.1 hZ.2 va_S.rf hsize d0 d3 d4 d7 d10 (fun x h => (hex x h).elim) hRframes hRlocals hRcells hRslots hlocks (fun t hvm hz hk => ⟨rfl, hX.kept hvm hk, hz, fun q h _ => hk q h⟩) (fun _ h => nomatch h) (Nat.le_refl _) (Nat.le_refl _)
/-- a callee's throw that goes on -/
theorem kx_pass {cls : String} (hr : vx_Run p l e R s m args below meth c s.heap [] 0 0 1 6 (F0 m pc ls st0) rest (fun _ _ _ => False) (XQ dC dI ad S cls) (fun _ => False)) (hX : PX dC dI ad S s) (hex : ∀ x ∈ c.exceptionTable.toList, False) (hlocks : meth.locks = false) :
    W p l e R s m args below meth c s.heap [] 0 0 (vx_MQ below Qc (XQ dC dI ad S cls) args s 1 6 (fun _ => False)) (F0 m pc ls st0) := by
  intro T hT X
  rcases hr T hT X with ⟨v, st₀, t, T', L, h0, X', hL, e1, e2, h, st⟩ | ⟨q, st₀, t, T', L, E, ce, h0, X', hL, e1, e2, ⟨hE, hP, hF⟩, hce, hcv, hcl, st⟩
  · exact h.elim
  · subst hE
    obtain ⟨hz, hk⟩ := hF
    rw [h0] at hz hk
    have hk' : ∀ q : Nat, q < s.heap.size → T'.heap[q]? = s.heap[q]? := fun q hq => by rw [e1]; exact hk q hq (fun z => z)
    have K : vx_W p l e R s m args below meth c T'.heap ([] ++ L) (0 + 1) (0 + 6) (vx_MQ below Qc (XQ dC dI ad S E) args s 1 6 (fun _ => False)) (F0 m pc ls rest) q :=
      vx_out (fun x h => (hex x h).elim) hlocks (by rw [e1]; exact hce) hcv hcl (fun t2 ht2 hvm => ⟨rfl, hX.kept hvm (fun q hq => by rw [ht2]; exact hk' q hq), by rw [ht2, e1]; exact hz, fun q hq _ => by rw [ht2]; exact hk' q hq⟩) (fun z hz => by
        rcases List.mem_append.mp hz with h | h
        · cases h
        · exact hL z h) (Nat.le_refl _) (Nat.le_refl _)
    obtain ⟨t2, a1, b1⟩ := K T' rfl X'
    exact ⟨t2, st.trans a1, b1⟩
end KXC
end
section
theorem ix_no {x9 : Int32} {n : Int32} (h : x9 < 0 ∨ n ≤ x9) (h1 : ¬ x9 < 0) : ¬ x9 < n := fun h2 => h.elim h1 (fun h3 => by
  rw [Int32.lt_iff_toInt_lt] at h2
  rw [Int32.le_iff_toInt_le] at h3
  omega)
theorem ix_no2 {x9 : Int32} {n : Int32} (h : x9 < 0 ∨ n < x9) (h1 : ¬ x9 < 0) : ¬ x9 ≤ n := fun h2 => h.elim h1 (fun h3 => by
  rw [Int32.le_iff_toInt_le] at h2
  rw [Int32.lt_iff_toInt_lt] at h3
  omega)
set_option maxHeartbeats 4000000 in
set_option maxRecDepth 100000 in
theorem m_X4_rowAt (l : Launch) (dC : Nat → ClassId) (dI : Nat → Nat → Nat) (ad : Nat → Nat) (S : XS) (i : Nat) (hi : i < 3) : Met l yX4_rowAt wsX4_rowAt ({ frames := 0, cells := 0, slots := 0, locals := 0 } : Room) (va_Pc [.ref (ad 57), .int (nI i)] (PX dC dI ad S)) (va_Sr (fun k => k = i) (fun k => .ref (ad (3 * k)))) 0 0 (fun _ => False) := by
  refine Met.ofW (cc := cX4_rowAt) (maxL := 3) (ret := (some (.object "Orderlattice$Row"))) pl_X4 rfl ?_
  intro p e s m args below meth c s₁ B hml hv
  obtain ⟨rfl, hPX⟩ := hv
  have hx := B.exec
  have hb := B.bytes
  have hr := B.returns
  have hts := atoms_spec (ws := wsX4_rowAt) B.pre
  have hown : s.vm.findClass RX4 = some m.cls := findClass_of_methodNamed B.named
  have hlocks := B.notSynchronized
  have hin4 : ∀ w ∈ u_ws RX4 TX4 9, w ∈ wsX4_rowAt := tu 1328 (by decide +kernel) rfl
  have hX := WX.of hPX
  have hl := lv_entry ([.ref (ad 57), .int (nI i)]) (n := 3) (Nat.le_of_ble_eq_true rfl)
  rw [lg_entry_eq]
  generalize (lg_sl ([.ref (ad 57), .int (nI i)]) ++ List.replicate (3 - (lg_sl ([.ref (ad 57), .int (nI i)])).length) Slot.unset).toArray = ls at hl ⊢
  have hl : lv_has ls 3 [(0, .ref (ad 57)), (1, .int (nI i))] := hl
  show W p l e ({ frames := 0, cells := 0, slots := 0, locals := 0 } : Room) s m ([.ref (ad 57), .int (nI i)]).toArray below meth c s.heap [] 0 0 (MQ below (va_Sr (fun k => k = i) (fun k => .ref (ad (3 * k)))) ([.ref (ad 57), .int (nI i)]).toArray s 0 0 (fun _ => False)) (F0 m 0 ls [])
  refine lv_iload_n hx hb dX4_rowAt_0 rfl (lv_at hl 1 rfl) ?_
  refine kn_if_lt (tgt := 13) hx hb (by omega) dX4_rowAt_1 (by decide) ?_
  refine lv_iload_n hx hb dX4_rowAt_4 rfl (lv_at hl 1 rfl) ?_
  refine lv_aload_n hx hb dX4_rowAt_5 rfl (lv_at hl 0 rfl) ?_
  refine kx_grows hx hb hts hin4 hown hX (hts (.fieldLink RX4 11 "Orderlattice" "rows" "[LOrderlattice$Row;") (tm 445 (by decide +kernel) rfl)) dX4_rowAt_6 ?_
  refine kx_nrows hx hb hX  dX4_rowAt_9 ?_
  refine kn_icmp_lt (tgt := 17) hx hb (by omega) (by omega) dX4_rowAt_10 (by decide) (fun k_2 => ?_) (fun k_2 => absurd k_2 (by omega))
  refine lv_aload_n hx hb dX4_rowAt_17 rfl (lv_at hl 0 rfl) ?_
  refine kx_grows hx hb hts hin4 hown hX (hts (.fieldLink RX4 11 "Orderlattice" "rows" "[LOrderlattice$Row;") (tm 445 (by decide +kernel) rfl)) dX4_rowAt_18 ?_
  refine lv_iload_n hx hb dX4_rowAt_21 rfl (lv_at hl 1 rfl) ?_
  refine kx_lrow hx hb hX (by omega) dX4_rowAt_22 ?_
  refine lv_astore_n (lv' := [(2, .ref (ad (3 * i))), (0, .ref (ad 57)), (1, .int (nI i))]) hx hb dX4_rowAt_23 rfl hl (by decide) rfl (fun ls hl => ?_)
  refine lv_aload_n hx hb dX4_rowAt_24 rfl (lv_at hl 0 rfl) ?_
  refine lv_ifnonnull (tgt := 39) hx hb dX4_rowAt_25 (by decide) ?_
  refine lv_aload_n hx hb dX4_rowAt_39 rfl (lv_at hl 0 rfl) ?_
  exact W.aret (v := .ref (ad (3 * i))) hx hb hr (Or.inl ⟨_, rfl⟩) (Or.inr ⟨_, rfl⟩) (fun t9 ht9 hW9 => ⟨_, rfl, rfl, ht9⟩) (fun _ h => nomatch h) dX4_rowAt_40
set_option maxHeartbeats 4000000 in
set_option maxRecDepth 100000 in
theorem m_X4_orderAt (l : Launch) (dC : Nat → ClassId) (dI : Nat → Nat → Nat) (ad : Nat → Nat) (S : XS) (i : Nat) (hi : i < 4) : Met l yX4_orderAt wsX4_orderAt ({ frames := 0, cells := 0, slots := 0, locals := 0 } : Room) (va_Pc [.ref (ad 57), .int (nI i)] (PX dC dI ad S)) (va_Sr (fun k => k = i) (fun k => .ref (ad (24 + 5 * k)))) 0 0 (fun _ => False) := by
  refine Met.ofW (cc := cX4_orderAt) (maxL := 3) (ret := (some (.object "Orderlattice$Order"))) pl_X4 rfl ?_
  intro p e s m args below meth c s₁ B hml hv
  obtain ⟨rfl, hPX⟩ := hv
  have hx := B.exec
  have hb := B.bytes
  have hr := B.returns
  have hts := atoms_spec (ws := wsX4_orderAt) B.pre
  have hown : s.vm.findClass RX4 = some m.cls := findClass_of_methodNamed B.named
  have hlocks := B.notSynchronized
  have hin4 : ∀ w ∈ u_ws RX4 TX4 9, w ∈ wsX4_orderAt := tu 1328 (by decide +kernel) rfl
  have hX := WX.of hPX
  have hl := lv_entry ([.ref (ad 57), .int (nI i)]) (n := 3) (Nat.le_of_ble_eq_true rfl)
  rw [lg_entry_eq]
  generalize (lg_sl ([.ref (ad 57), .int (nI i)]) ++ List.replicate (3 - (lg_sl ([.ref (ad 57), .int (nI i)])).length) Slot.unset).toArray = ls at hl ⊢
  have hl : lv_has ls 3 [(0, .ref (ad 57)), (1, .int (nI i))] := hl
  show W p l e ({ frames := 0, cells := 0, slots := 0, locals := 0 } : Room) s m ([.ref (ad 57), .int (nI i)]).toArray below meth c s.heap [] 0 0 (MQ below (va_Sr (fun k => k = i) (fun k => .ref (ad (24 + 5 * k)))) ([.ref (ad 57), .int (nI i)]).toArray s 0 0 (fun _ => False)) (F0 m 0 ls [])
  refine lv_iload_n hx hb dX4_orderAt_0 rfl (lv_at hl 1 rfl) ?_
  refine kn_if_lt (tgt := 13) hx hb (by omega) dX4_orderAt_1 (by decide) ?_
  refine lv_iload_n hx hb dX4_orderAt_4 rfl (lv_at hl 1 rfl) ?_
  refine lv_aload_n hx hb dX4_orderAt_5 rfl (lv_at hl 0 rfl) ?_
  refine kx_gorders hx hb hts hin4 hown hX (hts (.fieldLink RX4 17 "Orderlattice" "orders" "[LOrderlattice$Order;") (tm 447 (by decide +kernel) rfl)) dX4_orderAt_6 ?_
  refine kx_norders hx hb hX  dX4_orderAt_9 ?_
  refine kn_icmp_lt (tgt := 17) hx hb (by omega) (by omega) dX4_orderAt_10 (by decide) (fun k_2 => ?_) (fun k_2 => absurd k_2 (by omega))
  refine lv_aload_n hx hb dX4_orderAt_17 rfl (lv_at hl 0 rfl) ?_
  refine kx_gorders hx hb hts hin4 hown hX (hts (.fieldLink RX4 17 "Orderlattice" "orders" "[LOrderlattice$Order;") (tm 447 (by decide +kernel) rfl)) dX4_orderAt_18 ?_
  refine lv_iload_n hx hb dX4_orderAt_21 rfl (lv_at hl 1 rfl) ?_
  refine kx_lord hx hb hX (by omega) dX4_orderAt_22 ?_
  refine lv_astore_n (lv' := [(2, .ref (ad (24 + 5 * i))), (0, .ref (ad 57)), (1, .int (nI i))]) hx hb dX4_orderAt_23 rfl hl (by decide) rfl (fun ls hl => ?_)
  refine lv_aload_n hx hb dX4_orderAt_24 rfl (lv_at hl 0 rfl) ?_
  refine lv_ifnonnull (tgt := 39) hx hb dX4_orderAt_25 (by decide) ?_
  refine lv_aload_n hx hb dX4_orderAt_39 rfl (lv_at hl 0 rfl) ?_
  exact W.aret (v := .ref (ad (24 + 5 * i))) hx hb hr (Or.inl ⟨_, rfl⟩) (Or.inr ⟨_, rfl⟩) (fun t9 ht9 hW9 => ⟨_, rfl, rfl, ht9⟩) (fun _ h => nomatch h) dX4_orderAt_40
set_option maxHeartbeats 4000000 in
set_option maxRecDepth 100000 in
theorem t_X4_rowAt (l : Launch) (hst : l.stackTraces = false) (dC : Nat → ClassId) (dI : Nat → Nat → Nat) (ad : Nat → Nat) (S : XS) (x9 : Int32) (hb9 : x9 < 0 ∨ nI 3 ≤ x9) : vx_Met l yX4_rowAt wsX4_rowAt ({ frames := 6, cells := 1, slots := 6, locals := 82 } : Room) (va_Pc [.ref (ad 57), .int x9] (PXZ dC dI ad S)) (fun _ _ _ _ => False) (XQ dC dI ad S IX) 1 6 (fun _ => False) := by
  refine vx_ofW (cc := cX4_rowAt) (maxL := 3) (ret := (some (.object "Orderlattice$Row"))) (by decide) rfl ?_
  intro p e s m args below meth c s₁ B hml hex hv
  obtain ⟨rfl, hPZ⟩ := hv
  have hPX := hPZ.1
  have hx := B.exec
  have hb := B.bytes
  have hr := B.returns
  have hts := atoms_spec (ws := wsX4_rowAt) B.pre
  have hown : s.vm.findClass RX4 = some m.cls := findClass_of_methodNamed B.named
  have hlocks := B.notSynchronized
  have hin4 : ∀ w ∈ u_ws RX4 TX4 9, w ∈ wsX4_rowAt := tu 1328 (by decide +kernel) rfl
  have hat_in : ∀ w ∈ (vx_atS RX4 306 IX xNames).filter goodWord, w ∈ wsX4_rowAt := by decide +kernel
  have hX := WX.of hPX
  have hl := lv_entry ([.ref (ad 57), .int x9]) (n := 3) (Nat.le_of_ble_eq_true rfl)
  rw [lg_entry_eq]
  generalize (lg_sl ([.ref (ad 57), .int x9]) ++ List.replicate (3 - (lg_sl ([.ref (ad 57), .int x9])).length) Slot.unset).toArray = ls at hl ⊢
  have hl : lv_has ls 3 [(0, .ref (ad 57)), (1, .int x9)] := hl
  show W p l e ({ frames := 6, cells := 1, slots := 6, locals := 82 } : Room) s m ([.ref (ad 57), .int x9]).toArray below meth c s.heap [] 0 0 (vx_MQ below (fun _ _ _ _ => False) (XQ dC dI ad S IX) ([.ref (ad 57), .int x9]).toArray s 1 6 (fun _ => False)) (F0 m 0 ls [])
  refine lv_iload_n hx hb dX4_rowAt_0 rfl (lv_at hl 1 rfl) ?_
  refine lv_if_lt (tgt := 13) hx hb dX4_rowAt_1 (by decide) (fun k_1 => ?_) (fun k_1 => ?_)
  · skip
    refine lv_null hx hb dX4_rowAt_13 ?_
    refine lv_goto (tgt := 23) hx hb dX4_rowAt_14 (by decide) ?_
    refine lv_astore_nN (lv' := [(2, .null), (0, .ref (ad 57)), (1, .int x9)]) hx hb dX4_rowAt_23 rfl hl (by decide) rfl (fun ls hl => ?_)
    refine lv_aload_nN hx hb dX4_rowAt_24 rfl (lv_at hl 0 rfl) ?_
    refine lv_ifnonnullN hx hb dX4_rowAt_25 ?_
    exact kx_throw hx hb hst hown xFitX xFitN (hts (.classLink RX4 302 IX) (tm 477 (by decide +kernel) rfl)) (hts (.initialized IX) (tm 478 (by decide +kernel) rfl)) (hPZ.2.1.2.2 (304, "no such row") (by decide)) (vx_hat (fun w hw => hts w (hat_in w hw)) xBadX_ok hPZ.2.1.badX) xGoodX hPZ.2.2 hPX (by rw [hml]; exact hl.1) dX4_rowAt_28 dX4_rowAt_31 dX4_rowAt_32 dX4_rowAt_35 dX4_rowAt_38 hex (by decide) (by decide) (by decide) (by decide) hlocks
  · skip
    refine lv_iload_n hx hb dX4_rowAt_4 rfl (lv_at hl 1 rfl) ?_
    refine lv_aload_n hx hb dX4_rowAt_5 rfl (lv_at hl 0 rfl) ?_
    refine kx_grows hx hb hts hin4 hown hX (hts (.fieldLink RX4 11 "Orderlattice" "rows" "[LOrderlattice$Row;") (tm 445 (by decide +kernel) rfl)) dX4_rowAt_6 ?_
    refine kx_nrows hx hb hX  dX4_rowAt_9 ?_
    refine lv_icmp_lt (tgt := 17) hx hb dX4_rowAt_10 (by decide) (fun k_2 => absurd k_2 (ix_no hb9 k_1)) (fun k_2 => ?_)
    refine lv_null hx hb dX4_rowAt_13 ?_
    refine lv_goto (tgt := 23) hx hb dX4_rowAt_14 (by decide) ?_
    refine lv_astore_nN (lv' := [(2, .null), (0, .ref (ad 57)), (1, .int x9)]) hx hb dX4_rowAt_23 rfl hl (by decide) rfl (fun ls hl => ?_)
    refine lv_aload_nN hx hb dX4_rowAt_24 rfl (lv_at hl 0 rfl) ?_
    refine lv_ifnonnullN hx hb dX4_rowAt_25 ?_
    exact kx_throw hx hb hst hown xFitX xFitN (hts (.classLink RX4 302 IX) (tm 477 (by decide +kernel) rfl)) (hts (.initialized IX) (tm 478 (by decide +kernel) rfl)) (hPZ.2.1.2.2 (304, "no such row") (by decide)) (vx_hat (fun w hw => hts w (hat_in w hw)) xBadX_ok hPZ.2.1.badX) xGoodX hPZ.2.2 hPX (by rw [hml]; exact hl.1) dX4_rowAt_28 dX4_rowAt_31 dX4_rowAt_32 dX4_rowAt_35 dX4_rowAt_38 hex (by decide) (by decide) (by decide) (by decide) hlocks
set_option maxHeartbeats 4000000 in
set_option maxRecDepth 100000 in
theorem t_X4_orderAt (l : Launch) (hst : l.stackTraces = false) (dC : Nat → ClassId) (dI : Nat → Nat → Nat) (ad : Nat → Nat) (S : XS) (x9 : Int32) (hb9 : x9 < 0 ∨ nI 4 ≤ x9) : vx_Met l yX4_orderAt wsX4_orderAt ({ frames := 6, cells := 1, slots := 6, locals := 82 } : Room) (va_Pc [.ref (ad 57), .int x9] (PXZ dC dI ad S)) (fun _ _ _ _ => False) (XQ dC dI ad S IX) 1 6 (fun _ => False) := by
  refine vx_ofW (cc := cX4_orderAt) (maxL := 3) (ret := (some (.object "Orderlattice$Order"))) (by decide) rfl ?_
  intro p e s m args below meth c s₁ B hml hex hv
  obtain ⟨rfl, hPZ⟩ := hv
  have hPX := hPZ.1
  have hx := B.exec
  have hb := B.bytes
  have hr := B.returns
  have hts := atoms_spec (ws := wsX4_orderAt) B.pre
  have hown : s.vm.findClass RX4 = some m.cls := findClass_of_methodNamed B.named
  have hlocks := B.notSynchronized
  have hin4 : ∀ w ∈ u_ws RX4 TX4 9, w ∈ wsX4_orderAt := tu 1328 (by decide +kernel) rfl
  have hat_in : ∀ w ∈ (vx_atS RX4 306 IX xNames).filter goodWord, w ∈ wsX4_orderAt := by decide +kernel
  have hX := WX.of hPX
  have hl := lv_entry ([.ref (ad 57), .int x9]) (n := 3) (Nat.le_of_ble_eq_true rfl)
  rw [lg_entry_eq]
  generalize (lg_sl ([.ref (ad 57), .int x9]) ++ List.replicate (3 - (lg_sl ([.ref (ad 57), .int x9])).length) Slot.unset).toArray = ls at hl ⊢
  have hl : lv_has ls 3 [(0, .ref (ad 57)), (1, .int x9)] := hl
  show W p l e ({ frames := 6, cells := 1, slots := 6, locals := 82 } : Room) s m ([.ref (ad 57), .int x9]).toArray below meth c s.heap [] 0 0 (vx_MQ below (fun _ _ _ _ => False) (XQ dC dI ad S IX) ([.ref (ad 57), .int x9]).toArray s 1 6 (fun _ => False)) (F0 m 0 ls [])
  refine lv_iload_n hx hb dX4_orderAt_0 rfl (lv_at hl 1 rfl) ?_
  refine lv_if_lt (tgt := 13) hx hb dX4_orderAt_1 (by decide) (fun k_1 => ?_) (fun k_1 => ?_)
  · skip
    refine lv_null hx hb dX4_orderAt_13 ?_
    refine lv_goto (tgt := 23) hx hb dX4_orderAt_14 (by decide) ?_
    refine lv_astore_nN (lv' := [(2, .null), (0, .ref (ad 57)), (1, .int x9)]) hx hb dX4_orderAt_23 rfl hl (by decide) rfl (fun ls hl => ?_)
    refine lv_aload_nN hx hb dX4_orderAt_24 rfl (lv_at hl 0 rfl) ?_
    refine lv_ifnonnullN hx hb dX4_orderAt_25 ?_
    exact kx_throw hx hb hst hown xFitX xFitN (hts (.classLink RX4 302 IX) (tm 477 (by decide +kernel) rfl)) (hts (.initialized IX) (tm 478 (by decide +kernel) rfl)) (hPZ.2.1.2.2 (307, "no such order") (by decide)) (vx_hat (fun w hw => hts w (hat_in w hw)) xBadX_ok hPZ.2.1.badX) xGoodX hPZ.2.2 hPX (by rw [hml]; exact hl.1) dX4_orderAt_28 dX4_orderAt_31 dX4_orderAt_32 dX4_orderAt_35 dX4_orderAt_38 hex (by decide) (by decide) (by decide) (by decide) hlocks
  · skip
    refine lv_iload_n hx hb dX4_orderAt_4 rfl (lv_at hl 1 rfl) ?_
    refine lv_aload_n hx hb dX4_orderAt_5 rfl (lv_at hl 0 rfl) ?_
    refine kx_gorders hx hb hts hin4 hown hX (hts (.fieldLink RX4 17 "Orderlattice" "orders" "[LOrderlattice$Order;") (tm 447 (by decide +kernel) rfl)) dX4_orderAt_6 ?_
    refine kx_norders hx hb hX  dX4_orderAt_9 ?_
    refine lv_icmp_lt (tgt := 17) hx hb dX4_orderAt_10 (by decide) (fun k_2 => absurd k_2 (ix_no hb9 k_1)) (fun k_2 => ?_)
    refine lv_null hx hb dX4_orderAt_13 ?_
    refine lv_goto (tgt := 23) hx hb dX4_orderAt_14 (by decide) ?_
    refine lv_astore_nN (lv' := [(2, .null), (0, .ref (ad 57)), (1, .int x9)]) hx hb dX4_orderAt_23 rfl hl (by decide) rfl (fun ls hl => ?_)
    refine lv_aload_nN hx hb dX4_orderAt_24 rfl (lv_at hl 0 rfl) ?_
    refine lv_ifnonnullN hx hb dX4_orderAt_25 ?_
    exact kx_throw hx hb hst hown xFitX xFitN (hts (.classLink RX4 302 IX) (tm 477 (by decide +kernel) rfl)) (hts (.initialized IX) (tm 478 (by decide +kernel) rfl)) (hPZ.2.1.2.2 (307, "no such order") (by decide)) (vx_hat (fun w hw => hts w (hat_in w hw)) xBadX_ok hPZ.2.1.badX) xGoodX hPZ.2.2 hPX (by rw [hml]; exact hl.1) dX4_orderAt_28 dX4_orderAt_31 dX4_orderAt_32 dX4_orderAt_35 dX4_orderAt_38 hex (by decide) (by decide) (by decide) (by decide) hlocks
set_option maxHeartbeats 4000000 in
set_option maxRecDepth 100000 in
theorem m_X4_demandPlace (l : Launch) (dC : Nat → ClassId) (dI : Nat → Nat → Nat) (ad : Nat → Nat) (S : XS) (i q : Nat) (hi : i < 8) (hn : (S.1 i).2.2 ≤ 16) (hq : q < (S.1 i).2.2) : Met l yX4_demandPlace wsX4_demandPlace ({ frames := 1, cells := 0, slots := 0, locals := 20 } : Room) (va_Pc [.ref (ad (3 * i)), .int (nI q)] (PX dC dI ad S)) (va_Sv (fun _ => True)) 0 0 (fun _ => False) := by
  refine Met.ofW (cc := cX4_demandPlace) (maxL := 2) (ret := none) pl_X4 rfl ?_
  intro p e s m args below meth c s₁ B hml hv
  obtain ⟨rfl, hPX⟩ := hv
  have hx := B.exec
  have hb := B.bytes
  have hr := B.returns
  have hts := atoms_spec (ws := wsX4_demandPlace) B.pre
  have hown : s.vm.findClass RX4 = some m.cls := findClass_of_methodNamed B.named
  have hlocks := B.notSynchronized
  have hX := WX.of hPX
  have hl := lv_entry ([.ref (ad (3 * i)), .int (nI q)]) (n := 2) (Nat.le_of_ble_eq_true rfl)
  rw [lg_entry_eq]
  generalize (lg_sl ([.ref (ad (3 * i)), .int (nI q)]) ++ List.replicate (2 - (lg_sl ([.ref (ad (3 * i)), .int (nI q)])).length) Slot.unset).toArray = ls at hl ⊢
  have hl : lv_has ls 2 [(0, .ref (ad (3 * i))), (1, .int (nI q))] := hl
  show W p l e ({ frames := 1, cells := 0, slots := 0, locals := 20 } : Room) s m ([.ref (ad (3 * i)), .int (nI q)]).toArray below meth c s.heap [] 0 0 (MQ below (va_Sv (fun _ => True)) ([.ref (ad (3 * i)), .int (nI q)]).toArray s 0 0 (fun _ => False)) (F0 m 0 ls [])
  refine lv_iload_n hx hb dX4_demandPlace_0 rfl (lv_at hl 1 rfl) ?_
  refine kn_if_lt (tgt := 12) hx hb (by omega) dX4_demandPlace_1 (by decide) ?_
  refine lv_iload_n hx hb dX4_demandPlace_4 rfl (lv_at hl 1 rfl) ?_
  refine lv_aload_n hx hb dX4_demandPlace_5 rfl (lv_at hl 0 rfl) ?_
  refine kx_cr (v := nI ((S.1 i).2.2)) (va_runV (As := []) (rest := [.int (nI q)]) ⟨hx, hb, hml, hown, hts⟩ (m_X2_length l dC dI ad S i (by omega)) (cwV 0 hts gX4_demandPlace_X2_length rfl rfl rfl hdX2_length_0 ⟨Nat.le_of_ble_eq_true rfl, Nat.le_of_ble_eq_true rfl⟩) (hX.preRow (by omega)) rfl rfl hl.1 rfl (lv_room (Nat.le_of_ble_eq_true rfl)) dX4_demandPlace_6 ⟨Nat.le_of_ble_eq_true rfl, Nat.le_of_ble_eq_true rfl⟩) (fun _ h => h) ?_
  refine kn_icmp_lt (tgt := 23) hx hb (by omega) (by omega) dX4_demandPlace_9 (by decide) (fun k_2 => ?_) (fun k_2 => absurd k_2 (by omega))
  exact W.vret hx hb hr (fun t9 ht9 hW9 => ⟨rfl, trivial, ht9⟩) (fun _ h => nomatch h) dX4_demandPlace_23
set_option maxHeartbeats 4000000 in
set_option maxRecDepth 100000 in
theorem m_X4_demandGap (l : Launch) (dC : Nat → ClassId) (dI : Nat → Nat → Nat) (ad : Nat → Nat) (S : XS) (i q : Nat) (hi : i < 8) (hn : (S.1 i).2.2 ≤ 16) (hq : q ≤ (S.1 i).2.2) : Met l yX4_demandGap wsX4_demandGap ({ frames := 1, cells := 0, slots := 0, locals := 20 } : Room) (va_Pc [.ref (ad (3 * i)), .int (nI q)] (PX dC dI ad S)) (va_Sv (fun _ => True)) 0 0 (fun _ => False) := by
  refine Met.ofW (cc := cX4_demandGap) (maxL := 2) (ret := none) pl_X4 rfl ?_
  intro p e s m args below meth c s₁ B hml hv
  obtain ⟨rfl, hPX⟩ := hv
  have hx := B.exec
  have hb := B.bytes
  have hr := B.returns
  have hts := atoms_spec (ws := wsX4_demandGap) B.pre
  have hown : s.vm.findClass RX4 = some m.cls := findClass_of_methodNamed B.named
  have hlocks := B.notSynchronized
  have hX := WX.of hPX
  have hl := lv_entry ([.ref (ad (3 * i)), .int (nI q)]) (n := 2) (Nat.le_of_ble_eq_true rfl)
  rw [lg_entry_eq]
  generalize (lg_sl ([.ref (ad (3 * i)), .int (nI q)]) ++ List.replicate (2 - (lg_sl ([.ref (ad (3 * i)), .int (nI q)])).length) Slot.unset).toArray = ls at hl ⊢
  have hl : lv_has ls 2 [(0, .ref (ad (3 * i))), (1, .int (nI q))] := hl
  show W p l e ({ frames := 1, cells := 0, slots := 0, locals := 20 } : Room) s m ([.ref (ad (3 * i)), .int (nI q)]).toArray below meth c s.heap [] 0 0 (MQ below (va_Sv (fun _ => True)) ([.ref (ad (3 * i)), .int (nI q)]).toArray s 0 0 (fun _ => False)) (F0 m 0 ls [])
  refine lv_iload_n hx hb dX4_demandGap_0 rfl (lv_at hl 1 rfl) ?_
  refine kn_if_lt (tgt := 12) hx hb (by omega) dX4_demandGap_1 (by decide) ?_
  refine lv_iload_n hx hb dX4_demandGap_4 rfl (lv_at hl 1 rfl) ?_
  refine lv_aload_n hx hb dX4_demandGap_5 rfl (lv_at hl 0 rfl) ?_
  refine kx_cr (v := nI ((S.1 i).2.2)) (va_runV (As := []) (rest := [.int (nI q)]) ⟨hx, hb, hml, hown, hts⟩ (m_X2_length l dC dI ad S i (by omega)) (cwV 0 hts gX4_demandGap_X2_length rfl rfl rfl hdX2_length_0 ⟨Nat.le_of_ble_eq_true rfl, Nat.le_of_ble_eq_true rfl⟩) (hX.preRow (by omega)) rfl rfl hl.1 rfl (lv_room (Nat.le_of_ble_eq_true rfl)) dX4_demandGap_6 ⟨Nat.le_of_ble_eq_true rfl, Nat.le_of_ble_eq_true rfl⟩) (fun _ h => h) ?_
  refine kn_icmp_le (tgt := 23) hx hb (by omega) (by omega) dX4_demandGap_9 (by decide) (fun k_2 => ?_) (fun k_2 => absurd k_2 (by omega))
  exact W.vret hx hb hr (fun t9 ht9 hW9 => ⟨rfl, trivial, ht9⟩) (fun _ h => nomatch h) dX4_demandGap_23
set_option maxHeartbeats 4000000 in
set_option maxRecDepth 100000 in
theorem t_X4_demandPlace (l : Launch) (hst : l.stackTraces = false) (dC : Nat → ClassId) (dI : Nat → Nat → Nat) (ad : Nat → Nat) (S : XS) (i : Nat) (x9 : Int32) (hi : i < 8) (hn : (S.1 i).2.2 ≤ 16) (hb9 : x9 < 0 ∨ nI (S.1 i).2.2 ≤ x9) : vx_Met l yX4_demandPlace wsX4_demandPlace ({ frames := 6, cells := 1, slots := 6, locals := 82 } : Room) (va_Pc [.ref (ad (3 * i)), .int x9] (PXZ dC dI ad S)) (fun _ _ _ _ => False) (XQ dC dI ad S IX) 1 6 (fun _ => False) := by
  refine vx_ofW (cc := cX4_demandPlace) (maxL := 2) (ret := none) (by decide) rfl ?_
  intro p e s m args below meth c s₁ B hml hex hv
  obtain ⟨rfl, hPZ⟩ := hv
  have hPX := hPZ.1
  have hx := B.exec
  have hb := B.bytes
  have hr := B.returns
  have hts := atoms_spec (ws := wsX4_demandPlace) B.pre
  have hown : s.vm.findClass RX4 = some m.cls := findClass_of_methodNamed B.named
  have hlocks := B.notSynchronized
  have hat_in : ∀ w ∈ (vx_atS RX4 306 IX xNames).filter goodWord, w ∈ wsX4_demandPlace := by decide +kernel
  have hX := WX.of hPX
  have hl := lv_entry ([.ref (ad (3 * i)), .int x9]) (n := 2) (Nat.le_of_ble_eq_true rfl)
  rw [lg_entry_eq]
  generalize (lg_sl ([.ref (ad (3 * i)), .int x9]) ++ List.replicate (2 - (lg_sl ([.ref (ad (3 * i)), .int x9])).length) Slot.unset).toArray = ls at hl ⊢
  have hl : lv_has ls 2 [(0, .ref (ad (3 * i))), (1, .int x9)] := hl
  show W p l e ({ frames := 6, cells := 1, slots := 6, locals := 82 } : Room) s m ([.ref (ad (3 * i)), .int x9]).toArray below meth c s.heap [] 0 0 (vx_MQ below (fun _ _ _ _ => False) (XQ dC dI ad S IX) ([.ref (ad (3 * i)), .int x9]).toArray s 1 6 (fun _ => False)) (F0 m 0 ls [])
  refine lv_iload_n hx hb dX4_demandPlace_0 rfl (lv_at hl 1 rfl) ?_
  refine lv_if_lt (tgt := 12) hx hb dX4_demandPlace_1 (by decide) (fun k_1 => ?_) (fun k_1 => ?_)
  · skip
    exact kx_throw hx hb hst hown xFitX xFitN (hts (.classLink RX4 302 IX) (tm 477 (by decide +kernel) rfl)) (hts (.initialized IX) (tm 478 (by decide +kernel) rfl)) (hPZ.2.1.2.2 (309, "no such place") (by decide)) (vx_hat (fun w hw => hts w (hat_in w hw)) xBadX_ok hPZ.2.1.badX) xGoodX hPZ.2.2 hPX (by rw [hml]; exact hl.1) dX4_demandPlace_12 dX4_demandPlace_15 dX4_demandPlace_16 dX4_demandPlace_19 dX4_demandPlace_22 hex (by decide) (by decide) (by decide) (by decide) hlocks
  · skip
    refine lv_iload_n hx hb dX4_demandPlace_4 rfl (lv_at hl 1 rfl) ?_
    refine lv_aload_n hx hb dX4_demandPlace_5 rfl (lv_at hl 0 rfl) ?_
    refine kx_cr (v := nI ((S.1 i).2.2)) (va_runV (As := []) (rest := [.int x9]) ⟨hx, hb, hml, hown, hts⟩ (m_X2_length l dC dI ad S i (by omega)) (cwV 0 hts gX4_demandPlace_X2_length rfl rfl rfl hdX2_length_0 ⟨Nat.le_of_ble_eq_true rfl, Nat.le_of_ble_eq_true rfl⟩) (hX.preRow (by omega)) rfl rfl hl.1 rfl (lv_room (Nat.le_of_ble_eq_true rfl)) dX4_demandPlace_6 ⟨Nat.le_of_ble_eq_true rfl, Nat.le_of_ble_eq_true rfl⟩) (fun _ h => h) ?_
    refine lv_icmp_lt (tgt := 23) hx hb dX4_demandPlace_9 (by decide) (fun k_2 => absurd k_2 (ix_no hb9 k_1)) (fun k_2 => ?_)
    exact kx_throw hx hb hst hown xFitX xFitN (hts (.classLink RX4 302 IX) (tm 477 (by decide +kernel) rfl)) (hts (.initialized IX) (tm 478 (by decide +kernel) rfl)) (hPZ.2.1.2.2 (309, "no such place") (by decide)) (vx_hat (fun w hw => hts w (hat_in w hw)) xBadX_ok hPZ.2.1.badX) xGoodX hPZ.2.2 hPX (by rw [hml]; exact hl.1) dX4_demandPlace_12 dX4_demandPlace_15 dX4_demandPlace_16 dX4_demandPlace_19 dX4_demandPlace_22 hex (by decide) (by decide) (by decide) (by decide) hlocks
set_option maxHeartbeats 4000000 in
set_option maxRecDepth 100000 in
theorem t_X4_demandGap (l : Launch) (hst : l.stackTraces = false) (dC : Nat → ClassId) (dI : Nat → Nat → Nat) (ad : Nat → Nat) (S : XS) (i : Nat) (x9 : Int32) (hi : i < 8) (hn : (S.1 i).2.2 ≤ 16) (hb9 : x9 < 0 ∨ nI (S.1 i).2.2 < x9) : vx_Met l yX4_demandGap wsX4_demandGap ({ frames := 6, cells := 1, slots := 6, locals := 82 } : Room) (va_Pc [.ref (ad (3 * i)), .int x9] (PXZ dC dI ad S)) (fun _ _ _ _ => False) (XQ dC dI ad S IX) 1 6 (fun _ => False) := by
  refine vx_ofW (cc := cX4_demandGap) (maxL := 2) (ret := none) (by decide) rfl ?_
  intro p e s m args below meth c s₁ B hml hex hv
  obtain ⟨rfl, hPZ⟩ := hv
  have hPX := hPZ.1
  have hx := B.exec
  have hb := B.bytes
  have hr := B.returns
  have hts := atoms_spec (ws := wsX4_demandGap) B.pre
  have hown : s.vm.findClass RX4 = some m.cls := findClass_of_methodNamed B.named
  have hlocks := B.notSynchronized
  have hat_in : ∀ w ∈ (vx_atS RX4 306 IX xNames).filter goodWord, w ∈ wsX4_demandGap := by decide +kernel
  have hX := WX.of hPX
  have hl := lv_entry ([.ref (ad (3 * i)), .int x9]) (n := 2) (Nat.le_of_ble_eq_true rfl)
  rw [lg_entry_eq]
  generalize (lg_sl ([.ref (ad (3 * i)), .int x9]) ++ List.replicate (2 - (lg_sl ([.ref (ad (3 * i)), .int x9])).length) Slot.unset).toArray = ls at hl ⊢
  have hl : lv_has ls 2 [(0, .ref (ad (3 * i))), (1, .int x9)] := hl
  show W p l e ({ frames := 6, cells := 1, slots := 6, locals := 82 } : Room) s m ([.ref (ad (3 * i)), .int x9]).toArray below meth c s.heap [] 0 0 (vx_MQ below (fun _ _ _ _ => False) (XQ dC dI ad S IX) ([.ref (ad (3 * i)), .int x9]).toArray s 1 6 (fun _ => False)) (F0 m 0 ls [])
  refine lv_iload_n hx hb dX4_demandGap_0 rfl (lv_at hl 1 rfl) ?_
  refine lv_if_lt (tgt := 12) hx hb dX4_demandGap_1 (by decide) (fun k_1 => ?_) (fun k_1 => ?_)
  · skip
    exact kx_throw hx hb hst hown xFitX xFitN (hts (.classLink RX4 302 IX) (tm 477 (by decide +kernel) rfl)) (hts (.initialized IX) (tm 478 (by decide +kernel) rfl)) (hPZ.2.1.2.2 (309, "no such place") (by decide)) (vx_hat (fun w hw => hts w (hat_in w hw)) xBadX_ok hPZ.2.1.badX) xGoodX hPZ.2.2 hPX (by rw [hml]; exact hl.1) dX4_demandGap_12 dX4_demandGap_15 dX4_demandGap_16 dX4_demandGap_19 dX4_demandGap_22 hex (by decide) (by decide) (by decide) (by decide) hlocks
  · skip
    refine lv_iload_n hx hb dX4_demandGap_4 rfl (lv_at hl 1 rfl) ?_
    refine lv_aload_n hx hb dX4_demandGap_5 rfl (lv_at hl 0 rfl) ?_
    refine kx_cr (v := nI ((S.1 i).2.2)) (va_runV (As := []) (rest := [.int x9]) ⟨hx, hb, hml, hown, hts⟩ (m_X2_length l dC dI ad S i (by omega)) (cwV 0 hts gX4_demandGap_X2_length rfl rfl rfl hdX2_length_0 ⟨Nat.le_of_ble_eq_true rfl, Nat.le_of_ble_eq_true rfl⟩) (hX.preRow (by omega)) rfl rfl hl.1 rfl (lv_room (Nat.le_of_ble_eq_true rfl)) dX4_demandGap_6 ⟨Nat.le_of_ble_eq_true rfl, Nat.le_of_ble_eq_true rfl⟩) (fun _ h => h) ?_
    refine lv_icmp_le (tgt := 23) hx hb dX4_demandGap_9 (by decide) (fun k_2 => absurd k_2 (ix_no2 hb9 k_1)) (fun k_2 => ?_)
    exact kx_throw hx hb hst hown xFitX xFitN (hts (.classLink RX4 302 IX) (tm 477 (by decide +kernel) rfl)) (hts (.initialized IX) (tm 478 (by decide +kernel) rfl)) (hPZ.2.1.2.2 (309, "no such place") (by decide)) (vx_hat (fun w hw => hts w (hat_in w hw)) xBadX_ok hPZ.2.1.badX) xGoodX hPZ.2.2 hPX (by rw [hml]; exact hl.1) dX4_demandGap_12 dX4_demandGap_15 dX4_demandGap_16 dX4_demandGap_19 dX4_demandGap_22 hex (by decide) (by decide) (by decide) (by decide) hlocks
set_option maxHeartbeats 4000000 in
set_option maxRecDepth 100000 in
theorem m_X4_demandWithin (l : Launch) (dC : Nat → ClassId) (dI : Nat → Nat → Nat) (ad : Nat → Nat) (S : XS) (k g : Nat) (hg : g < 1000) (hk : k ≤ g) : Met l yX4_demandWithin wsX4_demandWithin ({ frames := 0, cells := 0, slots := 0, locals := 0 } : Room) (va_Pc [.int (nI k), .int (nI g)] (PX dC dI ad S)) (va_Sv (fun _ => True)) 0 0 (fun _ => False) := by
  refine Met.ofW (cc := cX4_demandWithin) (maxL := 2) (ret := none) pl_X4 rfl ?_
  intro p e s m args below meth c s₁ B hml hv
  obtain ⟨rfl, hPX⟩ := hv
  have hx := B.exec
  have hb := B.bytes
  have hr := B.returns
  have hts := atoms_spec (ws := wsX4_demandWithin) B.pre
  have hown : s.vm.findClass RX4 = some m.cls := findClass_of_methodNamed B.named
  have hlocks := B.notSynchronized
  have hX := WX.of hPX
  have hl := lv_entry ([.int (nI k), .int (nI g)]) (n := 2) (Nat.le_of_ble_eq_true rfl)
  rw [lg_entry_eq]
  generalize (lg_sl ([.int (nI k), .int (nI g)]) ++ List.replicate (2 - (lg_sl ([.int (nI k), .int (nI g)])).length) Slot.unset).toArray = ls at hl ⊢
  have hl : lv_has ls 2 [(0, .int (nI k)), (1, .int (nI g))] := hl
  show W p l e ({ frames := 0, cells := 0, slots := 0, locals := 0 } : Room) s m ([.int (nI k), .int (nI g)]).toArray below meth c s.heap [] 0 0 (MQ below (va_Sv (fun _ => True)) ([.int (nI k), .int (nI g)]).toArray s 0 0 (fun _ => False)) (F0 m 0 ls [])
  refine lv_iload_n hx hb dX4_demandWithin_0 rfl (lv_at hl 0 rfl) ?_
  refine kn_if_lt (tgt := 9) hx hb (by omega) dX4_demandWithin_1 (by decide) ?_
  refine lv_iload_n hx hb dX4_demandWithin_4 rfl (lv_at hl 0 rfl) ?_
  refine lv_iload_n hx hb dX4_demandWithin_5 rfl (lv_at hl 1 rfl) ?_
  refine kn_icmp_le (tgt := 20) hx hb (by omega) (by omega) dX4_demandWithin_6 (by decide) (fun k_2 => ?_) (fun k_2 => absurd k_2 (by omega))
  exact W.vret hx hb hr (fun t9 ht9 hW9 => ⟨rfl, trivial, ht9⟩) (fun _ h => nomatch h) dX4_demandWithin_20
set_option maxHeartbeats 4000000 in
set_option maxRecDepth 100000 in
theorem t_X4_demandWithin (l : Launch) (hst : l.stackTraces = false) (dC : Nat → ClassId) (dI : Nat → Nat → Nat) (ad : Nat → Nat) (S : XS) (x9 : Int32) (g : Nat) (hg : g < 1000) (hb9 : x9 < 0 ∨ nI g < x9) : vx_Met l yX4_demandWithin wsX4_demandWithin ({ frames := 6, cells := 1, slots := 6, locals := 82 } : Room) (va_Pc [.int x9, .int (nI g)] (PXZ dC dI ad S)) (fun _ _ _ _ => False) (XQ dC dI ad S IA) 1 6 (fun _ => False) := by
  refine vx_ofW (cc := cX4_demandWithin) (maxL := 2) (ret := none) (by decide) rfl ?_
  intro p e s m args below meth c s₁ B hml hex hv
  obtain ⟨rfl, hPZ⟩ := hv
  have hPX := hPZ.1
  have hx := B.exec
  have hb := B.bytes
  have hr := B.returns
  have hts := atoms_spec (ws := wsX4_demandWithin) B.pre
  have hown : s.vm.findClass RX4 = some m.cls := findClass_of_methodNamed B.named
  have hlocks := B.notSynchronized
  have hat_in : ∀ w ∈ (vx_atS RX4 140 IA xNames).filter goodWord, w ∈ wsX4_demandWithin := by decide +kernel
  have hX := WX.of hPX
  have hl := lv_entry ([.int x9, .int (nI g)]) (n := 2) (Nat.le_of_ble_eq_true rfl)
  rw [lg_entry_eq]
  generalize (lg_sl ([.int x9, .int (nI g)]) ++ List.replicate (2 - (lg_sl ([.int x9, .int (nI g)])).length) Slot.unset).toArray = ls at hl ⊢
  have hl : lv_has ls 2 [(0, .int x9), (1, .int (nI g))] := hl
  show W p l e ({ frames := 6, cells := 1, slots := 6, locals := 82 } : Room) s m ([.int x9, .int (nI g)]).toArray below meth c s.heap [] 0 0 (vx_MQ below (fun _ _ _ _ => False) (XQ dC dI ad S IA) ([.int x9, .int (nI g)]).toArray s 1 6 (fun _ => False)) (F0 m 0 ls [])
  refine lv_iload_n hx hb dX4_demandWithin_0 rfl (lv_at hl 0 rfl) ?_
  refine lv_if_lt (tgt := 9) hx hb dX4_demandWithin_1 (by decide) (fun k_1 => ?_) (fun k_1 => ?_)
  · skip
    exact kx_throw hx hb hst hown xFitA xFitN (hts (.classLink RX4 136 IA) (tm 485 (by decide +kernel) rfl)) (hts (.initialized IA) (tm 486 (by decide +kernel) rfl)) (hPZ.2.1.2.2 (311, "a number is out of its bounds") (by decide)) (vx_hat (fun w hw => hts w (hat_in w hw)) xBadA_ok hPZ.2.1.badA) xGoodA hPZ.2.2 hPX (by rw [hml]; exact hl.1) dX4_demandWithin_9 dX4_demandWithin_12 dX4_demandWithin_13 dX4_demandWithin_16 dX4_demandWithin_19 hex (by decide) (by decide) (by decide) (by decide) hlocks
  · skip
    refine lv_iload_n hx hb dX4_demandWithin_4 rfl (lv_at hl 0 rfl) ?_
    refine lv_iload_n hx hb dX4_demandWithin_5 rfl (lv_at hl 1 rfl) ?_
    refine lv_icmp_le (tgt := 20) hx hb dX4_demandWithin_6 (by decide) (fun k_2 => absurd k_2 (ix_no2 hb9 k_1)) (fun k_2 => ?_)
    exact kx_throw hx hb hst hown xFitA xFitN (hts (.classLink RX4 136 IA) (tm 485 (by decide +kernel) rfl)) (hts (.initialized IA) (tm 486 (by decide +kernel) rfl)) (hPZ.2.1.2.2 (311, "a number is out of its bounds") (by decide)) (vx_hat (fun w hw => hts w (hat_in w hw)) xBadA_ok hPZ.2.1.badA) xGoodA hPZ.2.2 hPX (by rw [hml]; exact hl.1) dX4_demandWithin_9 dX4_demandWithin_12 dX4_demandWithin_13 dX4_demandWithin_16 dX4_demandWithin_19 hex (by decide) (by decide) (by decide) (by decide) hlocks
set_option maxHeartbeats 4000000 in
set_option maxRecDepth 100000 in
theorem m_X4_demandValue (l : Launch) (dC : Nat → ClassId) (dI : Nat → Nat → Nat) (ad : Nat → Nat) (S : XS) (k : Nat) (hk : k < 16) : Met l yX4_demandValue wsX4_demandValue ({ frames := 1, cells := 0, slots := 0, locals := 21 } : Room) (va_Pc [.int (nI k)] (PX dC dI ad S)) (va_Sv (fun _ => True)) 0 0 (fun _ => False) := by
  refine Met.ofW (cc := cX4_demandValue) (maxL := 1) (ret := none) pl_X4 rfl ?_
  intro p e s m args below meth c s₁ B hml hv
  obtain ⟨rfl, hPX⟩ := hv
  have hx := B.exec
  have hb := B.bytes
  have hr := B.returns
  have hts := atoms_spec (ws := wsX4_demandValue) B.pre
  have hown : s.vm.findClass RX4 = some m.cls := findClass_of_methodNamed B.named
  have hlocks := B.notSynchronized
  have hX := WX.of hPX
  have hl := lv_entry ([.int (nI k)]) (n := 1) (Nat.le_of_ble_eq_true rfl)
  rw [lg_entry_eq]
  generalize (lg_sl ([.int (nI k)]) ++ List.replicate (1 - (lg_sl ([.int (nI k)])).length) Slot.unset).toArray = ls at hl ⊢
  have hl : lv_has ls 1 [(0, .int (nI k))] := hl
  show W p l e ({ frames := 1, cells := 0, slots := 0, locals := 21 } : Room) s m ([.int (nI k)]).toArray below meth c s.heap [] 0 0 (MQ below (va_Sv (fun _ => True)) ([.int (nI k)]).toArray s 0 0 (fun _ => False)) (F0 m 0 ls [])
  refine lv_iload_n hx hb dX4_demandValue_0 rfl (lv_at hl 0 rfl) ?_
  refine lv_bipush (v := nI 15) hx hb dX4_demandValue_1 (by decide) ?_
  refine va_csv (va_Run.run (va_runS (As := [.int (nI k), .int (nI 15)]) (rest := []) ⟨hx, hb, hml, hown, hts⟩ (m_X4_demandWithin l dC dI ad S k 15 (by omega) (by omega)) (va_cwS 2 hts gX4_demandValue_X4_demandWithin rfl rfl rfl hdX4_demandWithin_2.2 ⟨Nat.le_of_ble_eq_true rfl, Nat.le_of_ble_eq_true rfl⟩) hX.preS rfl rfl hl.1 rfl (lv_room (Nat.le_of_ble_eq_true rfl)) dX4_demandValue_3 ⟨Nat.le_of_ble_eq_true rfl, Nat.le_of_ble_eq_true rfl⟩)) (fun _ => ?_)
  exact W.vret hx hb hr (fun t9 ht9 hW9 => ⟨rfl, trivial, ht9⟩) (fun _ h => nomatch h) dX4_demandValue_6
set_option maxHeartbeats 4000000 in
set_option maxRecDepth 100000 in
theorem t_X4_demandValue (l : Launch) (hst : l.stackTraces = false) (dC : Nat → ClassId) (dI : Nat → Nat → Nat) (ad : Nat → Nat) (S : XS) (x9 : Int32) (hb9 : x9 < 0 ∨ nI 15 < x9) : vx_Met l yX4_demandValue wsX4_demandValue ({ frames := 7, cells := 1, slots := 6, locals := 103 } : Room) (va_Pc [.int x9] (PXZ dC dI ad S)) (fun _ _ _ _ => False) (XQ dC dI ad S IA) 1 6 (fun _ => False) := by
  refine vx_ofW (cc := cX4_demandValue) (maxL := 1) (ret := none) (by decide) rfl ?_
  intro p e s m args below meth c s₁ B hml hex hv
  obtain ⟨rfl, hPZ⟩ := hv
  have hPX := hPZ.1
  have hx := B.exec
  have hb := B.bytes
  have hr := B.returns
  have hts := atoms_spec (ws := wsX4_demandValue) B.pre
  have hown : s.vm.findClass RX4 = some m.cls := findClass_of_methodNamed B.named
  have hlocks := B.notSynchronized
  have hX := WX.of hPX
  have hl := lv_entry ([.int x9]) (n := 1) (Nat.le_of_ble_eq_true rfl)
  rw [lg_entry_eq]
  generalize (lg_sl ([.int x9]) ++ List.replicate (1 - (lg_sl ([.int x9])).length) Slot.unset).toArray = ls at hl ⊢
  have hl : lv_has ls 1 [(0, .int x9)] := hl
  show W p l e ({ frames := 7, cells := 1, slots := 6, locals := 103 } : Room) s m ([.int x9]).toArray below meth c s.heap [] 0 0 (vx_MQ below (fun _ _ _ _ => False) (XQ dC dI ad S IA) ([.int x9]).toArray s 1 6 (fun _ => False)) (F0 m 0 ls [])
  refine lv_iload_n hx hb dX4_demandValue_0 rfl (lv_at hl 0 rfl) ?_
  refine lv_bipush (v := nI 15) hx hb dX4_demandValue_1 (by decide) ?_
  exact kx_pass (vx_runS (As := [.int x9, .int (nI 15)]) (rest := []) ⟨hx, hb, hml, hown, hts⟩ (t_X4_demandWithin l hst dC dI ad S x9 15 (by omega) hb9) (va_cwS 2 hts gX4_demandValue_X4_demandWithin rfl rfl rfl hdX4_demandWithin_2.2 ⟨Nat.le_of_ble_eq_true rfl, Nat.le_of_ble_eq_true rfl⟩) hPZ.preS rfl rfl hl.1 rfl (lv_room (Nat.le_of_ble_eq_true rfl)) dX4_demandValue_3 ⟨Nat.le_of_ble_eq_true rfl, Nat.le_of_ble_eq_true rfl⟩) hPX hex hlocks
set_option maxHeartbeats 4000000 in
set_option maxRecDepth 100000 in
theorem m_X4_refuse (l : Launch) (dC : Nat → ClassId) (dI : Nat → Nat → Nat) (ad : Nat → Nat) (S : XS) : Met l yX4_refuse wsX4_refuse ({ frames := 0, cells := 0, slots := 0, locals := 0 } : Room) (va_Pc [.ref (ad 57)] (PX dC dI ad S)) (va_Qi (fun r S' => r = -9 ∧ S' = xN S (S.2.2.1, S.2.2.2.1 + 1, S.2.2.2.2)) (PX dC dI ad) (AX ad)) 0 0 (AX ad) := by
  refine Met.ofW (cc := cX4_refuse) (maxL := 1) (ret := (some .int)) pl_X4 rfl ?_
  intro p e s m args below meth c s₁ B hml hv
  obtain ⟨rfl, hPX⟩ := hv
  have hx := B.exec
  have hb := B.bytes
  have hr := B.returns
  have hts := atoms_spec (ws := wsX4_refuse) B.pre
  have hown : s.vm.findClass RX4 = some m.cls := findClass_of_methodNamed B.named
  have hlocks := B.notSynchronized
  have hin4 : ∀ w ∈ u_ws RX4 TX4 9, w ∈ wsX4_refuse := tu 1328 (by decide +kernel) rfl
  have hX := WX.of hPX
  have hl := lv_entry ([.ref (ad 57)]) (n := 1) (Nat.le_of_ble_eq_true rfl)
  rw [lg_entry_eq]
  generalize (lg_sl ([.ref (ad 57)]) ++ List.replicate (1 - (lg_sl ([.ref (ad 57)])).length) Slot.unset).toArray = ls at hl ⊢
  have hl : lv_has ls 1 [(0, .ref (ad 57))] := hl
  show W p l e ({ frames := 0, cells := 0, slots := 0, locals := 0 } : Room) s m ([.ref (ad 57)]).toArray below meth c s.heap [] 0 0 (MQ below (va_Qi (fun r S' => r = -9 ∧ S' = xN S (S.2.2.1, S.2.2.2.1 + 1, S.2.2.2.2)) (PX dC dI ad) (AX ad)) ([.ref (ad 57)]).toArray s 0 0 (AX ad)) (F0 m 0 ls [])
  refine lv_aload_n hx hb dX4_refuse_0 rfl (lv_at hl 0 rfl) ?_
  refine lv_dup hx hb dX4_refuse_1 rfl ?_
  refine kx_gref (n := S.2.2.2.1) hx hb hts hin4 hown hX rfl (hts (.fieldLink RX4 49 "Orderlattice" "refusals" "I") (tm 456 (by decide +kernel) rfl)) dX4_refuse_2 ?_
  refine lv_iconst (v := nI 1) hx hb dX4_refuse_5 (by decide) ?_
  refine kn_iadd hx hb dX4_refuse_6 ?_
  refine kx_pref (S' := (xN S (S.2.2.1, S.2.2.2.1 + 1, S.2.2.2.2))) hx hb hts hin4 hown hX rfl (hts (.fieldLink RX4 49 "Orderlattice" "refusals" "I") (tm 456 (by decide +kernel) rfl)) dX4_refuse_7 (fun H locs hX => ?_)
  refine lv_bipush (v := (-9)) hx hb dX4_refuse_10 (by decide) ?_
  exact W.iret (v := (-9)) hx hb hr (fun t9 ht9 hW9 => ⟨⟨_, (xN S (S.2.2.1, S.2.2.2.1 + 1, S.2.2.2.2)), rfl, ⟨rfl, rfl⟩, hX.P ht9 hW9⟩, hX.2.2.2.F ht9⟩) hX.2.2.2.2.2 dX4_refuse_12
set_option maxHeartbeats 4000000 in
set_option maxRecDepth 100000 in
theorem m_X4_nextMark (l : Launch) (dC : Nat → ClassId) (dI : Nat → Nat → Nat) (ad : Nat → Nat) (S : XS) : Met l yX4_nextMark wsX4_nextMark ({ frames := 0, cells := 0, slots := 0, locals := 0 } : Room) (va_Pc [.ref (ad 57)] (PX dC dI ad S)) (va_Qi (fun r S' => r = nI S.2.2.1 ∧ S' = xN S (S.2.2.1 + 1, S.2.2.2.1, S.2.2.2.2)) (PX dC dI ad) (AX ad)) 0 0 (AX ad) := by
  refine Met.ofW (cc := cX4_nextMark) (maxL := 2) (ret := (some .int)) pl_X4 rfl ?_
  intro p e s m args below meth c s₁ B hml hv
  obtain ⟨rfl, hPX⟩ := hv
  have hx := B.exec
  have hb := B.bytes
  have hr := B.returns
  have hts := atoms_spec (ws := wsX4_nextMark) B.pre
  have hown : s.vm.findClass RX4 = some m.cls := findClass_of_methodNamed B.named
  have hlocks := B.notSynchronized
  have hin4 : ∀ w ∈ u_ws RX4 TX4 9, w ∈ wsX4_nextMark := tu 1328 (by decide +kernel) rfl
  have hX := WX.of hPX
  have hl := lv_entry ([.ref (ad 57)]) (n := 2) (Nat.le_of_ble_eq_true rfl)
  rw [lg_entry_eq]
  generalize (lg_sl ([.ref (ad 57)]) ++ List.replicate (2 - (lg_sl ([.ref (ad 57)])).length) Slot.unset).toArray = ls at hl ⊢
  have hl : lv_has ls 2 [(0, .ref (ad 57))] := hl
  show W p l e ({ frames := 0, cells := 0, slots := 0, locals := 0 } : Room) s m ([.ref (ad 57)]).toArray below meth c s.heap [] 0 0 (MQ below (va_Qi (fun r S' => r = nI S.2.2.1 ∧ S' = xN S (S.2.2.1 + 1, S.2.2.2.1, S.2.2.2.2)) (PX dC dI ad) (AX ad)) ([.ref (ad 57)]).toArray s 0 0 (AX ad)) (F0 m 0 ls [])
  refine lv_aload_n hx hb dX4_nextMark_0 rfl (lv_at hl 0 rfl) ?_
  refine kx_gput (n := S.2.2.1) hx hb hts hin4 hown hX rfl (hts (.fieldLink RX4 45 "Orderlattice" "marksGiven" "I") (tm 455 (by decide +kernel) rfl)) dX4_nextMark_1 ?_
  refine lv_istore_n (lv' := [(1, .int (nI S.2.2.1)), (0, .ref (ad 57))]) hx hb dX4_nextMark_4 rfl hl (by decide) rfl (fun ls hl => ?_)
  refine lv_aload_n hx hb dX4_nextMark_5 rfl (lv_at hl 1 rfl) ?_
  refine lv_dup hx hb dX4_nextMark_6 rfl ?_
  refine kx_gput (n := S.2.2.1) hx hb hts hin4 hown hX rfl (hts (.fieldLink RX4 45 "Orderlattice" "marksGiven" "I") (tm 455 (by decide +kernel) rfl)) dX4_nextMark_7 ?_
  refine lv_iconst (v := nI 1) hx hb dX4_nextMark_10 (by decide) ?_
  refine kn_iadd hx hb dX4_nextMark_11 ?_
  refine kx_pput (S' := (xN S (S.2.2.1 + 1, S.2.2.2.1, S.2.2.2.2))) hx hb hts hin4 hown hX rfl (hts (.fieldLink RX4 45 "Orderlattice" "marksGiven" "I") (tm 455 (by decide +kernel) rfl)) dX4_nextMark_12 (fun H locs hX => ?_)
  refine lv_iload_n hx hb dX4_nextMark_15 rfl (lv_at hl 0 rfl) ?_
  exact W.iret (v := nI S.2.2.1) hx hb hr (fun t9 ht9 hW9 => ⟨⟨_, (xN S (S.2.2.1 + 1, S.2.2.2.1, S.2.2.2.2)), rfl, ⟨rfl, rfl⟩, hX.P ht9 hW9⟩, hX.2.2.2.F ht9⟩) hX.2.2.2.2.2 dX4_nextMark_16
set_option maxHeartbeats 4000000 in
set_option maxRecDepth 100000 in
theorem m_X4_knock (l : Launch) (dC : Nat → ClassId) (dI : Nat → Nat → Nat) (ad : Nat → Nat) (S : XS) : Met l yX4_knock wsX4_knock ({ frames := 0, cells := 0, slots := 0, locals := 0 } : Room) (va_Pc [.ref (ad 57)] (PX dC dI ad S)) (va_Qi (fun r S' => r = nI (S.2.2.2.2 + 1) ∧ S' = xN S (S.2.2.1, S.2.2.2.1, S.2.2.2.2 + 1)) (PX dC dI ad) (AX ad)) 0 0 (AX ad) := by
  refine Met.ofW (cc := cX4_knock) (maxL := 1) (ret := (some .int)) pl_X4 rfl ?_
  intro p e s m args below meth c s₁ B hml hv
  obtain ⟨rfl, hPX⟩ := hv
  have hx := B.exec
  have hb := B.bytes
  have hr := B.returns
  have hts := atoms_spec (ws := wsX4_knock) B.pre
  have hown : s.vm.findClass RX4 = some m.cls := findClass_of_methodNamed B.named
  have hlocks := B.notSynchronized
  have hin4 : ∀ w ∈ u_ws RX4 TX4 9, w ∈ wsX4_knock := tu 1328 (by decide +kernel) rfl
  have hX := WX.of hPX
  have hl := lv_entry ([.ref (ad 57)]) (n := 1) (Nat.le_of_ble_eq_true rfl)
  rw [lg_entry_eq]
  generalize (lg_sl ([.ref (ad 57)]) ++ List.replicate (1 - (lg_sl ([.ref (ad 57)])).length) Slot.unset).toArray = ls at hl ⊢
  have hl : lv_has ls 1 [(0, .ref (ad 57))] := hl
  show W p l e ({ frames := 0, cells := 0, slots := 0, locals := 0 } : Room) s m ([.ref (ad 57)]).toArray below meth c s.heap [] 0 0 (MQ below (va_Qi (fun r S' => r = nI (S.2.2.2.2 + 1) ∧ S' = xN S (S.2.2.1, S.2.2.2.1, S.2.2.2.2 + 1)) (PX dC dI ad) (AX ad)) ([.ref (ad 57)]).toArray s 0 0 (AX ad)) (F0 m 0 ls [])
  refine lv_aload_n hx hb dX4_knock_0 rfl (lv_at hl 0 rfl) ?_
  refine lv_dup hx hb dX4_knock_1 rfl ?_
  refine kx_gkno (n := S.2.2.2.2) hx hb hts hin4 hown hX rfl (hts (.fieldLink RX4 52 "Orderlattice" "knocks" "I") (tm 457 (by decide +kernel) rfl)) dX4_knock_2 ?_
  refine lv_iconst (v := nI 1) hx hb dX4_knock_5 (by decide) ?_
  refine kn_iadd hx hb dX4_knock_6 ?_
  refine kx_pkno (S' := (xN S (S.2.2.1, S.2.2.2.1, S.2.2.2.2 + 1))) hx hb hts hin4 hown hX rfl (hts (.fieldLink RX4 52 "Orderlattice" "knocks" "I") (tm 457 (by decide +kernel) rfl)) dX4_knock_7 (fun H locs hX => ?_)
  refine lv_aload_n hx hb dX4_knock_10 rfl (lv_at hl 0 rfl) ?_
  refine kx_gkno (n := S.2.2.2.2 + 1) hx hb hts hin4 hown hX rfl (hts (.fieldLink RX4 52 "Orderlattice" "knocks" "I") (tm 457 (by decide +kernel) rfl)) dX4_knock_11 ?_
  exact W.iret (v := nI (S.2.2.2.2 + 1)) hx hb hr (fun t9 ht9 hW9 => ⟨⟨_, (xN S (S.2.2.1, S.2.2.2.1, S.2.2.2.2 + 1)), rfl, ⟨rfl, rfl⟩, hX.P ht9 hW9⟩, hX.2.2.2.F ht9⟩) hX.2.2.2.2.2 dX4_knock_14
end
section
set_option maxHeartbeats 4000000 in
set_option maxRecDepth 100000 in
theorem t_X4_put_1 (l : Launch) (hst : l.stackTraces = false) (dC : Nat → ClassId) (dI : Nat → Nat → Nat) (ad : Nat → Nat) (S : XS) (x9 : Int32) (y1 : Int32) (hb9 : x9 < 0 ∨ nI 3 ≤ x9) : vx_Met l yX4_put wsX4_put ({ frames := 8, cells := 1, slots := 6, locals := 123 } : Room) (va_Pc [.ref (ad 57), .int x9, .int y1] (PXZ dC dI ad S)) (fun _ _ _ _ => False) (XQ dC dI ad S IX) 1 6 (fun _ => False) := by
  refine vx_ofW (cc := cX4_put) (maxL := 4) (ret := (some .int)) (by decide) rfl ?_
  intro p e s m args below meth c s₁ B hml hex hv
  obtain ⟨rfl, hPZ⟩ := hv
  have hPX := hPZ.1
  have hx := B.exec
  have hb := B.bytes
  have hr := B.returns
  have hts := atoms_spec (ws := wsX4_put) B.pre
  have hown : s.vm.findClass RX4 = some m.cls := findClass_of_methodNamed B.named
  have hlocks := B.notSynchronized
  have hX := WX.of hPX
  have hl := lv_entry ([.ref (ad 57), .int x9, .int y1]) (n := 4) (Nat.le_of_ble_eq_true rfl)
  rw [lg_entry_eq]
  generalize (lg_sl ([.ref (ad 57), .int x9, .int y1]) ++ List.replicate (4 - (lg_sl ([.ref (ad 57), .int x9, .int y1])).length) Slot.unset).toArray = ls at hl ⊢
  have hl : lv_has ls 4 [(0, .ref (ad 57)), (1, .int x9), (2, .int y1)] := hl
  show W p l e ({ frames := 8, cells := 1, slots := 6, locals := 123 } : Room) s m ([.ref (ad 57), .int x9, .int y1]).toArray below meth c s.heap [] 0 0 (vx_MQ below (fun _ _ _ _ => False) (XQ dC dI ad S IX) ([.ref (ad 57), .int x9, .int y1]).toArray s 1 6 (fun _ => False)) (F0 m 0 ls [])
  refine lv_aload_n hx hb dX4_put_0 rfl (lv_at hl 0 rfl) ?_
  refine lv_iload_n hx hb dX4_put_1 rfl (lv_at hl 1 rfl) ?_
  exact kx_pass (vx_runV (As := [.int x9]) (rest := []) ⟨hx, hb, hml, hown, hts⟩ (t_X4_rowAt l hst dC dI ad S x9 hb9) (cwV 1 hts gX4_put_X4_rowAt rfl rfl rfl hdX4_rowAt_1 ⟨Nat.le_of_ble_eq_true rfl, Nat.le_of_ble_eq_true rfl⟩) (hPZ.preX) rfl rfl hl.1 rfl (lv_room (Nat.le_of_ble_eq_true rfl)) dX4_put_2 ⟨Nat.le_of_ble_eq_true rfl, Nat.le_of_ble_eq_true rfl⟩) hPX hex hlocks
set_option maxHeartbeats 4000000 in
set_option maxRecDepth 100000 in
theorem t_X4_put_2 (l : Launch) (hst : l.stackTraces = false) (dC : Nat → ClassId) (dI : Nat → Nat → Nat) (ad : Nat → Nat) (S : XS) (i : Nat) (x9 : Int32) (hi : i < 3) (hb9 : x9 < 0 ∨ nI 15 < x9) : vx_Met l yX4_put wsX4_put ({ frames := 8, cells := 1, slots := 6, locals := 123 } : Room) (va_Pc [.ref (ad 57), .int (nI i), .int x9] (PXZ dC dI ad S)) (fun _ _ _ _ => False) (XQ dC dI ad S IA) 1 6 (fun _ => False) := by
  refine vx_ofW (cc := cX4_put) (maxL := 4) (ret := (some .int)) (by decide) rfl ?_
  intro p e s m args below meth c s₁ B hml hex hv
  obtain ⟨rfl, hPZ⟩ := hv
  have hPX := hPZ.1
  have hx := B.exec
  have hb := B.bytes
  have hr := B.returns
  have hts := atoms_spec (ws := wsX4_put) B.pre
  have hown : s.vm.findClass RX4 = some m.cls := findClass_of_methodNamed B.named
  have hlocks := B.notSynchronized
  have hX := WX.of hPX
  have hl := lv_entry ([.ref (ad 57), .int (nI i), .int x9]) (n := 4) (Nat.le_of_ble_eq_true rfl)
  rw [lg_entry_eq]
  generalize (lg_sl ([.ref (ad 57), .int (nI i), .int x9]) ++ List.replicate (4 - (lg_sl ([.ref (ad 57), .int (nI i), .int x9])).length) Slot.unset).toArray = ls at hl ⊢
  have hl : lv_has ls 4 [(0, .ref (ad 57)), (1, .int (nI i)), (2, .int x9)] := hl
  show W p l e ({ frames := 8, cells := 1, slots := 6, locals := 123 } : Room) s m ([.ref (ad 57), .int (nI i), .int x9]).toArray below meth c s.heap [] 0 0 (vx_MQ below (fun _ _ _ _ => False) (XQ dC dI ad S IA) ([.ref (ad 57), .int (nI i), .int x9]).toArray s 1 6 (fun _ => False)) (F0 m 0 ls [])
  refine lv_aload_n hx hb dX4_put_0 rfl (lv_at hl 0 rfl) ?_
  refine lv_iload_n hx hb dX4_put_1 rfl (lv_at hl 1 rfl) ?_
  refine va_csr (va_Run.run (va_runV (As := [.int (nI i)]) (rest := []) ⟨hx, hb, hml, hown, hts⟩ (m_X4_rowAt l dC dI ad S i (by omega)) (cwV 1 hts gX4_put_X4_rowAt rfl rfl rfl hdX4_rowAt_1 ⟨Nat.le_of_ble_eq_true rfl, Nat.le_of_ble_eq_true rfl⟩) (hX.preTop 57 6 (by decide) (by decide) rfl rfl) rfl rfl hl.1 rfl (lv_room (Nat.le_of_ble_eq_true rfl)) dX4_put_2 ⟨Nat.le_of_ble_eq_true rfl, Nat.le_of_ble_eq_true rfl⟩)) (fun k_ hk_ => ?_)
  rw [hk_]
  refine lv_astore_n (lv' := [(3, .ref (ad (3 * i))), (0, .ref (ad 57)), (1, .int (nI i)), (2, .int x9)]) hx hb dX4_put_5 rfl hl (by decide) rfl (fun ls hl => ?_)
  refine lv_iload_n hx hb dX4_put_6 rfl (lv_at hl 3 rfl) ?_
  exact kx_pass (vx_runS (As := [.int x9]) (rest := []) ⟨hx, hb, hml, hown, hts⟩ (t_X4_demandValue l hst dC dI ad S x9 hb9) (va_cwS 1 hts gX4_put_X4_demandValue rfl rfl rfl hdX4_demandValue_1.2 ⟨Nat.le_of_ble_eq_true rfl, Nat.le_of_ble_eq_true rfl⟩) hPZ.preS rfl rfl hl.1 rfl (lv_room (Nat.le_of_ble_eq_true rfl)) dX4_put_7 ⟨Nat.le_of_ble_eq_true rfl, Nat.le_of_ble_eq_true rfl⟩) hPX hex hlocks
set_option maxHeartbeats 4000000 in
set_option maxRecDepth 100000 in
theorem t_X4_putAt_1 (l : Launch) (hst : l.stackTraces = false) (dC : Nat → ClassId) (dI : Nat → Nat → Nat) (ad : Nat → Nat) (S : XS) (x9 : Int32) (y1 : Int32) (y2 : Int32) (hb9 : x9 < 0 ∨ nI 3 ≤ x9) : vx_Met l yX4_putAt wsX4_putAt ({ frames := 8, cells := 1, slots := 6, locals := 123 } : Room) (va_Pc [.ref (ad 57), .int x9, .int y1, .int y2] (PXZ dC dI ad S)) (fun _ _ _ _ => False) (XQ dC dI ad S IX) 1 6 (fun _ => False) := by
  refine vx_ofW (cc := cX4_putAt) (maxL := 5) (ret := (some .int)) (by decide) rfl ?_
  intro p e s m args below meth c s₁ B hml hex hv
  obtain ⟨rfl, hPZ⟩ := hv
  have hPX := hPZ.1
  have hx := B.exec
  have hb := B.bytes
  have hr := B.returns
  have hts := atoms_spec (ws := wsX4_putAt) B.pre
  have hown : s.vm.findClass RX4 = some m.cls := findClass_of_methodNamed B.named
  have hlocks := B.notSynchronized
  have hX := WX.of hPX
  have hl := lv_entry ([.ref (ad 57), .int x9, .int y1, .int y2]) (n := 5) (Nat.le_of_ble_eq_true rfl)
  rw [lg_entry_eq]
  generalize (lg_sl ([.ref (ad 57), .int x9, .int y1, .int y2]) ++ List.replicate (5 - (lg_sl ([.ref (ad 57), .int x9, .int y1, .int y2])).length) Slot.unset).toArray = ls at hl ⊢
  have hl : lv_has ls 5 [(0, .ref (ad 57)), (1, .int x9), (2, .int y1), (3, .int y2)] := hl
  show W p l e ({ frames := 8, cells := 1, slots := 6, locals := 123 } : Room) s m ([.ref (ad 57), .int x9, .int y1, .int y2]).toArray below meth c s.heap [] 0 0 (vx_MQ below (fun _ _ _ _ => False) (XQ dC dI ad S IX) ([.ref (ad 57), .int x9, .int y1, .int y2]).toArray s 1 6 (fun _ => False)) (F0 m 0 ls [])
  refine lv_aload_n hx hb dX4_putAt_0 rfl (lv_at hl 0 rfl) ?_
  refine lv_iload_n hx hb dX4_putAt_1 rfl (lv_at hl 1 rfl) ?_
  exact kx_pass (vx_runV (As := [.int x9]) (rest := []) ⟨hx, hb, hml, hown, hts⟩ (t_X4_rowAt l hst dC dI ad S x9 hb9) (cwV 1 hts gX4_putAt_X4_rowAt rfl rfl rfl hdX4_rowAt_1 ⟨Nat.le_of_ble_eq_true rfl, Nat.le_of_ble_eq_true rfl⟩) (hPZ.preX) rfl rfl hl.1 rfl (lv_room (Nat.le_of_ble_eq_true rfl)) dX4_putAt_2 ⟨Nat.le_of_ble_eq_true rfl, Nat.le_of_ble_eq_true rfl⟩) hPX hex hlocks
set_option maxHeartbeats 4000000 in
set_option maxRecDepth 100000 in
theorem t_X4_putAt_2 (l : Launch) (hst : l.stackTraces = false) (dC : Nat → ClassId) (dI : Nat → Nat → Nat) (ad : Nat → Nat) (S : XS) (i : Nat) (x9 : Int32) (y2 : Int32) (hi : i < 3) (hn : (S.1 i).2.2 ≤ 16) (hb9 : x9 < 0 ∨ nI (S.1 i).2.2 < x9) : vx_Met l yX4_putAt wsX4_putAt ({ frames := 8, cells := 1, slots := 6, locals := 123 } : Room) (va_Pc [.ref (ad 57), .int (nI i), .int x9, .int y2] (PXZ dC dI ad S)) (fun _ _ _ _ => False) (XQ dC dI ad S IX) 1 6 (fun _ => False) := by
  refine vx_ofW (cc := cX4_putAt) (maxL := 5) (ret := (some .int)) (by decide) rfl ?_
  intro p e s m args below meth c s₁ B hml hex hv
  obtain ⟨rfl, hPZ⟩ := hv
  have hPX := hPZ.1
  have hx := B.exec
  have hb := B.bytes
  have hr := B.returns
  have hts := atoms_spec (ws := wsX4_putAt) B.pre
  have hown : s.vm.findClass RX4 = some m.cls := findClass_of_methodNamed B.named
  have hlocks := B.notSynchronized
  have hX := WX.of hPX
  have hl := lv_entry ([.ref (ad 57), .int (nI i), .int x9, .int y2]) (n := 5) (Nat.le_of_ble_eq_true rfl)
  rw [lg_entry_eq]
  generalize (lg_sl ([.ref (ad 57), .int (nI i), .int x9, .int y2]) ++ List.replicate (5 - (lg_sl ([.ref (ad 57), .int (nI i), .int x9, .int y2])).length) Slot.unset).toArray = ls at hl ⊢
  have hl : lv_has ls 5 [(0, .ref (ad 57)), (1, .int (nI i)), (2, .int x9), (3, .int y2)] := hl
  show W p l e ({ frames := 8, cells := 1, slots := 6, locals := 123 } : Room) s m ([.ref (ad 57), .int (nI i), .int x9, .int y2]).toArray below meth c s.heap [] 0 0 (vx_MQ below (fun _ _ _ _ => False) (XQ dC dI ad S IX) ([.ref (ad 57), .int (nI i), .int x9, .int y2]).toArray s 1 6 (fun _ => False)) (F0 m 0 ls [])
  refine lv_aload_n hx hb dX4_putAt_0 rfl (lv_at hl 0 rfl) ?_
  refine lv_iload_n hx hb dX4_putAt_1 rfl (lv_at hl 1 rfl) ?_
  refine va_csr (va_Run.run (va_runV (As := [.int (nI i)]) (rest := []) ⟨hx, hb, hml, hown, hts⟩ (m_X4_rowAt l dC dI ad S i (by omega)) (cwV 1 hts gX4_putAt_X4_rowAt rfl rfl rfl hdX4_rowAt_1 ⟨Nat.le_of_ble_eq_true rfl, Nat.le_of_ble_eq_true rfl⟩) (hX.preTop 57 6 (by decide) (by decide) rfl rfl) rfl rfl hl.1 rfl (lv_room (Nat.le_of_ble_eq_true rfl)) dX4_putAt_2 ⟨Nat.le_of_ble_eq_true rfl, Nat.le_of_ble_eq_true rfl⟩)) (fun k_ hk_ => ?_)
  rw [hk_]
  refine lv_astore (lv' := [(4, .ref (ad (3 * i))), (0, .ref (ad 57)), (1, .int (nI i)), (2, .int x9), (3, .int y2)]) hx hb dX4_putAt_5 hl (by decide) rfl (fun ls hl => ?_)
  refine lv_aload hx hb dX4_putAt_7 (lv_at hl 0 rfl) ?_
  refine lv_iload_n hx hb dX4_putAt_9 rfl (lv_at hl 3 rfl) ?_
  exact kx_pass (vx_runS (As := [.ref (ad (3 * i)), .int x9]) (rest := []) ⟨hx, hb, hml, hown, hts⟩ (t_X4_demandGap l hst dC dI ad S i x9 (by omega) (by omega) hb9) (va_cwS 2 hts gX4_putAt_X4_demandGap rfl rfl rfl hdX4_demandGap_2.2 ⟨Nat.le_of_ble_eq_true rfl, Nat.le_of_ble_eq_true rfl⟩) hPZ.preS rfl rfl hl.1 rfl (lv_room (Nat.le_of_ble_eq_true rfl)) dX4_putAt_10 ⟨Nat.le_of_ble_eq_true rfl, Nat.le_of_ble_eq_true rfl⟩) hPX hex hlocks
set_option maxHeartbeats 4000000 in
set_option maxRecDepth 100000 in
theorem t_X4_putAt_3 (l : Launch) (hst : l.stackTraces = false) (dC : Nat → ClassId) (dI : Nat → Nat → Nat) (ad : Nat → Nat) (S : XS) (i : Nat) (q : Nat) (x9 : Int32) (hi : i < 3) (hq : q ≤ (S.1 i).2.2) (hn : (S.1 i).2.2 ≤ 16) (hb9 : x9 < 0 ∨ nI 15 < x9) : vx_Met l yX4_putAt wsX4_putAt ({ frames := 8, cells := 1, slots := 6, locals := 123 } : Room) (va_Pc [.ref (ad 57), .int (nI i), .int (nI q), .int x9] (PXZ dC dI ad S)) (fun _ _ _ _ => False) (XQ dC dI ad S IA) 1 6 (fun _ => False) := by
  refine vx_ofW (cc := cX4_putAt) (maxL := 5) (ret := (some .int)) (by decide) rfl ?_
  intro p e s m args below meth c s₁ B hml hex hv
  obtain ⟨rfl, hPZ⟩ := hv
  have hPX := hPZ.1
  have hx := B.exec
  have hb := B.bytes
  have hr := B.returns
  have hts := atoms_spec (ws := wsX4_putAt) B.pre
  have hown : s.vm.findClass RX4 = some m.cls := findClass_of_methodNamed B.named
  have hlocks := B.notSynchronized
  have hX := WX.of hPX
  have hl := lv_entry ([.ref (ad 57), .int (nI i), .int (nI q), .int x9]) (n := 5) (Nat.le_of_ble_eq_true rfl)
  rw [lg_entry_eq]
  generalize (lg_sl ([.ref (ad 57), .int (nI i), .int (nI q), .int x9]) ++ List.replicate (5 - (lg_sl ([.ref (ad 57), .int (nI i), .int (nI q), .int x9])).length) Slot.unset).toArray = ls at hl ⊢
  have hl : lv_has ls 5 [(0, .ref (ad 57)), (1, .int (nI i)), (2, .int (nI q)), (3, .int x9)] := hl
  show W p l e ({ frames := 8, cells := 1, slots := 6, locals := 123 } : Room) s m ([.ref (ad 57), .int (nI i), .int (nI q), .int x9]).toArray below meth c s.heap [] 0 0 (vx_MQ below (fun _ _ _ _ => False) (XQ dC dI ad S IA) ([.ref (ad 57), .int (nI i), .int (nI q), .int x9]).toArray s 1 6 (fun _ => False)) (F0 m 0 ls [])
  refine lv_aload_n hx hb dX4_putAt_0 rfl (lv_at hl 0 rfl) ?_
  refine lv_iload_n hx hb dX4_putAt_1 rfl (lv_at hl 1 rfl) ?_
  refine va_csr (va_Run.run (va_runV (As := [.int (nI i)]) (rest := []) ⟨hx, hb, hml, hown, hts⟩ (m_X4_rowAt l dC dI ad S i (by omega)) (cwV 1 hts gX4_putAt_X4_rowAt rfl rfl rfl hdX4_rowAt_1 ⟨Nat.le_of_ble_eq_true rfl, Nat.le_of_ble_eq_true rfl⟩) (hX.preTop 57 6 (by decide) (by decide) rfl rfl) rfl rfl hl.1 rfl (lv_room (Nat.le_of_ble_eq_true rfl)) dX4_putAt_2 ⟨Nat.le_of_ble_eq_true rfl, Nat.le_of_ble_eq_true rfl⟩)) (fun k_ hk_ => ?_)
  rw [hk_]
  refine lv_astore (lv' := [(4, .ref (ad (3 * i))), (0, .ref (ad 57)), (1, .int (nI i)), (2, .int (nI q)), (3, .int x9)]) hx hb dX4_putAt_5 hl (by decide) rfl (fun ls hl => ?_)
  refine lv_aload hx hb dX4_putAt_7 (lv_at hl 0 rfl) ?_
  refine lv_iload_n hx hb dX4_putAt_9 rfl (lv_at hl 3 rfl) ?_
  refine va_csv (va_Run.run (va_runS (As := [.ref (ad (3 * i)), .int (nI q)]) (rest := []) ⟨hx, hb, hml, hown, hts⟩ (m_X4_demandGap l dC dI ad S i q (by omega) (by omega) (by omega)) (va_cwS 2 hts gX4_putAt_X4_demandGap rfl rfl rfl hdX4_demandGap_2.2 ⟨Nat.le_of_ble_eq_true rfl, Nat.le_of_ble_eq_true rfl⟩) hX.preS rfl rfl hl.1 rfl (lv_room (Nat.le_of_ble_eq_true rfl)) dX4_putAt_10 ⟨Nat.le_of_ble_eq_true rfl, Nat.le_of_ble_eq_true rfl⟩)) (fun _ => ?_)
  refine lv_iload_n hx hb dX4_putAt_13 rfl (lv_at hl 4 rfl) ?_
  exact kx_pass (vx_runS (As := [.int x9]) (rest := []) ⟨hx, hb, hml, hown, hts⟩ (t_X4_demandValue l hst dC dI ad S x9 hb9) (va_cwS 1 hts gX4_putAt_X4_demandValue rfl rfl rfl hdX4_demandValue_1.2 ⟨Nat.le_of_ble_eq_true rfl, Nat.le_of_ble_eq_true rfl⟩) hPZ.preS rfl rfl hl.1 rfl (lv_room (Nat.le_of_ble_eq_true rfl)) dX4_putAt_14 ⟨Nat.le_of_ble_eq_true rfl, Nat.le_of_ble_eq_true rfl⟩) hPX hex hlocks
set_option maxHeartbeats 4000000 in
set_option maxRecDepth 100000 in
theorem t_X4_fill_1 (l : Launch) (hst : l.stackTraces = false) (dC : Nat → ClassId) (dI : Nat → Nat → Nat) (ad : Nat → Nat) (S : XS) (x9 : Int32) (y1 : Int32) (y2 : Int32) (y3 : Int32) (hb9 : x9 < 0 ∨ nI 3 ≤ x9) : vx_Met l yX4_fill wsX4_fill ({ frames := 8, cells := 1, slots := 6, locals := 123 } : Room) (va_Pc [.ref (ad 57), .int x9, .int y1, .int y2, .int y3] (PXZ dC dI ad S)) (fun _ _ _ _ => False) (XQ dC dI ad S IX) 1 6 (fun _ => False) := by
  refine vx_ofW (cc := cX4_fill) (maxL := 7) (ret := (some .int)) (by decide) rfl ?_
  intro p e s m args below meth c s₁ B hml hex hv
  obtain ⟨rfl, hPZ⟩ := hv
  have hPX := hPZ.1
  have hx := B.exec
  have hb := B.bytes
  have hr := B.returns
  have hts := atoms_spec (ws := wsX4_fill) B.pre
  have hown : s.vm.findClass RX4 = some m.cls := findClass_of_methodNamed B.named
  have hlocks := B.notSynchronized
  have hX := WX.of hPX
  have hl := lv_entry ([.ref (ad 57), .int x9, .int y1, .int y2, .int y3]) (n := 7) (Nat.le_of_ble_eq_true rfl)
  rw [lg_entry_eq]
  generalize (lg_sl ([.ref (ad 57), .int x9, .int y1, .int y2, .int y3]) ++ List.replicate (7 - (lg_sl ([.ref (ad 57), .int x9, .int y1, .int y2, .int y3])).length) Slot.unset).toArray = ls at hl ⊢
  have hl : lv_has ls 7 [(0, .ref (ad 57)), (1, .int x9), (2, .int y1), (3, .int y2), (4, .int y3)] := hl
  show W p l e ({ frames := 8, cells := 1, slots := 6, locals := 123 } : Room) s m ([.ref (ad 57), .int x9, .int y1, .int y2, .int y3]).toArray below meth c s.heap [] 0 0 (vx_MQ below (fun _ _ _ _ => False) (XQ dC dI ad S IX) ([.ref (ad 57), .int x9, .int y1, .int y2, .int y3]).toArray s 1 6 (fun _ => False)) (F0 m 0 ls [])
  refine lv_aload_n hx hb dX4_fill_0 rfl (lv_at hl 0 rfl) ?_
  refine lv_iload_n hx hb dX4_fill_1 rfl (lv_at hl 1 rfl) ?_
  exact kx_pass (vx_runV (As := [.int x9]) (rest := []) ⟨hx, hb, hml, hown, hts⟩ (t_X4_rowAt l hst dC dI ad S x9 hb9) (cwV 1 hts gX4_fill_X4_rowAt rfl rfl rfl hdX4_rowAt_1 ⟨Nat.le_of_ble_eq_true rfl, Nat.le_of_ble_eq_true rfl⟩) (hPZ.preX) rfl rfl hl.1 rfl (lv_room (Nat.le_of_ble_eq_true rfl)) dX4_fill_2 ⟨Nat.le_of_ble_eq_true rfl, Nat.le_of_ble_eq_true rfl⟩) hPX hex hlocks
set_option maxHeartbeats 4000000 in
set_option maxRecDepth 100000 in
theorem t_X4_fill_2 (l : Launch) (hst : l.stackTraces = false) (dC : Nat → ClassId) (dI : Nat → Nat → Nat) (ad : Nat → Nat) (S : XS) (i : Nat) (x9 : Int32) (y2 : Int32) (y3 : Int32) (hi : i < 3) (hb9 : x9 < 0 ∨ nI 12 < x9) : vx_Met l yX4_fill wsX4_fill ({ frames := 8, cells := 1, slots := 6, locals := 123 } : Room) (va_Pc [.ref (ad 57), .int (nI i), .int x9, .int y2, .int y3] (PXZ dC dI ad S)) (fun _ _ _ _ => False) (XQ dC dI ad S IA) 1 6 (fun _ => False) := by
  refine vx_ofW (cc := cX4_fill) (maxL := 7) (ret := (some .int)) (by decide) rfl ?_
  intro p e s m args below meth c s₁ B hml hex hv
  obtain ⟨rfl, hPZ⟩ := hv
  have hPX := hPZ.1
  have hx := B.exec
  have hb := B.bytes
  have hr := B.returns
  have hts := atoms_spec (ws := wsX4_fill) B.pre
  have hown : s.vm.findClass RX4 = some m.cls := findClass_of_methodNamed B.named
  have hlocks := B.notSynchronized
  have hX := WX.of hPX
  have hl := lv_entry ([.ref (ad 57), .int (nI i), .int x9, .int y2, .int y3]) (n := 7) (Nat.le_of_ble_eq_true rfl)
  rw [lg_entry_eq]
  generalize (lg_sl ([.ref (ad 57), .int (nI i), .int x9, .int y2, .int y3]) ++ List.replicate (7 - (lg_sl ([.ref (ad 57), .int (nI i), .int x9, .int y2, .int y3])).length) Slot.unset).toArray = ls at hl ⊢
  have hl : lv_has ls 7 [(0, .ref (ad 57)), (1, .int (nI i)), (2, .int x9), (3, .int y2), (4, .int y3)] := hl
  show W p l e ({ frames := 8, cells := 1, slots := 6, locals := 123 } : Room) s m ([.ref (ad 57), .int (nI i), .int x9, .int y2, .int y3]).toArray below meth c s.heap [] 0 0 (vx_MQ below (fun _ _ _ _ => False) (XQ dC dI ad S IA) ([.ref (ad 57), .int (nI i), .int x9, .int y2, .int y3]).toArray s 1 6 (fun _ => False)) (F0 m 0 ls [])
  refine lv_aload_n hx hb dX4_fill_0 rfl (lv_at hl 0 rfl) ?_
  refine lv_iload_n hx hb dX4_fill_1 rfl (lv_at hl 1 rfl) ?_
  refine va_csr (va_Run.run (va_runV (As := [.int (nI i)]) (rest := []) ⟨hx, hb, hml, hown, hts⟩ (m_X4_rowAt l dC dI ad S i (by omega)) (cwV 1 hts gX4_fill_X4_rowAt rfl rfl rfl hdX4_rowAt_1 ⟨Nat.le_of_ble_eq_true rfl, Nat.le_of_ble_eq_true rfl⟩) (hX.preTop 57 6 (by decide) (by decide) rfl rfl) rfl rfl hl.1 rfl (lv_room (Nat.le_of_ble_eq_true rfl)) dX4_fill_2 ⟨Nat.le_of_ble_eq_true rfl, Nat.le_of_ble_eq_true rfl⟩)) (fun k_ hk_ => ?_)
  rw [hk_]
  refine lv_astore (lv' := [(5, .ref (ad (3 * i))), (0, .ref (ad 57)), (1, .int (nI i)), (2, .int x9), (3, .int y2), (4, .int y3)]) hx hb dX4_fill_5 hl (by decide) rfl (fun ls hl => ?_)
  refine lv_iload_n hx hb dX4_fill_7 rfl (lv_at hl 3 rfl) ?_
  refine lv_bipush (v := nI 12) hx hb dX4_fill_8 (by decide) ?_
  exact kx_pass (vx_runS (As := [.int x9, .int (nI 12)]) (rest := []) ⟨hx, hb, hml, hown, hts⟩ (t_X4_demandWithin l hst dC dI ad S x9 12 (by omega) hb9) (va_cwS 2 hts gX4_fill_X4_demandWithin rfl rfl rfl hdX4_demandWithin_2.2 ⟨Nat.le_of_ble_eq_true rfl, Nat.le_of_ble_eq_true rfl⟩) hPZ.preS rfl rfl hl.1 rfl (lv_room (Nat.le_of_ble_eq_true rfl)) dX4_fill_10 ⟨Nat.le_of_ble_eq_true rfl, Nat.le_of_ble_eq_true rfl⟩) hPX hex hlocks
set_option maxHeartbeats 4000000 in
set_option maxRecDepth 100000 in
theorem t_X4_fill_3 (l : Launch) (hst : l.stackTraces = false) (dC : Nat → ClassId) (dI : Nat → Nat → Nat) (ad : Nat → Nat) (S : XS) (i : Nat) (k : Nat) (x9 : Int32) (y3 : Int32) (hi : i < 3) (hk : k ≤ 12) (hb9 : x9 < 0 ∨ nI 99 < x9) : vx_Met l yX4_fill wsX4_fill ({ frames := 8, cells := 1, slots := 6, locals := 123 } : Room) (va_Pc [.ref (ad 57), .int (nI i), .int (nI k), .int x9, .int y3] (PXZ dC dI ad S)) (fun _ _ _ _ => False) (XQ dC dI ad S IA) 1 6 (fun _ => False) := by
  refine vx_ofW (cc := cX4_fill) (maxL := 7) (ret := (some .int)) (by decide) rfl ?_
  intro p e s m args below meth c s₁ B hml hex hv
  obtain ⟨rfl, hPZ⟩ := hv
  have hPX := hPZ.1
  have hx := B.exec
  have hb := B.bytes
  have hr := B.returns
  have hts := atoms_spec (ws := wsX4_fill) B.pre
  have hown : s.vm.findClass RX4 = some m.cls := findClass_of_methodNamed B.named
  have hlocks := B.notSynchronized
  have hX := WX.of hPX
  have hl := lv_entry ([.ref (ad 57), .int (nI i), .int (nI k), .int x9, .int y3]) (n := 7) (Nat.le_of_ble_eq_true rfl)
  rw [lg_entry_eq]
  generalize (lg_sl ([.ref (ad 57), .int (nI i), .int (nI k), .int x9, .int y3]) ++ List.replicate (7 - (lg_sl ([.ref (ad 57), .int (nI i), .int (nI k), .int x9, .int y3])).length) Slot.unset).toArray = ls at hl ⊢
  have hl : lv_has ls 7 [(0, .ref (ad 57)), (1, .int (nI i)), (2, .int (nI k)), (3, .int x9), (4, .int y3)] := hl
  show W p l e ({ frames := 8, cells := 1, slots := 6, locals := 123 } : Room) s m ([.ref (ad 57), .int (nI i), .int (nI k), .int x9, .int y3]).toArray below meth c s.heap [] 0 0 (vx_MQ below (fun _ _ _ _ => False) (XQ dC dI ad S IA) ([.ref (ad 57), .int (nI i), .int (nI k), .int x9, .int y3]).toArray s 1 6 (fun _ => False)) (F0 m 0 ls [])
  refine lv_aload_n hx hb dX4_fill_0 rfl (lv_at hl 0 rfl) ?_
  refine lv_iload_n hx hb dX4_fill_1 rfl (lv_at hl 1 rfl) ?_
  refine va_csr (va_Run.run (va_runV (As := [.int (nI i)]) (rest := []) ⟨hx, hb, hml, hown, hts⟩ (m_X4_rowAt l dC dI ad S i (by omega)) (cwV 1 hts gX4_fill_X4_rowAt rfl rfl rfl hdX4_rowAt_1 ⟨Nat.le_of_ble_eq_true rfl, Nat.le_of_ble_eq_true rfl⟩) (hX.preTop 57 6 (by decide) (by decide) rfl rfl) rfl rfl hl.1 rfl (lv_room (Nat.le_of_ble_eq_true rfl)) dX4_fill_2 ⟨Nat.le_of_ble_eq_true rfl, Nat.le_of_ble_eq_true rfl⟩)) (fun k_ hk_ => ?_)
  rw [hk_]
  refine lv_astore (lv' := [(5, .ref (ad (3 * i))), (0, .ref (ad 57)), (1, .int (nI i)), (2, .int (nI k)), (3, .int x9), (4, .int y3)]) hx hb dX4_fill_5 hl (by decide) rfl (fun ls hl => ?_)
  refine lv_iload_n hx hb dX4_fill_7 rfl (lv_at hl 3 rfl) ?_
  refine lv_bipush (v := nI 12) hx hb dX4_fill_8 (by decide) ?_
  refine va_csv (va_Run.run (va_runS (As := [.int (nI k), .int (nI 12)]) (rest := []) ⟨hx, hb, hml, hown, hts⟩ (m_X4_demandWithin l dC dI ad S k 12 (by omega) (by omega)) (va_cwS 2 hts gX4_fill_X4_demandWithin rfl rfl rfl hdX4_demandWithin_2.2 ⟨Nat.le_of_ble_eq_true rfl, Nat.le_of_ble_eq_true rfl⟩) hX.preS rfl rfl hl.1 rfl (lv_room (Nat.le_of_ble_eq_true rfl)) dX4_fill_10 ⟨Nat.le_of_ble_eq_true rfl, Nat.le_of_ble_eq_true rfl⟩)) (fun _ => ?_)
  refine lv_iload_n hx hb dX4_fill_13 rfl (lv_at hl 4 rfl) ?_
  refine lv_bipush (v := nI 99) hx hb dX4_fill_14 (by decide) ?_
  exact kx_pass (vx_runS (As := [.int x9, .int (nI 99)]) (rest := []) ⟨hx, hb, hml, hown, hts⟩ (t_X4_demandWithin l hst dC dI ad S x9 99 (by omega) hb9) (va_cwS 2 hts gX4_fill_X4_demandWithin rfl rfl rfl hdX4_demandWithin_2.2 ⟨Nat.le_of_ble_eq_true rfl, Nat.le_of_ble_eq_true rfl⟩) hPZ.preS rfl rfl hl.1 rfl (lv_room (Nat.le_of_ble_eq_true rfl)) dX4_fill_16 ⟨Nat.le_of_ble_eq_true rfl, Nat.le_of_ble_eq_true rfl⟩) hPX hex hlocks
set_option maxHeartbeats 4000000 in
set_option maxRecDepth 100000 in
theorem t_X4_fill_4 (l : Launch) (hst : l.stackTraces = false) (dC : Nat → ClassId) (dI : Nat → Nat → Nat) (ad : Nat → Nat) (S : XS) (i : Nat) (k : Nat) (k2 : Nat) (x9 : Int32) (hi : i < 3) (hk : k ≤ 12) (hk2 : k2 ≤ 99) (hb9 : x9 < 0 ∨ nI 99 < x9) : vx_Met l yX4_fill wsX4_fill ({ frames := 8, cells := 1, slots := 6, locals := 123 } : Room) (va_Pc [.ref (ad 57), .int (nI i), .int (nI k), .int (nI k2), .int x9] (PXZ dC dI ad S)) (fun _ _ _ _ => False) (XQ dC dI ad S IA) 1 6 (fun _ => False) := by
  refine vx_ofW (cc := cX4_fill) (maxL := 7) (ret := (some .int)) (by decide) rfl ?_
  intro p e s m args below meth c s₁ B hml hex hv
  obtain ⟨rfl, hPZ⟩ := hv
  have hPX := hPZ.1
  have hx := B.exec
  have hb := B.bytes
  have hr := B.returns
  have hts := atoms_spec (ws := wsX4_fill) B.pre
  have hown : s.vm.findClass RX4 = some m.cls := findClass_of_methodNamed B.named
  have hlocks := B.notSynchronized
  have hX := WX.of hPX
  have hl := lv_entry ([.ref (ad 57), .int (nI i), .int (nI k), .int (nI k2), .int x9]) (n := 7) (Nat.le_of_ble_eq_true rfl)
  rw [lg_entry_eq]
  generalize (lg_sl ([.ref (ad 57), .int (nI i), .int (nI k), .int (nI k2), .int x9]) ++ List.replicate (7 - (lg_sl ([.ref (ad 57), .int (nI i), .int (nI k), .int (nI k2), .int x9])).length) Slot.unset).toArray = ls at hl ⊢
  have hl : lv_has ls 7 [(0, .ref (ad 57)), (1, .int (nI i)), (2, .int (nI k)), (3, .int (nI k2)), (4, .int x9)] := hl
  show W p l e ({ frames := 8, cells := 1, slots := 6, locals := 123 } : Room) s m ([.ref (ad 57), .int (nI i), .int (nI k), .int (nI k2), .int x9]).toArray below meth c s.heap [] 0 0 (vx_MQ below (fun _ _ _ _ => False) (XQ dC dI ad S IA) ([.ref (ad 57), .int (nI i), .int (nI k), .int (nI k2), .int x9]).toArray s 1 6 (fun _ => False)) (F0 m 0 ls [])
  refine lv_aload_n hx hb dX4_fill_0 rfl (lv_at hl 0 rfl) ?_
  refine lv_iload_n hx hb dX4_fill_1 rfl (lv_at hl 1 rfl) ?_
  refine va_csr (va_Run.run (va_runV (As := [.int (nI i)]) (rest := []) ⟨hx, hb, hml, hown, hts⟩ (m_X4_rowAt l dC dI ad S i (by omega)) (cwV 1 hts gX4_fill_X4_rowAt rfl rfl rfl hdX4_rowAt_1 ⟨Nat.le_of_ble_eq_true rfl, Nat.le_of_ble_eq_true rfl⟩) (hX.preTop 57 6 (by decide) (by decide) rfl rfl) rfl rfl hl.1 rfl (lv_room (Nat.le_of_ble_eq_true rfl)) dX4_fill_2 ⟨Nat.le_of_ble_eq_true rfl, Nat.le_of_ble_eq_true rfl⟩)) (fun k_ hk_ => ?_)
  rw [hk_]
  refine lv_astore (lv' := [(5, .ref (ad (3 * i))), (0, .ref (ad 57)), (1, .int (nI i)), (2, .int (nI k)), (3, .int (nI k2)), (4, .int x9)]) hx hb dX4_fill_5 hl (by decide) rfl (fun ls hl => ?_)
  refine lv_iload_n hx hb dX4_fill_7 rfl (lv_at hl 3 rfl) ?_
  refine lv_bipush (v := nI 12) hx hb dX4_fill_8 (by decide) ?_
  refine va_csv (va_Run.run (va_runS (As := [.int (nI k), .int (nI 12)]) (rest := []) ⟨hx, hb, hml, hown, hts⟩ (m_X4_demandWithin l dC dI ad S k 12 (by omega) (by omega)) (va_cwS 2 hts gX4_fill_X4_demandWithin rfl rfl rfl hdX4_demandWithin_2.2 ⟨Nat.le_of_ble_eq_true rfl, Nat.le_of_ble_eq_true rfl⟩) hX.preS rfl rfl hl.1 rfl (lv_room (Nat.le_of_ble_eq_true rfl)) dX4_fill_10 ⟨Nat.le_of_ble_eq_true rfl, Nat.le_of_ble_eq_true rfl⟩)) (fun _ => ?_)
  refine lv_iload_n hx hb dX4_fill_13 rfl (lv_at hl 4 rfl) ?_
  refine lv_bipush (v := nI 99) hx hb dX4_fill_14 (by decide) ?_
  refine va_csv (va_Run.run (va_runS (As := [.int (nI k2), .int (nI 99)]) (rest := []) ⟨hx, hb, hml, hown, hts⟩ (m_X4_demandWithin l dC dI ad S k2 99 (by omega) (by omega)) (va_cwS 2 hts gX4_fill_X4_demandWithin rfl rfl rfl hdX4_demandWithin_2.2 ⟨Nat.le_of_ble_eq_true rfl, Nat.le_of_ble_eq_true rfl⟩) hX.preS rfl rfl hl.1 rfl (lv_room (Nat.le_of_ble_eq_true rfl)) dX4_fill_16 ⟨Nat.le_of_ble_eq_true rfl, Nat.le_of_ble_eq_true rfl⟩)) (fun _ => ?_)
  refine lv_iload hx hb dX4_fill_19 (lv_at hl 5 rfl) ?_
  refine lv_bipush (v := nI 99) hx hb dX4_fill_21 (by decide) ?_
  exact kx_pass (vx_runS (As := [.int x9, .int (nI 99)]) (rest := []) ⟨hx, hb, hml, hown, hts⟩ (t_X4_demandWithin l hst dC dI ad S x9 99 (by omega) hb9) (va_cwS 2 hts gX4_fill_X4_demandWithin rfl rfl rfl hdX4_demandWithin_2.2 ⟨Nat.le_of_ble_eq_true rfl, Nat.le_of_ble_eq_true rfl⟩) hPZ.preS rfl rfl hl.1 rfl (lv_room (Nat.le_of_ble_eq_true rfl)) dX4_fill_23 ⟨Nat.le_of_ble_eq_true rfl, Nat.le_of_ble_eq_true rfl⟩) hPX hex hlocks
set_option maxHeartbeats 4000000 in
set_option maxRecDepth 100000 in
theorem t_X4_drop_1 (l : Launch) (hst : l.stackTraces = false) (dC : Nat → ClassId) (dI : Nat → Nat → Nat) (ad : Nat → Nat) (S : XS) (x9 : Int32) (y1 : Int32) (hb9 : x9 < 0 ∨ nI 3 ≤ x9) : vx_Met l yX4_drop wsX4_drop ({ frames := 8, cells := 1, slots := 6, locals := 123 } : Room) (va_Pc [.ref (ad 57), .int x9, .int y1] (PXZ dC dI ad S)) (fun _ _ _ _ => False) (XQ dC dI ad S IX) 1 6 (fun _ => False) := by
  refine vx_ofW (cc := cX4_drop) (maxL := 5) (ret := (some .int)) (by decide) rfl ?_
  intro p e s m args below meth c s₁ B hml hex hv
  obtain ⟨rfl, hPZ⟩ := hv
  have hPX := hPZ.1
  have hx := B.exec
  have hb := B.bytes
  have hr := B.returns
  have hts := atoms_spec (ws := wsX4_drop) B.pre
  have hown : s.vm.findClass RX4 = some m.cls := findClass_of_methodNamed B.named
  have hlocks := B.notSynchronized
  have hX := WX.of hPX
  have hl := lv_entry ([.ref (ad 57), .int x9, .int y1]) (n := 5) (Nat.le_of_ble_eq_true rfl)
  rw [lg_entry_eq]
  generalize (lg_sl ([.ref (ad 57), .int x9, .int y1]) ++ List.replicate (5 - (lg_sl ([.ref (ad 57), .int x9, .int y1])).length) Slot.unset).toArray = ls at hl ⊢
  have hl : lv_has ls 5 [(0, .ref (ad 57)), (1, .int x9), (2, .int y1)] := hl
  show W p l e ({ frames := 8, cells := 1, slots := 6, locals := 123 } : Room) s m ([.ref (ad 57), .int x9, .int y1]).toArray below meth c s.heap [] 0 0 (vx_MQ below (fun _ _ _ _ => False) (XQ dC dI ad S IX) ([.ref (ad 57), .int x9, .int y1]).toArray s 1 6 (fun _ => False)) (F0 m 0 ls [])
  refine lv_aload_n hx hb dX4_drop_0 rfl (lv_at hl 0 rfl) ?_
  refine lv_iload_n hx hb dX4_drop_1 rfl (lv_at hl 1 rfl) ?_
  exact kx_pass (vx_runV (As := [.int x9]) (rest := []) ⟨hx, hb, hml, hown, hts⟩ (t_X4_rowAt l hst dC dI ad S x9 hb9) (cwV 1 hts gX4_drop_X4_rowAt rfl rfl rfl hdX4_rowAt_1 ⟨Nat.le_of_ble_eq_true rfl, Nat.le_of_ble_eq_true rfl⟩) (hPZ.preX) rfl rfl hl.1 rfl (lv_room (Nat.le_of_ble_eq_true rfl)) dX4_drop_2 ⟨Nat.le_of_ble_eq_true rfl, Nat.le_of_ble_eq_true rfl⟩) hPX hex hlocks
set_option maxHeartbeats 4000000 in
set_option maxRecDepth 100000 in
theorem t_X4_drop_2 (l : Launch) (hst : l.stackTraces = false) (dC : Nat → ClassId) (dI : Nat → Nat → Nat) (ad : Nat → Nat) (S : XS) (i : Nat) (x9 : Int32) (hi : i < 3) (hn : (S.1 i).2.2 ≤ 16) (hb9 : x9 < 0 ∨ nI (S.1 i).2.2 ≤ x9) : vx_Met l yX4_drop wsX4_drop ({ frames := 8, cells := 1, slots := 6, locals := 123 } : Room) (va_Pc [.ref (ad 57), .int (nI i), .int x9] (PXZ dC dI ad S)) (fun _ _ _ _ => False) (XQ dC dI ad S IX) 1 6 (fun _ => False) := by
  refine vx_ofW (cc := cX4_drop) (maxL := 5) (ret := (some .int)) (by decide) rfl ?_
  intro p e s m args below meth c s₁ B hml hex hv
  obtain ⟨rfl, hPZ⟩ := hv
  have hPX := hPZ.1
  have hx := B.exec
  have hb := B.bytes
  have hr := B.returns
  have hts := atoms_spec (ws := wsX4_drop) B.pre
  have hown : s.vm.findClass RX4 = some m.cls := findClass_of_methodNamed B.named
  have hlocks := B.notSynchronized
  have hX := WX.of hPX
  have hl := lv_entry ([.ref (ad 57), .int (nI i), .int x9]) (n := 5) (Nat.le_of_ble_eq_true rfl)
  rw [lg_entry_eq]
  generalize (lg_sl ([.ref (ad 57), .int (nI i), .int x9]) ++ List.replicate (5 - (lg_sl ([.ref (ad 57), .int (nI i), .int x9])).length) Slot.unset).toArray = ls at hl ⊢
  have hl : lv_has ls 5 [(0, .ref (ad 57)), (1, .int (nI i)), (2, .int x9)] := hl
  show W p l e ({ frames := 8, cells := 1, slots := 6, locals := 123 } : Room) s m ([.ref (ad 57), .int (nI i), .int x9]).toArray below meth c s.heap [] 0 0 (vx_MQ below (fun _ _ _ _ => False) (XQ dC dI ad S IX) ([.ref (ad 57), .int (nI i), .int x9]).toArray s 1 6 (fun _ => False)) (F0 m 0 ls [])
  refine lv_aload_n hx hb dX4_drop_0 rfl (lv_at hl 0 rfl) ?_
  refine lv_iload_n hx hb dX4_drop_1 rfl (lv_at hl 1 rfl) ?_
  refine va_csr (va_Run.run (va_runV (As := [.int (nI i)]) (rest := []) ⟨hx, hb, hml, hown, hts⟩ (m_X4_rowAt l dC dI ad S i (by omega)) (cwV 1 hts gX4_drop_X4_rowAt rfl rfl rfl hdX4_rowAt_1 ⟨Nat.le_of_ble_eq_true rfl, Nat.le_of_ble_eq_true rfl⟩) (hX.preTop 57 6 (by decide) (by decide) rfl rfl) rfl rfl hl.1 rfl (lv_room (Nat.le_of_ble_eq_true rfl)) dX4_drop_2 ⟨Nat.le_of_ble_eq_true rfl, Nat.le_of_ble_eq_true rfl⟩)) (fun k_ hk_ => ?_)
  rw [hk_]
  refine lv_astore_n (lv' := [(3, .ref (ad (3 * i))), (0, .ref (ad 57)), (1, .int (nI i)), (2, .int x9)]) hx hb dX4_drop_5 rfl hl (by decide) rfl (fun ls hl => ?_)
  refine lv_aload_n hx hb dX4_drop_6 rfl (lv_at hl 0 rfl) ?_
  refine lv_iload_n hx hb dX4_drop_7 rfl (lv_at hl 3 rfl) ?_
  exact kx_pass (vx_runS (As := [.ref (ad (3 * i)), .int x9]) (rest := []) ⟨hx, hb, hml, hown, hts⟩ (t_X4_demandPlace l hst dC dI ad S i x9 (by omega) (by omega) hb9) (va_cwS 2 hts gX4_drop_X4_demandPlace rfl rfl rfl hdX4_demandPlace_2.2 ⟨Nat.le_of_ble_eq_true rfl, Nat.le_of_ble_eq_true rfl⟩) hPZ.preS rfl rfl hl.1 rfl (lv_room (Nat.le_of_ble_eq_true rfl)) dX4_drop_8 ⟨Nat.le_of_ble_eq_true rfl, Nat.le_of_ble_eq_true rfl⟩) hPX hex hlocks
set_option maxHeartbeats 4000000 in
set_option maxRecDepth 100000 in
theorem t_X4_clear_1 (l : Launch) (hst : l.stackTraces = false) (dC : Nat → ClassId) (dI : Nat → Nat → Nat) (ad : Nat → Nat) (S : XS) (x9 : Int32) (hb9 : x9 < 0 ∨ nI 3 ≤ x9) : vx_Met l yX4_clear wsX4_clear ({ frames := 8, cells := 1, slots := 6, locals := 123 } : Room) (va_Pc [.ref (ad 57), .int x9] (PXZ dC dI ad S)) (fun _ _ _ _ => False) (XQ dC dI ad S IX) 1 6 (fun _ => False) := by
  refine vx_ofW (cc := cX4_clear) (maxL := 4) (ret := (some .int)) (by decide) rfl ?_
  intro p e s m args below meth c s₁ B hml hex hv
  obtain ⟨rfl, hPZ⟩ := hv
  have hPX := hPZ.1
  have hx := B.exec
  have hb := B.bytes
  have hr := B.returns
  have hts := atoms_spec (ws := wsX4_clear) B.pre
  have hown : s.vm.findClass RX4 = some m.cls := findClass_of_methodNamed B.named
  have hlocks := B.notSynchronized
  have hX := WX.of hPX
  have hl := lv_entry ([.ref (ad 57), .int x9]) (n := 4) (Nat.le_of_ble_eq_true rfl)
  rw [lg_entry_eq]
  generalize (lg_sl ([.ref (ad 57), .int x9]) ++ List.replicate (4 - (lg_sl ([.ref (ad 57), .int x9])).length) Slot.unset).toArray = ls at hl ⊢
  have hl : lv_has ls 4 [(0, .ref (ad 57)), (1, .int x9)] := hl
  show W p l e ({ frames := 8, cells := 1, slots := 6, locals := 123 } : Room) s m ([.ref (ad 57), .int x9]).toArray below meth c s.heap [] 0 0 (vx_MQ below (fun _ _ _ _ => False) (XQ dC dI ad S IX) ([.ref (ad 57), .int x9]).toArray s 1 6 (fun _ => False)) (F0 m 0 ls [])
  refine lv_aload_n hx hb dX4_clear_0 rfl (lv_at hl 0 rfl) ?_
  refine lv_iload_n hx hb dX4_clear_1 rfl (lv_at hl 1 rfl) ?_
  exact kx_pass (vx_runV (As := [.int x9]) (rest := []) ⟨hx, hb, hml, hown, hts⟩ (t_X4_rowAt l hst dC dI ad S x9 hb9) (cwV 1 hts gX4_clear_X4_rowAt rfl rfl rfl hdX4_rowAt_1 ⟨Nat.le_of_ble_eq_true rfl, Nat.le_of_ble_eq_true rfl⟩) (hPZ.preX) rfl rfl hl.1 rfl (lv_room (Nat.le_of_ble_eq_true rfl)) dX4_clear_2 ⟨Nat.le_of_ble_eq_true rfl, Nat.le_of_ble_eq_true rfl⟩) hPX hex hlocks
set_option maxHeartbeats 4000000 in
set_option maxRecDepth 100000 in
theorem t_X4_copyRow_1 (l : Launch) (hst : l.stackTraces = false) (dC : Nat → ClassId) (dI : Nat → Nat → Nat) (ad : Nat → Nat) (S : XS) (x9 : Int32) (y1 : Int32) (hb9 : x9 < 0 ∨ nI 3 ≤ x9) : vx_Met l yX4_copyRow wsX4_copyRow ({ frames := 8, cells := 1, slots := 6, locals := 123 } : Room) (va_Pc [.ref (ad 57), .int x9, .int y1] (PXZ dC dI ad S)) (fun _ _ _ _ => False) (XQ dC dI ad S IX) 1 6 (fun _ => False) := by
  refine vx_ofW (cc := cX4_copyRow) (maxL := 5) (ret := (some .int)) (by decide) rfl ?_
  intro p e s m args below meth c s₁ B hml hex hv
  obtain ⟨rfl, hPZ⟩ := hv
  have hPX := hPZ.1
  have hx := B.exec
  have hb := B.bytes
  have hr := B.returns
  have hts := atoms_spec (ws := wsX4_copyRow) B.pre
  have hown : s.vm.findClass RX4 = some m.cls := findClass_of_methodNamed B.named
  have hlocks := B.notSynchronized
  have hX := WX.of hPX
  have hl := lv_entry ([.ref (ad 57), .int x9, .int y1]) (n := 5) (Nat.le_of_ble_eq_true rfl)
  rw [lg_entry_eq]
  generalize (lg_sl ([.ref (ad 57), .int x9, .int y1]) ++ List.replicate (5 - (lg_sl ([.ref (ad 57), .int x9, .int y1])).length) Slot.unset).toArray = ls at hl ⊢
  have hl : lv_has ls 5 [(0, .ref (ad 57)), (1, .int x9), (2, .int y1)] := hl
  show W p l e ({ frames := 8, cells := 1, slots := 6, locals := 123 } : Room) s m ([.ref (ad 57), .int x9, .int y1]).toArray below meth c s.heap [] 0 0 (vx_MQ below (fun _ _ _ _ => False) (XQ dC dI ad S IX) ([.ref (ad 57), .int x9, .int y1]).toArray s 1 6 (fun _ => False)) (F0 m 0 ls [])
  refine lv_aload_n hx hb dX4_copyRow_0 rfl (lv_at hl 0 rfl) ?_
  refine lv_iload_n hx hb dX4_copyRow_1 rfl (lv_at hl 1 rfl) ?_
  exact kx_pass (vx_runV (As := [.int x9]) (rest := []) ⟨hx, hb, hml, hown, hts⟩ (t_X4_rowAt l hst dC dI ad S x9 hb9) (cwV 1 hts gX4_copyRow_X4_rowAt rfl rfl rfl hdX4_rowAt_1 ⟨Nat.le_of_ble_eq_true rfl, Nat.le_of_ble_eq_true rfl⟩) (hPZ.preX) rfl rfl hl.1 rfl (lv_room (Nat.le_of_ble_eq_true rfl)) dX4_copyRow_2 ⟨Nat.le_of_ble_eq_true rfl, Nat.le_of_ble_eq_true rfl⟩) hPX hex hlocks
set_option maxHeartbeats 4000000 in
set_option maxRecDepth 100000 in
theorem t_X4_copyRow_2 (l : Launch) (hst : l.stackTraces = false) (dC : Nat → ClassId) (dI : Nat → Nat → Nat) (ad : Nat → Nat) (S : XS) (i : Nat) (x9 : Int32) (hi : i < 3) (hb9 : x9 < 0 ∨ nI 3 ≤ x9) : vx_Met l yX4_copyRow wsX4_copyRow ({ frames := 8, cells := 1, slots := 6, locals := 123 } : Room) (va_Pc [.ref (ad 57), .int (nI i), .int x9] (PXZ dC dI ad S)) (fun _ _ _ _ => False) (XQ dC dI ad S IX) 1 6 (fun _ => False) := by
  refine vx_ofW (cc := cX4_copyRow) (maxL := 5) (ret := (some .int)) (by decide) rfl ?_
  intro p e s m args below meth c s₁ B hml hex hv
  obtain ⟨rfl, hPZ⟩ := hv
  have hPX := hPZ.1
  have hx := B.exec
  have hb := B.bytes
  have hr := B.returns
  have hts := atoms_spec (ws := wsX4_copyRow) B.pre
  have hown : s.vm.findClass RX4 = some m.cls := findClass_of_methodNamed B.named
  have hlocks := B.notSynchronized
  have hX := WX.of hPX
  have hl := lv_entry ([.ref (ad 57), .int (nI i), .int x9]) (n := 5) (Nat.le_of_ble_eq_true rfl)
  rw [lg_entry_eq]
  generalize (lg_sl ([.ref (ad 57), .int (nI i), .int x9]) ++ List.replicate (5 - (lg_sl ([.ref (ad 57), .int (nI i), .int x9])).length) Slot.unset).toArray = ls at hl ⊢
  have hl : lv_has ls 5 [(0, .ref (ad 57)), (1, .int (nI i)), (2, .int x9)] := hl
  show W p l e ({ frames := 8, cells := 1, slots := 6, locals := 123 } : Room) s m ([.ref (ad 57), .int (nI i), .int x9]).toArray below meth c s.heap [] 0 0 (vx_MQ below (fun _ _ _ _ => False) (XQ dC dI ad S IX) ([.ref (ad 57), .int (nI i), .int x9]).toArray s 1 6 (fun _ => False)) (F0 m 0 ls [])
  refine lv_aload_n hx hb dX4_copyRow_0 rfl (lv_at hl 0 rfl) ?_
  refine lv_iload_n hx hb dX4_copyRow_1 rfl (lv_at hl 1 rfl) ?_
  refine va_csr (va_Run.run (va_runV (As := [.int (nI i)]) (rest := []) ⟨hx, hb, hml, hown, hts⟩ (m_X4_rowAt l dC dI ad S i (by omega)) (cwV 1 hts gX4_copyRow_X4_rowAt rfl rfl rfl hdX4_rowAt_1 ⟨Nat.le_of_ble_eq_true rfl, Nat.le_of_ble_eq_true rfl⟩) (hX.preTop 57 6 (by decide) (by decide) rfl rfl) rfl rfl hl.1 rfl (lv_room (Nat.le_of_ble_eq_true rfl)) dX4_copyRow_2 ⟨Nat.le_of_ble_eq_true rfl, Nat.le_of_ble_eq_true rfl⟩)) (fun k_ hk_ => ?_)
  rw [hk_]
  refine lv_astore_n (lv' := [(3, .ref (ad (3 * i))), (0, .ref (ad 57)), (1, .int (nI i)), (2, .int x9)]) hx hb dX4_copyRow_5 rfl hl (by decide) rfl (fun ls hl => ?_)
  refine lv_aload_n hx hb dX4_copyRow_6 rfl (lv_at hl 1 rfl) ?_
  refine lv_iload_n hx hb dX4_copyRow_7 rfl (lv_at hl 3 rfl) ?_
  exact kx_pass (vx_runV (As := [.int x9]) (rest := []) ⟨hx, hb, hml, hown, hts⟩ (t_X4_rowAt l hst dC dI ad S x9 hb9) (cwV 1 hts gX4_copyRow_X4_rowAt rfl rfl rfl hdX4_rowAt_1 ⟨Nat.le_of_ble_eq_true rfl, Nat.le_of_ble_eq_true rfl⟩) (hPZ.preX) rfl rfl hl.1 rfl (lv_room (Nat.le_of_ble_eq_true rfl)) dX4_copyRow_8 ⟨Nat.le_of_ble_eq_true rfl, Nat.le_of_ble_eq_true rfl⟩) hPX hex hlocks
set_option maxHeartbeats 4000000 in
set_option maxRecDepth 100000 in
theorem t_X4_turnRow_1 (l : Launch) (hst : l.stackTraces = false) (dC : Nat → ClassId) (dI : Nat → Nat → Nat) (ad : Nat → Nat) (S : XS) (x9 : Int32) (hb9 : x9 < 0 ∨ nI 3 ≤ x9) : vx_Met l yX4_turnRow wsX4_turnRow ({ frames := 8, cells := 1, slots := 6, locals := 123 } : Room) (va_Pc [.ref (ad 57), .int x9] (PXZ dC dI ad S)) (fun _ _ _ _ => False) (XQ dC dI ad S IX) 1 6 (fun _ => False) := by
  refine vx_ofW (cc := cX4_turnRow) (maxL := 3) (ret := (some .int)) (by decide) rfl ?_
  intro p e s m args below meth c s₁ B hml hex hv
  obtain ⟨rfl, hPZ⟩ := hv
  have hPX := hPZ.1
  have hx := B.exec
  have hb := B.bytes
  have hr := B.returns
  have hts := atoms_spec (ws := wsX4_turnRow) B.pre
  have hown : s.vm.findClass RX4 = some m.cls := findClass_of_methodNamed B.named
  have hlocks := B.notSynchronized
  have hX := WX.of hPX
  have hl := lv_entry ([.ref (ad 57), .int x9]) (n := 3) (Nat.le_of_ble_eq_true rfl)
  rw [lg_entry_eq]
  generalize (lg_sl ([.ref (ad 57), .int x9]) ++ List.replicate (3 - (lg_sl ([.ref (ad 57), .int x9])).length) Slot.unset).toArray = ls at hl ⊢
  have hl : lv_has ls 3 [(0, .ref (ad 57)), (1, .int x9)] := hl
  show W p l e ({ frames := 8, cells := 1, slots := 6, locals := 123 } : Room) s m ([.ref (ad 57), .int x9]).toArray below meth c s.heap [] 0 0 (vx_MQ below (fun _ _ _ _ => False) (XQ dC dI ad S IX) ([.ref (ad 57), .int x9]).toArray s 1 6 (fun _ => False)) (F0 m 0 ls [])
  refine lv_aload_n hx hb dX4_turnRow_0 rfl (lv_at hl 0 rfl) ?_
  refine lv_iload_n hx hb dX4_turnRow_1 rfl (lv_at hl 1 rfl) ?_
  exact kx_pass (vx_runV (As := [.int x9]) (rest := []) ⟨hx, hb, hml, hown, hts⟩ (t_X4_rowAt l hst dC dI ad S x9 hb9) (cwV 1 hts gX4_turnRow_X4_rowAt rfl rfl rfl hdX4_rowAt_1 ⟨Nat.le_of_ble_eq_true rfl, Nat.le_of_ble_eq_true rfl⟩) (hPZ.preX) rfl rfl hl.1 rfl (lv_room (Nat.le_of_ble_eq_true rfl)) dX4_turnRow_2 ⟨Nat.le_of_ble_eq_true rfl, Nat.le_of_ble_eq_true rfl⟩) hPX hex hlocks
set_option maxHeartbeats 4000000 in
set_option maxRecDepth 100000 in
theorem t_X4_wheel_1 (l : Launch) (hst : l.stackTraces = false) (dC : Nat → ClassId) (dI : Nat → Nat → Nat) (ad : Nat → Nat) (S : XS) (x9 : Int32) (y1 : Int32) (hb9 : x9 < 0 ∨ nI 3 ≤ x9) : vx_Met l yX4_wheel wsX4_wheel ({ frames := 8, cells := 1, slots := 6, locals := 123 } : Room) (va_Pc [.ref (ad 57), .int x9, .int y1] (PXZ dC dI ad S)) (fun _ _ _ _ => False) (XQ dC dI ad S IX) 1 6 (fun _ => False) := by
  refine vx_ofW (cc := cX4_wheel) (maxL := 7) (ret := (some .int)) (by decide) rfl ?_
  intro p e s m args below meth c s₁ B hml hex hv
  obtain ⟨rfl, hPZ⟩ := hv
  have hPX := hPZ.1
  have hx := B.exec
  have hb := B.bytes
  have hr := B.returns
  have hts := atoms_spec (ws := wsX4_wheel) B.pre
  have hown : s.vm.findClass RX4 = some m.cls := findClass_of_methodNamed B.named
  have hlocks := B.notSynchronized
  have hin4 : ∀ w ∈ u_ws RX4 TX4 9, w ∈ wsX4_wheel := tu 1328 (by decide +kernel) rfl
  have hX := WX.of hPX
  have hl := lv_entry ([.ref (ad 57), .int x9, .int y1]) (n := 7) (Nat.le_of_ble_eq_true rfl)
  rw [lg_entry_eq]
  generalize (lg_sl ([.ref (ad 57), .int x9, .int y1]) ++ List.replicate (7 - (lg_sl ([.ref (ad 57), .int x9, .int y1])).length) Slot.unset).toArray = ls at hl ⊢
  have hl : lv_has ls 7 [(0, .ref (ad 57)), (1, .int x9), (2, .int y1)] := hl
  show W p l e ({ frames := 8, cells := 1, slots := 6, locals := 123 } : Room) s m ([.ref (ad 57), .int x9, .int y1]).toArray below meth c s.heap [] 0 0 (vx_MQ below (fun _ _ _ _ => False) (XQ dC dI ad S IX) ([.ref (ad 57), .int x9, .int y1]).toArray s 1 6 (fun _ => False)) (F0 m 0 ls [])
  refine lv_aload_n hx hb dX4_wheel_0 rfl (lv_at hl 0 rfl) ?_
  refine lv_iload_n hx hb dX4_wheel_1 rfl (lv_at hl 1 rfl) ?_
  exact kx_pass (vx_runV (As := [.int x9]) (rest := []) ⟨hx, hb, hml, hown, hts⟩ (t_X4_rowAt l hst dC dI ad S x9 hb9) (cwV 1 hts gX4_wheel_X4_rowAt rfl rfl rfl hdX4_rowAt_1 ⟨Nat.le_of_ble_eq_true rfl, Nat.le_of_ble_eq_true rfl⟩) (hPZ.preX) rfl rfl hl.1 rfl (lv_room (Nat.le_of_ble_eq_true rfl)) dX4_wheel_2 ⟨Nat.le_of_ble_eq_true rfl, Nat.le_of_ble_eq_true rfl⟩) hPX hex hlocks
set_option maxHeartbeats 4000000 in
set_option maxRecDepth 100000 in
theorem t_X4_swap_1 (l : Launch) (hst : l.stackTraces = false) (dC : Nat → ClassId) (dI : Nat → Nat → Nat) (ad : Nat → Nat) (S : XS) (x9 : Int32) (y1 : Int32) (y2 : Int32) (hb9 : x9 < 0 ∨ nI 3 ≤ x9) : vx_Met l yX4_swap wsX4_swap ({ frames := 8, cells := 1, slots := 6, locals := 123 } : Room) (va_Pc [.ref (ad 57), .int x9, .int y1, .int y2] (PXZ dC dI ad S)) (fun _ _ _ _ => False) (XQ dC dI ad S IX) 1 6 (fun _ => False) := by
  refine vx_ofW (cc := cX4_swap) (maxL := 5) (ret := (some .int)) (by decide) rfl ?_
  intro p e s m args below meth c s₁ B hml hex hv
  obtain ⟨rfl, hPZ⟩ := hv
  have hPX := hPZ.1
  have hx := B.exec
  have hb := B.bytes
  have hr := B.returns
  have hts := atoms_spec (ws := wsX4_swap) B.pre
  have hown : s.vm.findClass RX4 = some m.cls := findClass_of_methodNamed B.named
  have hlocks := B.notSynchronized
  have hX := WX.of hPX
  have hl := lv_entry ([.ref (ad 57), .int x9, .int y1, .int y2]) (n := 5) (Nat.le_of_ble_eq_true rfl)
  rw [lg_entry_eq]
  generalize (lg_sl ([.ref (ad 57), .int x9, .int y1, .int y2]) ++ List.replicate (5 - (lg_sl ([.ref (ad 57), .int x9, .int y1, .int y2])).length) Slot.unset).toArray = ls at hl ⊢
  have hl : lv_has ls 5 [(0, .ref (ad 57)), (1, .int x9), (2, .int y1), (3, .int y2)] := hl
  show W p l e ({ frames := 8, cells := 1, slots := 6, locals := 123 } : Room) s m ([.ref (ad 57), .int x9, .int y1, .int y2]).toArray below meth c s.heap [] 0 0 (vx_MQ below (fun _ _ _ _ => False) (XQ dC dI ad S IX) ([.ref (ad 57), .int x9, .int y1, .int y2]).toArray s 1 6 (fun _ => False)) (F0 m 0 ls [])
  refine lv_aload_n hx hb dX4_swap_0 rfl (lv_at hl 0 rfl) ?_
  refine lv_iload_n hx hb dX4_swap_1 rfl (lv_at hl 1 rfl) ?_
  exact kx_pass (vx_runV (As := [.int x9]) (rest := []) ⟨hx, hb, hml, hown, hts⟩ (t_X4_rowAt l hst dC dI ad S x9 hb9) (cwV 1 hts gX4_swap_X4_rowAt rfl rfl rfl hdX4_rowAt_1 ⟨Nat.le_of_ble_eq_true rfl, Nat.le_of_ble_eq_true rfl⟩) (hPZ.preX) rfl rfl hl.1 rfl (lv_room (Nat.le_of_ble_eq_true rfl)) dX4_swap_2 ⟨Nat.le_of_ble_eq_true rfl, Nat.le_of_ble_eq_true rfl⟩) hPX hex hlocks
set_option maxHeartbeats 4000000 in
set_option maxRecDepth 100000 in
theorem t_X4_swap_2 (l : Launch) (hst : l.stackTraces = false) (dC : Nat → ClassId) (dI : Nat → Nat → Nat) (ad : Nat → Nat) (S : XS) (i : Nat) (x9 : Int32) (y2 : Int32) (hi : i < 3) (hn : (S.1 i).2.2 ≤ 16) (hb9 : x9 < 0 ∨ nI (S.1 i).2.2 ≤ x9) : vx_Met l yX4_swap wsX4_swap ({ frames := 8, cells := 1, slots := 6, locals := 123 } : Room) (va_Pc [.ref (ad 57), .int (nI i), .int x9, .int y2] (PXZ dC dI ad S)) (fun _ _ _ _ => False) (XQ dC dI ad S IX) 1 6 (fun _ => False) := by
  refine vx_ofW (cc := cX4_swap) (maxL := 5) (ret := (some .int)) (by decide) rfl ?_
  intro p e s m args below meth c s₁ B hml hex hv
  obtain ⟨rfl, hPZ⟩ := hv
  have hPX := hPZ.1
  have hx := B.exec
  have hb := B.bytes
  have hr := B.returns
  have hts := atoms_spec (ws := wsX4_swap) B.pre
  have hown : s.vm.findClass RX4 = some m.cls := findClass_of_methodNamed B.named
  have hlocks := B.notSynchronized
  have hX := WX.of hPX
  have hl := lv_entry ([.ref (ad 57), .int (nI i), .int x9, .int y2]) (n := 5) (Nat.le_of_ble_eq_true rfl)
  rw [lg_entry_eq]
  generalize (lg_sl ([.ref (ad 57), .int (nI i), .int x9, .int y2]) ++ List.replicate (5 - (lg_sl ([.ref (ad 57), .int (nI i), .int x9, .int y2])).length) Slot.unset).toArray = ls at hl ⊢
  have hl : lv_has ls 5 [(0, .ref (ad 57)), (1, .int (nI i)), (2, .int x9), (3, .int y2)] := hl
  show W p l e ({ frames := 8, cells := 1, slots := 6, locals := 123 } : Room) s m ([.ref (ad 57), .int (nI i), .int x9, .int y2]).toArray below meth c s.heap [] 0 0 (vx_MQ below (fun _ _ _ _ => False) (XQ dC dI ad S IX) ([.ref (ad 57), .int (nI i), .int x9, .int y2]).toArray s 1 6 (fun _ => False)) (F0 m 0 ls [])
  refine lv_aload_n hx hb dX4_swap_0 rfl (lv_at hl 0 rfl) ?_
  refine lv_iload_n hx hb dX4_swap_1 rfl (lv_at hl 1 rfl) ?_
  refine va_csr (va_Run.run (va_runV (As := [.int (nI i)]) (rest := []) ⟨hx, hb, hml, hown, hts⟩ (m_X4_rowAt l dC dI ad S i (by omega)) (cwV 1 hts gX4_swap_X4_rowAt rfl rfl rfl hdX4_rowAt_1 ⟨Nat.le_of_ble_eq_true rfl, Nat.le_of_ble_eq_true rfl⟩) (hX.preTop 57 6 (by decide) (by decide) rfl rfl) rfl rfl hl.1 rfl (lv_room (Nat.le_of_ble_eq_true rfl)) dX4_swap_2 ⟨Nat.le_of_ble_eq_true rfl, Nat.le_of_ble_eq_true rfl⟩)) (fun k_ hk_ => ?_)
  rw [hk_]
  refine lv_astore (lv' := [(4, .ref (ad (3 * i))), (0, .ref (ad 57)), (1, .int (nI i)), (2, .int x9), (3, .int y2)]) hx hb dX4_swap_5 hl (by decide) rfl (fun ls hl => ?_)
  refine lv_aload hx hb dX4_swap_7 (lv_at hl 0 rfl) ?_
  refine lv_iload_n hx hb dX4_swap_9 rfl (lv_at hl 3 rfl) ?_
  exact kx_pass (vx_runS (As := [.ref (ad (3 * i)), .int x9]) (rest := []) ⟨hx, hb, hml, hown, hts⟩ (t_X4_demandPlace l hst dC dI ad S i x9 (by omega) (by omega) hb9) (va_cwS 2 hts gX4_swap_X4_demandPlace rfl rfl rfl hdX4_demandPlace_2.2 ⟨Nat.le_of_ble_eq_true rfl, Nat.le_of_ble_eq_true rfl⟩) hPZ.preS rfl rfl hl.1 rfl (lv_room (Nat.le_of_ble_eq_true rfl)) dX4_swap_10 ⟨Nat.le_of_ble_eq_true rfl, Nat.le_of_ble_eq_true rfl⟩) hPX hex hlocks
set_option maxHeartbeats 4000000 in
set_option maxRecDepth 100000 in
theorem t_X4_swap_3 (l : Launch) (hst : l.stackTraces = false) (dC : Nat → ClassId) (dI : Nat → Nat → Nat) (ad : Nat → Nat) (S : XS) (i : Nat) (q : Nat) (x9 : Int32) (hi : i < 3) (hq : q < (S.1 i).2.2) (hn : (S.1 i).2.2 ≤ 16) (hb9 : x9 < 0 ∨ nI (S.1 i).2.2 ≤ x9) : vx_Met l yX4_swap wsX4_swap ({ frames := 8, cells := 1, slots := 6, locals := 123 } : Room) (va_Pc [.ref (ad 57), .int (nI i), .int (nI q), .int x9] (PXZ dC dI ad S)) (fun _ _ _ _ => False) (XQ dC dI ad S IX) 1 6 (fun _ => False) := by
  refine vx_ofW (cc := cX4_swap) (maxL := 5) (ret := (some .int)) (by decide) rfl ?_
  intro p e s m args below meth c s₁ B hml hex hv
  obtain ⟨rfl, hPZ⟩ := hv
  have hPX := hPZ.1
  have hx := B.exec
  have hb := B.bytes
  have hr := B.returns
  have hts := atoms_spec (ws := wsX4_swap) B.pre
  have hown : s.vm.findClass RX4 = some m.cls := findClass_of_methodNamed B.named
  have hlocks := B.notSynchronized
  have hX := WX.of hPX
  have hl := lv_entry ([.ref (ad 57), .int (nI i), .int (nI q), .int x9]) (n := 5) (Nat.le_of_ble_eq_true rfl)
  rw [lg_entry_eq]
  generalize (lg_sl ([.ref (ad 57), .int (nI i), .int (nI q), .int x9]) ++ List.replicate (5 - (lg_sl ([.ref (ad 57), .int (nI i), .int (nI q), .int x9])).length) Slot.unset).toArray = ls at hl ⊢
  have hl : lv_has ls 5 [(0, .ref (ad 57)), (1, .int (nI i)), (2, .int (nI q)), (3, .int x9)] := hl
  show W p l e ({ frames := 8, cells := 1, slots := 6, locals := 123 } : Room) s m ([.ref (ad 57), .int (nI i), .int (nI q), .int x9]).toArray below meth c s.heap [] 0 0 (vx_MQ below (fun _ _ _ _ => False) (XQ dC dI ad S IX) ([.ref (ad 57), .int (nI i), .int (nI q), .int x9]).toArray s 1 6 (fun _ => False)) (F0 m 0 ls [])
  refine lv_aload_n hx hb dX4_swap_0 rfl (lv_at hl 0 rfl) ?_
  refine lv_iload_n hx hb dX4_swap_1 rfl (lv_at hl 1 rfl) ?_
  refine va_csr (va_Run.run (va_runV (As := [.int (nI i)]) (rest := []) ⟨hx, hb, hml, hown, hts⟩ (m_X4_rowAt l dC dI ad S i (by omega)) (cwV 1 hts gX4_swap_X4_rowAt rfl rfl rfl hdX4_rowAt_1 ⟨Nat.le_of_ble_eq_true rfl, Nat.le_of_ble_eq_true rfl⟩) (hX.preTop 57 6 (by decide) (by decide) rfl rfl) rfl rfl hl.1 rfl (lv_room (Nat.le_of_ble_eq_true rfl)) dX4_swap_2 ⟨Nat.le_of_ble_eq_true rfl, Nat.le_of_ble_eq_true rfl⟩)) (fun k_ hk_ => ?_)
  rw [hk_]
  refine lv_astore (lv' := [(4, .ref (ad (3 * i))), (0, .ref (ad 57)), (1, .int (nI i)), (2, .int (nI q)), (3, .int x9)]) hx hb dX4_swap_5 hl (by decide) rfl (fun ls hl => ?_)
  refine lv_aload hx hb dX4_swap_7 (lv_at hl 0 rfl) ?_
  refine lv_iload_n hx hb dX4_swap_9 rfl (lv_at hl 3 rfl) ?_
  refine va_csv (va_Run.run (va_runS (As := [.ref (ad (3 * i)), .int (nI q)]) (rest := []) ⟨hx, hb, hml, hown, hts⟩ (m_X4_demandPlace l dC dI ad S i q (by omega) (by omega) (by omega)) (va_cwS 2 hts gX4_swap_X4_demandPlace rfl rfl rfl hdX4_demandPlace_2.2 ⟨Nat.le_of_ble_eq_true rfl, Nat.le_of_ble_eq_true rfl⟩) hX.preS rfl rfl hl.1 rfl (lv_room (Nat.le_of_ble_eq_true rfl)) dX4_swap_10 ⟨Nat.le_of_ble_eq_true rfl, Nat.le_of_ble_eq_true rfl⟩)) (fun _ => ?_)
  refine lv_aload hx hb dX4_swap_13 (lv_at hl 0 rfl) ?_
  refine lv_iload_n hx hb dX4_swap_15 rfl (lv_at hl 4 rfl) ?_
  exact kx_pass (vx_runS (As := [.ref (ad (3 * i)), .int x9]) (rest := []) ⟨hx, hb, hml, hown, hts⟩ (t_X4_demandPlace l hst dC dI ad S i x9 (by omega) (by omega) hb9) (va_cwS 2 hts gX4_swap_X4_demandPlace rfl rfl rfl hdX4_demandPlace_2.2 ⟨Nat.le_of_ble_eq_true rfl, Nat.le_of_ble_eq_true rfl⟩) hPZ.preS rfl rfl hl.1 rfl (lv_room (Nat.le_of_ble_eq_true rfl)) dX4_swap_16 ⟨Nat.le_of_ble_eq_true rfl, Nat.le_of_ble_eq_true rfl⟩) hPX hex hlocks
set_option maxHeartbeats 4000000 in
set_option maxRecDepth 100000 in
theorem t_X4_sort_1 (l : Launch) (hst : l.stackTraces = false) (dC : Nat → ClassId) (dI : Nat → Nat → Nat) (ad : Nat → Nat) (S : XS) (x9 : Int32) (y1 : Int32) (y2 : Int32) (hb9 : x9 < 0 ∨ nI 3 ≤ x9) : vx_Met l yX4_sort wsX4_sort ({ frames := 8, cells := 1, slots := 6, locals := 123 } : Room) (va_Pc [.ref (ad 57), .int x9, .int y1, .int y2] (PXZ dC dI ad S)) (fun _ _ _ _ => False) (XQ dC dI ad S IX) 1 6 (fun _ => False) := by
  refine vx_ofW (cc := cX4_sort) (maxL := 6) (ret := (some .int)) (by decide) rfl ?_
  intro p e s m args below meth c s₁ B hml hex hv
  obtain ⟨rfl, hPZ⟩ := hv
  have hPX := hPZ.1
  have hx := B.exec
  have hb := B.bytes
  have hr := B.returns
  have hts := atoms_spec (ws := wsX4_sort) B.pre
  have hown : s.vm.findClass RX4 = some m.cls := findClass_of_methodNamed B.named
  have hlocks := B.notSynchronized
  have hin4 : ∀ w ∈ u_ws RX4 TX4 9, w ∈ wsX4_sort := tu 1328 (by decide +kernel) rfl
  have hX := WX.of hPX
  have hl := lv_entry ([.ref (ad 57), .int x9, .int y1, .int y2]) (n := 6) (Nat.le_of_ble_eq_true rfl)
  rw [lg_entry_eq]
  generalize (lg_sl ([.ref (ad 57), .int x9, .int y1, .int y2]) ++ List.replicate (6 - (lg_sl ([.ref (ad 57), .int x9, .int y1, .int y2])).length) Slot.unset).toArray = ls at hl ⊢
  have hl : lv_has ls 6 [(0, .ref (ad 57)), (1, .int x9), (2, .int y1), (3, .int y2)] := hl
  show W p l e ({ frames := 8, cells := 1, slots := 6, locals := 123 } : Room) s m ([.ref (ad 57), .int x9, .int y1, .int y2]).toArray below meth c s.heap [] 0 0 (vx_MQ below (fun _ _ _ _ => False) (XQ dC dI ad S IX) ([.ref (ad 57), .int x9, .int y1, .int y2]).toArray s 1 6 (fun _ => False)) (F0 m 0 ls [])
  refine lv_aload_n hx hb dX4_sort_0 rfl (lv_at hl 0 rfl) ?_
  refine lv_iload_n hx hb dX4_sort_1 rfl (lv_at hl 1 rfl) ?_
  exact kx_pass (vx_runV (As := [.int x9]) (rest := []) ⟨hx, hb, hml, hown, hts⟩ (t_X4_rowAt l hst dC dI ad S x9 hb9) (cwV 1 hts gX4_sort_X4_rowAt rfl rfl rfl hdX4_rowAt_1 ⟨Nat.le_of_ble_eq_true rfl, Nat.le_of_ble_eq_true rfl⟩) (hPZ.preX) rfl rfl hl.1 rfl (lv_room (Nat.le_of_ble_eq_true rfl)) dX4_sort_2 ⟨Nat.le_of_ble_eq_true rfl, Nat.le_of_ble_eq_true rfl⟩) hPX hex hlocks
set_option maxHeartbeats 4000000 in
set_option maxRecDepth 100000 in
theorem t_X4_sort_2 (l : Launch) (hst : l.stackTraces = false) (dC : Nat → ClassId) (dI : Nat → Nat → Nat) (ad : Nat → Nat) (S : XS) (i : Nat) (x9 : Int32) (y2 : Int32) (hi : i < 3) (hb9 : x9 < 0 ∨ nI 4 ≤ x9) : vx_Met l yX4_sort wsX4_sort ({ frames := 8, cells := 1, slots := 6, locals := 123 } : Room) (va_Pc [.ref (ad 57), .int (nI i), .int x9, .int y2] (PXZ dC dI ad S)) (fun _ _ _ _ => False) (XQ dC dI ad S IX) 1 6 (fun _ => False) := by
  refine vx_ofW (cc := cX4_sort) (maxL := 6) (ret := (some .int)) (by decide) rfl ?_
  intro p e s m args below meth c s₁ B hml hex hv
  obtain ⟨rfl, hPZ⟩ := hv
  have hPX := hPZ.1
  have hx := B.exec
  have hb := B.bytes
  have hr := B.returns
  have hts := atoms_spec (ws := wsX4_sort) B.pre
  have hown : s.vm.findClass RX4 = some m.cls := findClass_of_methodNamed B.named
  have hlocks := B.notSynchronized
  have hin4 : ∀ w ∈ u_ws RX4 TX4 9, w ∈ wsX4_sort := tu 1328 (by decide +kernel) rfl
  have hX := WX.of hPX
  have hl := lv_entry ([.ref (ad 57), .int (nI i), .int x9, .int y2]) (n := 6) (Nat.le_of_ble_eq_true rfl)
  rw [lg_entry_eq]
  generalize (lg_sl ([.ref (ad 57), .int (nI i), .int x9, .int y2]) ++ List.replicate (6 - (lg_sl ([.ref (ad 57), .int (nI i), .int x9, .int y2])).length) Slot.unset).toArray = ls at hl ⊢
  have hl : lv_has ls 6 [(0, .ref (ad 57)), (1, .int (nI i)), (2, .int x9), (3, .int y2)] := hl
  show W p l e ({ frames := 8, cells := 1, slots := 6, locals := 123 } : Room) s m ([.ref (ad 57), .int (nI i), .int x9, .int y2]).toArray below meth c s.heap [] 0 0 (vx_MQ below (fun _ _ _ _ => False) (XQ dC dI ad S IX) ([.ref (ad 57), .int (nI i), .int x9, .int y2]).toArray s 1 6 (fun _ => False)) (F0 m 0 ls [])
  refine lv_aload_n hx hb dX4_sort_0 rfl (lv_at hl 0 rfl) ?_
  refine lv_iload_n hx hb dX4_sort_1 rfl (lv_at hl 1 rfl) ?_
  refine va_csr (va_Run.run (va_runV (As := [.int (nI i)]) (rest := []) ⟨hx, hb, hml, hown, hts⟩ (m_X4_rowAt l dC dI ad S i (by omega)) (cwV 1 hts gX4_sort_X4_rowAt rfl rfl rfl hdX4_rowAt_1 ⟨Nat.le_of_ble_eq_true rfl, Nat.le_of_ble_eq_true rfl⟩) (hX.preTop 57 6 (by decide) (by decide) rfl rfl) rfl rfl hl.1 rfl (lv_room (Nat.le_of_ble_eq_true rfl)) dX4_sort_2 ⟨Nat.le_of_ble_eq_true rfl, Nat.le_of_ble_eq_true rfl⟩)) (fun k_ hk_ => ?_)
  rw [hk_]
  refine lv_astore (lv' := [(4, .ref (ad (3 * i))), (0, .ref (ad 57)), (1, .int (nI i)), (2, .int x9), (3, .int y2)]) hx hb dX4_sort_5 hl (by decide) rfl (fun ls hl => ?_)
  refine lv_aload_n hx hb dX4_sort_7 rfl (lv_at hl 1 rfl) ?_
  refine lv_iload_n hx hb dX4_sort_8 rfl (lv_at hl 3 rfl) ?_
  exact kx_pass (vx_runV (As := [.int x9]) (rest := []) ⟨hx, hb, hml, hown, hts⟩ (t_X4_orderAt l hst dC dI ad S x9 hb9) (cwV 1 hts gX4_sort_X4_orderAt rfl rfl rfl hdX4_orderAt_1 ⟨Nat.le_of_ble_eq_true rfl, Nat.le_of_ble_eq_true rfl⟩) (hPZ.preX) rfl rfl hl.1 rfl (lv_room (Nat.le_of_ble_eq_true rfl)) dX4_sort_9 ⟨Nat.le_of_ble_eq_true rfl, Nat.le_of_ble_eq_true rfl⟩) hPX hex hlocks
set_option maxHeartbeats 4000000 in
set_option maxRecDepth 100000 in
theorem t_X4_sort_3 (l : Launch) (hst : l.stackTraces = false) (dC : Nat → ClassId) (dI : Nat → Nat → Nat) (ad : Nat → Nat) (S : XS) (i : Nat) (j : Nat) (x9 : Int32) (hi : i < 3) (hj : j < 4) (hb9 : x9 < 0 ∨ nI 2 < x9) : vx_Met l yX4_sort wsX4_sort ({ frames := 8, cells := 1, slots := 6, locals := 123 } : Room) (va_Pc [.ref (ad 57), .int (nI i), .int (nI j), .int x9] (PXZ dC dI ad S)) (fun _ _ _ _ => False) (XQ dC dI ad S IA) 1 6 (fun _ => False) := by
  refine vx_ofW (cc := cX4_sort) (maxL := 6) (ret := (some .int)) (by decide) rfl ?_
  intro p e s m args below meth c s₁ B hml hex hv
  obtain ⟨rfl, hPZ⟩ := hv
  have hPX := hPZ.1
  have hx := B.exec
  have hb := B.bytes
  have hr := B.returns
  have hts := atoms_spec (ws := wsX4_sort) B.pre
  have hown : s.vm.findClass RX4 = some m.cls := findClass_of_methodNamed B.named
  have hlocks := B.notSynchronized
  have hin4 : ∀ w ∈ u_ws RX4 TX4 9, w ∈ wsX4_sort := tu 1328 (by decide +kernel) rfl
  have hX := WX.of hPX
  have hl := lv_entry ([.ref (ad 57), .int (nI i), .int (nI j), .int x9]) (n := 6) (Nat.le_of_ble_eq_true rfl)
  rw [lg_entry_eq]
  generalize (lg_sl ([.ref (ad 57), .int (nI i), .int (nI j), .int x9]) ++ List.replicate (6 - (lg_sl ([.ref (ad 57), .int (nI i), .int (nI j), .int x9])).length) Slot.unset).toArray = ls at hl ⊢
  have hl : lv_has ls 6 [(0, .ref (ad 57)), (1, .int (nI i)), (2, .int (nI j)), (3, .int x9)] := hl
  show W p l e ({ frames := 8, cells := 1, slots := 6, locals := 123 } : Room) s m ([.ref (ad 57), .int (nI i), .int (nI j), .int x9]).toArray below meth c s.heap [] 0 0 (vx_MQ below (fun _ _ _ _ => False) (XQ dC dI ad S IA) ([.ref (ad 57), .int (nI i), .int (nI j), .int x9]).toArray s 1 6 (fun _ => False)) (F0 m 0 ls [])
  refine lv_aload_n hx hb dX4_sort_0 rfl (lv_at hl 0 rfl) ?_
  refine lv_iload_n hx hb dX4_sort_1 rfl (lv_at hl 1 rfl) ?_
  refine va_csr (va_Run.run (va_runV (As := [.int (nI i)]) (rest := []) ⟨hx, hb, hml, hown, hts⟩ (m_X4_rowAt l dC dI ad S i (by omega)) (cwV 1 hts gX4_sort_X4_rowAt rfl rfl rfl hdX4_rowAt_1 ⟨Nat.le_of_ble_eq_true rfl, Nat.le_of_ble_eq_true rfl⟩) (hX.preTop 57 6 (by decide) (by decide) rfl rfl) rfl rfl hl.1 rfl (lv_room (Nat.le_of_ble_eq_true rfl)) dX4_sort_2 ⟨Nat.le_of_ble_eq_true rfl, Nat.le_of_ble_eq_true rfl⟩)) (fun k_ hk_ => ?_)
  rw [hk_]
  refine lv_astore (lv' := [(4, .ref (ad (3 * i))), (0, .ref (ad 57)), (1, .int (nI i)), (2, .int (nI j)), (3, .int x9)]) hx hb dX4_sort_5 hl (by decide) rfl (fun ls hl => ?_)
  refine lv_aload_n hx hb dX4_sort_7 rfl (lv_at hl 1 rfl) ?_
  refine lv_iload_n hx hb dX4_sort_8 rfl (lv_at hl 3 rfl) ?_
  refine va_csr (va_Run.run (va_runV (As := [.int (nI j)]) (rest := []) ⟨hx, hb, hml, hown, hts⟩ (m_X4_orderAt l dC dI ad S j (by omega)) (cwV 1 hts gX4_sort_X4_orderAt rfl rfl rfl hdX4_orderAt_1 ⟨Nat.le_of_ble_eq_true rfl, Nat.le_of_ble_eq_true rfl⟩) (hX.preTop 57 6 (by decide) (by decide) rfl rfl) rfl rfl hl.1 rfl (lv_room (Nat.le_of_ble_eq_true rfl)) dX4_sort_9 ⟨Nat.le_of_ble_eq_true rfl, Nat.le_of_ble_eq_true rfl⟩)) (fun k_ hk_ => ?_)
  rw [hk_]
  refine lv_astore (lv' := [(5, .ref (ad (24 + 5 * j))), (4, .ref (ad (3 * i))), (0, .ref (ad 57)), (1, .int (nI i)), (2, .int (nI j)), (3, .int x9)]) hx hb dX4_sort_12 hl (by decide) rfl (fun ls hl => ?_)
  refine lv_iload_n hx hb dX4_sort_14 rfl (lv_at hl 5 rfl) ?_
  refine lv_iconst (v := nI 2) hx hb dX4_sort_15 (by decide) ?_
  exact kx_pass (vx_runS (As := [.int x9, .int (nI 2)]) (rest := []) ⟨hx, hb, hml, hown, hts⟩ (t_X4_demandWithin l hst dC dI ad S x9 2 (by omega) hb9) (va_cwS 2 hts gX4_sort_X4_demandWithin rfl rfl rfl hdX4_demandWithin_2.2 ⟨Nat.le_of_ble_eq_true rfl, Nat.le_of_ble_eq_true rfl⟩) hPZ.preS rfl rfl hl.1 rfl (lv_room (Nat.le_of_ble_eq_true rfl)) dX4_sort_16 ⟨Nat.le_of_ble_eq_true rfl, Nat.le_of_ble_eq_true rfl⟩) hPX hex hlocks
set_option maxHeartbeats 4000000 in
set_option maxRecDepth 100000 in
theorem t_X4_sortPart_1 (l : Launch) (hst : l.stackTraces = false) (dC : Nat → ClassId) (dI : Nat → Nat → Nat) (ad : Nat → Nat) (S : XS) (x9 : Int32) (y1 : Int32) (y2 : Int32) (y3 : Int32) (hb9 : x9 < 0 ∨ nI 3 ≤ x9) : vx_Met l yX4_sortPart wsX4_sortPart ({ frames := 8, cells := 1, slots := 6, locals := 123 } : Room) (va_Pc [.ref (ad 57), .int x9, .int y1, .int y2, .int y3] (PXZ dC dI ad S)) (fun _ _ _ _ => False) (XQ dC dI ad S IX) 1 6 (fun _ => False) := by
  refine vx_ofW (cc := cX4_sortPart) (maxL := 7) (ret := (some .int)) (by decide) rfl ?_
  intro p e s m args below meth c s₁ B hml hex hv
  obtain ⟨rfl, hPZ⟩ := hv
  have hPX := hPZ.1
  have hx := B.exec
  have hb := B.bytes
  have hr := B.returns
  have hts := atoms_spec (ws := wsX4_sortPart) B.pre
  have hown : s.vm.findClass RX4 = some m.cls := findClass_of_methodNamed B.named
  have hlocks := B.notSynchronized
  have hin4 : ∀ w ∈ u_ws RX4 TX4 9, w ∈ wsX4_sortPart := tu 1328 (by decide +kernel) rfl
  have hX := WX.of hPX
  have hl := lv_entry ([.ref (ad 57), .int x9, .int y1, .int y2, .int y3]) (n := 7) (Nat.le_of_ble_eq_true rfl)
  rw [lg_entry_eq]
  generalize (lg_sl ([.ref (ad 57), .int x9, .int y1, .int y2, .int y3]) ++ List.replicate (7 - (lg_sl ([.ref (ad 57), .int x9, .int y1, .int y2, .int y3])).length) Slot.unset).toArray = ls at hl ⊢
  have hl : lv_has ls 7 [(0, .ref (ad 57)), (1, .int x9), (2, .int y1), (3, .int y2), (4, .int y3)] := hl
  show W p l e ({ frames := 8, cells := 1, slots := 6, locals := 123 } : Room) s m ([.ref (ad 57), .int x9, .int y1, .int y2, .int y3]).toArray below meth c s.heap [] 0 0 (vx_MQ below (fun _ _ _ _ => False) (XQ dC dI ad S IX) ([.ref (ad 57), .int x9, .int y1, .int y2, .int y3]).toArray s 1 6 (fun _ => False)) (F0 m 0 ls [])
  refine lv_aload_n hx hb dX4_sortPart_0 rfl (lv_at hl 0 rfl) ?_
  refine lv_iload_n hx hb dX4_sortPart_1 rfl (lv_at hl 1 rfl) ?_
  exact kx_pass (vx_runV (As := [.int x9]) (rest := []) ⟨hx, hb, hml, hown, hts⟩ (t_X4_rowAt l hst dC dI ad S x9 hb9) (cwV 1 hts gX4_sortPart_X4_rowAt rfl rfl rfl hdX4_rowAt_1 ⟨Nat.le_of_ble_eq_true rfl, Nat.le_of_ble_eq_true rfl⟩) (hPZ.preX) rfl rfl hl.1 rfl (lv_room (Nat.le_of_ble_eq_true rfl)) dX4_sortPart_2 ⟨Nat.le_of_ble_eq_true rfl, Nat.le_of_ble_eq_true rfl⟩) hPX hex hlocks
set_option maxHeartbeats 4000000 in
set_option maxRecDepth 100000 in
theorem t_X4_sortPart_2 (l : Launch) (hst : l.stackTraces = false) (dC : Nat → ClassId) (dI : Nat → Nat → Nat) (ad : Nat → Nat) (S : XS) (i : Nat) (x9 : Int32) (y2 : Int32) (y3 : Int32) (hi : i < 3) (hb9 : x9 < 0 ∨ nI 4 ≤ x9) : vx_Met l yX4_sortPart wsX4_sortPart ({ frames := 8, cells := 1, slots := 6, locals := 123 } : Room) (va_Pc [.ref (ad 57), .int (nI i), .int x9, .int y2, .int y3] (PXZ dC dI ad S)) (fun _ _ _ _ => False) (XQ dC dI ad S IX) 1 6 (fun _ => False) := by
  refine vx_ofW (cc := cX4_sortPart) (maxL := 7) (ret := (some .int)) (by decide) rfl ?_
  intro p e s m args below meth c s₁ B hml hex hv
  obtain ⟨rfl, hPZ⟩ := hv
  have hPX := hPZ.1
  have hx := B.exec
  have hb := B.bytes
  have hr := B.returns
  have hts := atoms_spec (ws := wsX4_sortPart) B.pre
  have hown : s.vm.findClass RX4 = some m.cls := findClass_of_methodNamed B.named
  have hlocks := B.notSynchronized
  have hin4 : ∀ w ∈ u_ws RX4 TX4 9, w ∈ wsX4_sortPart := tu 1328 (by decide +kernel) rfl
  have hX := WX.of hPX
  have hl := lv_entry ([.ref (ad 57), .int (nI i), .int x9, .int y2, .int y3]) (n := 7) (Nat.le_of_ble_eq_true rfl)
  rw [lg_entry_eq]
  generalize (lg_sl ([.ref (ad 57), .int (nI i), .int x9, .int y2, .int y3]) ++ List.replicate (7 - (lg_sl ([.ref (ad 57), .int (nI i), .int x9, .int y2, .int y3])).length) Slot.unset).toArray = ls at hl ⊢
  have hl : lv_has ls 7 [(0, .ref (ad 57)), (1, .int (nI i)), (2, .int x9), (3, .int y2), (4, .int y3)] := hl
  show W p l e ({ frames := 8, cells := 1, slots := 6, locals := 123 } : Room) s m ([.ref (ad 57), .int (nI i), .int x9, .int y2, .int y3]).toArray below meth c s.heap [] 0 0 (vx_MQ below (fun _ _ _ _ => False) (XQ dC dI ad S IX) ([.ref (ad 57), .int (nI i), .int x9, .int y2, .int y3]).toArray s 1 6 (fun _ => False)) (F0 m 0 ls [])
  refine lv_aload_n hx hb dX4_sortPart_0 rfl (lv_at hl 0 rfl) ?_
  refine lv_iload_n hx hb dX4_sortPart_1 rfl (lv_at hl 1 rfl) ?_
  refine va_csr (va_Run.run (va_runV (As := [.int (nI i)]) (rest := []) ⟨hx, hb, hml, hown, hts⟩ (m_X4_rowAt l dC dI ad S i (by omega)) (cwV 1 hts gX4_sortPart_X4_rowAt rfl rfl rfl hdX4_rowAt_1 ⟨Nat.le_of_ble_eq_true rfl, Nat.le_of_ble_eq_true rfl⟩) (hX.preTop 57 6 (by decide) (by decide) rfl rfl) rfl rfl hl.1 rfl (lv_room (Nat.le_of_ble_eq_true rfl)) dX4_sortPart_2 ⟨Nat.le_of_ble_eq_true rfl, Nat.le_of_ble_eq_true rfl⟩)) (fun k_ hk_ => ?_)
  rw [hk_]
  refine lv_astore (lv' := [(5, .ref (ad (3 * i))), (0, .ref (ad 57)), (1, .int (nI i)), (2, .int x9), (3, .int y2), (4, .int y3)]) hx hb dX4_sortPart_5 hl (by decide) rfl (fun ls hl => ?_)
  refine lv_aload_n hx hb dX4_sortPart_7 rfl (lv_at hl 1 rfl) ?_
  refine lv_iload_n hx hb dX4_sortPart_8 rfl (lv_at hl 3 rfl) ?_
  exact kx_pass (vx_runV (As := [.int x9]) (rest := []) ⟨hx, hb, hml, hown, hts⟩ (t_X4_orderAt l hst dC dI ad S x9 hb9) (cwV 1 hts gX4_sortPart_X4_orderAt rfl rfl rfl hdX4_orderAt_1 ⟨Nat.le_of_ble_eq_true rfl, Nat.le_of_ble_eq_true rfl⟩) (hPZ.preX) rfl rfl hl.1 rfl (lv_room (Nat.le_of_ble_eq_true rfl)) dX4_sortPart_9 ⟨Nat.le_of_ble_eq_true rfl, Nat.le_of_ble_eq_true rfl⟩) hPX hex hlocks
set_option maxHeartbeats 4000000 in
set_option maxRecDepth 100000 in
theorem t_X4_sortPart_3 (l : Launch) (hst : l.stackTraces = false) (dC : Nat → ClassId) (dI : Nat → Nat → Nat) (ad : Nat → Nat) (S : XS) (i : Nat) (j : Nat) (x9 : Int32) (y3 : Int32) (hi : i < 3) (hj : j < 4) (hn : (S.1 i).2.2 ≤ 16) (hb9 : x9 < 0 ∨ nI (S.1 i).2.2 < x9) : vx_Met l yX4_sortPart wsX4_sortPart ({ frames := 8, cells := 1, slots := 6, locals := 123 } : Room) (va_Pc [.ref (ad 57), .int (nI i), .int (nI j), .int x9, .int y3] (PXZ dC dI ad S)) (fun _ _ _ _ => False) (XQ dC dI ad S IX) 1 6 (fun _ => False) := by
  refine vx_ofW (cc := cX4_sortPart) (maxL := 7) (ret := (some .int)) (by decide) rfl ?_
  intro p e s m args below meth c s₁ B hml hex hv
  obtain ⟨rfl, hPZ⟩ := hv
  have hPX := hPZ.1
  have hx := B.exec
  have hb := B.bytes
  have hr := B.returns
  have hts := atoms_spec (ws := wsX4_sortPart) B.pre
  have hown : s.vm.findClass RX4 = some m.cls := findClass_of_methodNamed B.named
  have hlocks := B.notSynchronized
  have hin4 : ∀ w ∈ u_ws RX4 TX4 9, w ∈ wsX4_sortPart := tu 1328 (by decide +kernel) rfl
  have hX := WX.of hPX
  have hl := lv_entry ([.ref (ad 57), .int (nI i), .int (nI j), .int x9, .int y3]) (n := 7) (Nat.le_of_ble_eq_true rfl)
  rw [lg_entry_eq]
  generalize (lg_sl ([.ref (ad 57), .int (nI i), .int (nI j), .int x9, .int y3]) ++ List.replicate (7 - (lg_sl ([.ref (ad 57), .int (nI i), .int (nI j), .int x9, .int y3])).length) Slot.unset).toArray = ls at hl ⊢
  have hl : lv_has ls 7 [(0, .ref (ad 57)), (1, .int (nI i)), (2, .int (nI j)), (3, .int x9), (4, .int y3)] := hl
  show W p l e ({ frames := 8, cells := 1, slots := 6, locals := 123 } : Room) s m ([.ref (ad 57), .int (nI i), .int (nI j), .int x9, .int y3]).toArray below meth c s.heap [] 0 0 (vx_MQ below (fun _ _ _ _ => False) (XQ dC dI ad S IX) ([.ref (ad 57), .int (nI i), .int (nI j), .int x9, .int y3]).toArray s 1 6 (fun _ => False)) (F0 m 0 ls [])
  refine lv_aload_n hx hb dX4_sortPart_0 rfl (lv_at hl 0 rfl) ?_
  refine lv_iload_n hx hb dX4_sortPart_1 rfl (lv_at hl 1 rfl) ?_
  refine va_csr (va_Run.run (va_runV (As := [.int (nI i)]) (rest := []) ⟨hx, hb, hml, hown, hts⟩ (m_X4_rowAt l dC dI ad S i (by omega)) (cwV 1 hts gX4_sortPart_X4_rowAt rfl rfl rfl hdX4_rowAt_1 ⟨Nat.le_of_ble_eq_true rfl, Nat.le_of_ble_eq_true rfl⟩) (hX.preTop 57 6 (by decide) (by decide) rfl rfl) rfl rfl hl.1 rfl (lv_room (Nat.le_of_ble_eq_true rfl)) dX4_sortPart_2 ⟨Nat.le_of_ble_eq_true rfl, Nat.le_of_ble_eq_true rfl⟩)) (fun k_ hk_ => ?_)
  rw [hk_]
  refine lv_astore (lv' := [(5, .ref (ad (3 * i))), (0, .ref (ad 57)), (1, .int (nI i)), (2, .int (nI j)), (3, .int x9), (4, .int y3)]) hx hb dX4_sortPart_5 hl (by decide) rfl (fun ls hl => ?_)
  refine lv_aload_n hx hb dX4_sortPart_7 rfl (lv_at hl 1 rfl) ?_
  refine lv_iload_n hx hb dX4_sortPart_8 rfl (lv_at hl 3 rfl) ?_
  refine va_csr (va_Run.run (va_runV (As := [.int (nI j)]) (rest := []) ⟨hx, hb, hml, hown, hts⟩ (m_X4_orderAt l dC dI ad S j (by omega)) (cwV 1 hts gX4_sortPart_X4_orderAt rfl rfl rfl hdX4_orderAt_1 ⟨Nat.le_of_ble_eq_true rfl, Nat.le_of_ble_eq_true rfl⟩) (hX.preTop 57 6 (by decide) (by decide) rfl rfl) rfl rfl hl.1 rfl (lv_room (Nat.le_of_ble_eq_true rfl)) dX4_sortPart_9 ⟨Nat.le_of_ble_eq_true rfl, Nat.le_of_ble_eq_true rfl⟩)) (fun k_ hk_ => ?_)
  rw [hk_]
  refine lv_astore (lv' := [(6, .ref (ad (24 + 5 * j))), (5, .ref (ad (3 * i))), (0, .ref (ad 57)), (1, .int (nI i)), (2, .int (nI j)), (3, .int x9), (4, .int y3)]) hx hb dX4_sortPart_12 hl (by decide) rfl (fun ls hl => ?_)
  refine lv_aload hx hb dX4_sortPart_14 (lv_at hl 1 rfl) ?_
  refine lv_iload_n hx hb dX4_sortPart_16 rfl (lv_at hl 5 rfl) ?_
  exact kx_pass (vx_runS (As := [.ref (ad (3 * i)), .int x9]) (rest := []) ⟨hx, hb, hml, hown, hts⟩ (t_X4_demandGap l hst dC dI ad S i x9 (by omega) (by omega) hb9) (va_cwS 2 hts gX4_sortPart_X4_demandGap rfl rfl rfl hdX4_demandGap_2.2 ⟨Nat.le_of_ble_eq_true rfl, Nat.le_of_ble_eq_true rfl⟩) hPZ.preS rfl rfl hl.1 rfl (lv_room (Nat.le_of_ble_eq_true rfl)) dX4_sortPart_17 ⟨Nat.le_of_ble_eq_true rfl, Nat.le_of_ble_eq_true rfl⟩) hPX hex hlocks
set_option maxHeartbeats 4000000 in
set_option maxRecDepth 100000 in
theorem t_X4_sortPart_4 (l : Launch) (hst : l.stackTraces = false) (dC : Nat → ClassId) (dI : Nat → Nat → Nat) (ad : Nat → Nat) (S : XS) (i : Nat) (j : Nat) (q : Nat) (x9 : Int32) (hi : i < 3) (hj : j < 4) (hq : q ≤ (S.1 i).2.2) (hn : (S.1 i).2.2 ≤ 16) (hb9 : x9 < 0 ∨ nI (S.1 i).2.2 < x9) : vx_Met l yX4_sortPart wsX4_sortPart ({ frames := 8, cells := 1, slots := 6, locals := 123 } : Room) (va_Pc [.ref (ad 57), .int (nI i), .int (nI j), .int (nI q), .int x9] (PXZ dC dI ad S)) (fun _ _ _ _ => False) (XQ dC dI ad S IX) 1 6 (fun _ => False) := by
  refine vx_ofW (cc := cX4_sortPart) (maxL := 7) (ret := (some .int)) (by decide) rfl ?_
  intro p e s m args below meth c s₁ B hml hex hv
  obtain ⟨rfl, hPZ⟩ := hv
  have hPX := hPZ.1
  have hx := B.exec
  have hb := B.bytes
  have hr := B.returns
  have hts := atoms_spec (ws := wsX4_sortPart) B.pre
  have hown : s.vm.findClass RX4 = some m.cls := findClass_of_methodNamed B.named
  have hlocks := B.notSynchronized
  have hin4 : ∀ w ∈ u_ws RX4 TX4 9, w ∈ wsX4_sortPart := tu 1328 (by decide +kernel) rfl
  have hX := WX.of hPX
  have hl := lv_entry ([.ref (ad 57), .int (nI i), .int (nI j), .int (nI q), .int x9]) (n := 7) (Nat.le_of_ble_eq_true rfl)
  rw [lg_entry_eq]
  generalize (lg_sl ([.ref (ad 57), .int (nI i), .int (nI j), .int (nI q), .int x9]) ++ List.replicate (7 - (lg_sl ([.ref (ad 57), .int (nI i), .int (nI j), .int (nI q), .int x9])).length) Slot.unset).toArray = ls at hl ⊢
  have hl : lv_has ls 7 [(0, .ref (ad 57)), (1, .int (nI i)), (2, .int (nI j)), (3, .int (nI q)), (4, .int x9)] := hl
  show W p l e ({ frames := 8, cells := 1, slots := 6, locals := 123 } : Room) s m ([.ref (ad 57), .int (nI i), .int (nI j), .int (nI q), .int x9]).toArray below meth c s.heap [] 0 0 (vx_MQ below (fun _ _ _ _ => False) (XQ dC dI ad S IX) ([.ref (ad 57), .int (nI i), .int (nI j), .int (nI q), .int x9]).toArray s 1 6 (fun _ => False)) (F0 m 0 ls [])
  refine lv_aload_n hx hb dX4_sortPart_0 rfl (lv_at hl 0 rfl) ?_
  refine lv_iload_n hx hb dX4_sortPart_1 rfl (lv_at hl 1 rfl) ?_
  refine va_csr (va_Run.run (va_runV (As := [.int (nI i)]) (rest := []) ⟨hx, hb, hml, hown, hts⟩ (m_X4_rowAt l dC dI ad S i (by omega)) (cwV 1 hts gX4_sortPart_X4_rowAt rfl rfl rfl hdX4_rowAt_1 ⟨Nat.le_of_ble_eq_true rfl, Nat.le_of_ble_eq_true rfl⟩) (hX.preTop 57 6 (by decide) (by decide) rfl rfl) rfl rfl hl.1 rfl (lv_room (Nat.le_of_ble_eq_true rfl)) dX4_sortPart_2 ⟨Nat.le_of_ble_eq_true rfl, Nat.le_of_ble_eq_true rfl⟩)) (fun k_ hk_ => ?_)
  rw [hk_]
  refine lv_astore (lv' := [(5, .ref (ad (3 * i))), (0, .ref (ad 57)), (1, .int (nI i)), (2, .int (nI j)), (3, .int (nI q)), (4, .int x9)]) hx hb dX4_sortPart_5 hl (by decide) rfl (fun ls hl => ?_)
  refine lv_aload_n hx hb dX4_sortPart_7 rfl (lv_at hl 1 rfl) ?_
  refine lv_iload_n hx hb dX4_sortPart_8 rfl (lv_at hl 3 rfl) ?_
  refine va_csr (va_Run.run (va_runV (As := [.int (nI j)]) (rest := []) ⟨hx, hb, hml, hown, hts⟩ (m_X4_orderAt l dC dI ad S j (by omega)) (cwV 1 hts gX4_sortPart_X4_orderAt rfl rfl rfl hdX4_orderAt_1 ⟨Nat.le_of_ble_eq_true rfl, Nat.le_of_ble_eq_true rfl⟩) (hX.preTop 57 6 (by decide) (by decide) rfl rfl) rfl rfl hl.1 rfl (lv_room (Nat.le_of_ble_eq_true rfl)) dX4_sortPart_9 ⟨Nat.le_of_ble_eq_true rfl, Nat.le_of_ble_eq_true rfl⟩)) (fun k_ hk_ => ?_)
  rw [hk_]
  refine lv_astore (lv' := [(6, .ref (ad (24 + 5 * j))), (5, .ref (ad (3 * i))), (0, .ref (ad 57)), (1, .int (nI i)), (2, .int (nI j)), (3, .int (nI q)), (4, .int x9)]) hx hb dX4_sortPart_12 hl (by decide) rfl (fun ls hl => ?_)
  refine lv_aload hx hb dX4_sortPart_14 (lv_at hl 1 rfl) ?_
  refine lv_iload_n hx hb dX4_sortPart_16 rfl (lv_at hl 5 rfl) ?_
  refine va_csv (va_Run.run (va_runS (As := [.ref (ad (3 * i)), .int (nI q)]) (rest := []) ⟨hx, hb, hml, hown, hts⟩ (m_X4_demandGap l dC dI ad S i q (by omega) (by omega) (by omega)) (va_cwS 2 hts gX4_sortPart_X4_demandGap rfl rfl rfl hdX4_demandGap_2.2 ⟨Nat.le_of_ble_eq_true rfl, Nat.le_of_ble_eq_true rfl⟩) hX.preS rfl rfl hl.1 rfl (lv_room (Nat.le_of_ble_eq_true rfl)) dX4_sortPart_17 ⟨Nat.le_of_ble_eq_true rfl, Nat.le_of_ble_eq_true rfl⟩)) (fun _ => ?_)
  refine lv_aload hx hb dX4_sortPart_20 (lv_at hl 1 rfl) ?_
  refine lv_iload hx hb dX4_sortPart_22 (lv_at hl 6 rfl) ?_
  exact kx_pass (vx_runS (As := [.ref (ad (3 * i)), .int x9]) (rest := []) ⟨hx, hb, hml, hown, hts⟩ (t_X4_demandGap l hst dC dI ad S i x9 (by omega) (by omega) hb9) (va_cwS 2 hts gX4_sortPart_X4_demandGap rfl rfl rfl hdX4_demandGap_2.2 ⟨Nat.le_of_ble_eq_true rfl, Nat.le_of_ble_eq_true rfl⟩) hPZ.preS rfl rfl hl.1 rfl (lv_room (Nat.le_of_ble_eq_true rfl)) dX4_sortPart_24 ⟨Nat.le_of_ble_eq_true rfl, Nat.le_of_ble_eq_true rfl⟩) hPX hex hlocks
set_option maxHeartbeats 4000000 in
set_option maxRecDepth 100000 in
theorem t_X4_isSorted_1 (l : Launch) (hst : l.stackTraces = false) (dC : Nat → ClassId) (dI : Nat → Nat → Nat) (ad : Nat → Nat) (S : XS) (x9 : Int32) (y1 : Int32) (hb9 : x9 < 0 ∨ nI 3 ≤ x9) : vx_Met l yX4_isSorted wsX4_isSorted ({ frames := 8, cells := 1, slots := 6, locals := 123 } : Room) (va_Pc [.ref (ad 57), .int x9, .int y1] (PXZ dC dI ad S)) (fun _ _ _ _ => False) (XQ dC dI ad S IX) 1 6 (fun _ => False) := by
  refine vx_ofW (cc := cX4_isSorted) (maxL := 4) (ret := (some .boolean)) (by decide) rfl ?_
  intro p e s m args below meth c s₁ B hml hex hv
  obtain ⟨rfl, hPZ⟩ := hv
  have hPX := hPZ.1
  have hx := B.exec
  have hb := B.bytes
  have hr := B.returns
  have hts := atoms_spec (ws := wsX4_isSorted) B.pre
  have hown : s.vm.findClass RX4 = some m.cls := findClass_of_methodNamed B.named
  have hlocks := B.notSynchronized
  have hX := WX.of hPX
  have hl := lv_entry ([.ref (ad 57), .int x9, .int y1]) (n := 4) (Nat.le_of_ble_eq_true rfl)
  rw [lg_entry_eq]
  generalize (lg_sl ([.ref (ad 57), .int x9, .int y1]) ++ List.replicate (4 - (lg_sl ([.ref (ad 57), .int x9, .int y1])).length) Slot.unset).toArray = ls at hl ⊢
  have hl : lv_has ls 4 [(0, .ref (ad 57)), (1, .int x9), (2, .int y1)] := hl
  show W p l e ({ frames := 8, cells := 1, slots := 6, locals := 123 } : Room) s m ([.ref (ad 57), .int x9, .int y1]).toArray below meth c s.heap [] 0 0 (vx_MQ below (fun _ _ _ _ => False) (XQ dC dI ad S IX) ([.ref (ad 57), .int x9, .int y1]).toArray s 1 6 (fun _ => False)) (F0 m 0 ls [])
  refine lv_aload_n hx hb dX4_isSorted_0 rfl (lv_at hl 0 rfl) ?_
  refine lv_iload_n hx hb dX4_isSorted_1 rfl (lv_at hl 1 rfl) ?_
  exact kx_pass (vx_runV (As := [.int x9]) (rest := []) ⟨hx, hb, hml, hown, hts⟩ (t_X4_rowAt l hst dC dI ad S x9 hb9) (cwV 1 hts gX4_isSorted_X4_rowAt rfl rfl rfl hdX4_rowAt_1 ⟨Nat.le_of_ble_eq_true rfl, Nat.le_of_ble_eq_true rfl⟩) (hPZ.preX) rfl rfl hl.1 rfl (lv_room (Nat.le_of_ble_eq_true rfl)) dX4_isSorted_2 ⟨Nat.le_of_ble_eq_true rfl, Nat.le_of_ble_eq_true rfl⟩) hPX hex hlocks
set_option maxHeartbeats 4000000 in
set_option maxRecDepth 100000 in
theorem t_X4_isSorted_2 (l : Launch) (hst : l.stackTraces = false) (dC : Nat → ClassId) (dI : Nat → Nat → Nat) (ad : Nat → Nat) (S : XS) (i : Nat) (x9 : Int32) (hi : i < 3) (hb9 : x9 < 0 ∨ nI 4 ≤ x9) : vx_Met l yX4_isSorted wsX4_isSorted ({ frames := 8, cells := 1, slots := 6, locals := 123 } : Room) (va_Pc [.ref (ad 57), .int (nI i), .int x9] (PXZ dC dI ad S)) (fun _ _ _ _ => False) (XQ dC dI ad S IX) 1 6 (fun _ => False) := by
  refine vx_ofW (cc := cX4_isSorted) (maxL := 4) (ret := (some .boolean)) (by decide) rfl ?_
  intro p e s m args below meth c s₁ B hml hex hv
  obtain ⟨rfl, hPZ⟩ := hv
  have hPX := hPZ.1
  have hx := B.exec
  have hb := B.bytes
  have hr := B.returns
  have hts := atoms_spec (ws := wsX4_isSorted) B.pre
  have hown : s.vm.findClass RX4 = some m.cls := findClass_of_methodNamed B.named
  have hlocks := B.notSynchronized
  have hX := WX.of hPX
  have hl := lv_entry ([.ref (ad 57), .int (nI i), .int x9]) (n := 4) (Nat.le_of_ble_eq_true rfl)
  rw [lg_entry_eq]
  generalize (lg_sl ([.ref (ad 57), .int (nI i), .int x9]) ++ List.replicate (4 - (lg_sl ([.ref (ad 57), .int (nI i), .int x9])).length) Slot.unset).toArray = ls at hl ⊢
  have hl : lv_has ls 4 [(0, .ref (ad 57)), (1, .int (nI i)), (2, .int x9)] := hl
  show W p l e ({ frames := 8, cells := 1, slots := 6, locals := 123 } : Room) s m ([.ref (ad 57), .int (nI i), .int x9]).toArray below meth c s.heap [] 0 0 (vx_MQ below (fun _ _ _ _ => False) (XQ dC dI ad S IX) ([.ref (ad 57), .int (nI i), .int x9]).toArray s 1 6 (fun _ => False)) (F0 m 0 ls [])
  refine lv_aload_n hx hb dX4_isSorted_0 rfl (lv_at hl 0 rfl) ?_
  refine lv_iload_n hx hb dX4_isSorted_1 rfl (lv_at hl 1 rfl) ?_
  refine va_csr (va_Run.run (va_runV (As := [.int (nI i)]) (rest := []) ⟨hx, hb, hml, hown, hts⟩ (m_X4_rowAt l dC dI ad S i (by omega)) (cwV 1 hts gX4_isSorted_X4_rowAt rfl rfl rfl hdX4_rowAt_1 ⟨Nat.le_of_ble_eq_true rfl, Nat.le_of_ble_eq_true rfl⟩) (hX.preTop 57 6 (by decide) (by decide) rfl rfl) rfl rfl hl.1 rfl (lv_room (Nat.le_of_ble_eq_true rfl)) dX4_isSorted_2 ⟨Nat.le_of_ble_eq_true rfl, Nat.le_of_ble_eq_true rfl⟩)) (fun k_ hk_ => ?_)
  rw [hk_]
  refine lv_astore_n (lv' := [(3, .ref (ad (3 * i))), (0, .ref (ad 57)), (1, .int (nI i)), (2, .int x9)]) hx hb dX4_isSorted_5 rfl hl (by decide) rfl (fun ls hl => ?_)
  refine lv_aload_n hx hb dX4_isSorted_6 rfl (lv_at hl 0 rfl) ?_
  refine lv_aload_n hx hb dX4_isSorted_7 rfl (lv_at hl 1 rfl) ?_
  refine lv_iload_n hx hb dX4_isSorted_8 rfl (lv_at hl 3 rfl) ?_
  exact kx_pass (vx_runV (As := [.int x9]) (rest := [.ref (ad (3 * i))]) ⟨hx, hb, hml, hown, hts⟩ (t_X4_orderAt l hst dC dI ad S x9 hb9) (cwV 1 hts gX4_isSorted_X4_orderAt rfl rfl rfl hdX4_orderAt_1 ⟨Nat.le_of_ble_eq_true rfl, Nat.le_of_ble_eq_true rfl⟩) (hPZ.preX) rfl rfl hl.1 rfl (lv_room (Nat.le_of_ble_eq_true rfl)) dX4_isSorted_9 ⟨Nat.le_of_ble_eq_true rfl, Nat.le_of_ble_eq_true rfl⟩) hPX hex hlocks
set_option maxHeartbeats 4000000 in
set_option maxRecDepth 100000 in
theorem t_X4_size_1 (l : Launch) (hst : l.stackTraces = false) (dC : Nat → ClassId) (dI : Nat → Nat → Nat) (ad : Nat → Nat) (S : XS) (x9 : Int32) (hb9 : x9 < 0 ∨ nI 3 ≤ x9) : vx_Met l yX4_size wsX4_size ({ frames := 8, cells := 1, slots := 6, locals := 123 } : Room) (va_Pc [.ref (ad 57), .int x9] (PXZ dC dI ad S)) (fun _ _ _ _ => False) (XQ dC dI ad S IX) 1 6 (fun _ => False) := by
  refine vx_ofW (cc := cX4_size) (maxL := 2) (ret := (some .int)) (by decide) rfl ?_
  intro p e s m args below meth c s₁ B hml hex hv
  obtain ⟨rfl, hPZ⟩ := hv
  have hPX := hPZ.1
  have hx := B.exec
  have hb := B.bytes
  have hr := B.returns
  have hts := atoms_spec (ws := wsX4_size) B.pre
  have hown : s.vm.findClass RX4 = some m.cls := findClass_of_methodNamed B.named
  have hlocks := B.notSynchronized
  have hX := WX.of hPX
  have hl := lv_entry ([.ref (ad 57), .int x9]) (n := 2) (Nat.le_of_ble_eq_true rfl)
  rw [lg_entry_eq]
  generalize (lg_sl ([.ref (ad 57), .int x9]) ++ List.replicate (2 - (lg_sl ([.ref (ad 57), .int x9])).length) Slot.unset).toArray = ls at hl ⊢
  have hl : lv_has ls 2 [(0, .ref (ad 57)), (1, .int x9)] := hl
  show W p l e ({ frames := 8, cells := 1, slots := 6, locals := 123 } : Room) s m ([.ref (ad 57), .int x9]).toArray below meth c s.heap [] 0 0 (vx_MQ below (fun _ _ _ _ => False) (XQ dC dI ad S IX) ([.ref (ad 57), .int x9]).toArray s 1 6 (fun _ => False)) (F0 m 0 ls [])
  refine lv_aload_n hx hb dX4_size_0 rfl (lv_at hl 0 rfl) ?_
  refine lv_iload_n hx hb dX4_size_1 rfl (lv_at hl 1 rfl) ?_
  exact kx_pass (vx_runV (As := [.int x9]) (rest := []) ⟨hx, hb, hml, hown, hts⟩ (t_X4_rowAt l hst dC dI ad S x9 hb9) (cwV 1 hts gX4_size_X4_rowAt rfl rfl rfl hdX4_rowAt_1 ⟨Nat.le_of_ble_eq_true rfl, Nat.le_of_ble_eq_true rfl⟩) (hPZ.preX) rfl rfl hl.1 rfl (lv_room (Nat.le_of_ble_eq_true rfl)) dX4_size_2 ⟨Nat.le_of_ble_eq_true rfl, Nat.le_of_ble_eq_true rfl⟩) hPX hex hlocks
set_option maxHeartbeats 4000000 in
set_option maxRecDepth 100000 in
theorem t_X4_valueAt_1 (l : Launch) (hst : l.stackTraces = false) (dC : Nat → ClassId) (dI : Nat → Nat → Nat) (ad : Nat → Nat) (S : XS) (x9 : Int32) (y1 : Int32) (hb9 : x9 < 0 ∨ nI 3 ≤ x9) : vx_Met l yX4_valueAt wsX4_valueAt ({ frames := 8, cells := 1, slots := 6, locals := 123 } : Room) (va_Pc [.ref (ad 57), .int x9, .int y1] (PXZ dC dI ad S)) (fun _ _ _ _ => False) (XQ dC dI ad S IX) 1 6 (fun _ => False) := by
  refine vx_ofW (cc := cX4_valueAt) (maxL := 4) (ret := (some .int)) (by decide) rfl ?_
  intro p e s m args below meth c s₁ B hml hex hv
  obtain ⟨rfl, hPZ⟩ := hv
  have hPX := hPZ.1
  have hx := B.exec
  have hb := B.bytes
  have hr := B.returns
  have hts := atoms_spec (ws := wsX4_valueAt) B.pre
  have hown : s.vm.findClass RX4 = some m.cls := findClass_of_methodNamed B.named
  have hlocks := B.notSynchronized
  have hX := WX.of hPX
  have hl := lv_entry ([.ref (ad 57), .int x9, .int y1]) (n := 4) (Nat.le_of_ble_eq_true rfl)
  rw [lg_entry_eq]
  generalize (lg_sl ([.ref (ad 57), .int x9, .int y1]) ++ List.replicate (4 - (lg_sl ([.ref (ad 57), .int x9, .int y1])).length) Slot.unset).toArray = ls at hl ⊢
  have hl : lv_has ls 4 [(0, .ref (ad 57)), (1, .int x9), (2, .int y1)] := hl
  show W p l e ({ frames := 8, cells := 1, slots := 6, locals := 123 } : Room) s m ([.ref (ad 57), .int x9, .int y1]).toArray below meth c s.heap [] 0 0 (vx_MQ below (fun _ _ _ _ => False) (XQ dC dI ad S IX) ([.ref (ad 57), .int x9, .int y1]).toArray s 1 6 (fun _ => False)) (F0 m 0 ls [])
  refine lv_aload_n hx hb dX4_valueAt_0 rfl (lv_at hl 0 rfl) ?_
  refine lv_iload_n hx hb dX4_valueAt_1 rfl (lv_at hl 1 rfl) ?_
  exact kx_pass (vx_runV (As := [.int x9]) (rest := []) ⟨hx, hb, hml, hown, hts⟩ (t_X4_rowAt l hst dC dI ad S x9 hb9) (cwV 1 hts gX4_valueAt_X4_rowAt rfl rfl rfl hdX4_rowAt_1 ⟨Nat.le_of_ble_eq_true rfl, Nat.le_of_ble_eq_true rfl⟩) (hPZ.preX) rfl rfl hl.1 rfl (lv_room (Nat.le_of_ble_eq_true rfl)) dX4_valueAt_2 ⟨Nat.le_of_ble_eq_true rfl, Nat.le_of_ble_eq_true rfl⟩) hPX hex hlocks
set_option maxHeartbeats 4000000 in
set_option maxRecDepth 100000 in
theorem t_X4_valueAt_2 (l : Launch) (hst : l.stackTraces = false) (dC : Nat → ClassId) (dI : Nat → Nat → Nat) (ad : Nat → Nat) (S : XS) (i : Nat) (x9 : Int32) (hi : i < 3) (hn : (S.1 i).2.2 ≤ 16) (hb9 : x9 < 0 ∨ nI (S.1 i).2.2 ≤ x9) : vx_Met l yX4_valueAt wsX4_valueAt ({ frames := 8, cells := 1, slots := 6, locals := 123 } : Room) (va_Pc [.ref (ad 57), .int (nI i), .int x9] (PXZ dC dI ad S)) (fun _ _ _ _ => False) (XQ dC dI ad S IX) 1 6 (fun _ => False) := by
  refine vx_ofW (cc := cX4_valueAt) (maxL := 4) (ret := (some .int)) (by decide) rfl ?_
  intro p e s m args below meth c s₁ B hml hex hv
  obtain ⟨rfl, hPZ⟩ := hv
  have hPX := hPZ.1
  have hx := B.exec
  have hb := B.bytes
  have hr := B.returns
  have hts := atoms_spec (ws := wsX4_valueAt) B.pre
  have hown : s.vm.findClass RX4 = some m.cls := findClass_of_methodNamed B.named
  have hlocks := B.notSynchronized
  have hX := WX.of hPX
  have hl := lv_entry ([.ref (ad 57), .int (nI i), .int x9]) (n := 4) (Nat.le_of_ble_eq_true rfl)
  rw [lg_entry_eq]
  generalize (lg_sl ([.ref (ad 57), .int (nI i), .int x9]) ++ List.replicate (4 - (lg_sl ([.ref (ad 57), .int (nI i), .int x9])).length) Slot.unset).toArray = ls at hl ⊢
  have hl : lv_has ls 4 [(0, .ref (ad 57)), (1, .int (nI i)), (2, .int x9)] := hl
  show W p l e ({ frames := 8, cells := 1, slots := 6, locals := 123 } : Room) s m ([.ref (ad 57), .int (nI i), .int x9]).toArray below meth c s.heap [] 0 0 (vx_MQ below (fun _ _ _ _ => False) (XQ dC dI ad S IX) ([.ref (ad 57), .int (nI i), .int x9]).toArray s 1 6 (fun _ => False)) (F0 m 0 ls [])
  refine lv_aload_n hx hb dX4_valueAt_0 rfl (lv_at hl 0 rfl) ?_
  refine lv_iload_n hx hb dX4_valueAt_1 rfl (lv_at hl 1 rfl) ?_
  refine va_csr (va_Run.run (va_runV (As := [.int (nI i)]) (rest := []) ⟨hx, hb, hml, hown, hts⟩ (m_X4_rowAt l dC dI ad S i (by omega)) (cwV 1 hts gX4_valueAt_X4_rowAt rfl rfl rfl hdX4_rowAt_1 ⟨Nat.le_of_ble_eq_true rfl, Nat.le_of_ble_eq_true rfl⟩) (hX.preTop 57 6 (by decide) (by decide) rfl rfl) rfl rfl hl.1 rfl (lv_room (Nat.le_of_ble_eq_true rfl)) dX4_valueAt_2 ⟨Nat.le_of_ble_eq_true rfl, Nat.le_of_ble_eq_true rfl⟩)) (fun k_ hk_ => ?_)
  rw [hk_]
  refine lv_astore_n (lv' := [(3, .ref (ad (3 * i))), (0, .ref (ad 57)), (1, .int (nI i)), (2, .int x9)]) hx hb dX4_valueAt_5 rfl hl (by decide) rfl (fun ls hl => ?_)
  refine lv_aload_n hx hb dX4_valueAt_6 rfl (lv_at hl 0 rfl) ?_
  refine lv_iload_n hx hb dX4_valueAt_7 rfl (lv_at hl 3 rfl) ?_
  exact kx_pass (vx_runS (As := [.ref (ad (3 * i)), .int x9]) (rest := []) ⟨hx, hb, hml, hown, hts⟩ (t_X4_demandPlace l hst dC dI ad S i x9 (by omega) (by omega) hb9) (va_cwS 2 hts gX4_valueAt_X4_demandPlace rfl rfl rfl hdX4_demandPlace_2.2 ⟨Nat.le_of_ble_eq_true rfl, Nat.le_of_ble_eq_true rfl⟩) hPZ.preS rfl rfl hl.1 rfl (lv_room (Nat.le_of_ble_eq_true rfl)) dX4_valueAt_8 ⟨Nat.le_of_ble_eq_true rfl, Nat.le_of_ble_eq_true rfl⟩) hPX hex hlocks
set_option maxHeartbeats 4000000 in
set_option maxRecDepth 100000 in
theorem t_X4_markAt_1 (l : Launch) (hst : l.stackTraces = false) (dC : Nat → ClassId) (dI : Nat → Nat → Nat) (ad : Nat → Nat) (S : XS) (x9 : Int32) (y1 : Int32) (hb9 : x9 < 0 ∨ nI 3 ≤ x9) : vx_Met l yX4_markAt wsX4_markAt ({ frames := 8, cells := 1, slots := 6, locals := 123 } : Room) (va_Pc [.ref (ad 57), .int x9, .int y1] (PXZ dC dI ad S)) (fun _ _ _ _ => False) (XQ dC dI ad S IX) 1 6 (fun _ => False) := by
  refine vx_ofW (cc := cX4_markAt) (maxL := 4) (ret := (some .int)) (by decide) rfl ?_
  intro p e s m args below meth c s₁ B hml hex hv
  obtain ⟨rfl, hPZ⟩ := hv
  have hPX := hPZ.1
  have hx := B.exec
  have hb := B.bytes
  have hr := B.returns
  have hts := atoms_spec (ws := wsX4_markAt) B.pre
  have hown : s.vm.findClass RX4 = some m.cls := findClass_of_methodNamed B.named
  have hlocks := B.notSynchronized
  have hX := WX.of hPX
  have hl := lv_entry ([.ref (ad 57), .int x9, .int y1]) (n := 4) (Nat.le_of_ble_eq_true rfl)
  rw [lg_entry_eq]
  generalize (lg_sl ([.ref (ad 57), .int x9, .int y1]) ++ List.replicate (4 - (lg_sl ([.ref (ad 57), .int x9, .int y1])).length) Slot.unset).toArray = ls at hl ⊢
  have hl : lv_has ls 4 [(0, .ref (ad 57)), (1, .int x9), (2, .int y1)] := hl
  show W p l e ({ frames := 8, cells := 1, slots := 6, locals := 123 } : Room) s m ([.ref (ad 57), .int x9, .int y1]).toArray below meth c s.heap [] 0 0 (vx_MQ below (fun _ _ _ _ => False) (XQ dC dI ad S IX) ([.ref (ad 57), .int x9, .int y1]).toArray s 1 6 (fun _ => False)) (F0 m 0 ls [])
  refine lv_aload_n hx hb dX4_markAt_0 rfl (lv_at hl 0 rfl) ?_
  refine lv_iload_n hx hb dX4_markAt_1 rfl (lv_at hl 1 rfl) ?_
  exact kx_pass (vx_runV (As := [.int x9]) (rest := []) ⟨hx, hb, hml, hown, hts⟩ (t_X4_rowAt l hst dC dI ad S x9 hb9) (cwV 1 hts gX4_markAt_X4_rowAt rfl rfl rfl hdX4_rowAt_1 ⟨Nat.le_of_ble_eq_true rfl, Nat.le_of_ble_eq_true rfl⟩) (hPZ.preX) rfl rfl hl.1 rfl (lv_room (Nat.le_of_ble_eq_true rfl)) dX4_markAt_2 ⟨Nat.le_of_ble_eq_true rfl, Nat.le_of_ble_eq_true rfl⟩) hPX hex hlocks
set_option maxHeartbeats 4000000 in
set_option maxRecDepth 100000 in
theorem t_X4_markAt_2 (l : Launch) (hst : l.stackTraces = false) (dC : Nat → ClassId) (dI : Nat → Nat → Nat) (ad : Nat → Nat) (S : XS) (i : Nat) (x9 : Int32) (hi : i < 3) (hn : (S.1 i).2.2 ≤ 16) (hb9 : x9 < 0 ∨ nI (S.1 i).2.2 ≤ x9) : vx_Met l yX4_markAt wsX4_markAt ({ frames := 8, cells := 1, slots := 6, locals := 123 } : Room) (va_Pc [.ref (ad 57), .int (nI i), .int x9] (PXZ dC dI ad S)) (fun _ _ _ _ => False) (XQ dC dI ad S IX) 1 6 (fun _ => False) := by
  refine vx_ofW (cc := cX4_markAt) (maxL := 4) (ret := (some .int)) (by decide) rfl ?_
  intro p e s m args below meth c s₁ B hml hex hv
  obtain ⟨rfl, hPZ⟩ := hv
  have hPX := hPZ.1
  have hx := B.exec
  have hb := B.bytes
  have hr := B.returns
  have hts := atoms_spec (ws := wsX4_markAt) B.pre
  have hown : s.vm.findClass RX4 = some m.cls := findClass_of_methodNamed B.named
  have hlocks := B.notSynchronized
  have hX := WX.of hPX
  have hl := lv_entry ([.ref (ad 57), .int (nI i), .int x9]) (n := 4) (Nat.le_of_ble_eq_true rfl)
  rw [lg_entry_eq]
  generalize (lg_sl ([.ref (ad 57), .int (nI i), .int x9]) ++ List.replicate (4 - (lg_sl ([.ref (ad 57), .int (nI i), .int x9])).length) Slot.unset).toArray = ls at hl ⊢
  have hl : lv_has ls 4 [(0, .ref (ad 57)), (1, .int (nI i)), (2, .int x9)] := hl
  show W p l e ({ frames := 8, cells := 1, slots := 6, locals := 123 } : Room) s m ([.ref (ad 57), .int (nI i), .int x9]).toArray below meth c s.heap [] 0 0 (vx_MQ below (fun _ _ _ _ => False) (XQ dC dI ad S IX) ([.ref (ad 57), .int (nI i), .int x9]).toArray s 1 6 (fun _ => False)) (F0 m 0 ls [])
  refine lv_aload_n hx hb dX4_markAt_0 rfl (lv_at hl 0 rfl) ?_
  refine lv_iload_n hx hb dX4_markAt_1 rfl (lv_at hl 1 rfl) ?_
  refine va_csr (va_Run.run (va_runV (As := [.int (nI i)]) (rest := []) ⟨hx, hb, hml, hown, hts⟩ (m_X4_rowAt l dC dI ad S i (by omega)) (cwV 1 hts gX4_markAt_X4_rowAt rfl rfl rfl hdX4_rowAt_1 ⟨Nat.le_of_ble_eq_true rfl, Nat.le_of_ble_eq_true rfl⟩) (hX.preTop 57 6 (by decide) (by decide) rfl rfl) rfl rfl hl.1 rfl (lv_room (Nat.le_of_ble_eq_true rfl)) dX4_markAt_2 ⟨Nat.le_of_ble_eq_true rfl, Nat.le_of_ble_eq_true rfl⟩)) (fun k_ hk_ => ?_)
  rw [hk_]
  refine lv_astore_n (lv' := [(3, .ref (ad (3 * i))), (0, .ref (ad 57)), (1, .int (nI i)), (2, .int x9)]) hx hb dX4_markAt_5 rfl hl (by decide) rfl (fun ls hl => ?_)
  refine lv_aload_n hx hb dX4_markAt_6 rfl (lv_at hl 0 rfl) ?_
  refine lv_iload_n hx hb dX4_markAt_7 rfl (lv_at hl 3 rfl) ?_
  exact kx_pass (vx_runS (As := [.ref (ad (3 * i)), .int x9]) (rest := []) ⟨hx, hb, hml, hown, hts⟩ (t_X4_demandPlace l hst dC dI ad S i x9 (by omega) (by omega) hb9) (va_cwS 2 hts gX4_markAt_X4_demandPlace rfl rfl rfl hdX4_demandPlace_2.2 ⟨Nat.le_of_ble_eq_true rfl, Nat.le_of_ble_eq_true rfl⟩) hPZ.preS rfl rfl hl.1 rfl (lv_room (Nat.le_of_ble_eq_true rfl)) dX4_markAt_8 ⟨Nat.le_of_ble_eq_true rfl, Nat.le_of_ble_eq_true rfl⟩) hPX hex hlocks
set_option maxHeartbeats 4000000 in
set_option maxRecDepth 100000 in
theorem t_X4_text_1 (l : Launch) (hst : l.stackTraces = false) (dC : Nat → ClassId) (dI : Nat → Nat → Nat) (ad : Nat → Nat) (S : XS) (x9 : Int32) (hb9 : x9 < 0 ∨ nI 3 ≤ x9) : vx_Met l yX4_text wsX4_text ({ frames := 8, cells := 1, slots := 6, locals := 123 } : Room) (va_Pc [.ref (ad 57), .int x9] (PXZ dC dI ad S)) (fun _ _ _ _ => False) (XQ dC dI ad S IX) 1 6 (fun _ => False) := by
  refine vx_ofW (cc := cX4_text) (maxL := 2) (ret := (some (.object "java/lang/String"))) (by decide) rfl ?_
  intro p e s m args below meth c s₁ B hml hex hv
  obtain ⟨rfl, hPZ⟩ := hv
  have hPX := hPZ.1
  have hx := B.exec
  have hb := B.bytes
  have hr := B.returns
  have hts := atoms_spec (ws := wsX4_text) B.pre
  have hown : s.vm.findClass RX4 = some m.cls := findClass_of_methodNamed B.named
  have hlocks := B.notSynchronized
  have hX := WX.of hPX
  have hl := lv_entry ([.ref (ad 57), .int x9]) (n := 2) (Nat.le_of_ble_eq_true rfl)
  rw [lg_entry_eq]
  generalize (lg_sl ([.ref (ad 57), .int x9]) ++ List.replicate (2 - (lg_sl ([.ref (ad 57), .int x9])).length) Slot.unset).toArray = ls at hl ⊢
  have hl : lv_has ls 2 [(0, .ref (ad 57)), (1, .int x9)] := hl
  show W p l e ({ frames := 8, cells := 1, slots := 6, locals := 123 } : Room) s m ([.ref (ad 57), .int x9]).toArray below meth c s.heap [] 0 0 (vx_MQ below (fun _ _ _ _ => False) (XQ dC dI ad S IX) ([.ref (ad 57), .int x9]).toArray s 1 6 (fun _ => False)) (F0 m 0 ls [])
  refine lv_aload_n hx hb dX4_text_0 rfl (lv_at hl 0 rfl) ?_
  refine lv_iload_n hx hb dX4_text_1 rfl (lv_at hl 1 rfl) ?_
  exact kx_pass (vx_runV (As := [.int x9]) (rest := []) ⟨hx, hb, hml, hown, hts⟩ (t_X4_rowAt l hst dC dI ad S x9 hb9) (cwV 1 hts gX4_text_X4_rowAt rfl rfl rfl hdX4_rowAt_1 ⟨Nat.le_of_ble_eq_true rfl, Nat.le_of_ble_eq_true rfl⟩) (hPZ.preX) rfl rfl hl.1 rfl (lv_room (Nat.le_of_ble_eq_true rfl)) dX4_text_2 ⟨Nat.le_of_ble_eq_true rfl, Nat.le_of_ble_eq_true rfl⟩) hPX hex hlocks
set_option maxHeartbeats 4000000 in
set_option maxRecDepth 100000 in
theorem t_X4_extreme_1 (l : Launch) (hst : l.stackTraces = false) (dC : Nat → ClassId) (dI : Nat → Nat → Nat) (ad : Nat → Nat) (S : XS) (x9 : Int32) (y1 : Int32) (z : Bool) (hb9 : x9 < 0 ∨ nI 3 ≤ x9) : vx_Met l yX4_extreme wsX4_extreme ({ frames := 8, cells := 1, slots := 6, locals := 123 } : Room) (va_Pc [.ref (ad 57), .int x9, .int y1, .int (bI z)] (PXZ dC dI ad S)) (fun _ _ _ _ => False) (XQ dC dI ad S IX) 1 6 (fun _ => False) := by
  refine vx_ofW (cc := cX4_extreme) (maxL := 7) (ret := (some .int)) (by decide) rfl ?_
  intro p e s m args below meth c s₁ B hml hex hv
  obtain ⟨rfl, hPZ⟩ := hv
  have hPX := hPZ.1
  have hx := B.exec
  have hb := B.bytes
  have hr := B.returns
  have hts := atoms_spec (ws := wsX4_extreme) B.pre
  have hown : s.vm.findClass RX4 = some m.cls := findClass_of_methodNamed B.named
  have hlocks := B.notSynchronized
  have hX := WX.of hPX
  have hl := lv_entry ([.ref (ad 57), .int x9, .int y1, .int (bI z)]) (n := 7) (Nat.le_of_ble_eq_true rfl)
  rw [lg_entry_eq]
  generalize (lg_sl ([.ref (ad 57), .int x9, .int y1, .int (bI z)]) ++ List.replicate (7 - (lg_sl ([.ref (ad 57), .int x9, .int y1, .int (bI z)])).length) Slot.unset).toArray = ls at hl ⊢
  have hl : lv_has ls 7 [(0, .ref (ad 57)), (1, .int x9), (2, .int y1), (3, .int (bI z))] := hl
  show W p l e ({ frames := 8, cells := 1, slots := 6, locals := 123 } : Room) s m ([.ref (ad 57), .int x9, .int y1, .int (bI z)]).toArray below meth c s.heap [] 0 0 (vx_MQ below (fun _ _ _ _ => False) (XQ dC dI ad S IX) ([.ref (ad 57), .int x9, .int y1, .int (bI z)]).toArray s 1 6 (fun _ => False)) (F0 m 0 ls [])
  refine lv_aload_n hx hb dX4_extreme_0 rfl (lv_at hl 0 rfl) ?_
  refine lv_iload_n hx hb dX4_extreme_1 rfl (lv_at hl 1 rfl) ?_
  exact kx_pass (vx_runV (As := [.int x9]) (rest := []) ⟨hx, hb, hml, hown, hts⟩ (t_X4_rowAt l hst dC dI ad S x9 hb9) (cwV 1 hts gX4_extreme_X4_rowAt rfl rfl rfl hdX4_rowAt_1 ⟨Nat.le_of_ble_eq_true rfl, Nat.le_of_ble_eq_true rfl⟩) (hPZ.preX) rfl rfl hl.1 rfl (lv_room (Nat.le_of_ble_eq_true rfl)) dX4_extreme_2 ⟨Nat.le_of_ble_eq_true rfl, Nat.le_of_ble_eq_true rfl⟩) hPX hex hlocks
set_option maxHeartbeats 4000000 in
set_option maxRecDepth 100000 in
theorem t_X4_extreme_2 (l : Launch) (hst : l.stackTraces = false) (dC : Nat → ClassId) (dI : Nat → Nat → Nat) (ad : Nat → Nat) (S : XS) (i : Nat) (x9 : Int32) (z : Bool) (hi : i < 3) (hb9 : x9 < 0 ∨ nI 4 ≤ x9) : vx_Met l yX4_extreme wsX4_extreme ({ frames := 8, cells := 1, slots := 6, locals := 123 } : Room) (va_Pc [.ref (ad 57), .int (nI i), .int x9, .int (bI z)] (PXZ dC dI ad S)) (fun _ _ _ _ => False) (XQ dC dI ad S IX) 1 6 (fun _ => False) := by
  refine vx_ofW (cc := cX4_extreme) (maxL := 7) (ret := (some .int)) (by decide) rfl ?_
  intro p e s m args below meth c s₁ B hml hex hv
  obtain ⟨rfl, hPZ⟩ := hv
  have hPX := hPZ.1
  have hx := B.exec
  have hb := B.bytes
  have hr := B.returns
  have hts := atoms_spec (ws := wsX4_extreme) B.pre
  have hown : s.vm.findClass RX4 = some m.cls := findClass_of_methodNamed B.named
  have hlocks := B.notSynchronized
  have hX := WX.of hPX
  have hl := lv_entry ([.ref (ad 57), .int (nI i), .int x9, .int (bI z)]) (n := 7) (Nat.le_of_ble_eq_true rfl)
  rw [lg_entry_eq]
  generalize (lg_sl ([.ref (ad 57), .int (nI i), .int x9, .int (bI z)]) ++ List.replicate (7 - (lg_sl ([.ref (ad 57), .int (nI i), .int x9, .int (bI z)])).length) Slot.unset).toArray = ls at hl ⊢
  have hl : lv_has ls 7 [(0, .ref (ad 57)), (1, .int (nI i)), (2, .int x9), (3, .int (bI z))] := hl
  show W p l e ({ frames := 8, cells := 1, slots := 6, locals := 123 } : Room) s m ([.ref (ad 57), .int (nI i), .int x9, .int (bI z)]).toArray below meth c s.heap [] 0 0 (vx_MQ below (fun _ _ _ _ => False) (XQ dC dI ad S IX) ([.ref (ad 57), .int (nI i), .int x9, .int (bI z)]).toArray s 1 6 (fun _ => False)) (F0 m 0 ls [])
  refine lv_aload_n hx hb dX4_extreme_0 rfl (lv_at hl 0 rfl) ?_
  refine lv_iload_n hx hb dX4_extreme_1 rfl (lv_at hl 1 rfl) ?_
  refine va_csr (va_Run.run (va_runV (As := [.int (nI i)]) (rest := []) ⟨hx, hb, hml, hown, hts⟩ (m_X4_rowAt l dC dI ad S i (by omega)) (cwV 1 hts gX4_extreme_X4_rowAt rfl rfl rfl hdX4_rowAt_1 ⟨Nat.le_of_ble_eq_true rfl, Nat.le_of_ble_eq_true rfl⟩) (hX.preTop 57 6 (by decide) (by decide) rfl rfl) rfl rfl hl.1 rfl (lv_room (Nat.le_of_ble_eq_true rfl)) dX4_extreme_2 ⟨Nat.le_of_ble_eq_true rfl, Nat.le_of_ble_eq_true rfl⟩)) (fun k_ hk_ => ?_)
  rw [hk_]
  refine lv_astore (lv' := [(4, .ref (ad (3 * i))), (0, .ref (ad 57)), (1, .int (nI i)), (2, .int x9), (3, .int (bI z))]) hx hb dX4_extreme_5 hl (by decide) rfl (fun ls hl => ?_)
  refine lv_aload_n hx hb dX4_extreme_7 rfl (lv_at hl 1 rfl) ?_
  refine lv_iload_n hx hb dX4_extreme_8 rfl (lv_at hl 3 rfl) ?_
  exact kx_pass (vx_runV (As := [.int x9]) (rest := []) ⟨hx, hb, hml, hown, hts⟩ (t_X4_orderAt l hst dC dI ad S x9 hb9) (cwV 1 hts gX4_extreme_X4_orderAt rfl rfl rfl hdX4_orderAt_1 ⟨Nat.le_of_ble_eq_true rfl, Nat.le_of_ble_eq_true rfl⟩) (hPZ.preX) rfl rfl hl.1 rfl (lv_room (Nat.le_of_ble_eq_true rfl)) dX4_extreme_9 ⟨Nat.le_of_ble_eq_true rfl, Nat.le_of_ble_eq_true rfl⟩) hPX hex hlocks
set_option maxHeartbeats 4000000 in
set_option maxRecDepth 100000 in
theorem t_X4_search_1 (l : Launch) (hst : l.stackTraces = false) (dC : Nat → ClassId) (dI : Nat → Nat → Nat) (ad : Nat → Nat) (S : XS) (x9 : Int32) (y1 : Int32) (y2 : Int32) (hb9 : x9 < 0 ∨ nI 3 ≤ x9) : vx_Met l yX4_search wsX4_search ({ frames := 8, cells := 1, slots := 6, locals := 123 } : Room) (va_Pc [.ref (ad 57), .int x9, .int y1, .int y2] (PXZ dC dI ad S)) (fun _ _ _ _ => False) (XQ dC dI ad S IX) 1 6 (fun _ => False) := by
  refine vx_ofW (cc := cX4_search) (maxL := 6) (ret := (some .int)) (by decide) rfl ?_
  intro p e s m args below meth c s₁ B hml hex hv
  obtain ⟨rfl, hPZ⟩ := hv
  have hPX := hPZ.1
  have hx := B.exec
  have hb := B.bytes
  have hr := B.returns
  have hts := atoms_spec (ws := wsX4_search) B.pre
  have hown : s.vm.findClass RX4 = some m.cls := findClass_of_methodNamed B.named
  have hlocks := B.notSynchronized
  have hX := WX.of hPX
  have hl := lv_entry ([.ref (ad 57), .int x9, .int y1, .int y2]) (n := 6) (Nat.le_of_ble_eq_true rfl)
  rw [lg_entry_eq]
  generalize (lg_sl ([.ref (ad 57), .int x9, .int y1, .int y2]) ++ List.replicate (6 - (lg_sl ([.ref (ad 57), .int x9, .int y1, .int y2])).length) Slot.unset).toArray = ls at hl ⊢
  have hl : lv_has ls 6 [(0, .ref (ad 57)), (1, .int x9), (2, .int y1), (3, .int y2)] := hl
  show W p l e ({ frames := 8, cells := 1, slots := 6, locals := 123 } : Room) s m ([.ref (ad 57), .int x9, .int y1, .int y2]).toArray below meth c s.heap [] 0 0 (vx_MQ below (fun _ _ _ _ => False) (XQ dC dI ad S IX) ([.ref (ad 57), .int x9, .int y1, .int y2]).toArray s 1 6 (fun _ => False)) (F0 m 0 ls [])
  refine lv_aload_n hx hb dX4_search_0 rfl (lv_at hl 0 rfl) ?_
  refine lv_iload_n hx hb dX4_search_1 rfl (lv_at hl 1 rfl) ?_
  exact kx_pass (vx_runV (As := [.int x9]) (rest := []) ⟨hx, hb, hml, hown, hts⟩ (t_X4_rowAt l hst dC dI ad S x9 hb9) (cwV 1 hts gX4_search_X4_rowAt rfl rfl rfl hdX4_rowAt_1 ⟨Nat.le_of_ble_eq_true rfl, Nat.le_of_ble_eq_true rfl⟩) (hPZ.preX) rfl rfl hl.1 rfl (lv_room (Nat.le_of_ble_eq_true rfl)) dX4_search_2 ⟨Nat.le_of_ble_eq_true rfl, Nat.le_of_ble_eq_true rfl⟩) hPX hex hlocks
set_option maxHeartbeats 4000000 in
set_option maxRecDepth 100000 in
theorem t_X4_search_2 (l : Launch) (hst : l.stackTraces = false) (dC : Nat → ClassId) (dI : Nat → Nat → Nat) (ad : Nat → Nat) (S : XS) (i : Nat) (x9 : Int32) (y2 : Int32) (hi : i < 3) (hb9 : x9 < 0 ∨ nI 4 ≤ x9) : vx_Met l yX4_search wsX4_search ({ frames := 8, cells := 1, slots := 6, locals := 123 } : Room) (va_Pc [.ref (ad 57), .int (nI i), .int x9, .int y2] (PXZ dC dI ad S)) (fun _ _ _ _ => False) (XQ dC dI ad S IX) 1 6 (fun _ => False) := by
  refine vx_ofW (cc := cX4_search) (maxL := 6) (ret := (some .int)) (by decide) rfl ?_
  intro p e s m args below meth c s₁ B hml hex hv
  obtain ⟨rfl, hPZ⟩ := hv
  have hPX := hPZ.1
  have hx := B.exec
  have hb := B.bytes
  have hr := B.returns
  have hts := atoms_spec (ws := wsX4_search) B.pre
  have hown : s.vm.findClass RX4 = some m.cls := findClass_of_methodNamed B.named
  have hlocks := B.notSynchronized
  have hX := WX.of hPX
  have hl := lv_entry ([.ref (ad 57), .int (nI i), .int x9, .int y2]) (n := 6) (Nat.le_of_ble_eq_true rfl)
  rw [lg_entry_eq]
  generalize (lg_sl ([.ref (ad 57), .int (nI i), .int x9, .int y2]) ++ List.replicate (6 - (lg_sl ([.ref (ad 57), .int (nI i), .int x9, .int y2])).length) Slot.unset).toArray = ls at hl ⊢
  have hl : lv_has ls 6 [(0, .ref (ad 57)), (1, .int (nI i)), (2, .int x9), (3, .int y2)] := hl
  show W p l e ({ frames := 8, cells := 1, slots := 6, locals := 123 } : Room) s m ([.ref (ad 57), .int (nI i), .int x9, .int y2]).toArray below meth c s.heap [] 0 0 (vx_MQ below (fun _ _ _ _ => False) (XQ dC dI ad S IX) ([.ref (ad 57), .int (nI i), .int x9, .int y2]).toArray s 1 6 (fun _ => False)) (F0 m 0 ls [])
  refine lv_aload_n hx hb dX4_search_0 rfl (lv_at hl 0 rfl) ?_
  refine lv_iload_n hx hb dX4_search_1 rfl (lv_at hl 1 rfl) ?_
  refine va_csr (va_Run.run (va_runV (As := [.int (nI i)]) (rest := []) ⟨hx, hb, hml, hown, hts⟩ (m_X4_rowAt l dC dI ad S i (by omega)) (cwV 1 hts gX4_search_X4_rowAt rfl rfl rfl hdX4_rowAt_1 ⟨Nat.le_of_ble_eq_true rfl, Nat.le_of_ble_eq_true rfl⟩) (hX.preTop 57 6 (by decide) (by decide) rfl rfl) rfl rfl hl.1 rfl (lv_room (Nat.le_of_ble_eq_true rfl)) dX4_search_2 ⟨Nat.le_of_ble_eq_true rfl, Nat.le_of_ble_eq_true rfl⟩)) (fun k_ hk_ => ?_)
  rw [hk_]
  refine lv_astore (lv' := [(4, .ref (ad (3 * i))), (0, .ref (ad 57)), (1, .int (nI i)), (2, .int x9), (3, .int y2)]) hx hb dX4_search_5 hl (by decide) rfl (fun ls hl => ?_)
  refine lv_aload_n hx hb dX4_search_7 rfl (lv_at hl 1 rfl) ?_
  refine lv_iload_n hx hb dX4_search_8 rfl (lv_at hl 3 rfl) ?_
  exact kx_pass (vx_runV (As := [.int x9]) (rest := []) ⟨hx, hb, hml, hown, hts⟩ (t_X4_orderAt l hst dC dI ad S x9 hb9) (cwV 1 hts gX4_search_X4_orderAt rfl rfl rfl hdX4_orderAt_1 ⟨Nat.le_of_ble_eq_true rfl, Nat.le_of_ble_eq_true rfl⟩) (hPZ.preX) rfl rfl hl.1 rfl (lv_room (Nat.le_of_ble_eq_true rfl)) dX4_search_9 ⟨Nat.le_of_ble_eq_true rfl, Nat.le_of_ble_eq_true rfl⟩) hPX hex hlocks
set_option maxHeartbeats 4000000 in
set_option maxRecDepth 100000 in
theorem t_X4_search_3 (l : Launch) (hst : l.stackTraces = false) (dC : Nat → ClassId) (dI : Nat → Nat → Nat) (ad : Nat → Nat) (S : XS) (i : Nat) (j : Nat) (x9 : Int32) (hi : i < 3) (hj : j < 4) (hb9 : x9 < 0 ∨ nI 15 < x9) : vx_Met l yX4_search wsX4_search ({ frames := 8, cells := 1, slots := 6, locals := 123 } : Room) (va_Pc [.ref (ad 57), .int (nI i), .int (nI j), .int x9] (PXZ dC dI ad S)) (fun _ _ _ _ => False) (XQ dC dI ad S IA) 1 6 (fun _ => False) := by
  refine vx_ofW (cc := cX4_search) (maxL := 6) (ret := (some .int)) (by decide) rfl ?_
  intro p e s m args below meth c s₁ B hml hex hv
  obtain ⟨rfl, hPZ⟩ := hv
  have hPX := hPZ.1
  have hx := B.exec
  have hb := B.bytes
  have hr := B.returns
  have hts := atoms_spec (ws := wsX4_search) B.pre
  have hown : s.vm.findClass RX4 = some m.cls := findClass_of_methodNamed B.named
  have hlocks := B.notSynchronized
  have hX := WX.of hPX
  have hl := lv_entry ([.ref (ad 57), .int (nI i), .int (nI j), .int x9]) (n := 6) (Nat.le_of_ble_eq_true rfl)
  rw [lg_entry_eq]
  generalize (lg_sl ([.ref (ad 57), .int (nI i), .int (nI j), .int x9]) ++ List.replicate (6 - (lg_sl ([.ref (ad 57), .int (nI i), .int (nI j), .int x9])).length) Slot.unset).toArray = ls at hl ⊢
  have hl : lv_has ls 6 [(0, .ref (ad 57)), (1, .int (nI i)), (2, .int (nI j)), (3, .int x9)] := hl
  show W p l e ({ frames := 8, cells := 1, slots := 6, locals := 123 } : Room) s m ([.ref (ad 57), .int (nI i), .int (nI j), .int x9]).toArray below meth c s.heap [] 0 0 (vx_MQ below (fun _ _ _ _ => False) (XQ dC dI ad S IA) ([.ref (ad 57), .int (nI i), .int (nI j), .int x9]).toArray s 1 6 (fun _ => False)) (F0 m 0 ls [])
  refine lv_aload_n hx hb dX4_search_0 rfl (lv_at hl 0 rfl) ?_
  refine lv_iload_n hx hb dX4_search_1 rfl (lv_at hl 1 rfl) ?_
  refine va_csr (va_Run.run (va_runV (As := [.int (nI i)]) (rest := []) ⟨hx, hb, hml, hown, hts⟩ (m_X4_rowAt l dC dI ad S i (by omega)) (cwV 1 hts gX4_search_X4_rowAt rfl rfl rfl hdX4_rowAt_1 ⟨Nat.le_of_ble_eq_true rfl, Nat.le_of_ble_eq_true rfl⟩) (hX.preTop 57 6 (by decide) (by decide) rfl rfl) rfl rfl hl.1 rfl (lv_room (Nat.le_of_ble_eq_true rfl)) dX4_search_2 ⟨Nat.le_of_ble_eq_true rfl, Nat.le_of_ble_eq_true rfl⟩)) (fun k_ hk_ => ?_)
  rw [hk_]
  refine lv_astore (lv' := [(4, .ref (ad (3 * i))), (0, .ref (ad 57)), (1, .int (nI i)), (2, .int (nI j)), (3, .int x9)]) hx hb dX4_search_5 hl (by decide) rfl (fun ls hl => ?_)
  refine lv_aload_n hx hb dX4_search_7 rfl (lv_at hl 1 rfl) ?_
  refine lv_iload_n hx hb dX4_search_8 rfl (lv_at hl 3 rfl) ?_
  refine va_csr (va_Run.run (va_runV (As := [.int (nI j)]) (rest := []) ⟨hx, hb, hml, hown, hts⟩ (m_X4_orderAt l dC dI ad S j (by omega)) (cwV 1 hts gX4_search_X4_orderAt rfl rfl rfl hdX4_orderAt_1 ⟨Nat.le_of_ble_eq_true rfl, Nat.le_of_ble_eq_true rfl⟩) (hX.preTop 57 6 (by decide) (by decide) rfl rfl) rfl rfl hl.1 rfl (lv_room (Nat.le_of_ble_eq_true rfl)) dX4_search_9 ⟨Nat.le_of_ble_eq_true rfl, Nat.le_of_ble_eq_true rfl⟩)) (fun k_ hk_ => ?_)
  rw [hk_]
  refine lv_astore (lv' := [(5, .ref (ad (24 + 5 * j))), (4, .ref (ad (3 * i))), (0, .ref (ad 57)), (1, .int (nI i)), (2, .int (nI j)), (3, .int x9)]) hx hb dX4_search_12 hl (by decide) rfl (fun ls hl => ?_)
  refine lv_iload_n hx hb dX4_search_14 rfl (lv_at hl 5 rfl) ?_
  exact kx_pass (vx_runS (As := [.int x9]) (rest := []) ⟨hx, hb, hml, hown, hts⟩ (t_X4_demandValue l hst dC dI ad S x9 hb9) (va_cwS 1 hts gX4_search_X4_demandValue rfl rfl rfl hdX4_demandValue_1.2 ⟨Nat.le_of_ble_eq_true rfl, Nat.le_of_ble_eq_true rfl⟩) hPZ.preS rfl rfl hl.1 rfl (lv_room (Nat.le_of_ble_eq_true rfl)) dX4_search_15 ⟨Nat.le_of_ble_eq_true rfl, Nat.le_of_ble_eq_true rfl⟩) hPX hex hlocks
set_option maxHeartbeats 4000000 in
set_option maxRecDepth 100000 in
theorem t_X4_near_1 (l : Launch) (hst : l.stackTraces = false) (dC : Nat → ClassId) (dI : Nat → Nat → Nat) (ad : Nat → Nat) (S : XS) (x9 : Int32) (y1 : Int32) (y2 : Int32) (y3 : Int32) (hb9 : x9 < 0 ∨ nI 3 ≤ x9) : vx_Met l yX4_near wsX4_near ({ frames := 8, cells := 1, slots := 6, locals := 123 } : Room) (va_Pc [.ref (ad 57), .int x9, .int y1, .int y2, .int y3] (PXZ dC dI ad S)) (fun _ _ _ _ => False) (XQ dC dI ad S IX) 1 6 (fun _ => False) := by
  refine vx_ofW (cc := cX4_near) (maxL := 8) (ret := (some .int)) (by decide) rfl ?_
  intro p e s m args below meth c s₁ B hml hex hv
  obtain ⟨rfl, hPZ⟩ := hv
  have hPX := hPZ.1
  have hx := B.exec
  have hb := B.bytes
  have hr := B.returns
  have hts := atoms_spec (ws := wsX4_near) B.pre
  have hown : s.vm.findClass RX4 = some m.cls := findClass_of_methodNamed B.named
  have hlocks := B.notSynchronized
  have hX := WX.of hPX
  have hl := lv_entry ([.ref (ad 57), .int x9, .int y1, .int y2, .int y3]) (n := 8) (Nat.le_of_ble_eq_true rfl)
  rw [lg_entry_eq]
  generalize (lg_sl ([.ref (ad 57), .int x9, .int y1, .int y2, .int y3]) ++ List.replicate (8 - (lg_sl ([.ref (ad 57), .int x9, .int y1, .int y2, .int y3])).length) Slot.unset).toArray = ls at hl ⊢
  have hl : lv_has ls 8 [(0, .ref (ad 57)), (1, .int x9), (2, .int y1), (3, .int y2), (4, .int y3)] := hl
  show W p l e ({ frames := 8, cells := 1, slots := 6, locals := 123 } : Room) s m ([.ref (ad 57), .int x9, .int y1, .int y2, .int y3]).toArray below meth c s.heap [] 0 0 (vx_MQ below (fun _ _ _ _ => False) (XQ dC dI ad S IX) ([.ref (ad 57), .int x9, .int y1, .int y2, .int y3]).toArray s 1 6 (fun _ => False)) (F0 m 0 ls [])
  refine lv_aload_n hx hb dX4_near_0 rfl (lv_at hl 0 rfl) ?_
  refine lv_iload_n hx hb dX4_near_1 rfl (lv_at hl 1 rfl) ?_
  exact kx_pass (vx_runV (As := [.int x9]) (rest := []) ⟨hx, hb, hml, hown, hts⟩ (t_X4_rowAt l hst dC dI ad S x9 hb9) (cwV 1 hts gX4_near_X4_rowAt rfl rfl rfl hdX4_rowAt_1 ⟨Nat.le_of_ble_eq_true rfl, Nat.le_of_ble_eq_true rfl⟩) (hPZ.preX) rfl rfl hl.1 rfl (lv_room (Nat.le_of_ble_eq_true rfl)) dX4_near_2 ⟨Nat.le_of_ble_eq_true rfl, Nat.le_of_ble_eq_true rfl⟩) hPX hex hlocks
set_option maxHeartbeats 4000000 in
set_option maxRecDepth 100000 in
theorem t_X4_near_2 (l : Launch) (hst : l.stackTraces = false) (dC : Nat → ClassId) (dI : Nat → Nat → Nat) (ad : Nat → Nat) (S : XS) (i : Nat) (x9 : Int32) (y2 : Int32) (y3 : Int32) (hi : i < 3) (hb9 : x9 < 0 ∨ nI 4 ≤ x9) : vx_Met l yX4_near wsX4_near ({ frames := 8, cells := 1, slots := 6, locals := 123 } : Room) (va_Pc [.ref (ad 57), .int (nI i), .int x9, .int y2, .int y3] (PXZ dC dI ad S)) (fun _ _ _ _ => False) (XQ dC dI ad S IX) 1 6 (fun _ => False) := by
  refine vx_ofW (cc := cX4_near) (maxL := 8) (ret := (some .int)) (by decide) rfl ?_
  intro p e s m args below meth c s₁ B hml hex hv
  obtain ⟨rfl, hPZ⟩ := hv
  have hPX := hPZ.1
  have hx := B.exec
  have hb := B.bytes
  have hr := B.returns
  have hts := atoms_spec (ws := wsX4_near) B.pre
  have hown : s.vm.findClass RX4 = some m.cls := findClass_of_methodNamed B.named
  have hlocks := B.notSynchronized
  have hX := WX.of hPX
  have hl := lv_entry ([.ref (ad 57), .int (nI i), .int x9, .int y2, .int y3]) (n := 8) (Nat.le_of_ble_eq_true rfl)
  rw [lg_entry_eq]
  generalize (lg_sl ([.ref (ad 57), .int (nI i), .int x9, .int y2, .int y3]) ++ List.replicate (8 - (lg_sl ([.ref (ad 57), .int (nI i), .int x9, .int y2, .int y3])).length) Slot.unset).toArray = ls at hl ⊢
  have hl : lv_has ls 8 [(0, .ref (ad 57)), (1, .int (nI i)), (2, .int x9), (3, .int y2), (4, .int y3)] := hl
  show W p l e ({ frames := 8, cells := 1, slots := 6, locals := 123 } : Room) s m ([.ref (ad 57), .int (nI i), .int x9, .int y2, .int y3]).toArray below meth c s.heap [] 0 0 (vx_MQ below (fun _ _ _ _ => False) (XQ dC dI ad S IX) ([.ref (ad 57), .int (nI i), .int x9, .int y2, .int y3]).toArray s 1 6 (fun _ => False)) (F0 m 0 ls [])
  refine lv_aload_n hx hb dX4_near_0 rfl (lv_at hl 0 rfl) ?_
  refine lv_iload_n hx hb dX4_near_1 rfl (lv_at hl 1 rfl) ?_
  refine va_csr (va_Run.run (va_runV (As := [.int (nI i)]) (rest := []) ⟨hx, hb, hml, hown, hts⟩ (m_X4_rowAt l dC dI ad S i (by omega)) (cwV 1 hts gX4_near_X4_rowAt rfl rfl rfl hdX4_rowAt_1 ⟨Nat.le_of_ble_eq_true rfl, Nat.le_of_ble_eq_true rfl⟩) (hX.preTop 57 6 (by decide) (by decide) rfl rfl) rfl rfl hl.1 rfl (lv_room (Nat.le_of_ble_eq_true rfl)) dX4_near_2 ⟨Nat.le_of_ble_eq_true rfl, Nat.le_of_ble_eq_true rfl⟩)) (fun k_ hk_ => ?_)
  rw [hk_]
  refine lv_astore (lv' := [(5, .ref (ad (3 * i))), (0, .ref (ad 57)), (1, .int (nI i)), (2, .int x9), (3, .int y2), (4, .int y3)]) hx hb dX4_near_5 hl (by decide) rfl (fun ls hl => ?_)
  refine lv_aload_n hx hb dX4_near_7 rfl (lv_at hl 1 rfl) ?_
  refine lv_iload_n hx hb dX4_near_8 rfl (lv_at hl 3 rfl) ?_
  exact kx_pass (vx_runV (As := [.int x9]) (rest := []) ⟨hx, hb, hml, hown, hts⟩ (t_X4_orderAt l hst dC dI ad S x9 hb9) (cwV 1 hts gX4_near_X4_orderAt rfl rfl rfl hdX4_orderAt_1 ⟨Nat.le_of_ble_eq_true rfl, Nat.le_of_ble_eq_true rfl⟩) (hPZ.preX) rfl rfl hl.1 rfl (lv_room (Nat.le_of_ble_eq_true rfl)) dX4_near_9 ⟨Nat.le_of_ble_eq_true rfl, Nat.le_of_ble_eq_true rfl⟩) hPX hex hlocks
set_option maxHeartbeats 4000000 in
set_option maxRecDepth 100000 in
theorem t_X4_near_3 (l : Launch) (hst : l.stackTraces = false) (dC : Nat → ClassId) (dI : Nat → Nat → Nat) (ad : Nat → Nat) (S : XS) (i : Nat) (j : Nat) (x9 : Int32) (y3 : Int32) (hi : i < 3) (hj : j < 4) (hb9 : x9 < 0 ∨ nI 15 < x9) : vx_Met l yX4_near wsX4_near ({ frames := 8, cells := 1, slots := 6, locals := 123 } : Room) (va_Pc [.ref (ad 57), .int (nI i), .int (nI j), .int x9, .int y3] (PXZ dC dI ad S)) (fun _ _ _ _ => False) (XQ dC dI ad S IA) 1 6 (fun _ => False) := by
  refine vx_ofW (cc := cX4_near) (maxL := 8) (ret := (some .int)) (by decide) rfl ?_
  intro p e s m args below meth c s₁ B hml hex hv
  obtain ⟨rfl, hPZ⟩ := hv
  have hPX := hPZ.1
  have hx := B.exec
  have hb := B.bytes
  have hr := B.returns
  have hts := atoms_spec (ws := wsX4_near) B.pre
  have hown : s.vm.findClass RX4 = some m.cls := findClass_of_methodNamed B.named
  have hlocks := B.notSynchronized
  have hX := WX.of hPX
  have hl := lv_entry ([.ref (ad 57), .int (nI i), .int (nI j), .int x9, .int y3]) (n := 8) (Nat.le_of_ble_eq_true rfl)
  rw [lg_entry_eq]
  generalize (lg_sl ([.ref (ad 57), .int (nI i), .int (nI j), .int x9, .int y3]) ++ List.replicate (8 - (lg_sl ([.ref (ad 57), .int (nI i), .int (nI j), .int x9, .int y3])).length) Slot.unset).toArray = ls at hl ⊢
  have hl : lv_has ls 8 [(0, .ref (ad 57)), (1, .int (nI i)), (2, .int (nI j)), (3, .int x9), (4, .int y3)] := hl
  show W p l e ({ frames := 8, cells := 1, slots := 6, locals := 123 } : Room) s m ([.ref (ad 57), .int (nI i), .int (nI j), .int x9, .int y3]).toArray below meth c s.heap [] 0 0 (vx_MQ below (fun _ _ _ _ => False) (XQ dC dI ad S IA) ([.ref (ad 57), .int (nI i), .int (nI j), .int x9, .int y3]).toArray s 1 6 (fun _ => False)) (F0 m 0 ls [])
  refine lv_aload_n hx hb dX4_near_0 rfl (lv_at hl 0 rfl) ?_
  refine lv_iload_n hx hb dX4_near_1 rfl (lv_at hl 1 rfl) ?_
  refine va_csr (va_Run.run (va_runV (As := [.int (nI i)]) (rest := []) ⟨hx, hb, hml, hown, hts⟩ (m_X4_rowAt l dC dI ad S i (by omega)) (cwV 1 hts gX4_near_X4_rowAt rfl rfl rfl hdX4_rowAt_1 ⟨Nat.le_of_ble_eq_true rfl, Nat.le_of_ble_eq_true rfl⟩) (hX.preTop 57 6 (by decide) (by decide) rfl rfl) rfl rfl hl.1 rfl (lv_room (Nat.le_of_ble_eq_true rfl)) dX4_near_2 ⟨Nat.le_of_ble_eq_true rfl, Nat.le_of_ble_eq_true rfl⟩)) (fun k_ hk_ => ?_)
  rw [hk_]
  refine lv_astore (lv' := [(5, .ref (ad (3 * i))), (0, .ref (ad 57)), (1, .int (nI i)), (2, .int (nI j)), (3, .int x9), (4, .int y3)]) hx hb dX4_near_5 hl (by decide) rfl (fun ls hl => ?_)
  refine lv_aload_n hx hb dX4_near_7 rfl (lv_at hl 1 rfl) ?_
  refine lv_iload_n hx hb dX4_near_8 rfl (lv_at hl 3 rfl) ?_
  refine va_csr (va_Run.run (va_runV (As := [.int (nI j)]) (rest := []) ⟨hx, hb, hml, hown, hts⟩ (m_X4_orderAt l dC dI ad S j (by omega)) (cwV 1 hts gX4_near_X4_orderAt rfl rfl rfl hdX4_orderAt_1 ⟨Nat.le_of_ble_eq_true rfl, Nat.le_of_ble_eq_true rfl⟩) (hX.preTop 57 6 (by decide) (by decide) rfl rfl) rfl rfl hl.1 rfl (lv_room (Nat.le_of_ble_eq_true rfl)) dX4_near_9 ⟨Nat.le_of_ble_eq_true rfl, Nat.le_of_ble_eq_true rfl⟩)) (fun k_ hk_ => ?_)
  rw [hk_]
  refine lv_astore (lv' := [(6, .ref (ad (24 + 5 * j))), (5, .ref (ad (3 * i))), (0, .ref (ad 57)), (1, .int (nI i)), (2, .int (nI j)), (3, .int x9), (4, .int y3)]) hx hb dX4_near_12 hl (by decide) rfl (fun ls hl => ?_)
  refine lv_iload_n hx hb dX4_near_14 rfl (lv_at hl 5 rfl) ?_
  exact kx_pass (vx_runS (As := [.int x9]) (rest := []) ⟨hx, hb, hml, hown, hts⟩ (t_X4_demandValue l hst dC dI ad S x9 hb9) (va_cwS 1 hts gX4_near_X4_demandValue rfl rfl rfl hdX4_demandValue_1.2 ⟨Nat.le_of_ble_eq_true rfl, Nat.le_of_ble_eq_true rfl⟩) hPZ.preS rfl rfl hl.1 rfl (lv_room (Nat.le_of_ble_eq_true rfl)) dX4_near_15 ⟨Nat.le_of_ble_eq_true rfl, Nat.le_of_ble_eq_true rfl⟩) hPX hex hlocks
set_option maxHeartbeats 4000000 in
set_option maxRecDepth 100000 in
theorem t_X4_near_4 (l : Launch) (hst : l.stackTraces = false) (dC : Nat → ClassId) (dI : Nat → Nat → Nat) (ad : Nat → Nat) (S : XS) (i : Nat) (j : Nat) (v : Nat) (x9 : Int32) (hi : i < 3) (hj : j < 4) (hv : v < 16) (hb9 : x9 < 0 ∨ nI 3 < x9) : vx_Met l yX4_near wsX4_near ({ frames := 8, cells := 1, slots := 6, locals := 123 } : Room) (va_Pc [.ref (ad 57), .int (nI i), .int (nI j), .int (nI v), .int x9] (PXZ dC dI ad S)) (fun _ _ _ _ => False) (XQ dC dI ad S IA) 1 6 (fun _ => False) := by
  refine vx_ofW (cc := cX4_near) (maxL := 8) (ret := (some .int)) (by decide) rfl ?_
  intro p e s m args below meth c s₁ B hml hex hv
  obtain ⟨rfl, hPZ⟩ := hv
  have hPX := hPZ.1
  have hx := B.exec
  have hb := B.bytes
  have hr := B.returns
  have hts := atoms_spec (ws := wsX4_near) B.pre
  have hown : s.vm.findClass RX4 = some m.cls := findClass_of_methodNamed B.named
  have hlocks := B.notSynchronized
  have hX := WX.of hPX
  have hl := lv_entry ([.ref (ad 57), .int (nI i), .int (nI j), .int (nI v), .int x9]) (n := 8) (Nat.le_of_ble_eq_true rfl)
  rw [lg_entry_eq]
  generalize (lg_sl ([.ref (ad 57), .int (nI i), .int (nI j), .int (nI v), .int x9]) ++ List.replicate (8 - (lg_sl ([.ref (ad 57), .int (nI i), .int (nI j), .int (nI v), .int x9])).length) Slot.unset).toArray = ls at hl ⊢
  have hl : lv_has ls 8 [(0, .ref (ad 57)), (1, .int (nI i)), (2, .int (nI j)), (3, .int (nI v)), (4, .int x9)] := hl
  show W p l e ({ frames := 8, cells := 1, slots := 6, locals := 123 } : Room) s m ([.ref (ad 57), .int (nI i), .int (nI j), .int (nI v), .int x9]).toArray below meth c s.heap [] 0 0 (vx_MQ below (fun _ _ _ _ => False) (XQ dC dI ad S IA) ([.ref (ad 57), .int (nI i), .int (nI j), .int (nI v), .int x9]).toArray s 1 6 (fun _ => False)) (F0 m 0 ls [])
  refine lv_aload_n hx hb dX4_near_0 rfl (lv_at hl 0 rfl) ?_
  refine lv_iload_n hx hb dX4_near_1 rfl (lv_at hl 1 rfl) ?_
  refine va_csr (va_Run.run (va_runV (As := [.int (nI i)]) (rest := []) ⟨hx, hb, hml, hown, hts⟩ (m_X4_rowAt l dC dI ad S i (by omega)) (cwV 1 hts gX4_near_X4_rowAt rfl rfl rfl hdX4_rowAt_1 ⟨Nat.le_of_ble_eq_true rfl, Nat.le_of_ble_eq_true rfl⟩) (hX.preTop 57 6 (by decide) (by decide) rfl rfl) rfl rfl hl.1 rfl (lv_room (Nat.le_of_ble_eq_true rfl)) dX4_near_2 ⟨Nat.le_of_ble_eq_true rfl, Nat.le_of_ble_eq_true rfl⟩)) (fun k_ hk_ => ?_)
  rw [hk_]
  refine lv_astore (lv' := [(5, .ref (ad (3 * i))), (0, .ref (ad 57)), (1, .int (nI i)), (2, .int (nI j)), (3, .int (nI v)), (4, .int x9)]) hx hb dX4_near_5 hl (by decide) rfl (fun ls hl => ?_)
  refine lv_aload_n hx hb dX4_near_7 rfl (lv_at hl 1 rfl) ?_
  refine lv_iload_n hx hb dX4_near_8 rfl (lv_at hl 3 rfl) ?_
  refine va_csr (va_Run.run (va_runV (As := [.int (nI j)]) (rest := []) ⟨hx, hb, hml, hown, hts⟩ (m_X4_orderAt l dC dI ad S j (by omega)) (cwV 1 hts gX4_near_X4_orderAt rfl rfl rfl hdX4_orderAt_1 ⟨Nat.le_of_ble_eq_true rfl, Nat.le_of_ble_eq_true rfl⟩) (hX.preTop 57 6 (by decide) (by decide) rfl rfl) rfl rfl hl.1 rfl (lv_room (Nat.le_of_ble_eq_true rfl)) dX4_near_9 ⟨Nat.le_of_ble_eq_true rfl, Nat.le_of_ble_eq_true rfl⟩)) (fun k_ hk_ => ?_)
  rw [hk_]
  refine lv_astore (lv' := [(6, .ref (ad (24 + 5 * j))), (5, .ref (ad (3 * i))), (0, .ref (ad 57)), (1, .int (nI i)), (2, .int (nI j)), (3, .int (nI v)), (4, .int x9)]) hx hb dX4_near_12 hl (by decide) rfl (fun ls hl => ?_)
  refine lv_iload_n hx hb dX4_near_14 rfl (lv_at hl 5 rfl) ?_
  refine va_csv (va_Run.run (va_runS (As := [.int (nI v)]) (rest := []) ⟨hx, hb, hml, hown, hts⟩ (m_X4_demandValue l dC dI ad S v (by omega)) (va_cwS 1 hts gX4_near_X4_demandValue rfl rfl rfl hdX4_demandValue_1.2 ⟨Nat.le_of_ble_eq_true rfl, Nat.le_of_ble_eq_true rfl⟩) hX.preS rfl rfl hl.1 rfl (lv_room (Nat.le_of_ble_eq_true rfl)) dX4_near_15 ⟨Nat.le_of_ble_eq_true rfl, Nat.le_of_ble_eq_true rfl⟩)) (fun _ => ?_)
  refine lv_iload hx hb dX4_near_18 (lv_at hl 6 rfl) ?_
  refine lv_iconst (v := nI 3) hx hb dX4_near_20 (by decide) ?_
  exact kx_pass (vx_runS (As := [.int x9, .int (nI 3)]) (rest := []) ⟨hx, hb, hml, hown, hts⟩ (t_X4_demandWithin l hst dC dI ad S x9 3 (by omega) hb9) (va_cwS 2 hts gX4_near_X4_demandWithin rfl rfl rfl hdX4_demandWithin_2.2 ⟨Nat.le_of_ble_eq_true rfl, Nat.le_of_ble_eq_true rfl⟩) hPZ.preS rfl rfl hl.1 rfl (lv_room (Nat.le_of_ble_eq_true rfl)) dX4_near_21 ⟨Nat.le_of_ble_eq_true rfl, Nat.le_of_ble_eq_true rfl⟩) hPX hex hlocks
set_option maxHeartbeats 4000000 in
set_option maxRecDepth 100000 in
theorem t_X4_kinds_1 (l : Launch) (hst : l.stackTraces = false) (dC : Nat → ClassId) (dI : Nat → Nat → Nat) (ad : Nat → Nat) (S : XS) (x9 : Int32) (y1 : Int32) (hb9 : x9 < 0 ∨ nI 3 ≤ x9) : vx_Met l yX4_kinds wsX4_kinds ({ frames := 8, cells := 1, slots := 6, locals := 123 } : Room) (va_Pc [.ref (ad 57), .int x9, .int y1] (PXZ dC dI ad S)) (fun _ _ _ _ => False) (XQ dC dI ad S IX) 1 6 (fun _ => False) := by
  refine vx_ofW (cc := cX4_kinds) (maxL := 4) (ret := (some .int)) (by decide) rfl ?_
  intro p e s m args below meth c s₁ B hml hex hv
  obtain ⟨rfl, hPZ⟩ := hv
  have hPX := hPZ.1
  have hx := B.exec
  have hb := B.bytes
  have hr := B.returns
  have hts := atoms_spec (ws := wsX4_kinds) B.pre
  have hown : s.vm.findClass RX4 = some m.cls := findClass_of_methodNamed B.named
  have hlocks := B.notSynchronized
  have hX := WX.of hPX
  have hl := lv_entry ([.ref (ad 57), .int x9, .int y1]) (n := 4) (Nat.le_of_ble_eq_true rfl)
  rw [lg_entry_eq]
  generalize (lg_sl ([.ref (ad 57), .int x9, .int y1]) ++ List.replicate (4 - (lg_sl ([.ref (ad 57), .int x9, .int y1])).length) Slot.unset).toArray = ls at hl ⊢
  have hl : lv_has ls 4 [(0, .ref (ad 57)), (1, .int x9), (2, .int y1)] := hl
  show W p l e ({ frames := 8, cells := 1, slots := 6, locals := 123 } : Room) s m ([.ref (ad 57), .int x9, .int y1]).toArray below meth c s.heap [] 0 0 (vx_MQ below (fun _ _ _ _ => False) (XQ dC dI ad S IX) ([.ref (ad 57), .int x9, .int y1]).toArray s 1 6 (fun _ => False)) (F0 m 0 ls [])
  refine lv_aload_n hx hb dX4_kinds_0 rfl (lv_at hl 0 rfl) ?_
  refine lv_iload_n hx hb dX4_kinds_1 rfl (lv_at hl 1 rfl) ?_
  exact kx_pass (vx_runV (As := [.int x9]) (rest := []) ⟨hx, hb, hml, hown, hts⟩ (t_X4_rowAt l hst dC dI ad S x9 hb9) (cwV 1 hts gX4_kinds_X4_rowAt rfl rfl rfl hdX4_rowAt_1 ⟨Nat.le_of_ble_eq_true rfl, Nat.le_of_ble_eq_true rfl⟩) (hPZ.preX) rfl rfl hl.1 rfl (lv_room (Nat.le_of_ble_eq_true rfl)) dX4_kinds_2 ⟨Nat.le_of_ble_eq_true rfl, Nat.le_of_ble_eq_true rfl⟩) hPX hex hlocks
set_option maxHeartbeats 4000000 in
set_option maxRecDepth 100000 in
theorem t_X4_kinds_2 (l : Launch) (hst : l.stackTraces = false) (dC : Nat → ClassId) (dI : Nat → Nat → Nat) (ad : Nat → Nat) (S : XS) (i : Nat) (x9 : Int32) (hi : i < 3) (hb9 : x9 < 0 ∨ nI 4 ≤ x9) : vx_Met l yX4_kinds wsX4_kinds ({ frames := 8, cells := 1, slots := 6, locals := 123 } : Room) (va_Pc [.ref (ad 57), .int (nI i), .int x9] (PXZ dC dI ad S)) (fun _ _ _ _ => False) (XQ dC dI ad S IX) 1 6 (fun _ => False) := by
  refine vx_ofW (cc := cX4_kinds) (maxL := 4) (ret := (some .int)) (by decide) rfl ?_
  intro p e s m args below meth c s₁ B hml hex hv
  obtain ⟨rfl, hPZ⟩ := hv
  have hPX := hPZ.1
  have hx := B.exec
  have hb := B.bytes
  have hr := B.returns
  have hts := atoms_spec (ws := wsX4_kinds) B.pre
  have hown : s.vm.findClass RX4 = some m.cls := findClass_of_methodNamed B.named
  have hlocks := B.notSynchronized
  have hX := WX.of hPX
  have hl := lv_entry ([.ref (ad 57), .int (nI i), .int x9]) (n := 4) (Nat.le_of_ble_eq_true rfl)
  rw [lg_entry_eq]
  generalize (lg_sl ([.ref (ad 57), .int (nI i), .int x9]) ++ List.replicate (4 - (lg_sl ([.ref (ad 57), .int (nI i), .int x9])).length) Slot.unset).toArray = ls at hl ⊢
  have hl : lv_has ls 4 [(0, .ref (ad 57)), (1, .int (nI i)), (2, .int x9)] := hl
  show W p l e ({ frames := 8, cells := 1, slots := 6, locals := 123 } : Room) s m ([.ref (ad 57), .int (nI i), .int x9]).toArray below meth c s.heap [] 0 0 (vx_MQ below (fun _ _ _ _ => False) (XQ dC dI ad S IX) ([.ref (ad 57), .int (nI i), .int x9]).toArray s 1 6 (fun _ => False)) (F0 m 0 ls [])
  refine lv_aload_n hx hb dX4_kinds_0 rfl (lv_at hl 0 rfl) ?_
  refine lv_iload_n hx hb dX4_kinds_1 rfl (lv_at hl 1 rfl) ?_
  refine va_csr (va_Run.run (va_runV (As := [.int (nI i)]) (rest := []) ⟨hx, hb, hml, hown, hts⟩ (m_X4_rowAt l dC dI ad S i (by omega)) (cwV 1 hts gX4_kinds_X4_rowAt rfl rfl rfl hdX4_rowAt_1 ⟨Nat.le_of_ble_eq_true rfl, Nat.le_of_ble_eq_true rfl⟩) (hX.preTop 57 6 (by decide) (by decide) rfl rfl) rfl rfl hl.1 rfl (lv_room (Nat.le_of_ble_eq_true rfl)) dX4_kinds_2 ⟨Nat.le_of_ble_eq_true rfl, Nat.le_of_ble_eq_true rfl⟩)) (fun k_ hk_ => ?_)
  rw [hk_]
  refine lv_astore_n (lv' := [(3, .ref (ad (3 * i))), (0, .ref (ad 57)), (1, .int (nI i)), (2, .int x9)]) hx hb dX4_kinds_5 rfl hl (by decide) rfl (fun ls hl => ?_)
  refine lv_aload_n hx hb dX4_kinds_6 rfl (lv_at hl 0 rfl) ?_
  refine lv_aload_n hx hb dX4_kinds_7 rfl (lv_at hl 1 rfl) ?_
  refine lv_iload_n hx hb dX4_kinds_8 rfl (lv_at hl 3 rfl) ?_
  exact kx_pass (vx_runV (As := [.int x9]) (rest := [.ref (ad (3 * i))]) ⟨hx, hb, hml, hown, hts⟩ (t_X4_orderAt l hst dC dI ad S x9 hb9) (cwV 1 hts gX4_kinds_X4_orderAt rfl rfl rfl hdX4_orderAt_1 ⟨Nat.le_of_ble_eq_true rfl, Nat.le_of_ble_eq_true rfl⟩) (hPZ.preX) rfl rfl hl.1 rfl (lv_room (Nat.le_of_ble_eq_true rfl)) dX4_kinds_9 ⟨Nat.le_of_ble_eq_true rfl, Nat.le_of_ble_eq_true rfl⟩) hPX hex hlocks
set_option maxHeartbeats 4000000 in
set_option maxRecDepth 100000 in
theorem t_X4_ahead_1 (l : Launch) (hst : l.stackTraces = false) (dC : Nat → ClassId) (dI : Nat → Nat → Nat) (ad : Nat → Nat) (S : XS) (x9 : Int32) (y1 : Int32) (y2 : Int32) (hb9 : x9 < 0 ∨ nI 3 ≤ x9) : vx_Met l yX4_ahead wsX4_ahead ({ frames := 8, cells := 1, slots := 6, locals := 123 } : Room) (va_Pc [.ref (ad 57), .int x9, .int y1, .int y2] (PXZ dC dI ad S)) (fun _ _ _ _ => False) (XQ dC dI ad S IX) 1 6 (fun _ => False) := by
  refine vx_ofW (cc := cX4_ahead) (maxL := 6) (ret := (some .int)) (by decide) rfl ?_
  intro p e s m args below meth c s₁ B hml hex hv
  obtain ⟨rfl, hPZ⟩ := hv
  have hPX := hPZ.1
  have hx := B.exec
  have hb := B.bytes
  have hr := B.returns
  have hts := atoms_spec (ws := wsX4_ahead) B.pre
  have hown : s.vm.findClass RX4 = some m.cls := findClass_of_methodNamed B.named
  have hlocks := B.notSynchronized
  have hX := WX.of hPX
  have hl := lv_entry ([.ref (ad 57), .int x9, .int y1, .int y2]) (n := 6) (Nat.le_of_ble_eq_true rfl)
  rw [lg_entry_eq]
  generalize (lg_sl ([.ref (ad 57), .int x9, .int y1, .int y2]) ++ List.replicate (6 - (lg_sl ([.ref (ad 57), .int x9, .int y1, .int y2])).length) Slot.unset).toArray = ls at hl ⊢
  have hl : lv_has ls 6 [(0, .ref (ad 57)), (1, .int x9), (2, .int y1), (3, .int y2)] := hl
  show W p l e ({ frames := 8, cells := 1, slots := 6, locals := 123 } : Room) s m ([.ref (ad 57), .int x9, .int y1, .int y2]).toArray below meth c s.heap [] 0 0 (vx_MQ below (fun _ _ _ _ => False) (XQ dC dI ad S IX) ([.ref (ad 57), .int x9, .int y1, .int y2]).toArray s 1 6 (fun _ => False)) (F0 m 0 ls [])
  refine lv_aload_n hx hb dX4_ahead_0 rfl (lv_at hl 0 rfl) ?_
  refine lv_iload_n hx hb dX4_ahead_1 rfl (lv_at hl 1 rfl) ?_
  exact kx_pass (vx_runV (As := [.int x9]) (rest := []) ⟨hx, hb, hml, hown, hts⟩ (t_X4_rowAt l hst dC dI ad S x9 hb9) (cwV 1 hts gX4_ahead_X4_rowAt rfl rfl rfl hdX4_rowAt_1 ⟨Nat.le_of_ble_eq_true rfl, Nat.le_of_ble_eq_true rfl⟩) (hPZ.preX) rfl rfl hl.1 rfl (lv_room (Nat.le_of_ble_eq_true rfl)) dX4_ahead_2 ⟨Nat.le_of_ble_eq_true rfl, Nat.le_of_ble_eq_true rfl⟩) hPX hex hlocks
set_option maxHeartbeats 4000000 in
set_option maxRecDepth 100000 in
theorem t_X4_ahead_2 (l : Launch) (hst : l.stackTraces = false) (dC : Nat → ClassId) (dI : Nat → Nat → Nat) (ad : Nat → Nat) (S : XS) (i : Nat) (x9 : Int32) (y2 : Int32) (hi : i < 3) (hb9 : x9 < 0 ∨ nI 4 ≤ x9) : vx_Met l yX4_ahead wsX4_ahead ({ frames := 8, cells := 1, slots := 6, locals := 123 } : Room) (va_Pc [.ref (ad 57), .int (nI i), .int x9, .int y2] (PXZ dC dI ad S)) (fun _ _ _ _ => False) (XQ dC dI ad S IX) 1 6 (fun _ => False) := by
  refine vx_ofW (cc := cX4_ahead) (maxL := 6) (ret := (some .int)) (by decide) rfl ?_
  intro p e s m args below meth c s₁ B hml hex hv
  obtain ⟨rfl, hPZ⟩ := hv
  have hPX := hPZ.1
  have hx := B.exec
  have hb := B.bytes
  have hr := B.returns
  have hts := atoms_spec (ws := wsX4_ahead) B.pre
  have hown : s.vm.findClass RX4 = some m.cls := findClass_of_methodNamed B.named
  have hlocks := B.notSynchronized
  have hX := WX.of hPX
  have hl := lv_entry ([.ref (ad 57), .int (nI i), .int x9, .int y2]) (n := 6) (Nat.le_of_ble_eq_true rfl)
  rw [lg_entry_eq]
  generalize (lg_sl ([.ref (ad 57), .int (nI i), .int x9, .int y2]) ++ List.replicate (6 - (lg_sl ([.ref (ad 57), .int (nI i), .int x9, .int y2])).length) Slot.unset).toArray = ls at hl ⊢
  have hl : lv_has ls 6 [(0, .ref (ad 57)), (1, .int (nI i)), (2, .int x9), (3, .int y2)] := hl
  show W p l e ({ frames := 8, cells := 1, slots := 6, locals := 123 } : Room) s m ([.ref (ad 57), .int (nI i), .int x9, .int y2]).toArray below meth c s.heap [] 0 0 (vx_MQ below (fun _ _ _ _ => False) (XQ dC dI ad S IX) ([.ref (ad 57), .int (nI i), .int x9, .int y2]).toArray s 1 6 (fun _ => False)) (F0 m 0 ls [])
  refine lv_aload_n hx hb dX4_ahead_0 rfl (lv_at hl 0 rfl) ?_
  refine lv_iload_n hx hb dX4_ahead_1 rfl (lv_at hl 1 rfl) ?_
  refine va_csr (va_Run.run (va_runV (As := [.int (nI i)]) (rest := []) ⟨hx, hb, hml, hown, hts⟩ (m_X4_rowAt l dC dI ad S i (by omega)) (cwV 1 hts gX4_ahead_X4_rowAt rfl rfl rfl hdX4_rowAt_1 ⟨Nat.le_of_ble_eq_true rfl, Nat.le_of_ble_eq_true rfl⟩) (hX.preTop 57 6 (by decide) (by decide) rfl rfl) rfl rfl hl.1 rfl (lv_room (Nat.le_of_ble_eq_true rfl)) dX4_ahead_2 ⟨Nat.le_of_ble_eq_true rfl, Nat.le_of_ble_eq_true rfl⟩)) (fun k_ hk_ => ?_)
  rw [hk_]
  refine lv_astore (lv' := [(4, .ref (ad (3 * i))), (0, .ref (ad 57)), (1, .int (nI i)), (2, .int x9), (3, .int y2)]) hx hb dX4_ahead_5 hl (by decide) rfl (fun ls hl => ?_)
  refine lv_aload_n hx hb dX4_ahead_7 rfl (lv_at hl 1 rfl) ?_
  refine lv_iload_n hx hb dX4_ahead_8 rfl (lv_at hl 3 rfl) ?_
  exact kx_pass (vx_runV (As := [.int x9]) (rest := []) ⟨hx, hb, hml, hown, hts⟩ (t_X4_orderAt l hst dC dI ad S x9 hb9) (cwV 1 hts gX4_ahead_X4_orderAt rfl rfl rfl hdX4_orderAt_1 ⟨Nat.le_of_ble_eq_true rfl, Nat.le_of_ble_eq_true rfl⟩) (hPZ.preX) rfl rfl hl.1 rfl (lv_room (Nat.le_of_ble_eq_true rfl)) dX4_ahead_9 ⟨Nat.le_of_ble_eq_true rfl, Nat.le_of_ble_eq_true rfl⟩) hPX hex hlocks
set_option maxHeartbeats 4000000 in
set_option maxRecDepth 100000 in
theorem t_X4_ahead_3 (l : Launch) (hst : l.stackTraces = false) (dC : Nat → ClassId) (dI : Nat → Nat → Nat) (ad : Nat → Nat) (S : XS) (i : Nat) (j : Nat) (x9 : Int32) (hi : i < 3) (hj : j < 4) (hb9 : x9 < 0 ∨ nI 15 < x9) : vx_Met l yX4_ahead wsX4_ahead ({ frames := 8, cells := 1, slots := 6, locals := 123 } : Room) (va_Pc [.ref (ad 57), .int (nI i), .int (nI j), .int x9] (PXZ dC dI ad S)) (fun _ _ _ _ => False) (XQ dC dI ad S IA) 1 6 (fun _ => False) := by
  refine vx_ofW (cc := cX4_ahead) (maxL := 6) (ret := (some .int)) (by decide) rfl ?_
  intro p e s m args below meth c s₁ B hml hex hv
  obtain ⟨rfl, hPZ⟩ := hv
  have hPX := hPZ.1
  have hx := B.exec
  have hb := B.bytes
  have hr := B.returns
  have hts := atoms_spec (ws := wsX4_ahead) B.pre
  have hown : s.vm.findClass RX4 = some m.cls := findClass_of_methodNamed B.named
  have hlocks := B.notSynchronized
  have hX := WX.of hPX
  have hl := lv_entry ([.ref (ad 57), .int (nI i), .int (nI j), .int x9]) (n := 6) (Nat.le_of_ble_eq_true rfl)
  rw [lg_entry_eq]
  generalize (lg_sl ([.ref (ad 57), .int (nI i), .int (nI j), .int x9]) ++ List.replicate (6 - (lg_sl ([.ref (ad 57), .int (nI i), .int (nI j), .int x9])).length) Slot.unset).toArray = ls at hl ⊢
  have hl : lv_has ls 6 [(0, .ref (ad 57)), (1, .int (nI i)), (2, .int (nI j)), (3, .int x9)] := hl
  show W p l e ({ frames := 8, cells := 1, slots := 6, locals := 123 } : Room) s m ([.ref (ad 57), .int (nI i), .int (nI j), .int x9]).toArray below meth c s.heap [] 0 0 (vx_MQ below (fun _ _ _ _ => False) (XQ dC dI ad S IA) ([.ref (ad 57), .int (nI i), .int (nI j), .int x9]).toArray s 1 6 (fun _ => False)) (F0 m 0 ls [])
  refine lv_aload_n hx hb dX4_ahead_0 rfl (lv_at hl 0 rfl) ?_
  refine lv_iload_n hx hb dX4_ahead_1 rfl (lv_at hl 1 rfl) ?_
  refine va_csr (va_Run.run (va_runV (As := [.int (nI i)]) (rest := []) ⟨hx, hb, hml, hown, hts⟩ (m_X4_rowAt l dC dI ad S i (by omega)) (cwV 1 hts gX4_ahead_X4_rowAt rfl rfl rfl hdX4_rowAt_1 ⟨Nat.le_of_ble_eq_true rfl, Nat.le_of_ble_eq_true rfl⟩) (hX.preTop 57 6 (by decide) (by decide) rfl rfl) rfl rfl hl.1 rfl (lv_room (Nat.le_of_ble_eq_true rfl)) dX4_ahead_2 ⟨Nat.le_of_ble_eq_true rfl, Nat.le_of_ble_eq_true rfl⟩)) (fun k_ hk_ => ?_)
  rw [hk_]
  refine lv_astore (lv' := [(4, .ref (ad (3 * i))), (0, .ref (ad 57)), (1, .int (nI i)), (2, .int (nI j)), (3, .int x9)]) hx hb dX4_ahead_5 hl (by decide) rfl (fun ls hl => ?_)
  refine lv_aload_n hx hb dX4_ahead_7 rfl (lv_at hl 1 rfl) ?_
  refine lv_iload_n hx hb dX4_ahead_8 rfl (lv_at hl 3 rfl) ?_
  refine va_csr (va_Run.run (va_runV (As := [.int (nI j)]) (rest := []) ⟨hx, hb, hml, hown, hts⟩ (m_X4_orderAt l dC dI ad S j (by omega)) (cwV 1 hts gX4_ahead_X4_orderAt rfl rfl rfl hdX4_orderAt_1 ⟨Nat.le_of_ble_eq_true rfl, Nat.le_of_ble_eq_true rfl⟩) (hX.preTop 57 6 (by decide) (by decide) rfl rfl) rfl rfl hl.1 rfl (lv_room (Nat.le_of_ble_eq_true rfl)) dX4_ahead_9 ⟨Nat.le_of_ble_eq_true rfl, Nat.le_of_ble_eq_true rfl⟩)) (fun k_ hk_ => ?_)
  rw [hk_]
  refine lv_astore (lv' := [(5, .ref (ad (24 + 5 * j))), (4, .ref (ad (3 * i))), (0, .ref (ad 57)), (1, .int (nI i)), (2, .int (nI j)), (3, .int x9)]) hx hb dX4_ahead_12 hl (by decide) rfl (fun ls hl => ?_)
  refine lv_iload_n hx hb dX4_ahead_14 rfl (lv_at hl 5 rfl) ?_
  exact kx_pass (vx_runS (As := [.int x9]) (rest := []) ⟨hx, hb, hml, hown, hts⟩ (t_X4_demandValue l hst dC dI ad S x9 hb9) (va_cwS 1 hts gX4_ahead_X4_demandValue rfl rfl rfl hdX4_demandValue_1.2 ⟨Nat.le_of_ble_eq_true rfl, Nat.le_of_ble_eq_true rfl⟩) hPZ.preS rfl rfl hl.1 rfl (lv_room (Nat.le_of_ble_eq_true rfl)) dX4_ahead_15 ⟨Nat.le_of_ble_eq_true rfl, Nat.le_of_ble_eq_true rfl⟩) hPX hex hlocks
set_option maxHeartbeats 4000000 in
set_option maxRecDepth 100000 in
theorem t_X4_groups_1 (l : Launch) (hst : l.stackTraces = false) (dC : Nat → ClassId) (dI : Nat → Nat → Nat) (ad : Nat → Nat) (S : XS) (x9 : Int32) (y1 : Int32) (hb9 : x9 < 0 ∨ nI 3 ≤ x9) : vx_Met l yX4_groups wsX4_groups ({ frames := 8, cells := 1, slots := 6, locals := 123 } : Room) (va_Pc [.ref (ad 57), .int x9, .int y1] (PXZ dC dI ad S)) (fun _ _ _ _ => False) (XQ dC dI ad S IX) 1 6 (fun _ => False) := by
  refine vx_ofW (cc := cX4_groups) (maxL := 4) (ret := (some (.object "java/lang/String"))) (by decide) rfl ?_
  intro p e s m args below meth c s₁ B hml hex hv
  obtain ⟨rfl, hPZ⟩ := hv
  have hPX := hPZ.1
  have hx := B.exec
  have hb := B.bytes
  have hr := B.returns
  have hts := atoms_spec (ws := wsX4_groups) B.pre
  have hown : s.vm.findClass RX4 = some m.cls := findClass_of_methodNamed B.named
  have hlocks := B.notSynchronized
  have hX := WX.of hPX
  have hl := lv_entry ([.ref (ad 57), .int x9, .int y1]) (n := 4) (Nat.le_of_ble_eq_true rfl)
  rw [lg_entry_eq]
  generalize (lg_sl ([.ref (ad 57), .int x9, .int y1]) ++ List.replicate (4 - (lg_sl ([.ref (ad 57), .int x9, .int y1])).length) Slot.unset).toArray = ls at hl ⊢
  have hl : lv_has ls 4 [(0, .ref (ad 57)), (1, .int x9), (2, .int y1)] := hl
  show W p l e ({ frames := 8, cells := 1, slots := 6, locals := 123 } : Room) s m ([.ref (ad 57), .int x9, .int y1]).toArray below meth c s.heap [] 0 0 (vx_MQ below (fun _ _ _ _ => False) (XQ dC dI ad S IX) ([.ref (ad 57), .int x9, .int y1]).toArray s 1 6 (fun _ => False)) (F0 m 0 ls [])
  refine lv_aload_n hx hb dX4_groups_0 rfl (lv_at hl 0 rfl) ?_
  refine lv_iload_n hx hb dX4_groups_1 rfl (lv_at hl 1 rfl) ?_
  exact kx_pass (vx_runV (As := [.int x9]) (rest := []) ⟨hx, hb, hml, hown, hts⟩ (t_X4_rowAt l hst dC dI ad S x9 hb9) (cwV 1 hts gX4_groups_X4_rowAt rfl rfl rfl hdX4_rowAt_1 ⟨Nat.le_of_ble_eq_true rfl, Nat.le_of_ble_eq_true rfl⟩) (hPZ.preX) rfl rfl hl.1 rfl (lv_room (Nat.le_of_ble_eq_true rfl)) dX4_groups_2 ⟨Nat.le_of_ble_eq_true rfl, Nat.le_of_ble_eq_true rfl⟩) hPX hex hlocks
set_option maxHeartbeats 4000000 in
set_option maxRecDepth 100000 in
theorem t_X4_groups_2 (l : Launch) (hst : l.stackTraces = false) (dC : Nat → ClassId) (dI : Nat → Nat → Nat) (ad : Nat → Nat) (S : XS) (i : Nat) (x9 : Int32) (hi : i < 3) (hb9 : x9 < 0 ∨ nI 4 ≤ x9) : vx_Met l yX4_groups wsX4_groups ({ frames := 8, cells := 1, slots := 6, locals := 123 } : Room) (va_Pc [.ref (ad 57), .int (nI i), .int x9] (PXZ dC dI ad S)) (fun _ _ _ _ => False) (XQ dC dI ad S IX) 1 6 (fun _ => False) := by
  refine vx_ofW (cc := cX4_groups) (maxL := 4) (ret := (some (.object "java/lang/String"))) (by decide) rfl ?_
  intro p e s m args below meth c s₁ B hml hex hv
  obtain ⟨rfl, hPZ⟩ := hv
  have hPX := hPZ.1
  have hx := B.exec
  have hb := B.bytes
  have hr := B.returns
  have hts := atoms_spec (ws := wsX4_groups) B.pre
  have hown : s.vm.findClass RX4 = some m.cls := findClass_of_methodNamed B.named
  have hlocks := B.notSynchronized
  have hX := WX.of hPX
  have hl := lv_entry ([.ref (ad 57), .int (nI i), .int x9]) (n := 4) (Nat.le_of_ble_eq_true rfl)
  rw [lg_entry_eq]
  generalize (lg_sl ([.ref (ad 57), .int (nI i), .int x9]) ++ List.replicate (4 - (lg_sl ([.ref (ad 57), .int (nI i), .int x9])).length) Slot.unset).toArray = ls at hl ⊢
  have hl : lv_has ls 4 [(0, .ref (ad 57)), (1, .int (nI i)), (2, .int x9)] := hl
  show W p l e ({ frames := 8, cells := 1, slots := 6, locals := 123 } : Room) s m ([.ref (ad 57), .int (nI i), .int x9]).toArray below meth c s.heap [] 0 0 (vx_MQ below (fun _ _ _ _ => False) (XQ dC dI ad S IX) ([.ref (ad 57), .int (nI i), .int x9]).toArray s 1 6 (fun _ => False)) (F0 m 0 ls [])
  refine lv_aload_n hx hb dX4_groups_0 rfl (lv_at hl 0 rfl) ?_
  refine lv_iload_n hx hb dX4_groups_1 rfl (lv_at hl 1 rfl) ?_
  refine va_csr (va_Run.run (va_runV (As := [.int (nI i)]) (rest := []) ⟨hx, hb, hml, hown, hts⟩ (m_X4_rowAt l dC dI ad S i (by omega)) (cwV 1 hts gX4_groups_X4_rowAt rfl rfl rfl hdX4_rowAt_1 ⟨Nat.le_of_ble_eq_true rfl, Nat.le_of_ble_eq_true rfl⟩) (hX.preTop 57 6 (by decide) (by decide) rfl rfl) rfl rfl hl.1 rfl (lv_room (Nat.le_of_ble_eq_true rfl)) dX4_groups_2 ⟨Nat.le_of_ble_eq_true rfl, Nat.le_of_ble_eq_true rfl⟩)) (fun k_ hk_ => ?_)
  rw [hk_]
  refine lv_astore_n (lv' := [(3, .ref (ad (3 * i))), (0, .ref (ad 57)), (1, .int (nI i)), (2, .int x9)]) hx hb dX4_groups_5 rfl hl (by decide) rfl (fun ls hl => ?_)
  refine lv_aload_n hx hb dX4_groups_6 rfl (lv_at hl 0 rfl) ?_
  refine lv_aload_n hx hb dX4_groups_7 rfl (lv_at hl 1 rfl) ?_
  refine lv_iload_n hx hb dX4_groups_8 rfl (lv_at hl 3 rfl) ?_
  exact kx_pass (vx_runV (As := [.int x9]) (rest := [.ref (ad (3 * i))]) ⟨hx, hb, hml, hown, hts⟩ (t_X4_orderAt l hst dC dI ad S x9 hb9) (cwV 1 hts gX4_groups_X4_orderAt rfl rfl rfl hdX4_orderAt_1 ⟨Nat.le_of_ble_eq_true rfl, Nat.le_of_ble_eq_true rfl⟩) (hPZ.preX) rfl rfl hl.1 rfl (lv_room (Nat.le_of_ble_eq_true rfl)) dX4_groups_9 ⟨Nat.le_of_ble_eq_true rfl, Nat.le_of_ble_eq_true rfl⟩) hPX hex hlocks
set_option maxHeartbeats 4000000 in
set_option maxRecDepth 100000 in
theorem t_X4_ranks_1 (l : Launch) (hst : l.stackTraces = false) (dC : Nat → ClassId) (dI : Nat → Nat → Nat) (ad : Nat → Nat) (S : XS) (x9 : Int32) (y1 : Int32) (z : Bool) (hb9 : x9 < 0 ∨ nI 3 ≤ x9) : vx_Met l yX4_ranks wsX4_ranks ({ frames := 8, cells := 1, slots := 6, locals := 123 } : Room) (va_Pc [.ref (ad 57), .int x9, .int y1, .int (bI z)] (PXZ dC dI ad S)) (fun _ _ _ _ => False) (XQ dC dI ad S IX) 1 6 (fun _ => False) := by
  refine vx_ofW (cc := cX4_ranks) (maxL := 9) (ret := (some (.object "java/lang/String"))) (by decide) rfl ?_
  intro p e s m args below meth c s₁ B hml hex hv
  obtain ⟨rfl, hPZ⟩ := hv
  have hPX := hPZ.1
  have hx := B.exec
  have hb := B.bytes
  have hr := B.returns
  have hts := atoms_spec (ws := wsX4_ranks) B.pre
  have hown : s.vm.findClass RX4 = some m.cls := findClass_of_methodNamed B.named
  have hlocks := B.notSynchronized
  have hin4 : ∀ w ∈ u_ws RX4 TX4 9, w ∈ wsX4_ranks := tu 1328 (by decide +kernel) rfl
  have hX := WX.of hPX
  have hl := lv_entry ([.ref (ad 57), .int x9, .int y1, .int (bI z)]) (n := 9) (Nat.le_of_ble_eq_true rfl)
  rw [lg_entry_eq]
  generalize (lg_sl ([.ref (ad 57), .int x9, .int y1, .int (bI z)]) ++ List.replicate (9 - (lg_sl ([.ref (ad 57), .int x9, .int y1, .int (bI z)])).length) Slot.unset).toArray = ls at hl ⊢
  have hl : lv_has ls 9 [(0, .ref (ad 57)), (1, .int x9), (2, .int y1), (3, .int (bI z))] := hl
  show W p l e ({ frames := 8, cells := 1, slots := 6, locals := 123 } : Room) s m ([.ref (ad 57), .int x9, .int y1, .int (bI z)]).toArray below meth c s.heap [] 0 0 (vx_MQ below (fun _ _ _ _ => False) (XQ dC dI ad S IX) ([.ref (ad 57), .int x9, .int y1, .int (bI z)]).toArray s 1 6 (fun _ => False)) (F0 m 0 ls [])
  refine lv_aload_n hx hb dX4_ranks_0 rfl (lv_at hl 0 rfl) ?_
  refine lv_iload_n hx hb dX4_ranks_1 rfl (lv_at hl 1 rfl) ?_
  exact kx_pass (vx_runV (As := [.int x9]) (rest := []) ⟨hx, hb, hml, hown, hts⟩ (t_X4_rowAt l hst dC dI ad S x9 hb9) (cwV 1 hts gX4_ranks_X4_rowAt rfl rfl rfl hdX4_rowAt_1 ⟨Nat.le_of_ble_eq_true rfl, Nat.le_of_ble_eq_true rfl⟩) (hPZ.preX) rfl rfl hl.1 rfl (lv_room (Nat.le_of_ble_eq_true rfl)) dX4_ranks_2 ⟨Nat.le_of_ble_eq_true rfl, Nat.le_of_ble_eq_true rfl⟩) hPX hex hlocks
set_option maxHeartbeats 4000000 in
set_option maxRecDepth 100000 in
theorem t_X4_ranks_2 (l : Launch) (hst : l.stackTraces = false) (dC : Nat → ClassId) (dI : Nat → Nat → Nat) (ad : Nat → Nat) (S : XS) (i : Nat) (x9 : Int32) (z : Bool) (hi : i < 3) (hb9 : x9 < 0 ∨ nI 4 ≤ x9) : vx_Met l yX4_ranks wsX4_ranks ({ frames := 8, cells := 1, slots := 6, locals := 123 } : Room) (va_Pc [.ref (ad 57), .int (nI i), .int x9, .int (bI z)] (PXZ dC dI ad S)) (fun _ _ _ _ => False) (XQ dC dI ad S IX) 1 6 (fun _ => False) := by
  refine vx_ofW (cc := cX4_ranks) (maxL := 9) (ret := (some (.object "java/lang/String"))) (by decide) rfl ?_
  intro p e s m args below meth c s₁ B hml hex hv
  obtain ⟨rfl, hPZ⟩ := hv
  have hPX := hPZ.1
  have hx := B.exec
  have hb := B.bytes
  have hr := B.returns
  have hts := atoms_spec (ws := wsX4_ranks) B.pre
  have hown : s.vm.findClass RX4 = some m.cls := findClass_of_methodNamed B.named
  have hlocks := B.notSynchronized
  have hin4 : ∀ w ∈ u_ws RX4 TX4 9, w ∈ wsX4_ranks := tu 1328 (by decide +kernel) rfl
  have hX := WX.of hPX
  have hl := lv_entry ([.ref (ad 57), .int (nI i), .int x9, .int (bI z)]) (n := 9) (Nat.le_of_ble_eq_true rfl)
  rw [lg_entry_eq]
  generalize (lg_sl ([.ref (ad 57), .int (nI i), .int x9, .int (bI z)]) ++ List.replicate (9 - (lg_sl ([.ref (ad 57), .int (nI i), .int x9, .int (bI z)])).length) Slot.unset).toArray = ls at hl ⊢
  have hl : lv_has ls 9 [(0, .ref (ad 57)), (1, .int (nI i)), (2, .int x9), (3, .int (bI z))] := hl
  show W p l e ({ frames := 8, cells := 1, slots := 6, locals := 123 } : Room) s m ([.ref (ad 57), .int (nI i), .int x9, .int (bI z)]).toArray below meth c s.heap [] 0 0 (vx_MQ below (fun _ _ _ _ => False) (XQ dC dI ad S IX) ([.ref (ad 57), .int (nI i), .int x9, .int (bI z)]).toArray s 1 6 (fun _ => False)) (F0 m 0 ls [])
  refine lv_aload_n hx hb dX4_ranks_0 rfl (lv_at hl 0 rfl) ?_
  refine lv_iload_n hx hb dX4_ranks_1 rfl (lv_at hl 1 rfl) ?_
  refine va_csr (va_Run.run (va_runV (As := [.int (nI i)]) (rest := []) ⟨hx, hb, hml, hown, hts⟩ (m_X4_rowAt l dC dI ad S i (by omega)) (cwV 1 hts gX4_ranks_X4_rowAt rfl rfl rfl hdX4_rowAt_1 ⟨Nat.le_of_ble_eq_true rfl, Nat.le_of_ble_eq_true rfl⟩) (hX.preTop 57 6 (by decide) (by decide) rfl rfl) rfl rfl hl.1 rfl (lv_room (Nat.le_of_ble_eq_true rfl)) dX4_ranks_2 ⟨Nat.le_of_ble_eq_true rfl, Nat.le_of_ble_eq_true rfl⟩)) (fun k_ hk_ => ?_)
  rw [hk_]
  refine lv_astore (lv' := [(4, .ref (ad (3 * i))), (0, .ref (ad 57)), (1, .int (nI i)), (2, .int x9), (3, .int (bI z))]) hx hb dX4_ranks_5 hl (by decide) rfl (fun ls hl => ?_)
  refine lv_aload_n hx hb dX4_ranks_7 rfl (lv_at hl 1 rfl) ?_
  refine lv_iload_n hx hb dX4_ranks_8 rfl (lv_at hl 3 rfl) ?_
  exact kx_pass (vx_runV (As := [.int x9]) (rest := []) ⟨hx, hb, hml, hown, hts⟩ (t_X4_orderAt l hst dC dI ad S x9 hb9) (cwV 1 hts gX4_ranks_X4_orderAt rfl rfl rfl hdX4_orderAt_1 ⟨Nat.le_of_ble_eq_true rfl, Nat.le_of_ble_eq_true rfl⟩) (hPZ.preX) rfl rfl hl.1 rfl (lv_room (Nat.le_of_ble_eq_true rfl)) dX4_ranks_9 ⟨Nat.le_of_ble_eq_true rfl, Nat.le_of_ble_eq_true rfl⟩) hPX hex hlocks
set_option maxHeartbeats 4000000 in
set_option maxRecDepth 100000 in
theorem t_X4_step_1 (l : Launch) (hst : l.stackTraces = false) (dC : Nat → ClassId) (dI : Nat → Nat → Nat) (ad : Nat → Nat) (S : XS) (x9 : Int32) (y1 : Int32) (z : Bool) (hb9 : x9 < 0 ∨ nI 4 ≤ x9) : vx_Met l yX4_step wsX4_step ({ frames := 8, cells := 1, slots := 6, locals := 123 } : Room) (va_Pc [.ref (ad 57), .int x9, .int y1, .int (bI z)] (PXZ dC dI ad S)) (fun _ _ _ _ => False) (XQ dC dI ad S IX) 1 6 (fun _ => False) := by
  refine vx_ofW (cc := cX4_step) (maxL := 5) (ret := (some .int)) (by decide) rfl ?_
  intro p e s m args below meth c s₁ B hml hex hv
  obtain ⟨rfl, hPZ⟩ := hv
  have hPX := hPZ.1
  have hx := B.exec
  have hb := B.bytes
  have hr := B.returns
  have hts := atoms_spec (ws := wsX4_step) B.pre
  have hown : s.vm.findClass RX4 = some m.cls := findClass_of_methodNamed B.named
  have hlocks := B.notSynchronized
  have hX := WX.of hPX
  have hl := lv_entry ([.ref (ad 57), .int x9, .int y1, .int (bI z)]) (n := 5) (Nat.le_of_ble_eq_true rfl)
  rw [lg_entry_eq]
  generalize (lg_sl ([.ref (ad 57), .int x9, .int y1, .int (bI z)]) ++ List.replicate (5 - (lg_sl ([.ref (ad 57), .int x9, .int y1, .int (bI z)])).length) Slot.unset).toArray = ls at hl ⊢
  have hl : lv_has ls 5 [(0, .ref (ad 57)), (1, .int x9), (2, .int y1), (3, .int (bI z))] := hl
  show W p l e ({ frames := 8, cells := 1, slots := 6, locals := 123 } : Room) s m ([.ref (ad 57), .int x9, .int y1, .int (bI z)]).toArray below meth c s.heap [] 0 0 (vx_MQ below (fun _ _ _ _ => False) (XQ dC dI ad S IX) ([.ref (ad 57), .int x9, .int y1, .int (bI z)]).toArray s 1 6 (fun _ => False)) (F0 m 0 ls [])
  refine lv_aload_n hx hb dX4_step_0 rfl (lv_at hl 0 rfl) ?_
  refine lv_iload_n hx hb dX4_step_1 rfl (lv_at hl 1 rfl) ?_
  exact kx_pass (vx_runV (As := [.int x9]) (rest := []) ⟨hx, hb, hml, hown, hts⟩ (t_X4_orderAt l hst dC dI ad S x9 hb9) (cwV 1 hts gX4_step_X4_orderAt rfl rfl rfl hdX4_orderAt_1 ⟨Nat.le_of_ble_eq_true rfl, Nat.le_of_ble_eq_true rfl⟩) (hPZ.preX) rfl rfl hl.1 rfl (lv_room (Nat.le_of_ble_eq_true rfl)) dX4_step_2 ⟨Nat.le_of_ble_eq_true rfl, Nat.le_of_ble_eq_true rfl⟩) hPX hex hlocks
set_option maxHeartbeats 4000000 in
set_option maxRecDepth 100000 in
theorem t_X4_step_2 (l : Launch) (hst : l.stackTraces = false) (dC : Nat → ClassId) (dI : Nat → Nat → Nat) (ad : Nat → Nat) (S : XS) (j : Nat) (x9 : Int32) (z : Bool) (hj : j < 4) (hb9 : x9 < 0 ∨ nI 7 < x9) : vx_Met l yX4_step wsX4_step ({ frames := 8, cells := 1, slots := 6, locals := 123 } : Room) (va_Pc [.ref (ad 57), .int (nI j), .int x9, .int (bI z)] (PXZ dC dI ad S)) (fun _ _ _ _ => False) (XQ dC dI ad S IA) 1 6 (fun _ => False) := by
  refine vx_ofW (cc := cX4_step) (maxL := 5) (ret := (some .int)) (by decide) rfl ?_
  intro p e s m args below meth c s₁ B hml hex hv
  obtain ⟨rfl, hPZ⟩ := hv
  have hPX := hPZ.1
  have hx := B.exec
  have hb := B.bytes
  have hr := B.returns
  have hts := atoms_spec (ws := wsX4_step) B.pre
  have hown : s.vm.findClass RX4 = some m.cls := findClass_of_methodNamed B.named
  have hlocks := B.notSynchronized
  have hX := WX.of hPX
  have hl := lv_entry ([.ref (ad 57), .int (nI j), .int x9, .int (bI z)]) (n := 5) (Nat.le_of_ble_eq_true rfl)
  rw [lg_entry_eq]
  generalize (lg_sl ([.ref (ad 57), .int (nI j), .int x9, .int (bI z)]) ++ List.replicate (5 - (lg_sl ([.ref (ad 57), .int (nI j), .int x9, .int (bI z)])).length) Slot.unset).toArray = ls at hl ⊢
  have hl : lv_has ls 5 [(0, .ref (ad 57)), (1, .int (nI j)), (2, .int x9), (3, .int (bI z))] := hl
  show W p l e ({ frames := 8, cells := 1, slots := 6, locals := 123 } : Room) s m ([.ref (ad 57), .int (nI j), .int x9, .int (bI z)]).toArray below meth c s.heap [] 0 0 (vx_MQ below (fun _ _ _ _ => False) (XQ dC dI ad S IA) ([.ref (ad 57), .int (nI j), .int x9, .int (bI z)]).toArray s 1 6 (fun _ => False)) (F0 m 0 ls [])
  refine lv_aload_n hx hb dX4_step_0 rfl (lv_at hl 0 rfl) ?_
  refine lv_iload_n hx hb dX4_step_1 rfl (lv_at hl 1 rfl) ?_
  refine va_csr (va_Run.run (va_runV (As := [.int (nI j)]) (rest := []) ⟨hx, hb, hml, hown, hts⟩ (m_X4_orderAt l dC dI ad S j (by omega)) (cwV 1 hts gX4_step_X4_orderAt rfl rfl rfl hdX4_orderAt_1 ⟨Nat.le_of_ble_eq_true rfl, Nat.le_of_ble_eq_true rfl⟩) (hX.preTop 57 6 (by decide) (by decide) rfl rfl) rfl rfl hl.1 rfl (lv_room (Nat.le_of_ble_eq_true rfl)) dX4_step_2 ⟨Nat.le_of_ble_eq_true rfl, Nat.le_of_ble_eq_true rfl⟩)) (fun k_ hk_ => ?_)
  rw [hk_]
  refine lv_astore (lv' := [(4, .ref (ad (24 + 5 * j))), (0, .ref (ad 57)), (1, .int (nI j)), (2, .int x9), (3, .int (bI z))]) hx hb dX4_step_5 hl (by decide) rfl (fun ls hl => ?_)
  refine lv_iload_n hx hb dX4_step_7 rfl (lv_at hl 3 rfl) ?_
  refine lv_bipush (v := nI 7) hx hb dX4_step_8 (by decide) ?_
  exact kx_pass (vx_runS (As := [.int x9, .int (nI 7)]) (rest := []) ⟨hx, hb, hml, hown, hts⟩ (t_X4_demandWithin l hst dC dI ad S x9 7 (by omega) hb9) (va_cwS 2 hts gX4_step_X4_demandWithin rfl rfl rfl hdX4_demandWithin_2.2 ⟨Nat.le_of_ble_eq_true rfl, Nat.le_of_ble_eq_true rfl⟩) hPZ.preS rfl rfl hl.1 rfl (lv_room (Nat.le_of_ble_eq_true rfl)) dX4_step_10 ⟨Nat.le_of_ble_eq_true rfl, Nat.le_of_ble_eq_true rfl⟩) hPX hex hlocks
set_option maxHeartbeats 4000000 in
set_option maxRecDepth 100000 in
theorem t_X4_unstep_1 (l : Launch) (hst : l.stackTraces = false) (dC : Nat → ClassId) (dI : Nat → Nat → Nat) (ad : Nat → Nat) (S : XS) (x9 : Int32) (hb9 : x9 < 0 ∨ nI 4 ≤ x9) : vx_Met l yX4_unstep wsX4_unstep ({ frames := 8, cells := 1, slots := 6, locals := 123 } : Room) (va_Pc [.ref (ad 57), .int x9] (PXZ dC dI ad S)) (fun _ _ _ _ => False) (XQ dC dI ad S IX) 1 6 (fun _ => False) := by
  refine vx_ofW (cc := cX4_unstep) (maxL := 4) (ret := (some .int)) (by decide) rfl ?_
  intro p e s m args below meth c s₁ B hml hex hv
  obtain ⟨rfl, hPZ⟩ := hv
  have hPX := hPZ.1
  have hx := B.exec
  have hb := B.bytes
  have hr := B.returns
  have hts := atoms_spec (ws := wsX4_unstep) B.pre
  have hown : s.vm.findClass RX4 = some m.cls := findClass_of_methodNamed B.named
  have hlocks := B.notSynchronized
  have hX := WX.of hPX
  have hl := lv_entry ([.ref (ad 57), .int x9]) (n := 4) (Nat.le_of_ble_eq_true rfl)
  rw [lg_entry_eq]
  generalize (lg_sl ([.ref (ad 57), .int x9]) ++ List.replicate (4 - (lg_sl ([.ref (ad 57), .int x9])).length) Slot.unset).toArray = ls at hl ⊢
  have hl : lv_has ls 4 [(0, .ref (ad 57)), (1, .int x9)] := hl
  show W p l e ({ frames := 8, cells := 1, slots := 6, locals := 123 } : Room) s m ([.ref (ad 57), .int x9]).toArray below meth c s.heap [] 0 0 (vx_MQ below (fun _ _ _ _ => False) (XQ dC dI ad S IX) ([.ref (ad 57), .int x9]).toArray s 1 6 (fun _ => False)) (F0 m 0 ls [])
  refine lv_aload_n hx hb dX4_unstep_0 rfl (lv_at hl 0 rfl) ?_
  refine lv_iload_n hx hb dX4_unstep_1 rfl (lv_at hl 1 rfl) ?_
  exact kx_pass (vx_runV (As := [.int x9]) (rest := []) ⟨hx, hb, hml, hown, hts⟩ (t_X4_orderAt l hst dC dI ad S x9 hb9) (cwV 1 hts gX4_unstep_X4_orderAt rfl rfl rfl hdX4_orderAt_1 ⟨Nat.le_of_ble_eq_true rfl, Nat.le_of_ble_eq_true rfl⟩) (hPZ.preX) rfl rfl hl.1 rfl (lv_room (Nat.le_of_ble_eq_true rfl)) dX4_unstep_2 ⟨Nat.le_of_ble_eq_true rfl, Nat.le_of_ble_eq_true rfl⟩) hPX hex hlocks
set_option maxHeartbeats 4000000 in
set_option maxRecDepth 100000 in
theorem t_X4_wipe_1 (l : Launch) (hst : l.stackTraces = false) (dC : Nat → ClassId) (dI : Nat → Nat → Nat) (ad : Nat → Nat) (S : XS) (x9 : Int32) (hb9 : x9 < 0 ∨ nI 4 ≤ x9) : vx_Met l yX4_wipe wsX4_wipe ({ frames := 8, cells := 1, slots := 6, locals := 123 } : Room) (va_Pc [.ref (ad 57), .int x9] (PXZ dC dI ad S)) (fun _ _ _ _ => False) (XQ dC dI ad S IX) 1 6 (fun _ => False) := by
  refine vx_ofW (cc := cX4_wipe) (maxL := 4) (ret := (some .int)) (by decide) rfl ?_
  intro p e s m args below meth c s₁ B hml hex hv
  obtain ⟨rfl, hPZ⟩ := hv
  have hPX := hPZ.1
  have hx := B.exec
  have hb := B.bytes
  have hr := B.returns
  have hts := atoms_spec (ws := wsX4_wipe) B.pre
  have hown : s.vm.findClass RX4 = some m.cls := findClass_of_methodNamed B.named
  have hlocks := B.notSynchronized
  have hX := WX.of hPX
  have hl := lv_entry ([.ref (ad 57), .int x9]) (n := 4) (Nat.le_of_ble_eq_true rfl)
  rw [lg_entry_eq]
  generalize (lg_sl ([.ref (ad 57), .int x9]) ++ List.replicate (4 - (lg_sl ([.ref (ad 57), .int x9])).length) Slot.unset).toArray = ls at hl ⊢
  have hl : lv_has ls 4 [(0, .ref (ad 57)), (1, .int x9)] := hl
  show W p l e ({ frames := 8, cells := 1, slots := 6, locals := 123 } : Room) s m ([.ref (ad 57), .int x9]).toArray below meth c s.heap [] 0 0 (vx_MQ below (fun _ _ _ _ => False) (XQ dC dI ad S IX) ([.ref (ad 57), .int x9]).toArray s 1 6 (fun _ => False)) (F0 m 0 ls [])
  refine lv_aload_n hx hb dX4_wipe_0 rfl (lv_at hl 0 rfl) ?_
  refine lv_iload_n hx hb dX4_wipe_1 rfl (lv_at hl 1 rfl) ?_
  exact kx_pass (vx_runV (As := [.int x9]) (rest := []) ⟨hx, hb, hml, hown, hts⟩ (t_X4_orderAt l hst dC dI ad S x9 hb9) (cwV 1 hts gX4_wipe_X4_orderAt rfl rfl rfl hdX4_orderAt_1 ⟨Nat.le_of_ble_eq_true rfl, Nat.le_of_ble_eq_true rfl⟩) (hPZ.preX) rfl rfl hl.1 rfl (lv_room (Nat.le_of_ble_eq_true rfl)) dX4_wipe_2 ⟨Nat.le_of_ble_eq_true rfl, Nat.le_of_ble_eq_true rfl⟩) hPX hex hlocks
set_option maxHeartbeats 4000000 in
set_option maxRecDepth 100000 in
theorem t_X4_copyOrder_1 (l : Launch) (hst : l.stackTraces = false) (dC : Nat → ClassId) (dI : Nat → Nat → Nat) (ad : Nat → Nat) (S : XS) (x9 : Int32) (y1 : Int32) (hb9 : x9 < 0 ∨ nI 4 ≤ x9) : vx_Met l yX4_copyOrder wsX4_copyOrder ({ frames := 8, cells := 1, slots := 6, locals := 123 } : Room) (va_Pc [.ref (ad 57), .int x9, .int y1] (PXZ dC dI ad S)) (fun _ _ _ _ => False) (XQ dC dI ad S IX) 1 6 (fun _ => False) := by
  refine vx_ofW (cc := cX4_copyOrder) (maxL := 5) (ret := (some .int)) (by decide) rfl ?_
  intro p e s m args below meth c s₁ B hml hex hv
  obtain ⟨rfl, hPZ⟩ := hv
  have hPX := hPZ.1
  have hx := B.exec
  have hb := B.bytes
  have hr := B.returns
  have hts := atoms_spec (ws := wsX4_copyOrder) B.pre
  have hown : s.vm.findClass RX4 = some m.cls := findClass_of_methodNamed B.named
  have hlocks := B.notSynchronized
  have hX := WX.of hPX
  have hl := lv_entry ([.ref (ad 57), .int x9, .int y1]) (n := 5) (Nat.le_of_ble_eq_true rfl)
  rw [lg_entry_eq]
  generalize (lg_sl ([.ref (ad 57), .int x9, .int y1]) ++ List.replicate (5 - (lg_sl ([.ref (ad 57), .int x9, .int y1])).length) Slot.unset).toArray = ls at hl ⊢
  have hl : lv_has ls 5 [(0, .ref (ad 57)), (1, .int x9), (2, .int y1)] := hl
  show W p l e ({ frames := 8, cells := 1, slots := 6, locals := 123 } : Room) s m ([.ref (ad 57), .int x9, .int y1]).toArray below meth c s.heap [] 0 0 (vx_MQ below (fun _ _ _ _ => False) (XQ dC dI ad S IX) ([.ref (ad 57), .int x9, .int y1]).toArray s 1 6 (fun _ => False)) (F0 m 0 ls [])
  refine lv_aload_n hx hb dX4_copyOrder_0 rfl (lv_at hl 0 rfl) ?_
  refine lv_iload_n hx hb dX4_copyOrder_1 rfl (lv_at hl 1 rfl) ?_
  exact kx_pass (vx_runV (As := [.int x9]) (rest := []) ⟨hx, hb, hml, hown, hts⟩ (t_X4_orderAt l hst dC dI ad S x9 hb9) (cwV 1 hts gX4_copyOrder_X4_orderAt rfl rfl rfl hdX4_orderAt_1 ⟨Nat.le_of_ble_eq_true rfl, Nat.le_of_ble_eq_true rfl⟩) (hPZ.preX) rfl rfl hl.1 rfl (lv_room (Nat.le_of_ble_eq_true rfl)) dX4_copyOrder_2 ⟨Nat.le_of_ble_eq_true rfl, Nat.le_of_ble_eq_true rfl⟩) hPX hex hlocks
set_option maxHeartbeats 4000000 in
set_option maxRecDepth 100000 in
theorem t_X4_copyOrder_2 (l : Launch) (hst : l.stackTraces = false) (dC : Nat → ClassId) (dI : Nat → Nat → Nat) (ad : Nat → Nat) (S : XS) (j : Nat) (x9 : Int32) (hj : j < 4) (hb9 : x9 < 0 ∨ nI 4 ≤ x9) : vx_Met l yX4_copyOrder wsX4_copyOrder ({ frames := 8, cells := 1, slots := 6, locals := 123 } : Room) (va_Pc [.ref (ad 57), .int (nI j), .int x9] (PXZ dC dI ad S)) (fun _ _ _ _ => False) (XQ dC dI ad S IX) 1 6 (fun _ => False) := by
  refine vx_ofW (cc := cX4_copyOrder) (maxL := 5) (ret := (some .int)) (by decide) rfl ?_
  intro p e s m args below meth c s₁ B hml hex hv
  obtain ⟨rfl, hPZ⟩ := hv
  have hPX := hPZ.1
  have hx := B.exec
  have hb := B.bytes
  have hr := B.returns
  have hts := atoms_spec (ws := wsX4_copyOrder) B.pre
  have hown : s.vm.findClass RX4 = some m.cls := findClass_of_methodNamed B.named
  have hlocks := B.notSynchronized
  have hX := WX.of hPX
  have hl := lv_entry ([.ref (ad 57), .int (nI j), .int x9]) (n := 5) (Nat.le_of_ble_eq_true rfl)
  rw [lg_entry_eq]
  generalize (lg_sl ([.ref (ad 57), .int (nI j), .int x9]) ++ List.replicate (5 - (lg_sl ([.ref (ad 57), .int (nI j), .int x9])).length) Slot.unset).toArray = ls at hl ⊢
  have hl : lv_has ls 5 [(0, .ref (ad 57)), (1, .int (nI j)), (2, .int x9)] := hl
  show W p l e ({ frames := 8, cells := 1, slots := 6, locals := 123 } : Room) s m ([.ref (ad 57), .int (nI j), .int x9]).toArray below meth c s.heap [] 0 0 (vx_MQ below (fun _ _ _ _ => False) (XQ dC dI ad S IX) ([.ref (ad 57), .int (nI j), .int x9]).toArray s 1 6 (fun _ => False)) (F0 m 0 ls [])
  refine lv_aload_n hx hb dX4_copyOrder_0 rfl (lv_at hl 0 rfl) ?_
  refine lv_iload_n hx hb dX4_copyOrder_1 rfl (lv_at hl 1 rfl) ?_
  refine va_csr (va_Run.run (va_runV (As := [.int (nI j)]) (rest := []) ⟨hx, hb, hml, hown, hts⟩ (m_X4_orderAt l dC dI ad S j (by omega)) (cwV 1 hts gX4_copyOrder_X4_orderAt rfl rfl rfl hdX4_orderAt_1 ⟨Nat.le_of_ble_eq_true rfl, Nat.le_of_ble_eq_true rfl⟩) (hX.preTop 57 6 (by decide) (by decide) rfl rfl) rfl rfl hl.1 rfl (lv_room (Nat.le_of_ble_eq_true rfl)) dX4_copyOrder_2 ⟨Nat.le_of_ble_eq_true rfl, Nat.le_of_ble_eq_true rfl⟩)) (fun k_ hk_ => ?_)
  rw [hk_]
  refine lv_astore_n (lv' := [(3, .ref (ad (24 + 5 * j))), (0, .ref (ad 57)), (1, .int (nI j)), (2, .int x9)]) hx hb dX4_copyOrder_5 rfl hl (by decide) rfl (fun ls hl => ?_)
  refine lv_aload_n hx hb dX4_copyOrder_6 rfl (lv_at hl 1 rfl) ?_
  refine lv_iload_n hx hb dX4_copyOrder_7 rfl (lv_at hl 3 rfl) ?_
  exact kx_pass (vx_runV (As := [.int x9]) (rest := []) ⟨hx, hb, hml, hown, hts⟩ (t_X4_orderAt l hst dC dI ad S x9 hb9) (cwV 1 hts gX4_copyOrder_X4_orderAt rfl rfl rfl hdX4_orderAt_1 ⟨Nat.le_of_ble_eq_true rfl, Nat.le_of_ble_eq_true rfl⟩) (hPZ.preX) rfl rfl hl.1 rfl (lv_room (Nat.le_of_ble_eq_true rfl)) dX4_copyOrder_8 ⟨Nat.le_of_ble_eq_true rfl, Nat.le_of_ble_eq_true rfl⟩) hPX hex hlocks
set_option maxHeartbeats 4000000 in
set_option maxRecDepth 100000 in
theorem t_X4_turn_1 (l : Launch) (hst : l.stackTraces = false) (dC : Nat → ClassId) (dI : Nat → Nat → Nat) (ad : Nat → Nat) (S : XS) (x9 : Int32) (hb9 : x9 < 0 ∨ nI 4 ≤ x9) : vx_Met l yX4_turn wsX4_turn ({ frames := 8, cells := 1, slots := 6, locals := 123 } : Room) (va_Pc [.ref (ad 57), .int x9] (PXZ dC dI ad S)) (fun _ _ _ _ => False) (XQ dC dI ad S IX) 1 6 (fun _ => False) := by
  refine vx_ofW (cc := cX4_turn) (maxL := 3) (ret := (some .int)) (by decide) rfl ?_
  intro p e s m args below meth c s₁ B hml hex hv
  obtain ⟨rfl, hPZ⟩ := hv
  have hPX := hPZ.1
  have hx := B.exec
  have hb := B.bytes
  have hr := B.returns
  have hts := atoms_spec (ws := wsX4_turn) B.pre
  have hown : s.vm.findClass RX4 = some m.cls := findClass_of_methodNamed B.named
  have hlocks := B.notSynchronized
  have hX := WX.of hPX
  have hl := lv_entry ([.ref (ad 57), .int x9]) (n := 3) (Nat.le_of_ble_eq_true rfl)
  rw [lg_entry_eq]
  generalize (lg_sl ([.ref (ad 57), .int x9]) ++ List.replicate (3 - (lg_sl ([.ref (ad 57), .int x9])).length) Slot.unset).toArray = ls at hl ⊢
  have hl : lv_has ls 3 [(0, .ref (ad 57)), (1, .int x9)] := hl
  show W p l e ({ frames := 8, cells := 1, slots := 6, locals := 123 } : Room) s m ([.ref (ad 57), .int x9]).toArray below meth c s.heap [] 0 0 (vx_MQ below (fun _ _ _ _ => False) (XQ dC dI ad S IX) ([.ref (ad 57), .int x9]).toArray s 1 6 (fun _ => False)) (F0 m 0 ls [])
  refine lv_aload_n hx hb dX4_turn_0 rfl (lv_at hl 0 rfl) ?_
  refine lv_iload_n hx hb dX4_turn_1 rfl (lv_at hl 1 rfl) ?_
  exact kx_pass (vx_runV (As := [.int x9]) (rest := []) ⟨hx, hb, hml, hown, hts⟩ (t_X4_orderAt l hst dC dI ad S x9 hb9) (cwV 1 hts gX4_turn_X4_orderAt rfl rfl rfl hdX4_orderAt_1 ⟨Nat.le_of_ble_eq_true rfl, Nat.le_of_ble_eq_true rfl⟩) (hPZ.preX) rfl rfl hl.1 rfl (lv_room (Nat.le_of_ble_eq_true rfl)) dX4_turn_2 ⟨Nat.le_of_ble_eq_true rfl, Nat.le_of_ble_eq_true rfl⟩) hPX hex hlocks
set_option maxHeartbeats 4000000 in
set_option maxRecDepth 100000 in
theorem t_X4_product_1 (l : Launch) (hst : l.stackTraces = false) (dC : Nat → ClassId) (dI : Nat → Nat → Nat) (ad : Nat → Nat) (S : XS) (x9 : Int32) (y1 : Int32) (y2 : Int32) (hb9 : x9 < 0 ∨ nI 4 ≤ x9) : vx_Met l yX4_product wsX4_product ({ frames := 8, cells := 1, slots := 6, locals := 123 } : Room) (va_Pc [.ref (ad 57), .int x9, .int y1, .int y2] (PXZ dC dI ad S)) (fun _ _ _ _ => False) (XQ dC dI ad S IX) 1 6 (fun _ => False) := by
  refine vx_ofW (cc := cX4_product) (maxL := 7) (ret := (some .int)) (by decide) rfl ?_
  intro p e s m args below meth c s₁ B hml hex hv
  obtain ⟨rfl, hPZ⟩ := hv
  have hPX := hPZ.1
  have hx := B.exec
  have hb := B.bytes
  have hr := B.returns
  have hts := atoms_spec (ws := wsX4_product) B.pre
  have hown : s.vm.findClass RX4 = some m.cls := findClass_of_methodNamed B.named
  have hlocks := B.notSynchronized
  have hin4 : ∀ w ∈ u_ws RX4 TX4 9, w ∈ wsX4_product := tu 1328 (by decide +kernel) rfl
  have hX := WX.of hPX
  have hl := lv_entry ([.ref (ad 57), .int x9, .int y1, .int y2]) (n := 7) (Nat.le_of_ble_eq_true rfl)
  rw [lg_entry_eq]
  generalize (lg_sl ([.ref (ad 57), .int x9, .int y1, .int y2]) ++ List.replicate (7 - (lg_sl ([.ref (ad 57), .int x9, .int y1, .int y2])).length) Slot.unset).toArray = ls at hl ⊢
  have hl : lv_has ls 7 [(0, .ref (ad 57)), (1, .int x9), (2, .int y1), (3, .int y2)] := hl
  show W p l e ({ frames := 8, cells := 1, slots := 6, locals := 123 } : Room) s m ([.ref (ad 57), .int x9, .int y1, .int y2]).toArray below meth c s.heap [] 0 0 (vx_MQ below (fun _ _ _ _ => False) (XQ dC dI ad S IX) ([.ref (ad 57), .int x9, .int y1, .int y2]).toArray s 1 6 (fun _ => False)) (F0 m 0 ls [])
  refine lv_aload_n hx hb dX4_product_0 rfl (lv_at hl 0 rfl) ?_
  refine lv_iload_n hx hb dX4_product_1 rfl (lv_at hl 1 rfl) ?_
  exact kx_pass (vx_runV (As := [.int x9]) (rest := []) ⟨hx, hb, hml, hown, hts⟩ (t_X4_orderAt l hst dC dI ad S x9 hb9) (cwV 1 hts gX4_product_X4_orderAt rfl rfl rfl hdX4_orderAt_1 ⟨Nat.le_of_ble_eq_true rfl, Nat.le_of_ble_eq_true rfl⟩) (hPZ.preX) rfl rfl hl.1 rfl (lv_room (Nat.le_of_ble_eq_true rfl)) dX4_product_2 ⟨Nat.le_of_ble_eq_true rfl, Nat.le_of_ble_eq_true rfl⟩) hPX hex hlocks
set_option maxHeartbeats 4000000 in
set_option maxRecDepth 100000 in
theorem t_X4_product_2 (l : Launch) (hst : l.stackTraces = false) (dC : Nat → ClassId) (dI : Nat → Nat → Nat) (ad : Nat → Nat) (S : XS) (j : Nat) (x9 : Int32) (y2 : Int32) (hj : j < 4) (hb9 : x9 < 0 ∨ nI 4 ≤ x9) : vx_Met l yX4_product wsX4_product ({ frames := 8, cells := 1, slots := 6, locals := 123 } : Room) (va_Pc [.ref (ad 57), .int (nI j), .int x9, .int y2] (PXZ dC dI ad S)) (fun _ _ _ _ => False) (XQ dC dI ad S IX) 1 6 (fun _ => False) := by
  refine vx_ofW (cc := cX4_product) (maxL := 7) (ret := (some .int)) (by decide) rfl ?_
  intro p e s m args below meth c s₁ B hml hex hv
  obtain ⟨rfl, hPZ⟩ := hv
  have hPX := hPZ.1
  have hx := B.exec
  have hb := B.bytes
  have hr := B.returns
  have hts := atoms_spec (ws := wsX4_product) B.pre
  have hown : s.vm.findClass RX4 = some m.cls := findClass_of_methodNamed B.named
  have hlocks := B.notSynchronized
  have hin4 : ∀ w ∈ u_ws RX4 TX4 9, w ∈ wsX4_product := tu 1328 (by decide +kernel) rfl
  have hX := WX.of hPX
  have hl := lv_entry ([.ref (ad 57), .int (nI j), .int x9, .int y2]) (n := 7) (Nat.le_of_ble_eq_true rfl)
  rw [lg_entry_eq]
  generalize (lg_sl ([.ref (ad 57), .int (nI j), .int x9, .int y2]) ++ List.replicate (7 - (lg_sl ([.ref (ad 57), .int (nI j), .int x9, .int y2])).length) Slot.unset).toArray = ls at hl ⊢
  have hl : lv_has ls 7 [(0, .ref (ad 57)), (1, .int (nI j)), (2, .int x9), (3, .int y2)] := hl
  show W p l e ({ frames := 8, cells := 1, slots := 6, locals := 123 } : Room) s m ([.ref (ad 57), .int (nI j), .int x9, .int y2]).toArray below meth c s.heap [] 0 0 (vx_MQ below (fun _ _ _ _ => False) (XQ dC dI ad S IX) ([.ref (ad 57), .int (nI j), .int x9, .int y2]).toArray s 1 6 (fun _ => False)) (F0 m 0 ls [])
  refine lv_aload_n hx hb dX4_product_0 rfl (lv_at hl 0 rfl) ?_
  refine lv_iload_n hx hb dX4_product_1 rfl (lv_at hl 1 rfl) ?_
  refine va_csr (va_Run.run (va_runV (As := [.int (nI j)]) (rest := []) ⟨hx, hb, hml, hown, hts⟩ (m_X4_orderAt l dC dI ad S j (by omega)) (cwV 1 hts gX4_product_X4_orderAt rfl rfl rfl hdX4_orderAt_1 ⟨Nat.le_of_ble_eq_true rfl, Nat.le_of_ble_eq_true rfl⟩) (hX.preTop 57 6 (by decide) (by decide) rfl rfl) rfl rfl hl.1 rfl (lv_room (Nat.le_of_ble_eq_true rfl)) dX4_product_2 ⟨Nat.le_of_ble_eq_true rfl, Nat.le_of_ble_eq_true rfl⟩)) (fun k_ hk_ => ?_)
  rw [hk_]
  refine lv_astore (lv' := [(4, .ref (ad (24 + 5 * j))), (0, .ref (ad 57)), (1, .int (nI j)), (2, .int x9), (3, .int y2)]) hx hb dX4_product_5 hl (by decide) rfl (fun ls hl => ?_)
  refine lv_aload_n hx hb dX4_product_7 rfl (lv_at hl 1 rfl) ?_
  refine lv_iload_n hx hb dX4_product_8 rfl (lv_at hl 3 rfl) ?_
  exact kx_pass (vx_runV (As := [.int x9]) (rest := []) ⟨hx, hb, hml, hown, hts⟩ (t_X4_orderAt l hst dC dI ad S x9 hb9) (cwV 1 hts gX4_product_X4_orderAt rfl rfl rfl hdX4_orderAt_1 ⟨Nat.le_of_ble_eq_true rfl, Nat.le_of_ble_eq_true rfl⟩) (hPZ.preX) rfl rfl hl.1 rfl (lv_room (Nat.le_of_ble_eq_true rfl)) dX4_product_9 ⟨Nat.le_of_ble_eq_true rfl, Nat.le_of_ble_eq_true rfl⟩) hPX hex hlocks
set_option maxHeartbeats 4000000 in
set_option maxRecDepth 100000 in
theorem t_X4_product_3 (l : Launch) (hst : l.stackTraces = false) (dC : Nat → ClassId) (dI : Nat → Nat → Nat) (ad : Nat → Nat) (S : XS) (j : Nat) (j2 : Nat) (x9 : Int32) (hj : j < 4) (hj2 : j2 < 4) (hb9 : x9 < 0 ∨ nI 4 ≤ x9) : vx_Met l yX4_product wsX4_product ({ frames := 8, cells := 1, slots := 6, locals := 123 } : Room) (va_Pc [.ref (ad 57), .int (nI j), .int (nI j2), .int x9] (PXZ dC dI ad S)) (fun _ _ _ _ => False) (XQ dC dI ad S IX) 1 6 (fun _ => False) := by
  refine vx_ofW (cc := cX4_product) (maxL := 7) (ret := (some .int)) (by decide) rfl ?_
  intro p e s m args below meth c s₁ B hml hex hv
  obtain ⟨rfl, hPZ⟩ := hv
  have hPX := hPZ.1
  have hx := B.exec
  have hb := B.bytes
  have hr := B.returns
  have hts := atoms_spec (ws := wsX4_product) B.pre
  have hown : s.vm.findClass RX4 = some m.cls := findClass_of_methodNamed B.named
  have hlocks := B.notSynchronized
  have hin4 : ∀ w ∈ u_ws RX4 TX4 9, w ∈ wsX4_product := tu 1328 (by decide +kernel) rfl
  have hX := WX.of hPX
  have hl := lv_entry ([.ref (ad 57), .int (nI j), .int (nI j2), .int x9]) (n := 7) (Nat.le_of_ble_eq_true rfl)
  rw [lg_entry_eq]
  generalize (lg_sl ([.ref (ad 57), .int (nI j), .int (nI j2), .int x9]) ++ List.replicate (7 - (lg_sl ([.ref (ad 57), .int (nI j), .int (nI j2), .int x9])).length) Slot.unset).toArray = ls at hl ⊢
  have hl : lv_has ls 7 [(0, .ref (ad 57)), (1, .int (nI j)), (2, .int (nI j2)), (3, .int x9)] := hl
  show W p l e ({ frames := 8, cells := 1, slots := 6, locals := 123 } : Room) s m ([.ref (ad 57), .int (nI j), .int (nI j2), .int x9]).toArray below meth c s.heap [] 0 0 (vx_MQ below (fun _ _ _ _ => False) (XQ dC dI ad S IX) ([.ref (ad 57), .int (nI j), .int (nI j2), .int x9]).toArray s 1 6 (fun _ => False)) (F0 m 0 ls [])
  refine lv_aload_n hx hb dX4_product_0 rfl (lv_at hl 0 rfl) ?_
  refine lv_iload_n hx hb dX4_product_1 rfl (lv_at hl 1 rfl) ?_
  refine va_csr (va_Run.run (va_runV (As := [.int (nI j)]) (rest := []) ⟨hx, hb, hml, hown, hts⟩ (m_X4_orderAt l dC dI ad S j (by omega)) (cwV 1 hts gX4_product_X4_orderAt rfl rfl rfl hdX4_orderAt_1 ⟨Nat.le_of_ble_eq_true rfl, Nat.le_of_ble_eq_true rfl⟩) (hX.preTop 57 6 (by decide) (by decide) rfl rfl) rfl rfl hl.1 rfl (lv_room (Nat.le_of_ble_eq_true rfl)) dX4_product_2 ⟨Nat.le_of_ble_eq_true rfl, Nat.le_of_ble_eq_true rfl⟩)) (fun k_ hk_ => ?_)
  rw [hk_]
  refine lv_astore (lv' := [(4, .ref (ad (24 + 5 * j))), (0, .ref (ad 57)), (1, .int (nI j)), (2, .int (nI j2)), (3, .int x9)]) hx hb dX4_product_5 hl (by decide) rfl (fun ls hl => ?_)
  refine lv_aload_n hx hb dX4_product_7 rfl (lv_at hl 1 rfl) ?_
  refine lv_iload_n hx hb dX4_product_8 rfl (lv_at hl 3 rfl) ?_
  refine va_csr (va_Run.run (va_runV (As := [.int (nI j2)]) (rest := []) ⟨hx, hb, hml, hown, hts⟩ (m_X4_orderAt l dC dI ad S j2 (by omega)) (cwV 1 hts gX4_product_X4_orderAt rfl rfl rfl hdX4_orderAt_1 ⟨Nat.le_of_ble_eq_true rfl, Nat.le_of_ble_eq_true rfl⟩) (hX.preTop 57 6 (by decide) (by decide) rfl rfl) rfl rfl hl.1 rfl (lv_room (Nat.le_of_ble_eq_true rfl)) dX4_product_9 ⟨Nat.le_of_ble_eq_true rfl, Nat.le_of_ble_eq_true rfl⟩)) (fun k_ hk_ => ?_)
  rw [hk_]
  refine lv_astore (lv' := [(5, .ref (ad (24 + 5 * j2))), (4, .ref (ad (24 + 5 * j))), (0, .ref (ad 57)), (1, .int (nI j)), (2, .int (nI j2)), (3, .int x9)]) hx hb dX4_product_12 hl (by decide) rfl (fun ls hl => ?_)
  refine lv_aload_n hx hb dX4_product_14 rfl (lv_at hl 2 rfl) ?_
  refine lv_iload_n hx hb dX4_product_15 rfl (lv_at hl 5 rfl) ?_
  exact kx_pass (vx_runV (As := [.int x9]) (rest := []) ⟨hx, hb, hml, hown, hts⟩ (t_X4_orderAt l hst dC dI ad S x9 hb9) (cwV 1 hts gX4_product_X4_orderAt rfl rfl rfl hdX4_orderAt_1 ⟨Nat.le_of_ble_eq_true rfl, Nat.le_of_ble_eq_true rfl⟩) (hPZ.preX) rfl rfl hl.1 rfl (lv_room (Nat.le_of_ble_eq_true rfl)) dX4_product_16 ⟨Nat.le_of_ble_eq_true rfl, Nat.le_of_ble_eq_true rfl⟩) hPX hex hlocks
set_option maxHeartbeats 4000000 in
set_option maxRecDepth 100000 in
theorem t_X4_tellApart_1 (l : Launch) (hst : l.stackTraces = false) (dC : Nat → ClassId) (dI : Nat → Nat → Nat) (ad : Nat → Nat) (S : XS) (x9 : Int32) (y1 : Int32) (y2 : Int32) (hb9 : x9 < 0 ∨ nI 4 ≤ x9) : vx_Met l yX4_tellApart wsX4_tellApart ({ frames := 8, cells := 1, slots := 6, locals := 123 } : Room) (va_Pc [.ref (ad 57), .int x9, .int y1, .int y2] (PXZ dC dI ad S)) (fun _ _ _ _ => False) (XQ dC dI ad S IX) 1 6 (fun _ => False) := by
  refine vx_ofW (cc := cX4_tellApart) (maxL := 6) (ret := (some .int)) (by decide) rfl ?_
  intro p e s m args below meth c s₁ B hml hex hv
  obtain ⟨rfl, hPZ⟩ := hv
  have hPX := hPZ.1
  have hx := B.exec
  have hb := B.bytes
  have hr := B.returns
  have hts := atoms_spec (ws := wsX4_tellApart) B.pre
  have hown : s.vm.findClass RX4 = some m.cls := findClass_of_methodNamed B.named
  have hlocks := B.notSynchronized
  have hX := WX.of hPX
  have hl := lv_entry ([.ref (ad 57), .int x9, .int y1, .int y2]) (n := 6) (Nat.le_of_ble_eq_true rfl)
  rw [lg_entry_eq]
  generalize (lg_sl ([.ref (ad 57), .int x9, .int y1, .int y2]) ++ List.replicate (6 - (lg_sl ([.ref (ad 57), .int x9, .int y1, .int y2])).length) Slot.unset).toArray = ls at hl ⊢
  have hl : lv_has ls 6 [(0, .ref (ad 57)), (1, .int x9), (2, .int y1), (3, .int y2)] := hl
  show W p l e ({ frames := 8, cells := 1, slots := 6, locals := 123 } : Room) s m ([.ref (ad 57), .int x9, .int y1, .int y2]).toArray below meth c s.heap [] 0 0 (vx_MQ below (fun _ _ _ _ => False) (XQ dC dI ad S IX) ([.ref (ad 57), .int x9, .int y1, .int y2]).toArray s 1 6 (fun _ => False)) (F0 m 0 ls [])
  refine lv_aload_n hx hb dX4_tellApart_0 rfl (lv_at hl 0 rfl) ?_
  refine lv_iload_n hx hb dX4_tellApart_1 rfl (lv_at hl 1 rfl) ?_
  exact kx_pass (vx_runV (As := [.int x9]) (rest := []) ⟨hx, hb, hml, hown, hts⟩ (t_X4_orderAt l hst dC dI ad S x9 hb9) (cwV 1 hts gX4_tellApart_X4_orderAt rfl rfl rfl hdX4_orderAt_1 ⟨Nat.le_of_ble_eq_true rfl, Nat.le_of_ble_eq_true rfl⟩) (hPZ.preX) rfl rfl hl.1 rfl (lv_room (Nat.le_of_ble_eq_true rfl)) dX4_tellApart_2 ⟨Nat.le_of_ble_eq_true rfl, Nat.le_of_ble_eq_true rfl⟩) hPX hex hlocks
set_option maxHeartbeats 4000000 in
set_option maxRecDepth 100000 in
theorem t_X4_tellApart_2 (l : Launch) (hst : l.stackTraces = false) (dC : Nat → ClassId) (dI : Nat → Nat → Nat) (ad : Nat → Nat) (S : XS) (j : Nat) (x9 : Int32) (y2 : Int32) (hj : j < 4) (hb9 : x9 < 0 ∨ nI 15 < x9) : vx_Met l yX4_tellApart wsX4_tellApart ({ frames := 8, cells := 1, slots := 6, locals := 123 } : Room) (va_Pc [.ref (ad 57), .int (nI j), .int x9, .int y2] (PXZ dC dI ad S)) (fun _ _ _ _ => False) (XQ dC dI ad S IA) 1 6 (fun _ => False) := by
  refine vx_ofW (cc := cX4_tellApart) (maxL := 6) (ret := (some .int)) (by decide) rfl ?_
  intro p e s m args below meth c s₁ B hml hex hv
  obtain ⟨rfl, hPZ⟩ := hv
  have hPX := hPZ.1
  have hx := B.exec
  have hb := B.bytes
  have hr := B.returns
  have hts := atoms_spec (ws := wsX4_tellApart) B.pre
  have hown : s.vm.findClass RX4 = some m.cls := findClass_of_methodNamed B.named
  have hlocks := B.notSynchronized
  have hX := WX.of hPX
  have hl := lv_entry ([.ref (ad 57), .int (nI j), .int x9, .int y2]) (n := 6) (Nat.le_of_ble_eq_true rfl)
  rw [lg_entry_eq]
  generalize (lg_sl ([.ref (ad 57), .int (nI j), .int x9, .int y2]) ++ List.replicate (6 - (lg_sl ([.ref (ad 57), .int (nI j), .int x9, .int y2])).length) Slot.unset).toArray = ls at hl ⊢
  have hl : lv_has ls 6 [(0, .ref (ad 57)), (1, .int (nI j)), (2, .int x9), (3, .int y2)] := hl
  show W p l e ({ frames := 8, cells := 1, slots := 6, locals := 123 } : Room) s m ([.ref (ad 57), .int (nI j), .int x9, .int y2]).toArray below meth c s.heap [] 0 0 (vx_MQ below (fun _ _ _ _ => False) (XQ dC dI ad S IA) ([.ref (ad 57), .int (nI j), .int x9, .int y2]).toArray s 1 6 (fun _ => False)) (F0 m 0 ls [])
  refine lv_aload_n hx hb dX4_tellApart_0 rfl (lv_at hl 0 rfl) ?_
  refine lv_iload_n hx hb dX4_tellApart_1 rfl (lv_at hl 1 rfl) ?_
  refine va_csr (va_Run.run (va_runV (As := [.int (nI j)]) (rest := []) ⟨hx, hb, hml, hown, hts⟩ (m_X4_orderAt l dC dI ad S j (by omega)) (cwV 1 hts gX4_tellApart_X4_orderAt rfl rfl rfl hdX4_orderAt_1 ⟨Nat.le_of_ble_eq_true rfl, Nat.le_of_ble_eq_true rfl⟩) (hX.preTop 57 6 (by decide) (by decide) rfl rfl) rfl rfl hl.1 rfl (lv_room (Nat.le_of_ble_eq_true rfl)) dX4_tellApart_2 ⟨Nat.le_of_ble_eq_true rfl, Nat.le_of_ble_eq_true rfl⟩)) (fun k_ hk_ => ?_)
  rw [hk_]
  refine lv_astore (lv' := [(4, .ref (ad (24 + 5 * j))), (0, .ref (ad 57)), (1, .int (nI j)), (2, .int x9), (3, .int y2)]) hx hb dX4_tellApart_5 hl (by decide) rfl (fun ls hl => ?_)
  refine lv_iload_n hx hb dX4_tellApart_7 rfl (lv_at hl 3 rfl) ?_
  exact kx_pass (vx_runS (As := [.int x9]) (rest := []) ⟨hx, hb, hml, hown, hts⟩ (t_X4_demandValue l hst dC dI ad S x9 hb9) (va_cwS 1 hts gX4_tellApart_X4_demandValue rfl rfl rfl hdX4_demandValue_1.2 ⟨Nat.le_of_ble_eq_true rfl, Nat.le_of_ble_eq_true rfl⟩) hPZ.preS rfl rfl hl.1 rfl (lv_room (Nat.le_of_ble_eq_true rfl)) dX4_tellApart_8 ⟨Nat.le_of_ble_eq_true rfl, Nat.le_of_ble_eq_true rfl⟩) hPX hex hlocks
set_option maxHeartbeats 4000000 in
set_option maxRecDepth 100000 in
theorem t_X4_tellApart_3 (l : Launch) (hst : l.stackTraces = false) (dC : Nat → ClassId) (dI : Nat → Nat → Nat) (ad : Nat → Nat) (S : XS) (j : Nat) (v : Nat) (x9 : Int32) (hj : j < 4) (hv : v < 16) (hb9 : x9 < 0 ∨ nI 15 < x9) : vx_Met l yX4_tellApart wsX4_tellApart ({ frames := 8, cells := 1, slots := 6, locals := 123 } : Room) (va_Pc [.ref (ad 57), .int (nI j), .int (nI v), .int x9] (PXZ dC dI ad S)) (fun _ _ _ _ => False) (XQ dC dI ad S IA) 1 6 (fun _ => False) := by
  refine vx_ofW (cc := cX4_tellApart) (maxL := 6) (ret := (some .int)) (by decide) rfl ?_
  intro p e s m args below meth c s₁ B hml hex hv
  obtain ⟨rfl, hPZ⟩ := hv
  have hPX := hPZ.1
  have hx := B.exec
  have hb := B.bytes
  have hr := B.returns
  have hts := atoms_spec (ws := wsX4_tellApart) B.pre
  have hown : s.vm.findClass RX4 = some m.cls := findClass_of_methodNamed B.named
  have hlocks := B.notSynchronized
  have hX := WX.of hPX
  have hl := lv_entry ([.ref (ad 57), .int (nI j), .int (nI v), .int x9]) (n := 6) (Nat.le_of_ble_eq_true rfl)
  rw [lg_entry_eq]
  generalize (lg_sl ([.ref (ad 57), .int (nI j), .int (nI v), .int x9]) ++ List.replicate (6 - (lg_sl ([.ref (ad 57), .int (nI j), .int (nI v), .int x9])).length) Slot.unset).toArray = ls at hl ⊢
  have hl : lv_has ls 6 [(0, .ref (ad 57)), (1, .int (nI j)), (2, .int (nI v)), (3, .int x9)] := hl
  show W p l e ({ frames := 8, cells := 1, slots := 6, locals := 123 } : Room) s m ([.ref (ad 57), .int (nI j), .int (nI v), .int x9]).toArray below meth c s.heap [] 0 0 (vx_MQ below (fun _ _ _ _ => False) (XQ dC dI ad S IA) ([.ref (ad 57), .int (nI j), .int (nI v), .int x9]).toArray s 1 6 (fun _ => False)) (F0 m 0 ls [])
  refine lv_aload_n hx hb dX4_tellApart_0 rfl (lv_at hl 0 rfl) ?_
  refine lv_iload_n hx hb dX4_tellApart_1 rfl (lv_at hl 1 rfl) ?_
  refine va_csr (va_Run.run (va_runV (As := [.int (nI j)]) (rest := []) ⟨hx, hb, hml, hown, hts⟩ (m_X4_orderAt l dC dI ad S j (by omega)) (cwV 1 hts gX4_tellApart_X4_orderAt rfl rfl rfl hdX4_orderAt_1 ⟨Nat.le_of_ble_eq_true rfl, Nat.le_of_ble_eq_true rfl⟩) (hX.preTop 57 6 (by decide) (by decide) rfl rfl) rfl rfl hl.1 rfl (lv_room (Nat.le_of_ble_eq_true rfl)) dX4_tellApart_2 ⟨Nat.le_of_ble_eq_true rfl, Nat.le_of_ble_eq_true rfl⟩)) (fun k_ hk_ => ?_)
  rw [hk_]
  refine lv_astore (lv' := [(4, .ref (ad (24 + 5 * j))), (0, .ref (ad 57)), (1, .int (nI j)), (2, .int (nI v)), (3, .int x9)]) hx hb dX4_tellApart_5 hl (by decide) rfl (fun ls hl => ?_)
  refine lv_iload_n hx hb dX4_tellApart_7 rfl (lv_at hl 3 rfl) ?_
  refine va_csv (va_Run.run (va_runS (As := [.int (nI v)]) (rest := []) ⟨hx, hb, hml, hown, hts⟩ (m_X4_demandValue l dC dI ad S v (by omega)) (va_cwS 1 hts gX4_tellApart_X4_demandValue rfl rfl rfl hdX4_demandValue_1.2 ⟨Nat.le_of_ble_eq_true rfl, Nat.le_of_ble_eq_true rfl⟩) hX.preS rfl rfl hl.1 rfl (lv_room (Nat.le_of_ble_eq_true rfl)) dX4_tellApart_8 ⟨Nat.le_of_ble_eq_true rfl, Nat.le_of_ble_eq_true rfl⟩)) (fun _ => ?_)
  refine lv_iload_n hx hb dX4_tellApart_11 rfl (lv_at hl 4 rfl) ?_
  exact kx_pass (vx_runS (As := [.int x9]) (rest := []) ⟨hx, hb, hml, hown, hts⟩ (t_X4_demandValue l hst dC dI ad S x9 hb9) (va_cwS 1 hts gX4_tellApart_X4_demandValue rfl rfl rfl hdX4_demandValue_1.2 ⟨Nat.le_of_ble_eq_true rfl, Nat.le_of_ble_eq_true rfl⟩) hPZ.preS rfl rfl hl.1 rfl (lv_room (Nat.le_of_ble_eq_true rfl)) dX4_tellApart_12 ⟨Nat.le_of_ble_eq_true rfl, Nat.le_of_ble_eq_true rfl⟩) hPX hex hlocks
set_option maxHeartbeats 4000000 in
set_option maxRecDepth 100000 in
theorem t_X4_orderText_1 (l : Launch) (hst : l.stackTraces = false) (dC : Nat → ClassId) (dI : Nat → Nat → Nat) (ad : Nat → Nat) (S : XS) (x9 : Int32) (hb9 : x9 < 0 ∨ nI 4 ≤ x9) : vx_Met l yX4_orderText wsX4_orderText ({ frames := 8, cells := 1, slots := 6, locals := 123 } : Room) (va_Pc [.ref (ad 57), .int x9] (PXZ dC dI ad S)) (fun _ _ _ _ => False) (XQ dC dI ad S IX) 1 6 (fun _ => False) := by
  refine vx_ofW (cc := cX4_orderText) (maxL := 2) (ret := (some (.object "java/lang/String"))) (by decide) rfl ?_
  intro p e s m args below meth c s₁ B hml hex hv
  obtain ⟨rfl, hPZ⟩ := hv
  have hPX := hPZ.1
  have hx := B.exec
  have hb := B.bytes
  have hr := B.returns
  have hts := atoms_spec (ws := wsX4_orderText) B.pre
  have hown : s.vm.findClass RX4 = some m.cls := findClass_of_methodNamed B.named
  have hlocks := B.notSynchronized
  have hX := WX.of hPX
  have hl := lv_entry ([.ref (ad 57), .int x9]) (n := 2) (Nat.le_of_ble_eq_true rfl)
  rw [lg_entry_eq]
  generalize (lg_sl ([.ref (ad 57), .int x9]) ++ List.replicate (2 - (lg_sl ([.ref (ad 57), .int x9])).length) Slot.unset).toArray = ls at hl ⊢
  have hl : lv_has ls 2 [(0, .ref (ad 57)), (1, .int x9)] := hl
  show W p l e ({ frames := 8, cells := 1, slots := 6, locals := 123 } : Room) s m ([.ref (ad 57), .int x9]).toArray below meth c s.heap [] 0 0 (vx_MQ below (fun _ _ _ _ => False) (XQ dC dI ad S IX) ([.ref (ad 57), .int x9]).toArray s 1 6 (fun _ => False)) (F0 m 0 ls [])
  refine lv_aload_n hx hb dX4_orderText_0 rfl (lv_at hl 0 rfl) ?_
  refine lv_iload_n hx hb dX4_orderText_1 rfl (lv_at hl 1 rfl) ?_
  exact kx_pass (vx_runV (As := [.int x9]) (rest := []) ⟨hx, hb, hml, hown, hts⟩ (t_X4_orderAt l hst dC dI ad S x9 hb9) (cwV 1 hts gX4_orderText_X4_orderAt rfl rfl rfl hdX4_orderAt_1 ⟨Nat.le_of_ble_eq_true rfl, Nat.le_of_ble_eq_true rfl⟩) (hPZ.preX) rfl rfl hl.1 rfl (lv_room (Nat.le_of_ble_eq_true rfl)) dX4_orderText_2 ⟨Nat.le_of_ble_eq_true rfl, Nat.le_of_ble_eq_true rfl⟩) hPX hex hlocks
set_option maxHeartbeats 4000000 in
set_option maxRecDepth 100000 in
theorem t_X4_compare_1 (l : Launch) (hst : l.stackTraces = false) (dC : Nat → ClassId) (dI : Nat → Nat → Nat) (ad : Nat → Nat) (S : XS) (x9 : Int32) (y1 : Int32) (y2 : Int32) (hb9 : x9 < 0 ∨ nI 4 ≤ x9) : vx_Met l yX4_compare wsX4_compare ({ frames := 8, cells := 1, slots := 6, locals := 123 } : Room) (va_Pc [.ref (ad 57), .int x9, .int y1, .int y2] (PXZ dC dI ad S)) (fun _ _ _ _ => False) (XQ dC dI ad S IX) 1 6 (fun _ => False) := by
  refine vx_ofW (cc := cX4_compare) (maxL := 5) (ret := (some .int)) (by decide) rfl ?_
  intro p e s m args below meth c s₁ B hml hex hv
  obtain ⟨rfl, hPZ⟩ := hv
  have hPX := hPZ.1
  have hx := B.exec
  have hb := B.bytes
  have hr := B.returns
  have hts := atoms_spec (ws := wsX4_compare) B.pre
  have hown : s.vm.findClass RX4 = some m.cls := findClass_of_methodNamed B.named
  have hlocks := B.notSynchronized
  have hX := WX.of hPX
  have hl := lv_entry ([.ref (ad 57), .int x9, .int y1, .int y2]) (n := 5) (Nat.le_of_ble_eq_true rfl)
  rw [lg_entry_eq]
  generalize (lg_sl ([.ref (ad 57), .int x9, .int y1, .int y2]) ++ List.replicate (5 - (lg_sl ([.ref (ad 57), .int x9, .int y1, .int y2])).length) Slot.unset).toArray = ls at hl ⊢
  have hl : lv_has ls 5 [(0, .ref (ad 57)), (1, .int x9), (2, .int y1), (3, .int y2)] := hl
  show W p l e ({ frames := 8, cells := 1, slots := 6, locals := 123 } : Room) s m ([.ref (ad 57), .int x9, .int y1, .int y2]).toArray below meth c s.heap [] 0 0 (vx_MQ below (fun _ _ _ _ => False) (XQ dC dI ad S IX) ([.ref (ad 57), .int x9, .int y1, .int y2]).toArray s 1 6 (fun _ => False)) (F0 m 0 ls [])
  refine lv_aload_n hx hb dX4_compare_0 rfl (lv_at hl 0 rfl) ?_
  refine lv_iload_n hx hb dX4_compare_1 rfl (lv_at hl 1 rfl) ?_
  exact kx_pass (vx_runV (As := [.int x9]) (rest := []) ⟨hx, hb, hml, hown, hts⟩ (t_X4_orderAt l hst dC dI ad S x9 hb9) (cwV 1 hts gX4_compare_X4_orderAt rfl rfl rfl hdX4_orderAt_1 ⟨Nat.le_of_ble_eq_true rfl, Nat.le_of_ble_eq_true rfl⟩) (hPZ.preX) rfl rfl hl.1 rfl (lv_room (Nat.le_of_ble_eq_true rfl)) dX4_compare_2 ⟨Nat.le_of_ble_eq_true rfl, Nat.le_of_ble_eq_true rfl⟩) hPX hex hlocks
set_option maxHeartbeats 4000000 in
set_option maxRecDepth 100000 in
theorem t_X4_compare_2 (l : Launch) (hst : l.stackTraces = false) (dC : Nat → ClassId) (dI : Nat → Nat → Nat) (ad : Nat → Nat) (S : XS) (j : Nat) (x9 : Int32) (y2 : Int32) (hj : j < 4) (hb9 : x9 < 0 ∨ nI 15 < x9) : vx_Met l yX4_compare wsX4_compare ({ frames := 8, cells := 1, slots := 6, locals := 123 } : Room) (va_Pc [.ref (ad 57), .int (nI j), .int x9, .int y2] (PXZ dC dI ad S)) (fun _ _ _ _ => False) (XQ dC dI ad S IA) 1 6 (fun _ => False) := by
  refine vx_ofW (cc := cX4_compare) (maxL := 5) (ret := (some .int)) (by decide) rfl ?_
  intro p e s m args below meth c s₁ B hml hex hv
  obtain ⟨rfl, hPZ⟩ := hv
  have hPX := hPZ.1
  have hx := B.exec
  have hb := B.bytes
  have hr := B.returns
  have hts := atoms_spec (ws := wsX4_compare) B.pre
  have hown : s.vm.findClass RX4 = some m.cls := findClass_of_methodNamed B.named
  have hlocks := B.notSynchronized
  have hX := WX.of hPX
  have hl := lv_entry ([.ref (ad 57), .int (nI j), .int x9, .int y2]) (n := 5) (Nat.le_of_ble_eq_true rfl)
  rw [lg_entry_eq]
  generalize (lg_sl ([.ref (ad 57), .int (nI j), .int x9, .int y2]) ++ List.replicate (5 - (lg_sl ([.ref (ad 57), .int (nI j), .int x9, .int y2])).length) Slot.unset).toArray = ls at hl ⊢
  have hl : lv_has ls 5 [(0, .ref (ad 57)), (1, .int (nI j)), (2, .int x9), (3, .int y2)] := hl
  show W p l e ({ frames := 8, cells := 1, slots := 6, locals := 123 } : Room) s m ([.ref (ad 57), .int (nI j), .int x9, .int y2]).toArray below meth c s.heap [] 0 0 (vx_MQ below (fun _ _ _ _ => False) (XQ dC dI ad S IA) ([.ref (ad 57), .int (nI j), .int x9, .int y2]).toArray s 1 6 (fun _ => False)) (F0 m 0 ls [])
  refine lv_aload_n hx hb dX4_compare_0 rfl (lv_at hl 0 rfl) ?_
  refine lv_iload_n hx hb dX4_compare_1 rfl (lv_at hl 1 rfl) ?_
  refine va_csr (va_Run.run (va_runV (As := [.int (nI j)]) (rest := []) ⟨hx, hb, hml, hown, hts⟩ (m_X4_orderAt l dC dI ad S j (by omega)) (cwV 1 hts gX4_compare_X4_orderAt rfl rfl rfl hdX4_orderAt_1 ⟨Nat.le_of_ble_eq_true rfl, Nat.le_of_ble_eq_true rfl⟩) (hX.preTop 57 6 (by decide) (by decide) rfl rfl) rfl rfl hl.1 rfl (lv_room (Nat.le_of_ble_eq_true rfl)) dX4_compare_2 ⟨Nat.le_of_ble_eq_true rfl, Nat.le_of_ble_eq_true rfl⟩)) (fun k_ hk_ => ?_)
  rw [hk_]
  refine lv_astore (lv' := [(4, .ref (ad (24 + 5 * j))), (0, .ref (ad 57)), (1, .int (nI j)), (2, .int x9), (3, .int y2)]) hx hb dX4_compare_5 hl (by decide) rfl (fun ls hl => ?_)
  refine lv_iload_n hx hb dX4_compare_7 rfl (lv_at hl 3 rfl) ?_
  exact kx_pass (vx_runS (As := [.int x9]) (rest := []) ⟨hx, hb, hml, hown, hts⟩ (t_X4_demandValue l hst dC dI ad S x9 hb9) (va_cwS 1 hts gX4_compare_X4_demandValue rfl rfl rfl hdX4_demandValue_1.2 ⟨Nat.le_of_ble_eq_true rfl, Nat.le_of_ble_eq_true rfl⟩) hPZ.preS rfl rfl hl.1 rfl (lv_room (Nat.le_of_ble_eq_true rfl)) dX4_compare_8 ⟨Nat.le_of_ble_eq_true rfl, Nat.le_of_ble_eq_true rfl⟩) hPX hex hlocks
set_option maxHeartbeats 4000000 in
set_option maxRecDepth 100000 in
theorem t_X4_compare_3 (l : Launch) (hst : l.stackTraces = false) (dC : Nat → ClassId) (dI : Nat → Nat → Nat) (ad : Nat → Nat) (S : XS) (j : Nat) (v : Nat) (x9 : Int32) (hj : j < 4) (hv : v < 16) (hb9 : x9 < 0 ∨ nI 15 < x9) : vx_Met l yX4_compare wsX4_compare ({ frames := 8, cells := 1, slots := 6, locals := 123 } : Room) (va_Pc [.ref (ad 57), .int (nI j), .int (nI v), .int x9] (PXZ dC dI ad S)) (fun _ _ _ _ => False) (XQ dC dI ad S IA) 1 6 (fun _ => False) := by
  refine vx_ofW (cc := cX4_compare) (maxL := 5) (ret := (some .int)) (by decide) rfl ?_
  intro p e s m args below meth c s₁ B hml hex hv
  obtain ⟨rfl, hPZ⟩ := hv
  have hPX := hPZ.1
  have hx := B.exec
  have hb := B.bytes
  have hr := B.returns
  have hts := atoms_spec (ws := wsX4_compare) B.pre
  have hown : s.vm.findClass RX4 = some m.cls := findClass_of_methodNamed B.named
  have hlocks := B.notSynchronized
  have hX := WX.of hPX
  have hl := lv_entry ([.ref (ad 57), .int (nI j), .int (nI v), .int x9]) (n := 5) (Nat.le_of_ble_eq_true rfl)
  rw [lg_entry_eq]
  generalize (lg_sl ([.ref (ad 57), .int (nI j), .int (nI v), .int x9]) ++ List.replicate (5 - (lg_sl ([.ref (ad 57), .int (nI j), .int (nI v), .int x9])).length) Slot.unset).toArray = ls at hl ⊢
  have hl : lv_has ls 5 [(0, .ref (ad 57)), (1, .int (nI j)), (2, .int (nI v)), (3, .int x9)] := hl
  show W p l e ({ frames := 8, cells := 1, slots := 6, locals := 123 } : Room) s m ([.ref (ad 57), .int (nI j), .int (nI v), .int x9]).toArray below meth c s.heap [] 0 0 (vx_MQ below (fun _ _ _ _ => False) (XQ dC dI ad S IA) ([.ref (ad 57), .int (nI j), .int (nI v), .int x9]).toArray s 1 6 (fun _ => False)) (F0 m 0 ls [])
  refine lv_aload_n hx hb dX4_compare_0 rfl (lv_at hl 0 rfl) ?_
  refine lv_iload_n hx hb dX4_compare_1 rfl (lv_at hl 1 rfl) ?_
  refine va_csr (va_Run.run (va_runV (As := [.int (nI j)]) (rest := []) ⟨hx, hb, hml, hown, hts⟩ (m_X4_orderAt l dC dI ad S j (by omega)) (cwV 1 hts gX4_compare_X4_orderAt rfl rfl rfl hdX4_orderAt_1 ⟨Nat.le_of_ble_eq_true rfl, Nat.le_of_ble_eq_true rfl⟩) (hX.preTop 57 6 (by decide) (by decide) rfl rfl) rfl rfl hl.1 rfl (lv_room (Nat.le_of_ble_eq_true rfl)) dX4_compare_2 ⟨Nat.le_of_ble_eq_true rfl, Nat.le_of_ble_eq_true rfl⟩)) (fun k_ hk_ => ?_)
  rw [hk_]
  refine lv_astore (lv' := [(4, .ref (ad (24 + 5 * j))), (0, .ref (ad 57)), (1, .int (nI j)), (2, .int (nI v)), (3, .int x9)]) hx hb dX4_compare_5 hl (by decide) rfl (fun ls hl => ?_)
  refine lv_iload_n hx hb dX4_compare_7 rfl (lv_at hl 3 rfl) ?_
  refine va_csv (va_Run.run (va_runS (As := [.int (nI v)]) (rest := []) ⟨hx, hb, hml, hown, hts⟩ (m_X4_demandValue l dC dI ad S v (by omega)) (va_cwS 1 hts gX4_compare_X4_demandValue rfl rfl rfl hdX4_demandValue_1.2 ⟨Nat.le_of_ble_eq_true rfl, Nat.le_of_ble_eq_true rfl⟩) hX.preS rfl rfl hl.1 rfl (lv_room (Nat.le_of_ble_eq_true rfl)) dX4_compare_8 ⟨Nat.le_of_ble_eq_true rfl, Nat.le_of_ble_eq_true rfl⟩)) (fun _ => ?_)
  refine lv_iload_n hx hb dX4_compare_11 rfl (lv_at hl 4 rfl) ?_
  exact kx_pass (vx_runS (As := [.int x9]) (rest := []) ⟨hx, hb, hml, hown, hts⟩ (t_X4_demandValue l hst dC dI ad S x9 hb9) (va_cwS 1 hts gX4_compare_X4_demandValue rfl rfl rfl hdX4_demandValue_1.2 ⟨Nat.le_of_ble_eq_true rfl, Nat.le_of_ble_eq_true rfl⟩) hPZ.preS rfl rfl hl.1 rfl (lv_room (Nat.le_of_ble_eq_true rfl)) dX4_compare_12 ⟨Nat.le_of_ble_eq_true rfl, Nat.le_of_ble_eq_true rfl⟩) hPX hex hlocks
set_option maxHeartbeats 4000000 in
set_option maxRecDepth 100000 in
theorem t_X4_both_1 (l : Launch) (hst : l.stackTraces = false) (dC : Nat → ClassId) (dI : Nat → Nat → Nat) (ad : Nat → Nat) (S : XS) (x9 : Int32) (y1 : Int32) (y2 : Int32) (y3 : Int32) (hb9 : x9 < 0 ∨ nI 4 ≤ x9) : vx_Met l yX4_both wsX4_both ({ frames := 8, cells := 1, slots := 6, locals := 123 } : Room) (va_Pc [.ref (ad 57), .int x9, .int y1, .int y2, .int y3] (PXZ dC dI ad S)) (fun _ _ _ _ => False) (XQ dC dI ad S IX) 1 6 (fun _ => False) := by
  refine vx_ofW (cc := cX4_both) (maxL := 7) (ret := (some .int)) (by decide) rfl ?_
  intro p e s m args below meth c s₁ B hml hex hv
  obtain ⟨rfl, hPZ⟩ := hv
  have hPX := hPZ.1
  have hx := B.exec
  have hb := B.bytes
  have hr := B.returns
  have hts := atoms_spec (ws := wsX4_both) B.pre
  have hown : s.vm.findClass RX4 = some m.cls := findClass_of_methodNamed B.named
  have hlocks := B.notSynchronized
  have hX := WX.of hPX
  have hl := lv_entry ([.ref (ad 57), .int x9, .int y1, .int y2, .int y3]) (n := 7) (Nat.le_of_ble_eq_true rfl)
  rw [lg_entry_eq]
  generalize (lg_sl ([.ref (ad 57), .int x9, .int y1, .int y2, .int y3]) ++ List.replicate (7 - (lg_sl ([.ref (ad 57), .int x9, .int y1, .int y2, .int y3])).length) Slot.unset).toArray = ls at hl ⊢
  have hl : lv_has ls 7 [(0, .ref (ad 57)), (1, .int x9), (2, .int y1), (3, .int y2), (4, .int y3)] := hl
  show W p l e ({ frames := 8, cells := 1, slots := 6, locals := 123 } : Room) s m ([.ref (ad 57), .int x9, .int y1, .int y2, .int y3]).toArray below meth c s.heap [] 0 0 (vx_MQ below (fun _ _ _ _ => False) (XQ dC dI ad S IX) ([.ref (ad 57), .int x9, .int y1, .int y2, .int y3]).toArray s 1 6 (fun _ => False)) (F0 m 0 ls [])
  refine lv_aload_n hx hb dX4_both_0 rfl (lv_at hl 0 rfl) ?_
  refine lv_iload_n hx hb dX4_both_1 rfl (lv_at hl 1 rfl) ?_
  exact kx_pass (vx_runV (As := [.int x9]) (rest := []) ⟨hx, hb, hml, hown, hts⟩ (t_X4_orderAt l hst dC dI ad S x9 hb9) (cwV 1 hts gX4_both_X4_orderAt rfl rfl rfl hdX4_orderAt_1 ⟨Nat.le_of_ble_eq_true rfl, Nat.le_of_ble_eq_true rfl⟩) (hPZ.preX) rfl rfl hl.1 rfl (lv_room (Nat.le_of_ble_eq_true rfl)) dX4_both_2 ⟨Nat.le_of_ble_eq_true rfl, Nat.le_of_ble_eq_true rfl⟩) hPX hex hlocks
set_option maxHeartbeats 4000000 in
set_option maxRecDepth 100000 in
theorem t_X4_both_2 (l : Launch) (hst : l.stackTraces = false) (dC : Nat → ClassId) (dI : Nat → Nat → Nat) (ad : Nat → Nat) (S : XS) (j : Nat) (x9 : Int32) (y2 : Int32) (y3 : Int32) (hj : j < 4) (hb9 : x9 < 0 ∨ nI 4 ≤ x9) : vx_Met l yX4_both wsX4_both ({ frames := 8, cells := 1, slots := 6, locals := 123 } : Room) (va_Pc [.ref (ad 57), .int (nI j), .int x9, .int y2, .int y3] (PXZ dC dI ad S)) (fun _ _ _ _ => False) (XQ dC dI ad S IX) 1 6 (fun _ => False) := by
  refine vx_ofW (cc := cX4_both) (maxL := 7) (ret := (some .int)) (by decide) rfl ?_
  intro p e s m args below meth c s₁ B hml hex hv
  obtain ⟨rfl, hPZ⟩ := hv
  have hPX := hPZ.1
  have hx := B.exec
  have hb := B.bytes
  have hr := B.returns
  have hts := atoms_spec (ws := wsX4_both) B.pre
  have hown : s.vm.findClass RX4 = some m.cls := findClass_of_methodNamed B.named
  have hlocks := B.notSynchronized
  have hX := WX.of hPX
  have hl := lv_entry ([.ref (ad 57), .int (nI j), .int x9, .int y2, .int y3]) (n := 7) (Nat.le_of_ble_eq_true rfl)
  rw [lg_entry_eq]
  generalize (lg_sl ([.ref (ad 57), .int (nI j), .int x9, .int y2, .int y3]) ++ List.replicate (7 - (lg_sl ([.ref (ad 57), .int (nI j), .int x9, .int y2, .int y3])).length) Slot.unset).toArray = ls at hl ⊢
  have hl : lv_has ls 7 [(0, .ref (ad 57)), (1, .int (nI j)), (2, .int x9), (3, .int y2), (4, .int y3)] := hl
  show W p l e ({ frames := 8, cells := 1, slots := 6, locals := 123 } : Room) s m ([.ref (ad 57), .int (nI j), .int x9, .int y2, .int y3]).toArray below meth c s.heap [] 0 0 (vx_MQ below (fun _ _ _ _ => False) (XQ dC dI ad S IX) ([.ref (ad 57), .int (nI j), .int x9, .int y2, .int y3]).toArray s 1 6 (fun _ => False)) (F0 m 0 ls [])
  refine lv_aload_n hx hb dX4_both_0 rfl (lv_at hl 0 rfl) ?_
  refine lv_iload_n hx hb dX4_both_1 rfl (lv_at hl 1 rfl) ?_
  refine va_csr (va_Run.run (va_runV (As := [.int (nI j)]) (rest := []) ⟨hx, hb, hml, hown, hts⟩ (m_X4_orderAt l dC dI ad S j (by omega)) (cwV 1 hts gX4_both_X4_orderAt rfl rfl rfl hdX4_orderAt_1 ⟨Nat.le_of_ble_eq_true rfl, Nat.le_of_ble_eq_true rfl⟩) (hX.preTop 57 6 (by decide) (by decide) rfl rfl) rfl rfl hl.1 rfl (lv_room (Nat.le_of_ble_eq_true rfl)) dX4_both_2 ⟨Nat.le_of_ble_eq_true rfl, Nat.le_of_ble_eq_true rfl⟩)) (fun k_ hk_ => ?_)
  rw [hk_]
  refine lv_astore (lv' := [(5, .ref (ad (24 + 5 * j))), (0, .ref (ad 57)), (1, .int (nI j)), (2, .int x9), (3, .int y2), (4, .int y3)]) hx hb dX4_both_5 hl (by decide) rfl (fun ls hl => ?_)
  refine lv_aload_n hx hb dX4_both_7 rfl (lv_at hl 1 rfl) ?_
  refine lv_iload_n hx hb dX4_both_8 rfl (lv_at hl 3 rfl) ?_
  exact kx_pass (vx_runV (As := [.int x9]) (rest := []) ⟨hx, hb, hml, hown, hts⟩ (t_X4_orderAt l hst dC dI ad S x9 hb9) (cwV 1 hts gX4_both_X4_orderAt rfl rfl rfl hdX4_orderAt_1 ⟨Nat.le_of_ble_eq_true rfl, Nat.le_of_ble_eq_true rfl⟩) (hPZ.preX) rfl rfl hl.1 rfl (lv_room (Nat.le_of_ble_eq_true rfl)) dX4_both_9 ⟨Nat.le_of_ble_eq_true rfl, Nat.le_of_ble_eq_true rfl⟩) hPX hex hlocks
set_option maxHeartbeats 4000000 in
set_option maxRecDepth 100000 in
theorem t_X4_both_3 (l : Launch) (hst : l.stackTraces = false) (dC : Nat → ClassId) (dI : Nat → Nat → Nat) (ad : Nat → Nat) (S : XS) (j : Nat) (j2 : Nat) (x9 : Int32) (y3 : Int32) (hj : j < 4) (hj2 : j2 < 4) (hb9 : x9 < 0 ∨ nI 15 < x9) : vx_Met l yX4_both wsX4_both ({ frames := 8, cells := 1, slots := 6, locals := 123 } : Room) (va_Pc [.ref (ad 57), .int (nI j), .int (nI j2), .int x9, .int y3] (PXZ dC dI ad S)) (fun _ _ _ _ => False) (XQ dC dI ad S IA) 1 6 (fun _ => False) := by
  refine vx_ofW (cc := cX4_both) (maxL := 7) (ret := (some .int)) (by decide) rfl ?_
  intro p e s m args below meth c s₁ B hml hex hv
  obtain ⟨rfl, hPZ⟩ := hv
  have hPX := hPZ.1
  have hx := B.exec
  have hb := B.bytes
  have hr := B.returns
  have hts := atoms_spec (ws := wsX4_both) B.pre
  have hown : s.vm.findClass RX4 = some m.cls := findClass_of_methodNamed B.named
  have hlocks := B.notSynchronized
  have hX := WX.of hPX
  have hl := lv_entry ([.ref (ad 57), .int (nI j), .int (nI j2), .int x9, .int y3]) (n := 7) (Nat.le_of_ble_eq_true rfl)
  rw [lg_entry_eq]
  generalize (lg_sl ([.ref (ad 57), .int (nI j), .int (nI j2), .int x9, .int y3]) ++ List.replicate (7 - (lg_sl ([.ref (ad 57), .int (nI j), .int (nI j2), .int x9, .int y3])).length) Slot.unset).toArray = ls at hl ⊢
  have hl : lv_has ls 7 [(0, .ref (ad 57)), (1, .int (nI j)), (2, .int (nI j2)), (3, .int x9), (4, .int y3)] := hl
  show W p l e ({ frames := 8, cells := 1, slots := 6, locals := 123 } : Room) s m ([.ref (ad 57), .int (nI j), .int (nI j2), .int x9, .int y3]).toArray below meth c s.heap [] 0 0 (vx_MQ below (fun _ _ _ _ => False) (XQ dC dI ad S IA) ([.ref (ad 57), .int (nI j), .int (nI j2), .int x9, .int y3]).toArray s 1 6 (fun _ => False)) (F0 m 0 ls [])
  refine lv_aload_n hx hb dX4_both_0 rfl (lv_at hl 0 rfl) ?_
  refine lv_iload_n hx hb dX4_both_1 rfl (lv_at hl 1 rfl) ?_
  refine va_csr (va_Run.run (va_runV (As := [.int (nI j)]) (rest := []) ⟨hx, hb, hml, hown, hts⟩ (m_X4_orderAt l dC dI ad S j (by omega)) (cwV 1 hts gX4_both_X4_orderAt rfl rfl rfl hdX4_orderAt_1 ⟨Nat.le_of_ble_eq_true rfl, Nat.le_of_ble_eq_true rfl⟩) (hX.preTop 57 6 (by decide) (by decide) rfl rfl) rfl rfl hl.1 rfl (lv_room (Nat.le_of_ble_eq_true rfl)) dX4_both_2 ⟨Nat.le_of_ble_eq_true rfl, Nat.le_of_ble_eq_true rfl⟩)) (fun k_ hk_ => ?_)
  rw [hk_]
  refine lv_astore (lv' := [(5, .ref (ad (24 + 5 * j))), (0, .ref (ad 57)), (1, .int (nI j)), (2, .int (nI j2)), (3, .int x9), (4, .int y3)]) hx hb dX4_both_5 hl (by decide) rfl (fun ls hl => ?_)
  refine lv_aload_n hx hb dX4_both_7 rfl (lv_at hl 1 rfl) ?_
  refine lv_iload_n hx hb dX4_both_8 rfl (lv_at hl 3 rfl) ?_
  refine va_csr (va_Run.run (va_runV (As := [.int (nI j2)]) (rest := []) ⟨hx, hb, hml, hown, hts⟩ (m_X4_orderAt l dC dI ad S j2 (by omega)) (cwV 1 hts gX4_both_X4_orderAt rfl rfl rfl hdX4_orderAt_1 ⟨Nat.le_of_ble_eq_true rfl, Nat.le_of_ble_eq_true rfl⟩) (hX.preTop 57 6 (by decide) (by decide) rfl rfl) rfl rfl hl.1 rfl (lv_room (Nat.le_of_ble_eq_true rfl)) dX4_both_9 ⟨Nat.le_of_ble_eq_true rfl, Nat.le_of_ble_eq_true rfl⟩)) (fun k_ hk_ => ?_)
  rw [hk_]
  refine lv_astore (lv' := [(6, .ref (ad (24 + 5 * j2))), (5, .ref (ad (24 + 5 * j))), (0, .ref (ad 57)), (1, .int (nI j)), (2, .int (nI j2)), (3, .int x9), (4, .int y3)]) hx hb dX4_both_12 hl (by decide) rfl (fun ls hl => ?_)
  refine lv_iload_n hx hb dX4_both_14 rfl (lv_at hl 5 rfl) ?_
  exact kx_pass (vx_runS (As := [.int x9]) (rest := []) ⟨hx, hb, hml, hown, hts⟩ (t_X4_demandValue l hst dC dI ad S x9 hb9) (va_cwS 1 hts gX4_both_X4_demandValue rfl rfl rfl hdX4_demandValue_1.2 ⟨Nat.le_of_ble_eq_true rfl, Nat.le_of_ble_eq_true rfl⟩) hPZ.preS rfl rfl hl.1 rfl (lv_room (Nat.le_of_ble_eq_true rfl)) dX4_both_15 ⟨Nat.le_of_ble_eq_true rfl, Nat.le_of_ble_eq_true rfl⟩) hPX hex hlocks
set_option maxHeartbeats 4000000 in
set_option maxRecDepth 100000 in
theorem t_X4_both_4 (l : Launch) (hst : l.stackTraces = false) (dC : Nat → ClassId) (dI : Nat → Nat → Nat) (ad : Nat → Nat) (S : XS) (j : Nat) (j2 : Nat) (v : Nat) (x9 : Int32) (hj : j < 4) (hj2 : j2 < 4) (hv : v < 16) (hb9 : x9 < 0 ∨ nI 15 < x9) : vx_Met l yX4_both wsX4_both ({ frames := 8, cells := 1, slots := 6, locals := 123 } : Room) (va_Pc [.ref (ad 57), .int (nI j), .int (nI j2), .int (nI v), .int x9] (PXZ dC dI ad S)) (fun _ _ _ _ => False) (XQ dC dI ad S IA) 1 6 (fun _ => False) := by
  refine vx_ofW (cc := cX4_both) (maxL := 7) (ret := (some .int)) (by decide) rfl ?_
  intro p e s m args below meth c s₁ B hml hex hv
  obtain ⟨rfl, hPZ⟩ := hv
  have hPX := hPZ.1
  have hx := B.exec
  have hb := B.bytes
  have hr := B.returns
  have hts := atoms_spec (ws := wsX4_both) B.pre
  have hown : s.vm.findClass RX4 = some m.cls := findClass_of_methodNamed B.named
  have hlocks := B.notSynchronized
  have hX := WX.of hPX
  have hl := lv_entry ([.ref (ad 57), .int (nI j), .int (nI j2), .int (nI v), .int x9]) (n := 7) (Nat.le_of_ble_eq_true rfl)
  rw [lg_entry_eq]
  generalize (lg_sl ([.ref (ad 57), .int (nI j), .int (nI j2), .int (nI v), .int x9]) ++ List.replicate (7 - (lg_sl ([.ref (ad 57), .int (nI j), .int (nI j2), .int (nI v), .int x9])).length) Slot.unset).toArray = ls at hl ⊢
  have hl : lv_has ls 7 [(0, .ref (ad 57)), (1, .int (nI j)), (2, .int (nI j2)), (3, .int (nI v)), (4, .int x9)] := hl
  show W p l e ({ frames := 8, cells := 1, slots := 6, locals := 123 } : Room) s m ([.ref (ad 57), .int (nI j), .int (nI j2), .int (nI v), .int x9]).toArray below meth c s.heap [] 0 0 (vx_MQ below (fun _ _ _ _ => False) (XQ dC dI ad S IA) ([.ref (ad 57), .int (nI j), .int (nI j2), .int (nI v), .int x9]).toArray s 1 6 (fun _ => False)) (F0 m 0 ls [])
  refine lv_aload_n hx hb dX4_both_0 rfl (lv_at hl 0 rfl) ?_
  refine lv_iload_n hx hb dX4_both_1 rfl (lv_at hl 1 rfl) ?_
  refine va_csr (va_Run.run (va_runV (As := [.int (nI j)]) (rest := []) ⟨hx, hb, hml, hown, hts⟩ (m_X4_orderAt l dC dI ad S j (by omega)) (cwV 1 hts gX4_both_X4_orderAt rfl rfl rfl hdX4_orderAt_1 ⟨Nat.le_of_ble_eq_true rfl, Nat.le_of_ble_eq_true rfl⟩) (hX.preTop 57 6 (by decide) (by decide) rfl rfl) rfl rfl hl.1 rfl (lv_room (Nat.le_of_ble_eq_true rfl)) dX4_both_2 ⟨Nat.le_of_ble_eq_true rfl, Nat.le_of_ble_eq_true rfl⟩)) (fun k_ hk_ => ?_)
  rw [hk_]
  refine lv_astore (lv' := [(5, .ref (ad (24 + 5 * j))), (0, .ref (ad 57)), (1, .int (nI j)), (2, .int (nI j2)), (3, .int (nI v)), (4, .int x9)]) hx hb dX4_both_5 hl (by decide) rfl (fun ls hl => ?_)
  refine lv_aload_n hx hb dX4_both_7 rfl (lv_at hl 1 rfl) ?_
  refine lv_iload_n hx hb dX4_both_8 rfl (lv_at hl 3 rfl) ?_
  refine va_csr (va_Run.run (va_runV (As := [.int (nI j2)]) (rest := []) ⟨hx, hb, hml, hown, hts⟩ (m_X4_orderAt l dC dI ad S j2 (by omega)) (cwV 1 hts gX4_both_X4_orderAt rfl rfl rfl hdX4_orderAt_1 ⟨Nat.le_of_ble_eq_true rfl, Nat.le_of_ble_eq_true rfl⟩) (hX.preTop 57 6 (by decide) (by decide) rfl rfl) rfl rfl hl.1 rfl (lv_room (Nat.le_of_ble_eq_true rfl)) dX4_both_9 ⟨Nat.le_of_ble_eq_true rfl, Nat.le_of_ble_eq_true rfl⟩)) (fun k_ hk_ => ?_)
  rw [hk_]
  refine lv_astore (lv' := [(6, .ref (ad (24 + 5 * j2))), (5, .ref (ad (24 + 5 * j))), (0, .ref (ad 57)), (1, .int (nI j)), (2, .int (nI j2)), (3, .int (nI v)), (4, .int x9)]) hx hb dX4_both_12 hl (by decide) rfl (fun ls hl => ?_)
  refine lv_iload_n hx hb dX4_both_14 rfl (lv_at hl 5 rfl) ?_
  refine va_csv (va_Run.run (va_runS (As := [.int (nI v)]) (rest := []) ⟨hx, hb, hml, hown, hts⟩ (m_X4_demandValue l dC dI ad S v (by omega)) (va_cwS 1 hts gX4_both_X4_demandValue rfl rfl rfl hdX4_demandValue_1.2 ⟨Nat.le_of_ble_eq_true rfl, Nat.le_of_ble_eq_true rfl⟩) hX.preS rfl rfl hl.1 rfl (lv_room (Nat.le_of_ble_eq_true rfl)) dX4_both_15 ⟨Nat.le_of_ble_eq_true rfl, Nat.le_of_ble_eq_true rfl⟩)) (fun _ => ?_)
  refine lv_iload hx hb dX4_both_18 (lv_at hl 6 rfl) ?_
  exact kx_pass (vx_runS (As := [.int x9]) (rest := []) ⟨hx, hb, hml, hown, hts⟩ (t_X4_demandValue l hst dC dI ad S x9 hb9) (va_cwS 1 hts gX4_both_X4_demandValue rfl rfl rfl hdX4_demandValue_1.2 ⟨Nat.le_of_ble_eq_true rfl, Nat.le_of_ble_eq_true rfl⟩) hPZ.preS rfl rfl hl.1 rfl (lv_room (Nat.le_of_ble_eq_true rfl)) dX4_both_20 ⟨Nat.le_of_ble_eq_true rfl, Nat.le_of_ble_eq_true rfl⟩) hPX hex hlocks
set_option maxHeartbeats 4000000 in
set_option maxRecDepth 100000 in
theorem t_X4_refines_1 (l : Launch) (hst : l.stackTraces = false) (dC : Nat → ClassId) (dI : Nat → Nat → Nat) (ad : Nat → Nat) (S : XS) (x9 : Int32) (y1 : Int32) (hb9 : x9 < 0 ∨ nI 4 ≤ x9) : vx_Met l yX4_refines wsX4_refines ({ frames := 8, cells := 1, slots := 6, locals := 123 } : Room) (va_Pc [.ref (ad 57), .int x9, .int y1] (PXZ dC dI ad S)) (fun _ _ _ _ => False) (XQ dC dI ad S IX) 1 6 (fun _ => False) := by
  refine vx_ofW (cc := cX4_refines) (maxL := 4) (ret := (some .boolean)) (by decide) rfl ?_
  intro p e s m args below meth c s₁ B hml hex hv
  obtain ⟨rfl, hPZ⟩ := hv
  have hPX := hPZ.1
  have hx := B.exec
  have hb := B.bytes
  have hr := B.returns
  have hts := atoms_spec (ws := wsX4_refines) B.pre
  have hown : s.vm.findClass RX4 = some m.cls := findClass_of_methodNamed B.named
  have hlocks := B.notSynchronized
  have hX := WX.of hPX
  have hl := lv_entry ([.ref (ad 57), .int x9, .int y1]) (n := 4) (Nat.le_of_ble_eq_true rfl)
  rw [lg_entry_eq]
  generalize (lg_sl ([.ref (ad 57), .int x9, .int y1]) ++ List.replicate (4 - (lg_sl ([.ref (ad 57), .int x9, .int y1])).length) Slot.unset).toArray = ls at hl ⊢
  have hl : lv_has ls 4 [(0, .ref (ad 57)), (1, .int x9), (2, .int y1)] := hl
  show W p l e ({ frames := 8, cells := 1, slots := 6, locals := 123 } : Room) s m ([.ref (ad 57), .int x9, .int y1]).toArray below meth c s.heap [] 0 0 (vx_MQ below (fun _ _ _ _ => False) (XQ dC dI ad S IX) ([.ref (ad 57), .int x9, .int y1]).toArray s 1 6 (fun _ => False)) (F0 m 0 ls [])
  refine lv_aload_n hx hb dX4_refines_0 rfl (lv_at hl 0 rfl) ?_
  refine lv_iload_n hx hb dX4_refines_1 rfl (lv_at hl 1 rfl) ?_
  exact kx_pass (vx_runV (As := [.int x9]) (rest := []) ⟨hx, hb, hml, hown, hts⟩ (t_X4_orderAt l hst dC dI ad S x9 hb9) (cwV 1 hts gX4_refines_X4_orderAt rfl rfl rfl hdX4_orderAt_1 ⟨Nat.le_of_ble_eq_true rfl, Nat.le_of_ble_eq_true rfl⟩) (hPZ.preX) rfl rfl hl.1 rfl (lv_room (Nat.le_of_ble_eq_true rfl)) dX4_refines_2 ⟨Nat.le_of_ble_eq_true rfl, Nat.le_of_ble_eq_true rfl⟩) hPX hex hlocks
set_option maxHeartbeats 4000000 in
set_option maxRecDepth 100000 in
theorem t_X4_refines_2 (l : Launch) (hst : l.stackTraces = false) (dC : Nat → ClassId) (dI : Nat → Nat → Nat) (ad : Nat → Nat) (S : XS) (j : Nat) (x9 : Int32) (hj : j < 4) (hb9 : x9 < 0 ∨ nI 4 ≤ x9) : vx_Met l yX4_refines wsX4_refines ({ frames := 8, cells := 1, slots := 6, locals := 123 } : Room) (va_Pc [.ref (ad 57), .int (nI j), .int x9] (PXZ dC dI ad S)) (fun _ _ _ _ => False) (XQ dC dI ad S IX) 1 6 (fun _ => False) := by
  refine vx_ofW (cc := cX4_refines) (maxL := 4) (ret := (some .boolean)) (by decide) rfl ?_
  intro p e s m args below meth c s₁ B hml hex hv
  obtain ⟨rfl, hPZ⟩ := hv
  have hPX := hPZ.1
  have hx := B.exec
  have hb := B.bytes
  have hr := B.returns
  have hts := atoms_spec (ws := wsX4_refines) B.pre
  have hown : s.vm.findClass RX4 = some m.cls := findClass_of_methodNamed B.named
  have hlocks := B.notSynchronized
  have hX := WX.of hPX
  have hl := lv_entry ([.ref (ad 57), .int (nI j), .int x9]) (n := 4) (Nat.le_of_ble_eq_true rfl)
  rw [lg_entry_eq]
  generalize (lg_sl ([.ref (ad 57), .int (nI j), .int x9]) ++ List.replicate (4 - (lg_sl ([.ref (ad 57), .int (nI j), .int x9])).length) Slot.unset).toArray = ls at hl ⊢
  have hl : lv_has ls 4 [(0, .ref (ad 57)), (1, .int (nI j)), (2, .int x9)] := hl
  show W p l e ({ frames := 8, cells := 1, slots := 6, locals := 123 } : Room) s m ([.ref (ad 57), .int (nI j), .int x9]).toArray below meth c s.heap [] 0 0 (vx_MQ below (fun _ _ _ _ => False) (XQ dC dI ad S IX) ([.ref (ad 57), .int (nI j), .int x9]).toArray s 1 6 (fun _ => False)) (F0 m 0 ls [])
  refine lv_aload_n hx hb dX4_refines_0 rfl (lv_at hl 0 rfl) ?_
  refine lv_iload_n hx hb dX4_refines_1 rfl (lv_at hl 1 rfl) ?_
  refine va_csr (va_Run.run (va_runV (As := [.int (nI j)]) (rest := []) ⟨hx, hb, hml, hown, hts⟩ (m_X4_orderAt l dC dI ad S j (by omega)) (cwV 1 hts gX4_refines_X4_orderAt rfl rfl rfl hdX4_orderAt_1 ⟨Nat.le_of_ble_eq_true rfl, Nat.le_of_ble_eq_true rfl⟩) (hX.preTop 57 6 (by decide) (by decide) rfl rfl) rfl rfl hl.1 rfl (lv_room (Nat.le_of_ble_eq_true rfl)) dX4_refines_2 ⟨Nat.le_of_ble_eq_true rfl, Nat.le_of_ble_eq_true rfl⟩)) (fun k_ hk_ => ?_)
  rw [hk_]
  refine lv_astore_n (lv' := [(3, .ref (ad (24 + 5 * j))), (0, .ref (ad 57)), (1, .int (nI j)), (2, .int x9)]) hx hb dX4_refines_5 rfl hl (by decide) rfl (fun ls hl => ?_)
  refine lv_aload_n hx hb dX4_refines_6 rfl (lv_at hl 0 rfl) ?_
  refine lv_aload_n hx hb dX4_refines_7 rfl (lv_at hl 1 rfl) ?_
  refine lv_iload_n hx hb dX4_refines_8 rfl (lv_at hl 3 rfl) ?_
  exact kx_pass (vx_runV (As := [.int x9]) (rest := [.ref (ad (24 + 5 * j))]) ⟨hx, hb, hml, hown, hts⟩ (t_X4_orderAt l hst dC dI ad S x9 hb9) (cwV 1 hts gX4_refines_X4_orderAt rfl rfl rfl hdX4_orderAt_1 ⟨Nat.le_of_ble_eq_true rfl, Nat.le_of_ble_eq_true rfl⟩) (hPZ.preX) rfl rfl hl.1 rfl (lv_room (Nat.le_of_ble_eq_true rfl)) dX4_refines_9 ⟨Nat.le_of_ble_eq_true rfl, Nat.le_of_ble_eq_true rfl⟩) hPX hex hlocks
set_option maxHeartbeats 4000000 in
set_option maxRecDepth 100000 in
theorem t_X4_areSame_1 (l : Launch) (hst : l.stackTraces = false) (dC : Nat → ClassId) (dI : Nat → Nat → Nat) (ad : Nat → Nat) (S : XS) (x9 : Int32) (y1 : Int32) (hb9 : x9 < 0 ∨ nI 4 ≤ x9) : vx_Met l yX4_areSame wsX4_areSame ({ frames := 8, cells := 1, slots := 6, locals := 123 } : Room) (va_Pc [.ref (ad 57), .int x9, .int y1] (PXZ dC dI ad S)) (fun _ _ _ _ => False) (XQ dC dI ad S IX) 1 6 (fun _ => False) := by
  refine vx_ofW (cc := cX4_areSame) (maxL := 4) (ret := (some .boolean)) (by decide) rfl ?_
  intro p e s m args below meth c s₁ B hml hex hv
  obtain ⟨rfl, hPZ⟩ := hv
  have hPX := hPZ.1
  have hx := B.exec
  have hb := B.bytes
  have hr := B.returns
  have hts := atoms_spec (ws := wsX4_areSame) B.pre
  have hown : s.vm.findClass RX4 = some m.cls := findClass_of_methodNamed B.named
  have hlocks := B.notSynchronized
  have hX := WX.of hPX
  have hl := lv_entry ([.ref (ad 57), .int x9, .int y1]) (n := 4) (Nat.le_of_ble_eq_true rfl)
  rw [lg_entry_eq]
  generalize (lg_sl ([.ref (ad 57), .int x9, .int y1]) ++ List.replicate (4 - (lg_sl ([.ref (ad 57), .int x9, .int y1])).length) Slot.unset).toArray = ls at hl ⊢
  have hl : lv_has ls 4 [(0, .ref (ad 57)), (1, .int x9), (2, .int y1)] := hl
  show W p l e ({ frames := 8, cells := 1, slots := 6, locals := 123 } : Room) s m ([.ref (ad 57), .int x9, .int y1]).toArray below meth c s.heap [] 0 0 (vx_MQ below (fun _ _ _ _ => False) (XQ dC dI ad S IX) ([.ref (ad 57), .int x9, .int y1]).toArray s 1 6 (fun _ => False)) (F0 m 0 ls [])
  refine lv_aload_n hx hb dX4_areSame_0 rfl (lv_at hl 0 rfl) ?_
  refine lv_iload_n hx hb dX4_areSame_1 rfl (lv_at hl 1 rfl) ?_
  exact kx_pass (vx_runV (As := [.int x9]) (rest := []) ⟨hx, hb, hml, hown, hts⟩ (t_X4_orderAt l hst dC dI ad S x9 hb9) (cwV 1 hts gX4_areSame_X4_orderAt rfl rfl rfl hdX4_orderAt_1 ⟨Nat.le_of_ble_eq_true rfl, Nat.le_of_ble_eq_true rfl⟩) (hPZ.preX) rfl rfl hl.1 rfl (lv_room (Nat.le_of_ble_eq_true rfl)) dX4_areSame_2 ⟨Nat.le_of_ble_eq_true rfl, Nat.le_of_ble_eq_true rfl⟩) hPX hex hlocks
set_option maxHeartbeats 4000000 in
set_option maxRecDepth 100000 in
theorem t_X4_areSame_2 (l : Launch) (hst : l.stackTraces = false) (dC : Nat → ClassId) (dI : Nat → Nat → Nat) (ad : Nat → Nat) (S : XS) (j : Nat) (x9 : Int32) (hj : j < 4) (hb9 : x9 < 0 ∨ nI 4 ≤ x9) : vx_Met l yX4_areSame wsX4_areSame ({ frames := 8, cells := 1, slots := 6, locals := 123 } : Room) (va_Pc [.ref (ad 57), .int (nI j), .int x9] (PXZ dC dI ad S)) (fun _ _ _ _ => False) (XQ dC dI ad S IX) 1 6 (fun _ => False) := by
  refine vx_ofW (cc := cX4_areSame) (maxL := 4) (ret := (some .boolean)) (by decide) rfl ?_
  intro p e s m args below meth c s₁ B hml hex hv
  obtain ⟨rfl, hPZ⟩ := hv
  have hPX := hPZ.1
  have hx := B.exec
  have hb := B.bytes
  have hr := B.returns
  have hts := atoms_spec (ws := wsX4_areSame) B.pre
  have hown : s.vm.findClass RX4 = some m.cls := findClass_of_methodNamed B.named
  have hlocks := B.notSynchronized
  have hX := WX.of hPX
  have hl := lv_entry ([.ref (ad 57), .int (nI j), .int x9]) (n := 4) (Nat.le_of_ble_eq_true rfl)
  rw [lg_entry_eq]
  generalize (lg_sl ([.ref (ad 57), .int (nI j), .int x9]) ++ List.replicate (4 - (lg_sl ([.ref (ad 57), .int (nI j), .int x9])).length) Slot.unset).toArray = ls at hl ⊢
  have hl : lv_has ls 4 [(0, .ref (ad 57)), (1, .int (nI j)), (2, .int x9)] := hl
  show W p l e ({ frames := 8, cells := 1, slots := 6, locals := 123 } : Room) s m ([.ref (ad 57), .int (nI j), .int x9]).toArray below meth c s.heap [] 0 0 (vx_MQ below (fun _ _ _ _ => False) (XQ dC dI ad S IX) ([.ref (ad 57), .int (nI j), .int x9]).toArray s 1 6 (fun _ => False)) (F0 m 0 ls [])
  refine lv_aload_n hx hb dX4_areSame_0 rfl (lv_at hl 0 rfl) ?_
  refine lv_iload_n hx hb dX4_areSame_1 rfl (lv_at hl 1 rfl) ?_
  refine va_csr (va_Run.run (va_runV (As := [.int (nI j)]) (rest := []) ⟨hx, hb, hml, hown, hts⟩ (m_X4_orderAt l dC dI ad S j (by omega)) (cwV 1 hts gX4_areSame_X4_orderAt rfl rfl rfl hdX4_orderAt_1 ⟨Nat.le_of_ble_eq_true rfl, Nat.le_of_ble_eq_true rfl⟩) (hX.preTop 57 6 (by decide) (by decide) rfl rfl) rfl rfl hl.1 rfl (lv_room (Nat.le_of_ble_eq_true rfl)) dX4_areSame_2 ⟨Nat.le_of_ble_eq_true rfl, Nat.le_of_ble_eq_true rfl⟩)) (fun k_ hk_ => ?_)
  rw [hk_]
  refine lv_astore_n (lv' := [(3, .ref (ad (24 + 5 * j))), (0, .ref (ad 57)), (1, .int (nI j)), (2, .int x9)]) hx hb dX4_areSame_5 rfl hl (by decide) rfl (fun ls hl => ?_)
  refine lv_aload_n hx hb dX4_areSame_6 rfl (lv_at hl 0 rfl) ?_
  refine lv_aload_n hx hb dX4_areSame_7 rfl (lv_at hl 1 rfl) ?_
  refine lv_iload_n hx hb dX4_areSame_8 rfl (lv_at hl 3 rfl) ?_
  exact kx_pass (vx_runV (As := [.int x9]) (rest := [.ref (ad (24 + 5 * j))]) ⟨hx, hb, hml, hown, hts⟩ (t_X4_orderAt l hst dC dI ad S x9 hb9) (cwV 1 hts gX4_areSame_X4_orderAt rfl rfl rfl hdX4_orderAt_1 ⟨Nat.le_of_ble_eq_true rfl, Nat.le_of_ble_eq_true rfl⟩) (hPZ.preX) rfl rfl hl.1 rfl (lv_room (Nat.le_of_ble_eq_true rfl)) dX4_areSame_9 ⟨Nat.le_of_ble_eq_true rfl, Nat.le_of_ble_eq_true rfl⟩) hPX hex hlocks
set_option maxHeartbeats 4000000 in
set_option maxRecDepth 100000 in
theorem t_X4_apart_1 (l : Launch) (hst : l.stackTraces = false) (dC : Nat → ClassId) (dI : Nat → Nat → Nat) (ad : Nat → Nat) (S : XS) (x9 : Int32) (y1 : Int32) (hb9 : x9 < 0 ∨ nI 4 ≤ x9) : vx_Met l yX4_apart wsX4_apart ({ frames := 8, cells := 1, slots := 6, locals := 123 } : Room) (va_Pc [.ref (ad 57), .int x9, .int y1] (PXZ dC dI ad S)) (fun _ _ _ _ => False) (XQ dC dI ad S IX) 1 6 (fun _ => False) := by
  refine vx_ofW (cc := cX4_apart) (maxL := 4) (ret := (some .int)) (by decide) rfl ?_
  intro p e s m args below meth c s₁ B hml hex hv
  obtain ⟨rfl, hPZ⟩ := hv
  have hPX := hPZ.1
  have hx := B.exec
  have hb := B.bytes
  have hr := B.returns
  have hts := atoms_spec (ws := wsX4_apart) B.pre
  have hown : s.vm.findClass RX4 = some m.cls := findClass_of_methodNamed B.named
  have hlocks := B.notSynchronized
  have hX := WX.of hPX
  have hl := lv_entry ([.ref (ad 57), .int x9, .int y1]) (n := 4) (Nat.le_of_ble_eq_true rfl)
  rw [lg_entry_eq]
  generalize (lg_sl ([.ref (ad 57), .int x9, .int y1]) ++ List.replicate (4 - (lg_sl ([.ref (ad 57), .int x9, .int y1])).length) Slot.unset).toArray = ls at hl ⊢
  have hl : lv_has ls 4 [(0, .ref (ad 57)), (1, .int x9), (2, .int y1)] := hl
  show W p l e ({ frames := 8, cells := 1, slots := 6, locals := 123 } : Room) s m ([.ref (ad 57), .int x9, .int y1]).toArray below meth c s.heap [] 0 0 (vx_MQ below (fun _ _ _ _ => False) (XQ dC dI ad S IX) ([.ref (ad 57), .int x9, .int y1]).toArray s 1 6 (fun _ => False)) (F0 m 0 ls [])
  refine lv_aload_n hx hb dX4_apart_0 rfl (lv_at hl 0 rfl) ?_
  refine lv_iload_n hx hb dX4_apart_1 rfl (lv_at hl 1 rfl) ?_
  exact kx_pass (vx_runV (As := [.int x9]) (rest := []) ⟨hx, hb, hml, hown, hts⟩ (t_X4_orderAt l hst dC dI ad S x9 hb9) (cwV 1 hts gX4_apart_X4_orderAt rfl rfl rfl hdX4_orderAt_1 ⟨Nat.le_of_ble_eq_true rfl, Nat.le_of_ble_eq_true rfl⟩) (hPZ.preX) rfl rfl hl.1 rfl (lv_room (Nat.le_of_ble_eq_true rfl)) dX4_apart_2 ⟨Nat.le_of_ble_eq_true rfl, Nat.le_of_ble_eq_true rfl⟩) hPX hex hlocks
set_option maxHeartbeats 4000000 in
set_option maxRecDepth 100000 in
theorem t_X4_apart_2 (l : Launch) (hst : l.stackTraces = false) (dC : Nat → ClassId) (dI : Nat → Nat → Nat) (ad : Nat → Nat) (S : XS) (j : Nat) (x9 : Int32) (hj : j < 4) (hb9 : x9 < 0 ∨ nI 4 ≤ x9) : vx_Met l yX4_apart wsX4_apart ({ frames := 8, cells := 1, slots := 6, locals := 123 } : Room) (va_Pc [.ref (ad 57), .int (nI j), .int x9] (PXZ dC dI ad S)) (fun _ _ _ _ => False) (XQ dC dI ad S IX) 1 6 (fun _ => False) := by
  refine vx_ofW (cc := cX4_apart) (maxL := 4) (ret := (some .int)) (by decide) rfl ?_
  intro p e s m args below meth c s₁ B hml hex hv
  obtain ⟨rfl, hPZ⟩ := hv
  have hPX := hPZ.1
  have hx := B.exec
  have hb := B.bytes
  have hr := B.returns
  have hts := atoms_spec (ws := wsX4_apart) B.pre
  have hown : s.vm.findClass RX4 = some m.cls := findClass_of_methodNamed B.named
  have hlocks := B.notSynchronized
  have hX := WX.of hPX
  have hl := lv_entry ([.ref (ad 57), .int (nI j), .int x9]) (n := 4) (Nat.le_of_ble_eq_true rfl)
  rw [lg_entry_eq]
  generalize (lg_sl ([.ref (ad 57), .int (nI j), .int x9]) ++ List.replicate (4 - (lg_sl ([.ref (ad 57), .int (nI j), .int x9])).length) Slot.unset).toArray = ls at hl ⊢
  have hl : lv_has ls 4 [(0, .ref (ad 57)), (1, .int (nI j)), (2, .int x9)] := hl
  show W p l e ({ frames := 8, cells := 1, slots := 6, locals := 123 } : Room) s m ([.ref (ad 57), .int (nI j), .int x9]).toArray below meth c s.heap [] 0 0 (vx_MQ below (fun _ _ _ _ => False) (XQ dC dI ad S IX) ([.ref (ad 57), .int (nI j), .int x9]).toArray s 1 6 (fun _ => False)) (F0 m 0 ls [])
  refine lv_aload_n hx hb dX4_apart_0 rfl (lv_at hl 0 rfl) ?_
  refine lv_iload_n hx hb dX4_apart_1 rfl (lv_at hl 1 rfl) ?_
  refine va_csr (va_Run.run (va_runV (As := [.int (nI j)]) (rest := []) ⟨hx, hb, hml, hown, hts⟩ (m_X4_orderAt l dC dI ad S j (by omega)) (cwV 1 hts gX4_apart_X4_orderAt rfl rfl rfl hdX4_orderAt_1 ⟨Nat.le_of_ble_eq_true rfl, Nat.le_of_ble_eq_true rfl⟩) (hX.preTop 57 6 (by decide) (by decide) rfl rfl) rfl rfl hl.1 rfl (lv_room (Nat.le_of_ble_eq_true rfl)) dX4_apart_2 ⟨Nat.le_of_ble_eq_true rfl, Nat.le_of_ble_eq_true rfl⟩)) (fun k_ hk_ => ?_)
  rw [hk_]
  refine lv_astore_n (lv' := [(3, .ref (ad (24 + 5 * j))), (0, .ref (ad 57)), (1, .int (nI j)), (2, .int x9)]) hx hb dX4_apart_5 rfl hl (by decide) rfl (fun ls hl => ?_)
  refine lv_aload_n hx hb dX4_apart_6 rfl (lv_at hl 0 rfl) ?_
  refine lv_aload_n hx hb dX4_apart_7 rfl (lv_at hl 1 rfl) ?_
  refine lv_iload_n hx hb dX4_apart_8 rfl (lv_at hl 3 rfl) ?_
  exact kx_pass (vx_runV (As := [.int x9]) (rest := [.ref (ad (24 + 5 * j))]) ⟨hx, hb, hml, hown, hts⟩ (t_X4_orderAt l hst dC dI ad S x9 hb9) (cwV 1 hts gX4_apart_X4_orderAt rfl rfl rfl hdX4_orderAt_1 ⟨Nat.le_of_ble_eq_true rfl, Nat.le_of_ble_eq_true rfl⟩) (hPZ.preX) rfl rfl hl.1 rfl (lv_room (Nat.le_of_ble_eq_true rfl)) dX4_apart_9 ⟨Nat.le_of_ble_eq_true rfl, Nat.le_of_ble_eq_true rfl⟩) hPX hex hlocks
set_option maxHeartbeats 4000000 in
set_option maxRecDepth 100000 in
theorem t_X4_classes_1 (l : Launch) (hst : l.stackTraces = false) (dC : Nat → ClassId) (dI : Nat → Nat → Nat) (ad : Nat → Nat) (S : XS) (x9 : Int32) (hb9 : x9 < 0 ∨ nI 4 ≤ x9) : vx_Met l yX4_classes wsX4_classes ({ frames := 8, cells := 1, slots := 6, locals := 123 } : Room) (va_Pc [.ref (ad 57), .int x9] (PXZ dC dI ad S)) (fun _ _ _ _ => False) (XQ dC dI ad S IX) 1 6 (fun _ => False) := by
  refine vx_ofW (cc := cX4_classes) (maxL := 2) (ret := (some .int)) (by decide) rfl ?_
  intro p e s m args below meth c s₁ B hml hex hv
  obtain ⟨rfl, hPZ⟩ := hv
  have hPX := hPZ.1
  have hx := B.exec
  have hb := B.bytes
  have hr := B.returns
  have hts := atoms_spec (ws := wsX4_classes) B.pre
  have hown : s.vm.findClass RX4 = some m.cls := findClass_of_methodNamed B.named
  have hlocks := B.notSynchronized
  have hX := WX.of hPX
  have hl := lv_entry ([.ref (ad 57), .int x9]) (n := 2) (Nat.le_of_ble_eq_true rfl)
  rw [lg_entry_eq]
  generalize (lg_sl ([.ref (ad 57), .int x9]) ++ List.replicate (2 - (lg_sl ([.ref (ad 57), .int x9])).length) Slot.unset).toArray = ls at hl ⊢
  have hl : lv_has ls 2 [(0, .ref (ad 57)), (1, .int x9)] := hl
  show W p l e ({ frames := 8, cells := 1, slots := 6, locals := 123 } : Room) s m ([.ref (ad 57), .int x9]).toArray below meth c s.heap [] 0 0 (vx_MQ below (fun _ _ _ _ => False) (XQ dC dI ad S IX) ([.ref (ad 57), .int x9]).toArray s 1 6 (fun _ => False)) (F0 m 0 ls [])
  refine lv_aload_n hx hb dX4_classes_0 rfl (lv_at hl 0 rfl) ?_
  refine lv_iload_n hx hb dX4_classes_1 rfl (lv_at hl 1 rfl) ?_
  exact kx_pass (vx_runV (As := [.int x9]) (rest := []) ⟨hx, hb, hml, hown, hts⟩ (t_X4_orderAt l hst dC dI ad S x9 hb9) (cwV 1 hts gX4_classes_X4_orderAt rfl rfl rfl hdX4_orderAt_1 ⟨Nat.le_of_ble_eq_true rfl, Nat.le_of_ble_eq_true rfl⟩) (hPZ.preX) rfl rfl hl.1 rfl (lv_room (Nat.le_of_ble_eq_true rfl)) dX4_classes_2 ⟨Nat.le_of_ble_eq_true rfl, Nat.le_of_ble_eq_true rfl⟩) hPX hex hlocks
set_option maxHeartbeats 4000000 in
set_option maxRecDepth 100000 in
theorem t_X4_rank_1 (l : Launch) (hst : l.stackTraces = false) (dC : Nat → ClassId) (dI : Nat → Nat → Nat) (ad : Nat → Nat) (S : XS) (x9 : Int32) (y1 : Int32) (hb9 : x9 < 0 ∨ nI 4 ≤ x9) : vx_Met l yX4_rank wsX4_rank ({ frames := 8, cells := 1, slots := 6, locals := 123 } : Room) (va_Pc [.ref (ad 57), .int x9, .int y1] (PXZ dC dI ad S)) (fun _ _ _ _ => False) (XQ dC dI ad S IX) 1 6 (fun _ => False) := by
  refine vx_ofW (cc := cX4_rank) (maxL := 4) (ret := (some .int)) (by decide) rfl ?_
  intro p e s m args below meth c s₁ B hml hex hv
  obtain ⟨rfl, hPZ⟩ := hv
  have hPX := hPZ.1
  have hx := B.exec
  have hb := B.bytes
  have hr := B.returns
  have hts := atoms_spec (ws := wsX4_rank) B.pre
  have hown : s.vm.findClass RX4 = some m.cls := findClass_of_methodNamed B.named
  have hlocks := B.notSynchronized
  have hX := WX.of hPX
  have hl := lv_entry ([.ref (ad 57), .int x9, .int y1]) (n := 4) (Nat.le_of_ble_eq_true rfl)
  rw [lg_entry_eq]
  generalize (lg_sl ([.ref (ad 57), .int x9, .int y1]) ++ List.replicate (4 - (lg_sl ([.ref (ad 57), .int x9, .int y1])).length) Slot.unset).toArray = ls at hl ⊢
  have hl : lv_has ls 4 [(0, .ref (ad 57)), (1, .int x9), (2, .int y1)] := hl
  show W p l e ({ frames := 8, cells := 1, slots := 6, locals := 123 } : Room) s m ([.ref (ad 57), .int x9, .int y1]).toArray below meth c s.heap [] 0 0 (vx_MQ below (fun _ _ _ _ => False) (XQ dC dI ad S IX) ([.ref (ad 57), .int x9, .int y1]).toArray s 1 6 (fun _ => False)) (F0 m 0 ls [])
  refine lv_aload_n hx hb dX4_rank_0 rfl (lv_at hl 0 rfl) ?_
  refine lv_iload_n hx hb dX4_rank_1 rfl (lv_at hl 1 rfl) ?_
  exact kx_pass (vx_runV (As := [.int x9]) (rest := []) ⟨hx, hb, hml, hown, hts⟩ (t_X4_orderAt l hst dC dI ad S x9 hb9) (cwV 1 hts gX4_rank_X4_orderAt rfl rfl rfl hdX4_orderAt_1 ⟨Nat.le_of_ble_eq_true rfl, Nat.le_of_ble_eq_true rfl⟩) (hPZ.preX) rfl rfl hl.1 rfl (lv_room (Nat.le_of_ble_eq_true rfl)) dX4_rank_2 ⟨Nat.le_of_ble_eq_true rfl, Nat.le_of_ble_eq_true rfl⟩) hPX hex hlocks
set_option maxHeartbeats 4000000 in
set_option maxRecDepth 100000 in
theorem t_X4_rank_2 (l : Launch) (hst : l.stackTraces = false) (dC : Nat → ClassId) (dI : Nat → Nat → Nat) (ad : Nat → Nat) (S : XS) (j : Nat) (x9 : Int32) (hj : j < 4) (hb9 : x9 < 0 ∨ nI 15 < x9) : vx_Met l yX4_rank wsX4_rank ({ frames := 8, cells := 1, slots := 6, locals := 123 } : Room) (va_Pc [.ref (ad 57), .int (nI j), .int x9] (PXZ dC dI ad S)) (fun _ _ _ _ => False) (XQ dC dI ad S IA) 1 6 (fun _ => False) := by
  refine vx_ofW (cc := cX4_rank) (maxL := 4) (ret := (some .int)) (by decide) rfl ?_
  intro p e s m args below meth c s₁ B hml hex hv
  obtain ⟨rfl, hPZ⟩ := hv
  have hPX := hPZ.1
  have hx := B.exec
  have hb := B.bytes
  have hr := B.returns
  have hts := atoms_spec (ws := wsX4_rank) B.pre
  have hown : s.vm.findClass RX4 = some m.cls := findClass_of_methodNamed B.named
  have hlocks := B.notSynchronized
  have hX := WX.of hPX
  have hl := lv_entry ([.ref (ad 57), .int (nI j), .int x9]) (n := 4) (Nat.le_of_ble_eq_true rfl)
  rw [lg_entry_eq]
  generalize (lg_sl ([.ref (ad 57), .int (nI j), .int x9]) ++ List.replicate (4 - (lg_sl ([.ref (ad 57), .int (nI j), .int x9])).length) Slot.unset).toArray = ls at hl ⊢
  have hl : lv_has ls 4 [(0, .ref (ad 57)), (1, .int (nI j)), (2, .int x9)] := hl
  show W p l e ({ frames := 8, cells := 1, slots := 6, locals := 123 } : Room) s m ([.ref (ad 57), .int (nI j), .int x9]).toArray below meth c s.heap [] 0 0 (vx_MQ below (fun _ _ _ _ => False) (XQ dC dI ad S IA) ([.ref (ad 57), .int (nI j), .int x9]).toArray s 1 6 (fun _ => False)) (F0 m 0 ls [])
  refine lv_aload_n hx hb dX4_rank_0 rfl (lv_at hl 0 rfl) ?_
  refine lv_iload_n hx hb dX4_rank_1 rfl (lv_at hl 1 rfl) ?_
  refine va_csr (va_Run.run (va_runV (As := [.int (nI j)]) (rest := []) ⟨hx, hb, hml, hown, hts⟩ (m_X4_orderAt l dC dI ad S j (by omega)) (cwV 1 hts gX4_rank_X4_orderAt rfl rfl rfl hdX4_orderAt_1 ⟨Nat.le_of_ble_eq_true rfl, Nat.le_of_ble_eq_true rfl⟩) (hX.preTop 57 6 (by decide) (by decide) rfl rfl) rfl rfl hl.1 rfl (lv_room (Nat.le_of_ble_eq_true rfl)) dX4_rank_2 ⟨Nat.le_of_ble_eq_true rfl, Nat.le_of_ble_eq_true rfl⟩)) (fun k_ hk_ => ?_)
  rw [hk_]
  refine lv_astore_n (lv' := [(3, .ref (ad (24 + 5 * j))), (0, .ref (ad 57)), (1, .int (nI j)), (2, .int x9)]) hx hb dX4_rank_5 rfl hl (by decide) rfl (fun ls hl => ?_)
  refine lv_iload_n hx hb dX4_rank_6 rfl (lv_at hl 3 rfl) ?_
  exact kx_pass (vx_runS (As := [.int x9]) (rest := []) ⟨hx, hb, hml, hown, hts⟩ (t_X4_demandValue l hst dC dI ad S x9 hb9) (va_cwS 1 hts gX4_rank_X4_demandValue rfl rfl rfl hdX4_demandValue_1.2 ⟨Nat.le_of_ble_eq_true rfl, Nat.le_of_ble_eq_true rfl⟩) hPZ.preS rfl rfl hl.1 rfl (lv_room (Nat.le_of_ble_eq_true rfl)) dX4_rank_7 ⟨Nat.le_of_ble_eq_true rfl, Nat.le_of_ble_eq_true rfl⟩) hPX hex hlocks
set_option maxHeartbeats 4000000 in
set_option maxRecDepth 100000 in
theorem t_X4_keyOf_1 (l : Launch) (hst : l.stackTraces = false) (dC : Nat → ClassId) (dI : Nat → Nat → Nat) (ad : Nat → Nat) (S : XS) (x9 : Int32) (y1 : Int32) (hb9 : x9 < 0 ∨ nI 7 < x9) : vx_Met l yX4_keyOf wsX4_keyOf ({ frames := 8, cells := 1, slots := 6, locals := 123 } : Room) (va_Pc [.ref (ad 57), .int x9, .int y1] (PXZ dC dI ad S)) (fun _ _ _ _ => False) (XQ dC dI ad S IA) 1 6 (fun _ => False) := by
  refine vx_ofW (cc := cX4_keyOf) (maxL := 3) (ret := (some .int)) (by decide) rfl ?_
  intro p e s m args below meth c s₁ B hml hex hv
  obtain ⟨rfl, hPZ⟩ := hv
  have hPX := hPZ.1
  have hx := B.exec
  have hb := B.bytes
  have hr := B.returns
  have hts := atoms_spec (ws := wsX4_keyOf) B.pre
  have hown : s.vm.findClass RX4 = some m.cls := findClass_of_methodNamed B.named
  have hlocks := B.notSynchronized
  have hX := WX.of hPX
  have hl := lv_entry ([.ref (ad 57), .int x9, .int y1]) (n := 3) (Nat.le_of_ble_eq_true rfl)
  rw [lg_entry_eq]
  generalize (lg_sl ([.ref (ad 57), .int x9, .int y1]) ++ List.replicate (3 - (lg_sl ([.ref (ad 57), .int x9, .int y1])).length) Slot.unset).toArray = ls at hl ⊢
  have hl : lv_has ls 3 [(0, .ref (ad 57)), (1, .int x9), (2, .int y1)] := hl
  show W p l e ({ frames := 8, cells := 1, slots := 6, locals := 123 } : Room) s m ([.ref (ad 57), .int x9, .int y1]).toArray below meth c s.heap [] 0 0 (vx_MQ below (fun _ _ _ _ => False) (XQ dC dI ad S IA) ([.ref (ad 57), .int x9, .int y1]).toArray s 1 6 (fun _ => False)) (F0 m 0 ls [])
  refine lv_iload_n hx hb dX4_keyOf_0 rfl (lv_at hl 1 rfl) ?_
  refine lv_bipush (v := nI 7) hx hb dX4_keyOf_1 (by decide) ?_
  exact kx_pass (vx_runS (As := [.int x9, .int (nI 7)]) (rest := []) ⟨hx, hb, hml, hown, hts⟩ (t_X4_demandWithin l hst dC dI ad S x9 7 (by omega) hb9) (va_cwS 2 hts gX4_keyOf_X4_demandWithin rfl rfl rfl hdX4_demandWithin_2.2 ⟨Nat.le_of_ble_eq_true rfl, Nat.le_of_ble_eq_true rfl⟩) hPZ.preS rfl rfl hl.1 rfl (lv_room (Nat.le_of_ble_eq_true rfl)) dX4_keyOf_3 ⟨Nat.le_of_ble_eq_true rfl, Nat.le_of_ble_eq_true rfl⟩) hPX hex hlocks
set_option maxHeartbeats 4000000 in
set_option maxRecDepth 100000 in
theorem t_X4_keyOf_2 (l : Launch) (hst : l.stackTraces = false) (dC : Nat → ClassId) (dI : Nat → Nat → Nat) (ad : Nat → Nat) (S : XS) (k : Nat) (x9 : Int32) (hk : k ≤ 7) (hb9 : x9 < 0 ∨ nI 15 < x9) : vx_Met l yX4_keyOf wsX4_keyOf ({ frames := 8, cells := 1, slots := 6, locals := 123 } : Room) (va_Pc [.ref (ad 57), .int (nI k), .int x9] (PXZ dC dI ad S)) (fun _ _ _ _ => False) (XQ dC dI ad S IA) 1 6 (fun _ => False) := by
  refine vx_ofW (cc := cX4_keyOf) (maxL := 3) (ret := (some .int)) (by decide) rfl ?_
  intro p e s m args below meth c s₁ B hml hex hv
  obtain ⟨rfl, hPZ⟩ := hv
  have hPX := hPZ.1
  have hx := B.exec
  have hb := B.bytes
  have hr := B.returns
  have hts := atoms_spec (ws := wsX4_keyOf) B.pre
  have hown : s.vm.findClass RX4 = some m.cls := findClass_of_methodNamed B.named
  have hlocks := B.notSynchronized
  have hX := WX.of hPX
  have hl := lv_entry ([.ref (ad 57), .int (nI k), .int x9]) (n := 3) (Nat.le_of_ble_eq_true rfl)
  rw [lg_entry_eq]
  generalize (lg_sl ([.ref (ad 57), .int (nI k), .int x9]) ++ List.replicate (3 - (lg_sl ([.ref (ad 57), .int (nI k), .int x9])).length) Slot.unset).toArray = ls at hl ⊢
  have hl : lv_has ls 3 [(0, .ref (ad 57)), (1, .int (nI k)), (2, .int x9)] := hl
  show W p l e ({ frames := 8, cells := 1, slots := 6, locals := 123 } : Room) s m ([.ref (ad 57), .int (nI k), .int x9]).toArray below meth c s.heap [] 0 0 (vx_MQ below (fun _ _ _ _ => False) (XQ dC dI ad S IA) ([.ref (ad 57), .int (nI k), .int x9]).toArray s 1 6 (fun _ => False)) (F0 m 0 ls [])
  refine lv_iload_n hx hb dX4_keyOf_0 rfl (lv_at hl 1 rfl) ?_
  refine lv_bipush (v := nI 7) hx hb dX4_keyOf_1 (by decide) ?_
  refine va_csv (va_Run.run (va_runS (As := [.int (nI k), .int (nI 7)]) (rest := []) ⟨hx, hb, hml, hown, hts⟩ (m_X4_demandWithin l dC dI ad S k 7 (by omega) (by omega)) (va_cwS 2 hts gX4_keyOf_X4_demandWithin rfl rfl rfl hdX4_demandWithin_2.2 ⟨Nat.le_of_ble_eq_true rfl, Nat.le_of_ble_eq_true rfl⟩) hX.preS rfl rfl hl.1 rfl (lv_room (Nat.le_of_ble_eq_true rfl)) dX4_keyOf_3 ⟨Nat.le_of_ble_eq_true rfl, Nat.le_of_ble_eq_true rfl⟩)) (fun _ => ?_)
  refine lv_iload_n hx hb dX4_keyOf_6 rfl (lv_at hl 2 rfl) ?_
  exact kx_pass (vx_runS (As := [.int x9]) (rest := []) ⟨hx, hb, hml, hown, hts⟩ (t_X4_demandValue l hst dC dI ad S x9 hb9) (va_cwS 1 hts gX4_keyOf_X4_demandValue rfl rfl rfl hdX4_demandValue_1.2 ⟨Nat.le_of_ble_eq_true rfl, Nat.le_of_ble_eq_true rfl⟩) hPZ.preS rfl rfl hl.1 rfl (lv_room (Nat.le_of_ble_eq_true rfl)) dX4_keyOf_7 ⟨Nat.le_of_ble_eq_true rfl, Nat.le_of_ble_eq_true rfl⟩) hPX hex hlocks
set_option maxHeartbeats 4000000 in
set_option maxRecDepth 100000 in
theorem t_X4_house_1 (l : Launch) (hst : l.stackTraces = false) (dC : Nat → ClassId) (dI : Nat → Nat → Nat) (ad : Nat → Nat) (S : XS) (x9 : Int32) (hb9 : x9 < 0 ∨ nI 4 < x9) : vx_Met l yX4_house wsX4_house ({ frames := 8, cells := 1, slots := 6, locals := 123 } : Room) (va_Pc [.ref (ad 57), .int x9] (PXZ dC dI ad S)) (fun _ _ _ _ => False) (XQ dC dI ad S IA) 1 6 (fun _ => False) := by
  refine vx_ofW (cc := cX4_house) (maxL := 2) (ret := (some .int)) (by decide) rfl ?_
  intro p e s m args below meth c s₁ B hml hex hv
  obtain ⟨rfl, hPZ⟩ := hv
  have hPX := hPZ.1
  have hx := B.exec
  have hb := B.bytes
  have hr := B.returns
  have hts := atoms_spec (ws := wsX4_house) B.pre
  have hown : s.vm.findClass RX4 = some m.cls := findClass_of_methodNamed B.named
  have hlocks := B.notSynchronized
  have hX := WX.of hPX
  have hl := lv_entry ([.ref (ad 57), .int x9]) (n := 2) (Nat.le_of_ble_eq_true rfl)
  rw [lg_entry_eq]
  generalize (lg_sl ([.ref (ad 57), .int x9]) ++ List.replicate (2 - (lg_sl ([.ref (ad 57), .int x9])).length) Slot.unset).toArray = ls at hl ⊢
  have hl : lv_has ls 2 [(0, .ref (ad 57)), (1, .int x9)] := hl
  show W p l e ({ frames := 8, cells := 1, slots := 6, locals := 123 } : Room) s m ([.ref (ad 57), .int x9]).toArray below meth c s.heap [] 0 0 (vx_MQ below (fun _ _ _ _ => False) (XQ dC dI ad S IA) ([.ref (ad 57), .int x9]).toArray s 1 6 (fun _ => False)) (F0 m 0 ls [])
  refine lv_iload_n hx hb dX4_house_0 rfl (lv_at hl 1 rfl) ?_
  refine lv_iconst (v := nI 4) hx hb dX4_house_1 (by decide) ?_
  exact kx_pass (vx_runS (As := [.int x9, .int (nI 4)]) (rest := []) ⟨hx, hb, hml, hown, hts⟩ (t_X4_demandWithin l hst dC dI ad S x9 4 (by omega) hb9) (va_cwS 2 hts gX4_house_X4_demandWithin rfl rfl rfl hdX4_demandWithin_2.2 ⟨Nat.le_of_ble_eq_true rfl, Nat.le_of_ble_eq_true rfl⟩) hPZ.preS rfl rfl hl.1 rfl (lv_room (Nat.le_of_ble_eq_true rfl)) dX4_house_2 ⟨Nat.le_of_ble_eq_true rfl, Nat.le_of_ble_eq_true rfl⟩) hPX hex hlocks
set_option maxHeartbeats 4000000 in
set_option maxRecDepth 100000 in
theorem t_X4_sortPart_5 (l : Launch) (hst : l.stackTraces = false) (dC : Nat → ClassId) (dI : Nat → Nat → Nat) (ad : Nat → Nat) (S : XS) (i : Nat) (j : Nat) (q : Nat) (q2 : Nat) (hi : i < 3) (hj : j < 4) (hq : q ≤ (S.1 i).2.2) (hq2 : q2 ≤ (S.1 i).2.2) (hn : (S.1 i).2.2 ≤ 16) (hlt : q2 < q) : vx_Met l yX4_sortPart wsX4_sortPart ({ frames := 8, cells := 1, slots := 6, locals := 123 } : Room) (va_Pc [.ref (ad 57), .int (nI i), .int (nI j), .int (nI q), .int (nI q2)] (PXZ dC dI ad S)) (fun _ _ _ _ => False) (XQ dC dI ad S IA) 1 6 (fun _ => False) := by
  refine vx_ofW (cc := cX4_sortPart) (maxL := 7) (ret := (some .int)) (by decide) rfl ?_
  intro p e s m args below meth c s₁ B hml hex hv
  obtain ⟨rfl, hPZ⟩ := hv
  have hPX := hPZ.1
  have hx := B.exec
  have hb := B.bytes
  have hr := B.returns
  have hts := atoms_spec (ws := wsX4_sortPart) B.pre
  have hown : s.vm.findClass RX4 = some m.cls := findClass_of_methodNamed B.named
  have hlocks := B.notSynchronized
  have hin4 : ∀ w ∈ u_ws RX4 TX4 9, w ∈ wsX4_sortPart := tu 1328 (by decide +kernel) rfl
  have hat_in : ∀ w ∈ (vx_atS RX4 140 IA xNames).filter goodWord, w ∈ wsX4_sortPart := by decide +kernel
  have hX := WX.of hPX
  have hl := lv_entry ([.ref (ad 57), .int (nI i), .int (nI j), .int (nI q), .int (nI q2)]) (n := 7) (Nat.le_of_ble_eq_true rfl)
  rw [lg_entry_eq]
  generalize (lg_sl ([.ref (ad 57), .int (nI i), .int (nI j), .int (nI q), .int (nI q2)]) ++ List.replicate (7 - (lg_sl ([.ref (ad 57), .int (nI i), .int (nI j), .int (nI q), .int (nI q2)])).length) Slot.unset).toArray = ls at hl ⊢
  have hl : lv_has ls 7 [(0, .ref (ad 57)), (1, .int (nI i)), (2, .int (nI j)), (3, .int (nI q)), (4, .int (nI q2))] := hl
  show W p l e ({ frames := 8, cells := 1, slots := 6, locals := 123 } : Room) s m ([.ref (ad 57), .int (nI i), .int (nI j), .int (nI q), .int (nI q2)]).toArray below meth c s.heap [] 0 0 (vx_MQ below (fun _ _ _ _ => False) (XQ dC dI ad S IA) ([.ref (ad 57), .int (nI i), .int (nI j), .int (nI q), .int (nI q2)]).toArray s 1 6 (fun _ => False)) (F0 m 0 ls [])
  refine lv_aload_n hx hb dX4_sortPart_0 rfl (lv_at hl 0 rfl) ?_
  refine lv_iload_n hx hb dX4_sortPart_1 rfl (lv_at hl 1 rfl) ?_
  refine va_csr (va_Run.run (va_runV (As := [.int (nI i)]) (rest := []) ⟨hx, hb, hml, hown, hts⟩ (m_X4_rowAt l dC dI ad S i (by omega)) (cwV 1 hts gX4_sortPart_X4_rowAt rfl rfl rfl hdX4_rowAt_1 ⟨Nat.le_of_ble_eq_true rfl, Nat.le_of_ble_eq_true rfl⟩) (hX.preTop 57 6 (by decide) (by decide) rfl rfl) rfl rfl hl.1 rfl (lv_room (Nat.le_of_ble_eq_true rfl)) dX4_sortPart_2 ⟨Nat.le_of_ble_eq_true rfl, Nat.le_of_ble_eq_true rfl⟩)) (fun k_ hk_ => ?_)
  rw [hk_]
  refine lv_astore (lv' := [(5, .ref (ad (3 * i))), (0, .ref (ad 57)), (1, .int (nI i)), (2, .int (nI j)), (3, .int (nI q)), (4, .int (nI q2))]) hx hb dX4_sortPart_5 hl (by decide) rfl (fun ls hl => ?_)
  refine lv_aload_n hx hb dX4_sortPart_7 rfl (lv_at hl 1 rfl) ?_
  refine lv_iload_n hx hb dX4_sortPart_8 rfl (lv_at hl 3 rfl) ?_
  refine va_csr (va_Run.run (va_runV (As := [.int (nI j)]) (rest := []) ⟨hx, hb, hml, hown, hts⟩ (m_X4_orderAt l dC dI ad S j (by omega)) (cwV 1 hts gX4_sortPart_X4_orderAt rfl rfl rfl hdX4_orderAt_1 ⟨Nat.le_of_ble_eq_true rfl, Nat.le_of_ble_eq_true rfl⟩) (hX.preTop 57 6 (by decide) (by decide) rfl rfl) rfl rfl hl.1 rfl (lv_room (Nat.le_of_ble_eq_true rfl)) dX4_sortPart_9 ⟨Nat.le_of_ble_eq_true rfl, Nat.le_of_ble_eq_true rfl⟩)) (fun k_ hk_ => ?_)
  rw [hk_]
  refine lv_astore (lv' := [(6, .ref (ad (24 + 5 * j))), (5, .ref (ad (3 * i))), (0, .ref (ad 57)), (1, .int (nI i)), (2, .int (nI j)), (3, .int (nI q)), (4, .int (nI q2))]) hx hb dX4_sortPart_12 hl (by decide) rfl (fun ls hl => ?_)
  refine lv_aload hx hb dX4_sortPart_14 (lv_at hl 1 rfl) ?_
  refine lv_iload_n hx hb dX4_sortPart_16 rfl (lv_at hl 5 rfl) ?_
  refine va_csv (va_Run.run (va_runS (As := [.ref (ad (3 * i)), .int (nI q)]) (rest := []) ⟨hx, hb, hml, hown, hts⟩ (m_X4_demandGap l dC dI ad S i q (by omega) (by omega) (by omega)) (va_cwS 2 hts gX4_sortPart_X4_demandGap rfl rfl rfl hdX4_demandGap_2.2 ⟨Nat.le_of_ble_eq_true rfl, Nat.le_of_ble_eq_true rfl⟩) hX.preS rfl rfl hl.1 rfl (lv_room (Nat.le_of_ble_eq_true rfl)) dX4_sortPart_17 ⟨Nat.le_of_ble_eq_true rfl, Nat.le_of_ble_eq_true rfl⟩)) (fun _ => ?_)
  refine lv_aload hx hb dX4_sortPart_20 (lv_at hl 1 rfl) ?_
  refine lv_iload hx hb dX4_sortPart_22 (lv_at hl 6 rfl) ?_
  refine va_csv (va_Run.run (va_runS (As := [.ref (ad (3 * i)), .int (nI q2)]) (rest := []) ⟨hx, hb, hml, hown, hts⟩ (m_X4_demandGap l dC dI ad S i q2 (by omega) (by omega) (by omega)) (va_cwS 2 hts gX4_sortPart_X4_demandGap rfl rfl rfl hdX4_demandGap_2.2 ⟨Nat.le_of_ble_eq_true rfl, Nat.le_of_ble_eq_true rfl⟩) hX.preS rfl rfl hl.1 rfl (lv_room (Nat.le_of_ble_eq_true rfl)) dX4_sortPart_24 ⟨Nat.le_of_ble_eq_true rfl, Nat.le_of_ble_eq_true rfl⟩)) (fun _ => ?_)
  refine lv_iload_n hx hb dX4_sortPart_27 rfl (lv_at hl 5 rfl) ?_
  refine lv_iload hx hb dX4_sortPart_28 (lv_at hl 6 rfl) ?_
  refine kn_icmp_le (tgt := 43) hx hb (by omega) (by omega) dX4_sortPart_30 (by decide) (fun k_1 => absurd k_1 (by omega)) (fun k_1 => ?_)
  exact kx_throw1 hx hb hst hown xFitA xFitN (hts (.classLink RX4 136 IA) (tm 485 (by decide +kernel) rfl)) (hts (.initialized IA) (tm 486 (by decide +kernel) rfl)) (hPZ.2.1.2.2 (138, "from is above to") (by decide)) (vx_hat (fun w hw => hts w (hat_in w hw)) xBadA_ok hPZ.2.1.badA) xGoodA hPZ.2.2 hPX (by rw [hml]; exact hl.1) dX4_sortPart_33 dX4_sortPart_36 dX4_sortPart_37 dX4_sortPart_39 dX4_sortPart_42 hex (by decide) (by decide) (by decide) (by decide) hlocks
end
