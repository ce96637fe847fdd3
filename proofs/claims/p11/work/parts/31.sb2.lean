/-! texts: a StringBuilder and its bytes -/
def eSB (b n : Nat) : va_E := .inr (1, [.ref b, .int (nI 0), .int (nI 0), .int (nI n)])
def eBy (cB : ClassId) (m : Nat) (f : Nat → Int32) : va_E := .inl (cB, m, .inl f)
def zB (z q : Nat) : Prop := z ≤ q
def ZBA (A : Nat → Prop) (U : State) (H : Heap) : Prop := va_Z "java/lang/String" "COMPACT_STRINGS" "Z" (.int (nI 1)) A U H ∧ (∃ (t : Nat) (g : Nat → Int32), va_Z "java/lang/Integer" "DigitOnes" "[B" (.ref t) A U H ∧ va_T .byte t 100 (fun j => .int (g j)) A U H) ∧ (∃ (t : Nat) (g : Nat → Int32), va_Z "java/lang/Integer" "DigitTens" "[B" (.ref t) A U H ∧ va_T .byte t 100 (fun j => .int (g j)) A U H) ∧ va_Nw (.castable "[B" "java/lang/Cloneable") U
abbrev ZB (z : Nat) (U : State) (H : Heap) : Prop := ZBA (zB z) U H
theorem ZBA.kept {A : Nat → Prop} {U : State} {H H1 : Heap} (h : ZBA A U H) (hq : ∀ a : Nat, a < H.size → ¬ A a → H1[a]? = H[a]?) : ZBA A U H1 := by
  obtain ⟨h1, ⟨t, g, h2, h3⟩, ⟨t', g', h4, h5⟩, h6⟩ := h
  exact ⟨h1.kept hq, ⟨t, g, h2.kept hq, h3.kept hq⟩, ⟨t', g', h4.kept hq, h5.kept hq⟩, h6⟩
theorem ZBA.warm {A : Nat → Prop} {s U : State} {H : Heap} (hW : s.WarmedH U.vm) (h : ZBA A s H) : ZBA A U H := by
  obtain ⟨h1, ⟨t, g, h2, h3⟩, ⟨t', g', h4, h5⟩, h6⟩ := h
  exact ⟨h1.moved hW.alike, ⟨t, g, h2.moved hW.alike, h3.moved hW.alike⟩, ⟨t', g', h4.moved hW.alike, h5.moved hW.alike⟩, va_Nw.warmC hW h6⟩
theorem ZBA.same {A : Nat → Prop} {s U : State} {H : Heap} (hv : s.vm = U.vm) (h : ZBA A s H) : ZBA A U H := by
  have e : s.vm.Alike U.vm := by rw [hv]; exact Vm.Alike.refl _
  obtain ⟨h1, ⟨t, g, h2, h3⟩, ⟨t', g', h4, h5⟩, h6⟩ := h
  exact ⟨h1.moved e, ⟨t, g, h2.moved e, h3.moved e⟩, ⟨t', g', h4.moved e, h5.moved e⟩, va_Nw.same rfl hv h6⟩
theorem ZBA.narrow {A A' : Nat → Prop} {U : State} {H : Heap} (hn : ∀ q, A' q → A q) (h : ZBA A U H) : ZBA A' U H := by
  obtain ⟨h1, ⟨t, g, h2, h3⟩, ⟨t', g', h4, h5⟩, h6⟩ := h
  exact ⟨h1.narrow hn, ⟨t, g, h2.narrow hn, h3.narrow hn⟩, ⟨t', g', h4.narrow hn, h5.narrow hn⟩, h6⟩
/-- the contract side: a world of its own from address z on -/
def PB (dC : Nat → ClassId) (dI : Nat → Nat → Nat) (cB : ClassId) (z : Nat) (W : va_W) (U : State) : Prop := va_P (dC, dI) vwCl W U.heap ∧ va_K (dC, dI) vwCl [(cB, .byte)] U ∧ va_D (zB z) W ∧ z ≤ U.heap.size ∧ ZB z U U.heap
/-- the walking side -/
def WB (dC : Nat → ClassId) (dI : Nat → Nat → Nat) (cB : ClassId) (z : Nat) (W : va_W) (s : State) (H : Heap) (locs : List Loc) : Prop := va_P (dC, dI) vwCl W H ∧ va_K (dC, dI) vwCl [(cB, .byte)] s ∧ va_D (zB z) W ∧ va_S (zB z) s.heap H locs ∧ z ≤ s.heap.size ∧ ZB z s s.heap
section KB
variable {dC : Nat → ClassId} {dI : Nat → Nat → Nat} {cB : ClassId} {z : Nat} {W : va_W} {s : State} {H : Heap} {locs : List Loc}
theorem WB.of (h : PB dC dI cB z W s) : WB dC dI cB z W s s.heap [] := ⟨h.1, h.2.1, h.2.2.1, va_S.rf, h.2.2.2.1, h.2.2.2.2⟩
theorem WB.P {U : State} (h : WB dC dI cB z W s H locs) (hU : U.heap = H) (hW : s.WarmedH U.vm) : PB dC dI cB z W U := by
  refine ⟨by rw [hU]; exact h.1, va_K.moved hW.alike h.2.1, h.2.2.1, ?_, ?_⟩
  · rw [hU]; exact Nat.le_trans h.2.2.2.2.1 h.2.2.2.1.1
  · rw [hU]; exact (h.2.2.2.2.2.kept h.2.2.2.1.2.1).warm hW
theorem WB.F {t : State} (h : WB dC dI cB z W s H locs) (ht : t.heap = H) : va_F (zB z) s t := h.2.2.2.1.F ht
theorem WB.L (h : WB dC dI cB z W s H locs) : ∀ q ∈ locs, zB z q.base := h.2.2.2.1.2.2
theorem PB.call {U : State} {g : JFrame} {mk : MethodId} {a : Array Value} (h : PB dC dI cB z W U) : PB dC dI cB z W (U.calling g mk a) := ⟨h.1, va_K.moved (u := U) (U := U.calling g mk a) (Vm.Alike.refl U.vm) h.2.1, h.2.2.1, h.2.2.2.1, ZBA.same (s := U) (U := U.calling g mk a) rfl h.2.2.2.2⟩
theorem PB.blind {av : List Value} : FrameBlind (va_Pc av (PB dC dI cB z W)) := fun _ _ _ _ h => ⟨h.1, h.2.call⟩
theorem WB.preV {a : Nat} {fs : List Value} {ci : Nat} {q : vw_C} {As : List Value} (h : WB dC dI cB z W s H locs) (hc : vwCl[ci]? = some q) (k : Nat) (he : W[k]? = some (a, .inr (ci, fs))) : PreV s H q.1 a (va_Pc (Value.ref a :: As) (PB dC dI cB z W)) As :=
  ⟨PB.blind, va_recv h.2.1 h.1 (ci := ci) (q0 := k) hc he, fun _ hU hW => ⟨rfl, h.P hU hW⟩⟩
theorem WB.preS {As : List Value} (h : WB dC dI cB z W s H locs) : PreS s H (va_Pc As (PB dC dI cB z W)) As := ⟨PB.blind, fun _ hU hW => ⟨rfl, h.P hU hW⟩⟩
theorem WB.to {W' : va_W} {H1 : Heap} {locs1 : List Loc} (h : WB dC dI cB z W s H locs) (h1 : va_P (dC, dI) vwCl W' H1) (h2 : va_D (zB z) W') (h3 : va_S (zB z) s.heap H1 locs1) : WB dC dI cB z W' s H1 locs1 := ⟨h1, h.2.1, h2, h3, h.2.2.2.2.1, h.2.2.2.2.2⟩
theorem WB.back {W' : va_W} {t : State} {H1 : Heap} {locs1 : List Loc} (h : WB dC dI cB z W s H locs) (ht : t.heap = H1) (hvm : s.vm.Alike t.vm) (hB : PB dC dI cB z W' t) (hS : va_S (zB z) s.heap H1 locs1) : WB dC dI cB z W' s H1 locs1 := ⟨by rw [← ht]; exact hB.1, h.2.1, hB.2.2.1, hS, h.2.2.2.2.1, h.2.2.2.2.2⟩
end KB
theorem fit_nar (x : Int32) : fits .byte (.int (vp_nar .byte x)) = true := by rw [vp_nar_byte]; exact pk_fb x
section KB2
variable {p : Program} {l : Launch} {e : Env} {R : Room} {s : State} {m : MethodId} {args : Array Value} {below : List Frame} {meth : Method} {c : Code} {H : Heap} {locs : List Loc} {cells slots : Nat} {Q : State → Prop}
variable {cc : ByteArray} {pc : Nat} {ls : Array Slot} {rest st0 : List Value} {dC : Nat → ClassId} {dI : Nat → Nat → Nat} {cB : ClassId} {z : Nat} {G : va_W} {Ts : List Cond} {index a b n k : Nat} {own : String} {mc ms : Nat} {av : Array Value}
theorem kb_put (hx : p.tables.exec = Jvm.exec) (hb : c.code = cc) (hts : ∀ w ∈ Ts, w.before args s = true) (hin : ∀ w ∈ u_ws RJ4 TJ4 4, w ∈ Ts) (hown : s.vm.findClass own = some m.cls) (hB : WB dC dI cB z G s H locs) (q0 : Nat) {fs : List Value} (he : G[q0]? = some (a, .inr (1, fs))) (k : Nat) (hk : k < 4) {ref : String} (hlink : (Cond.fieldLink own index ref (TJ4 k).2.1 (TJ4 k).2.2.1).before args s = true) (hsame : ∀ x, s.fieldFound? (TJ4 k).1 (TJ4 k).2.1 (TJ4 k).2.2.1 = some x → s.fieldFound? ref (TJ4 k).2.1 (TJ4 k).2.2.1 = some x) (hfin : (TJ4 k).2.2.2 = false) {ty : FieldType} {v : Value} (hd : parseFieldDescriptor (TJ4 k).2.2.1 = some ty) (hn : narrow ty v = v) (hfit : fits ty v = true) (hl : k < fs.length) (hdg : decode cc pc = .ok (.putfield index, 3))
    (kk : ∀ (H1 : Heap) (locs1 : List Loc), WB dC dI cB z (G.set q0 (a, .inr (1, fs.set k v))) s H1 locs1 → W p l e R s m args below meth c H1 locs1 cells slots Q (F0 m (pc + 3) ls rest)) : W p l e R s m args below meth c H locs cells slots Q (F0 m pc ls (v :: .ref a :: rest)) :=
  va_put (D := (dC, dI)) (ci := 1) (C := RJ4) (T := TJ4) (N := 4) hx hb hts hin tyJ4 tyJ4_ok nmJ4 hown hB.2.1 hB.1 hB.2.2.1 hB.2.2.2.1 q0 he rfl k hk hlink hsame hfin hd hn hfit hl hdg (fun H1 locs1 h1 h2 h3 => kk H1 locs1 (hB.to h1 h2 h3))
theorem kb_pstr (hx : p.tables.exec = Jvm.exec) (hb : c.code = cc) (hts : ∀ w ∈ Ts, w.before args s = true) (hin : ∀ w ∈ u_ws RJ0 TJ0 4, w ∈ Ts) (hown : s.vm.findClass RJ0 = some m.cls) (hB : WB dC dI cB z G s H locs) (q0 : Nat) {fs : List Value} (he : G[q0]? = some (a, .inr (0, fs))) (k : Nat) (hk : k < 4) (hlink : (Cond.fieldLink RJ0 index RJ0 (TJ0 k).2.1 (TJ0 k).2.2.1).before args s = true) (hsame : ∀ x, s.fieldFound? (TJ0 k).1 (TJ0 k).2.1 (TJ0 k).2.2.1 = some x → s.fieldFound? RJ0 (TJ0 k).2.1 (TJ0 k).2.2.1 = some x) (hfin : (TJ0 k).2.2.2 = true) (hin2 : meth.name = "<init>") (hdecl : (TJ0 k).1 = RJ0) {ty : FieldType} {v : Value} (hd : parseFieldDescriptor (TJ0 k).2.2.1 = some ty) (hn : narrow ty v = v) (hfit : fits ty v = true) (hl : k < fs.length) (hdg : decode cc pc = .ok (.putfield index, 3))
    (kk : ∀ (H1 : Heap) (locs1 : List Loc), WB dC dI cB z (G.set q0 (a, .inr (0, fs.set k v))) s H1 locs1 → W p l e R s m args below meth c H1 locs1 cells slots Q (F0 m (pc + 3) ls rest)) : W p l e R s m args below meth c H locs cells slots Q (F0 m pc ls (v :: .ref a :: rest)) :=
  va_putF (D := (dC, dI)) (ci := 0) (C := RJ0) (T := TJ0) (N := 4) hx hb hts hin tyJ0 tyJ0_ok nmJ0 hown hB.2.1 hB.1 hB.2.2.1 hB.2.2.2.1 q0 he rfl k hk hlink hsame hfin hin2 hdecl hd hn hfit hl hdg (fun H1 locs1 h1 h2 h3 => kk H1 locs1 (hB.to h1 h2 h3))
theorem kb_new (hx : p.tables.exec = Jvm.exec) (hb : c.code = cc) (harr : (Cond.arrayClass .byte).before args s = true) (hB : WB dC dI cB z G s H locs) (hn : n ≤ 65536) (hcells : cells + 1 ≤ R.cells) (hslots : slots + n ≤ R.slots) (hdg : decode cc pc = .ok (.newarray .byte, 2))
    (kk : ∀ (q : Nat) (H1 : Heap), WB dC dI cB z (G ++ [(q, eBy cB n (fun _ => 0))]) s H1 locs → W p l e R s m args below meth c H1 locs (cells + 1) (slots + n) Q (F0 m (pc + 2) ls (.ref q :: rest))) : W p l e R s m args below meth c H locs cells slots Q (F0 m pc ls (.int (nI n) :: rest)) := by
  refine va_newa (atype := .byte) (ty := .byte) (a0 := (n, .inl (fun _ => 0))) hx hb harr rfl hB.2.1 hB.1 hB.2.2.1 hB.2.2.2.1 (fun q hq => Nat.le_trans hB.2.2.2.2.1 hq) (fun cA => ?_) (nI_pos (by omega)) (nI_clamp (by omega)) (by show n * 1 ≤ 536870912; omega) hcells hslots hdg (fun q cA H1 hK1 h1 h2 h3 => ?_)
  · rfl
  · obtain rfl : cA = cB := by
      have e1 := (hK1.2 0 (cB, .byte) rfl).2
      have e2 := (hK1.2 1 (cA, .byte) rfl).2
      exact Option.some.inj (e2.symm.trans e1)
    exact kk q H1 (hB.to h1 h2 h3)
theorem kb_bst (hx : p.tables.exec = Jvm.exec) (hb : c.code = cc) (hB : WB dC dI cB z G s H locs) (q0 : Nat) {f : Nat → Int32} {x : Int32} (ha : G[q0]? = some (a, eBy cB n f)) (hk : k < n) (hn : n ≤ 65536) (hdg : decode cc pc = .ok (.bastore, 1))
    (kk : ∀ (H1 : Heap) (locs1 : List Loc), WB dC dI cB z (G.set q0 (a, eBy cB n (upd f k (vp_nar .byte x)))) s H1 locs1 → W p l e R s m args below meth c H1 locs1 cells slots Q (F0 m (pc + 1) ls rest)) : W p l e R s m args below meth c H locs cells slots Q (F0 m pc ls (.int x :: .int (nI k) :: .ref a :: rest)) :=
  va_bast hx hb hB.2.1 hB.1 hB.2.2.1 hB.2.2.2.1 q0 0 ha rfl (vp_in_nI hk (by omega)) hdg (fun H1 locs1 h1 h2 h3 => kk H1 locs1 (by rw [nI_clamp (by omega)] at h1 h2; exact hB.to h1 h2 h3))
theorem kb_cp (hx : p.tables.exec = Jvm.exec) (hb : c.code = cc) (hml : c.maxLocals = ls.size) (hown : s.vm.findClass own = some m.cls) (hlink : (Cond.methodLink own index arraycopyName).before args s = true) (hnat : (Cond.native arraycopyName).before args s = true) (hstat : (Cond.static arraycopyName).before args s = true) (hini : (Cond.initialized "java/lang/System").before args s = true)
    (hB : WB dC dI cB z G s H locs) (q0 q1 : Nat) {a0 a1 n0 n1 : Nat} {f g : Nat → Int32} (ha0 : G[q0]? = some (a0, eBy cB n0 f)) (ha1 : G[q1]? = some (a1, eBy cB n1 g)) (hf : sb_Fit f) (h4 : n ≤ n0) (h5 : n ≤ n1) (hn : n ≤ 65536) (hframes : 1 ≤ R.frames) (hlocals : (rest.map fun v => v.category).sum + (nativeFrameWords "java/lang/System" "arraycopy" 5 + 11) ≤ R.locals) (hdg : decode cc pc = .ok (.invokestatic index, 3))
    (kk : ∀ (H1 : Heap) (locs1 : List Loc), WB dC dI cB z (G.set q1 (a1, eBy cB n1 (va_cpy f g 0 0 n))) s H1 locs1 → W p l e R s m args below meth c H1 locs1 cells slots Q (F0 m (pc + 3) ls rest)) : W p l e R s m args below meth c H locs cells slots Q (F0 m pc ls (.int (nI n) :: .int (nI 0) :: .ref a1 :: .int (nI 0) :: .ref a0 :: rest)) := by
  have e0 : (nI 0).toNatClampNeg = 0 := nI_clamp (by decide)
  have en : (nI n).toNatClampNeg = n := nI_clamp (by omega)
  refine va_copyi (ty := .byte) hx hb hml hown hlink hnat hstat hini hB.2.1 hB.1 hB.2.2.1 hB.2.2.2.1 q0 q1 0 0 ha0 ha1 rfl rfl rfl (nI_pos (by decide)) (nI_pos (by decide)) (nI_pos (by omega)) (by rw [e0, en]; omega) (by rw [e0, en]; omega) (fun i _ => hf _) hframes hlocals hdg (fun H1 locs1 h1 h2 h3 => kk H1 locs1 ?_)
  rw [e0, en] at h1 h2
  exact hB.to h1 h2 h3
theorem kb_v {S1 : Type} {post : S1 → Prop} {Gf : S1 → va_W} (hr : va_Run p l e R s m args below meth c H locs cells slots mc ms (F0 m pc ls st0) rest (va_Qv post (fun u t => PB dC dI cB z (Gf u) t) (zB z) av) (zB z)) (hB : WB dC dI cB z G s H locs)
    (kk : ∀ (u : S1) (H1 : Heap) (locs1 : List Loc), post u → WB dC dI cB z (Gf u) s H1 locs1 → W p l e R s m args below meth c H1 locs1 (cells + mc) (slots + ms) Q (F0 m (pc + 3) ls rest)) : W p l e R s m args below meth c H locs cells slots Q (F0 m pc ls st0) :=
  va_callv hr hB.2.2.2.1 (fun _ _ h => h) (fun _ h => h) (fun u t H1 locs1 ht hvm hp hb1 _ _ hS => kk u H1 locs1 hp (hB.back ht hvm hb1 hS))
theorem kb_i {S1 : Type} {post : Int32 → S1 → Prop} {Gf : S1 → va_W} (hr : va_Run p l e R s m args below meth c H locs cells slots mc ms (F0 m pc ls st0) rest (va_Qi post (fun u t => PB dC dI cB z (Gf u) t) (zB z) av) (zB z)) (hB : WB dC dI cB z G s H locs)
    (kk : ∀ (r : Int32) (u : S1) (H1 : Heap) (locs1 : List Loc), post r u → WB dC dI cB z (Gf u) s H1 locs1 → W p l e R s m args below meth c H1 locs1 (cells + mc) (slots + ms) Q (F0 m (pc + 3) ls (.int r :: rest))) : W p l e R s m args below meth c H locs cells slots Q (F0 m pc ls st0) :=
  va_calli hr hB.2.2.2.1 (fun _ _ h => h) (fun _ h => h) (fun r u t H1 locs1 ht hvm hp hb1 _ _ hS => kk r u H1 locs1 hp (hB.back ht hvm hb1 hS))
theorem kb_r {S1 : Type} {post : S1 → Prop} {Gf : S1 → Nat → va_W} {ra : S1 → Nat → Prop} (hr : va_Run p l e R s m args below meth c H locs cells slots mc ms (F0 m pc ls st0) rest (va_Qr post (fun u q t => ra u q ∧ PB dC dI cB z (Gf u q) t) (zB z) av) (zB z)) (hB : WB dC dI cB z G s H locs)
    (kk : ∀ (u : S1) (q : Nat) (H1 : Heap) (locs1 : List Loc), post u → ra u q → WB dC dI cB z (Gf u q) s H1 locs1 → W p l e R s m args below meth c H1 locs1 (cells + mc) (slots + ms) Q (F0 m (pc + 3) ls (.ref q :: rest))) : W p l e R s m args below meth c H locs cells slots Q (F0 m pc ls st0) :=
  va_callr hr hB.2.2.2.1 (fun _ _ h => h) (fun _ h => h) (fun u q t H1 locs1 ht hvm hp hb1 _ _ hS => kk u q H1 locs1 hp hb1.1 (hB.back ht hvm hb1.2 hS))
end KB2

