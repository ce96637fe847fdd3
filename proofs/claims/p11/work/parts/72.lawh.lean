/-! the claim's room: only that it holds this much is used -/
theorem le_rc {k : Nat} (h : k ≤ 116000) : k ≤ room_1.cells := Nat.le_trans h (Nat.le_of_ble_eq_true rfl)
theorem le_rs {k : Nat} (h : k ≤ 5480000) : k ≤ room_1.slots := Nat.le_trans h (Nat.le_of_ble_eq_true rfl)
/-! the law: class, reference and answers side by side -/
def LK (dC : Nat → ClassId) (dI : Nat → Nat → Nat) (cB : ClassId) (ad am : Nat → Nat) (o : Nat) (s : State) : Prop := (va_K (dC, dI) vwCl (tyX dC) s) ∧ (va_K (dC, dI) vwCl (tyM dC) s) ∧ (va_K (dC, dI) vwCl [(cB, .byte)] s) ∧ (∀ S, va_D (AX ad) (wX dC ad S)) ∧ (∀ M, va_D (AM am) (wM dC am M)) ∧ (∀ q, AX ad q → zB s.heap.size q) ∧ (∀ q, AM am q → zB s.heap.size q) ∧ (zB s.heap.size o) ∧ (∀ q, AX ad q → ¬ AM am q) ∧ (¬ AX ad o) ∧ (¬ AM am o) ∧ (ZS s) ∧ (ZT s s.heap) ∧ (ZBA (zB s.heap.size) s s.heap) ∧ (NT s) ∧ (NF9 s) ∧ (va_Nc IA IX s) ∧ (CM (zB s.heap.size) s s.heap)
theorem LK.kX {dC : Nat → ClassId} {dI : Nat → Nat → Nat} {cB : ClassId} {ad am : Nat → Nat} {o : Nat} {s : State} (h : LK dC dI cB ad am o s) : va_K (dC, dI) vwCl (tyX dC) s := h.1
theorem LK.kM {dC : Nat → ClassId} {dI : Nat → Nat → Nat} {cB : ClassId} {ad am : Nat → Nat} {o : Nat} {s : State} (h : LK dC dI cB ad am o s) : va_K (dC, dI) vwCl (tyM dC) s := h.2.1
theorem LK.kB {dC : Nat → ClassId} {dI : Nat → Nat → Nat} {cB : ClassId} {ad am : Nat → Nat} {o : Nat} {s : State} (h : LK dC dI cB ad am o s) : va_K (dC, dI) vwCl [(cB, .byte)] s := h.2.2.1
theorem LK.dX {dC : Nat → ClassId} {dI : Nat → Nat → Nat} {cB : ClassId} {ad am : Nat → Nat} {o : Nat} {s : State} (h : LK dC dI cB ad am o s) : ∀ S, va_D (AX ad) (wX dC ad S) := h.2.2.2.1
theorem LK.dM {dC : Nat → ClassId} {dI : Nat → Nat → Nat} {cB : ClassId} {ad am : Nat → Nat} {o : Nat} {s : State} (h : LK dC dI cB ad am o s) : ∀ M, va_D (AM am) (wM dC am M) := h.2.2.2.2.1
theorem LK.aX {dC : Nat → ClassId} {dI : Nat → Nat → Nat} {cB : ClassId} {ad am : Nat → Nat} {o : Nat} {s : State} (h : LK dC dI cB ad am o s) : ∀ q, AX ad q → zB s.heap.size q := h.2.2.2.2.2.1
theorem LK.aM {dC : Nat → ClassId} {dI : Nat → Nat → Nat} {cB : ClassId} {ad am : Nat → Nat} {o : Nat} {s : State} (h : LK dC dI cB ad am o s) : ∀ q, AM am q → zB s.heap.size q := h.2.2.2.2.2.2.1
theorem LK.aO {dC : Nat → ClassId} {dI : Nat → Nat → Nat} {cB : ClassId} {ad am : Nat → Nat} {o : Nat} {s : State} (h : LK dC dI cB ad am o s) : zB s.heap.size o := h.2.2.2.2.2.2.2.1
theorem LK.xm {dC : Nat → ClassId} {dI : Nat → Nat → Nat} {cB : ClassId} {ad am : Nat → Nat} {o : Nat} {s : State} (h : LK dC dI cB ad am o s) : ∀ q, AX ad q → ¬ AM am q := h.2.2.2.2.2.2.2.2.1
theorem LK.xo {dC : Nat → ClassId} {dI : Nat → Nat → Nat} {cB : ClassId} {ad am : Nat → Nat} {o : Nat} {s : State} (h : LK dC dI cB ad am o s) : ¬ AX ad o := h.2.2.2.2.2.2.2.2.2.1
theorem LK.mo {dC : Nat → ClassId} {dI : Nat → Nat → Nat} {cB : ClassId} {ad am : Nat → Nat} {o : Nat} {s : State} (h : LK dC dI cB ad am o s) : ¬ AM am o := h.2.2.2.2.2.2.2.2.2.2.1
theorem LK.zs {dC : Nat → ClassId} {dI : Nat → Nat → Nat} {cB : ClassId} {ad am : Nat → Nat} {o : Nat} {s : State} (h : LK dC dI cB ad am o s) : ZS s := h.2.2.2.2.2.2.2.2.2.2.2.1
theorem LK.zt {dC : Nat → ClassId} {dI : Nat → Nat → Nat} {cB : ClassId} {ad am : Nat → Nat} {o : Nat} {s : State} (h : LK dC dI cB ad am o s) : ZT s s.heap := h.2.2.2.2.2.2.2.2.2.2.2.2.1
theorem LK.zb {dC : Nat → ClassId} {dI : Nat → Nat → Nat} {cB : ClassId} {ad am : Nat → Nat} {o : Nat} {s : State} (h : LK dC dI cB ad am o s) : ZBA (zB s.heap.size) s s.heap := h.2.2.2.2.2.2.2.2.2.2.2.2.2.1
theorem LK.nt {dC : Nat → ClassId} {dI : Nat → Nat → Nat} {cB : ClassId} {ad am : Nat → Nat} {o : Nat} {s : State} (h : LK dC dI cB ad am o s) : NT s := h.2.2.2.2.2.2.2.2.2.2.2.2.2.2.1
theorem LK.nf {dC : Nat → ClassId} {dI : Nat → Nat → Nat} {cB : ClassId} {ad am : Nat → Nat} {o : Nat} {s : State} (h : LK dC dI cB ad am o s) : NF9 s := h.2.2.2.2.2.2.2.2.2.2.2.2.2.2.2.1
theorem LK.nc {dC : Nat → ClassId} {dI : Nat → Nat → Nat} {cB : ClassId} {ad am : Nat → Nat} {o : Nat} {s : State} (h : LK dC dI cB ad am o s) : va_Nc IA IX s := h.2.2.2.2.2.2.2.2.2.2.2.2.2.2.2.2.1
theorem LK.cm {dC : Nat → ClassId} {dI : Nat → Nat → Nat} {cB : ClassId} {ad am : Nat → Nat} {o : Nat} {s : State} (h : LK dC dI cB ad am o s) : CM (zB s.heap.size) s s.heap := h.2.2.2.2.2.2.2.2.2.2.2.2.2.2.2.2.2
def LSt (dC : Nat → ClassId) (dI : Nat → Nat → Nat) (ad am : Nat → Nat) (o : Nat) (S : XS) (M : MS) (s : State) (H : Heap) (locs : List Loc) : Prop := (va_P (dC, dI) vwCl (wX dC ad S) H) ∧ (va_P (dC, dI) vwCl (wM dC am M) H) ∧ (OC dC dI o H) ∧ (va_S (zB s.heap.size) s.heap H locs)
theorem LSt.x {dC : Nat → ClassId} {dI : Nat → Nat → Nat} {ad am : Nat → Nat} {o : Nat} {S : XS} {M : MS} {s : State} {H : Heap} {locs : List Loc} (h : LSt dC dI ad am o S M s H locs) : va_P (dC, dI) vwCl (wX dC ad S) H := h.1
theorem LSt.m {dC : Nat → ClassId} {dI : Nat → Nat → Nat} {ad am : Nat → Nat} {o : Nat} {S : XS} {M : MS} {s : State} {H : Heap} {locs : List Loc} (h : LSt dC dI ad am o S M s H locs) : va_P (dC, dI) vwCl (wM dC am M) H := h.2.1
theorem LSt.o {dC : Nat → ClassId} {dI : Nat → Nat → Nat} {ad am : Nat → Nat} {o : Nat} {S : XS} {M : MS} {s : State} {H : Heap} {locs : List Loc} (h : LSt dC dI ad am o S M s H locs) : OC dC dI o H := h.2.2.1
theorem LSt.st {dC : Nat → ClassId} {dI : Nat → Nat → Nat} {ad am : Nat → Nat} {o : Nat} {S : XS} {M : MS} {s : State} {H : Heap} {locs : List Loc} (h : LSt dC dI ad am o S M s H locs) : va_S (zB s.heap.size) s.heap H locs := h.2.2.2
section LL
variable {dC : Nat → ClassId} {dI : Nat → Nat → Nat} {cB : ClassId} {ad am : Nat → Nat} {o : Nat} {S : XS} {M : MS} {s U : State} {H : Heap} {locs : List Loc}
theorem LSt.old (h : LSt dC dI ad am o S M s H locs) : ∀ q, q < s.heap.size → H[q]? = s.heap[q]? := fun q hq => h.st.2.1 q hq (fun z => Nat.not_le.mpr hq z)
theorem LSt.wx (hK : LK dC dI cB ad am o s) (h : LSt dC dI ad am o S M s H locs) : WX dC dI ad S (zB s.heap.size) s H locs := ⟨h.x, hK.kX, (hK.dX S).weaken (fun _ _ _ h => hK.aX _ h), h.st⟩
theorem LSt.wm (hK : LK dC dI cB ad am o s) (h : LSt dC dI ad am o S M s H locs) : WM dC dI am M [] (zB s.heap.size) s H locs := ⟨by rw [List.append_nil]; exact h.m, hK.kM, by rw [List.append_nil]; exact (hK.dM M).weaken (fun _ _ _ h => hK.aM _ h), h.st⟩
theorem LSt.px (hK : LK dC dI cB ad am o s) (h : LSt dC dI ad am o S M s H locs) (hU : U.heap = H) (hW : s.WarmedH U.vm) : PX dC dI ad S U := ⟨by rw [hU]; exact h.x, va_K.moved hW.alike hK.kX, hK.dX S⟩
theorem LSt.pm (hK : LK dC dI cB ad am o s) (h : LSt dC dI ad am o S M s H locs) (hU : U.heap = H) (hW : s.WarmedH U.vm) : PM dC dI am M U := ⟨by rw [hU]; exact h.m, va_K.moved hW.alike hK.kM, hK.dM M⟩
theorem LSt.pw (hK : LK dC dI cB ad am o s) (h : LSt dC dI ad am o S M s H locs) (hU : U.heap = H) (hW : s.WarmedH U.vm) : PW dC dI cB ad o S U := by
  have h1 := h.px hK hU hW
  refine ⟨⟨h1, ZS.warm hW hK.zs, ?_⟩, ⟨h1, va_K.moved hW.alike hK.kB, ?_, NT.warm hW hK.nt⟩, by rw [hU]; exact h.o, hK.xo, va_Nc.moved hW.alike hK.nc, NF9.warm hW hK.nf⟩
  · rw [hU]
    exact ZT.moved hW.alike ⟨vx_Zq.kept hK.zt.1 (fun a ha _ => h.old a ha), vx_Zq.kept hK.zt.2 (fun a ha _ => h.old a ha)⟩
  · rw [hU]
    exact ZBA.narrow (fun q hq => hq.elim (hK.aX q) (fun z => Nat.le_trans h.st.1 z)) (ZBA.warm hW (hK.zb.kept (fun a ha _ => h.old a ha)))
theorem LSt.pmt (hK : LK dC dI cB ad am o s) (h : LSt dC dI ad am o S M s H locs) (hU : U.heap = H) (hW : s.WarmedH U.vm) : PMT dC dI cB am M U := by
  have hz : ∀ q, AY am H.size q → zB s.heap.size q := fun q hq => hq.elim (hK.aM q) (fun z => Nat.le_trans h.st.1 z)
  refine ⟨h.pm hK hU hW, va_K.moved hW.alike hK.kB, ?_, ?_⟩
  · rw [hU]
    exact ZBA.narrow hz (ZBA.warm hW (hK.zb.kept (fun a ha _ => h.old a ha)))
  · rw [hU]
    exact CM.narrow (CM.warm hW (CM.kept hK.cm (fun a ha _ => h.old a ha))) hz
theorem LSt.preW {As : List Value} (hK : LK dC dI cB ad am o s) (h : LSt dC dI ad am o S M s H locs) : PreS s H (va_Pc As (PW dC dI cB ad o S)) As := ⟨PW.blind, fun _ hU hW => ⟨rfl, h.pw hK hU hW⟩⟩
theorem LSt.preX {As : List Value} (hK : LK dC dI cB ad am o s) (h : LSt dC dI ad am o S M s H locs) : PreV s H RX4 (ad 57) (va_Pc (Value.ref (ad 57) :: As) (PX dC dI ad S)) As := (h.wx hK).preTop 57 6 (by decide) (by decide) rfl rfl
theorem LSt.preM {As : List Value} (hK : LK dC dI cB ad am o s) (h : LSt dC dI ad am o S M s H locs) : PreV s H RX6 (am 0) (va_Pc (Value.ref (am 0) :: As) (PM dC dI am M)) As := (h.wm hK).preObj
theorem LSt.preMT {As : List Value} (hK : LK dC dI cB ad am o s) (h : LSt dC dI ad am o S M s H locs) : PreV s H RX6 (am 0) (va_Pc (Value.ref (am 0) :: As) (PMT dC dI cB am M)) As :=
  ⟨PMT.blind, ((h.wm hK).preObj (As := As)).2.1, fun _ hU hW => ⟨rfl, h.pmt hK hU hW⟩⟩
theorem AO.z (hK : LK dC dI cB ad am o s) : ∀ q, AO ad o q → zB s.heap.size q := fun q hq => hq.elim (hK.aX q) (fun e => by rw [e]; exact hK.aO)
theorem LSt.mkept (hK : LK dC dI cB ad am o s) (h : LSt dC dI ad am o S M s H locs) {H1 : Heap} (hk : ∀ q : Nat, q < H.size → ¬ AO ad o q → H1[q]? = H[q]?) : va_P (dC, dI) vwCl (wM dC am M) H1 :=
  h.m.kept (fun k q hq => hk q.1 ((h.m k q hq).lt) (fun z => by
    have hA : AM am q.1 := ⟨k, (wM_in k q hq).1, (wM_in k q hq).2⟩
    exact z.elim (fun hx => hK.xm _ hx hA) (fun e => hK.mo (by rw [← e]; exact hA))))
theorem LSt.xkept (hK : LK dC dI cB ad am o s) (h : LSt dC dI ad am o S M s H locs) {H1 : Heap} (hk : ∀ q : Nat, q < H.size → ¬ AM am q → H1[q]? = H[q]?) : va_P (dC, dI) vwCl (wX dC ad S) H1 :=
  h.x.kept (fun k q hq => hk q.1 ((h.x k q hq).lt) (fun z => hK.xm _ ⟨k, (wX_in k q hq).1, (wX_in k q hq).2⟩ z))
end LL
section LL2
variable {p : Program} {l : Launch} {e : Env} {R : Room} {s : State} {m : MethodId} {args : Array Value} {below : List Frame} {meth : Method} {c : Code} {H : Heap} {locs : List Loc} {cells slots : Nat} {Q : State → Prop}
variable {pc : Nat} {ls : Array Slot} {rest st0 : List Value} {dC : Nat → ClassId} {dI : Nat → Nat → Nat} {cB : ClassId} {ad am : Nat → Nat} {o : Nat} {S : XS} {M : MS} {a : Array Value} {mc ms : Nat}
theorem ll_w {post : Int32 → XS × Int64 → Prop} (hr : va_Run p l e R s m args below meth c H locs cells slots mc ms (F0 m pc ls st0) rest (va_Qi post (PO2 dC dI ad o) (AO ad o) a) (AO ad o)) (hK : LK dC dI cB ad am o s) (h : LSt dC dI ad am o S M s H locs)
    (kk : ∀ (r : Int32) (S1 : XS) (n1 : Int64) (H1 : Heap) (locs1 : List Loc), post r (S1, n1) → OCn dC dI o n1 H1 → LSt dC dI ad am o S1 M s H1 locs1 → W p l e R s m args below meth c H1 locs1 (cells + mc) (slots + ms) Q (F0 m (pc + 3) ls (.int r :: rest))) : W p l e R s m args below meth c H locs cells slots Q (F0 m pc ls st0) :=
  va_calli hr h.st (fun q _ hq => AO.z hK q hq) (AO.z hK) (fun r u t H1 locs1 ht hvm hp hB _ hk hS => by
    obtain ⟨S1, n1⟩ := u
    subst ht
    exact kk r S1 n1 _ locs1 hp hB.2 ⟨hB.1.1, h.mkept hK hk, OCn.oc hB.2, hS⟩)
theorem ll_x {post : Int32 → XS → Prop} (hr : va_Run p l e R s m args below meth c H locs cells slots mc ms (F0 m pc ls st0) rest (va_Qi post (PX dC dI ad) (AX ad) a) (AX ad)) (hK : LK dC dI cB ad am o s) (h : LSt dC dI ad am o S M s H locs)
    (kk : ∀ (r : Int32) (S1 : XS) (H1 : Heap) (locs1 : List Loc), post r S1 → LSt dC dI ad am o S1 M s H1 locs1 → W p l e R s m args below meth c H1 locs1 (cells + mc) (slots + ms) Q (F0 m (pc + 3) ls (.int r :: rest))) : W p l e R s m args below meth c H locs cells slots Q (F0 m pc ls st0) :=
  va_calli hr h.st (fun q _ hq => hK.aX q hq) hK.aX (fun r u t H1 locs1 ht hvm hp hB _ hk hS => kk r u H1 locs1 hp ⟨by rw [← ht]; exact hB.1, h.mkept hK (fun q h1 h2 => hk q h1 (fun z => h2 (Or.inl z))), h.o.kept (hk o h.o.lt hK.xo), hS⟩)
theorem ll_xl {post : Int64 → XS → Prop} (hr : va_Run p l e R s m args below meth c H locs cells slots mc ms (F0 m pc ls st0) rest (va_Ql post (PX dC dI ad) (AX ad) a) (AX ad)) (hK : LK dC dI cB ad am o s) (h : LSt dC dI ad am o S M s H locs)
    (kk : ∀ (r : Int64) (S1 : XS) (H1 : Heap) (locs1 : List Loc), post r S1 → LSt dC dI ad am o S1 M s H1 locs1 → W p l e R s m args below meth c H1 locs1 (cells + mc) (slots + ms) Q (F0 m (pc + 3) ls (.long r :: rest))) : W p l e R s m args below meth c H locs cells slots Q (F0 m pc ls st0) :=
  va_calll hr h.st (fun q _ hq => hK.aX q hq) hK.aX (fun r u t H1 locs1 ht hvm hp hB _ hk hS => kk r u H1 locs1 hp ⟨by rw [← ht]; exact hB.1, h.mkept hK (fun q h1 h2 => hk q h1 (fun z => h2 (Or.inl z))), h.o.kept (hk o h.o.lt hK.xo), hS⟩)
theorem ll_m {post : Int32 → MS → Prop} (hr : va_Run p l e R s m args below meth c H locs cells slots mc ms (F0 m pc ls st0) rest (va_Qi post (PM dC dI am) (AM am) a) (AM am)) (hK : LK dC dI cB ad am o s) (h : LSt dC dI ad am o S M s H locs)
    (kk : ∀ (r : Int32) (M1 : MS) (H1 : Heap) (locs1 : List Loc), H1[o]? = H[o]? → post r M1 → LSt dC dI ad am o S M1 s H1 locs1 → W p l e R s m args below meth c H1 locs1 (cells + mc) (slots + ms) Q (F0 m (pc + 3) ls (.int r :: rest))) : W p l e R s m args below meth c H locs cells slots Q (F0 m pc ls st0) :=
  va_calli hr h.st (fun q _ hq => hK.aM q hq) hK.aM (fun r u t H1 locs1 ht hvm hp hB _ hk hS => kk r u H1 locs1 (hk o h.o.lt hK.mo) hp ⟨h.xkept hK hk, by rw [← ht]; exact hB.1, h.o.kept (hk o h.o.lt hK.mo), hS⟩)
theorem ll_ml {post : Int64 → MS → Prop} (hr : va_Run p l e R s m args below meth c H locs cells slots mc ms (F0 m pc ls st0) rest (va_Ql post (PM dC dI am) (AM am) a) (AM am)) (hK : LK dC dI cB ad am o s) (h : LSt dC dI ad am o S M s H locs)
    (kk : ∀ (r : Int64) (M1 : MS) (H1 : Heap) (locs1 : List Loc), H1[o]? = H[o]? → post r M1 → LSt dC dI ad am o S M1 s H1 locs1 → W p l e R s m args below meth c H1 locs1 (cells + mc) (slots + ms) Q (F0 m (pc + 3) ls (.long r :: rest))) : W p l e R s m args below meth c H locs cells slots Q (F0 m pc ls st0) :=
  va_calll hr h.st (fun q _ hq => hK.aM q hq) hK.aM (fun r u t H1 locs1 ht hvm hp hB _ hk hS => kk r u H1 locs1 (hk o h.o.lt hK.mo) hp ⟨h.xkept hK hk, by rw [← ht]; exact hB.1, h.o.kept (hk o h.o.lt hK.mo), hS⟩)
theorem ll_mr {post : MS → Prop} (hr : va_Run p l e R s m args below meth c H locs cells slots mc ms (F0 m pc ls st0) rest (va_Qr post (fun M1 _ t => PM dC dI am M1 t) (AM am) a) (AM am)) (hK : LK dC dI cB ad am o s) (h : LSt dC dI ad am o S M s H locs)
    (kk : ∀ (M1 : MS) (q : Nat) (H1 : Heap) (locs1 : List Loc), H1[o]? = H[o]? → post M1 → LSt dC dI ad am o S M1 s H1 locs1 → W p l e R s m args below meth c H1 locs1 (cells + mc) (slots + ms) Q (F0 m (pc + 3) ls (.ref q :: rest))) : W p l e R s m args below meth c H locs cells slots Q (F0 m pc ls st0) :=
  va_callr hr h.st (fun q _ hq => hK.aM q hq) hK.aM (fun u q t H1 locs1 ht hvm hp hB _ hk hS => kk u q H1 locs1 (hk o h.o.lt hK.mo) hp ⟨h.xkept hK hk, by rw [← ht]; exact hB.1, h.o.kept (hk o h.o.lt hK.mo), hS⟩)
end LL2
/-- what holds while the script is run: n calls are done -/
def LI (n : Nat) (S : XS) (M : MS) : Prop := (InvX S) ∧ (∀ j, j < 4 → (S.2.1 j).2.2.2.2.1 ≤ 5) ∧ (InvM M) ∧ (S.2.2.1 ≤ 12 * n) ∧ (S.2.2.2.1 ≤ n) ∧ (M.2.2.2.1 ≤ 12 * n) ∧ (M.2.2.2.2.1 ≤ n) ∧ (Tie2 S M) ∧ (S.2.2.2.2 ≤ n)
theorem LI.x {n : Nat} {S : XS} {M : MS} (h : LI n S M) : InvX S := h.1
theorem LI.x5 {n : Nat} {S : XS} {M : MS} (h : LI n S M) : ∀ j, j < 4 → (S.2.1 j).2.2.2.2.1 ≤ 5 := h.2.1
theorem LI.m {n : Nat} {S : XS} {M : MS} (h : LI n S M) : InvM M := h.2.2.1
theorem LI.xp {n : Nat} {S : XS} {M : MS} (h : LI n S M) : S.2.2.1 ≤ 12 * n := h.2.2.2.1
theorem LI.xr {n : Nat} {S : XS} {M : MS} (h : LI n S M) : S.2.2.2.1 ≤ n := h.2.2.2.2.1
theorem LI.mp {n : Nat} {S : XS} {M : MS} (h : LI n S M) : M.2.2.2.1 ≤ 12 * n := h.2.2.2.2.2.1
theorem LI.mr {n : Nat} {S : XS} {M : MS} (h : LI n S M) : M.2.2.2.2.1 ≤ n := h.2.2.2.2.2.2.1
theorem LI.T {n : Nat} {S : XS} {M : MS} (h : LI n S M) : Tie2 S M := h.2.2.2.2.2.2.2.1
theorem LI.kk {n : Nat} {S : XS} {M : MS} (h : LI n S M) : S.2.2.2.2 = M.2.2.2.2.2 := h.T.kn
theorem LI.kn {n : Nat} {S : XS} {M : MS} (h : LI n S M) : S.2.2.2.2 ≤ n := h.2.2.2.2.2.2.2.2
theorem LI.next {n : Nat} {S S1 : XS} {M M1 : MS} (h : LI n S M) (hq : LQ S S1) (hm : LM M M1) (hT : Tie2 S1 M1) : LI (n + 1) S1 M1 :=
  ⟨hq.1, hq.2.1, hm.1, by have := hq.2.2.1; have := h.xp; omega, by have := hq.2.2.2.1; have := h.xr; omega, by have := hm.2.1; have := h.mp; omega, by have := hm.2.2.1; have := h.mr; omega, hT, by rw [hq.2.2.2.2]; exact Nat.le_succ_of_le h.kn⟩
theorem LI.idle {n : Nat} {S : XS} {M : MS} (h : LI n S M) : LI (n + 1) S M := ⟨h.x, h.x5, h.m, by have := h.xp; omega, by have := h.xr; omega, by have := h.mp; omega, by have := h.mr; omega, h.T, Nat.le_succ_of_le h.kn⟩
def LF (p : Program) (l : Launch) (s : State) (m : MethodId) (c : Code) (b L : Nat) (xs : Nat → Int32) (dC : Nat → ClassId) (dI : Nat → Nat → Nat) (cB : ClassId) (ad am : Nat → Nat) (o : Nat) : Prop := (l.stackTraces = false) ∧ (p.tables.exec = Jvm.exec) ∧ (c.code = cL_law) ∧ (c.maxLocals = 7) ∧ (s.vm.findClass RL = some m.cls) ∧ (∀ w ∈ wsL_R, w.before #[Value.ref b] s = true) ∧ (LK dC dI cB ad am o s) ∧ (va_X b L xs s s.heap) ∧ (b < s.heap.size) ∧ (L ≤ 2560)
theorem LF.st {p : Program} {l : Launch} {s : State} {m : MethodId} {c : Code} {b L : Nat} {xs : Nat → Int32} {dC : Nat → ClassId} {dI : Nat → Nat → Nat} {cB : ClassId} {ad am : Nat → Nat} {o : Nat} (h : LF p l s m c b L xs dC dI cB ad am o) : l.stackTraces = false := h.1
theorem LF.x {p : Program} {l : Launch} {s : State} {m : MethodId} {c : Code} {b L : Nat} {xs : Nat → Int32} {dC : Nat → ClassId} {dI : Nat → Nat → Nat} {cB : ClassId} {ad am : Nat → Nat} {o : Nat} (h : LF p l s m c b L xs dC dI cB ad am o) : p.tables.exec = Jvm.exec := h.2.1
theorem LF.b {p : Program} {l : Launch} {s : State} {m : MethodId} {c : Code} {b L : Nat} {xs : Nat → Int32} {dC : Nat → ClassId} {dI : Nat → Nat → Nat} {cB : ClassId} {ad am : Nat → Nat} {o : Nat} (h : LF p l s m c b L xs dC dI cB ad am o) : c.code = cL_law := h.2.2.1
theorem LF.ml {p : Program} {l : Launch} {s : State} {m : MethodId} {c : Code} {b L : Nat} {xs : Nat → Int32} {dC : Nat → ClassId} {dI : Nat → Nat → Nat} {cB : ClassId} {ad am : Nat → Nat} {o : Nat} (h : LF p l s m c b L xs dC dI cB ad am o) : c.maxLocals = 7 := h.2.2.2.1
theorem LF.own {p : Program} {l : Launch} {s : State} {m : MethodId} {c : Code} {b L : Nat} {xs : Nat → Int32} {dC : Nat → ClassId} {dI : Nat → Nat → Nat} {cB : ClassId} {ad am : Nat → Nat} {o : Nat} (h : LF p l s m c b L xs dC dI cB ad am o) : s.vm.findClass RL = some m.cls := h.2.2.2.2.1
theorem LF.ts {p : Program} {l : Launch} {s : State} {m : MethodId} {c : Code} {b L : Nat} {xs : Nat → Int32} {dC : Nat → ClassId} {dI : Nat → Nat → Nat} {cB : ClassId} {ad am : Nat → Nat} {o : Nat} (h : LF p l s m c b L xs dC dI cB ad am o) : ∀ w ∈ wsL_R, w.before #[Value.ref b] s = true := h.2.2.2.2.2.1
theorem LF.K {p : Program} {l : Launch} {s : State} {m : MethodId} {c : Code} {b L : Nat} {xs : Nat → Int32} {dC : Nat → ClassId} {dI : Nat → Nat → Nat} {cB : ClassId} {ad am : Nat → Nat} {o : Nat} (h : LF p l s m c b L xs dC dI cB ad am o) : LK dC dI cB ad am o s := h.2.2.2.2.2.2.1
theorem LF.sc {p : Program} {l : Launch} {s : State} {m : MethodId} {c : Code} {b L : Nat} {xs : Nat → Int32} {dC : Nat → ClassId} {dI : Nat → Nat → Nat} {cB : ClassId} {ad am : Nat → Nat} {o : Nat} (h : LF p l s m c b L xs dC dI cB ad am o) : va_X b L xs s s.heap := h.2.2.2.2.2.2.2.1
theorem LF.bl {p : Program} {l : Launch} {s : State} {m : MethodId} {c : Code} {b L : Nat} {xs : Nat → Int32} {dC : Nat → ClassId} {dI : Nat → Nat → Nat} {cB : ClassId} {ad am : Nat → Nat} {o : Nat} (h : LF p l s m c b L xs dC dI cB ad am o) : b < s.heap.size := h.2.2.2.2.2.2.2.2.1
theorem LF.hL {p : Program} {l : Launch} {s : State} {m : MethodId} {c : Code} {b L : Nat} {xs : Nat → Int32} {dC : Nat → ClassId} {dI : Nat → Nat → Nat} {cB : ClassId} {ad am : Nat → Nat} {o : Nat} (h : LF p l s m c b L xs dC dI cB ad am o) : L ≤ 2560 := h.2.2.2.2.2.2.2.2.2
theorem law_X5 : ∀ w ∈ u_ws RX5 TX5 2, w ∈ wsL_R := tu0 1332 (by decide +kernel) rfl
theorem ll_getn {p : Program} {l : Launch} {e : Env} {R : Room} {s : State} {m : MethodId} {below : List Frame} {meth : Method} {c : Code} {H : Heap} {locs : List Loc} {cells slots : Nat} {Q : State → Prop} {pc : Nat} {ls : Array Slot} {rest : List Value} {b L : Nat} {xs : Nat → Int32} {dC : Nat → ClassId} {dI : Nat → Nat → Nat} {cB : ClassId} {ad am : Nat → Nat} {o : Nat} {n1 : Int64} (F : LF p l s m c b L xs dC dI cB ad am o) (hN : OCn dC dI o n1 H) (hdg : decode cL_law pc = .ok (.getfield 13, 3))
    (kk : W p l e R s m #[Value.ref b] below meth c H locs cells slots Q (F0 m (pc + 3) ls (.long n1 :: rest))) : W p l e R s m #[Value.ref b] below meth c H locs cells slots Q (F0 m pc ls (.ref o :: rest)) := by
  obtain ⟨v0, -, hP⟩ := hN
  exact va_getN (D := (dC, dI)) (C := RX5) (T := TX5) (N := 2) (ci := 7) F.x F.b F.ts law_X5 F.own F.K.kX hP 0 rfl rfl 0 (by decide) (va_Nw.use rfl F.K.nf.1) (fun _ h => h) rfl hdg kk
/-- a case of the law's switch, from its first instruction to the end of its round -/
def LCase (p : Program) (l : Launch) (e : Env) (s : State) (m : MethodId) (below : List Frame) (meth : Method) (c : Code) (b : Nat) (dC : Nat → ClassId) (dI : Nat → Nat → Nat) (ad am : Nat → Nat) (o n i : Nat) (Q : State → Prop) (pc : Nat) : Prop :=
  ∀ (S : XS) (M : MS) (H : Heap) (locs : List Loc), LI n S M → LSt dC dI ad am o S M s H locs →
    (∀ (S1 : XS) (M1 : MS) (H1 : Heap) (locs1 : List Loc) (ls1 : Array Slot), LI (n + 1) S1 M1 → LSt dC dI ad am o S1 M1 s H1 locs1 → lv_has ls1 7 [(0, .ref b), (1, .ref (ad 57)), (2, .ref (am 0)), (3, .ref o), (4, .int (nI i))] → W p l e room_1 s m #[Value.ref b] below meth c H1 locs1 (100 + 224 * (n + 1)) (1200 + 10680 * (n + 1)) Q (F0 m 2052 ls1 [])) →
    ∀ ls : Array Slot, lv_has ls 7 [(0, .ref b), (1, .ref (ad 57)), (2, .ref (am 0)), (3, .ref o), (4, .int (nI i))] → W p l e room_1 s m #[Value.ref b] below meth c H locs (100 + 224 * n) (1200 + 10680 * n) Q (F0 m pc ls [])

