/-! the reference's texts: its world beside a builder's, from address z on -/
def TM (dC : Nat → ClassId) (dI : Nat → Nat → Nat) (cB : ClassId) (am : Nat → Nat) (z : Nat) (G : va_W) (s : State) (H : Heap) : Prop := va_P (dC, dI) vwCl G H ∧ va_D (zB z) G ∧ s.heap.size ≤ z ∧ z ≤ H.size
/-- what a text needs besides: bytes' class, statics, the reference's cells old -/
def KT (dC : Nat → ClassId) (dI : Nat → Nat → Nat) (cB : ClassId) (am : Nat → Nat) (s : State) : Prop := va_K (dC, dI) vwCl [(cB, .byte)] s ∧ ZBA (AY am s.heap.size) s s.heap ∧ ∀ q, AM am q → q < s.heap.size
def cmL : List (Nat × String × Nat) := [(95, "", 0), (104, " ", 1), (109, ".", 1), (131, ":", 1), (141, "-", 1), (143, "+", 1)]
def CM (A : Nat → Prop) (U : State) (H : Heap) : Prop := ∀ c ∈ cmL, ∃ a, vk_R RX6 c.1 c.2.1 a U ∧ SV A a c.2.2 U H
theorem CM.warm {A : Nat → Prop} {s U : State} {H : Heap} (hW : s.WarmedH U.vm) (h : CM A s H) : CM A U H := fun c hc => by
  obtain ⟨a, h1, h2⟩ := h c hc
  exact ⟨a, vk_R.warm hW h1, h2.moved hW.alike⟩
theorem CM.same {A : Nat → Prop} {s U : State} {H : Heap} (hv : U.vm = s.vm) (h : CM A s H) : CM A U H := fun c hc => by
  obtain ⟨a, h1, h2⟩ := h c hc
  exact ⟨a, vk_R.same hv h1, h2.moved (by rw [hv]; exact Vm.Alike.refl _)⟩
theorem CM.kept {A : Nat → Prop} {U : State} {H H1 : Heap} (h : CM A U H) (hq : ∀ a : Nat, a < H.size → ¬ A a → H1[a]? = H[a]?) : CM A U H1 := fun c hc => by
  obtain ⟨a, h1, h2⟩ := h c hc
  exact ⟨a, h1, h2.kept hq⟩
theorem CM.narrow {A B : Nat → Prop} {U : State} {H : Heap} (h : CM A U H) (hAB : ∀ q, B q → A q) : CM B U H := fun c hc => by
  obtain ⟨a, h1, h2⟩ := h c hc
  exact ⟨a, h1, h2.narrow hAB⟩
/-- before a call that makes a text -/
def PMT (dC : Nat → ClassId) (dI : Nat → Nat → Nat) (cB : ClassId) (am : Nat → Nat) (M : MS) (U : State) : Prop := PM dC dI am M U ∧ va_K (dC, dI) vwCl [(cB, .byte)] U ∧ ZBA (AY am U.heap.size) U U.heap ∧ CM (AY am U.heap.size) U U.heap
section KT1
variable {dC : Nat → ClassId} {dI : Nat → Nat → Nat} {cB : ClassId} {am : Nat → Nat} {z : Nat} {G : va_W} {M : MS} {s : State} {H : Heap} {locs : List Loc}
theorem PM.lt {U : State} (h : PM dC dI am M U) : ∀ q, AM am q → q < U.heap.size := by
  rintro q ⟨k, hk, rfl⟩
  exact (h.1 k _ (wM_get hk)).lt
theorem PMT.call {U : State} {g : JFrame} {mk : MethodId} {a : Array Value} (h : PMT dC dI cB am M U) : PMT dC dI cB am M (U.calling g mk a) := ⟨h.1.call, va_K.moved (u := U) (U := U.calling g mk a) (Vm.Alike.refl U.vm) h.2.1, ZBA.same (s := U) (U := U.calling g mk a) rfl h.2.2.1, CM.same (s := U) (U := U.calling g mk a) rfl h.2.2.2⟩
theorem PMT.blind {av : List Value} : FrameBlind (va_Pc av (PMT dC dI cB am M)) := fun _ _ _ _ h => ⟨h.1, h.2.call⟩
theorem KT.of (h : PMT dC dI cB am M s) : KT dC dI cB am s := ⟨h.2.1, h.2.2.1, h.1.lt⟩
/-- a constant, at any time -/
theorem CM.at {A : Nat → Prop} (hC : CM (AY am s.heap.size) s s.heap) (hX : WM dC dI am M [] (AY am s.heap.size) s H locs) {c : Nat × String × Nat} (hc : c ∈ cmL) (hA : ∀ q, A q → AY am s.heap.size q) : ∃ a, vk_R RX6 c.1 c.2.1 a s ∧ SV A a c.2.2 s H := by
  obtain ⟨a, h1, h2⟩ := hC c hc
  exact ⟨a, h1, (h2.kept hX.2.2.2.2.1).narrow hA⟩
theorem TM.toPB {U : State} (h : TM dC dI cB am z G s H) (hK : KT dC dI cB am s) (hX : WM dC dI am M [] (AY am s.heap.size) s H locs) (hU : U.heap = H) (hW : s.WarmedH U.vm) : PB dC dI cB z G U := by
  refine ⟨by rw [hU]; exact h.1, va_K.moved hW.alike hK.1, h.2.1, by rw [hU]; exact h.2.2.2, ?_⟩
  rw [hU]
  exact ((hK.2.1.kept hX.2.2.2.2.1).warm hW).narrow (fun q hq => Or.inr (Nat.le_trans h.2.2.1 hq))
theorem TM.preV {a ci : Nat} {r : vw_C} {fs As : List Value} (h : TM dC dI cB am z G s H) (hK : KT dC dI cB am s) (hX : WM dC dI am M [] (AY am s.heap.size) s H locs) (hc : vwCl[ci]? = some r) (k : Nat) (he : G[k]? = some (a, .inr (ci, fs))) : PreV s H r.1 a (va_Pc (Value.ref a :: As) (PB dC dI cB z G)) As :=
  ⟨PB.blind, va_recv hK.1 h.1 (ci := ci) (q0 := k) hc he, fun _ hU hW => ⟨rfl, h.toPB hK hX hU hW⟩⟩
theorem TM.preS {As : List Value} (h : TM dC dI cB am z G s H) (hK : KT dC dI cB am s) (hX : WM dC dI am M [] (AY am s.heap.size) s H locs) : PreS s H (va_Pc As (PB dC dI cB z G)) As := ⟨PB.blind, fun _ hU hW => ⟨rfl, h.toPB hK hX hU hW⟩⟩
theorem TM.preVV {a ci q n : Nat} {r : vw_C} {fs As : List Value} (h : TM dC dI cB am z G s H) (hK : KT dC dI cB am s) (hX : WM dC dI am M [] (AY am s.heap.size) s H locs) (hV : SV (zB z) q n s H) (hc : vwCl[ci]? = some r) (k : Nat) (he : G[k]? = some (a, .inr (ci, fs))) : PreV s H r.1 a (va_Pc (Value.ref a :: As) (PV dC dI cB z G q n)) As :=
  ⟨PV.blind, va_recv hK.1 h.1 (ci := ci) (q0 := k) hc he, fun _ hU hW => ⟨rfl, h.toPB hK hX hU hW, by rw [hU]; exact hV.moved hW.alike⟩⟩
theorem TM.preQ {q n : Nat} {As : List Value} (h : TM dC dI cB am z G s H) (hK : KT dC dI cB am s) (hX : WM dC dI am M [] (AY am s.heap.size) s H locs) (hV : SV (zB z) q n s H) : PreV s H RJ0 q (va_Pc (Value.ref q :: As) (PV dC dI cB z G q n)) As := by
  refine ⟨PV.blind, ?_, fun _ hU hW => ⟨rfl, h.toPB hK hX hU hW, by rw [hU]; exact hV.moved hW.alike⟩⟩
  obtain ⟨cell, h1, h2, h3, -⟩ := hV.1
  exact ⟨cell, h1, h2, h3⟩
theorem WM.keptZ {H1 : Heap} {locs1 : List Loc} (hX : WM dC dI am M [] (AY am s.heap.size) s H locs) (hK : KT dC dI cB am s) (hz : s.heap.size ≤ z) (hk : ∀ q, q < H.size → ¬ zB z q → H1[q]? = H[q]?) (hS : va_S (AY am s.heap.size) s.heap H1 locs1) : WM dC dI am M [] (AY am s.heap.size) s H1 locs1 :=
  ⟨hX.1.kept (fun k q hq => hk q.1 ((hX.1 k q hq).lt) (fun z9 => by
    rw [List.append_nil] at hq
    obtain ⟨hk6, e⟩ := wM_in k q hq
    have h1 := hK.2.2 q.1 ⟨k, hk6, e⟩
    have h2 : z ≤ q.1 := z9
    omega)), hX.2.1, hX.2.2.1, hS⟩
/-- a string made by a builder's toString -/
theorem SV_of {v q n h1 h2 : Nat} {g : Nat → Int32} {Ts : List Cond} {args : Array Value} (hts : ∀ w ∈ Ts, w.before args s = true) (hin : ∀ w ∈ u_ws RJ0 TJ0 4, w ∈ Ts) (hK : va_K (dC, dI) vwCl [(cB, .byte)] s) (hP : va_P (dC, dI) vwCl G H) (k1 k2 : Nat) (e1 : G[k1]? = some (q, .inr (0, [.ref v, .int (nI 0), .int (nI h1), .int (nI h2)]))) (e2 : G[k2]? = some (v, eBy cB n g)) (hg : sb_Fit g) : SV (zB H.size) q n s H := by
  have lq := (hP k1 _ e1).lt
  have lv := (hP k2 _ e2).lt
  have nq : ¬ zB H.size q := fun z9 => Nat.not_le.mpr lq z9
  have nv : ¬ zB H.size v := fun z9 => Nat.not_le.mpr lv z9
  obtain ⟨r, h0, cell, q1, q2, q3, q4⟩ := hP k1 _ e1
  have hr : r = (RJ0, TJ0, 4) := Option.some.inj (h0.symm.trans rfl)
  subst hr
  obtain ⟨hS, hfc, kC, hkC, hkind⟩ := hK.1 0 _ (show vwCl[0]? = some (RJ0, TJ0, 4) from rfl)
  have fld : ∀ k v9, k < 4 → ([.ref v, .int (nI 0), .int (nI h1), .int (nI h2)] : List Value)[k]? = some v9 → va_OF (TJ0 k).1 (TJ0 k).2.1 (TJ0 k).2.2.1 v9 q (zB H.size) s H := fun k v9 hk hv => by
    obtain ⟨cf, kf, fi, f, hi, hsl⟩ := hS k hk
    refine ⟨cf, kf, fi, f, cell, hi, (u_facts hfc hkC (u_lays hts hin hk) hi).1, q1, (by rw [q3]; exact fun h => nomatch h), ?_, nq⟩
    rw [hsl, q4 k hk]
    simp [vp_V, hv]
  refine ⟨⟨cell, q1, by rw [q3]; rfl, by rw [q2]; exact hfc, nq⟩, fld 1 _ (by decide) rfl, v, g, fld 0 _ (by decide) rfl, ?_, fun j _ => hg j⟩
  refine ⟨vp_cell cB (n, .inl g), hP k2 _ e2, (hK.2 0 _ rfl).1 n (fun j => .int (g j)), (fun h => by cases h), ?_, ?_, fun j hj => ?_, nv⟩
  · show n ≤ (arrV cB n (fun j => .int (g j))).slots.size
    rw [arrV_size]
    exact Nat.le_refl _
  · show (arrV cB n (fun j => .int (g j))).slots.size.toInt32 = Int32.ofNat n
    rw [arrV_size]
  · show (arrV cB n (fun j => .int (g j))).slots[j]? = _
    rw [arrV_read _ _ hj]
end KT1
section KT2
variable {p : Program} {l : Launch} {e : Env} {R : Room} {s : State} {m : MethodId} {args : Array Value} {below : List Frame} {meth : Method} {c : Code} {H : Heap} {locs : List Loc} {cells slots : Nat} {Q : State → Prop}
variable {cc : ByteArray} {pc : Nat} {ls : Array Slot} {rest st0 : List Value} {dC : Nat → ClassId} {dI : Nat → Nat → Nat} {cB : ClassId} {am : Nat → Nat} {z : Nat} {G : va_W} {M : MS} {Ts : List Cond} {index sl a b n cp n2 : Nat} {own : String} {mc ms : Nat} {av : Array Value} {f : Nat → Int32}
theorem km_newB (hx : p.tables.exec = Jvm.exec) (hb : c.code = cc) (hts : ∀ w ∈ Ts, w.before args s = true) (hin : ∀ w ∈ u_ws RJ4 TJ4 4, w ∈ Ts) (hown : s.vm.findClass own = some m.cls) (hcl : (Cond.classLink own index RJ4).before args s = true) (hinst : (Cond.instantiable RJ4 4).before args s = true) (hini : (Cond.initialized RJ4).before args s = true) (hX : WM dC dI am M [] (AY am s.heap.size) s H locs) (hcells : cells + 1 ≤ R.cells) (hslots : slots + 4 ≤ R.slots) (hdg : decode cc pc = .ok (.new index, 3))
    (kk : ∀ (z : Nat) (H1 : Heap), z = H.size → WM dC dI am M [] (AY am s.heap.size) s H1 locs → TM dC dI cB am z [(z, .inr (1, [.null, .int (nI 0), .int (nI 0), .int (nI 0)]))] s H1 → (∀ A q n, SV A q n s H → SV A q n s H1) → W p l e R s m args below meth c H1 locs (cells + 1) (slots + 4) Q (F0 m (pc + 3) ls (.ref z :: rest))) : W p l e R s m args below meth c H locs cells slots Q (F0 m pc ls rest) := by
  have hKn := hX.2.1.1 1 _ (show vwCl[1]? = some (RJ4, TJ4, 4) from rfl)
  refine W.newcK hx hb hown hcl hinst hini rfl hdg hcells hslots hKn.2.1 rfl fun H1 kC hkC e1 z1 o1 => ?_
  refine kk H.size H1 rfl ⟨hX.1.kept (fun k x hx => o1 x.1 ((hX.1 k x hx).lt)), hX.2.1, hX.2.2.1, ⟨Nat.le_trans hX.2.2.2.1 (by omega), fun x h1 h2 => (o1 x (Nat.lt_of_lt_of_le h1 hX.2.2.2.1)).trans (hX.2.2.2.2.1 x h1 h2), hX.2.2.2.2.2⟩⟩ ⟨fun k x hx => ?_, ⟨fun i j x y hi hj _ => ?_, fun k x hx => ?_⟩, hX.2.2.2.1, by omega⟩ (fun A q n h => h.kept (fun a ha _ => o1 a ha))
  · have hz : k < 1 := (List.getElem?_eq_some_iff.mp hx).1
    obtain rfl : k = 0 := by omega
    cases hx
    exact ⟨_, rfl, (u_born tyJ4 hts hin hKn hkC e1 tyJ4_ok).to (fun j hj => by rcases (show j = 0 ∨ j = 1 ∨ j = 2 ∨ j = 3 by omega) with rfl | rfl | rfl | rfl <;> rfl)⟩
  · have h1 : i < 1 := (List.getElem?_eq_some_iff.mp hi).1
    have h2 : j < 1 := (List.getElem?_eq_some_iff.mp hj).1
    omega
  · have hz : k < 1 := (List.getElem?_eq_some_iff.mp hx).1
    obtain rfl : k = 0 := by omega
    cases hx
    exact Nat.le_refl _
theorem ktm_v {S1 : Type} {post : S1 → Prop} {Gf : S1 → va_W} (hr : va_Run p l e R s m args below meth c H locs cells slots mc ms (F0 m pc ls st0) rest (va_Qv post (fun u t => PB dC dI cB z (Gf u) t) (zB z) av) (zB z)) (hK : KT dC dI cB am s) (hX : WM dC dI am M [] (AY am s.heap.size) s H locs) (hT : TM dC dI cB am z G s H)
    (kk : ∀ (u : S1) (H1 : Heap) (locs1 : List Loc), post u → WM dC dI am M [] (AY am s.heap.size) s H1 locs1 → TM dC dI cB am z (Gf u) s H1 → (∀ q n, SV (zB z) q n s H → SV (zB z) q n s H1) → W p l e R s m args below meth c H1 locs1 (cells + mc) (slots + ms) Q (F0 m (pc + 3) ls rest)) : W p l e R s m args below meth c H locs cells slots Q (F0 m pc ls st0) :=
  va_callv hr hX.2.2.2 (fun q _ h => Or.inr (Nat.le_trans hT.2.2.1 h)) (fun q h => Or.inr (Nat.le_trans hT.2.2.1 h)) (fun u t H1 locs1 ht hvm hp hb1 _ hk hS => kk u H1 locs1 hp (hX.keptZ hK hT.2.2.1 hk hS) ⟨by rw [← ht]; exact hb1.1, hb1.2.2.1, hT.2.2.1, by rw [← ht]; exact hb1.2.2.2.1⟩ (fun q n h => h.kept hk))
theorem ktm_r {S1 : Type} {post : S1 → Prop} {Gf : S1 → Nat → va_W} {ra : S1 → Nat → Prop} (hr : va_Run p l e R s m args below meth c H locs cells slots mc ms (F0 m pc ls st0) rest (va_Qr post (fun u q t => ra u q ∧ PB dC dI cB z (Gf u q) t) (zB z) av) (zB z)) (hK : KT dC dI cB am s) (hX : WM dC dI am M [] (AY am s.heap.size) s H locs) (hT : TM dC dI cB am z G s H)
    (kk : ∀ (u : S1) (q : Nat) (H1 : Heap) (locs1 : List Loc), post u → ra u q → WM dC dI am M [] (AY am s.heap.size) s H1 locs1 → TM dC dI cB am z (Gf u q) s H1 → (∀ q n, SV (zB z) q n s H → SV (zB z) q n s H1) → W p l e R s m args below meth c H1 locs1 (cells + mc) (slots + ms) Q (F0 m (pc + 3) ls (.ref q :: rest))) : W p l e R s m args below meth c H locs cells slots Q (F0 m pc ls st0) :=
  va_callr hr hX.2.2.2 (fun q _ h => Or.inr (Nat.le_trans hT.2.2.1 h)) (fun q h => Or.inr (Nat.le_trans hT.2.2.1 h)) (fun u q t H1 locs1 ht hvm hp hb1 _ hk hS => kk u q H1 locs1 hp hb1.1 (hX.keptZ hK hT.2.2.1 hk hS) ⟨by rw [← ht]; exact hb1.2.1, hb1.2.2.2.1, hT.2.2.1, by rw [← ht]; exact hb1.2.2.2.2.1⟩ (fun q n h => h.kept hk))
theorem ktm_app (N : Nat) (hr : va_Run p l e R s m args below meth c H locs cells (sl + 2 * cp) 1 (gm n2 cp) (F0 m pc ls st0) rest (va_Qr (fun u : Nat × (Nat → Int32) => sb_Fit u.2) (fun u q9 t => q9 = a ∧ PB dC dI cB z [(a, eSB u.1 n2), (u.1, eBy cB (sb_cap n2 cp) u.2)] t) (zB z) av) (zB z)) (hK : KT dC dI cB am s) (hX : WM dC dI am M [] (AY am s.heap.size) s H locs) (hT : TM dC dI cB am z [(a, eSB b n), (b, eBy cB cp f)] s H) (hq : n2 ≤ N) (hc : cp ≤ 2 * N)
    (kk : ∀ (b2 c2 : Nat) (f2 : Nat → Int32) (H1 : Heap) (locs1 : List Loc), WM dC dI am M [] (AY am s.heap.size) s H1 locs1 → TM dC dI cB am z [(a, eSB b2 n2), (b2, eBy cB c2 f2)] s H1 → (∀ q n, SV (zB z) q n s H → SV (zB z) q n s H1) → sb_Fit f2 → n2 ≤ c2 → cp ≤ c2 → c2 ≤ 2 * N → W p l e R s m args below meth c H1 locs1 (cells + 1) (sl + 2 * c2) Q (F0 m (pc + 3) ls (.ref a :: rest))) : W p l e R s m args below meth c H locs cells (sl + 2 * cp) Q (F0 m pc ls st0) := by
  refine ktm_r hr hK hX hT (fun u q9 H1 locs1 hu hq9 hX1 hT1 hk1 => ?_)
  rw [hq9]
  refine W.widen (Nat.le_refl _) (show sl + 2 * cp + gm n2 cp ≤ sl + 2 * sb_cap n2 cp by have := gm_pot n2 cp; omega) ?_
  exact kk u.1 (sb_cap n2 cp) u.2 H1 locs1 hX1 hT1 hk1 hu (sb_cap_ge _ _) (sb_cap_gem _ _) (cap_b hq hc)
/-- the end of a round: the text made, the builder left behind -/
theorem ktm_str (hts : ∀ w ∈ Ts, w.before args s = true) (hin : ∀ w ∈ u_ws RJ0 TJ0 4, w ∈ Ts) (hr : va_Run p l e R s m args below meth c H locs cells slots mc ms (F0 m pc ls st0) rest (va_Qr (fun u : Nat × (Nat → Int32) => sb_Fit u.2) (fun u q9 t => True ∧ PB dC dI cB z [(a, eSB b n), (b, eBy cB cp f), (q9, .inr (0, [.ref u.1, .int (nI 0), .int (nI 0), .int (nI 0)])), (u.1, eBy cB n u.2)] t) (zB z) av) (zB z)) (hK : KT dC dI cB am s) (hX : WM dC dI am M [] (AY am s.heap.size) s H locs) (hT : TM dC dI cB am z G s H)
    (kk : ∀ (q : Nat) (H1 : Heap) (locs1 : List Loc), WM dC dI am M [] (AY am s.heap.size) s H1 locs1 → SV (zB H1.size) q n s H1 → W p l e R s m args below meth c H1 locs1 (cells + mc) (slots + ms) Q (F0 m (pc + 3) ls (.ref q :: rest))) : W p l e R s m args below meth c H locs cells slots Q (F0 m pc ls st0) :=
  ktm_r hr hK hX hT (fun u q9 H1 locs1 hu _ hX1 hT1 _ => kk q9 H1 locs1 hX1 (SV_of hts hin hK.1 hT1.1 2 3 rfl rfl hu))
end KT2
/-! room of texts -/
def slR (a b : Nat) : Nat → Nat
  | 0 => 0
  | k + 1 => slR a b k + (5 * (a * (k + 1) + b) + 8)
theorem slR_s (a b k : Nat) : slR a b (k + 1) = slR a b k + (5 * (a * (k + 1) + b) + 8) := rfl
theorem slR_mono {a b : Nat} : ∀ {n k : Nat}, k ≤ n → slR a b k ≤ slR a b n
  | 0, k, h => by rw [Nat.le_zero.mp h]; exact Nat.le_refl _
  | n + 1, k, h => by
    by_cases e : k = n + 1
    · rw [e]; exact Nat.le_refl _
    · exact Nat.le_trans (slR_mono (show k ≤ n by omega)) (by rw [slR_s]; exact Nat.le_add_right _ _)
def rkT (r : Nat → Nat) (n k a : Nat) : Nat := cntB (fun y => decide (r y < k)) n + cntB (fun y => decide (r y = k)) a
theorem rkT_s {r : Nat → Nat} {n k a : Nat} (h : r a = k) : rkT r n k (a + 1) = rkT r n k a + 1 := by
  unfold rkT
  rw [cntB_t (show decide (r a = k) = true from decide_eq_true h)]
  rfl
theorem rkT_f {r : Nat → Nat} {n k a : Nat} : rkT r n k a ≤ rkT r n k (a + 1) := Nat.add_le_add_left (cntB_grow _ (Nat.le_succ a)) _
theorem rkT_le {r : Nat → Nat} {n k a : Nat} (h : a ≤ n) : rkT r n k a ≤ n :=
  Nat.le_trans (Nat.add_le_add_left (cntB_grow _ h) _) (cntB_two (fun y h1 h2 => by have := of_decide_eq_true h1; have := of_decide_eq_true h2; omega) n)
theorem rkT_n {r : Nat → Nat} {n k : Nat} : rkT r n k n = rkT r n (k + 1) 0 := by
  show cntB (fun y => decide (r y < k)) n + cntB (fun y => decide (r y = k)) n = cntB (fun y => decide (r y < k + 1)) n
  induction n with
  | zero => rfl
  | succ n ih =>
    by_cases h1 : r n < k
    · rw [cntB_t (p := fun y => decide (r y < k)) (decide_eq_true h1), cntB_f (p := fun y => decide (r y = k)) (decide_eq_false (by omega)), cntB_t (p := fun y => decide (r y < k + 1)) (decide_eq_true (by omega))]
      omega
    · by_cases h2 : r n = k
      · rw [cntB_f (p := fun y => decide (r y < k)) (decide_eq_false h1), cntB_t (p := fun y => decide (r y = k)) (decide_eq_true h2), cntB_t (p := fun y => decide (r y < k + 1)) (decide_eq_true (by omega))]
        omega
      · rw [cntB_f (p := fun y => decide (r y < k)) (decide_eq_false h1), cntB_f (p := fun y => decide (r y = k)) (decide_eq_false h2), cntB_f (p := fun y => decide (r y < k + 1)) (decide_eq_false (by omega))]
        exact ih
theorem rkT_to {r : Nat → Nat} {n k a ct : Nat} (h : ct ≤ rkT r n k a) (e : a = n) : ct ≤ rkT r n (k + 1) 0 := by
  rw [← rkT_n, ← e]
  rw [← e] at h
  exact h
set_option maxHeartbeats 4000000 in
set_option maxRecDepth 100000 in
theorem m_X6_text (l : Launch) (dC : Nat → ClassId) (dI : Nat → Nat → Nat) (cB : ClassId) (am : Nat → Nat) (M : MS) (i : Nat) (hi : i < 3) (hI : InvM M) : Met l yX6_text wsX6_text ({ frames := 6, cells := 144, slots := 6928, locals := 151 } : Room) (va_Pc [.ref (am 0), .int (nI i)] (PMT dC dI cB am M)) (va_Qr (fun M1 : MS => M1 = thM M 0) (fun M1 _ t => PM dC dI am M1 t) (AM am)) 144 6928 (AM am) := by
  refine Met.ofW (cc := cX6_text) (maxL := 4) (ret := (some (.object "java/lang/String"))) pl_X6 rfl ?_
  intro p e s m args below meth c s₁ B hml hv
  obtain ⟨rfl, hPM⟩ := hv
  have hx := B.exec
  have hb := B.bytes
  have hr := B.returns
  have hts := atoms_spec (ws := wsX6_text) B.pre
  have hown : s.vm.findClass RX6 = some m.cls := findClass_of_methodNamed B.named
  have hlocks := B.notSynchronized
  have hin6 : ∀ w ∈ u_ws RX6 TX6 10, w ∈ wsX6_text := tu 1331 (by decide +kernel) rfl
  have hinJ4 : ∀ w ∈ u_ws RJ4 TJ4 4, w ∈ wsX6_text := tu 1326 (by decide +kernel) rfl
  have hinJ0 : ∀ w ∈ u_ws RJ0 TJ0 4, w ∈ wsX6_text := tu 1327 (by decide +kernel) rfl
  have hK := KT.of hPM
  have hCM := hPM.2.2.2
  have hX := WM.ofY hPM.1
  have hl := lv_entry ([.ref (am 0), .int (nI i)]) (n := 4) (Nat.le_of_ble_eq_true rfl)
  rw [lg_entry_eq]
  generalize (lg_sl ([.ref (am 0), .int (nI i)]) ++ List.replicate (4 - (lg_sl ([.ref (am 0), .int (nI i)])).length) Slot.unset).toArray = ls at hl ⊢
  have hl : lv_has ls 4 [(0, .ref (am 0)), (1, .int (nI i))] := hl
  show W p l e ({ frames := 6, cells := 144, slots := 6928, locals := 151 } : Room) s m ([.ref (am 0), .int (nI i)]).toArray below meth c s.heap [] 0 0 (MQ below (va_Qr (fun M1 : MS => M1 = thM M 0) (fun M1 _ t => PM dC dI am M1 t) (AM am)) ([.ref (am 0), .int (nI i)]).toArray s 144 6928 (AM am)) (F0 m 0 ls [])
  have hn := (hI.1 i (by omega)).1
  refine lv_aload_n hx hb dX6_text_0 rfl (lv_at hl 0 rfl) ?_
  refine lv_iload_n hx hb dX6_text_1 rfl (lv_at hl 1 rfl) ?_
  refine kx_cr (v := bI false) (va_runS (As := [.int (nI i)]) (rest := [.ref (am 0)]) ⟨hx, hb, hml, hown, hts⟩ (m_X6_isNoRow l dC dI am M (nI i)) (va_cwS 1 hts gX6_text_X6_isNoRow rfl rfl rfl hdX6_isNoRow_1.2 ⟨Nat.le_of_ble_eq_true rfl, Nat.le_of_ble_eq_true rfl⟩) hX.preS rfl rfl hl.1 rfl (lv_room (Nat.le_of_ble_eq_true rfl)) dX6_text_2 ⟨by show _ ≤ 144; omega, by show _ ≤ 6928; omega⟩) (fun _ h => h.trans (isNo_ok (by omega) (by omega))) ?_
  refine lv_iconst (v := nI 1) hx hb dX6_text_5 (by decide) ?_
  refine km_ci (va_runV (As := [.int (bI false), .int (nI 1)]) (rest := []) ⟨hx, hb, hml, hown, hts⟩ (m_X6_start l dC dI am M false 1 (by omega)) (cwV 2 hts gX6_text_X6_start rfl rfl rfl hdX6_start_2 ⟨Nat.le_of_ble_eq_true rfl, Nat.le_of_ble_eq_true rfl⟩) (hX.preObj) rfl rfl hl.1 rfl (lv_room (Nat.le_of_ble_eq_true rfl)) dX6_text_6 ⟨by show _ ≤ 144; omega, by show _ ≤ 6928; omega⟩) hX (fun _ h => Or.inl h) (fun r_ S_ H locs hw hX => ?_)
  obtain ⟨rfl, rfl⟩ := hw
  refine kb_if_eq (tgt := 15) hx hb dX6_text_9 (by decide) (fun k_1 => ?_) (fun k_1 => absurd k_1 (by decide))
  obtain ⟨ac2, hr2, hV⟩ := CM.at hCM hX (A := (zB H.size)) (c := (95, "", 0)) (by decide) (fun q hq => Or.inr (Nat.le_trans hX.2.2.2.1 hq))
  replace hV : SV (zB H.size) ac2 0 s H := hV
  refine va_ldcS hx hb hown hr2 dX6_text_15 ?_
  refine lv_astore_n (lv' := [(2, .ref ac2), (0, .ref (am 0)), (1, .int (nI i))]) hx hb dX6_text_17 rfl hl (by decide) rfl (fun ls hl => ?_)
  refine lv_iconst (v := nI 0) hx hb dX6_text_18 (by decide) ?_
  refine lv_istore_n (lv' := [(3, .int (nI 0)), (2, .ref ac2), (0, .ref (am 0)), (1, .int (nI i))]) hx hb dX6_text_19 rfl hl (by decide) rfl (fun ls hl => ?_)
  have loop20 : ∀ (fuel : Nat) (k qm nm : Nat) (hk : k ≤ (M.1 i).2.2) (hnm : nm ≤ 10 * k) (H : Heap) (locs : List Loc), (M.1 i).2.2 - k < fuel → WM dC dI am (mN M (0, M.2.2.2.1, M.2.2.2.2.1, M.2.2.2.2.2)) [] (AY am s.heap.size) s H locs → SV (zB H.size) qm nm s H → ∀ ls : Array Slot, lv_has ls 4 [(0, .ref (am 0)), (1, .int (nI i)), (2, .ref qm), (3, .int (nI k))] → W p l e ({ frames := 6, cells := 144, slots := 6928, locals := 151 } : Room) s m ([.ref (am 0), .int (nI i)]).toArray below meth c H locs (9 * k) (slR 10 0 k) (MQ below (va_Qr (fun M1 : MS => M1 = thM M 0) (fun M1 _ t => PM dC dI am M1 t) (AM am)) ([.ref (am 0), .int (nI i)]).toArray s 144 6928 (AM am)) (F0 m 20 ls []) := by
    intro fuel
    induction fuel with
    | zero => intro k qm nm hk hnm H locs hf9; exact absurd hf9 (Nat.not_lt_zero _)
    | succ fuel ih20 =>
      intro k qm nm hk hnm H locs hf9 hX hV ls hl
      refine lv_iload_n hx hb dX6_text_20 rfl (lv_at hl 3 rfl) ?_
      refine lv_aload_n hx hb dX6_text_21 rfl (lv_at hl 0 rfl) ?_
      refine km_gsizes hx hb hts hin6 hown hX (hts (.fieldLink RX6 17 "OrderlatticeModel" "sizes" "[I") (tm 681 (by decide +kernel) rfl)) dX6_text_22 ?_
      refine lv_iload_n hx hb dX6_text_25 rfl (lv_at hl 1 rfl) ?_
      refine km_lz (v := (M.1 i).2.2) hx hb hX (by omega) rfl dX6_text_26 ?_
      refine kn_icmp_ge (tgt := 92) hx hb (by omega) (by omega) dX6_text_27 (by decide) (fun k_3 => ?_) (fun k_3 => ?_)
      · skip
        refine lv_aload_n hx hb dX6_text_92 rfl (lv_at hl 2 rfl) ?_
        have hs7 : slR 10 0 k ≤ 6928 := Nat.le_trans (slR_mono (show k ≤ 16 by omega)) (by decide)
        exact W.widen (k := 144) (n := 6928) (by omega) (by omega) (W.filt (fun locs1 hl1 => W.aret (v := .ref qm) hx hb hr (Or.inl ⟨_, rfl⟩) (Or.inr ⟨_, rfl⟩) (fun t9 ht9 hW9 => ⟨⟨(mN M (0, M.2.2.2.1, M.2.2.2.2.1, M.2.2.2.2.2)), _, rfl, rfl, hX.P ht9 hW9⟩, (hX.2.2.2.F ht9).Y⟩) (free_Y hX.2.2.2 hl1) dX6_text_93))
      · skip
        have hs8 := slR_s 10 0 k
        have hs9 : slR 10 0 (k + 1) ≤ 6928 := Nat.le_trans (slR_mono (show k + 1 ≤ 16 by omega)) (by decide)
        have hv9 := (hI.1 i (by omega)).2 k (by omega)
        refine km_newB (cB := cB) hx hb hts hinJ4 hown (hts (.classLink RX6 97 RJ4) (tm 775 (by decide +kernel) rfl)) (hts (.instantiable RJ4 4) (tm 374 (by decide +kernel) rfl)) (hts (.initialized RJ4) (tm 328 (by decide +kernel) rfl)) hX (by show _ ≤ 144; omega) (by show _ ≤ 6928; omega) dX6_text_30 (fun z9 H hz9 hX hT hk9 => ?_)
        have hV := hk9 _ _ _ hV
        rw [← hz9] at hV
        clear hz9 hk9
        refine lv_dup hx hb dX6_text_33 rfl ?_
        refine ktm_v (va_runI (As := []) (rest := [.ref z9]) ⟨hx, hb, hml, hown, hts⟩ (m_J4_init_da8c8 l dC dI cB z9 z9) (cwI 0 hts gX6_text_J4_init_da8c8 rfl rfl rfl (hts (.initialized yJ4_init_da8c8.cls) (tm 328 (by decide +kernel) rfl)) (hts (.methodLink RX6 99 yJ4_init_da8c8) (tm 776 (by decide +kernel) rfl)) (hts (.instanceMethod yJ4_init_da8c8) (tm 414 (by decide +kernel) rfl)) rfl (by decide +kernel) ⟨Nat.le_of_ble_eq_true rfl, Nat.le_of_ble_eq_true rfl⟩) (hT.preS hK hX) rfl rfl hl.1 rfl (lv_room (Nat.le_of_ble_eq_true rfl)) dX6_text_34 ⟨by show _ ≤ 144; omega, by show _ ≤ 6928; omega⟩) hK hX hT (fun b0 H locs _ hX hT hk9 => ?_)
        have hV := hk9 _ _ hV
        refine W.widen (k := 9 * k + 2) (n := slR 10 0 k + 4 + 2 * 16) (by omega) (by omega) ?_
        have hf : sb_Fit (fun _ => 0) := sb_fit0
        refine lv_aload_n hx hb dX6_text_37 rfl (lv_at hl 2 rfl) ?_
        have hcb := cap_b (q := 0 + nm) (cp := 16) (Q := (10 * (k + 1))) (by omega) (by omega)
        refine ktm_app (sl := slR 10 0 k + 4) (n2 := 0 + nm) (10 * (k + 1)) (va_runV (As := [.ref qm]) (rest := []) ⟨hx, hb, hml, hown, hts⟩ (m_J4_append_15ec4 l dC dI cB z9 z9 b0 0 16 (fun _ => 0) qm nm (by omega) (by omega) (by omega) hf (by omega) (by omega)) (cwV 1 hts gX6_text_J4_append_15ec4 rfl rfl rfl hdJ4_append_15ec4_1 ⟨Nat.le_of_ble_eq_true rfl, Nat.le_of_ble_eq_true rfl⟩) (hT.preVV hK hX hV (ci := 1) (r := (RJ4, TJ4, 4)) rfl 0 rfl) rfl rfl hl.1 rfl (lv_room (Nat.le_of_ble_eq_true rfl)) dX6_text_38 ⟨by show _ ≤ 144; omega, by show _ ≤ 6928; have := gm_pot (0 + nm) 16; omega⟩) hK hX hT (by omega) (by omega) (fun b_4 c_4 f_4 H locs hX hT hk9 hf _ _ _ => ?_)
        have hV := hk9 _ _ hV
        refine lv_iload_n hx hb dX6_text_41 rfl (lv_at hl 3 rfl) ?_
        refine kn_if_ne (tgt := 50) hx hb (by omega) dX6_text_42 (by decide) (fun k_5 => ?_) (fun k_5 => ?_)
        · skip
          obtain ⟨ac6, hr6, hVc⟩ := CM.at hCM hX (A := (zB z9)) (c := (104, " ", 1)) (by decide) (fun q hq => Or.inr (Nat.le_trans hT.2.2.1 hq))
          replace hVc : SV (zB z9) ac6 1 s H := hVc
          refine va_ldcS hx hb hown hr6 dX6_text_50 ?_
          have hcb := cap_b (q := 0 + nm + 1) (cp := c_4) (Q := (10 * (k + 1))) (by omega) (by omega)
          refine ktm_app (sl := slR 10 0 k + 4) (n2 := 0 + nm + 1) (10 * (k + 1)) (va_runV (As := [.ref ac6]) (rest := []) ⟨hx, hb, hml, hown, hts⟩ (m_J4_append_15ec4 l dC dI cB z9 z9 b_4 (0 + nm) c_4 f_4 ac6 1 (by omega) (by omega) (by omega) hf (by omega) (by omega)) (cwV 1 hts gX6_text_J4_append_15ec4 rfl rfl rfl hdJ4_append_15ec4_1 ⟨Nat.le_of_ble_eq_true rfl, Nat.le_of_ble_eq_true rfl⟩) (hT.preVV hK hX hVc (ci := 1) (r := (RJ4, TJ4, 4)) rfl 0 rfl) rfl rfl hl.1 rfl (lv_room (Nat.le_of_ble_eq_true rfl)) dX6_text_52 ⟨by show _ ≤ 144; omega, by show _ ≤ 6928; have := gm_pot (0 + nm + 1) c_4; omega⟩) hK hX hT (by omega) (by omega) (fun b_7 c_7 f_7 H locs hX hT hk9 hf _ _ _ => ?_)
          have hV := hk9 _ _ hV
          clear hVc
          refine lv_aload_n hx hb dX6_text_55 rfl (lv_at hl 0 rfl) ?_
          refine km_gvalues hx hb hts hin6 hown hX (hts (.fieldLink RX6 11 "OrderlatticeModel" "values" "[[I") (tm 710 (by decide +kernel) rfl)) dX6_text_56 ?_
          refine lv_iload_n hx hb dX6_text_59 rfl (lv_at hl 1 rfl) ?_
          refine km_av hx hb hX (by omega) dX6_text_60 ?_
          refine lv_iload_n hx hb dX6_text_61 rfl (lv_at hl 3 rfl) ?_
          refine km_lv (v := ((M.1 i).1) k) hx hb hX (by omega) (by omega) rfl dX6_text_62 ?_
          have hd1 := dg2 (v := ((M.1 i).1) k) (by omega)
          have hcb := cap_b (q := 0 + nm + 1 + sb_dg (((M.1 i).1) k)) (cp := c_7) (Q := (10 * (k + 1))) (by omega) (by omega)
          refine ktm_app (sl := slR 10 0 k + 4) (n2 := 0 + nm + 1 + sb_dg (((M.1 i).1) k)) (10 * (k + 1)) (va_runV (As := [.int (nI (((M.1 i).1) k))]) (rest := []) ⟨hx, hb, hml, hown, hts⟩ (m_J4_append_bf812 l dC dI cB z9 z9 b_7 (0 + nm + 1) c_7 f_7 (by omega) (by omega) hf (((M.1 i).1) k) (by omega) (by omega)) (cwV 1 hts gX6_text_J4_append_bf812 rfl rfl rfl hdJ4_append_bf812_1 ⟨Nat.le_of_ble_eq_true rfl, Nat.le_of_ble_eq_true rfl⟩) (hT.preV hK hX (ci := 1) (r := (RJ4, TJ4, 4)) rfl 0 rfl) rfl rfl hl.1 rfl (lv_room (Nat.le_of_ble_eq_true rfl)) dX6_text_63 ⟨by show _ ≤ 144; omega, by show _ ≤ 6928; have := gm_pot (0 + nm + 1 + sb_dg (((M.1 i).1) k)) c_7; omega⟩) hK hX hT (by omega) (by omega) (fun b_8 c_8 f_8 H locs hX hT hk9 hf _ _ _ => ?_)
          have hV := hk9 _ _ hV
          obtain ⟨ac9, hr9, hVc⟩ := CM.at hCM hX (A := (zB z9)) (c := (109, ".", 1)) (by decide) (fun q hq => Or.inr (Nat.le_trans hT.2.2.1 hq))
          replace hVc : SV (zB z9) ac9 1 s H := hVc
          refine va_ldcS hx hb hown hr9 dX6_text_66 ?_
          have hcb := cap_b (q := 0 + nm + 1 + sb_dg (((M.1 i).1) k) + 1) (cp := c_8) (Q := (10 * (k + 1))) (by omega) (by omega)
          refine ktm_app (sl := slR 10 0 k + 4) (n2 := 0 + nm + 1 + sb_dg (((M.1 i).1) k) + 1) (10 * (k + 1)) (va_runV (As := [.ref ac9]) (rest := []) ⟨hx, hb, hml, hown, hts⟩ (m_J4_append_15ec4 l dC dI cB z9 z9 b_8 (0 + nm + 1 + sb_dg (((M.1 i).1) k)) c_8 f_8 ac9 1 (by omega) (by omega) (by omega) hf (by omega) (by omega)) (cwV 1 hts gX6_text_J4_append_15ec4 rfl rfl rfl hdJ4_append_15ec4_1 ⟨Nat.le_of_ble_eq_true rfl, Nat.le_of_ble_eq_true rfl⟩) (hT.preVV hK hX hVc (ci := 1) (r := (RJ4, TJ4, 4)) rfl 0 rfl) rfl rfl hl.1 rfl (lv_room (Nat.le_of_ble_eq_true rfl)) dX6_text_68 ⟨by show _ ≤ 144; omega, by show _ ≤ 6928; have := gm_pot (0 + nm + 1 + sb_dg (((M.1 i).1) k) + 1) c_8; omega⟩) hK hX hT (by omega) (by omega) (fun b_10 c_10 f_10 H locs hX hT hk9 hf _ _ _ => ?_)
          have hV := hk9 _ _ hV
          clear hVc
          refine lv_aload_n hx hb dX6_text_71 rfl (lv_at hl 0 rfl) ?_
          refine km_gmarks hx hb hts hin6 hown hX (hts (.fieldLink RX6 14 "OrderlatticeModel" "marks" "[[I") (tm 711 (by decide +kernel) rfl)) dX6_text_72 ?_
          refine lv_iload_n hx hb dX6_text_75 rfl (lv_at hl 1 rfl) ?_
          refine km_am hx hb hX (by omega) dX6_text_76 ?_
          refine lv_iload_n hx hb dX6_text_77 rfl (lv_at hl 3 rfl) ?_
          refine km_lm (v := ((M.1 i).2.1) k) hx hb hX (by omega) (by omega) rfl dX6_text_78 ?_
          have hd2 := dg6 (v := ((M.1 i).2.1) k) (by omega)
          have hcb := cap_b (q := 0 + nm + 1 + sb_dg (((M.1 i).1) k) + 1 + sb_dg (((M.1 i).2.1) k)) (cp := c_10) (Q := (10 * (k + 1))) (by omega) (by omega)
          refine ktm_app (sl := slR 10 0 k + 4) (n2 := 0 + nm + 1 + sb_dg (((M.1 i).1) k) + 1 + sb_dg (((M.1 i).2.1) k)) (10 * (k + 1)) (va_runV (As := [.int (nI (((M.1 i).2.1) k))]) (rest := []) ⟨hx, hb, hml, hown, hts⟩ (m_J4_append_bf812 l dC dI cB z9 z9 b_10 (0 + nm + 1 + sb_dg (((M.1 i).1) k) + 1) c_10 f_10 (by omega) (by omega) hf (((M.1 i).2.1) k) (by omega) (by omega)) (cwV 1 hts gX6_text_J4_append_bf812 rfl rfl rfl hdJ4_append_bf812_1 ⟨Nat.le_of_ble_eq_true rfl, Nat.le_of_ble_eq_true rfl⟩) (hT.preV hK hX (ci := 1) (r := (RJ4, TJ4, 4)) rfl 0 rfl) rfl rfl hl.1 rfl (lv_room (Nat.le_of_ble_eq_true rfl)) dX6_text_79 ⟨by show _ ≤ 144; omega, by show _ ≤ 6928; have := gm_pot (0 + nm + 1 + sb_dg (((M.1 i).1) k) + 1 + sb_dg (((M.1 i).2.1) k)) c_10; omega⟩) hK hX hT (by omega) (by omega) (fun b_11 c_11 f_11 H locs hX hT hk9 hf _ _ _ => ?_)
          have hV := hk9 _ _ hV
          refine ktm_str hts hinJ0 (va_runV (As := []) (rest := []) ⟨hx, hb, hml, hown, hts⟩ (s_J4_toString_0e30d l dC dI cB z9 z9 b_11 (0 + nm + 1 + sb_dg (((M.1 i).1) k) + 1 + sb_dg (((M.1 i).2.1) k)) c_11 f_11 (by omega) (by omega) hf) (cwV 0 hts gX6_text_J4_toString_0e30d rfl rfl rfl hdJ4_toString_0e30d_0 ⟨Nat.le_of_ble_eq_true rfl, Nat.le_of_ble_eq_true rfl⟩) (hT.preV hK hX (ci := 1) (r := (RJ4, TJ4, 4)) rfl 0 rfl) rfl rfl hl.1 rfl (lv_room (Nat.le_of_ble_eq_true rfl)) dX6_text_82 ⟨by show _ ≤ 144; omega, by show _ ≤ 6928; omega⟩) hK hX hT (fun q_12 H locs hX hV => ?_)
          refine lv_astore_n (lv' := [(2, .ref q_12), (0, .ref (am 0)), (1, .int (nI i)), (3, .int (nI k))]) hx hb dX6_text_85 rfl hl (by decide) rfl (fun ls hl => ?_)
          refine lv_iinc (v := nI (k + 1)) (lv' := [(3, .int (nI (k + 1))), (2, .ref q_12), (0, .ref (am 0)), (1, .int (nI i))]) hx hb dX6_text_86 hl (k := 3) rfl (nI_1 k) (by decide) rfl (fun ls hl => ?_)
          refine lv_goto (tgt := 20) hx hb dX6_text_89 (by decide) ?_
          refine W.widen (k := 9 * (k + 1)) (n := slR 10 0 (k + 1)) (by omega) (by omega) ?_
          exact ih20  (k + 1) q_12 (0 + nm + 1 + sb_dg (((M.1 i).1) k) + 1 + sb_dg (((M.1 i).2.1) k)) (by omega) (by omega) _ _ (by omega) hX hV _ (lv_sub hl [2, 3, 1, 0] rfl)
        · skip
          obtain ⟨ac13, hr13, hVc⟩ := CM.at hCM hX (A := (zB z9)) (c := (95, "", 0)) (by decide) (fun q hq => Or.inr (Nat.le_trans hT.2.2.1 hq))
          replace hVc : SV (zB z9) ac13 0 s H := hVc
          refine va_ldcS hx hb hown hr13 dX6_text_45 ?_
          refine lv_goto (tgt := 52) hx hb dX6_text_47 (by decide) ?_
          have hcb := cap_b (q := 0 + nm + 0) (cp := c_4) (Q := (10 * (k + 1))) (by omega) (by omega)
          refine ktm_app (sl := slR 10 0 k + 4) (n2 := 0 + nm + 0) (10 * (k + 1)) (va_runV (As := [.ref ac13]) (rest := []) ⟨hx, hb, hml, hown, hts⟩ (m_J4_append_15ec4 l dC dI cB z9 z9 b_4 (0 + nm) c_4 f_4 ac13 0 (by omega) (by omega) (by omega) hf (by omega) (by omega)) (cwV 1 hts gX6_text_J4_append_15ec4 rfl rfl rfl hdJ4_append_15ec4_1 ⟨Nat.le_of_ble_eq_true rfl, Nat.le_of_ble_eq_true rfl⟩) (hT.preVV hK hX hVc (ci := 1) (r := (RJ4, TJ4, 4)) rfl 0 rfl) rfl rfl hl.1 rfl (lv_room (Nat.le_of_ble_eq_true rfl)) dX6_text_52 ⟨by show _ ≤ 144; omega, by show _ ≤ 6928; have := gm_pot (0 + nm + 0) c_4; omega⟩) hK hX hT (by omega) (by omega) (fun b_14 c_14 f_14 H locs hX hT hk9 hf _ _ _ => ?_)
          have hV := hk9 _ _ hV
          clear hVc
          refine lv_aload_n hx hb dX6_text_55 rfl (lv_at hl 0 rfl) ?_
          refine km_gvalues hx hb hts hin6 hown hX (hts (.fieldLink RX6 11 "OrderlatticeModel" "values" "[[I") (tm 710 (by decide +kernel) rfl)) dX6_text_56 ?_
          refine lv_iload_n hx hb dX6_text_59 rfl (lv_at hl 1 rfl) ?_
          refine km_av hx hb hX (by omega) dX6_text_60 ?_
          refine lv_iload_n hx hb dX6_text_61 rfl (lv_at hl 3 rfl) ?_
          refine km_lv (v := ((M.1 i).1) k) hx hb hX (by omega) (by omega) rfl dX6_text_62 ?_
          have hd1 := dg2 (v := ((M.1 i).1) k) (by omega)
          have hcb := cap_b (q := 0 + nm + 0 + sb_dg (((M.1 i).1) k)) (cp := c_14) (Q := (10 * (k + 1))) (by omega) (by omega)
          refine ktm_app (sl := slR 10 0 k + 4) (n2 := 0 + nm + 0 + sb_dg (((M.1 i).1) k)) (10 * (k + 1)) (va_runV (As := [.int (nI (((M.1 i).1) k))]) (rest := []) ⟨hx, hb, hml, hown, hts⟩ (m_J4_append_bf812 l dC dI cB z9 z9 b_14 (0 + nm + 0) c_14 f_14 (by omega) (by omega) hf (((M.1 i).1) k) (by omega) (by omega)) (cwV 1 hts gX6_text_J4_append_bf812 rfl rfl rfl hdJ4_append_bf812_1 ⟨Nat.le_of_ble_eq_true rfl, Nat.le_of_ble_eq_true rfl⟩) (hT.preV hK hX (ci := 1) (r := (RJ4, TJ4, 4)) rfl 0 rfl) rfl rfl hl.1 rfl (lv_room (Nat.le_of_ble_eq_true rfl)) dX6_text_63 ⟨by show _ ≤ 144; omega, by show _ ≤ 6928; have := gm_pot (0 + nm + 0 + sb_dg (((M.1 i).1) k)) c_14; omega⟩) hK hX hT (by omega) (by omega) (fun b_15 c_15 f_15 H locs hX hT hk9 hf _ _ _ => ?_)
          have hV := hk9 _ _ hV
          obtain ⟨ac16, hr16, hVc⟩ := CM.at hCM hX (A := (zB z9)) (c := (109, ".", 1)) (by decide) (fun q hq => Or.inr (Nat.le_trans hT.2.2.1 hq))
          replace hVc : SV (zB z9) ac16 1 s H := hVc
          refine va_ldcS hx hb hown hr16 dX6_text_66 ?_
          have hcb := cap_b (q := 0 + nm + 0 + sb_dg (((M.1 i).1) k) + 1) (cp := c_15) (Q := (10 * (k + 1))) (by omega) (by omega)
          refine ktm_app (sl := slR 10 0 k + 4) (n2 := 0 + nm + 0 + sb_dg (((M.1 i).1) k) + 1) (10 * (k + 1)) (va_runV (As := [.ref ac16]) (rest := []) ⟨hx, hb, hml, hown, hts⟩ (m_J4_append_15ec4 l dC dI cB z9 z9 b_15 (0 + nm + 0 + sb_dg (((M.1 i).1) k)) c_15 f_15 ac16 1 (by omega) (by omega) (by omega) hf (by omega) (by omega)) (cwV 1 hts gX6_text_J4_append_15ec4 rfl rfl rfl hdJ4_append_15ec4_1 ⟨Nat.le_of_ble_eq_true rfl, Nat.le_of_ble_eq_true rfl⟩) (hT.preVV hK hX hVc (ci := 1) (r := (RJ4, TJ4, 4)) rfl 0 rfl) rfl rfl hl.1 rfl (lv_room (Nat.le_of_ble_eq_true rfl)) dX6_text_68 ⟨by show _ ≤ 144; omega, by show _ ≤ 6928; have := gm_pot (0 + nm + 0 + sb_dg (((M.1 i).1) k) + 1) c_15; omega⟩) hK hX hT (by omega) (by omega) (fun b_17 c_17 f_17 H locs hX hT hk9 hf _ _ _ => ?_)
          have hV := hk9 _ _ hV
          clear hVc
          refine lv_aload_n hx hb dX6_text_71 rfl (lv_at hl 0 rfl) ?_
          refine km_gmarks hx hb hts hin6 hown hX (hts (.fieldLink RX6 14 "OrderlatticeModel" "marks" "[[I") (tm 711 (by decide +kernel) rfl)) dX6_text_72 ?_
          refine lv_iload_n hx hb dX6_text_75 rfl (lv_at hl 1 rfl) ?_
          refine km_am hx hb hX (by omega) dX6_text_76 ?_
          refine lv_iload_n hx hb dX6_text_77 rfl (lv_at hl 3 rfl) ?_
          refine km_lm (v := ((M.1 i).2.1) k) hx hb hX (by omega) (by omega) rfl dX6_text_78 ?_
          have hd2 := dg6 (v := ((M.1 i).2.1) k) (by omega)
          have hcb := cap_b (q := 0 + nm + 0 + sb_dg (((M.1 i).1) k) + 1 + sb_dg (((M.1 i).2.1) k)) (cp := c_17) (Q := (10 * (k + 1))) (by omega) (by omega)
          refine ktm_app (sl := slR 10 0 k + 4) (n2 := 0 + nm + 0 + sb_dg (((M.1 i).1) k) + 1 + sb_dg (((M.1 i).2.1) k)) (10 * (k + 1)) (va_runV (As := [.int (nI (((M.1 i).2.1) k))]) (rest := []) ⟨hx, hb, hml, hown, hts⟩ (m_J4_append_bf812 l dC dI cB z9 z9 b_17 (0 + nm + 0 + sb_dg (((M.1 i).1) k) + 1) c_17 f_17 (by omega) (by omega) hf (((M.1 i).2.1) k) (by omega) (by omega)) (cwV 1 hts gX6_text_J4_append_bf812 rfl rfl rfl hdJ4_append_bf812_1 ⟨Nat.le_of_ble_eq_true rfl, Nat.le_of_ble_eq_true rfl⟩) (hT.preV hK hX (ci := 1) (r := (RJ4, TJ4, 4)) rfl 0 rfl) rfl rfl hl.1 rfl (lv_room (Nat.le_of_ble_eq_true rfl)) dX6_text_79 ⟨by show _ ≤ 144; omega, by show _ ≤ 6928; have := gm_pot (0 + nm + 0 + sb_dg (((M.1 i).1) k) + 1 + sb_dg (((M.1 i).2.1) k)) c_17; omega⟩) hK hX hT (by omega) (by omega) (fun b_18 c_18 f_18 H locs hX hT hk9 hf _ _ _ => ?_)
          have hV := hk9 _ _ hV
          refine ktm_str hts hinJ0 (va_runV (As := []) (rest := []) ⟨hx, hb, hml, hown, hts⟩ (s_J4_toString_0e30d l dC dI cB z9 z9 b_18 (0 + nm + 0 + sb_dg (((M.1 i).1) k) + 1 + sb_dg (((M.1 i).2.1) k)) c_18 f_18 (by omega) (by omega) hf) (cwV 0 hts gX6_text_J4_toString_0e30d rfl rfl rfl hdJ4_toString_0e30d_0 ⟨Nat.le_of_ble_eq_true rfl, Nat.le_of_ble_eq_true rfl⟩) (hT.preV hK hX (ci := 1) (r := (RJ4, TJ4, 4)) rfl 0 rfl) rfl rfl hl.1 rfl (lv_room (Nat.le_of_ble_eq_true rfl)) dX6_text_82 ⟨by show _ ≤ 144; omega, by show _ ≤ 6928; omega⟩) hK hX hT (fun q_19 H locs hX hV => ?_)
          refine lv_astore_n (lv' := [(2, .ref q_19), (0, .ref (am 0)), (1, .int (nI i)), (3, .int (nI k))]) hx hb dX6_text_85 rfl hl (by decide) rfl (fun ls hl => ?_)
          refine lv_iinc (v := nI (k + 1)) (lv' := [(3, .int (nI (k + 1))), (2, .ref q_19), (0, .ref (am 0)), (1, .int (nI i))]) hx hb dX6_text_86 hl (k := 3) rfl (nI_1 k) (by decide) rfl (fun ls hl => ?_)
          refine lv_goto (tgt := 20) hx hb dX6_text_89 (by decide) ?_
          refine W.widen (k := 9 * (k + 1)) (n := slR 10 0 (k + 1)) (by omega) (by omega) ?_
          exact ih20  (k + 1) q_19 (0 + nm + 0 + sb_dg (((M.1 i).1) k) + 1 + sb_dg (((M.1 i).2.1) k)) (by omega) (by omega) _ _ (by omega) hX hV _ (lv_sub hl [2, 3, 1, 0] rfl)
  refine W.widen (k := 9 * 0) (n := slR 10 0 0) (by omega) (by omega) ?_
  exact loop20 ((M.1 i).2.2 + 1) 0 ac2 0 (by omega) (by omega) _ _ (by omega) hX hV _ (lv_sub hl [2, 3, 1, 0] rfl)
set_option maxHeartbeats 4000000 in
set_option maxRecDepth 100000 in
theorem m_X6_orderText (l : Launch) (dC : Nat → ClassId) (dI : Nat → Nat → Nat) (cB : ClassId) (am : Nat → Nat) (M : MS) (j : Nat) (hj : j < 4) (hI : InvM M) : Met l yX6_orderText wsX6_orderText ({ frames := 6, cells := 144, slots := 6928, locals := 151 } : Room) (va_Pc [.ref (am 0), .int (nI j)] (PMT dC dI cB am M)) (va_Qr (fun M1 : MS => M1 = thM M 0) (fun M1 _ t => PM dC dI am M1 t) (AM am)) 144 6928 (AM am) := by
  refine Met.ofW (cc := cX6_orderText) (maxL := 4) (ret := (some (.object "java/lang/String"))) pl_X6 rfl ?_
  intro p e s m args below meth c s₁ B hml hv
  obtain ⟨rfl, hPM⟩ := hv
  have hx := B.exec
  have hb := B.bytes
  have hr := B.returns
  have hts := atoms_spec (ws := wsX6_orderText) B.pre
  have hown : s.vm.findClass RX6 = some m.cls := findClass_of_methodNamed B.named
  have hlocks := B.notSynchronized
  have hin6 : ∀ w ∈ u_ws RX6 TX6 10, w ∈ wsX6_orderText := tu 1331 (by decide +kernel) rfl
  have hinJ4 : ∀ w ∈ u_ws RJ4 TJ4 4, w ∈ wsX6_orderText := tu 1326 (by decide +kernel) rfl
  have hinJ0 : ∀ w ∈ u_ws RJ0 TJ0 4, w ∈ wsX6_orderText := tu 1327 (by decide +kernel) rfl
  have hK := KT.of hPM
  have hCM := hPM.2.2.2
  have hX := WM.ofY hPM.1
  have hl := lv_entry ([.ref (am 0), .int (nI j)]) (n := 4) (Nat.le_of_ble_eq_true rfl)
  rw [lg_entry_eq]
  generalize (lg_sl ([.ref (am 0), .int (nI j)]) ++ List.replicate (4 - (lg_sl ([.ref (am 0), .int (nI j)])).length) Slot.unset).toArray = ls at hl ⊢
  have hl : lv_has ls 4 [(0, .ref (am 0)), (1, .int (nI j))] := hl
  show W p l e ({ frames := 6, cells := 144, slots := 6928, locals := 151 } : Room) s m ([.ref (am 0), .int (nI j)]).toArray below meth c s.heap [] 0 0 (MQ below (va_Qr (fun M1 : MS => M1 = thM M 0) (fun M1 _ t => PM dC dI am M1 t) (AM am)) ([.ref (am 0), .int (nI j)]).toArray s 144 6928 (AM am)) (F0 m 0 ls [])
  have hn := (hI.2 j (by omega)).1
  refine lv_aload_n hx hb dX6_orderText_0 rfl (lv_at hl 0 rfl) ?_
  refine lv_iload_n hx hb dX6_orderText_1 rfl (lv_at hl 1 rfl) ?_
  refine kx_cr (v := bI false) (va_runS (As := [.int (nI j)]) (rest := [.ref (am 0)]) ⟨hx, hb, hml, hown, hts⟩ (m_X6_isNoOrder l dC dI am M (nI j)) (va_cwS 1 hts gX6_orderText_X6_isNoOrder rfl rfl rfl hdX6_isNoOrder_1.2 ⟨Nat.le_of_ble_eq_true rfl, Nat.le_of_ble_eq_true rfl⟩) hX.preS rfl rfl hl.1 rfl (lv_room (Nat.le_of_ble_eq_true rfl)) dX6_orderText_2 ⟨by show _ ≤ 144; omega, by show _ ≤ 6928; omega⟩) (fun _ h => h.trans (isNo_ok (by omega) (by omega))) ?_
  refine lv_iconst (v := nI 1) hx hb dX6_orderText_5 (by decide) ?_
  refine km_ci (va_runV (As := [.int (bI false), .int (nI 1)]) (rest := []) ⟨hx, hb, hml, hown, hts⟩ (m_X6_start l dC dI am M false 1 (by omega)) (cwV 2 hts gX6_orderText_X6_start rfl rfl rfl hdX6_start_2 ⟨Nat.le_of_ble_eq_true rfl, Nat.le_of_ble_eq_true rfl⟩) (hX.preObj) rfl rfl hl.1 rfl (lv_room (Nat.le_of_ble_eq_true rfl)) dX6_orderText_6 ⟨by show _ ≤ 144; omega, by show _ ≤ 6928; omega⟩) hX (fun _ h => Or.inl h) (fun r_ S_ H locs hw hX => ?_)
  obtain ⟨rfl, rfl⟩ := hw
  refine kb_if_eq (tgt := 15) hx hb dX6_orderText_9 (by decide) (fun k_1 => ?_) (fun k_1 => absurd k_1 (by decide))
  obtain ⟨ac2, hr2, hV⟩ := CM.at hCM hX (A := (zB H.size)) (c := (95, "", 0)) (by decide) (fun q hq => Or.inr (Nat.le_trans hX.2.2.2.1 hq))
  replace hV : SV (zB H.size) ac2 0 s H := hV
  refine va_ldcS hx hb hown hr2 dX6_orderText_15 ?_
  refine lv_astore_n (lv' := [(2, .ref ac2), (0, .ref (am 0)), (1, .int (nI j))]) hx hb dX6_orderText_17 rfl hl (by decide) rfl (fun ls hl => ?_)
  refine lv_iconst (v := nI 0) hx hb dX6_orderText_18 (by decide) ?_
  refine lv_istore_n (lv' := [(3, .int (nI 0)), (2, .ref ac2), (0, .ref (am 0)), (1, .int (nI j))]) hx hb dX6_orderText_19 rfl hl (by decide) rfl (fun ls hl => ?_)
  have loop20 : ∀ (fuel : Nat) (k qm nm : Nat) (hk : k ≤ (M.2.1 j).2.2) (hnm : nm ≤ 10 * k) (H : Heap) (locs : List Loc), (M.2.1 j).2.2 - k < fuel → WM dC dI am (mN M (0, M.2.2.2.1, M.2.2.2.2.1, M.2.2.2.2.2)) [] (AY am s.heap.size) s H locs → SV (zB H.size) qm nm s H → ∀ ls : Array Slot, lv_has ls 4 [(0, .ref (am 0)), (1, .int (nI j)), (2, .ref qm), (3, .int (nI k))] → W p l e ({ frames := 6, cells := 144, slots := 6928, locals := 151 } : Room) s m ([.ref (am 0), .int (nI j)]).toArray below meth c H locs (9 * k) (slR 10 0 k) (MQ below (va_Qr (fun M1 : MS => M1 = thM M 0) (fun M1 _ t => PM dC dI am M1 t) (AM am)) ([.ref (am 0), .int (nI j)]).toArray s 144 6928 (AM am)) (F0 m 20 ls []) := by
    intro fuel
    induction fuel with
    | zero => intro k qm nm hk hnm H locs hf9; exact absurd hf9 (Nat.not_lt_zero _)
    | succ fuel ih20 =>
      intro k qm nm hk hnm H locs hf9 hX hV ls hl
      refine lv_iload_n hx hb dX6_orderText_20 rfl (lv_at hl 3 rfl) ?_
      refine lv_aload_n hx hb dX6_orderText_21 rfl (lv_at hl 0 rfl) ?_
      refine km_gsteps hx hb hts hin6 hown hX (hts (.fieldLink RX6 29 "OrderlatticeModel" "steps" "[I") (tm 724 (by decide +kernel) rfl)) dX6_orderText_22 ?_
      refine lv_iload_n hx hb dX6_orderText_25 rfl (lv_at hl 1 rfl) ?_
      refine km_lt (v := (M.2.1 j).2.2) hx hb hX (by omega) rfl dX6_orderText_26 ?_
      refine kn_icmp_ge (tgt := 97) hx hb (by omega) (by omega) dX6_orderText_27 (by decide) (fun k_3 => ?_) (fun k_3 => ?_)
      · skip
        refine lv_aload_n hx hb dX6_orderText_97 rfl (lv_at hl 2 rfl) ?_
        have hs7 : slR 10 0 k ≤ 6928 := Nat.le_trans (slR_mono (show k ≤ 16 by omega)) (by decide)
        exact W.widen (k := 144) (n := 6928) (by omega) (by omega) (W.filt (fun locs1 hl1 => W.aret (v := .ref qm) hx hb hr (Or.inl ⟨_, rfl⟩) (Or.inr ⟨_, rfl⟩) (fun t9 ht9 hW9 => ⟨⟨(mN M (0, M.2.2.2.1, M.2.2.2.2.1, M.2.2.2.2.2)), _, rfl, rfl, hX.P ht9 hW9⟩, (hX.2.2.2.F ht9).Y⟩) (free_Y hX.2.2.2 hl1) dX6_orderText_98))
      · skip
        have hs8 := slR_s 10 0 k
        have hs9 : slR 10 0 (k + 1) ≤ 6928 := Nat.le_trans (slR_mono (show k + 1 ≤ 16 by omega)) (by decide)
        have hv9 := (hI.2 j (by omega)).2 k (by omega)
        refine km_newB (cB := cB) hx hb hts hinJ4 hown (hts (.classLink RX6 97 RJ4) (tm 775 (by decide +kernel) rfl)) (hts (.instantiable RJ4 4) (tm 374 (by decide +kernel) rfl)) (hts (.initialized RJ4) (tm 328 (by decide +kernel) rfl)) hX (by show _ ≤ 144; omega) (by show _ ≤ 6928; omega) dX6_orderText_30 (fun z9 H hz9 hX hT hk9 => ?_)
        have hV := hk9 _ _ _ hV
        rw [← hz9] at hV
        clear hz9 hk9
        refine lv_dup hx hb dX6_orderText_33 rfl ?_
        refine ktm_v (va_runI (As := []) (rest := [.ref z9]) ⟨hx, hb, hml, hown, hts⟩ (m_J4_init_da8c8 l dC dI cB z9 z9) (cwI 0 hts gX6_orderText_J4_init_da8c8 rfl rfl rfl (hts (.initialized yJ4_init_da8c8.cls) (tm 328 (by decide +kernel) rfl)) (hts (.methodLink RX6 99 yJ4_init_da8c8) (tm 776 (by decide +kernel) rfl)) (hts (.instanceMethod yJ4_init_da8c8) (tm 414 (by decide +kernel) rfl)) rfl (by decide +kernel) ⟨Nat.le_of_ble_eq_true rfl, Nat.le_of_ble_eq_true rfl⟩) (hT.preS hK hX) rfl rfl hl.1 rfl (lv_room (Nat.le_of_ble_eq_true rfl)) dX6_orderText_34 ⟨by show _ ≤ 144; omega, by show _ ≤ 6928; omega⟩) hK hX hT (fun b0 H locs _ hX hT hk9 => ?_)
        have hV := hk9 _ _ hV
        refine W.widen (k := 9 * k + 2) (n := slR 10 0 k + 4 + 2 * 16) (by omega) (by omega) ?_
        have hf : sb_Fit (fun _ => 0) := sb_fit0
        refine lv_aload_n hx hb dX6_orderText_37 rfl (lv_at hl 2 rfl) ?_
        have hcb := cap_b (q := 0 + nm) (cp := 16) (Q := (10 * (k + 1))) (by omega) (by omega)
        refine ktm_app (sl := slR 10 0 k + 4) (n2 := 0 + nm) (10 * (k + 1)) (va_runV (As := [.ref qm]) (rest := []) ⟨hx, hb, hml, hown, hts⟩ (m_J4_append_15ec4 l dC dI cB z9 z9 b0 0 16 (fun _ => 0) qm nm (by omega) (by omega) (by omega) hf (by omega) (by omega)) (cwV 1 hts gX6_orderText_J4_append_15ec4 rfl rfl rfl hdJ4_append_15ec4_1 ⟨Nat.le_of_ble_eq_true rfl, Nat.le_of_ble_eq_true rfl⟩) (hT.preVV hK hX hV (ci := 1) (r := (RJ4, TJ4, 4)) rfl 0 rfl) rfl rfl hl.1 rfl (lv_room (Nat.le_of_ble_eq_true rfl)) dX6_orderText_38 ⟨by show _ ≤ 144; omega, by show _ ≤ 6928; have := gm_pot (0 + nm) 16; omega⟩) hK hX hT (by omega) (by omega) (fun b_4 c_4 f_4 H locs hX hT hk9 hf _ _ _ => ?_)
        have hV := hk9 _ _ hV
        refine lv_iload_n hx hb dX6_orderText_41 rfl (lv_at hl 3 rfl) ?_
        refine kn_if_ne (tgt := 50) hx hb (by omega) dX6_orderText_42 (by decide) (fun k_5 => ?_) (fun k_5 => ?_)
        · skip
          obtain ⟨ac6, hr6, hVc⟩ := CM.at hCM hX (A := (zB z9)) (c := (104, " ", 1)) (by decide) (fun q hq => Or.inr (Nat.le_trans hT.2.2.1 hq))
          replace hVc : SV (zB z9) ac6 1 s H := hVc
          refine va_ldcS hx hb hown hr6 dX6_orderText_50 ?_
          have hcb := cap_b (q := 0 + nm + 1) (cp := c_4) (Q := (10 * (k + 1))) (by omega) (by omega)
          refine ktm_app (sl := slR 10 0 k + 4) (n2 := 0 + nm + 1) (10 * (k + 1)) (va_runV (As := [.ref ac6]) (rest := []) ⟨hx, hb, hml, hown, hts⟩ (m_J4_append_15ec4 l dC dI cB z9 z9 b_4 (0 + nm) c_4 f_4 ac6 1 (by omega) (by omega) (by omega) hf (by omega) (by omega)) (cwV 1 hts gX6_orderText_J4_append_15ec4 rfl rfl rfl hdJ4_append_15ec4_1 ⟨Nat.le_of_ble_eq_true rfl, Nat.le_of_ble_eq_true rfl⟩) (hT.preVV hK hX hVc (ci := 1) (r := (RJ4, TJ4, 4)) rfl 0 rfl) rfl rfl hl.1 rfl (lv_room (Nat.le_of_ble_eq_true rfl)) dX6_orderText_52 ⟨by show _ ≤ 144; omega, by show _ ≤ 6928; have := gm_pot (0 + nm + 1) c_4; omega⟩) hK hX hT (by omega) (by omega) (fun b_7 c_7 f_7 H locs hX hT hk9 hf _ _ _ => ?_)
          have hV := hk9 _ _ hV
          clear hVc
          refine lv_aload_n hx hb dX6_orderText_55 rfl (lv_at hl 0 rfl) ?_
          refine km_gkeys hx hb hts hin6 hown hX (hts (.fieldLink RX6 21 "OrderlatticeModel" "keys" "[[I") (tm 725 (by decide +kernel) rfl)) dX6_orderText_56 ?_
          refine lv_iload_n hx hb dX6_orderText_59 rfl (lv_at hl 1 rfl) ?_
          refine km_ak hx hb hX (by omega) dX6_orderText_60 ?_
          refine lv_iload_n hx hb dX6_orderText_61 rfl (lv_at hl 3 rfl) ?_
          refine km_lk (v := ((M.2.1 j).1) k) hx hb hX (by omega) (by omega) rfl dX6_orderText_62 ?_
          have hd1 := dg2 (v := ((M.2.1 j).1) k) (by omega)
          have hcb := cap_b (q := 0 + nm + 1 + sb_dg (((M.2.1 j).1) k)) (cp := c_7) (Q := (10 * (k + 1))) (by omega) (by omega)
          refine ktm_app (sl := slR 10 0 k + 4) (n2 := 0 + nm + 1 + sb_dg (((M.2.1 j).1) k)) (10 * (k + 1)) (va_runV (As := [.int (nI (((M.2.1 j).1) k))]) (rest := []) ⟨hx, hb, hml, hown, hts⟩ (m_J4_append_bf812 l dC dI cB z9 z9 b_7 (0 + nm + 1) c_7 f_7 (by omega) (by omega) hf (((M.2.1 j).1) k) (by omega) (by omega)) (cwV 1 hts gX6_orderText_J4_append_bf812 rfl rfl rfl hdJ4_append_bf812_1 ⟨Nat.le_of_ble_eq_true rfl, Nat.le_of_ble_eq_true rfl⟩) (hT.preV hK hX (ci := 1) (r := (RJ4, TJ4, 4)) rfl 0 rfl) rfl rfl hl.1 rfl (lv_room (Nat.le_of_ble_eq_true rfl)) dX6_orderText_63 ⟨by show _ ≤ 144; omega, by show _ ≤ 6928; have := gm_pot (0 + nm + 1 + sb_dg (((M.2.1 j).1) k)) c_7; omega⟩) hK hX hT (by omega) (by omega) (fun b_8 c_8 f_8 H locs hX hT hk9 hf _ _ _ => ?_)
          have hV := hk9 _ _ hV
          refine lv_aload_n hx hb dX6_orderText_66 rfl (lv_at hl 0 rfl) ?_
          refine km_gdowns hx hb hts hin6 hown hX (hts (.fieldLink RX6 26 "OrderlatticeModel" "downs" "[[Z") (tm 726 (by decide +kernel) rfl)) dX6_orderText_67 ?_
          refine lv_iload_n hx hb dX6_orderText_70 rfl (lv_at hl 1 rfl) ?_
          refine km_ad hx hb hX (by omega) dX6_orderText_71 ?_
          refine lv_iload_n hx hb dX6_orderText_72 rfl (lv_at hl 3 rfl) ?_
          refine km_ld (z := ((M.2.1 j).2.1) k) hx hb hX (by omega) (by omega) rfl dX6_orderText_73 ?_
          refine kb_if_eq (tgt := 82) hx hb dX6_orderText_74 (by decide) (fun k_9 => ?_) (fun k_9 => ?_)
          · skip
            obtain ⟨ac10, hr10, hVc⟩ := CM.at hCM hX (A := (zB z9)) (c := (143, "+", 1)) (by decide) (fun q hq => Or.inr (Nat.le_trans hT.2.2.1 hq))
            replace hVc : SV (zB z9) ac10 1 s H := hVc
            refine va_ldcS hx hb hown hr10 dX6_orderText_82 ?_
            have hcb := cap_b (q := 0 + nm + 1 + sb_dg (((M.2.1 j).1) k) + 1) (cp := c_8) (Q := (10 * (k + 1))) (by omega) (by omega)
            refine ktm_app (sl := slR 10 0 k + 4) (n2 := 0 + nm + 1 + sb_dg (((M.2.1 j).1) k) + 1) (10 * (k + 1)) (va_runV (As := [.ref ac10]) (rest := []) ⟨hx, hb, hml, hown, hts⟩ (m_J4_append_15ec4 l dC dI cB z9 z9 b_8 (0 + nm + 1 + sb_dg (((M.2.1 j).1) k)) c_8 f_8 ac10 1 (by omega) (by omega) (by omega) hf (by omega) (by omega)) (cwV 1 hts gX6_orderText_J4_append_15ec4 rfl rfl rfl hdJ4_append_15ec4_1 ⟨Nat.le_of_ble_eq_true rfl, Nat.le_of_ble_eq_true rfl⟩) (hT.preVV hK hX hVc (ci := 1) (r := (RJ4, TJ4, 4)) rfl 0 rfl) rfl rfl hl.1 rfl (lv_room (Nat.le_of_ble_eq_true rfl)) dX6_orderText_84 ⟨by show _ ≤ 144; omega, by show _ ≤ 6928; have := gm_pot (0 + nm + 1 + sb_dg (((M.2.1 j).1) k) + 1) c_8; omega⟩) hK hX hT (by omega) (by omega) (fun b_11 c_11 f_11 H locs hX hT hk9 hf _ _ _ => ?_)
            have hV := hk9 _ _ hV
            clear hVc
            refine ktm_str hts hinJ0 (va_runV (As := []) (rest := []) ⟨hx, hb, hml, hown, hts⟩ (s_J4_toString_0e30d l dC dI cB z9 z9 b_11 (0 + nm + 1 + sb_dg (((M.2.1 j).1) k) + 1) c_11 f_11 (by omega) (by omega) hf) (cwV 0 hts gX6_orderText_J4_toString_0e30d rfl rfl rfl hdJ4_toString_0e30d_0 ⟨Nat.le_of_ble_eq_true rfl, Nat.le_of_ble_eq_true rfl⟩) (hT.preV hK hX (ci := 1) (r := (RJ4, TJ4, 4)) rfl 0 rfl) rfl rfl hl.1 rfl (lv_room (Nat.le_of_ble_eq_true rfl)) dX6_orderText_87 ⟨by show _ ≤ 144; omega, by show _ ≤ 6928; omega⟩) hK hX hT (fun q_12 H locs hX hV => ?_)
            refine lv_astore_n (lv' := [(2, .ref q_12), (0, .ref (am 0)), (1, .int (nI j)), (3, .int (nI k))]) hx hb dX6_orderText_90 rfl hl (by decide) rfl (fun ls hl => ?_)
            refine lv_iinc (v := nI (k + 1)) (lv' := [(3, .int (nI (k + 1))), (2, .ref q_12), (0, .ref (am 0)), (1, .int (nI j))]) hx hb dX6_orderText_91 hl (k := 3) rfl (nI_1 k) (by decide) rfl (fun ls hl => ?_)
            refine lv_goto (tgt := 20) hx hb dX6_orderText_94 (by decide) ?_
            refine W.widen (k := 9 * (k + 1)) (n := slR 10 0 (k + 1)) (by omega) (by omega) ?_
            exact ih20  (k + 1) q_12 (0 + nm + 1 + sb_dg (((M.2.1 j).1) k) + 1) (by omega) (by omega) _ _ (by omega) hX hV _ (lv_sub hl [2, 3, 1, 0] rfl)
          · skip
            obtain ⟨ac13, hr13, hVc⟩ := CM.at hCM hX (A := (zB z9)) (c := (141, "-", 1)) (by decide) (fun q hq => Or.inr (Nat.le_trans hT.2.2.1 hq))
            replace hVc : SV (zB z9) ac13 1 s H := hVc
            refine va_ldcS hx hb hown hr13 dX6_orderText_77 ?_
            refine lv_goto (tgt := 84) hx hb dX6_orderText_79 (by decide) ?_
            have hcb := cap_b (q := 0 + nm + 1 + sb_dg (((M.2.1 j).1) k) + 1) (cp := c_8) (Q := (10 * (k + 1))) (by omega) (by omega)
            refine ktm_app (sl := slR 10 0 k + 4) (n2 := 0 + nm + 1 + sb_dg (((M.2.1 j).1) k) + 1) (10 * (k + 1)) (va_runV (As := [.ref ac13]) (rest := []) ⟨hx, hb, hml, hown, hts⟩ (m_J4_append_15ec4 l dC dI cB z9 z9 b_8 (0 + nm + 1 + sb_dg (((M.2.1 j).1) k)) c_8 f_8 ac13 1 (by omega) (by omega) (by omega) hf (by omega) (by omega)) (cwV 1 hts gX6_orderText_J4_append_15ec4 rfl rfl rfl hdJ4_append_15ec4_1 ⟨Nat.le_of_ble_eq_true rfl, Nat.le_of_ble_eq_true rfl⟩) (hT.preVV hK hX hVc (ci := 1) (r := (RJ4, TJ4, 4)) rfl 0 rfl) rfl rfl hl.1 rfl (lv_room (Nat.le_of_ble_eq_true rfl)) dX6_orderText_84 ⟨by show _ ≤ 144; omega, by show _ ≤ 6928; have := gm_pot (0 + nm + 1 + sb_dg (((M.2.1 j).1) k) + 1) c_8; omega⟩) hK hX hT (by omega) (by omega) (fun b_14 c_14 f_14 H locs hX hT hk9 hf _ _ _ => ?_)
            have hV := hk9 _ _ hV
            clear hVc
            refine ktm_str hts hinJ0 (va_runV (As := []) (rest := []) ⟨hx, hb, hml, hown, hts⟩ (s_J4_toString_0e30d l dC dI cB z9 z9 b_14 (0 + nm + 1 + sb_dg (((M.2.1 j).1) k) + 1) c_14 f_14 (by omega) (by omega) hf) (cwV 0 hts gX6_orderText_J4_toString_0e30d rfl rfl rfl hdJ4_toString_0e30d_0 ⟨Nat.le_of_ble_eq_true rfl, Nat.le_of_ble_eq_true rfl⟩) (hT.preV hK hX (ci := 1) (r := (RJ4, TJ4, 4)) rfl 0 rfl) rfl rfl hl.1 rfl (lv_room (Nat.le_of_ble_eq_true rfl)) dX6_orderText_87 ⟨by show _ ≤ 144; omega, by show _ ≤ 6928; omega⟩) hK hX hT (fun q_15 H locs hX hV => ?_)
            refine lv_astore_n (lv' := [(2, .ref q_15), (0, .ref (am 0)), (1, .int (nI j)), (3, .int (nI k))]) hx hb dX6_orderText_90 rfl hl (by decide) rfl (fun ls hl => ?_)
            refine lv_iinc (v := nI (k + 1)) (lv' := [(3, .int (nI (k + 1))), (2, .ref q_15), (0, .ref (am 0)), (1, .int (nI j))]) hx hb dX6_orderText_91 hl (k := 3) rfl (nI_1 k) (by decide) rfl (fun ls hl => ?_)
            refine lv_goto (tgt := 20) hx hb dX6_orderText_94 (by decide) ?_
            refine W.widen (k := 9 * (k + 1)) (n := slR 10 0 (k + 1)) (by omega) (by omega) ?_
            exact ih20  (k + 1) q_15 (0 + nm + 1 + sb_dg (((M.2.1 j).1) k) + 1) (by omega) (by omega) _ _ (by omega) hX hV _ (lv_sub hl [2, 3, 1, 0] rfl)
        · skip
          obtain ⟨ac16, hr16, hVc⟩ := CM.at hCM hX (A := (zB z9)) (c := (95, "", 0)) (by decide) (fun q hq => Or.inr (Nat.le_trans hT.2.2.1 hq))
          replace hVc : SV (zB z9) ac16 0 s H := hVc
          refine va_ldcS hx hb hown hr16 dX6_orderText_45 ?_
          refine lv_goto (tgt := 52) hx hb dX6_orderText_47 (by decide) ?_
          have hcb := cap_b (q := 0 + nm + 0) (cp := c_4) (Q := (10 * (k + 1))) (by omega) (by omega)
          refine ktm_app (sl := slR 10 0 k + 4) (n2 := 0 + nm + 0) (10 * (k + 1)) (va_runV (As := [.ref ac16]) (rest := []) ⟨hx, hb, hml, hown, hts⟩ (m_J4_append_15ec4 l dC dI cB z9 z9 b_4 (0 + nm) c_4 f_4 ac16 0 (by omega) (by omega) (by omega) hf (by omega) (by omega)) (cwV 1 hts gX6_orderText_J4_append_15ec4 rfl rfl rfl hdJ4_append_15ec4_1 ⟨Nat.le_of_ble_eq_true rfl, Nat.le_of_ble_eq_true rfl⟩) (hT.preVV hK hX hVc (ci := 1) (r := (RJ4, TJ4, 4)) rfl 0 rfl) rfl rfl hl.1 rfl (lv_room (Nat.le_of_ble_eq_true rfl)) dX6_orderText_52 ⟨by show _ ≤ 144; omega, by show _ ≤ 6928; have := gm_pot (0 + nm + 0) c_4; omega⟩) hK hX hT (by omega) (by omega) (fun b_17 c_17 f_17 H locs hX hT hk9 hf _ _ _ => ?_)
          have hV := hk9 _ _ hV
          clear hVc
          refine lv_aload_n hx hb dX6_orderText_55 rfl (lv_at hl 0 rfl) ?_
          refine km_gkeys hx hb hts hin6 hown hX (hts (.fieldLink RX6 21 "OrderlatticeModel" "keys" "[[I") (tm 725 (by decide +kernel) rfl)) dX6_orderText_56 ?_
          refine lv_iload_n hx hb dX6_orderText_59 rfl (lv_at hl 1 rfl) ?_
          refine km_ak hx hb hX (by omega) dX6_orderText_60 ?_
          refine lv_iload_n hx hb dX6_orderText_61 rfl (lv_at hl 3 rfl) ?_
          refine km_lk (v := ((M.2.1 j).1) k) hx hb hX (by omega) (by omega) rfl dX6_orderText_62 ?_
          have hd1 := dg2 (v := ((M.2.1 j).1) k) (by omega)
          have hcb := cap_b (q := 0 + nm + 0 + sb_dg (((M.2.1 j).1) k)) (cp := c_17) (Q := (10 * (k + 1))) (by omega) (by omega)
          refine ktm_app (sl := slR 10 0 k + 4) (n2 := 0 + nm + 0 + sb_dg (((M.2.1 j).1) k)) (10 * (k + 1)) (va_runV (As := [.int (nI (((M.2.1 j).1) k))]) (rest := []) ⟨hx, hb, hml, hown, hts⟩ (m_J4_append_bf812 l dC dI cB z9 z9 b_17 (0 + nm + 0) c_17 f_17 (by omega) (by omega) hf (((M.2.1 j).1) k) (by omega) (by omega)) (cwV 1 hts gX6_orderText_J4_append_bf812 rfl rfl rfl hdJ4_append_bf812_1 ⟨Nat.le_of_ble_eq_true rfl, Nat.le_of_ble_eq_true rfl⟩) (hT.preV hK hX (ci := 1) (r := (RJ4, TJ4, 4)) rfl 0 rfl) rfl rfl hl.1 rfl (lv_room (Nat.le_of_ble_eq_true rfl)) dX6_orderText_63 ⟨by show _ ≤ 144; omega, by show _ ≤ 6928; have := gm_pot (0 + nm + 0 + sb_dg (((M.2.1 j).1) k)) c_17; omega⟩) hK hX hT (by omega) (by omega) (fun b_18 c_18 f_18 H locs hX hT hk9 hf _ _ _ => ?_)
          have hV := hk9 _ _ hV
          refine lv_aload_n hx hb dX6_orderText_66 rfl (lv_at hl 0 rfl) ?_
          refine km_gdowns hx hb hts hin6 hown hX (hts (.fieldLink RX6 26 "OrderlatticeModel" "downs" "[[Z") (tm 726 (by decide +kernel) rfl)) dX6_orderText_67 ?_
          refine lv_iload_n hx hb dX6_orderText_70 rfl (lv_at hl 1 rfl) ?_
          refine km_ad hx hb hX (by omega) dX6_orderText_71 ?_
          refine lv_iload_n hx hb dX6_orderText_72 rfl (lv_at hl 3 rfl) ?_
          refine km_ld (z := ((M.2.1 j).2.1) k) hx hb hX (by omega) (by omega) rfl dX6_orderText_73 ?_
          refine kb_if_eq (tgt := 82) hx hb dX6_orderText_74 (by decide) (fun k_19 => ?_) (fun k_19 => ?_)
          · skip
            obtain ⟨ac20, hr20, hVc⟩ := CM.at hCM hX (A := (zB z9)) (c := (143, "+", 1)) (by decide) (fun q hq => Or.inr (Nat.le_trans hT.2.2.1 hq))
            replace hVc : SV (zB z9) ac20 1 s H := hVc
            refine va_ldcS hx hb hown hr20 dX6_orderText_82 ?_
            have hcb := cap_b (q := 0 + nm + 0 + sb_dg (((M.2.1 j).1) k) + 1) (cp := c_18) (Q := (10 * (k + 1))) (by omega) (by omega)
            refine ktm_app (sl := slR 10 0 k + 4) (n2 := 0 + nm + 0 + sb_dg (((M.2.1 j).1) k) + 1) (10 * (k + 1)) (va_runV (As := [.ref ac20]) (rest := []) ⟨hx, hb, hml, hown, hts⟩ (m_J4_append_15ec4 l dC dI cB z9 z9 b_18 (0 + nm + 0 + sb_dg (((M.2.1 j).1) k)) c_18 f_18 ac20 1 (by omega) (by omega) (by omega) hf (by omega) (by omega)) (cwV 1 hts gX6_orderText_J4_append_15ec4 rfl rfl rfl hdJ4_append_15ec4_1 ⟨Nat.le_of_ble_eq_true rfl, Nat.le_of_ble_eq_true rfl⟩) (hT.preVV hK hX hVc (ci := 1) (r := (RJ4, TJ4, 4)) rfl 0 rfl) rfl rfl hl.1 rfl (lv_room (Nat.le_of_ble_eq_true rfl)) dX6_orderText_84 ⟨by show _ ≤ 144; omega, by show _ ≤ 6928; have := gm_pot (0 + nm + 0 + sb_dg (((M.2.1 j).1) k) + 1) c_18; omega⟩) hK hX hT (by omega) (by omega) (fun b_21 c_21 f_21 H locs hX hT hk9 hf _ _ _ => ?_)
            have hV := hk9 _ _ hV
            clear hVc
            refine ktm_str hts hinJ0 (va_runV (As := []) (rest := []) ⟨hx, hb, hml, hown, hts⟩ (s_J4_toString_0e30d l dC dI cB z9 z9 b_21 (0 + nm + 0 + sb_dg (((M.2.1 j).1) k) + 1) c_21 f_21 (by omega) (by omega) hf) (cwV 0 hts gX6_orderText_J4_toString_0e30d rfl rfl rfl hdJ4_toString_0e30d_0 ⟨Nat.le_of_ble_eq_true rfl, Nat.le_of_ble_eq_true rfl⟩) (hT.preV hK hX (ci := 1) (r := (RJ4, TJ4, 4)) rfl 0 rfl) rfl rfl hl.1 rfl (lv_room (Nat.le_of_ble_eq_true rfl)) dX6_orderText_87 ⟨by show _ ≤ 144; omega, by show _ ≤ 6928; omega⟩) hK hX hT (fun q_22 H locs hX hV => ?_)
            refine lv_astore_n (lv' := [(2, .ref q_22), (0, .ref (am 0)), (1, .int (nI j)), (3, .int (nI k))]) hx hb dX6_orderText_90 rfl hl (by decide) rfl (fun ls hl => ?_)
            refine lv_iinc (v := nI (k + 1)) (lv' := [(3, .int (nI (k + 1))), (2, .ref q_22), (0, .ref (am 0)), (1, .int (nI j))]) hx hb dX6_orderText_91 hl (k := 3) rfl (nI_1 k) (by decide) rfl (fun ls hl => ?_)
            refine lv_goto (tgt := 20) hx hb dX6_orderText_94 (by decide) ?_
            refine W.widen (k := 9 * (k + 1)) (n := slR 10 0 (k + 1)) (by omega) (by omega) ?_
            exact ih20  (k + 1) q_22 (0 + nm + 0 + sb_dg (((M.2.1 j).1) k) + 1) (by omega) (by omega) _ _ (by omega) hX hV _ (lv_sub hl [2, 3, 1, 0] rfl)
          · skip
            obtain ⟨ac23, hr23, hVc⟩ := CM.at hCM hX (A := (zB z9)) (c := (141, "-", 1)) (by decide) (fun q hq => Or.inr (Nat.le_trans hT.2.2.1 hq))
            replace hVc : SV (zB z9) ac23 1 s H := hVc
            refine va_ldcS hx hb hown hr23 dX6_orderText_77 ?_
            refine lv_goto (tgt := 84) hx hb dX6_orderText_79 (by decide) ?_
            have hcb := cap_b (q := 0 + nm + 0 + sb_dg (((M.2.1 j).1) k) + 1) (cp := c_18) (Q := (10 * (k + 1))) (by omega) (by omega)
            refine ktm_app (sl := slR 10 0 k + 4) (n2 := 0 + nm + 0 + sb_dg (((M.2.1 j).1) k) + 1) (10 * (k + 1)) (va_runV (As := [.ref ac23]) (rest := []) ⟨hx, hb, hml, hown, hts⟩ (m_J4_append_15ec4 l dC dI cB z9 z9 b_18 (0 + nm + 0 + sb_dg (((M.2.1 j).1) k)) c_18 f_18 ac23 1 (by omega) (by omega) (by omega) hf (by omega) (by omega)) (cwV 1 hts gX6_orderText_J4_append_15ec4 rfl rfl rfl hdJ4_append_15ec4_1 ⟨Nat.le_of_ble_eq_true rfl, Nat.le_of_ble_eq_true rfl⟩) (hT.preVV hK hX hVc (ci := 1) (r := (RJ4, TJ4, 4)) rfl 0 rfl) rfl rfl hl.1 rfl (lv_room (Nat.le_of_ble_eq_true rfl)) dX6_orderText_84 ⟨by show _ ≤ 144; omega, by show _ ≤ 6928; have := gm_pot (0 + nm + 0 + sb_dg (((M.2.1 j).1) k) + 1) c_18; omega⟩) hK hX hT (by omega) (by omega) (fun b_24 c_24 f_24 H locs hX hT hk9 hf _ _ _ => ?_)
            have hV := hk9 _ _ hV
            clear hVc
            refine ktm_str hts hinJ0 (va_runV (As := []) (rest := []) ⟨hx, hb, hml, hown, hts⟩ (s_J4_toString_0e30d l dC dI cB z9 z9 b_24 (0 + nm + 0 + sb_dg (((M.2.1 j).1) k) + 1) c_24 f_24 (by omega) (by omega) hf) (cwV 0 hts gX6_orderText_J4_toString_0e30d rfl rfl rfl hdJ4_toString_0e30d_0 ⟨Nat.le_of_ble_eq_true rfl, Nat.le_of_ble_eq_true rfl⟩) (hT.preV hK hX (ci := 1) (r := (RJ4, TJ4, 4)) rfl 0 rfl) rfl rfl hl.1 rfl (lv_room (Nat.le_of_ble_eq_true rfl)) dX6_orderText_87 ⟨by show _ ≤ 144; omega, by show _ ≤ 6928; omega⟩) hK hX hT (fun q_25 H locs hX hV => ?_)
            refine lv_astore_n (lv' := [(2, .ref q_25), (0, .ref (am 0)), (1, .int (nI j)), (3, .int (nI k))]) hx hb dX6_orderText_90 rfl hl (by decide) rfl (fun ls hl => ?_)
            refine lv_iinc (v := nI (k + 1)) (lv' := [(3, .int (nI (k + 1))), (2, .ref q_25), (0, .ref (am 0)), (1, .int (nI j))]) hx hb dX6_orderText_91 hl (k := 3) rfl (nI_1 k) (by decide) rfl (fun ls hl => ?_)
            refine lv_goto (tgt := 20) hx hb dX6_orderText_94 (by decide) ?_
            refine W.widen (k := 9 * (k + 1)) (n := slR 10 0 (k + 1)) (by omega) (by omega) ?_
            exact ih20  (k + 1) q_25 (0 + nm + 0 + sb_dg (((M.2.1 j).1) k) + 1) (by omega) (by omega) _ _ (by omega) hX hV _ (lv_sub hl [2, 3, 1, 0] rfl)
  refine W.widen (k := 9 * 0) (n := slR 10 0 0) (by omega) (by omega) ?_
  exact loop20 ((M.2.1 j).2.2 + 1) 0 ac2 0 (by omega) (by omega) _ _ (by omega) hX hV _ (lv_sub hl [2, 3, 1, 0] rfl)
set_option maxHeartbeats 4000000 in
set_option maxRecDepth 100000 in
theorem m_X6_groups (l : Launch) (dC : Nat → ClassId) (dI : Nat → Nat → Nat) (cB : ClassId) (am : Nat → Nat) (M : MS) (i j : Nat) (hi : i < 3) (hj : j < 4) (hI : InvM M) : Met l yX6_groups wsX6_groups ({ frames := 6, cells := 144, slots := 6928, locals := 151 } : Room) (va_Pc [.ref (am 0), .int (nI i), .int (nI j)] (PMT dC dI cB am M)) (va_Qr (fun M1 : MS => M1 = thM M 0) (fun M1 _ t => PM dC dI am M1 t) (AM am)) 144 6928 (AM am) := by
  refine Met.ofW (cc := cX6_groups) (maxL := 8) (ret := (some (.object "java/lang/String"))) pl_X6 rfl ?_
  intro p e s m args below meth c s₁ B hml hv
  obtain ⟨rfl, hPM⟩ := hv
  have hx := B.exec
  have hb := B.bytes
  have hr := B.returns
  have hts := atoms_spec (ws := wsX6_groups) B.pre
  have hown : s.vm.findClass RX6 = some m.cls := findClass_of_methodNamed B.named
  have hlocks := B.notSynchronized
  have hin6 : ∀ w ∈ u_ws RX6 TX6 10, w ∈ wsX6_groups := tu 1331 (by decide +kernel) rfl
  have hinJ4 : ∀ w ∈ u_ws RJ4 TJ4 4, w ∈ wsX6_groups := tu 1326 (by decide +kernel) rfl
  have hinJ0 : ∀ w ∈ u_ws RJ0 TJ0 4, w ∈ wsX6_groups := tu 1327 (by decide +kernel) rfl
  have hK := KT.of hPM
  have hCM := hPM.2.2.2
  have hX := WM.ofY hPM.1
  have hl := lv_entry ([.ref (am 0), .int (nI i), .int (nI j)]) (n := 8) (Nat.le_of_ble_eq_true rfl)
  rw [lg_entry_eq]
  generalize (lg_sl ([.ref (am 0), .int (nI i), .int (nI j)]) ++ List.replicate (8 - (lg_sl ([.ref (am 0), .int (nI i), .int (nI j)])).length) Slot.unset).toArray = ls at hl ⊢
  have hl : lv_has ls 8 [(0, .ref (am 0)), (1, .int (nI i)), (2, .int (nI j))] := hl
  show W p l e ({ frames := 6, cells := 144, slots := 6928, locals := 151 } : Room) s m ([.ref (am 0), .int (nI i), .int (nI j)]).toArray below meth c s.heap [] 0 0 (MQ below (va_Qr (fun M1 : MS => M1 = thM M 0) (fun M1 _ t => PM dC dI am M1 t) (AM am)) ([.ref (am 0), .int (nI i), .int (nI j)]).toArray s 144 6928 (AM am)) (F0 m 0 ls [])
  have hn := (hI.1 i (by omega)).1
  refine lv_aload_n hx hb dX6_groups_0 rfl (lv_at hl 0 rfl) ?_
  refine lv_iload_n hx hb dX6_groups_1 rfl (lv_at hl 1 rfl) ?_
  refine kx_cr (v := bI false) (va_runS (As := [.int (nI i)]) (rest := [.ref (am 0)]) ⟨hx, hb, hml, hown, hts⟩ (m_X6_isNoRow l dC dI am M (nI i)) (va_cwS 1 hts gX6_groups_X6_isNoRow rfl rfl rfl hdX6_isNoRow_1.2 ⟨Nat.le_of_ble_eq_true rfl, Nat.le_of_ble_eq_true rfl⟩) hX.preS rfl rfl hl.1 rfl (lv_room (Nat.le_of_ble_eq_true rfl)) dX6_groups_2 ⟨by show _ ≤ 144; omega, by show _ ≤ 6928; omega⟩) (fun _ h => h.trans (isNo_ok (by omega) (by omega))) ?_
  refine kb_if_ne (tgt := 15) hx hb dX6_groups_5 (by decide) (fun k_1 => absurd k_1 (by decide)) (fun k_1 => ?_)
  refine lv_iload_n hx hb dX6_groups_8 rfl (lv_at hl 2 rfl) ?_
  refine kx_cr (v := bI false) (va_runS (As := [.int (nI j)]) (rest := [.ref (am 0)]) ⟨hx, hb, hml, hown, hts⟩ (m_X6_isNoOrder l dC dI am M (nI j)) (va_cwS 1 hts gX6_groups_X6_isNoOrder rfl rfl rfl hdX6_isNoOrder_1.2 ⟨Nat.le_of_ble_eq_true rfl, Nat.le_of_ble_eq_true rfl⟩) hX.preS rfl rfl hl.1 rfl (lv_room (Nat.le_of_ble_eq_true rfl)) dX6_groups_9 ⟨by show _ ≤ 144; omega, by show _ ≤ 6928; omega⟩) (fun _ h => h.trans (isNo_ok (by omega) (by omega))) ?_
  refine kb_if_eq (tgt := 19) hx hb dX6_groups_12 (by decide) (fun k_2 => ?_) (fun k_2 => absurd k_2 (by decide))
  refine lv_iconst (v := nI 0) hx hb dX6_groups_19 (by decide) ?_
  refine lv_iconst (v := nI 1) hx hb dX6_groups_20 (by decide) ?_
  refine km_ci (va_runV (As := [.int (nI 0), .int (nI 1)]) (rest := []) ⟨hx, hb, hml, hown, hts⟩ (m_X6_start l dC dI am M false 1 (by omega)) (cwV 2 hts gX6_groups_X6_start rfl rfl rfl hdX6_start_2 ⟨Nat.le_of_ble_eq_true rfl, Nat.le_of_ble_eq_true rfl⟩) (hX.preObj) rfl rfl hl.1 rfl (lv_room (Nat.le_of_ble_eq_true rfl)) dX6_groups_21 ⟨by show _ ≤ 144; omega, by show _ ≤ 6928; omega⟩) hX (fun _ h => Or.inl h) (fun r_ S_ H locs hw hX => ?_)
  obtain ⟨rfl, rfl⟩ := hw
  refine kb_if_eq (tgt := 30) hx hb dX6_groups_24 (by decide) (fun k_3 => ?_) (fun k_3 => absurd k_3 (by decide))
  obtain ⟨ac4, hr4, hV⟩ := CM.at hCM hX (A := (zB H.size)) (c := (95, "", 0)) (by decide) (fun q hq => Or.inr (Nat.le_trans hX.2.2.2.1 hq))
  replace hV : SV (zB H.size) ac4 0 s H := hV
  refine va_ldcS hx hb hown hr4 dX6_groups_30 ?_
  refine lv_astore_n (lv' := [(3, .ref ac4), (0, .ref (am 0)), (1, .int (nI i)), (2, .int (nI j))]) hx hb dX6_groups_32 rfl hl (by decide) rfl (fun ls hl => ?_)
  refine lv_iconst (v := nI 0) hx hb dX6_groups_33 (by decide) ?_
  refine lv_istore (lv' := [(4, .int (nI 0)), (3, .ref ac4), (0, .ref (am 0)), (1, .int (nI i)), (2, .int (nI j))]) hx hb dX6_groups_34 hl (by decide) rfl (fun ls hl => ?_)
  have loop36 : ∀ (fuel : Nat) (k qm nm : Nat) (hk : k ≤ 16) (hnm : nm ≤ 10 * k) (H : Heap) (locs : List Loc), 16 - k < fuel → WM dC dI am (mN M (0, M.2.2.2.1, M.2.2.2.2.1, M.2.2.2.2.2)) [] (AY am s.heap.size) s H locs → SV (zB H.size) qm nm s H → ∀ ls : Array Slot, lv_has ls 8 [(0, .ref (am 0)), (1, .int (nI i)), (2, .int (nI j)), (3, .ref qm), (4, .int (nI k))] → W p l e ({ frames := 6, cells := 144, slots := 6928, locals := 151 } : Room) s m ([.ref (am 0), .int (nI i), .int (nI j)]).toArray below meth c H locs (9 * k) (slR 10 0 k) (MQ below (va_Qr (fun M1 : MS => M1 = thM M 0) (fun M1 _ t => PM dC dI am M1 t) (AM am)) ([.ref (am 0), .int (nI i), .int (nI j)]).toArray s 144 6928 (AM am)) (F0 m 36 ls []) := by
    intro fuel
    induction fuel with
    | zero => intro k qm nm hk hnm H locs hf9; exact absurd hf9 (Nat.not_lt_zero _)
    | succ fuel ih36 =>
      intro k qm nm hk hnm H locs hf9 hX hV ls hl
      refine lv_iload hx hb dX6_groups_36 (lv_at hl 4 rfl) ?_
      refine lv_bipush (v := nI 16) hx hb dX6_groups_38 (by decide) ?_
      refine kn_icmp_ge (tgt := 173) hx hb (by omega) (by omega) dX6_groups_40 (by decide) (fun k_5 => ?_) (fun k_5 => ?_)
      · skip
        refine lv_aload_n hx hb dX6_groups_173 rfl (lv_at hl 3 rfl) ?_
        have hs7 : slR 10 0 k ≤ 6928 := Nat.le_trans (slR_mono (show k ≤ 16 by omega)) (by decide)
        exact W.widen (k := 144) (n := 6928) (by omega) (by omega) (W.filt (fun locs1 hl1 => W.aret (v := .ref qm) hx hb hr (Or.inl ⟨_, rfl⟩) (Or.inr ⟨_, rfl⟩) (fun t9 ht9 hW9 => ⟨⟨(mN M (0, M.2.2.2.1, M.2.2.2.2.1, M.2.2.2.2.2)), _, rfl, rfl, hX.P ht9 hW9⟩, (hX.2.2.2.F ht9).Y⟩) (free_Y hX.2.2.2 hl1) dX6_groups_174))
      · skip
        have hs8 := slR_s 10 0 k
        have hs9 : slR 10 0 (k + 1) ≤ 6928 := Nat.le_trans (slR_mono (show k + 1 ≤ 16 by omega)) (by decide)
        refine lv_iconst (v := (-1)) hx hb dX6_groups_43 (by decide) ?_
        refine lv_istore (lv' := [(5, .int (-1)), (0, .ref (am 0)), (1, .int (nI i)), (2, .int (nI j)), (3, .ref qm), (4, .int (nI k))]) hx hb dX6_groups_44 hl (by decide) rfl (fun ls hl => ?_)
        refine lv_iconst (v := nI 0) hx hb dX6_groups_46 (by decide) ?_
        refine lv_istore (lv' := [(6, .int (nI 0)), (5, .int (-1)), (0, .ref (am 0)), (1, .int (nI i)), (2, .int (nI j)), (3, .ref qm), (4, .int (nI k))]) hx hb dX6_groups_47 hl (by decide) rfl (fun ls hl => ?_)
        refine lv_iconst (v := nI 0) hx hb dX6_groups_49 (by decide) ?_
        refine lv_istore (lv' := [(7, .int (nI 0)), (6, .int (nI 0)), (5, .int (-1)), (0, .ref (am 0)), (1, .int (nI i)), (2, .int (nI j)), (3, .ref qm), (4, .int (nI k))]) hx hb dX6_groups_50 hl (by decide) rfl (fun ls hl => ?_)
        have loop52 : ∀ (fuel : Nat) (mk : Int32) (q a : Nat) (ha : a ≤ (M.1 i).2.2) (hq : q ≤ a) (hmk : q = 0 ∨ ∃ w, w < 1000000 ∧ mk = nI w), (M.1 i).2.2 - a < fuel → ∀ ls : Array Slot, lv_has ls 8 [(0, .ref (am 0)), (1, .int (nI i)), (2, .int (nI j)), (3, .ref qm), (4, .int (nI k)), (5, .int mk), (6, .int (nI q)), (7, .int (nI a))] → W p l e ({ frames := 6, cells := 144, slots := 6928, locals := 151 } : Room) s m ([.ref (am 0), .int (nI i), .int (nI j)]).toArray below meth c H locs (9 * k) (slR 10 0 k) (MQ below (va_Qr (fun M1 : MS => M1 = thM M 0) (fun M1 _ t => PM dC dI am M1 t) (AM am)) ([.ref (am 0), .int (nI i), .int (nI j)]).toArray s 144 6928 (AM am)) (F0 m 52 ls []) := by
          intro fuel
          induction fuel with
          | zero => intro mk q a ha hq hmk hf9; exact absurd hf9 (Nat.not_lt_zero _)
          | succ fuel ih52 =>
            intro mk q a ha hq hmk hf9 ls hl
            refine lv_iload hx hb dX6_groups_52 (lv_at hl 7 rfl) ?_
            refine lv_aload_n hx hb dX6_groups_54 rfl (lv_at hl 0 rfl) ?_
            refine km_gsizes hx hb hts hin6 hown hX (hts (.fieldLink RX6 17 "OrderlatticeModel" "sizes" "[I") (tm 681 (by decide +kernel) rfl)) dX6_groups_55 ?_
            refine lv_iload_n hx hb dX6_groups_58 rfl (lv_at hl 1 rfl) ?_
            refine km_lz (v := (M.1 i).2.2) hx hb hX (by omega) rfl dX6_groups_59 ?_
            refine kn_icmp_ge (tgt := 115) hx hb (by omega) (by omega) dX6_groups_60 (by decide) (fun k_6 => ?_) (fun k_6 => ?_)
            · skip
              refine lv_iload hx hb dX6_groups_115 (lv_at hl 6 rfl) ?_
              refine kn_if_le (tgt := 167) hx hb (by omega) dX6_groups_117 (by decide) (fun k_7 => ?_) (fun k_7 => ?_)
              · skip
                refine lv_iinc (v := nI (k + 1)) (lv' := [(4, .int (nI (k + 1))), (0, .ref (am 0)), (1, .int (nI i)), (2, .int (nI j)), (3, .ref qm), (5, .int mk), (6, .int (nI q)), (7, .int (nI a))]) hx hb dX6_groups_167 hl (k := 4) rfl (nI_1 k) (by decide) rfl (fun ls hl => ?_)
                refine lv_goto (tgt := 36) hx hb dX6_groups_170 (by decide) ?_
                refine W.widen (k := 9 * (k + 1)) (n := slR 10 0 (k + 1)) (by omega) (by omega) ?_
                exact ih36  (k + 1) qm nm (by omega) (by omega) _ _ (by omega) hX hV _ (lv_sub hl [1, 2, 3, 4, 0] rfl)
              · skip
                obtain ⟨w, hw, rfl⟩ := hmk.resolve_left (by omega)
                refine km_newB (cB := cB) hx hb hts hinJ4 hown (hts (.classLink RX6 97 RJ4) (tm 775 (by decide +kernel) rfl)) (hts (.instantiable RJ4 4) (tm 374 (by decide +kernel) rfl)) (hts (.initialized RJ4) (tm 328 (by decide +kernel) rfl)) hX (by show _ ≤ 144; omega) (by show _ ≤ 6928; omega) dX6_groups_120 (fun z9 H hz9 hX hT hk9 => ?_)
                have hV := hk9 _ _ _ hV
                rw [← hz9] at hV
                clear hz9 hk9
                refine lv_dup hx hb dX6_groups_123 rfl ?_
                refine ktm_v (va_runI (As := []) (rest := [.ref z9]) ⟨hx, hb, hml, hown, hts⟩ (m_J4_init_da8c8 l dC dI cB z9 z9) (cwI 0 hts gX6_groups_J4_init_da8c8 rfl rfl rfl (hts (.initialized yJ4_init_da8c8.cls) (tm 328 (by decide +kernel) rfl)) (hts (.methodLink RX6 99 yJ4_init_da8c8) (tm 776 (by decide +kernel) rfl)) (hts (.instanceMethod yJ4_init_da8c8) (tm 414 (by decide +kernel) rfl)) rfl (by decide +kernel) ⟨Nat.le_of_ble_eq_true rfl, Nat.le_of_ble_eq_true rfl⟩) (hT.preS hK hX) rfl rfl hl.1 rfl (lv_room (Nat.le_of_ble_eq_true rfl)) dX6_groups_124 ⟨by show _ ≤ 144; omega, by show _ ≤ 6928; omega⟩) hK hX hT (fun b0 H locs _ hX hT hk9 => ?_)
                have hV := hk9 _ _ hV
                refine W.widen (k := 9 * k + 2) (n := slR 10 0 k + 4 + 2 * 16) (by omega) (by omega) ?_
                have hf : sb_Fit (fun _ => 0) := sb_fit0
                refine lv_aload_n hx hb dX6_groups_127 rfl (lv_at hl 3 rfl) ?_
                have hcb := cap_b (q := 0 + nm) (cp := 16) (Q := (10 * (k + 1))) (by omega) (by omega)
                refine ktm_app (sl := slR 10 0 k + 4) (n2 := 0 + nm) (10 * (k + 1)) (va_runV (As := [.ref qm]) (rest := []) ⟨hx, hb, hml, hown, hts⟩ (m_J4_append_15ec4 l dC dI cB z9 z9 b0 0 16 (fun _ => 0) qm nm (by omega) (by omega) (by omega) hf (by omega) (by omega)) (cwV 1 hts gX6_groups_J4_append_15ec4 rfl rfl rfl hdJ4_append_15ec4_1 ⟨Nat.le_of_ble_eq_true rfl, Nat.le_of_ble_eq_true rfl⟩) (hT.preVV hK hX hV (ci := 1) (r := (RJ4, TJ4, 4)) rfl 0 rfl) rfl rfl hl.1 rfl (lv_room (Nat.le_of_ble_eq_true rfl)) dX6_groups_128 ⟨by show _ ≤ 144; omega, by show _ ≤ 6928; have := gm_pot (0 + nm) 16; omega⟩) hK hX hT (by omega) (by omega) (fun b_8 c_8 f_8 H locs hX hT hk9 hf _ _ _ => ?_)
                have hV := hk9 _ _ hV
                refine lv_aload_n hx hb dX6_groups_131 rfl (lv_at hl 3 rfl) ?_
                refine kx_cr (v := bI (decide (nm = 0))) (va_runV (As := []) (rest := [.ref z9]) ⟨hx, hb, hml, hown, hts⟩ (m_J0_isEmpty_aae02 l dC dI cB z9 [(z9, eSB b_8 (0 + nm)), (b_8, eBy cB c_8 f_8)] qm nm (by omega)) (cwV 0 hts gX6_groups_J0_isEmpty_aae02 rfl rfl rfl hdJ0_isEmpty_aae02_0 ⟨Nat.le_of_ble_eq_true rfl, Nat.le_of_ble_eq_true rfl⟩) (hT.preQ hK hX hV) rfl rfl hl.1 rfl (lv_room (Nat.le_of_ble_eq_true rfl)) dX6_groups_132 ⟨by show _ ≤ 144; omega, by show _ ≤ 6928; omega⟩) (fun _ h => h) ?_
                refine kb_if_eq (tgt := 143) hx hb dX6_groups_135 (by decide) (fun k_9 => ?_) (fun k_9 => ?_)
                · skip
                  obtain ⟨ac10, hr10, hVc⟩ := CM.at hCM hX (A := (zB z9)) (c := (104, " ", 1)) (by decide) (fun q hq => Or.inr (Nat.le_trans hT.2.2.1 hq))
                  replace hVc : SV (zB z9) ac10 1 s H := hVc
                  refine va_ldcS hx hb hown hr10 dX6_groups_143 ?_
                  have hcb := cap_b (q := 0 + nm + 1) (cp := c_8) (Q := (10 * (k + 1))) (by omega) (by omega)
                  refine ktm_app (sl := slR 10 0 k + 4) (n2 := 0 + nm + 1) (10 * (k + 1)) (va_runV (As := [.ref ac10]) (rest := []) ⟨hx, hb, hml, hown, hts⟩ (m_J4_append_15ec4 l dC dI cB z9 z9 b_8 (0 + nm) c_8 f_8 ac10 1 (by omega) (by omega) (by omega) hf (by omega) (by omega)) (cwV 1 hts gX6_groups_J4_append_15ec4 rfl rfl rfl hdJ4_append_15ec4_1 ⟨Nat.le_of_ble_eq_true rfl, Nat.le_of_ble_eq_true rfl⟩) (hT.preVV hK hX hVc (ci := 1) (r := (RJ4, TJ4, 4)) rfl 0 rfl) rfl rfl hl.1 rfl (lv_room (Nat.le_of_ble_eq_true rfl)) dX6_groups_145 ⟨by show _ ≤ 144; omega, by show _ ≤ 6928; have := gm_pot (0 + nm + 1) c_8; omega⟩) hK hX hT (by omega) (by omega) (fun b_11 c_11 f_11 H locs hX hT hk9 hf _ _ _ => ?_)
                  have hV := hk9 _ _ hV
                  clear hVc
                  refine lv_iload hx hb dX6_groups_148 (lv_at hl 5 rfl) ?_
                  have hd1 := dg6 (v := w) (by omega)
                  have hcb := cap_b (q := 0 + nm + 1 + sb_dg w) (cp := c_11) (Q := (10 * (k + 1))) (by omega) (by omega)
                  refine ktm_app (sl := slR 10 0 k + 4) (n2 := 0 + nm + 1 + sb_dg w) (10 * (k + 1)) (va_runV (As := [.int (nI w)]) (rest := []) ⟨hx, hb, hml, hown, hts⟩ (m_J4_append_bf812 l dC dI cB z9 z9 b_11 (0 + nm + 1) c_11 f_11 (by omega) (by omega) hf w (by omega) (by omega)) (cwV 1 hts gX6_groups_J4_append_bf812 rfl rfl rfl hdJ4_append_bf812_1 ⟨Nat.le_of_ble_eq_true rfl, Nat.le_of_ble_eq_true rfl⟩) (hT.preV hK hX (ci := 1) (r := (RJ4, TJ4, 4)) rfl 0 rfl) rfl rfl hl.1 rfl (lv_room (Nat.le_of_ble_eq_true rfl)) dX6_groups_150 ⟨by show _ ≤ 144; omega, by show _ ≤ 6928; have := gm_pot (0 + nm + 1 + sb_dg w) c_11; omega⟩) hK hX hT (by omega) (by omega) (fun b_12 c_12 f_12 H locs hX hT hk9 hf _ _ _ => ?_)
                  have hV := hk9 _ _ hV
                  obtain ⟨ac13, hr13, hVc⟩ := CM.at hCM hX (A := (zB z9)) (c := (131, ":", 1)) (by decide) (fun q hq => Or.inr (Nat.le_trans hT.2.2.1 hq))
                  replace hVc : SV (zB z9) ac13 1 s H := hVc
                  refine va_ldcS hx hb hown hr13 dX6_groups_153 ?_
                  have hcb := cap_b (q := 0 + nm + 1 + sb_dg w + 1) (cp := c_12) (Q := (10 * (k + 1))) (by omega) (by omega)
                  refine ktm_app (sl := slR 10 0 k + 4) (n2 := 0 + nm + 1 + sb_dg w + 1) (10 * (k + 1)) (va_runV (As := [.ref ac13]) (rest := []) ⟨hx, hb, hml, hown, hts⟩ (m_J4_append_15ec4 l dC dI cB z9 z9 b_12 (0 + nm + 1 + sb_dg w) c_12 f_12 ac13 1 (by omega) (by omega) (by omega) hf (by omega) (by omega)) (cwV 1 hts gX6_groups_J4_append_15ec4 rfl rfl rfl hdJ4_append_15ec4_1 ⟨Nat.le_of_ble_eq_true rfl, Nat.le_of_ble_eq_true rfl⟩) (hT.preVV hK hX hVc (ci := 1) (r := (RJ4, TJ4, 4)) rfl 0 rfl) rfl rfl hl.1 rfl (lv_room (Nat.le_of_ble_eq_true rfl)) dX6_groups_155 ⟨by show _ ≤ 144; omega, by show _ ≤ 6928; have := gm_pot (0 + nm + 1 + sb_dg w + 1) c_12; omega⟩) hK hX hT (by omega) (by omega) (fun b_14 c_14 f_14 H locs hX hT hk9 hf _ _ _ => ?_)
                  have hV := hk9 _ _ hV
                  clear hVc
                  refine lv_iload hx hb dX6_groups_158 (lv_at hl 6 rfl) ?_
                  have hd2 := dg2 (v := q) (by omega)
                  have hcb := cap_b (q := 0 + nm + 1 + sb_dg w + 1 + sb_dg q) (cp := c_14) (Q := (10 * (k + 1))) (by omega) (by omega)
                  refine ktm_app (sl := slR 10 0 k + 4) (n2 := 0 + nm + 1 + sb_dg w + 1 + sb_dg q) (10 * (k + 1)) (va_runV (As := [.int (nI q)]) (rest := []) ⟨hx, hb, hml, hown, hts⟩ (m_J4_append_bf812 l dC dI cB z9 z9 b_14 (0 + nm + 1 + sb_dg w + 1) c_14 f_14 (by omega) (by omega) hf q (by omega) (by omega)) (cwV 1 hts gX6_groups_J4_append_bf812 rfl rfl rfl hdJ4_append_bf812_1 ⟨Nat.le_of_ble_eq_true rfl, Nat.le_of_ble_eq_true rfl⟩) (hT.preV hK hX (ci := 1) (r := (RJ4, TJ4, 4)) rfl 0 rfl) rfl rfl hl.1 rfl (lv_room (Nat.le_of_ble_eq_true rfl)) dX6_groups_160 ⟨by show _ ≤ 144; omega, by show _ ≤ 6928; have := gm_pot (0 + nm + 1 + sb_dg w + 1 + sb_dg q) c_14; omega⟩) hK hX hT (by omega) (by omega) (fun b_15 c_15 f_15 H locs hX hT hk9 hf _ _ _ => ?_)
                  have hV := hk9 _ _ hV
                  refine ktm_str hts hinJ0 (va_runV (As := []) (rest := []) ⟨hx, hb, hml, hown, hts⟩ (s_J4_toString_0e30d l dC dI cB z9 z9 b_15 (0 + nm + 1 + sb_dg w + 1 + sb_dg q) c_15 f_15 (by omega) (by omega) hf) (cwV 0 hts gX6_groups_J4_toString_0e30d rfl rfl rfl hdJ4_toString_0e30d_0 ⟨Nat.le_of_ble_eq_true rfl, Nat.le_of_ble_eq_true rfl⟩) (hT.preV hK hX (ci := 1) (r := (RJ4, TJ4, 4)) rfl 0 rfl) rfl rfl hl.1 rfl (lv_room (Nat.le_of_ble_eq_true rfl)) dX6_groups_163 ⟨by show _ ≤ 144; omega, by show _ ≤ 6928; omega⟩) hK hX hT (fun q_16 H locs hX hV => ?_)
                  refine lv_astore_n (lv' := [(3, .ref q_16), (0, .ref (am 0)), (1, .int (nI i)), (2, .int (nI j)), (4, .int (nI k)), (5, .int (nI w)), (6, .int (nI q)), (7, .int (nI a))]) hx hb dX6_groups_166 rfl hl (by decide) rfl (fun ls hl => ?_)
                  refine lv_iinc (v := nI (k + 1)) (lv' := [(4, .int (nI (k + 1))), (3, .ref q_16), (0, .ref (am 0)), (1, .int (nI i)), (2, .int (nI j)), (5, .int (nI w)), (6, .int (nI q)), (7, .int (nI a))]) hx hb dX6_groups_167 hl (k := 4) rfl (nI_1 k) (by decide) rfl (fun ls hl => ?_)
                  refine lv_goto (tgt := 36) hx hb dX6_groups_170 (by decide) ?_
                  refine W.widen (k := 9 * (k + 1)) (n := slR 10 0 (k + 1)) (by omega) (by omega) ?_
                  exact ih36  (k + 1) q_16 (0 + nm + 1 + sb_dg w + 1 + sb_dg q) (by omega) (by omega) _ _ (by omega) hX hV _ (lv_sub hl [2, 3, 4, 1, 0] rfl)
                · skip
                  obtain ⟨ac17, hr17, hVc⟩ := CM.at hCM hX (A := (zB z9)) (c := (95, "", 0)) (by decide) (fun q hq => Or.inr (Nat.le_trans hT.2.2.1 hq))
                  replace hVc : SV (zB z9) ac17 0 s H := hVc
                  refine va_ldcS hx hb hown hr17 dX6_groups_138 ?_
                  refine lv_goto (tgt := 145) hx hb dX6_groups_140 (by decide) ?_
                  have hcb := cap_b (q := 0 + nm + 0) (cp := c_8) (Q := (10 * (k + 1))) (by omega) (by omega)
                  refine ktm_app (sl := slR 10 0 k + 4) (n2 := 0 + nm + 0) (10 * (k + 1)) (va_runV (As := [.ref ac17]) (rest := []) ⟨hx, hb, hml, hown, hts⟩ (m_J4_append_15ec4 l dC dI cB z9 z9 b_8 (0 + nm) c_8 f_8 ac17 0 (by omega) (by omega) (by omega) hf (by omega) (by omega)) (cwV 1 hts gX6_groups_J4_append_15ec4 rfl rfl rfl hdJ4_append_15ec4_1 ⟨Nat.le_of_ble_eq_true rfl, Nat.le_of_ble_eq_true rfl⟩) (hT.preVV hK hX hVc (ci := 1) (r := (RJ4, TJ4, 4)) rfl 0 rfl) rfl rfl hl.1 rfl (lv_room (Nat.le_of_ble_eq_true rfl)) dX6_groups_145 ⟨by show _ ≤ 144; omega, by show _ ≤ 6928; have := gm_pot (0 + nm + 0) c_8; omega⟩) hK hX hT (by omega) (by omega) (fun b_18 c_18 f_18 H locs hX hT hk9 hf _ _ _ => ?_)
                  have hV := hk9 _ _ hV
                  clear hVc
                  refine lv_iload hx hb dX6_groups_148 (lv_at hl 5 rfl) ?_
                  have hd1 := dg6 (v := w) (by omega)
                  have hcb := cap_b (q := 0 + nm + 0 + sb_dg w) (cp := c_18) (Q := (10 * (k + 1))) (by omega) (by omega)
                  refine ktm_app (sl := slR 10 0 k + 4) (n2 := 0 + nm + 0 + sb_dg w) (10 * (k + 1)) (va_runV (As := [.int (nI w)]) (rest := []) ⟨hx, hb, hml, hown, hts⟩ (m_J4_append_bf812 l dC dI cB z9 z9 b_18 (0 + nm + 0) c_18 f_18 (by omega) (by omega) hf w (by omega) (by omega)) (cwV 1 hts gX6_groups_J4_append_bf812 rfl rfl rfl hdJ4_append_bf812_1 ⟨Nat.le_of_ble_eq_true rfl, Nat.le_of_ble_eq_true rfl⟩) (hT.preV hK hX (ci := 1) (r := (RJ4, TJ4, 4)) rfl 0 rfl) rfl rfl hl.1 rfl (lv_room (Nat.le_of_ble_eq_true rfl)) dX6_groups_150 ⟨by show _ ≤ 144; omega, by show _ ≤ 6928; have := gm_pot (0 + nm + 0 + sb_dg w) c_18; omega⟩) hK hX hT (by omega) (by omega) (fun b_19 c_19 f_19 H locs hX hT hk9 hf _ _ _ => ?_)
                  have hV := hk9 _ _ hV
                  obtain ⟨ac20, hr20, hVc⟩ := CM.at hCM hX (A := (zB z9)) (c := (131, ":", 1)) (by decide) (fun q hq => Or.inr (Nat.le_trans hT.2.2.1 hq))
                  replace hVc : SV (zB z9) ac20 1 s H := hVc
                  refine va_ldcS hx hb hown hr20 dX6_groups_153 ?_
                  have hcb := cap_b (q := 0 + nm + 0 + sb_dg w + 1) (cp := c_19) (Q := (10 * (k + 1))) (by omega) (by omega)
                  refine ktm_app (sl := slR 10 0 k + 4) (n2 := 0 + nm + 0 + sb_dg w + 1) (10 * (k + 1)) (va_runV (As := [.ref ac20]) (rest := []) ⟨hx, hb, hml, hown, hts⟩ (m_J4_append_15ec4 l dC dI cB z9 z9 b_19 (0 + nm + 0 + sb_dg w) c_19 f_19 ac20 1 (by omega) (by omega) (by omega) hf (by omega) (by omega)) (cwV 1 hts gX6_groups_J4_append_15ec4 rfl rfl rfl hdJ4_append_15ec4_1 ⟨Nat.le_of_ble_eq_true rfl, Nat.le_of_ble_eq_true rfl⟩) (hT.preVV hK hX hVc (ci := 1) (r := (RJ4, TJ4, 4)) rfl 0 rfl) rfl rfl hl.1 rfl (lv_room (Nat.le_of_ble_eq_true rfl)) dX6_groups_155 ⟨by show _ ≤ 144; omega, by show _ ≤ 6928; have := gm_pot (0 + nm + 0 + sb_dg w + 1) c_19; omega⟩) hK hX hT (by omega) (by omega) (fun b_21 c_21 f_21 H locs hX hT hk9 hf _ _ _ => ?_)
                  have hV := hk9 _ _ hV
                  clear hVc
                  refine lv_iload hx hb dX6_groups_158 (lv_at hl 6 rfl) ?_
                  have hd2 := dg2 (v := q) (by omega)
                  have hcb := cap_b (q := 0 + nm + 0 + sb_dg w + 1 + sb_dg q) (cp := c_21) (Q := (10 * (k + 1))) (by omega) (by omega)
                  refine ktm_app (sl := slR 10 0 k + 4) (n2 := 0 + nm + 0 + sb_dg w + 1 + sb_dg q) (10 * (k + 1)) (va_runV (As := [.int (nI q)]) (rest := []) ⟨hx, hb, hml, hown, hts⟩ (m_J4_append_bf812 l dC dI cB z9 z9 b_21 (0 + nm + 0 + sb_dg w + 1) c_21 f_21 (by omega) (by omega) hf q (by omega) (by omega)) (cwV 1 hts gX6_groups_J4_append_bf812 rfl rfl rfl hdJ4_append_bf812_1 ⟨Nat.le_of_ble_eq_true rfl, Nat.le_of_ble_eq_true rfl⟩) (hT.preV hK hX (ci := 1) (r := (RJ4, TJ4, 4)) rfl 0 rfl) rfl rfl hl.1 rfl (lv_room (Nat.le_of_ble_eq_true rfl)) dX6_groups_160 ⟨by show _ ≤ 144; omega, by show _ ≤ 6928; have := gm_pot (0 + nm + 0 + sb_dg w + 1 + sb_dg q) c_21; omega⟩) hK hX hT (by omega) (by omega) (fun b_22 c_22 f_22 H locs hX hT hk9 hf _ _ _ => ?_)
                  have hV := hk9 _ _ hV
                  refine ktm_str hts hinJ0 (va_runV (As := []) (rest := []) ⟨hx, hb, hml, hown, hts⟩ (s_J4_toString_0e30d l dC dI cB z9 z9 b_22 (0 + nm + 0 + sb_dg w + 1 + sb_dg q) c_22 f_22 (by omega) (by omega) hf) (cwV 0 hts gX6_groups_J4_toString_0e30d rfl rfl rfl hdJ4_toString_0e30d_0 ⟨Nat.le_of_ble_eq_true rfl, Nat.le_of_ble_eq_true rfl⟩) (hT.preV hK hX (ci := 1) (r := (RJ4, TJ4, 4)) rfl 0 rfl) rfl rfl hl.1 rfl (lv_room (Nat.le_of_ble_eq_true rfl)) dX6_groups_163 ⟨by show _ ≤ 144; omega, by show _ ≤ 6928; omega⟩) hK hX hT (fun q_23 H locs hX hV => ?_)
                  refine lv_astore_n (lv' := [(3, .ref q_23), (0, .ref (am 0)), (1, .int (nI i)), (2, .int (nI j)), (4, .int (nI k)), (5, .int (nI w)), (6, .int (nI q)), (7, .int (nI a))]) hx hb dX6_groups_166 rfl hl (by decide) rfl (fun ls hl => ?_)
                  refine lv_iinc (v := nI (k + 1)) (lv' := [(4, .int (nI (k + 1))), (3, .ref q_23), (0, .ref (am 0)), (1, .int (nI i)), (2, .int (nI j)), (5, .int (nI w)), (6, .int (nI q)), (7, .int (nI a))]) hx hb dX6_groups_167 hl (k := 4) rfl (nI_1 k) (by decide) rfl (fun ls hl => ?_)
                  refine lv_goto (tgt := 36) hx hb dX6_groups_170 (by decide) ?_
                  refine W.widen (k := 9 * (k + 1)) (n := slR 10 0 (k + 1)) (by omega) (by omega) ?_
                  exact ih36  (k + 1) q_23 (0 + nm + 0 + sb_dg w + 1 + sb_dg q) (by omega) (by omega) _ _ (by omega) hX hV _ (lv_sub hl [2, 3, 4, 1, 0] rfl)
            · skip
              have hv9 := (hI.1 i (by omega)).2 a (by omega)
              have hr9 := rankC_le (cM M j) ((M.1 i).1 a)
              refine lv_aload_n hx hb dX6_groups_63 rfl (lv_at hl 0 rfl) ?_
              refine lv_iload_n hx hb dX6_groups_64 rfl (lv_at hl 2 rfl) ?_
              refine lv_aload_n hx hb dX6_groups_65 rfl (lv_at hl 0 rfl) ?_
              refine km_gvalues hx hb hts hin6 hown hX (hts (.fieldLink RX6 11 "OrderlatticeModel" "values" "[[I") (tm 710 (by decide +kernel) rfl)) dX6_groups_66 ?_
              refine lv_iload_n hx hb dX6_groups_69 rfl (lv_at hl 1 rfl) ?_
              refine km_av hx hb hX (by omega) dX6_groups_70 ?_
              refine lv_iload hx hb dX6_groups_71 (lv_at hl 7 rfl) ?_
              refine km_lv (v := ((M.1 i).1) a) hx hb hX (by omega) (by omega) rfl dX6_groups_73 ?_
              refine kx_cr (v := nI (rankC (cM M j) (((M.1 i).1) a))) (va_runV (As := [.int (nI j), .int (nI (((M.1 i).1) a))]) (rest := []) ⟨hx, hb, hml, hown, hts⟩ (m_X6_rankNow l dC dI am (mN M (0, M.2.2.2.1, M.2.2.2.2.1, M.2.2.2.2.2)) j (((M.1 i).1) a) (by omega) (hI.2 j (by omega)) (by omega)) (cwV 2 hts gX6_groups_X6_rankNow rfl rfl rfl hdX6_rankNow_2 ⟨Nat.le_of_ble_eq_true rfl, Nat.le_of_ble_eq_true rfl⟩) (hX.preObj) rfl rfl hl.1 rfl (lv_room (Nat.le_of_ble_eq_true rfl)) dX6_groups_74 ⟨by show _ ≤ 144; omega, by show _ ≤ 6928; omega⟩) (fun _ h => h) ?_
              refine lv_iload hx hb dX6_groups_77 (lv_at hl 4 rfl) ?_
              refine kn_icmp_eq (tgt := 85) hx hb (by omega) (by omega) dX6_groups_79 (by decide) (fun k_24 => ?_) (fun k_24 => ?_)
              · skip
                refine lv_iload hx hb dX6_groups_85 (lv_at hl 6 rfl) ?_
                refine kn_if_ne (tgt := 102) hx hb (by omega) dX6_groups_87 (by decide) (fun k_25 => ?_) (fun k_25 => ?_)
                · skip
                  refine lv_iload hx hb dX6_groups_102 (lv_at hl 5 rfl) ?_
                  refine lv_istore (lv' := [(5, .int mk), (0, .ref (am 0)), (1, .int (nI i)), (2, .int (nI j)), (3, .ref qm), (4, .int (nI k)), (6, .int (nI q)), (7, .int (nI a))]) hx hb dX6_groups_104 hl (by decide) rfl (fun ls hl => ?_)
                  refine lv_iinc (v := nI (q + 1)) (lv' := [(6, .int (nI (q + 1))), (5, .int mk), (0, .ref (am 0)), (1, .int (nI i)), (2, .int (nI j)), (3, .ref qm), (4, .int (nI k)), (7, .int (nI a))]) hx hb dX6_groups_106 hl (k := 6) rfl (nI_1 q) (by decide) rfl (fun ls hl => ?_)
                  refine lv_iinc (v := nI (a + 1)) (lv' := [(7, .int (nI (a + 1))), (6, .int (nI (q + 1))), (5, .int mk), (0, .ref (am 0)), (1, .int (nI i)), (2, .int (nI j)), (3, .ref qm), (4, .int (nI k))]) hx hb dX6_groups_109 hl (k := 7) rfl (nI_1 a) (by decide) rfl (fun ls hl => ?_)
                  refine lv_goto (tgt := 52) hx hb dX6_groups_112 (by decide) ?_
                  exact ih52  mk (q + 1) (a + 1) (by omega) (by omega) (Or.inr (hmk.resolve_left k_25)) (by omega) _ (lv_sub hl [3, 4, 5, 6, 7, 2, 1, 0] rfl)
                · skip
                  refine lv_aload_n hx hb dX6_groups_90 rfl (lv_at hl 0 rfl) ?_
                  refine km_gmarks hx hb hts hin6 hown hX (hts (.fieldLink RX6 14 "OrderlatticeModel" "marks" "[[I") (tm 711 (by decide +kernel) rfl)) dX6_groups_91 ?_
                  refine lv_iload_n hx hb dX6_groups_94 rfl (lv_at hl 1 rfl) ?_
                  refine km_am hx hb hX (by omega) dX6_groups_95 ?_
                  refine lv_iload hx hb dX6_groups_96 (lv_at hl 7 rfl) ?_
                  refine km_lm (v := ((M.1 i).2.1) a) hx hb hX (by omega) (by omega) rfl dX6_groups_98 ?_
                  refine lv_goto (tgt := 104) hx hb dX6_groups_99 (by decide) ?_
                  refine lv_istore (lv' := [(5, .int (nI (((M.1 i).2.1) a))), (0, .ref (am 0)), (1, .int (nI i)), (2, .int (nI j)), (3, .ref qm), (4, .int (nI k)), (6, .int (nI q)), (7, .int (nI a))]) hx hb dX6_groups_104 hl (by decide) rfl (fun ls hl => ?_)
                  refine lv_iinc (v := nI (q + 1)) (lv' := [(6, .int (nI (q + 1))), (5, .int (nI (((M.1 i).2.1) a))), (0, .ref (am 0)), (1, .int (nI i)), (2, .int (nI j)), (3, .ref qm), (4, .int (nI k)), (7, .int (nI a))]) hx hb dX6_groups_106 hl (k := 6) rfl (nI_1 q) (by decide) rfl (fun ls hl => ?_)
                  refine lv_iinc (v := nI (a + 1)) (lv' := [(7, .int (nI (a + 1))), (6, .int (nI (q + 1))), (5, .int (nI (((M.1 i).2.1) a))), (0, .ref (am 0)), (1, .int (nI i)), (2, .int (nI j)), (3, .ref qm), (4, .int (nI k))]) hx hb dX6_groups_109 hl (k := 7) rfl (nI_1 a) (by decide) rfl (fun ls hl => ?_)
                  refine lv_goto (tgt := 52) hx hb dX6_groups_112 (by decide) ?_
                  exact ih52  (nI (((M.1 i).2.1) a)) (q + 1) (a + 1) (by omega) (by omega) (Or.inr ⟨_, (hv9).2, rfl⟩) (by omega) _ (lv_sub hl [3, 4, 5, 6, 7, 2, 1, 0] rfl)
              · skip
                refine lv_goto (tgt := 109) hx hb dX6_groups_82 (by decide) ?_
                refine lv_iinc (v := nI (a + 1)) (lv' := [(7, .int (nI (a + 1))), (0, .ref (am 0)), (1, .int (nI i)), (2, .int (nI j)), (3, .ref qm), (4, .int (nI k)), (5, .int mk), (6, .int (nI q))]) hx hb dX6_groups_109 hl (k := 7) rfl (nI_1 a) (by decide) rfl (fun ls hl => ?_)
                refine lv_goto (tgt := 52) hx hb dX6_groups_112 (by decide) ?_
                exact ih52  mk q (a + 1) (by omega) (by omega) hmk (by omega) _ (lv_sub hl [1, 2, 3, 4, 5, 6, 7, 0] rfl)
        exact loop52 ((M.1 i).2.2 + 1) (-1) 0 0 (by omega) (by omega) (Or.inl rfl) (by omega) _ (lv_sub hl [3, 4, 5, 6, 7, 2, 1, 0] rfl)
  refine W.widen (k := 9 * 0) (n := slR 10 0 0) (by omega) (by omega) ?_
  exact loop36 (16 + 1) 0 ac4 0 (by omega) (by omega) _ _ (by omega) hX hV _ (lv_sub hl [2, 3, 4, 1, 0] rfl)
set_option maxHeartbeats 4000000 in
set_option maxRecDepth 100000 in
theorem m_X6_ranks_f (l : Launch) (dC : Nat → ClassId) (dI : Nat → Nat → Nat) (cB : ClassId) (am : Nat → Nat) (M : MS) (i j : Nat) (hi : i < 3) (hj : j < 4) (hI : InvM M) : Met l yX6_ranks wsX6_ranks ({ frames := 6, cells := 112, slots := 2568, locals := 151 } : Room) (va_Pc [.ref (am 0), .int (nI i), .int (nI j), .int (bI false)] (PMT dC dI cB am M)) (va_Qr (fun M1 : MS => M1 = thM M 0) (fun M1 _ t => PM dC dI am M1 t) (AM am)) 112 2568 (AM am) := by
  refine Met.ofW (cc := cX6_ranks) (maxL := 8) (ret := (some (.object "java/lang/String"))) pl_X6 rfl ?_
  intro p e s m args below meth c s₁ B hml hv
  obtain ⟨rfl, hPM⟩ := hv
  have hx := B.exec
  have hb := B.bytes
  have hr := B.returns
  have hts := atoms_spec (ws := wsX6_ranks) B.pre
  have hown : s.vm.findClass RX6 = some m.cls := findClass_of_methodNamed B.named
  have hlocks := B.notSynchronized
  have hin6 : ∀ w ∈ u_ws RX6 TX6 10, w ∈ wsX6_ranks := tu 1331 (by decide +kernel) rfl
  have hinJ4 : ∀ w ∈ u_ws RJ4 TJ4 4, w ∈ wsX6_ranks := tu 1326 (by decide +kernel) rfl
  have hinJ0 : ∀ w ∈ u_ws RJ0 TJ0 4, w ∈ wsX6_ranks := tu 1327 (by decide +kernel) rfl
  have hK := KT.of hPM
  have hCM := hPM.2.2.2
  have hX := WM.ofY hPM.1
  have hl := lv_entry ([.ref (am 0), .int (nI i), .int (nI j), .int (bI false)]) (n := 8) (Nat.le_of_ble_eq_true rfl)
  rw [lg_entry_eq]
  generalize (lg_sl ([.ref (am 0), .int (nI i), .int (nI j), .int (bI false)]) ++ List.replicate (8 - (lg_sl ([.ref (am 0), .int (nI i), .int (nI j), .int (bI false)])).length) Slot.unset).toArray = ls at hl ⊢
  have hl : lv_has ls 8 [(0, .ref (am 0)), (1, .int (nI i)), (2, .int (nI j)), (3, .int (bI false))] := hl
  show W p l e ({ frames := 6, cells := 112, slots := 2568, locals := 151 } : Room) s m ([.ref (am 0), .int (nI i), .int (nI j), .int (bI false)]).toArray below meth c s.heap [] 0 0 (MQ below (va_Qr (fun M1 : MS => M1 = thM M 0) (fun M1 _ t => PM dC dI am M1 t) (AM am)) ([.ref (am 0), .int (nI i), .int (nI j), .int (bI false)]).toArray s 112 2568 (AM am)) (F0 m 0 ls [])
  have hn := (hI.1 i (by omega)).1
  refine lv_aload_n hx hb dX6_ranks_0 rfl (lv_at hl 0 rfl) ?_
  refine lv_iload_n hx hb dX6_ranks_1 rfl (lv_at hl 1 rfl) ?_
  refine kx_cr (v := bI false) (va_runS (As := [.int (nI i)]) (rest := [.ref (am 0)]) ⟨hx, hb, hml, hown, hts⟩ (m_X6_isNoRow l dC dI am M (nI i)) (va_cwS 1 hts gX6_ranks_X6_isNoRow rfl rfl rfl hdX6_isNoRow_1.2 ⟨Nat.le_of_ble_eq_true rfl, Nat.le_of_ble_eq_true rfl⟩) hX.preS rfl rfl hl.1 rfl (lv_room (Nat.le_of_ble_eq_true rfl)) dX6_ranks_2 ⟨by show _ ≤ 112; omega, by show _ ≤ 2568; omega⟩) (fun _ h => h.trans (isNo_ok (by omega) (by omega))) ?_
  refine kb_if_ne (tgt := 15) hx hb dX6_ranks_5 (by decide) (fun k_1 => absurd k_1 (by decide)) (fun k_1 => ?_)
  refine lv_iload_n hx hb dX6_ranks_8 rfl (lv_at hl 2 rfl) ?_
  refine kx_cr (v := bI false) (va_runS (As := [.int (nI j)]) (rest := [.ref (am 0)]) ⟨hx, hb, hml, hown, hts⟩ (m_X6_isNoOrder l dC dI am M (nI j)) (va_cwS 1 hts gX6_ranks_X6_isNoOrder rfl rfl rfl hdX6_isNoOrder_1.2 ⟨Nat.le_of_ble_eq_true rfl, Nat.le_of_ble_eq_true rfl⟩) hX.preS rfl rfl hl.1 rfl (lv_room (Nat.le_of_ble_eq_true rfl)) dX6_ranks_9 ⟨by show _ ≤ 112; omega, by show _ ≤ 2568; omega⟩) (fun _ h => h.trans (isNo_ok (by omega) (by omega))) ?_
  refine kb_if_eq (tgt := 19) hx hb dX6_ranks_12 (by decide) (fun k_2 => ?_) (fun k_2 => absurd k_2 (by decide))
  refine lv_iconst (v := nI 0) hx hb dX6_ranks_19 (by decide) ?_
  refine lv_iconst (v := nI 1) hx hb dX6_ranks_20 (by decide) ?_
  refine km_ci (va_runV (As := [.int (nI 0), .int (nI 1)]) (rest := []) ⟨hx, hb, hml, hown, hts⟩ (m_X6_start l dC dI am M false 1 (by omega)) (cwV 2 hts gX6_ranks_X6_start rfl rfl rfl hdX6_start_2 ⟨Nat.le_of_ble_eq_true rfl, Nat.le_of_ble_eq_true rfl⟩) (hX.preObj) rfl rfl hl.1 rfl (lv_room (Nat.le_of_ble_eq_true rfl)) dX6_ranks_21 ⟨by show _ ≤ 112; omega, by show _ ≤ 2568; omega⟩) hX (fun _ h => Or.inl h) (fun r_ S_ H locs hw hX => ?_)
  obtain ⟨rfl, rfl⟩ := hw
  refine kb_if_eq (tgt := 30) hx hb dX6_ranks_24 (by decide) (fun k_3 => ?_) (fun k_3 => absurd k_3 (by decide))
  obtain ⟨ac4, hr4, hV⟩ := CM.at hCM hX (A := (zB H.size)) (c := (95, "", 0)) (by decide) (fun q hq => Or.inr (Nat.le_trans hX.2.2.2.1 hq))
  replace hV : SV (zB H.size) ac4 0 s H := hV
  refine va_ldcS hx hb hown hr4 dX6_ranks_30 ?_
  refine lv_astore (lv' := [(4, .ref ac4), (0, .ref (am 0)), (1, .int (nI i)), (2, .int (nI j)), (3, .int (bI false))]) hx hb dX6_ranks_32 hl (by decide) rfl (fun ls hl => ?_)
  refine lv_iconst (v := nI 0) hx hb dX6_ranks_34 (by decide) ?_
  refine lv_istore (lv' := [(5, .int (nI 0)), (4, .ref ac4), (0, .ref (am 0)), (1, .int (nI i)), (2, .int (nI j)), (3, .int (bI false))]) hx hb dX6_ranks_35 hl (by decide) rfl (fun ls hl => ?_)
  have loop37 : ∀ (fuel : Nat) (k ct qm nm : Nat) (hk : k ≤ 1) (hc3 : ct ≤ 16 * k) (hnm : nm ≤ 3 * ct) (H : Heap) (locs : List Loc), 16 - k < fuel → WM dC dI am (mN M (0, M.2.2.2.1, M.2.2.2.2.1, M.2.2.2.2.2)) [] (AY am s.heap.size) s H locs → SV (zB H.size) qm nm s H → ∀ ls : Array Slot, lv_has ls 8 [(0, .ref (am 0)), (1, .int (nI i)), (2, .int (nI j)), (3, .int (bI false)), (4, .ref qm), (5, .int (nI k))] → W p l e ({ frames := 6, cells := 112, slots := 2568, locals := 151 } : Room) s m ([.ref (am 0), .int (nI i), .int (nI j), .int (bI false)]).toArray below meth c H locs (7 * ct) (slR 3 5 ct) (MQ below (va_Qr (fun M1 : MS => M1 = thM M 0) (fun M1 _ t => PM dC dI am M1 t) (AM am)) ([.ref (am 0), .int (nI i), .int (nI j), .int (bI false)]).toArray s 112 2568 (AM am)) (F0 m 37 ls []) := by
    intro fuel
    induction fuel with
    | zero => intro k ct qm nm hk hc3 hnm H locs hf9; exact absurd hf9 (Nat.not_lt_zero _)
    | succ fuel ih37 =>
      intro k ct qm nm hk hc3 hnm H locs hf9 hX hV ls hl
      refine lv_iload hx hb dX6_ranks_37 (lv_at hl 5 rfl) ?_
      refine lv_iload_n hx hb dX6_ranks_39 rfl (lv_at hl 3 rfl) ?_
      refine kb_if_eq (tgt := 48) hx hb dX6_ranks_40 (by decide) (fun k_5 => ?_) (fun k_5 => absurd k_5 (by decide))
      refine lv_iconst (v := nI 1) hx hb dX6_ranks_48 (by decide) ?_
      refine kn_icmp_ge (tgt := 145) hx hb (by omega) (by omega) dX6_ranks_49 (by decide) (fun k_6 => ?_) (fun k_6 => ?_)
      · skip
        refine lv_aload hx hb dX6_ranks_145 (lv_at hl 4 rfl) ?_
        have hct : ct ≤ 16 := by omega
        have hs7 : slR 3 5 ct ≤ 2568 := Nat.le_trans (slR_mono hct) (by decide)
        exact W.widen (k := 112) (n := 2568) (by omega) (by omega) (W.filt (fun locs1 hl1 => W.aret (v := .ref qm) hx hb hr (Or.inl ⟨_, rfl⟩) (Or.inr ⟨_, rfl⟩) (fun t9 ht9 hW9 => ⟨⟨(mN M (0, M.2.2.2.1, M.2.2.2.2.1, M.2.2.2.2.2)), _, rfl, rfl, hX.P ht9 hW9⟩, (hX.2.2.2.F ht9).Y⟩) (free_Y hX.2.2.2 hl1) dX6_ranks_147))
      · skip
        refine lv_iconst (v := nI 0) hx hb dX6_ranks_52 (by decide) ?_
        refine lv_istore (lv' := [(6, .int (nI 0)), (0, .ref (am 0)), (1, .int (nI i)), (2, .int (nI j)), (3, .int (bI false)), (4, .ref qm), (5, .int (nI k))]) hx hb dX6_ranks_53 hl (by decide) rfl (fun ls hl => ?_)
        have loop55 : ∀ (fuel : Nat) (a ct qm nm : Nat) (ha : a ≤ (M.1 i).2.2) (hc4 : ct ≤ a) (hnm : nm ≤ 3 * ct) (H : Heap) (locs : List Loc), (M.1 i).2.2 - a < fuel → WM dC dI am (mN M (0, M.2.2.2.1, M.2.2.2.2.1, M.2.2.2.2.2)) [] (AY am s.heap.size) s H locs → SV (zB H.size) qm nm s H → ∀ ls : Array Slot, lv_has ls 8 [(0, .ref (am 0)), (1, .int (nI i)), (2, .int (nI j)), (3, .int (bI false)), (4, .ref qm), (5, .int (nI k)), (6, .int (nI a))] → W p l e ({ frames := 6, cells := 112, slots := 2568, locals := 151 } : Room) s m ([.ref (am 0), .int (nI i), .int (nI j), .int (bI false)]).toArray below meth c H locs (7 * ct) (slR 3 5 ct) (MQ below (va_Qr (fun M1 : MS => M1 = thM M 0) (fun M1 _ t => PM dC dI am M1 t) (AM am)) ([.ref (am 0), .int (nI i), .int (nI j), .int (bI false)]).toArray s 112 2568 (AM am)) (F0 m 55 ls []) := by
          intro fuel
          induction fuel with
          | zero => intro a ct qm nm ha hc4 hnm H locs hf9; exact absurd hf9 (Nat.not_lt_zero _)
          | succ fuel ih55 =>
            intro a ct qm nm ha hc4 hnm H locs hf9 hX hV ls hl
            refine lv_iload hx hb dX6_ranks_55 (lv_at hl 6 rfl) ?_
            refine lv_aload_n hx hb dX6_ranks_57 rfl (lv_at hl 0 rfl) ?_
            refine km_gsizes hx hb hts hin6 hown hX (hts (.fieldLink RX6 17 "OrderlatticeModel" "sizes" "[I") (tm 681 (by decide +kernel) rfl)) dX6_ranks_58 ?_
            refine lv_iload_n hx hb dX6_ranks_61 rfl (lv_at hl 1 rfl) ?_
            refine km_lz (v := (M.1 i).2.2) hx hb hX (by omega) rfl dX6_ranks_62 ?_
            refine kn_icmp_ge (tgt := 139) hx hb (by omega) (by omega) dX6_ranks_63 (by decide) (fun k_7 => ?_) (fun k_7 => ?_)
            · skip
              refine lv_iinc (v := nI (k + 1)) (lv' := [(5, .int (nI (k + 1))), (0, .ref (am 0)), (1, .int (nI i)), (2, .int (nI j)), (3, .int (bI false)), (4, .ref qm), (6, .int (nI a))]) hx hb dX6_ranks_139 hl (k := 5) rfl (nI_1 k) (by decide) rfl (fun ls hl => ?_)
              refine lv_goto (tgt := 37) hx hb dX6_ranks_142 (by decide) ?_
              refine W.widen (k := 7 * ct) (n := slR 3 5 ct) (by omega) (by omega) ?_
              exact ih37  (k + 1) ct qm nm (by omega) (by omega) hnm _ _ (by omega) hX hV _ (lv_sub hl [1, 2, 3, 4, 5, 0] rfl)
            · skip
              have hv9 := (hI.1 i (by omega)).2 a (by omega)
              have hr9 := rankC_le (cM M j) ((M.1 i).1 a)
              have hct0 : ct ≤ 16 := by have := (hc4); omega
              have hs7 : slR 3 5 ct ≤ 2568 := Nat.le_trans (slR_mono hct0) (by decide)
              refine lv_aload_n hx hb dX6_ranks_66 rfl (lv_at hl 0 rfl) ?_
              refine lv_iload_n hx hb dX6_ranks_67 rfl (lv_at hl 2 rfl) ?_
              refine lv_aload_n hx hb dX6_ranks_68 rfl (lv_at hl 0 rfl) ?_
              refine km_gvalues hx hb hts hin6 hown hX (hts (.fieldLink RX6 11 "OrderlatticeModel" "values" "[[I") (tm 710 (by decide +kernel) rfl)) dX6_ranks_69 ?_
              refine lv_iload_n hx hb dX6_ranks_72 rfl (lv_at hl 1 rfl) ?_
              refine km_av hx hb hX (by omega) dX6_ranks_73 ?_
              refine lv_iload hx hb dX6_ranks_74 (lv_at hl 6 rfl) ?_
              refine km_lv (v := ((M.1 i).1) a) hx hb hX (by omega) (by omega) rfl dX6_ranks_76 ?_
              refine kx_cr (v := nI (rankC (cM M j) (((M.1 i).1) a))) (va_runV (As := [.int (nI j), .int (nI (((M.1 i).1) a))]) (rest := []) ⟨hx, hb, hml, hown, hts⟩ (m_X6_rankNow l dC dI am (mN M (0, M.2.2.2.1, M.2.2.2.2.1, M.2.2.2.2.2)) j (((M.1 i).1) a) (by omega) (hI.2 j (by omega)) (by omega)) (cwV 2 hts gX6_ranks_X6_rankNow rfl rfl rfl hdX6_rankNow_2 ⟨Nat.le_of_ble_eq_true rfl, Nat.le_of_ble_eq_true rfl⟩) (hX.preObj) rfl rfl hl.1 rfl (lv_room (Nat.le_of_ble_eq_true rfl)) dX6_ranks_77 ⟨by show _ ≤ 112; omega, by show _ ≤ 2568; omega⟩) (fun _ h => h) ?_
              refine lv_istore (lv' := [(7, .int (nI (rankC (cM M j) (((M.1 i).1) a)))), (0, .ref (am 0)), (1, .int (nI i)), (2, .int (nI j)), (3, .int (bI false)), (4, .ref qm), (5, .int (nI k)), (6, .int (nI a))]) hx hb dX6_ranks_80 hl (by decide) rfl (fun ls hl => ?_)
              refine lv_iload_n hx hb dX6_ranks_82 rfl (lv_at hl 4 rfl) ?_
              refine kb_if_eq (tgt := 93) hx hb dX6_ranks_83 (by decide) (fun k_8 => ?_) (fun k_8 => absurd k_8 (by decide))
              have hs8 := slR_s 3 5 ct
              have hs9 : slR 3 5 (ct + 1) ≤ 2568 := Nat.le_trans (slR_mono (show ct + 1 ≤ 16 by omega)) (by decide)
              refine km_newB (cB := cB) hx hb hts hinJ4 hown (hts (.classLink RX6 97 RJ4) (tm 775 (by decide +kernel) rfl)) (hts (.instantiable RJ4 4) (tm 374 (by decide +kernel) rfl)) (hts (.initialized RJ4) (tm 328 (by decide +kernel) rfl)) hX (by show _ ≤ 112; omega) (by show _ ≤ 2568; omega) dX6_ranks_93 (fun z9 H hz9 hX hT hk9 => ?_)
              have hV := hk9 _ _ _ hV
              rw [← hz9] at hV
              clear hz9 hk9
              refine lv_dup hx hb dX6_ranks_96 rfl ?_
              refine ktm_v (va_runI (As := []) (rest := [.ref z9]) ⟨hx, hb, hml, hown, hts⟩ (m_J4_init_da8c8 l dC dI cB z9 z9) (cwI 0 hts gX6_ranks_J4_init_da8c8 rfl rfl rfl (hts (.initialized yJ4_init_da8c8.cls) (tm 328 (by decide +kernel) rfl)) (hts (.methodLink RX6 99 yJ4_init_da8c8) (tm 776 (by decide +kernel) rfl)) (hts (.instanceMethod yJ4_init_da8c8) (tm 414 (by decide +kernel) rfl)) rfl (by decide +kernel) ⟨Nat.le_of_ble_eq_true rfl, Nat.le_of_ble_eq_true rfl⟩) (hT.preS hK hX) rfl rfl hl.1 rfl (lv_room (Nat.le_of_ble_eq_true rfl)) dX6_ranks_97 ⟨by show _ ≤ 112; omega, by show _ ≤ 2568; omega⟩) hK hX hT (fun b0 H locs _ hX hT hk9 => ?_)
              have hV := hk9 _ _ hV
              refine W.widen (k := 7 * ct + 2) (n := slR 3 5 ct + 4 + 2 * 16) (by omega) (by omega) ?_
              have hf : sb_Fit (fun _ => 0) := sb_fit0
              refine lv_aload hx hb dX6_ranks_100 (lv_at hl 5 rfl) ?_
              have hcb := cap_b (q := 0 + nm) (cp := 16) (Q := (3 * (ct + 1) + 5)) (by omega) (by omega)
              refine ktm_app (sl := slR 3 5 ct + 4) (n2 := 0 + nm) (3 * (ct + 1) + 5) (va_runV (As := [.ref qm]) (rest := []) ⟨hx, hb, hml, hown, hts⟩ (m_J4_append_15ec4 l dC dI cB z9 z9 b0 0 16 (fun _ => 0) qm nm (by omega) (by omega) (by omega) hf (by omega) (by omega)) (cwV 1 hts gX6_ranks_J4_append_15ec4 rfl rfl rfl hdJ4_append_15ec4_1 ⟨Nat.le_of_ble_eq_true rfl, Nat.le_of_ble_eq_true rfl⟩) (hT.preVV hK hX hV (ci := 1) (r := (RJ4, TJ4, 4)) rfl 0 rfl) rfl rfl hl.1 rfl (lv_room (Nat.le_of_ble_eq_true rfl)) dX6_ranks_102 ⟨by show _ ≤ 112; omega, by show _ ≤ 2568; have := gm_pot (0 + nm) 16; omega⟩) hK hX hT (by omega) (by omega) (fun b_9 c_9 f_9 H locs hX hT hk9 hf _ _ _ => ?_)
              have hV := hk9 _ _ hV
              refine lv_aload hx hb dX6_ranks_105 (lv_at hl 5 rfl) ?_
              refine kx_cr (v := bI (decide (nm = 0))) (va_runV (As := []) (rest := [.ref z9]) ⟨hx, hb, hml, hown, hts⟩ (m_J0_isEmpty_aae02 l dC dI cB z9 [(z9, eSB b_9 (0 + nm)), (b_9, eBy cB c_9 f_9)] qm nm (by omega)) (cwV 0 hts gX6_ranks_J0_isEmpty_aae02 rfl rfl rfl hdJ0_isEmpty_aae02_0 ⟨Nat.le_of_ble_eq_true rfl, Nat.le_of_ble_eq_true rfl⟩) (hT.preQ hK hX hV) rfl rfl hl.1 rfl (lv_room (Nat.le_of_ble_eq_true rfl)) dX6_ranks_107 ⟨by show _ ≤ 112; omega, by show _ ≤ 2568; omega⟩) (fun _ h => h) ?_
              refine kb_if_eq (tgt := 118) hx hb dX6_ranks_110 (by decide) (fun k_10 => ?_) (fun k_10 => ?_)
              · skip
                obtain ⟨ac11, hr11, hVc⟩ := CM.at hCM hX (A := (zB z9)) (c := (104, " ", 1)) (by decide) (fun q hq => Or.inr (Nat.le_trans hT.2.2.1 hq))
                replace hVc : SV (zB z9) ac11 1 s H := hVc
                refine va_ldcS hx hb hown hr11 dX6_ranks_118 ?_
                have hcb := cap_b (q := 0 + nm + 1) (cp := c_9) (Q := (3 * (ct + 1) + 5)) (by omega) (by omega)
                refine ktm_app (sl := slR 3 5 ct + 4) (n2 := 0 + nm + 1) (3 * (ct + 1) + 5) (va_runV (As := [.ref ac11]) (rest := []) ⟨hx, hb, hml, hown, hts⟩ (m_J4_append_15ec4 l dC dI cB z9 z9 b_9 (0 + nm) c_9 f_9 ac11 1 (by omega) (by omega) (by omega) hf (by omega) (by omega)) (cwV 1 hts gX6_ranks_J4_append_15ec4 rfl rfl rfl hdJ4_append_15ec4_1 ⟨Nat.le_of_ble_eq_true rfl, Nat.le_of_ble_eq_true rfl⟩) (hT.preVV hK hX hVc (ci := 1) (r := (RJ4, TJ4, 4)) rfl 0 rfl) rfl rfl hl.1 rfl (lv_room (Nat.le_of_ble_eq_true rfl)) dX6_ranks_120 ⟨by show _ ≤ 112; omega, by show _ ≤ 2568; have := gm_pot (0 + nm + 1) c_9; omega⟩) hK hX hT (by omega) (by omega) (fun b_12 c_12 f_12 H locs hX hT hk9 hf _ _ _ => ?_)
                have hV := hk9 _ _ hV
                clear hVc
                refine lv_iload hx hb dX6_ranks_123 (lv_at hl 0 rfl) ?_
                have hd1 := dg2 (v := rankC (cM M j) (((M.1 i).1) a)) (by omega)
                have hcb := cap_b (q := 0 + nm + 1 + sb_dg (rankC (cM M j) (((M.1 i).1) a))) (cp := c_12) (Q := (3 * (ct + 1) + 5)) (by omega) (by omega)
                refine ktm_app (sl := slR 3 5 ct + 4) (n2 := 0 + nm + 1 + sb_dg (rankC (cM M j) (((M.1 i).1) a))) (3 * (ct + 1) + 5) (va_runV (As := [.int (nI (rankC (cM M j) (((M.1 i).1) a)))]) (rest := []) ⟨hx, hb, hml, hown, hts⟩ (m_J4_append_bf812 l dC dI cB z9 z9 b_12 (0 + nm + 1) c_12 f_12 (by omega) (by omega) hf (rankC (cM M j) (((M.1 i).1) a)) (by omega) (by omega)) (cwV 1 hts gX6_ranks_J4_append_bf812 rfl rfl rfl hdJ4_append_bf812_1 ⟨Nat.le_of_ble_eq_true rfl, Nat.le_of_ble_eq_true rfl⟩) (hT.preV hK hX (ci := 1) (r := (RJ4, TJ4, 4)) rfl 0 rfl) rfl rfl hl.1 rfl (lv_room (Nat.le_of_ble_eq_true rfl)) dX6_ranks_125 ⟨by show _ ≤ 112; omega, by show _ ≤ 2568; have := gm_pot (0 + nm + 1 + sb_dg (rankC (cM M j) (((M.1 i).1) a))) c_12; omega⟩) hK hX hT (by omega) (by omega) (fun b_13 c_13 f_13 H locs hX hT hk9 hf _ _ _ => ?_)
                have hV := hk9 _ _ hV
                refine ktm_str hts hinJ0 (va_runV (As := []) (rest := []) ⟨hx, hb, hml, hown, hts⟩ (s_J4_toString_0e30d l dC dI cB z9 z9 b_13 (0 + nm + 1 + sb_dg (rankC (cM M j) (((M.1 i).1) a))) c_13 f_13 (by omega) (by omega) hf) (cwV 0 hts gX6_ranks_J4_toString_0e30d rfl rfl rfl hdJ4_toString_0e30d_0 ⟨Nat.le_of_ble_eq_true rfl, Nat.le_of_ble_eq_true rfl⟩) (hT.preV hK hX (ci := 1) (r := (RJ4, TJ4, 4)) rfl 0 rfl) rfl rfl hl.1 rfl (lv_room (Nat.le_of_ble_eq_true rfl)) dX6_ranks_128 ⟨by show _ ≤ 112; omega, by show _ ≤ 2568; omega⟩) hK hX hT (fun q_14 H locs hX hV => ?_)
                refine lv_astore (lv' := [(4, .ref q_14), (7, .int (nI (rankC (cM M j) (((M.1 i).1) a)))), (0, .ref (am 0)), (1, .int (nI i)), (2, .int (nI j)), (3, .int (bI false)), (5, .int (nI k)), (6, .int (nI a))]) hx hb dX6_ranks_131 hl (by decide) rfl (fun ls hl => ?_)
                refine lv_iinc (v := nI (a + 1)) (lv' := [(6, .int (nI (a + 1))), (4, .ref q_14), (7, .int (nI (rankC (cM M j) (((M.1 i).1) a)))), (0, .ref (am 0)), (1, .int (nI i)), (2, .int (nI j)), (3, .int (bI false)), (5, .int (nI k))]) hx hb dX6_ranks_133 hl (k := 7) rfl (nI_1 a) (by decide) rfl (fun ls hl => ?_)
                refine lv_goto (tgt := 55) hx hb dX6_ranks_136 (by decide) ?_
                refine W.widen (k := 7 * (ct + 1)) (n := slR 3 5 (ct + 1)) (by omega) (by omega) ?_
                exact ih55  (a + 1) (ct + 1) q_14 (0 + nm + 1 + sb_dg (rankC (cM M j) (((M.1 i).1) a))) (by omega) (by omega) (by omega) _ _ (by omega) hX hV _ (lv_sub hl [3, 4, 5, 6, 1, 7, 0] rfl)
              · skip
                obtain ⟨ac15, hr15, hVc⟩ := CM.at hCM hX (A := (zB z9)) (c := (95, "", 0)) (by decide) (fun q hq => Or.inr (Nat.le_trans hT.2.2.1 hq))
                replace hVc : SV (zB z9) ac15 0 s H := hVc
                refine va_ldcS hx hb hown hr15 dX6_ranks_113 ?_
                refine lv_goto (tgt := 120) hx hb dX6_ranks_115 (by decide) ?_
                have hcb := cap_b (q := 0 + nm + 0) (cp := c_9) (Q := (3 * (ct + 1) + 5)) (by omega) (by omega)
                refine ktm_app (sl := slR 3 5 ct + 4) (n2 := 0 + nm + 0) (3 * (ct + 1) + 5) (va_runV (As := [.ref ac15]) (rest := []) ⟨hx, hb, hml, hown, hts⟩ (m_J4_append_15ec4 l dC dI cB z9 z9 b_9 (0 + nm) c_9 f_9 ac15 0 (by omega) (by omega) (by omega) hf (by omega) (by omega)) (cwV 1 hts gX6_ranks_J4_append_15ec4 rfl rfl rfl hdJ4_append_15ec4_1 ⟨Nat.le_of_ble_eq_true rfl, Nat.le_of_ble_eq_true rfl⟩) (hT.preVV hK hX hVc (ci := 1) (r := (RJ4, TJ4, 4)) rfl 0 rfl) rfl rfl hl.1 rfl (lv_room (Nat.le_of_ble_eq_true rfl)) dX6_ranks_120 ⟨by show _ ≤ 112; omega, by show _ ≤ 2568; have := gm_pot (0 + nm + 0) c_9; omega⟩) hK hX hT (by omega) (by omega) (fun b_16 c_16 f_16 H locs hX hT hk9 hf _ _ _ => ?_)
                have hV := hk9 _ _ hV
                clear hVc
                refine lv_iload hx hb dX6_ranks_123 (lv_at hl 0 rfl) ?_
                have hd1 := dg2 (v := rankC (cM M j) (((M.1 i).1) a)) (by omega)
                have hcb := cap_b (q := 0 + nm + 0 + sb_dg (rankC (cM M j) (((M.1 i).1) a))) (cp := c_16) (Q := (3 * (ct + 1) + 5)) (by omega) (by omega)
                refine ktm_app (sl := slR 3 5 ct + 4) (n2 := 0 + nm + 0 + sb_dg (rankC (cM M j) (((M.1 i).1) a))) (3 * (ct + 1) + 5) (va_runV (As := [.int (nI (rankC (cM M j) (((M.1 i).1) a)))]) (rest := []) ⟨hx, hb, hml, hown, hts⟩ (m_J4_append_bf812 l dC dI cB z9 z9 b_16 (0 + nm + 0) c_16 f_16 (by omega) (by omega) hf (rankC (cM M j) (((M.1 i).1) a)) (by omega) (by omega)) (cwV 1 hts gX6_ranks_J4_append_bf812 rfl rfl rfl hdJ4_append_bf812_1 ⟨Nat.le_of_ble_eq_true rfl, Nat.le_of_ble_eq_true rfl⟩) (hT.preV hK hX (ci := 1) (r := (RJ4, TJ4, 4)) rfl 0 rfl) rfl rfl hl.1 rfl (lv_room (Nat.le_of_ble_eq_true rfl)) dX6_ranks_125 ⟨by show _ ≤ 112; omega, by show _ ≤ 2568; have := gm_pot (0 + nm + 0 + sb_dg (rankC (cM M j) (((M.1 i).1) a))) c_16; omega⟩) hK hX hT (by omega) (by omega) (fun b_17 c_17 f_17 H locs hX hT hk9 hf _ _ _ => ?_)
                have hV := hk9 _ _ hV
                refine ktm_str hts hinJ0 (va_runV (As := []) (rest := []) ⟨hx, hb, hml, hown, hts⟩ (s_J4_toString_0e30d l dC dI cB z9 z9 b_17 (0 + nm + 0 + sb_dg (rankC (cM M j) (((M.1 i).1) a))) c_17 f_17 (by omega) (by omega) hf) (cwV 0 hts gX6_ranks_J4_toString_0e30d rfl rfl rfl hdJ4_toString_0e30d_0 ⟨Nat.le_of_ble_eq_true rfl, Nat.le_of_ble_eq_true rfl⟩) (hT.preV hK hX (ci := 1) (r := (RJ4, TJ4, 4)) rfl 0 rfl) rfl rfl hl.1 rfl (lv_room (Nat.le_of_ble_eq_true rfl)) dX6_ranks_128 ⟨by show _ ≤ 112; omega, by show _ ≤ 2568; omega⟩) hK hX hT (fun q_18 H locs hX hV => ?_)
                refine lv_astore (lv' := [(4, .ref q_18), (7, .int (nI (rankC (cM M j) (((M.1 i).1) a)))), (0, .ref (am 0)), (1, .int (nI i)), (2, .int (nI j)), (3, .int (bI false)), (5, .int (nI k)), (6, .int (nI a))]) hx hb dX6_ranks_131 hl (by decide) rfl (fun ls hl => ?_)
                refine lv_iinc (v := nI (a + 1)) (lv' := [(6, .int (nI (a + 1))), (4, .ref q_18), (7, .int (nI (rankC (cM M j) (((M.1 i).1) a)))), (0, .ref (am 0)), (1, .int (nI i)), (2, .int (nI j)), (3, .int (bI false)), (5, .int (nI k))]) hx hb dX6_ranks_133 hl (k := 7) rfl (nI_1 a) (by decide) rfl (fun ls hl => ?_)
                refine lv_goto (tgt := 55) hx hb dX6_ranks_136 (by decide) ?_
                refine W.widen (k := 7 * (ct + 1)) (n := slR 3 5 (ct + 1)) (by omega) (by omega) ?_
                exact ih55  (a + 1) (ct + 1) q_18 (0 + nm + 0 + sb_dg (rankC (cM M j) (((M.1 i).1) a))) (by omega) (by omega) (by omega) _ _ (by omega) hX hV _ (lv_sub hl [3, 4, 5, 6, 1, 7, 0] rfl)
        refine W.widen (k := 7 * ct) (n := slR 3 5 ct) (by omega) (by omega) ?_
        exact loop55 ((M.1 i).2.2 + 1) 0 ct qm nm (by omega) (by omega) hnm _ _ (by omega) hX hV _ (lv_sub hl [1, 2, 3, 4, 5, 6, 0] rfl)
  refine W.widen (k := 7 * 0) (n := slR 3 5 0) (by omega) (by omega) ?_
  exact loop37 (16 + 1) 0 0 ac4 0 (by omega) (Nat.zero_le _) (by omega) _ _ (by omega) hX hV _ (lv_sub hl [2, 3, 4, 5, 1, 0] rfl)
set_option maxHeartbeats 4000000 in
set_option maxRecDepth 100000 in
theorem m_X6_ranks_t (l : Launch) (dC : Nat → ClassId) (dI : Nat → Nat → Nat) (cB : ClassId) (am : Nat → Nat) (M : MS) (i j : Nat) (hi : i < 3) (hj : j < 4) (hI : InvM M) : Met l yX6_ranks wsX6_ranks ({ frames := 6, cells := 112, slots := 2568, locals := 151 } : Room) (va_Pc [.ref (am 0), .int (nI i), .int (nI j), .int (bI true)] (PMT dC dI cB am M)) (va_Qr (fun M1 : MS => M1 = thM M 0) (fun M1 _ t => PM dC dI am M1 t) (AM am)) 112 2568 (AM am) := by
  refine Met.ofW (cc := cX6_ranks) (maxL := 8) (ret := (some (.object "java/lang/String"))) pl_X6 rfl ?_
  intro p e s m args below meth c s₁ B hml hv
  obtain ⟨rfl, hPM⟩ := hv
  have hx := B.exec
  have hb := B.bytes
  have hr := B.returns
  have hts := atoms_spec (ws := wsX6_ranks) B.pre
  have hown : s.vm.findClass RX6 = some m.cls := findClass_of_methodNamed B.named
  have hlocks := B.notSynchronized
  have hin6 : ∀ w ∈ u_ws RX6 TX6 10, w ∈ wsX6_ranks := tu 1331 (by decide +kernel) rfl
  have hinJ4 : ∀ w ∈ u_ws RJ4 TJ4 4, w ∈ wsX6_ranks := tu 1326 (by decide +kernel) rfl
  have hinJ0 : ∀ w ∈ u_ws RJ0 TJ0 4, w ∈ wsX6_ranks := tu 1327 (by decide +kernel) rfl
  have hK := KT.of hPM
  have hCM := hPM.2.2.2
  have hX := WM.ofY hPM.1
  have hl := lv_entry ([.ref (am 0), .int (nI i), .int (nI j), .int (bI true)]) (n := 8) (Nat.le_of_ble_eq_true rfl)
  rw [lg_entry_eq]
  generalize (lg_sl ([.ref (am 0), .int (nI i), .int (nI j), .int (bI true)]) ++ List.replicate (8 - (lg_sl ([.ref (am 0), .int (nI i), .int (nI j), .int (bI true)])).length) Slot.unset).toArray = ls at hl ⊢
  have hl : lv_has ls 8 [(0, .ref (am 0)), (1, .int (nI i)), (2, .int (nI j)), (3, .int (bI true))] := hl
  show W p l e ({ frames := 6, cells := 112, slots := 2568, locals := 151 } : Room) s m ([.ref (am 0), .int (nI i), .int (nI j), .int (bI true)]).toArray below meth c s.heap [] 0 0 (MQ below (va_Qr (fun M1 : MS => M1 = thM M 0) (fun M1 _ t => PM dC dI am M1 t) (AM am)) ([.ref (am 0), .int (nI i), .int (nI j), .int (bI true)]).toArray s 112 2568 (AM am)) (F0 m 0 ls [])
  have hn := (hI.1 i (by omega)).1
  refine lv_aload_n hx hb dX6_ranks_0 rfl (lv_at hl 0 rfl) ?_
  refine lv_iload_n hx hb dX6_ranks_1 rfl (lv_at hl 1 rfl) ?_
  refine kx_cr (v := bI false) (va_runS (As := [.int (nI i)]) (rest := [.ref (am 0)]) ⟨hx, hb, hml, hown, hts⟩ (m_X6_isNoRow l dC dI am M (nI i)) (va_cwS 1 hts gX6_ranks_X6_isNoRow rfl rfl rfl hdX6_isNoRow_1.2 ⟨Nat.le_of_ble_eq_true rfl, Nat.le_of_ble_eq_true rfl⟩) hX.preS rfl rfl hl.1 rfl (lv_room (Nat.le_of_ble_eq_true rfl)) dX6_ranks_2 ⟨by show _ ≤ 112; omega, by show _ ≤ 2568; omega⟩) (fun _ h => h.trans (isNo_ok (by omega) (by omega))) ?_
  refine kb_if_ne (tgt := 15) hx hb dX6_ranks_5 (by decide) (fun k_1 => absurd k_1 (by decide)) (fun k_1 => ?_)
  refine lv_iload_n hx hb dX6_ranks_8 rfl (lv_at hl 2 rfl) ?_
  refine kx_cr (v := bI false) (va_runS (As := [.int (nI j)]) (rest := [.ref (am 0)]) ⟨hx, hb, hml, hown, hts⟩ (m_X6_isNoOrder l dC dI am M (nI j)) (va_cwS 1 hts gX6_ranks_X6_isNoOrder rfl rfl rfl hdX6_isNoOrder_1.2 ⟨Nat.le_of_ble_eq_true rfl, Nat.le_of_ble_eq_true rfl⟩) hX.preS rfl rfl hl.1 rfl (lv_room (Nat.le_of_ble_eq_true rfl)) dX6_ranks_9 ⟨by show _ ≤ 112; omega, by show _ ≤ 2568; omega⟩) (fun _ h => h.trans (isNo_ok (by omega) (by omega))) ?_
  refine kb_if_eq (tgt := 19) hx hb dX6_ranks_12 (by decide) (fun k_2 => ?_) (fun k_2 => absurd k_2 (by decide))
  refine lv_iconst (v := nI 0) hx hb dX6_ranks_19 (by decide) ?_
  refine lv_iconst (v := nI 1) hx hb dX6_ranks_20 (by decide) ?_
  refine km_ci (va_runV (As := [.int (nI 0), .int (nI 1)]) (rest := []) ⟨hx, hb, hml, hown, hts⟩ (m_X6_start l dC dI am M false 1 (by omega)) (cwV 2 hts gX6_ranks_X6_start rfl rfl rfl hdX6_start_2 ⟨Nat.le_of_ble_eq_true rfl, Nat.le_of_ble_eq_true rfl⟩) (hX.preObj) rfl rfl hl.1 rfl (lv_room (Nat.le_of_ble_eq_true rfl)) dX6_ranks_21 ⟨by show _ ≤ 112; omega, by show _ ≤ 2568; omega⟩) hX (fun _ h => Or.inl h) (fun r_ S_ H locs hw hX => ?_)
  obtain ⟨rfl, rfl⟩ := hw
  refine kb_if_eq (tgt := 30) hx hb dX6_ranks_24 (by decide) (fun k_3 => ?_) (fun k_3 => absurd k_3 (by decide))
  obtain ⟨ac4, hr4, hV⟩ := CM.at hCM hX (A := (zB H.size)) (c := (95, "", 0)) (by decide) (fun q hq => Or.inr (Nat.le_trans hX.2.2.2.1 hq))
  replace hV : SV (zB H.size) ac4 0 s H := hV
  refine va_ldcS hx hb hown hr4 dX6_ranks_30 ?_
  refine lv_astore (lv' := [(4, .ref ac4), (0, .ref (am 0)), (1, .int (nI i)), (2, .int (nI j)), (3, .int (bI true))]) hx hb dX6_ranks_32 hl (by decide) rfl (fun ls hl => ?_)
  refine lv_iconst (v := nI 0) hx hb dX6_ranks_34 (by decide) ?_
  refine lv_istore (lv' := [(5, .int (nI 0)), (4, .ref ac4), (0, .ref (am 0)), (1, .int (nI i)), (2, .int (nI j)), (3, .int (bI true))]) hx hb dX6_ranks_35 hl (by decide) rfl (fun ls hl => ?_)
  have loop37 : ∀ (fuel : Nat) (k ct qm nm : Nat) (hk : k ≤ 16) (hc3 : ct ≤ rkT (fun y => rankC (cM M j) ((M.1 i).1 y)) (M.1 i).2.2 k 0) (hnm : nm ≤ 3 * ct) (H : Heap) (locs : List Loc), 16 - k < fuel → WM dC dI am (mN M (0, M.2.2.2.1, M.2.2.2.2.1, M.2.2.2.2.2)) [] (AY am s.heap.size) s H locs → SV (zB H.size) qm nm s H → ∀ ls : Array Slot, lv_has ls 8 [(0, .ref (am 0)), (1, .int (nI i)), (2, .int (nI j)), (3, .int (bI true)), (4, .ref qm), (5, .int (nI k))] → W p l e ({ frames := 6, cells := 112, slots := 2568, locals := 151 } : Room) s m ([.ref (am 0), .int (nI i), .int (nI j), .int (bI true)]).toArray below meth c H locs (7 * ct) (slR 3 5 ct) (MQ below (va_Qr (fun M1 : MS => M1 = thM M 0) (fun M1 _ t => PM dC dI am M1 t) (AM am)) ([.ref (am 0), .int (nI i), .int (nI j), .int (bI true)]).toArray s 112 2568 (AM am)) (F0 m 37 ls []) := by
    intro fuel
    induction fuel with
    | zero => intro k ct qm nm hk hc3 hnm H locs hf9; exact absurd hf9 (Nat.not_lt_zero _)
    | succ fuel ih37 =>
      intro k ct qm nm hk hc3 hnm H locs hf9 hX hV ls hl
      refine lv_iload hx hb dX6_ranks_37 (lv_at hl 5 rfl) ?_
      refine lv_iload_n hx hb dX6_ranks_39 rfl (lv_at hl 3 rfl) ?_
      refine kb_if_eq (tgt := 48) hx hb dX6_ranks_40 (by decide) (fun k_5 => absurd k_5 (by decide)) (fun k_5 => ?_)
      refine lv_bipush (v := nI 16) hx hb dX6_ranks_43 (by decide) ?_
      refine lv_goto (tgt := 49) hx hb dX6_ranks_45 (by decide) ?_
      refine kn_icmp_ge (tgt := 145) hx hb (by omega) (by omega) dX6_ranks_49 (by decide) (fun k_6 => ?_) (fun k_6 => ?_)
      · skip
        refine lv_aload hx hb dX6_ranks_145 (lv_at hl 4 rfl) ?_
        have hct : ct ≤ 16 := Nat.le_trans hc3 (Nat.le_trans (rkT_le (Nat.zero_le _)) (by omega))
        have hs7 : slR 3 5 ct ≤ 2568 := Nat.le_trans (slR_mono hct) (by decide)
        exact W.widen (k := 112) (n := 2568) (by omega) (by omega) (W.filt (fun locs1 hl1 => W.aret (v := .ref qm) hx hb hr (Or.inl ⟨_, rfl⟩) (Or.inr ⟨_, rfl⟩) (fun t9 ht9 hW9 => ⟨⟨(mN M (0, M.2.2.2.1, M.2.2.2.2.1, M.2.2.2.2.2)), _, rfl, rfl, hX.P ht9 hW9⟩, (hX.2.2.2.F ht9).Y⟩) (free_Y hX.2.2.2 hl1) dX6_ranks_147))
      · skip
        refine lv_iconst (v := nI 0) hx hb dX6_ranks_52 (by decide) ?_
        refine lv_istore (lv' := [(6, .int (nI 0)), (0, .ref (am 0)), (1, .int (nI i)), (2, .int (nI j)), (3, .int (bI true)), (4, .ref qm), (5, .int (nI k))]) hx hb dX6_ranks_53 hl (by decide) rfl (fun ls hl => ?_)
        have loop55 : ∀ (fuel : Nat) (a ct qm nm : Nat) (ha : a ≤ (M.1 i).2.2) (hc4 : ct ≤ rkT (fun y => rankC (cM M j) ((M.1 i).1 y)) (M.1 i).2.2 k a) (hnm : nm ≤ 3 * ct) (H : Heap) (locs : List Loc), (M.1 i).2.2 - a < fuel → WM dC dI am (mN M (0, M.2.2.2.1, M.2.2.2.2.1, M.2.2.2.2.2)) [] (AY am s.heap.size) s H locs → SV (zB H.size) qm nm s H → ∀ ls : Array Slot, lv_has ls 8 [(0, .ref (am 0)), (1, .int (nI i)), (2, .int (nI j)), (3, .int (bI true)), (4, .ref qm), (5, .int (nI k)), (6, .int (nI a))] → W p l e ({ frames := 6, cells := 112, slots := 2568, locals := 151 } : Room) s m ([.ref (am 0), .int (nI i), .int (nI j), .int (bI true)]).toArray below meth c H locs (7 * ct) (slR 3 5 ct) (MQ below (va_Qr (fun M1 : MS => M1 = thM M 0) (fun M1 _ t => PM dC dI am M1 t) (AM am)) ([.ref (am 0), .int (nI i), .int (nI j), .int (bI true)]).toArray s 112 2568 (AM am)) (F0 m 55 ls []) := by
          intro fuel
          induction fuel with
          | zero => intro a ct qm nm ha hc4 hnm H locs hf9; exact absurd hf9 (Nat.not_lt_zero _)
          | succ fuel ih55 =>
            intro a ct qm nm ha hc4 hnm H locs hf9 hX hV ls hl
            refine lv_iload hx hb dX6_ranks_55 (lv_at hl 6 rfl) ?_
            refine lv_aload_n hx hb dX6_ranks_57 rfl (lv_at hl 0 rfl) ?_
            refine km_gsizes hx hb hts hin6 hown hX (hts (.fieldLink RX6 17 "OrderlatticeModel" "sizes" "[I") (tm 681 (by decide +kernel) rfl)) dX6_ranks_58 ?_
            refine lv_iload_n hx hb dX6_ranks_61 rfl (lv_at hl 1 rfl) ?_
            refine km_lz (v := (M.1 i).2.2) hx hb hX (by omega) rfl dX6_ranks_62 ?_
            refine kn_icmp_ge (tgt := 139) hx hb (by omega) (by omega) dX6_ranks_63 (by decide) (fun k_7 => ?_) (fun k_7 => ?_)
            · skip
              refine lv_iinc (v := nI (k + 1)) (lv' := [(5, .int (nI (k + 1))), (0, .ref (am 0)), (1, .int (nI i)), (2, .int (nI j)), (3, .int (bI true)), (4, .ref qm), (6, .int (nI a))]) hx hb dX6_ranks_139 hl (k := 5) rfl (nI_1 k) (by decide) rfl (fun ls hl => ?_)
              refine lv_goto (tgt := 37) hx hb dX6_ranks_142 (by decide) ?_
              refine W.widen (k := 7 * ct) (n := slR 3 5 ct) (by omega) (by omega) ?_
              exact ih37  (k + 1) ct qm nm (by omega) (rkT_to hc4 (by omega)) hnm _ _ (by omega) hX hV _ (lv_sub hl [1, 2, 3, 4, 5, 0] rfl)
            · skip
              have hv9 := (hI.1 i (by omega)).2 a (by omega)
              have hr9 := rankC_le (cM M j) ((M.1 i).1 a)
              have hct0 : ct ≤ 16 := by have := (Nat.le_trans hc4 (rkT_le (show a ≤ (M.1 i).2.2 by omega))); omega
              have hs7 : slR 3 5 ct ≤ 2568 := Nat.le_trans (slR_mono hct0) (by decide)
              refine lv_aload_n hx hb dX6_ranks_66 rfl (lv_at hl 0 rfl) ?_
              refine lv_iload_n hx hb dX6_ranks_67 rfl (lv_at hl 2 rfl) ?_
              refine lv_aload_n hx hb dX6_ranks_68 rfl (lv_at hl 0 rfl) ?_
              refine km_gvalues hx hb hts hin6 hown hX (hts (.fieldLink RX6 11 "OrderlatticeModel" "values" "[[I") (tm 710 (by decide +kernel) rfl)) dX6_ranks_69 ?_
              refine lv_iload_n hx hb dX6_ranks_72 rfl (lv_at hl 1 rfl) ?_
              refine km_av hx hb hX (by omega) dX6_ranks_73 ?_
              refine lv_iload hx hb dX6_ranks_74 (lv_at hl 6 rfl) ?_
              refine km_lv (v := ((M.1 i).1) a) hx hb hX (by omega) (by omega) rfl dX6_ranks_76 ?_
              refine kx_cr (v := nI (rankC (cM M j) (((M.1 i).1) a))) (va_runV (As := [.int (nI j), .int (nI (((M.1 i).1) a))]) (rest := []) ⟨hx, hb, hml, hown, hts⟩ (m_X6_rankNow l dC dI am (mN M (0, M.2.2.2.1, M.2.2.2.2.1, M.2.2.2.2.2)) j (((M.1 i).1) a) (by omega) (hI.2 j (by omega)) (by omega)) (cwV 2 hts gX6_ranks_X6_rankNow rfl rfl rfl hdX6_rankNow_2 ⟨Nat.le_of_ble_eq_true rfl, Nat.le_of_ble_eq_true rfl⟩) (hX.preObj) rfl rfl hl.1 rfl (lv_room (Nat.le_of_ble_eq_true rfl)) dX6_ranks_77 ⟨by show _ ≤ 112; omega, by show _ ≤ 2568; omega⟩) (fun _ h => h) ?_
              refine lv_istore (lv' := [(7, .int (nI (rankC (cM M j) (((M.1 i).1) a)))), (0, .ref (am 0)), (1, .int (nI i)), (2, .int (nI j)), (3, .int (bI true)), (4, .ref qm), (5, .int (nI k)), (6, .int (nI a))]) hx hb dX6_ranks_80 hl (by decide) rfl (fun ls hl => ?_)
              refine lv_iload_n hx hb dX6_ranks_82 rfl (lv_at hl 4 rfl) ?_
              refine kb_if_eq (tgt := 93) hx hb dX6_ranks_83 (by decide) (fun k_8 => absurd k_8 (by decide)) (fun k_8 => ?_)
              refine lv_iload hx hb dX6_ranks_86 (lv_at hl 0 rfl) ?_
              refine lv_iload hx hb dX6_ranks_88 (lv_at hl 6 rfl) ?_
              refine kn_icmp_ne (tgt := 133) hx hb (by omega) (by omega) dX6_ranks_90 (by decide) (fun k_9 => ?_) (fun k_9 => ?_)
              · skip
                refine lv_iinc (v := nI (a + 1)) (lv' := [(6, .int (nI (a + 1))), (7, .int (nI (rankC (cM M j) (((M.1 i).1) a)))), (0, .ref (am 0)), (1, .int (nI i)), (2, .int (nI j)), (3, .int (bI true)), (4, .ref qm), (5, .int (nI k))]) hx hb dX6_ranks_133 hl (k := 7) rfl (nI_1 a) (by decide) rfl (fun ls hl => ?_)
                refine lv_goto (tgt := 55) hx hb dX6_ranks_136 (by decide) ?_
                refine W.widen (k := 7 * ct) (n := slR 3 5 ct) (by omega) (by omega) ?_
                exact ih55  (a + 1) ct qm nm (by omega) (Nat.le_trans hc4 rkT_f) hnm _ _ (by omega) hX hV _ (lv_sub hl [2, 3, 4, 5, 6, 7, 0] rfl)
              · skip
                have hrk := k_9
                have hct := rkT_le (r := (fun y => rankC (cM M j) ((M.1 i).1 y))) (k := k) (show a + 1 ≤ (M.1 i).2.2 by omega)
                rw [rkT_s (r := (fun y => rankC (cM M j) ((M.1 i).1 y))) hrk] at hct
                have hs8 := slR_s 3 5 ct
                have hs9 : slR 3 5 (ct + 1) ≤ 2568 := Nat.le_trans (slR_mono (show ct + 1 ≤ 16 by omega)) (by decide)
                refine km_newB (cB := cB) hx hb hts hinJ4 hown (hts (.classLink RX6 97 RJ4) (tm 775 (by decide +kernel) rfl)) (hts (.instantiable RJ4 4) (tm 374 (by decide +kernel) rfl)) (hts (.initialized RJ4) (tm 328 (by decide +kernel) rfl)) hX (by show _ ≤ 112; omega) (by show _ ≤ 2568; omega) dX6_ranks_93 (fun z9 H hz9 hX hT hk9 => ?_)
                have hV := hk9 _ _ _ hV
                rw [← hz9] at hV
                clear hz9 hk9
                refine lv_dup hx hb dX6_ranks_96 rfl ?_
                refine ktm_v (va_runI (As := []) (rest := [.ref z9]) ⟨hx, hb, hml, hown, hts⟩ (m_J4_init_da8c8 l dC dI cB z9 z9) (cwI 0 hts gX6_ranks_J4_init_da8c8 rfl rfl rfl (hts (.initialized yJ4_init_da8c8.cls) (tm 328 (by decide +kernel) rfl)) (hts (.methodLink RX6 99 yJ4_init_da8c8) (tm 776 (by decide +kernel) rfl)) (hts (.instanceMethod yJ4_init_da8c8) (tm 414 (by decide +kernel) rfl)) rfl (by decide +kernel) ⟨Nat.le_of_ble_eq_true rfl, Nat.le_of_ble_eq_true rfl⟩) (hT.preS hK hX) rfl rfl hl.1 rfl (lv_room (Nat.le_of_ble_eq_true rfl)) dX6_ranks_97 ⟨by show _ ≤ 112; omega, by show _ ≤ 2568; omega⟩) hK hX hT (fun b0 H locs _ hX hT hk9 => ?_)
                have hV := hk9 _ _ hV
                refine W.widen (k := 7 * ct + 2) (n := slR 3 5 ct + 4 + 2 * 16) (by omega) (by omega) ?_
                have hf : sb_Fit (fun _ => 0) := sb_fit0
                refine lv_aload hx hb dX6_ranks_100 (lv_at hl 5 rfl) ?_
                have hcb := cap_b (q := 0 + nm) (cp := 16) (Q := (3 * (ct + 1) + 5)) (by omega) (by omega)
                refine ktm_app (sl := slR 3 5 ct + 4) (n2 := 0 + nm) (3 * (ct + 1) + 5) (va_runV (As := [.ref qm]) (rest := []) ⟨hx, hb, hml, hown, hts⟩ (m_J4_append_15ec4 l dC dI cB z9 z9 b0 0 16 (fun _ => 0) qm nm (by omega) (by omega) (by omega) hf (by omega) (by omega)) (cwV 1 hts gX6_ranks_J4_append_15ec4 rfl rfl rfl hdJ4_append_15ec4_1 ⟨Nat.le_of_ble_eq_true rfl, Nat.le_of_ble_eq_true rfl⟩) (hT.preVV hK hX hV (ci := 1) (r := (RJ4, TJ4, 4)) rfl 0 rfl) rfl rfl hl.1 rfl (lv_room (Nat.le_of_ble_eq_true rfl)) dX6_ranks_102 ⟨by show _ ≤ 112; omega, by show _ ≤ 2568; have := gm_pot (0 + nm) 16; omega⟩) hK hX hT (by omega) (by omega) (fun b_10 c_10 f_10 H locs hX hT hk9 hf _ _ _ => ?_)
                have hV := hk9 _ _ hV
                refine lv_aload hx hb dX6_ranks_105 (lv_at hl 5 rfl) ?_
                refine kx_cr (v := bI (decide (nm = 0))) (va_runV (As := []) (rest := [.ref z9]) ⟨hx, hb, hml, hown, hts⟩ (m_J0_isEmpty_aae02 l dC dI cB z9 [(z9, eSB b_10 (0 + nm)), (b_10, eBy cB c_10 f_10)] qm nm (by omega)) (cwV 0 hts gX6_ranks_J0_isEmpty_aae02 rfl rfl rfl hdJ0_isEmpty_aae02_0 ⟨Nat.le_of_ble_eq_true rfl, Nat.le_of_ble_eq_true rfl⟩) (hT.preQ hK hX hV) rfl rfl hl.1 rfl (lv_room (Nat.le_of_ble_eq_true rfl)) dX6_ranks_107 ⟨by show _ ≤ 112; omega, by show _ ≤ 2568; omega⟩) (fun _ h => h) ?_
                refine kb_if_eq (tgt := 118) hx hb dX6_ranks_110 (by decide) (fun k_11 => ?_) (fun k_11 => ?_)
                · skip
                  obtain ⟨ac12, hr12, hVc⟩ := CM.at hCM hX (A := (zB z9)) (c := (104, " ", 1)) (by decide) (fun q hq => Or.inr (Nat.le_trans hT.2.2.1 hq))
                  replace hVc : SV (zB z9) ac12 1 s H := hVc
                  refine va_ldcS hx hb hown hr12 dX6_ranks_118 ?_
                  have hcb := cap_b (q := 0 + nm + 1) (cp := c_10) (Q := (3 * (ct + 1) + 5)) (by omega) (by omega)
                  refine ktm_app (sl := slR 3 5 ct + 4) (n2 := 0 + nm + 1) (3 * (ct + 1) + 5) (va_runV (As := [.ref ac12]) (rest := []) ⟨hx, hb, hml, hown, hts⟩ (m_J4_append_15ec4 l dC dI cB z9 z9 b_10 (0 + nm) c_10 f_10 ac12 1 (by omega) (by omega) (by omega) hf (by omega) (by omega)) (cwV 1 hts gX6_ranks_J4_append_15ec4 rfl rfl rfl hdJ4_append_15ec4_1 ⟨Nat.le_of_ble_eq_true rfl, Nat.le_of_ble_eq_true rfl⟩) (hT.preVV hK hX hVc (ci := 1) (r := (RJ4, TJ4, 4)) rfl 0 rfl) rfl rfl hl.1 rfl (lv_room (Nat.le_of_ble_eq_true rfl)) dX6_ranks_120 ⟨by show _ ≤ 112; omega, by show _ ≤ 2568; have := gm_pot (0 + nm + 1) c_10; omega⟩) hK hX hT (by omega) (by omega) (fun b_13 c_13 f_13 H locs hX hT hk9 hf _ _ _ => ?_)
                  have hV := hk9 _ _ hV
                  clear hVc
                  refine lv_iload hx hb dX6_ranks_123 (lv_at hl 0 rfl) ?_
                  have hd1 := dg2 (v := rankC (cM M j) (((M.1 i).1) a)) (by omega)
                  have hcb := cap_b (q := 0 + nm + 1 + sb_dg (rankC (cM M j) (((M.1 i).1) a))) (cp := c_13) (Q := (3 * (ct + 1) + 5)) (by omega) (by omega)
                  refine ktm_app (sl := slR 3 5 ct + 4) (n2 := 0 + nm + 1 + sb_dg (rankC (cM M j) (((M.1 i).1) a))) (3 * (ct + 1) + 5) (va_runV (As := [.int (nI (rankC (cM M j) (((M.1 i).1) a)))]) (rest := []) ⟨hx, hb, hml, hown, hts⟩ (m_J4_append_bf812 l dC dI cB z9 z9 b_13 (0 + nm + 1) c_13 f_13 (by omega) (by omega) hf (rankC (cM M j) (((M.1 i).1) a)) (by omega) (by omega)) (cwV 1 hts gX6_ranks_J4_append_bf812 rfl rfl rfl hdJ4_append_bf812_1 ⟨Nat.le_of_ble_eq_true rfl, Nat.le_of_ble_eq_true rfl⟩) (hT.preV hK hX (ci := 1) (r := (RJ4, TJ4, 4)) rfl 0 rfl) rfl rfl hl.1 rfl (lv_room (Nat.le_of_ble_eq_true rfl)) dX6_ranks_125 ⟨by show _ ≤ 112; omega, by show _ ≤ 2568; have := gm_pot (0 + nm + 1 + sb_dg (rankC (cM M j) (((M.1 i).1) a))) c_13; omega⟩) hK hX hT (by omega) (by omega) (fun b_14 c_14 f_14 H locs hX hT hk9 hf _ _ _ => ?_)
                  have hV := hk9 _ _ hV
                  refine ktm_str hts hinJ0 (va_runV (As := []) (rest := []) ⟨hx, hb, hml, hown, hts⟩ (s_J4_toString_0e30d l dC dI cB z9 z9 b_14 (0 + nm + 1 + sb_dg (rankC (cM M j) (((M.1 i).1) a))) c_14 f_14 (by omega) (by omega) hf) (cwV 0 hts gX6_ranks_J4_toString_0e30d rfl rfl rfl hdJ4_toString_0e30d_0 ⟨Nat.le_of_ble_eq_true rfl, Nat.le_of_ble_eq_true rfl⟩) (hT.preV hK hX (ci := 1) (r := (RJ4, TJ4, 4)) rfl 0 rfl) rfl rfl hl.1 rfl (lv_room (Nat.le_of_ble_eq_true rfl)) dX6_ranks_128 ⟨by show _ ≤ 112; omega, by show _ ≤ 2568; omega⟩) hK hX hT (fun q_15 H locs hX hV => ?_)
                  refine lv_astore (lv' := [(4, .ref q_15), (7, .int (nI (rankC (cM M j) (((M.1 i).1) a)))), (0, .ref (am 0)), (1, .int (nI i)), (2, .int (nI j)), (3, .int (bI true)), (5, .int (nI k)), (6, .int (nI a))]) hx hb dX6_ranks_131 hl (by decide) rfl (fun ls hl => ?_)
                  refine lv_iinc (v := nI (a + 1)) (lv' := [(6, .int (nI (a + 1))), (4, .ref q_15), (7, .int (nI (rankC (cM M j) (((M.1 i).1) a)))), (0, .ref (am 0)), (1, .int (nI i)), (2, .int (nI j)), (3, .int (bI true)), (5, .int (nI k))]) hx hb dX6_ranks_133 hl (k := 7) rfl (nI_1 a) (by decide) rfl (fun ls hl => ?_)
                  refine lv_goto (tgt := 55) hx hb dX6_ranks_136 (by decide) ?_
                  refine W.widen (k := 7 * (ct + 1)) (n := slR 3 5 (ct + 1)) (by omega) (by omega) ?_
                  exact ih55  (a + 1) (ct + 1) q_15 (0 + nm + 1 + sb_dg (rankC (cM M j) (((M.1 i).1) a))) (by omega) (by rw [rkT_s (r := (fun y => rankC (cM M j) ((M.1 i).1 y))) hrk]; omega) (by omega) _ _ (by omega) hX hV _ (lv_sub hl [3, 4, 5, 6, 1, 7, 0] rfl)
                · skip
                  obtain ⟨ac16, hr16, hVc⟩ := CM.at hCM hX (A := (zB z9)) (c := (95, "", 0)) (by decide) (fun q hq => Or.inr (Nat.le_trans hT.2.2.1 hq))
                  replace hVc : SV (zB z9) ac16 0 s H := hVc
                  refine va_ldcS hx hb hown hr16 dX6_ranks_113 ?_
                  refine lv_goto (tgt := 120) hx hb dX6_ranks_115 (by decide) ?_
                  have hcb := cap_b (q := 0 + nm + 0) (cp := c_10) (Q := (3 * (ct + 1) + 5)) (by omega) (by omega)
                  refine ktm_app (sl := slR 3 5 ct + 4) (n2 := 0 + nm + 0) (3 * (ct + 1) + 5) (va_runV (As := [.ref ac16]) (rest := []) ⟨hx, hb, hml, hown, hts⟩ (m_J4_append_15ec4 l dC dI cB z9 z9 b_10 (0 + nm) c_10 f_10 ac16 0 (by omega) (by omega) (by omega) hf (by omega) (by omega)) (cwV 1 hts gX6_ranks_J4_append_15ec4 rfl rfl rfl hdJ4_append_15ec4_1 ⟨Nat.le_of_ble_eq_true rfl, Nat.le_of_ble_eq_true rfl⟩) (hT.preVV hK hX hVc (ci := 1) (r := (RJ4, TJ4, 4)) rfl 0 rfl) rfl rfl hl.1 rfl (lv_room (Nat.le_of_ble_eq_true rfl)) dX6_ranks_120 ⟨by show _ ≤ 112; omega, by show _ ≤ 2568; have := gm_pot (0 + nm + 0) c_10; omega⟩) hK hX hT (by omega) (by omega) (fun b_17 c_17 f_17 H locs hX hT hk9 hf _ _ _ => ?_)
                  have hV := hk9 _ _ hV
                  clear hVc
                  refine lv_iload hx hb dX6_ranks_123 (lv_at hl 0 rfl) ?_
                  have hd1 := dg2 (v := rankC (cM M j) (((M.1 i).1) a)) (by omega)
                  have hcb := cap_b (q := 0 + nm + 0 + sb_dg (rankC (cM M j) (((M.1 i).1) a))) (cp := c_17) (Q := (3 * (ct + 1) + 5)) (by omega) (by omega)
                  refine ktm_app (sl := slR 3 5 ct + 4) (n2 := 0 + nm + 0 + sb_dg (rankC (cM M j) (((M.1 i).1) a))) (3 * (ct + 1) + 5) (va_runV (As := [.int (nI (rankC (cM M j) (((M.1 i).1) a)))]) (rest := []) ⟨hx, hb, hml, hown, hts⟩ (m_J4_append_bf812 l dC dI cB z9 z9 b_17 (0 + nm + 0) c_17 f_17 (by omega) (by omega) hf (rankC (cM M j) (((M.1 i).1) a)) (by omega) (by omega)) (cwV 1 hts gX6_ranks_J4_append_bf812 rfl rfl rfl hdJ4_append_bf812_1 ⟨Nat.le_of_ble_eq_true rfl, Nat.le_of_ble_eq_true rfl⟩) (hT.preV hK hX (ci := 1) (r := (RJ4, TJ4, 4)) rfl 0 rfl) rfl rfl hl.1 rfl (lv_room (Nat.le_of_ble_eq_true rfl)) dX6_ranks_125 ⟨by show _ ≤ 112; omega, by show _ ≤ 2568; have := gm_pot (0 + nm + 0 + sb_dg (rankC (cM M j) (((M.1 i).1) a))) c_17; omega⟩) hK hX hT (by omega) (by omega) (fun b_18 c_18 f_18 H locs hX hT hk9 hf _ _ _ => ?_)
                  have hV := hk9 _ _ hV
                  refine ktm_str hts hinJ0 (va_runV (As := []) (rest := []) ⟨hx, hb, hml, hown, hts⟩ (s_J4_toString_0e30d l dC dI cB z9 z9 b_18 (0 + nm + 0 + sb_dg (rankC (cM M j) (((M.1 i).1) a))) c_18 f_18 (by omega) (by omega) hf) (cwV 0 hts gX6_ranks_J4_toString_0e30d rfl rfl rfl hdJ4_toString_0e30d_0 ⟨Nat.le_of_ble_eq_true rfl, Nat.le_of_ble_eq_true rfl⟩) (hT.preV hK hX (ci := 1) (r := (RJ4, TJ4, 4)) rfl 0 rfl) rfl rfl hl.1 rfl (lv_room (Nat.le_of_ble_eq_true rfl)) dX6_ranks_128 ⟨by show _ ≤ 112; omega, by show _ ≤ 2568; omega⟩) hK hX hT (fun q_19 H locs hX hV => ?_)
                  refine lv_astore (lv' := [(4, .ref q_19), (7, .int (nI (rankC (cM M j) (((M.1 i).1) a)))), (0, .ref (am 0)), (1, .int (nI i)), (2, .int (nI j)), (3, .int (bI true)), (5, .int (nI k)), (6, .int (nI a))]) hx hb dX6_ranks_131 hl (by decide) rfl (fun ls hl => ?_)
                  refine lv_iinc (v := nI (a + 1)) (lv' := [(6, .int (nI (a + 1))), (4, .ref q_19), (7, .int (nI (rankC (cM M j) (((M.1 i).1) a)))), (0, .ref (am 0)), (1, .int (nI i)), (2, .int (nI j)), (3, .int (bI true)), (5, .int (nI k))]) hx hb dX6_ranks_133 hl (k := 7) rfl (nI_1 a) (by decide) rfl (fun ls hl => ?_)
                  refine lv_goto (tgt := 55) hx hb dX6_ranks_136 (by decide) ?_
                  refine W.widen (k := 7 * (ct + 1)) (n := slR 3 5 (ct + 1)) (by omega) (by omega) ?_
                  exact ih55  (a + 1) (ct + 1) q_19 (0 + nm + 0 + sb_dg (rankC (cM M j) (((M.1 i).1) a))) (by omega) (by rw [rkT_s (r := (fun y => rankC (cM M j) ((M.1 i).1 y))) hrk]; omega) (by omega) _ _ (by omega) hX hV _ (lv_sub hl [3, 4, 5, 6, 1, 7, 0] rfl)
        refine W.widen (k := 7 * ct) (n := slR 3 5 ct) (by omega) (by omega) ?_
        exact loop55 ((M.1 i).2.2 + 1) 0 ct qm nm (by omega) hc3 hnm _ _ (by omega) hX hV _ (lv_sub hl [1, 2, 3, 4, 5, 6, 0] rfl)
  refine W.widen (k := 7 * 0) (n := slR 3 5 0) (by omega) (by omega) ?_
  exact loop37 (16 + 1) 0 0 ac4 0 (by omega) (Nat.zero_le _) (by omega) _ _ (by omega) hX hV _ (lv_sub hl [2, 3, 4, 5, 1, 0] rfl)
set_option maxHeartbeats 4000000 in
set_option maxRecDepth 100000 in
theorem o_X6_text_1 (l : Launch) (dC : Nat → ClassId) (dI : Nat → Nat → Nat) (cB : ClassId) (am : Nat → Nat) (M : MS) (x9 : Int32) (hb9 : x9 < 0 ∨ nI 3 ≤ x9) : Met l yX6_text wsX6_text ({ frames := 6, cells := 0, slots := 0, locals := 151 } : Room) (va_Pc [.ref (am 0), .int x9] (PMT dC dI cB am M)) (va_Qr (fun M1 : MS => M1 = thM M 1) (fun M1 _ t => PM dC dI am M1 t) (AM am)) 0 0 (AM am) := by
  refine Met.ofW (cc := cX6_text) (maxL := 4) (ret := (some (.object "java/lang/String"))) pl_X6 rfl ?_
  intro p e s m args below meth c s₁ B hml hv
  obtain ⟨rfl, hPM⟩ := hv
  have hx := B.exec
  have hb := B.bytes
  have hr := B.returns
  have hts := atoms_spec (ws := wsX6_text) B.pre
  have hown : s.vm.findClass RX6 = some m.cls := findClass_of_methodNamed B.named
  have hlocks := B.notSynchronized
  have hin6 : ∀ w ∈ u_ws RX6 TX6 10, w ∈ wsX6_text := tu 1331 (by decide +kernel) rfl
  have hK := KT.of hPM
  have hCM := hPM.2.2.2
  have hX := WM.ofY hPM.1
  have hl := lv_entry ([.ref (am 0), .int x9]) (n := 4) (Nat.le_of_ble_eq_true rfl)
  rw [lg_entry_eq]
  generalize (lg_sl ([.ref (am 0), .int x9]) ++ List.replicate (4 - (lg_sl ([.ref (am 0), .int x9])).length) Slot.unset).toArray = ls at hl ⊢
  have hl : lv_has ls 4 [(0, .ref (am 0)), (1, .int x9)] := hl
  show W p l e ({ frames := 6, cells := 0, slots := 0, locals := 151 } : Room) s m ([.ref (am 0), .int x9]).toArray below meth c s.heap [] 0 0 (MQ below (va_Qr (fun M1 : MS => M1 = thM M 1) (fun M1 _ t => PM dC dI am M1 t) (AM am)) ([.ref (am 0), .int x9]).toArray s 0 0 (AM am)) (F0 m 0 ls [])
  refine lv_aload_n hx hb dX6_text_0 rfl (lv_at hl 0 rfl) ?_
  refine lv_iload_n hx hb dX6_text_1 rfl (lv_at hl 1 rfl) ?_
  refine kx_cr (v := bI true) (va_runS (As := [.int x9]) (rest := [.ref (am 0)]) ⟨hx, hb, hml, hown, hts⟩ (m_X6_isNoRow l dC dI am M x9) (va_cwS 1 hts gX6_text_X6_isNoRow rfl rfl rfl hdX6_isNoRow_1.2 ⟨Nat.le_of_ble_eq_true rfl, Nat.le_of_ble_eq_true rfl⟩) hX.preS rfl rfl hl.1 rfl (lv_room (Nat.le_of_ble_eq_true rfl)) dX6_text_2 ⟨Nat.le_of_ble_eq_true rfl, Nat.le_of_ble_eq_true rfl⟩) (fun _ h => h.trans (isNo_bad (isNo_r hb9))) ?_
  refine lv_iconst (v := nI 1) hx hb dX6_text_5 (by decide) ?_
  refine km_ci (va_runV (As := [.int (bI true), .int (nI 1)]) (rest := []) ⟨hx, hb, hml, hown, hts⟩ (m_X6_start l dC dI am M true 1 (by omega)) (cwV 2 hts gX6_text_X6_start rfl rfl rfl hdX6_start_2 ⟨Nat.le_of_ble_eq_true rfl, Nat.le_of_ble_eq_true rfl⟩) (hX.preObj) rfl rfl hl.1 rfl (lv_room (Nat.le_of_ble_eq_true rfl)) dX6_text_6 ⟨Nat.le_of_ble_eq_true rfl, Nat.le_of_ble_eq_true rfl⟩) hX (fun _ h => Or.inl h) (fun r_ S_ H locs hw hX => ?_)
  obtain ⟨rfl, rfl⟩ := hw
  refine kb_if_eq (tgt := 15) hx hb dX6_text_9 (by decide) (fun k_1 => absurd k_1 (by decide)) (fun k_1 => ?_)
  obtain ⟨ac2, hr2, hV⟩ := CM.at hCM hX (A := (zB H.size)) (c := (95, "", 0)) (by decide) (fun q hq => Or.inr (Nat.le_trans hX.2.2.2.1 hq))
  replace hV : SV (zB H.size) ac2 0 s H := hV
  refine va_ldcS hx hb hown hr2 dX6_text_12 ?_
  exact W.widen (k := 0) (n := 0) (by omega) (by omega) (W.filt (fun locs1 hl1 => W.aret (v := .ref ac2) hx hb hr (Or.inl ⟨_, rfl⟩) (Or.inr ⟨_, rfl⟩) (fun t9 ht9 hW9 => ⟨⟨(mN M (1, M.2.2.2.1, M.2.2.2.2.1, M.2.2.2.2.2)), _, rfl, rfl, hX.P ht9 hW9⟩, (hX.2.2.2.F ht9).Y⟩) (free_Y hX.2.2.2 hl1) dX6_text_14))
set_option maxHeartbeats 4000000 in
set_option maxRecDepth 100000 in
theorem o_X6_orderText_1 (l : Launch) (dC : Nat → ClassId) (dI : Nat → Nat → Nat) (cB : ClassId) (am : Nat → Nat) (M : MS) (x9 : Int32) (hb9 : x9 < 0 ∨ nI 4 ≤ x9) : Met l yX6_orderText wsX6_orderText ({ frames := 6, cells := 0, slots := 0, locals := 151 } : Room) (va_Pc [.ref (am 0), .int x9] (PMT dC dI cB am M)) (va_Qr (fun M1 : MS => M1 = thM M 1) (fun M1 _ t => PM dC dI am M1 t) (AM am)) 0 0 (AM am) := by
  refine Met.ofW (cc := cX6_orderText) (maxL := 4) (ret := (some (.object "java/lang/String"))) pl_X6 rfl ?_
  intro p e s m args below meth c s₁ B hml hv
  obtain ⟨rfl, hPM⟩ := hv
  have hx := B.exec
  have hb := B.bytes
  have hr := B.returns
  have hts := atoms_spec (ws := wsX6_orderText) B.pre
  have hown : s.vm.findClass RX6 = some m.cls := findClass_of_methodNamed B.named
  have hlocks := B.notSynchronized
  have hin6 : ∀ w ∈ u_ws RX6 TX6 10, w ∈ wsX6_orderText := tu 1331 (by decide +kernel) rfl
  have hK := KT.of hPM
  have hCM := hPM.2.2.2
  have hX := WM.ofY hPM.1
  have hl := lv_entry ([.ref (am 0), .int x9]) (n := 4) (Nat.le_of_ble_eq_true rfl)
  rw [lg_entry_eq]
  generalize (lg_sl ([.ref (am 0), .int x9]) ++ List.replicate (4 - (lg_sl ([.ref (am 0), .int x9])).length) Slot.unset).toArray = ls at hl ⊢
  have hl : lv_has ls 4 [(0, .ref (am 0)), (1, .int x9)] := hl
  show W p l e ({ frames := 6, cells := 0, slots := 0, locals := 151 } : Room) s m ([.ref (am 0), .int x9]).toArray below meth c s.heap [] 0 0 (MQ below (va_Qr (fun M1 : MS => M1 = thM M 1) (fun M1 _ t => PM dC dI am M1 t) (AM am)) ([.ref (am 0), .int x9]).toArray s 0 0 (AM am)) (F0 m 0 ls [])
  refine lv_aload_n hx hb dX6_orderText_0 rfl (lv_at hl 0 rfl) ?_
  refine lv_iload_n hx hb dX6_orderText_1 rfl (lv_at hl 1 rfl) ?_
  refine kx_cr (v := bI true) (va_runS (As := [.int x9]) (rest := [.ref (am 0)]) ⟨hx, hb, hml, hown, hts⟩ (m_X6_isNoOrder l dC dI am M x9) (va_cwS 1 hts gX6_orderText_X6_isNoOrder rfl rfl rfl hdX6_isNoOrder_1.2 ⟨Nat.le_of_ble_eq_true rfl, Nat.le_of_ble_eq_true rfl⟩) hX.preS rfl rfl hl.1 rfl (lv_room (Nat.le_of_ble_eq_true rfl)) dX6_orderText_2 ⟨Nat.le_of_ble_eq_true rfl, Nat.le_of_ble_eq_true rfl⟩) (fun _ h => h.trans (isNo_bad (isNo_o hb9))) ?_
  refine lv_iconst (v := nI 1) hx hb dX6_orderText_5 (by decide) ?_
  refine km_ci (va_runV (As := [.int (bI true), .int (nI 1)]) (rest := []) ⟨hx, hb, hml, hown, hts⟩ (m_X6_start l dC dI am M true 1 (by omega)) (cwV 2 hts gX6_orderText_X6_start rfl rfl rfl hdX6_start_2 ⟨Nat.le_of_ble_eq_true rfl, Nat.le_of_ble_eq_true rfl⟩) (hX.preObj) rfl rfl hl.1 rfl (lv_room (Nat.le_of_ble_eq_true rfl)) dX6_orderText_6 ⟨Nat.le_of_ble_eq_true rfl, Nat.le_of_ble_eq_true rfl⟩) hX (fun _ h => Or.inl h) (fun r_ S_ H locs hw hX => ?_)
  obtain ⟨rfl, rfl⟩ := hw
  refine kb_if_eq (tgt := 15) hx hb dX6_orderText_9 (by decide) (fun k_1 => absurd k_1 (by decide)) (fun k_1 => ?_)
  obtain ⟨ac2, hr2, hV⟩ := CM.at hCM hX (A := (zB H.size)) (c := (95, "", 0)) (by decide) (fun q hq => Or.inr (Nat.le_trans hX.2.2.2.1 hq))
  replace hV : SV (zB H.size) ac2 0 s H := hV
  refine va_ldcS hx hb hown hr2 dX6_orderText_12 ?_
  exact W.widen (k := 0) (n := 0) (by omega) (by omega) (W.filt (fun locs1 hl1 => W.aret (v := .ref ac2) hx hb hr (Or.inl ⟨_, rfl⟩) (Or.inr ⟨_, rfl⟩) (fun t9 ht9 hW9 => ⟨⟨(mN M (1, M.2.2.2.1, M.2.2.2.2.1, M.2.2.2.2.2)), _, rfl, rfl, hX.P ht9 hW9⟩, (hX.2.2.2.F ht9).Y⟩) (free_Y hX.2.2.2 hl1) dX6_orderText_14))
set_option maxHeartbeats 4000000 in
set_option maxRecDepth 100000 in
theorem o_X6_groups_1 (l : Launch) (dC : Nat → ClassId) (dI : Nat → Nat → Nat) (cB : ClassId) (am : Nat → Nat) (M : MS) (x9 : Int32) (y1 : Int32) (hb9 : x9 < 0 ∨ nI 3 ≤ x9) : Met l yX6_groups wsX6_groups ({ frames := 6, cells := 0, slots := 0, locals := 151 } : Room) (va_Pc [.ref (am 0), .int x9, .int y1] (PMT dC dI cB am M)) (va_Qr (fun M1 : MS => M1 = thM M 1) (fun M1 _ t => PM dC dI am M1 t) (AM am)) 0 0 (AM am) := by
  refine Met.ofW (cc := cX6_groups) (maxL := 8) (ret := (some (.object "java/lang/String"))) pl_X6 rfl ?_
  intro p e s m args below meth c s₁ B hml hv
  obtain ⟨rfl, hPM⟩ := hv
  have hx := B.exec
  have hb := B.bytes
  have hr := B.returns
  have hts := atoms_spec (ws := wsX6_groups) B.pre
  have hown : s.vm.findClass RX6 = some m.cls := findClass_of_methodNamed B.named
  have hlocks := B.notSynchronized
  have hin6 : ∀ w ∈ u_ws RX6 TX6 10, w ∈ wsX6_groups := tu 1331 (by decide +kernel) rfl
  have hK := KT.of hPM
  have hCM := hPM.2.2.2
  have hX := WM.ofY hPM.1
  have hl := lv_entry ([.ref (am 0), .int x9, .int y1]) (n := 8) (Nat.le_of_ble_eq_true rfl)
  rw [lg_entry_eq]
  generalize (lg_sl ([.ref (am 0), .int x9, .int y1]) ++ List.replicate (8 - (lg_sl ([.ref (am 0), .int x9, .int y1])).length) Slot.unset).toArray = ls at hl ⊢
  have hl : lv_has ls 8 [(0, .ref (am 0)), (1, .int x9), (2, .int y1)] := hl
  show W p l e ({ frames := 6, cells := 0, slots := 0, locals := 151 } : Room) s m ([.ref (am 0), .int x9, .int y1]).toArray below meth c s.heap [] 0 0 (MQ below (va_Qr (fun M1 : MS => M1 = thM M 1) (fun M1 _ t => PM dC dI am M1 t) (AM am)) ([.ref (am 0), .int x9, .int y1]).toArray s 0 0 (AM am)) (F0 m 0 ls [])
  refine lv_aload_n hx hb dX6_groups_0 rfl (lv_at hl 0 rfl) ?_
  refine lv_iload_n hx hb dX6_groups_1 rfl (lv_at hl 1 rfl) ?_
  refine kx_cr (v := bI true) (va_runS (As := [.int x9]) (rest := [.ref (am 0)]) ⟨hx, hb, hml, hown, hts⟩ (m_X6_isNoRow l dC dI am M x9) (va_cwS 1 hts gX6_groups_X6_isNoRow rfl rfl rfl hdX6_isNoRow_1.2 ⟨Nat.le_of_ble_eq_true rfl, Nat.le_of_ble_eq_true rfl⟩) hX.preS rfl rfl hl.1 rfl (lv_room (Nat.le_of_ble_eq_true rfl)) dX6_groups_2 ⟨Nat.le_of_ble_eq_true rfl, Nat.le_of_ble_eq_true rfl⟩) (fun _ h => h.trans (isNo_bad (isNo_r hb9))) ?_
  refine kb_if_ne (tgt := 15) hx hb dX6_groups_5 (by decide) (fun k_1 => ?_) (fun k_1 => absurd k_1 (by decide))
  refine lv_iconst (v := nI 1) hx hb dX6_groups_15 (by decide) ?_
  refine lv_goto (tgt := 20) hx hb dX6_groups_16 (by decide) ?_
  refine lv_iconst (v := nI 1) hx hb dX6_groups_20 (by decide) ?_
  refine km_ci (va_runV (As := [.int (nI 1), .int (nI 1)]) (rest := []) ⟨hx, hb, hml, hown, hts⟩ (m_X6_start l dC dI am M true 1 (by omega)) (cwV 2 hts gX6_groups_X6_start rfl rfl rfl hdX6_start_2 ⟨Nat.le_of_ble_eq_true rfl, Nat.le_of_ble_eq_true rfl⟩) (hX.preObj) rfl rfl hl.1 rfl (lv_room (Nat.le_of_ble_eq_true rfl)) dX6_groups_21 ⟨Nat.le_of_ble_eq_true rfl, Nat.le_of_ble_eq_true rfl⟩) hX (fun _ h => Or.inl h) (fun r_ S_ H locs hw hX => ?_)
  obtain ⟨rfl, rfl⟩ := hw
  refine kb_if_eq (tgt := 30) hx hb dX6_groups_24 (by decide) (fun k_2 => absurd k_2 (by decide)) (fun k_2 => ?_)
  obtain ⟨ac3, hr3, hV⟩ := CM.at hCM hX (A := (zB H.size)) (c := (95, "", 0)) (by decide) (fun q hq => Or.inr (Nat.le_trans hX.2.2.2.1 hq))
  replace hV : SV (zB H.size) ac3 0 s H := hV
  refine va_ldcS hx hb hown hr3 dX6_groups_27 ?_
  exact W.widen (k := 0) (n := 0) (by omega) (by omega) (W.filt (fun locs1 hl1 => W.aret (v := .ref ac3) hx hb hr (Or.inl ⟨_, rfl⟩) (Or.inr ⟨_, rfl⟩) (fun t9 ht9 hW9 => ⟨⟨(mN M (1, M.2.2.2.1, M.2.2.2.2.1, M.2.2.2.2.2)), _, rfl, rfl, hX.P ht9 hW9⟩, (hX.2.2.2.F ht9).Y⟩) (free_Y hX.2.2.2 hl1) dX6_groups_29))
set_option maxHeartbeats 4000000 in
set_option maxRecDepth 100000 in
theorem o_X6_groups_2 (l : Launch) (dC : Nat → ClassId) (dI : Nat → Nat → Nat) (cB : ClassId) (am : Nat → Nat) (M : MS) (i : Nat) (x9 : Int32) (hi : i < 3) (hb9 : x9 < 0 ∨ nI 4 ≤ x9) : Met l yX6_groups wsX6_groups ({ frames := 6, cells := 0, slots := 0, locals := 151 } : Room) (va_Pc [.ref (am 0), .int (nI i), .int x9] (PMT dC dI cB am M)) (va_Qr (fun M1 : MS => M1 = thM M 1) (fun M1 _ t => PM dC dI am M1 t) (AM am)) 0 0 (AM am) := by
  refine Met.ofW (cc := cX6_groups) (maxL := 8) (ret := (some (.object "java/lang/String"))) pl_X6 rfl ?_
  intro p e s m args below meth c s₁ B hml hv
  obtain ⟨rfl, hPM⟩ := hv
  have hx := B.exec
  have hb := B.bytes
  have hr := B.returns
  have hts := atoms_spec (ws := wsX6_groups) B.pre
  have hown : s.vm.findClass RX6 = some m.cls := findClass_of_methodNamed B.named
  have hlocks := B.notSynchronized
  have hin6 : ∀ w ∈ u_ws RX6 TX6 10, w ∈ wsX6_groups := tu 1331 (by decide +kernel) rfl
  have hK := KT.of hPM
  have hCM := hPM.2.2.2
  have hX := WM.ofY hPM.1
  have hl := lv_entry ([.ref (am 0), .int (nI i), .int x9]) (n := 8) (Nat.le_of_ble_eq_true rfl)
  rw [lg_entry_eq]
  generalize (lg_sl ([.ref (am 0), .int (nI i), .int x9]) ++ List.replicate (8 - (lg_sl ([.ref (am 0), .int (nI i), .int x9])).length) Slot.unset).toArray = ls at hl ⊢
  have hl : lv_has ls 8 [(0, .ref (am 0)), (1, .int (nI i)), (2, .int x9)] := hl
  show W p l e ({ frames := 6, cells := 0, slots := 0, locals := 151 } : Room) s m ([.ref (am 0), .int (nI i), .int x9]).toArray below meth c s.heap [] 0 0 (MQ below (va_Qr (fun M1 : MS => M1 = thM M 1) (fun M1 _ t => PM dC dI am M1 t) (AM am)) ([.ref (am 0), .int (nI i), .int x9]).toArray s 0 0 (AM am)) (F0 m 0 ls [])
  refine lv_aload_n hx hb dX6_groups_0 rfl (lv_at hl 0 rfl) ?_
  refine lv_iload_n hx hb dX6_groups_1 rfl (lv_at hl 1 rfl) ?_
  refine kx_cr (v := bI false) (va_runS (As := [.int (nI i)]) (rest := [.ref (am 0)]) ⟨hx, hb, hml, hown, hts⟩ (m_X6_isNoRow l dC dI am M (nI i)) (va_cwS 1 hts gX6_groups_X6_isNoRow rfl rfl rfl hdX6_isNoRow_1.2 ⟨Nat.le_of_ble_eq_true rfl, Nat.le_of_ble_eq_true rfl⟩) hX.preS rfl rfl hl.1 rfl (lv_room (Nat.le_of_ble_eq_true rfl)) dX6_groups_2 ⟨Nat.le_of_ble_eq_true rfl, Nat.le_of_ble_eq_true rfl⟩) (fun _ h => h.trans (isNo_ok (by omega) (by omega))) ?_
  refine kb_if_ne (tgt := 15) hx hb dX6_groups_5 (by decide) (fun k_1 => absurd k_1 (by decide)) (fun k_1 => ?_)
  refine lv_iload_n hx hb dX6_groups_8 rfl (lv_at hl 2 rfl) ?_
  refine kx_cr (v := bI true) (va_runS (As := [.int x9]) (rest := [.ref (am 0)]) ⟨hx, hb, hml, hown, hts⟩ (m_X6_isNoOrder l dC dI am M x9) (va_cwS 1 hts gX6_groups_X6_isNoOrder rfl rfl rfl hdX6_isNoOrder_1.2 ⟨Nat.le_of_ble_eq_true rfl, Nat.le_of_ble_eq_true rfl⟩) hX.preS rfl rfl hl.1 rfl (lv_room (Nat.le_of_ble_eq_true rfl)) dX6_groups_9 ⟨Nat.le_of_ble_eq_true rfl, Nat.le_of_ble_eq_true rfl⟩) (fun _ h => h.trans (isNo_bad (isNo_o hb9))) ?_
  refine kb_if_eq (tgt := 19) hx hb dX6_groups_12 (by decide) (fun k_2 => absurd k_2 (by decide)) (fun k_2 => ?_)
  refine lv_iconst (v := nI 1) hx hb dX6_groups_15 (by decide) ?_
  refine lv_goto (tgt := 20) hx hb dX6_groups_16 (by decide) ?_
  refine lv_iconst (v := nI 1) hx hb dX6_groups_20 (by decide) ?_
  refine km_ci (va_runV (As := [.int (nI 1), .int (nI 1)]) (rest := []) ⟨hx, hb, hml, hown, hts⟩ (m_X6_start l dC dI am M true 1 (by omega)) (cwV 2 hts gX6_groups_X6_start rfl rfl rfl hdX6_start_2 ⟨Nat.le_of_ble_eq_true rfl, Nat.le_of_ble_eq_true rfl⟩) (hX.preObj) rfl rfl hl.1 rfl (lv_room (Nat.le_of_ble_eq_true rfl)) dX6_groups_21 ⟨Nat.le_of_ble_eq_true rfl, Nat.le_of_ble_eq_true rfl⟩) hX (fun _ h => Or.inl h) (fun r_ S_ H locs hw hX => ?_)
  obtain ⟨rfl, rfl⟩ := hw
  refine kb_if_eq (tgt := 30) hx hb dX6_groups_24 (by decide) (fun k_3 => absurd k_3 (by decide)) (fun k_3 => ?_)
  obtain ⟨ac4, hr4, hV⟩ := CM.at hCM hX (A := (zB H.size)) (c := (95, "", 0)) (by decide) (fun q hq => Or.inr (Nat.le_trans hX.2.2.2.1 hq))
  replace hV : SV (zB H.size) ac4 0 s H := hV
  refine va_ldcS hx hb hown hr4 dX6_groups_27 ?_
  exact W.widen (k := 0) (n := 0) (by omega) (by omega) (W.filt (fun locs1 hl1 => W.aret (v := .ref ac4) hx hb hr (Or.inl ⟨_, rfl⟩) (Or.inr ⟨_, rfl⟩) (fun t9 ht9 hW9 => ⟨⟨(mN M (1, M.2.2.2.1, M.2.2.2.2.1, M.2.2.2.2.2)), _, rfl, rfl, hX.P ht9 hW9⟩, (hX.2.2.2.F ht9).Y⟩) (free_Y hX.2.2.2 hl1) dX6_groups_29))
set_option maxHeartbeats 4000000 in
set_option maxRecDepth 100000 in
theorem o_X6_ranks_1 (l : Launch) (dC : Nat → ClassId) (dI : Nat → Nat → Nat) (cB : ClassId) (am : Nat → Nat) (M : MS) (x9 : Int32) (y1 : Int32) (z : Bool) (hb9 : x9 < 0 ∨ nI 3 ≤ x9) : Met l yX6_ranks wsX6_ranks ({ frames := 6, cells := 0, slots := 0, locals := 151 } : Room) (va_Pc [.ref (am 0), .int x9, .int y1, .int (bI z)] (PMT dC dI cB am M)) (va_Qr (fun M1 : MS => M1 = thM M 1) (fun M1 _ t => PM dC dI am M1 t) (AM am)) 0 0 (AM am) := by
  refine Met.ofW (cc := cX6_ranks) (maxL := 8) (ret := (some (.object "java/lang/String"))) pl_X6 rfl ?_
  intro p e s m args below meth c s₁ B hml hv
  obtain ⟨rfl, hPM⟩ := hv
  have hx := B.exec
  have hb := B.bytes
  have hr := B.returns
  have hts := atoms_spec (ws := wsX6_ranks) B.pre
  have hown : s.vm.findClass RX6 = some m.cls := findClass_of_methodNamed B.named
  have hlocks := B.notSynchronized
  have hin6 : ∀ w ∈ u_ws RX6 TX6 10, w ∈ wsX6_ranks := tu 1331 (by decide +kernel) rfl
  have hK := KT.of hPM
  have hCM := hPM.2.2.2
  have hX := WM.ofY hPM.1
  have hl := lv_entry ([.ref (am 0), .int x9, .int y1, .int (bI z)]) (n := 8) (Nat.le_of_ble_eq_true rfl)
  rw [lg_entry_eq]
  generalize (lg_sl ([.ref (am 0), .int x9, .int y1, .int (bI z)]) ++ List.replicate (8 - (lg_sl ([.ref (am 0), .int x9, .int y1, .int (bI z)])).length) Slot.unset).toArray = ls at hl ⊢
  have hl : lv_has ls 8 [(0, .ref (am 0)), (1, .int x9), (2, .int y1), (3, .int (bI z))] := hl
  show W p l e ({ frames := 6, cells := 0, slots := 0, locals := 151 } : Room) s m ([.ref (am 0), .int x9, .int y1, .int (bI z)]).toArray below meth c s.heap [] 0 0 (MQ below (va_Qr (fun M1 : MS => M1 = thM M 1) (fun M1 _ t => PM dC dI am M1 t) (AM am)) ([.ref (am 0), .int x9, .int y1, .int (bI z)]).toArray s 0 0 (AM am)) (F0 m 0 ls [])
  refine lv_aload_n hx hb dX6_ranks_0 rfl (lv_at hl 0 rfl) ?_
  refine lv_iload_n hx hb dX6_ranks_1 rfl (lv_at hl 1 rfl) ?_
  refine kx_cr (v := bI true) (va_runS (As := [.int x9]) (rest := [.ref (am 0)]) ⟨hx, hb, hml, hown, hts⟩ (m_X6_isNoRow l dC dI am M x9) (va_cwS 1 hts gX6_ranks_X6_isNoRow rfl rfl rfl hdX6_isNoRow_1.2 ⟨Nat.le_of_ble_eq_true rfl, Nat.le_of_ble_eq_true rfl⟩) hX.preS rfl rfl hl.1 rfl (lv_room (Nat.le_of_ble_eq_true rfl)) dX6_ranks_2 ⟨Nat.le_of_ble_eq_true rfl, Nat.le_of_ble_eq_true rfl⟩) (fun _ h => h.trans (isNo_bad (isNo_r hb9))) ?_
  refine kb_if_ne (tgt := 15) hx hb dX6_ranks_5 (by decide) (fun k_1 => ?_) (fun k_1 => absurd k_1 (by decide))
  refine lv_iconst (v := nI 1) hx hb dX6_ranks_15 (by decide) ?_
  refine lv_goto (tgt := 20) hx hb dX6_ranks_16 (by decide) ?_
  refine lv_iconst (v := nI 1) hx hb dX6_ranks_20 (by decide) ?_
  refine km_ci (va_runV (As := [.int (nI 1), .int (nI 1)]) (rest := []) ⟨hx, hb, hml, hown, hts⟩ (m_X6_start l dC dI am M true 1 (by omega)) (cwV 2 hts gX6_ranks_X6_start rfl rfl rfl hdX6_start_2 ⟨Nat.le_of_ble_eq_true rfl, Nat.le_of_ble_eq_true rfl⟩) (hX.preObj) rfl rfl hl.1 rfl (lv_room (Nat.le_of_ble_eq_true rfl)) dX6_ranks_21 ⟨Nat.le_of_ble_eq_true rfl, Nat.le_of_ble_eq_true rfl⟩) hX (fun _ h => Or.inl h) (fun r_ S_ H locs hw hX => ?_)
  obtain ⟨rfl, rfl⟩ := hw
  refine kb_if_eq (tgt := 30) hx hb dX6_ranks_24 (by decide) (fun k_2 => absurd k_2 (by decide)) (fun k_2 => ?_)
  obtain ⟨ac3, hr3, hV⟩ := CM.at hCM hX (A := (zB H.size)) (c := (95, "", 0)) (by decide) (fun q hq => Or.inr (Nat.le_trans hX.2.2.2.1 hq))
  replace hV : SV (zB H.size) ac3 0 s H := hV
  refine va_ldcS hx hb hown hr3 dX6_ranks_27 ?_
  exact W.widen (k := 0) (n := 0) (by omega) (by omega) (W.filt (fun locs1 hl1 => W.aret (v := .ref ac3) hx hb hr (Or.inl ⟨_, rfl⟩) (Or.inr ⟨_, rfl⟩) (fun t9 ht9 hW9 => ⟨⟨(mN M (1, M.2.2.2.1, M.2.2.2.2.1, M.2.2.2.2.2)), _, rfl, rfl, hX.P ht9 hW9⟩, (hX.2.2.2.F ht9).Y⟩) (free_Y hX.2.2.2 hl1) dX6_ranks_29))
set_option maxHeartbeats 4000000 in
set_option maxRecDepth 100000 in
theorem o_X6_ranks_2 (l : Launch) (dC : Nat → ClassId) (dI : Nat → Nat → Nat) (cB : ClassId) (am : Nat → Nat) (M : MS) (i : Nat) (x9 : Int32) (z : Bool) (hi : i < 3) (hb9 : x9 < 0 ∨ nI 4 ≤ x9) : Met l yX6_ranks wsX6_ranks ({ frames := 6, cells := 0, slots := 0, locals := 151 } : Room) (va_Pc [.ref (am 0), .int (nI i), .int x9, .int (bI z)] (PMT dC dI cB am M)) (va_Qr (fun M1 : MS => M1 = thM M 1) (fun M1 _ t => PM dC dI am M1 t) (AM am)) 0 0 (AM am) := by
  refine Met.ofW (cc := cX6_ranks) (maxL := 8) (ret := (some (.object "java/lang/String"))) pl_X6 rfl ?_
  intro p e s m args below meth c s₁ B hml hv
  obtain ⟨rfl, hPM⟩ := hv
  have hx := B.exec
  have hb := B.bytes
  have hr := B.returns
  have hts := atoms_spec (ws := wsX6_ranks) B.pre
  have hown : s.vm.findClass RX6 = some m.cls := findClass_of_methodNamed B.named
  have hlocks := B.notSynchronized
  have hin6 : ∀ w ∈ u_ws RX6 TX6 10, w ∈ wsX6_ranks := tu 1331 (by decide +kernel) rfl
  have hK := KT.of hPM
  have hCM := hPM.2.2.2
  have hX := WM.ofY hPM.1
  have hl := lv_entry ([.ref (am 0), .int (nI i), .int x9, .int (bI z)]) (n := 8) (Nat.le_of_ble_eq_true rfl)
  rw [lg_entry_eq]
  generalize (lg_sl ([.ref (am 0), .int (nI i), .int x9, .int (bI z)]) ++ List.replicate (8 - (lg_sl ([.ref (am 0), .int (nI i), .int x9, .int (bI z)])).length) Slot.unset).toArray = ls at hl ⊢
  have hl : lv_has ls 8 [(0, .ref (am 0)), (1, .int (nI i)), (2, .int x9), (3, .int (bI z))] := hl
  show W p l e ({ frames := 6, cells := 0, slots := 0, locals := 151 } : Room) s m ([.ref (am 0), .int (nI i), .int x9, .int (bI z)]).toArray below meth c s.heap [] 0 0 (MQ below (va_Qr (fun M1 : MS => M1 = thM M 1) (fun M1 _ t => PM dC dI am M1 t) (AM am)) ([.ref (am 0), .int (nI i), .int x9, .int (bI z)]).toArray s 0 0 (AM am)) (F0 m 0 ls [])
  refine lv_aload_n hx hb dX6_ranks_0 rfl (lv_at hl 0 rfl) ?_
  refine lv_iload_n hx hb dX6_ranks_1 rfl (lv_at hl 1 rfl) ?_
  refine kx_cr (v := bI false) (va_runS (As := [.int (nI i)]) (rest := [.ref (am 0)]) ⟨hx, hb, hml, hown, hts⟩ (m_X6_isNoRow l dC dI am M (nI i)) (va_cwS 1 hts gX6_ranks_X6_isNoRow rfl rfl rfl hdX6_isNoRow_1.2 ⟨Nat.le_of_ble_eq_true rfl, Nat.le_of_ble_eq_true rfl⟩) hX.preS rfl rfl hl.1 rfl (lv_room (Nat.le_of_ble_eq_true rfl)) dX6_ranks_2 ⟨Nat.le_of_ble_eq_true rfl, Nat.le_of_ble_eq_true rfl⟩) (fun _ h => h.trans (isNo_ok (by omega) (by omega))) ?_
  refine kb_if_ne (tgt := 15) hx hb dX6_ranks_5 (by decide) (fun k_1 => absurd k_1 (by decide)) (fun k_1 => ?_)
  refine lv_iload_n hx hb dX6_ranks_8 rfl (lv_at hl 2 rfl) ?_
  refine kx_cr (v := bI true) (va_runS (As := [.int x9]) (rest := [.ref (am 0)]) ⟨hx, hb, hml, hown, hts⟩ (m_X6_isNoOrder l dC dI am M x9) (va_cwS 1 hts gX6_ranks_X6_isNoOrder rfl rfl rfl hdX6_isNoOrder_1.2 ⟨Nat.le_of_ble_eq_true rfl, Nat.le_of_ble_eq_true rfl⟩) hX.preS rfl rfl hl.1 rfl (lv_room (Nat.le_of_ble_eq_true rfl)) dX6_ranks_9 ⟨Nat.le_of_ble_eq_true rfl, Nat.le_of_ble_eq_true rfl⟩) (fun _ h => h.trans (isNo_bad (isNo_o hb9))) ?_
  refine kb_if_eq (tgt := 19) hx hb dX6_ranks_12 (by decide) (fun k_2 => absurd k_2 (by decide)) (fun k_2 => ?_)
  refine lv_iconst (v := nI 1) hx hb dX6_ranks_15 (by decide) ?_
  refine lv_goto (tgt := 20) hx hb dX6_ranks_16 (by decide) ?_
  refine lv_iconst (v := nI 1) hx hb dX6_ranks_20 (by decide) ?_
  refine km_ci (va_runV (As := [.int (nI 1), .int (nI 1)]) (rest := []) ⟨hx, hb, hml, hown, hts⟩ (m_X6_start l dC dI am M true 1 (by omega)) (cwV 2 hts gX6_ranks_X6_start rfl rfl rfl hdX6_start_2 ⟨Nat.le_of_ble_eq_true rfl, Nat.le_of_ble_eq_true rfl⟩) (hX.preObj) rfl rfl hl.1 rfl (lv_room (Nat.le_of_ble_eq_true rfl)) dX6_ranks_21 ⟨Nat.le_of_ble_eq_true rfl, Nat.le_of_ble_eq_true rfl⟩) hX (fun _ h => Or.inl h) (fun r_ S_ H locs hw hX => ?_)
  obtain ⟨rfl, rfl⟩ := hw
  refine kb_if_eq (tgt := 30) hx hb dX6_ranks_24 (by decide) (fun k_3 => absurd k_3 (by decide)) (fun k_3 => ?_)
  obtain ⟨ac4, hr4, hV⟩ := CM.at hCM hX (A := (zB H.size)) (c := (95, "", 0)) (by decide) (fun q hq => Or.inr (Nat.le_trans hX.2.2.2.1 hq))
  replace hV : SV (zB H.size) ac4 0 s H := hV
  refine va_ldcS hx hb hown hr4 dX6_ranks_27 ?_
  exact W.widen (k := 0) (n := 0) (by omega) (by omega) (W.filt (fun locs1 hl1 => W.aret (v := .ref ac4) hx hb hr (Or.inl ⟨_, rfl⟩) (Or.inr ⟨_, rfl⟩) (fun t9 ht9 hW9 => ⟨⟨(mN M (1, M.2.2.2.1, M.2.2.2.2.1, M.2.2.2.2.2)), _, rfl, rfl, hX.P ht9 hW9⟩, (hX.2.2.2.F ht9).Y⟩) (free_Y hX.2.2.2 hl1) dX6_ranks_29))
