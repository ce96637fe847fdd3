section
/-! THE CLASS'S WORLD: 60 cells by index: rows 0..7 (3 cells each), orders 0..5 (5 each, from 24), sorters 54 55, auditor 56, the object 57, its arrays 58 59 -/
def bI (b : Bool) : Int32 := if b then 1 else 0
abbrev RowS : Type := (Nat → Nat) × (Nat → Nat) × Nat
abbrev OrdS : Type := (Nat → Nat) × (Nat → Bool) × (Nat → Nat) × (Nat → Nat) × Nat × Nat
abbrev XS : Type := (Nat → RowS) × (Nat → OrdS) × Nat × Nat × Nat
def kRow (dC : Nat → ClassId) (ad : Nat → Nat) (i : Nat) (r : RowS) (t : Nat) : va_E := match t with
  | 0 => .inr (4, [.ref (ad (3 * i + 1)), .ref (ad (3 * i + 2)), .int (nI r.2.2)])
  | 1 => .inl (dC 20, 16, .inl (fun j => nI (r.1 j)))
  | _ => .inl (dC 20, 16, .inl (fun j => nI (r.2.1 j)))
def kOrd (dC : Nat → ClassId) (ad : Nat → Nat) (i : Nat) (o : OrdS) (t : Nat) : va_E := match t with
  | 0 => .inr (3, [.ref (ad (24 + 5 * i + 1)), .ref (ad (24 + 5 * i + 2)), .ref (ad (24 + 5 * i + 3)), .ref (ad (24 + 5 * i + 4)), .int (nI o.2.2.2.2.1), .int (nI o.2.2.2.2.2)])
  | 1 => .inl (dC 20, 10, .inl (fun j => nI (o.1 j)))
  | 2 => .inl (dC 21, 10, .inl (fun j => bI (o.2.1 j)))
  | 3 => .inl (dC 22, 16, .inr (.inl (fun j => lN (o.2.2.1 j))))
  | _ => .inl (dC 20, 16, .inl (fun j => nI (o.2.2.2.1 j)))
def kTop (dC : Nat → ClassId) (ad : Nat → Nat) (n : Nat × Nat × Nat) (k : Nat) : va_E := match k with
  | 54 => .inr (5, [.ref (ad 9)])
  | 55 => .inr (5, [.ref (ad 15)])
  | 56 => .inr (2, [.ref (ad 55), .ref (ad 18), .ref (ad 21), .ref (ad 49)])
  | 57 => .inr (6, [.ref (ad 58), .ref (ad 59), .ref (ad 54), .ref (ad 56), .ref (ad 12), .ref (ad 44), .int (nI n.1), .int (nI n.2.1), .int (nI n.2.2)])
  | 58 => .inl (dC 23, 3, .inr (.inr (.inr (.inr (fun j => some (ad (3 * j)))))))
  | _ => .inl (dC 24, 4, .inr (.inr (.inr (.inr (fun j => some (ad (24 + 5 * j)))))))
def kX (dC : Nat → ClassId) (ad : Nat → Nat) (S : XS) (k : Nat) : va_E := if k < 24 then kRow dC ad (k / 3) (S.1 (k / 3)) (k % 3) else if k < 54 then kOrd dC ad ((k - 24) / 5) (S.2.1 ((k - 24) / 5)) ((k - 24) % 5) else kTop dC ad S.2.2 k
def wX (dC : Nat → ClassId) (ad : Nat → Nat) (S : XS) : va_W := (List.range 60).map (fun k => (ad k, kX dC ad S k))
def tyX (dC : Nat → ClassId) : List (ClassId × FieldType) := [(dC 20, .int), (dC 21, .boolean), (dC 22, .long), (dC 23, .object "Orderlattice$Row"), (dC 24, .object "Orderlattice$Order")]
theorem wX_get {dC : Nat → ClassId} {ad : Nat → Nat} {S : XS} {k : Nat} (hk : k < 60) : (wX dC ad S)[k]? = some (ad k, kX dC ad S k) := by
  rw [wX, List.getElem?_map, List.getElem?_range hk]
  rfl
theorem kX_row {dC : Nat → ClassId} {ad : Nat → Nat} {S : XS} {i t : Nat} (hi : i < 8) (ht : t < 3) : kX dC ad S (3 * i + t) = kRow dC ad i (S.1 i) t := by
  rw [kX, if_pos (by omega), show (3 * i + t) / 3 = i by omega, show (3 * i + t) % 3 = t by omega]
theorem kX_ord {dC : Nat → ClassId} {ad : Nat → Nat} {S : XS} {i t : Nat} (hi : i < 6) (ht : t < 5) : kX dC ad S (24 + 5 * i + t) = kOrd dC ad i (S.2.1 i) t := by
  rw [kX, if_neg (by omega), if_pos (by omega), show (24 + 5 * i + t - 24) / 5 = i by omega, show (24 + 5 * i + t - 24) % 5 = t by omega]
theorem kX_top {dC : Nat → ClassId} {ad : Nat → Nat} {S : XS} {k : Nat} (h : 54 ≤ k) : kX dC ad S k = kTop dC ad S.2.2 k := by
  rw [kX, if_neg (by omega), if_neg (by omega)]
theorem wX_row {dC : Nat → ClassId} {ad : Nat → Nat} {S : XS} {i : Nat} (hi : i < 8) : (wX dC ad S)[3 * i]? = some (ad (3 * i), .inr (4, [.ref (ad (3 * i + 1)), .ref (ad (3 * i + 2)), .int (nI (S.1 i).2.2)])) := by
  rw [wX_get (by omega), show kX dC ad S (3 * i) = kX dC ad S (3 * i + 0) from rfl, kX_row hi (by omega)]; rfl
theorem wX_rv {dC : Nat → ClassId} {ad : Nat → Nat} {S : XS} {i : Nat} (hi : i < 8) : (wX dC ad S)[3 * i + 1]? = some (ad (3 * i + 1), .inl (dC 20, 16, .inl (fun j => nI ((S.1 i).1 j)))) := by
  rw [wX_get (by omega), kX_row hi (by omega)]; rfl
theorem wX_rm {dC : Nat → ClassId} {ad : Nat → Nat} {S : XS} {i : Nat} (hi : i < 8) : (wX dC ad S)[3 * i + 2]? = some (ad (3 * i + 2), .inl (dC 20, 16, .inl (fun j => nI ((S.1 i).2.1 j)))) := by
  rw [wX_get (by omega), kX_row hi (by omega)]; rfl
theorem wX_ord {dC : Nat → ClassId} {ad : Nat → Nat} {S : XS} {i : Nat} (hi : i < 6) : (wX dC ad S)[24 + 5 * i]? = some (ad (24 + 5 * i), .inr (3, [.ref (ad (24 + 5 * i + 1)), .ref (ad (24 + 5 * i + 2)), .ref (ad (24 + 5 * i + 3)), .ref (ad (24 + 5 * i + 4)), .int (nI (S.2.1 i).2.2.2.2.1), .int (nI (S.2.1 i).2.2.2.2.2)])) := by
  rw [wX_get (by omega), show kX dC ad S (24 + 5 * i) = kX dC ad S (24 + 5 * i + 0) from rfl, kX_ord hi (by omega)]; rfl
theorem wX_ok {dC : Nat → ClassId} {ad : Nat → Nat} {S : XS} {i : Nat} (hi : i < 6) : (wX dC ad S)[24 + 5 * i + 1]? = some (ad (24 + 5 * i + 1), .inl (dC 20, 10, .inl (fun j => nI ((S.2.1 i).1 j)))) := by
  rw [wX_get (by omega), kX_ord hi (by omega)]; rfl
theorem wX_od {dC : Nat → ClassId} {ad : Nat → Nat} {S : XS} {i : Nat} (hi : i < 6) : (wX dC ad S)[24 + 5 * i + 2]? = some (ad (24 + 5 * i + 2), .inl (dC 21, 10, .inl (fun j => bI ((S.2.1 i).2.1 j)))) := by
  rw [wX_get (by omega), kX_ord hi (by omega)]; rfl
theorem wX_oc {dC : Nat → ClassId} {ad : Nat → Nat} {S : XS} {i : Nat} (hi : i < 6) : (wX dC ad S)[24 + 5 * i + 3]? = some (ad (24 + 5 * i + 3), .inl (dC 22, 16, .inr (.inl (fun j => lN ((S.2.1 i).2.2.1 j))))) := by
  rw [wX_get (by omega), kX_ord hi (by omega)]; rfl
theorem wX_or {dC : Nat → ClassId} {ad : Nat → Nat} {S : XS} {i : Nat} (hi : i < 6) : (wX dC ad S)[24 + 5 * i + 4]? = some (ad (24 + 5 * i + 4), .inl (dC 20, 16, .inl (fun j => nI ((S.2.1 i).2.2.2.1 j)))) := by
  rw [wX_get (by omega), kX_ord hi (by omega)]; rfl
theorem wX_top {dC : Nat → ClassId} {ad : Nat → Nat} {S : XS} {k : Nat} (h : 54 ≤ k) (hk : k < 60) : (wX dC ad S)[k]? = some (ad k, kTop dC ad S.2.2 k) := by
  rw [wX_get hk, kX_top h]
theorem wX_set {dC : Nat → ClassId} {ad : Nat → Nat} {S S' : XS} {k : Nat} {e : va_E} (he : kX dC ad S' k = e) (h : ∀ j, j < 60 → j ≠ k → kX dC ad S' j = kX dC ad S j) : (wX dC ad S).set k (ad k, e) = wX dC ad S' := by
  apply List.ext_getElem?
  intro j
  by_cases hj : j < 60
  · rw [wX_get hj, List.getElem?_set]
    by_cases hkj : k = j
    · subst hkj
      rw [if_pos rfl, if_pos (by rw [wX, List.length_map, List.length_range]; exact hj), he]
    · rw [if_neg hkj, wX_get hj, h j hj (Ne.symm hkj)]
  · rw [List.getElem?_eq_none (by rw [List.length_set, wX, List.length_map, List.length_range]; omega), List.getElem?_eq_none (by rw [wX, List.length_map, List.length_range]; omega)]
/-- row i becomes r -/
def xR (S : XS) (i : Nat) (r : RowS) : XS := (va_up S.1 i r, S.2)
/-- order i becomes o -/
def xO (S : XS) (i : Nat) (o : OrdS) : XS := (S.1, va_up S.2.1 i o, S.2.2)
/-- the counters -/
def xN (S : XS) (n : Nat × Nat × Nat) : XS := (S.1, S.2.1, n)
theorem xR_row (S : XS) (i : Nat) (r : RowS) : (xR S i r).1 i = r := va_up_self _ _ _
theorem xR_ne (S : XS) {i j : Nat} (r : RowS) (h : j ≠ i) : (xR S i r).1 j = S.1 j := va_up_ne _ _ h
theorem xO_ord (S : XS) (i : Nat) (r : OrdS) : (xO S i r).2.1 i = r := va_up_self _ _ _
theorem xO_ne (S : XS) {i j : Nat} (r : OrdS) (h : j ≠ i) : (xO S i r).2.1 j = S.2.1 j := va_up_ne _ _ h
theorem wX_setR {dC : Nat → ClassId} {ad : Nat → Nat} {S : XS} {i t : Nat} {r : RowS} {e : va_E} (hi : i < 8) (ht : t < 3) (he : kRow dC ad i r t = e) (h : ∀ u, u < 3 → u ≠ t → kRow dC ad i r u = kRow dC ad i (S.1 i) u) : (wX dC ad S).set (3 * i + t) (ad (3 * i + t), e) = wX dC ad (xR S i r) := by
  refine wX_set (by rw [kX_row hi ht, xR_row, he]) (fun j hj hne => ?_)
  by_cases h1 : j < 24
  · obtain ⟨a, b, hb, ha, rfl⟩ : ∃ a b, b < 3 ∧ a < 8 ∧ j = 3 * a + b := ⟨j / 3, j % 3, by omega, by omega, by omega⟩
    rw [kX_row ha hb, kX_row ha hb]
    by_cases hai : a = i
    · subst hai
      rw [xR_row]
      exact h b hb (fun q => hne (by rw [q]))
    · rw [xR_ne _ _ hai]
  · rw [kX, kX, if_neg h1, if_neg h1]
    rfl
theorem wX_setO {dC : Nat → ClassId} {ad : Nat → Nat} {S : XS} {i t : Nat} {r : OrdS} {e : va_E} (hi : i < 6) (ht : t < 5) (he : kOrd dC ad i r t = e) (h : ∀ u, u < 5 → u ≠ t → kOrd dC ad i r u = kOrd dC ad i (S.2.1 i) u) : (wX dC ad S).set (24 + 5 * i + t) (ad (24 + 5 * i + t), e) = wX dC ad (xO S i r) := by
  refine wX_set (by rw [kX_ord hi ht, xO_ord, he]) (fun j hj hne => ?_)
  by_cases h1 : j < 24
  · rw [kX, kX, if_pos h1, if_pos h1]
    rfl
  · by_cases h2 : j < 54
    · obtain ⟨a, b, hb, ha, rfl⟩ : ∃ a b, b < 5 ∧ a < 6 ∧ j = 24 + 5 * a + b := ⟨(j - 24) / 5, (j - 24) % 5, by omega, by omega, by omega⟩
      rw [kX_ord ha hb, kX_ord ha hb]
      by_cases hai : a = i
      · subst hai
        rw [xO_ord]
        exact h b hb (fun q => hne (by rw [q]))
      · rw [xO_ne _ _ hai]
    · rw [kX_top (by omega), kX_top (by omega)]
      rfl
theorem wX_setN {dC : Nat → ClassId} {ad : Nat → Nat} {S : XS} {n : Nat × Nat × Nat} : (wX dC ad S).set 57 (ad 57, kTop dC ad n 57) = wX dC ad (xN S n) := by
  refine wX_set (by rw [kX_top (by omega)]; rfl) (fun j hj hne => ?_)
  by_cases h1 : j < 54
  · unfold kX
    rw [if_pos h1, if_pos h1]
    rfl
  · rw [kX_top (by omega), kX_top (by omega)]
    rcases (show j = 54 ∨ j = 55 ∨ j = 56 ∨ j = 58 ∨ j = 59 by omega) with rfl | rfl | rfl | rfl | rfl <;> rfl
/-- what a method may write -/
def AX (ad : Nat → Nat) : Nat → Prop := fun q => ∃ k, k < 60 ∧ q = ad k
theorem wX_in {dC : Nat → ClassId} {ad : Nat → Nat} {S : XS} (k : Nat) (q : Nat × va_E) (h : (wX dC ad S)[k]? = some q) : k < 60 ∧ q.1 = ad k := by
  have hk : k < 60 := by
    have := (List.getElem?_eq_some_iff.mp h).1
    rw [wX, List.length_map, List.length_range] at this
    exact this
  rw [wX_get hk] at h
  cases h
  exact ⟨hk, rfl⟩
/-- the world's contract side -/
def PX (dC : Nat → ClassId) (dI : Nat → Nat → Nat) (ad : Nat → Nat) (S : XS) (U : State) : Prop := va_P (dC, dI) vwCl (wX dC ad S) U.heap ∧ va_K (dC, dI) vwCl (tyX dC) U ∧ va_D (AX ad) (wX dC ad S)
/-- the world's walking side -/
def WX (dC : Nat → ClassId) (dI : Nat → Nat → Nat) (ad : Nat → Nat) (S : XS) (A : Nat → Prop) (s : State) (H : Heap) (locs : List Loc) : Prop := va_P (dC, dI) vwCl (wX dC ad S) H ∧ va_K (dC, dI) vwCl (tyX dC) s ∧ va_D A (wX dC ad S) ∧ va_S A s.heap H locs
theorem WX.of {dC : Nat → ClassId} {dI : Nat → Nat → Nat} {ad : Nat → Nat} {S : XS} {s : State} (h : PX dC dI ad S s) : WX dC dI ad S (AX ad) s s.heap [] := ⟨h.1, h.2.1, h.2.2, va_S.rf⟩
theorem PX.call {dC : Nat → ClassId} {dI : Nat → Nat → Nat} {ad : Nat → Nat} {S : XS} {a : Array Value} {U : State} {g : JFrame} {mk : MethodId} (h : PX dC dI ad S U) : PX dC dI ad S (U.calling g mk a) := ⟨h.1, va_K.moved (u := U) (U := U.calling g mk a) (Vm.Alike.refl U.vm) h.2.1, h.2.2⟩
theorem PX.blind {dC : Nat → ClassId} {dI : Nat → Nat → Nat} {ad : Nat → Nat} {S : XS} {av : List Value} : FrameBlind (va_Pc av (PX dC dI ad S)) := fun _ _ _ _ h => ⟨h.1, h.2.call⟩
theorem WX.D {dC : Nat → ClassId} {dI : Nat → Nat → Nat} {ad : Nat → Nat} {S : XS} {A : Nat → Prop} {s : State} {H : Heap} {locs : List Loc} (h : WX dC dI ad S A s H locs) : va_D (AX ad) (wX dC ad S) := ⟨h.2.2.1.1, fun k q hk => ⟨k, (wX_in k q hk).1, (wX_in k q hk).2⟩⟩
theorem WX.P {dC : Nat → ClassId} {dI : Nat → Nat → Nat} {ad : Nat → Nat} {S : XS} {A : Nat → Prop} {s U : State} {H : Heap} {locs : List Loc} (h : WX dC dI ad S A s H locs) (hU : U.heap = H) (hW : s.WarmedH U.vm) : PX dC dI ad S U := ⟨by rw [hU]; exact h.1, va_K.moved hW.alike h.2.1, h.D⟩
theorem WX.preRow {dC : Nat → ClassId} {dI : Nat → Nat → Nat} {ad : Nat → Nat} {S : XS} {A : Nat → Prop} {s : State} {H : Heap} {locs : List Loc} (h : WX dC dI ad S A s H locs) {i : Nat} (hi : i < 8) {As : List Value} : PreV s H RX2 (ad (3 * i)) (va_Pc (Value.ref (ad (3 * i)) :: As) (PX dC dI ad S)) As :=
  ⟨PX.blind, va_recv h.2.1 h.1 (ci := 4) (q0 := 3 * i) rfl (wX_row hi), fun _ hU hW => ⟨rfl, h.P hU hW⟩⟩
theorem WX.preOrd {dC : Nat → ClassId} {dI : Nat → Nat → Nat} {ad : Nat → Nat} {S : XS} {A : Nat → Prop} {s : State} {H : Heap} {locs : List Loc} (h : WX dC dI ad S A s H locs) {i : Nat} (hi : i < 6) {As : List Value} : PreV s H RX1 (ad (24 + 5 * i)) (va_Pc (Value.ref (ad (24 + 5 * i)) :: As) (PX dC dI ad S)) As :=
  ⟨PX.blind, va_recv h.2.1 h.1 (ci := 3) (q0 := 24 + 5 * i) rfl (wX_ord hi), fun _ hU hW => ⟨rfl, h.P hU hW⟩⟩
theorem WX.preTop {dC : Nat → ClassId} {dI : Nat → Nat → Nat} {ad : Nat → Nat} {S : XS} {A : Nat → Prop} {s : State} {H : Heap} {locs : List Loc} (h : WX dC dI ad S A s H locs) (k ci : Nat) {q : vw_C} {fs : List Value} (h1 : 54 ≤ k) (h2 : k < 60) (hc : vwCl[ci]? = some q) (he : kTop dC ad S.2.2 k = .inr (ci, fs)) {As : List Value} : PreV s H q.1 (ad k) (va_Pc (Value.ref (ad k) :: As) (PX dC dI ad S)) As :=
  ⟨PX.blind, va_recv h.2.1 h.1 (ci := ci) (q0 := k) hc (by rw [wX_top h1 h2, he]), fun _ hU hW => ⟨rfl, h.P hU hW⟩⟩
theorem WX.preS {dC : Nat → ClassId} {dI : Nat → Nat → Nat} {ad : Nat → Nat} {S : XS} {A : Nat → Prop} {s : State} {H : Heap} {locs : List Loc} (h : WX dC dI ad S A s H locs) {As : List Value} : PreS s H (va_Pc As (PX dC dI ad S)) As :=
  ⟨PX.blind, fun _ hU hW => ⟨rfl, h.P hU hW⟩⟩
section KX
variable {p : Program} {l : Launch} {e : Env} {R : Room} {s : State} {m : MethodId} {args : Array Value} {below : List Frame} {meth : Method} {c : Code} {H : Heap} {locs : List Loc} {cells slots : Nat} {Q : State → Prop}
variable {cc : ByteArray} {pc : Nat} {ls : Array Slot} {rest st0 : List Value} {a : Array Value} {A : Nat → Prop} {dC : Nat → ClassId} {dI : Nat → Nat → Nat} {ad : Nat → Nat} {S : XS}
/-- a call that writes nothing and answers v -/
theorem kx_cr {v : Int32} {post : Int32 → Prop} (hr : va_Run p l e R s m args below meth c H locs cells slots 0 0 (F0 m pc ls st0) rest (vp_Si post a) (fun _ => False)) (hv : ∀ r, post r → r = v) (kk : W p l e R s m args below meth c H locs cells slots Q (F0 m (pc + 3) ls (.int v :: rest))) : W p l e R s m args below meth c H locs cells slots Q (F0 m pc ls st0) :=
  vp_callSi (va_Run.run hr) (fun r h => by rw [hv r h]; exact kk)
theorem kx_back {A : Nat → Prop} {S1 : XS} {t : State} {H1 : Heap} {locs1 : List Loc} (hX : WX dC dI ad S A s H locs) (hA : ∀ q, AX ad q → A q) (ht : t.heap = H1) (hvm : s.vm.Alike t.vm) (hB : PX dC dI ad S1 t) (hS : va_S A s.heap H1 locs1) : WX dC dI ad S1 A s H1 locs1 :=
  ⟨by rw [← ht]; exact hB.1, va_K.moved hvm.symm hB.2.1, hB.2.2.weaken (fun _ _ _ h => hA _ h), hS⟩
theorem kx_cv {post : XS → Prop} (hr : va_Run p l e R s m args below meth c H locs cells slots 0 0 (F0 m pc ls st0) rest (va_Qv post (PX dC dI ad) (AX ad) a) (AX ad)) (hX : WX dC dI ad S A s H locs) (hA : ∀ q, AX ad q → A q) (kk : ∀ (S1 : XS) (H1 : Heap) (locs1 : List Loc), post S1 → WX dC dI ad S1 A s H1 locs1 → W p l e R s m args below meth c H1 locs1 cells slots Q (F0 m (pc + 3) ls rest)) : W p l e R s m args below meth c H locs cells slots Q (F0 m pc ls st0) :=
  va_callv hr hX.2.2.2 (fun q _ h => hA q h) hA (fun u t H1 locs1 ht hvm hp hB _ _ hS => kk u H1 locs1 hp (kx_back hX hA ht hvm hB hS))
theorem kx_ci {post : Int32 → XS → Prop} (hr : va_Run p l e R s m args below meth c H locs cells slots 0 0 (F0 m pc ls st0) rest (va_Qi post (PX dC dI ad) (AX ad) a) (AX ad)) (hX : WX dC dI ad S A s H locs) (hA : ∀ q, AX ad q → A q) (kk : ∀ (r : Int32) (S1 : XS) (H1 : Heap) (locs1 : List Loc), post r S1 → WX dC dI ad S1 A s H1 locs1 → W p l e R s m args below meth c H1 locs1 cells slots Q (F0 m (pc + 3) ls (.int r :: rest))) : W p l e R s m args below meth c H locs cells slots Q (F0 m pc ls st0) :=
  va_calli hr hX.2.2.2 (fun q _ h => hA q h) hA (fun r u t H1 locs1 ht hvm hp hB _ _ hS => kk r u H1 locs1 hp (kx_back hX hA ht hvm hB hS))
/-- arithmetic and branches over nI -/
theorem kn_iadd (hx : p.tables.exec = Jvm.exec) (hb : c.code = cc) {a b : Nat} (hdg : decode cc pc = .ok (.iadd, 1)) (kk : W p l e R s m args below meth c H locs cells slots Q (F0 m (pc + 1) ls (.int (nI (a + b)) :: rest))) : W p l e R s m args below meth c H locs cells slots Q (F0 m pc ls (.int (nI b) :: .int (nI a) :: rest)) :=
  lv_iadd hx hb hdg (by rw [nI_add]; exact kk)
theorem kn_isub (hx : p.tables.exec = Jvm.exec) (hb : c.code = cc) {a b : Nat} (h : b ≤ a) (hdg : decode cc pc = .ok (.isub, 1)) (kk : W p l e R s m args below meth c H locs cells slots Q (F0 m (pc + 1) ls (.int (nI (a - b)) :: rest))) : W p l e R s m args below meth c H locs cells slots Q (F0 m pc ls (.int (nI b) :: .int (nI a) :: rest)) :=
  lv_isub hx hb hdg (by rw [pk_sub h]; exact kk)
theorem kn_imul (hx : p.tables.exec = Jvm.exec) (hb : c.code = cc) {a b : Nat} (hdg : decode cc pc = .ok (.imul, 1)) (kk : W p l e R s m args below meth c H locs cells slots Q (F0 m (pc + 1) ls (.int (nI (a * b)) :: rest))) : W p l e R s m args below meth c H locs cells slots Q (F0 m pc ls (.int (nI b) :: .int (nI a) :: rest)) :=
  lv_imul hx hb hdg (by rw [pk_mul]; exact kk)
end KX
theorem bI_narrow (b : Bool) : narrow .boolean (.int (bI b)) = .int (bI b) := by cases b <;> rfl
theorem bI_nar (b : Bool) : vp_nar .boolean (bI b) = bI b := by cases b <;> rfl
theorem bI_0 {b : Bool} : bI b = 0 ↔ b = false := by cases b <;> simp [bI]
theorem nI_fun {f : Nat → Nat} {k v : Nat} : upd (fun j => nI (f j)) k (nI v) = fun j => nI (va_up f k v j) := by
  funext j
  unfold upd va_up
  split <;> rfl
theorem bI_fun {f : Nat → Bool} {k : Nat} {v : Bool} : upd (fun j => bI (f j)) k (bI v) = fun j => bI (va_up f k v j) := by
  funext j
  unfold upd va_up
  split <;> rfl
theorem lN_fun {f : Nat → Nat} {k v : Nat} : vp_updL (fun j => lN (f j)) k (lN v) = fun j => lN (va_up f k v j) := by
  funext j
  unfold vp_updL va_up
  split <;> rfl
section KB
variable {p : Program} {l : Launch} {e : Env} {R : Room} {s : State} {m : MethodId} {args : Array Value} {below : List Frame} {meth : Method} {c : Code} {H : Heap} {locs : List Loc} {cells slots : Nat} {Q : State → Prop}
variable {cc : ByteArray} {pc : Nat} {ls : Array Slot} {rest : List Value}
variable {off : Int} {tgt : Nat} {a b : Nat} {z : Bool}
theorem kn_icmp_ge (hx : p.tables.exec = Jvm.exec) (hb : c.code = cc) (ha : a < 2 ^ 31) (hb2 : b < 2 ^ 31) (hdg : decode cc pc = .ok (.if_icmp .ge off, 3)) (ht : (pc : Int) + off = (tgt : Int)) (kt : b ≤ a → W p l e R s m args below meth c H locs cells slots Q (F0 m tgt ls rest)) (kf : a < b → W p l e R s m args below meth c H locs cells slots Q (F0 m (pc + 3) ls rest)) : W p l e R s m args below meth c H locs cells slots Q (F0 m pc ls (.int (nI b) :: .int (nI a) :: rest)) :=
  lv_icmp_ge hx hb hdg ht (fun h => kt ((nI_leI hb2 ha).mp h)) (fun h => kf (by rw [nI_leI hb2 ha] at h; omega))
theorem kn_icmp_lt (hx : p.tables.exec = Jvm.exec) (hb : c.code = cc) (ha : a < 2 ^ 31) (hb2 : b < 2 ^ 31) (hdg : decode cc pc = .ok (.if_icmp .lt off, 3)) (ht : (pc : Int) + off = (tgt : Int)) (kt : a < b → W p l e R s m args below meth c H locs cells slots Q (F0 m tgt ls rest)) (kf : b ≤ a → W p l e R s m args below meth c H locs cells slots Q (F0 m (pc + 3) ls rest)) : W p l e R s m args below meth c H locs cells slots Q (F0 m pc ls (.int (nI b) :: .int (nI a) :: rest)) :=
  lv_icmp_lt hx hb hdg ht (fun h => kt ((nI_ltI ha hb2).mp h)) (fun h => kf (by rw [nI_ltI ha hb2] at h; omega))
theorem kn_icmp_gt (hx : p.tables.exec = Jvm.exec) (hb : c.code = cc) (ha : a < 2 ^ 31) (hb2 : b < 2 ^ 31) (hdg : decode cc pc = .ok (.if_icmp .gt off, 3)) (ht : (pc : Int) + off = (tgt : Int)) (kt : b < a → W p l e R s m args below meth c H locs cells slots Q (F0 m tgt ls rest)) (kf : a ≤ b → W p l e R s m args below meth c H locs cells slots Q (F0 m (pc + 3) ls rest)) : W p l e R s m args below meth c H locs cells slots Q (F0 m pc ls (.int (nI b) :: .int (nI a) :: rest)) :=
  lv_icmp_gt hx hb hdg ht (fun h => kt ((nI_ltI hb2 ha).mp h)) (fun h => kf (by rw [nI_ltI hb2 ha] at h; omega))
theorem kn_icmp_le (hx : p.tables.exec = Jvm.exec) (hb : c.code = cc) (ha : a < 2 ^ 31) (hb2 : b < 2 ^ 31) (hdg : decode cc pc = .ok (.if_icmp .le off, 3)) (ht : (pc : Int) + off = (tgt : Int)) (kt : a ≤ b → W p l e R s m args below meth c H locs cells slots Q (F0 m tgt ls rest)) (kf : b < a → W p l e R s m args below meth c H locs cells slots Q (F0 m (pc + 3) ls rest)) : W p l e R s m args below meth c H locs cells slots Q (F0 m pc ls (.int (nI b) :: .int (nI a) :: rest)) :=
  lv_icmp_le hx hb hdg ht (fun h => kt ((nI_leI ha hb2).mp h)) (fun h => kf (by rw [nI_leI ha hb2] at h; omega))
theorem kn_icmp_eq (hx : p.tables.exec = Jvm.exec) (hb : c.code = cc) (ha : a < 2 ^ 31) (hb2 : b < 2 ^ 31) (hdg : decode cc pc = .ok (.if_icmp .eq off, 3)) (ht : (pc : Int) + off = (tgt : Int)) (kt : a = b → W p l e R s m args below meth c H locs cells slots Q (F0 m tgt ls rest)) (kf : a ≠ b → W p l e R s m args below meth c H locs cells slots Q (F0 m (pc + 3) ls rest)) : W p l e R s m args below meth c H locs cells slots Q (F0 m pc ls (.int (nI b) :: .int (nI a) :: rest)) :=
  lv_icmp_eq hx hb hdg ht (fun h => kt ((nI_eq ha hb2).mp h)) (fun h => kf (fun q => h ((nI_eq ha hb2).mpr q)))
theorem kn_icmp_ne (hx : p.tables.exec = Jvm.exec) (hb : c.code = cc) (ha : a < 2 ^ 31) (hb2 : b < 2 ^ 31) (hdg : decode cc pc = .ok (.if_icmp .ne off, 3)) (ht : (pc : Int) + off = (tgt : Int)) (kt : a ≠ b → W p l e R s m args below meth c H locs cells slots Q (F0 m tgt ls rest)) (kf : a = b → W p l e R s m args below meth c H locs cells slots Q (F0 m (pc + 3) ls rest)) : W p l e R s m args below meth c H locs cells slots Q (F0 m pc ls (.int (nI b) :: .int (nI a) :: rest)) :=
  lv_icmp_ne hx hb hdg ht (fun h => kt (fun q => h ((nI_eq ha hb2).mpr q))) (fun h => kf ((nI_eq ha hb2).mp h))
theorem kn_if_lt (hx : p.tables.exec = Jvm.exec) (hb : c.code = cc) (ha : a < 2 ^ 31) (hdg : decode cc pc = .ok (.ifCond .lt off, 3)) (ht : (pc : Int) + off = (tgt : Int)) (kf : W p l e R s m args below meth c H locs cells slots Q (F0 m (pc + 3) ls rest)) : W p l e R s m args below meth c H locs cells slots Q (F0 m pc ls (.int (nI a) :: rest)) :=
  lv_if_lt hx hb hdg ht (fun h => absurd h (nI_pos ha)) (fun _ => kf)
theorem kn_if_ge (hx : p.tables.exec = Jvm.exec) (hb : c.code = cc) (ha : a < 2 ^ 31) (hdg : decode cc pc = .ok (.ifCond .ge off, 3)) (ht : (pc : Int) + off = (tgt : Int)) (kt : W p l e R s m args below meth c H locs cells slots Q (F0 m tgt ls rest)) : W p l e R s m args below meth c H locs cells slots Q (F0 m pc ls (.int (nI a) :: rest)) :=
  lv_if_ge hx hb hdg ht (fun _ => kt) (fun h => absurd (nI_pos' ha) h)
theorem kn_if_gt (hx : p.tables.exec = Jvm.exec) (hb : c.code = cc) (ha : a < 2 ^ 31) (hdg : decode cc pc = .ok (.ifCond .gt off, 3)) (ht : (pc : Int) + off = (tgt : Int)) (kt : 0 < a → W p l e R s m args below meth c H locs cells slots Q (F0 m tgt ls rest)) (kf : a = 0 → W p l e R s m args below meth c H locs cells slots Q (F0 m (pc + 3) ls rest)) : W p l e R s m args below meth c H locs cells slots Q (F0 m pc ls (.int (nI a) :: rest)) :=
  lv_if_gt hx hb hdg ht (fun h => kt (by rw [← nI_0, nI_ltI (by decide) ha] at h; exact h)) (fun h => kf (by rw [← nI_0, nI_ltI (by decide) ha] at h; omega))
theorem kn_if_le (hx : p.tables.exec = Jvm.exec) (hb : c.code = cc) (ha : a < 2 ^ 31) (hdg : decode cc pc = .ok (.ifCond .le off, 3)) (ht : (pc : Int) + off = (tgt : Int)) (kt : a = 0 → W p l e R s m args below meth c H locs cells slots Q (F0 m tgt ls rest)) (kf : 0 < a → W p l e R s m args below meth c H locs cells slots Q (F0 m (pc + 3) ls rest)) : W p l e R s m args below meth c H locs cells slots Q (F0 m pc ls (.int (nI a) :: rest)) :=
  lv_if_le hx hb hdg ht (fun h => kt (by rw [← nI_0, nI_leI ha (by decide)] at h; omega)) (fun h => kf (by rw [← nI_0, nI_leI ha (by decide)] at h; omega))
theorem kn_if_eq (hx : p.tables.exec = Jvm.exec) (hb : c.code = cc) (ha : a < 2 ^ 31) (hdg : decode cc pc = .ok (.ifCond .eq off, 3)) (ht : (pc : Int) + off = (tgt : Int)) (kt : a = 0 → W p l e R s m args below meth c H locs cells slots Q (F0 m tgt ls rest)) (kf : a ≠ 0 → W p l e R s m args below meth c H locs cells slots Q (F0 m (pc + 3) ls rest)) : W p l e R s m args below meth c H locs cells slots Q (F0 m pc ls (.int (nI a) :: rest)) :=
  lv_if_eq hx hb hdg ht (fun h => kt (by rw [← nI_0, nI_eq ha (by decide)] at h; exact h)) (fun h => kf (fun q => h (by rw [q, nI_0])))
theorem kn_if_ne (hx : p.tables.exec = Jvm.exec) (hb : c.code = cc) (ha : a < 2 ^ 31) (hdg : decode cc pc = .ok (.ifCond .ne off, 3)) (ht : (pc : Int) + off = (tgt : Int)) (kt : a ≠ 0 → W p l e R s m args below meth c H locs cells slots Q (F0 m tgt ls rest)) (kf : a = 0 → W p l e R s m args below meth c H locs cells slots Q (F0 m (pc + 3) ls rest)) : W p l e R s m args below meth c H locs cells slots Q (F0 m pc ls (.int (nI a) :: rest)) :=
  lv_if_ne hx hb hdg ht (fun h => kt (fun q => h (by rw [q, nI_0]))) (fun h => kf (by rw [← nI_0, nI_eq ha (by decide)] at h; exact h))
theorem kb_if_eq (hx : p.tables.exec = Jvm.exec) (hb : c.code = cc) (hdg : decode cc pc = .ok (.ifCond .eq off, 3)) (ht : (pc : Int) + off = (tgt : Int)) (kt : z = false → W p l e R s m args below meth c H locs cells slots Q (F0 m tgt ls rest)) (kf : z = true → W p l e R s m args below meth c H locs cells slots Q (F0 m (pc + 3) ls rest)) : W p l e R s m args below meth c H locs cells slots Q (F0 m pc ls (.int (bI z) :: rest)) :=
  lv_if_eq hx hb hdg ht (fun h => kt (bI_0.mp h)) (fun h => kf (by cases z with | false => exact absurd rfl h | true => rfl))
theorem kb_if_ne (hx : p.tables.exec = Jvm.exec) (hb : c.code = cc) (hdg : decode cc pc = .ok (.ifCond .ne off, 3)) (ht : (pc : Int) + off = (tgt : Int)) (kt : z = true → W p l e R s m args below meth c H locs cells slots Q (F0 m tgt ls rest)) (kf : z = false → W p l e R s m args below meth c H locs cells slots Q (F0 m (pc + 3) ls rest)) : W p l e R s m args below meth c H locs cells slots Q (F0 m pc ls (.int (bI z) :: rest)) :=
  lv_if_ne hx hb hdg ht (fun h => kt (by cases z with | false => exact absurd rfl h | true => rfl)) (fun h => kf (bI_0.mp h))
end KB
end
section
/-! the class's memory rows -/
section KM
variable {p : Program} {l : Launch} {e : Env} {R : Room} {s : State} {m : MethodId} {args : Array Value} {below : List Frame} {meth : Method} {c : Code} {H : Heap} {locs : List Loc} {cells slots : Nat} {Q : State → Prop}
variable {cc : ByteArray} {pc : Nat} {ls : Array Slot} {rest : List Value} {A : Nat → Prop} {dC : Nat → ClassId} {dI : Nat → Nat → Nat} {ad : Nat → Nat} {S : XS} {Ts : List Cond} {index : Nat} {i k v n : Nat} {z : Bool}
theorem WX.to {S S' : XS} {ws : va_W} (he : ws = wX dC ad S') {H1 : Heap} {locs1 : List Loc} (hX : WX dC dI ad S A s H locs) (h1 : va_P (dC, dI) vwCl ws H1) (h2 : va_D A ws) (h3 : va_S A s.heap H1 locs1) : WX dC dI ad S' A s H1 locs1 := by
  subst he
  exact ⟨h1, hX.2.1, h2, h3⟩
theorem kr_gv (hx : p.tables.exec = Jvm.exec) (hb : c.code = cc) (hts : ∀ w ∈ Ts, w.before args s = true) (hin : ∀ w ∈ u_ws RX2 TX2 3, w ∈ Ts) (hown : s.vm.findClass RX2 = some m.cls) (hX : WX dC dI ad S A s H locs) (hi : i < 8)  (hlink : (Cond.fieldLink RX2 index "Orderlattice$Row" "values" "[I").before args s = true) (hdg : decode cc pc = .ok (.getfield index, 3)) (kk : W p l e R s m args below meth c H locs cells slots Q (F0 m (pc + 3) ls (.ref (ad (3 * i + 1)) :: rest))) : W p l e R s m args below meth c H locs cells slots Q (F0 m pc ls (.ref (ad (3 * i)) :: rest)) :=
  va_get (D := (dC, dI)) (ci := 4) (C := RX2) (T := TX2) (N := 3) hx hb hts hin hown hX.2.1 hX.1 (3 * i) (wX_row hi) rfl 0 (by decide) hlink (fun _ h => h) rfl hdg kk
theorem kr_gm (hx : p.tables.exec = Jvm.exec) (hb : c.code = cc) (hts : ∀ w ∈ Ts, w.before args s = true) (hin : ∀ w ∈ u_ws RX2 TX2 3, w ∈ Ts) (hown : s.vm.findClass RX2 = some m.cls) (hX : WX dC dI ad S A s H locs) (hi : i < 8)  (hlink : (Cond.fieldLink RX2 index "Orderlattice$Row" "marks" "[I").before args s = true) (hdg : decode cc pc = .ok (.getfield index, 3)) (kk : W p l e R s m args below meth c H locs cells slots Q (F0 m (pc + 3) ls (.ref (ad (3 * i + 2)) :: rest))) : W p l e R s m args below meth c H locs cells slots Q (F0 m pc ls (.ref (ad (3 * i)) :: rest)) :=
  va_get (D := (dC, dI)) (ci := 4) (C := RX2) (T := TX2) (N := 3) hx hb hts hin hown hX.2.1 hX.1 (3 * i) (wX_row hi) rfl 1 (by decide) hlink (fun _ h => h) rfl hdg kk
theorem kr_gn (hx : p.tables.exec = Jvm.exec) (hb : c.code = cc) (hts : ∀ w ∈ Ts, w.before args s = true) (hin : ∀ w ∈ u_ws RX2 TX2 3, w ∈ Ts) (hown : s.vm.findClass RX2 = some m.cls) (hX : WX dC dI ad S A s H locs) (hi : i < 8) (hn : (S.1 i).2.2 = n) (hlink : (Cond.fieldLink RX2 index "Orderlattice$Row" "many" "I").before args s = true) (hdg : decode cc pc = .ok (.getfield index, 3)) (kk : W p l e R s m args below meth c H locs cells slots Q (F0 m (pc + 3) ls (.int (nI n) :: rest))) : W p l e R s m args below meth c H locs cells slots Q (F0 m pc ls (.ref (ad (3 * i)) :: rest)) :=
  va_get (D := (dC, dI)) (ci := 4) (C := RX2) (T := TX2) (N := 3) hx hb hts hin hown hX.2.1 hX.1 (3 * i) (wX_row hi) rfl 2 (by decide) hlink (fun _ h => h) rfl hdg (by rw [hn]; exact kk)
theorem ko_gk (hx : p.tables.exec = Jvm.exec) (hb : c.code = cc) (hts : ∀ w ∈ Ts, w.before args s = true) (hin : ∀ w ∈ u_ws RX1 TX1 6, w ∈ Ts) (hown : s.vm.findClass RX1 = some m.cls) (hX : WX dC dI ad S A s H locs) (hi : i < 6)  (hlink : (Cond.fieldLink RX1 index "Orderlattice$Order" "keys" "[I").before args s = true) (hdg : decode cc pc = .ok (.getfield index, 3)) (kk : W p l e R s m args below meth c H locs cells slots Q (F0 m (pc + 3) ls (.ref (ad (24 + 5 * i + 1)) :: rest))) : W p l e R s m args below meth c H locs cells slots Q (F0 m pc ls (.ref (ad (24 + 5 * i)) :: rest)) :=
  va_get (D := (dC, dI)) (ci := 3) (C := RX1) (T := TX1) (N := 6) hx hb hts hin hown hX.2.1 hX.1 (24 + 5 * i) (wX_ord hi) rfl 0 (by decide) hlink (fun _ h => h) rfl hdg kk
theorem ko_gd (hx : p.tables.exec = Jvm.exec) (hb : c.code = cc) (hts : ∀ w ∈ Ts, w.before args s = true) (hin : ∀ w ∈ u_ws RX1 TX1 6, w ∈ Ts) (hown : s.vm.findClass RX1 = some m.cls) (hX : WX dC dI ad S A s H locs) (hi : i < 6)  (hlink : (Cond.fieldLink RX1 index "Orderlattice$Order" "downs" "[Z").before args s = true) (hdg : decode cc pc = .ok (.getfield index, 3)) (kk : W p l e R s m args below meth c H locs cells slots Q (F0 m (pc + 3) ls (.ref (ad (24 + 5 * i + 2)) :: rest))) : W p l e R s m args below meth c H locs cells slots Q (F0 m pc ls (.ref (ad (24 + 5 * i)) :: rest)) :=
  va_get (D := (dC, dI)) (ci := 3) (C := RX1) (T := TX1) (N := 6) hx hb hts hin hown hX.2.1 hX.1 (24 + 5 * i) (wX_ord hi) rfl 1 (by decide) hlink (fun _ h => h) rfl hdg kk
theorem ko_gc (hx : p.tables.exec = Jvm.exec) (hb : c.code = cc) (hts : ∀ w ∈ Ts, w.before args s = true) (hin : ∀ w ∈ u_ws RX1 TX1 6, w ∈ Ts) (hown : s.vm.findClass RX1 = some m.cls) (hX : WX dC dI ad S A s H locs) (hi : i < 6)  (hlink : (Cond.fieldLink RX1 index "Orderlattice$Order" "codes" "[J").before args s = true) (hdg : decode cc pc = .ok (.getfield index, 3)) (kk : W p l e R s m args below meth c H locs cells slots Q (F0 m (pc + 3) ls (.ref (ad (24 + 5 * i + 3)) :: rest))) : W p l e R s m args below meth c H locs cells slots Q (F0 m pc ls (.ref (ad (24 + 5 * i)) :: rest)) :=
  va_get (D := (dC, dI)) (ci := 3) (C := RX1) (T := TX1) (N := 6) hx hb hts hin hown hX.2.1 hX.1 (24 + 5 * i) (wX_ord hi) rfl 2 (by decide) hlink (fun _ h => h) rfl hdg kk
theorem ko_gr (hx : p.tables.exec = Jvm.exec) (hb : c.code = cc) (hts : ∀ w ∈ Ts, w.before args s = true) (hin : ∀ w ∈ u_ws RX1 TX1 6, w ∈ Ts) (hown : s.vm.findClass RX1 = some m.cls) (hX : WX dC dI ad S A s H locs) (hi : i < 6)  (hlink : (Cond.fieldLink RX1 index "Orderlattice$Order" "ranks" "[I").before args s = true) (hdg : decode cc pc = .ok (.getfield index, 3)) (kk : W p l e R s m args below meth c H locs cells slots Q (F0 m (pc + 3) ls (.ref (ad (24 + 5 * i + 4)) :: rest))) : W p l e R s m args below meth c H locs cells slots Q (F0 m pc ls (.ref (ad (24 + 5 * i)) :: rest)) :=
  va_get (D := (dC, dI)) (ci := 3) (C := RX1) (T := TX1) (N := 6) hx hb hts hin hown hX.2.1 hX.1 (24 + 5 * i) (wX_ord hi) rfl 3 (by decide) hlink (fun _ h => h) rfl hdg kk
theorem ko_gn (hx : p.tables.exec = Jvm.exec) (hb : c.code = cc) (hts : ∀ w ∈ Ts, w.before args s = true) (hin : ∀ w ∈ u_ws RX1 TX1 6, w ∈ Ts) (hown : s.vm.findClass RX1 = some m.cls) (hX : WX dC dI ad S A s H locs) (hi : i < 6) (hn : (S.2.1 i).2.2.2.2.1 = n) (hlink : (Cond.fieldLink RX1 index "Orderlattice$Order" "many" "I").before args s = true) (hdg : decode cc pc = .ok (.getfield index, 3)) (kk : W p l e R s m args below meth c H locs cells slots Q (F0 m (pc + 3) ls (.int (nI n) :: rest))) : W p l e R s m args below meth c H locs cells slots Q (F0 m pc ls (.ref (ad (24 + 5 * i)) :: rest)) :=
  va_get (D := (dC, dI)) (ci := 3) (C := RX1) (T := TX1) (N := 6) hx hb hts hin hown hX.2.1 hX.1 (24 + 5 * i) (wX_ord hi) rfl 4 (by decide) hlink (fun _ h => h) rfl hdg (by rw [hn]; exact kk)
theorem ko_gs (hx : p.tables.exec = Jvm.exec) (hb : c.code = cc) (hts : ∀ w ∈ Ts, w.before args s = true) (hin : ∀ w ∈ u_ws RX1 TX1 6, w ∈ Ts) (hown : s.vm.findClass RX1 = some m.cls) (hX : WX dC dI ad S A s H locs) (hi : i < 6) (hn : (S.2.1 i).2.2.2.2.2 = n) (hlink : (Cond.fieldLink RX1 index "Orderlattice$Order" "classes" "I").before args s = true) (hdg : decode cc pc = .ok (.getfield index, 3)) (kk : W p l e R s m args below meth c H locs cells slots Q (F0 m (pc + 3) ls (.int (nI n) :: rest))) : W p l e R s m args below meth c H locs cells slots Q (F0 m pc ls (.ref (ad (24 + 5 * i)) :: rest)) :=
  va_get (D := (dC, dI)) (ci := 3) (C := RX1) (T := TX1) (N := 6) hx hb hts hin hown hX.2.1 hX.1 (24 + 5 * i) (wX_ord hi) rfl 5 (by decide) hlink (fun _ h => h) rfl hdg (by rw [hn]; exact kk)
theorem wX_sorter {w : Nat} (hw : w < 2) : (wX dC ad S)[54 + w]? = some (ad (54 + w), .inr (5, [.ref (ad (3 * (3 + 2 * w)))])) := by
  rw [wX_top (by omega) (by omega)]
  rcases (show w = 0 ∨ w = 1 by omega) with rfl | rfl <;> rfl
theorem ks_gg (hx : p.tables.exec = Jvm.exec) (hb : c.code = cc) (hts : ∀ w ∈ Ts, w.before args s = true) (hin : ∀ w ∈ u_ws RX3 TX3 1, w ∈ Ts) (hown : s.vm.findClass RX3 = some m.cls) (hX : WX dC dI ad S A s H locs) {w : Nat} (hw : w < 2)  (hlink : (Cond.fieldLink RX3 index "Orderlattice$Sorter" "gathered" "LOrderlattice$Row;").before args s = true) (hdg : decode cc pc = .ok (.getfield index, 3)) (kk : W p l e R s m args below meth c H locs cells slots Q (F0 m (pc + 3) ls (.ref (ad (3 * (3 + 2 * w))) :: rest))) : W p l e R s m args below meth c H locs cells slots Q (F0 m pc ls (.ref (ad (54 + w)) :: rest)) :=
  va_get (D := (dC, dI)) (ci := 5) (C := RX3) (T := TX3) (N := 1) hx hb hts hin hown hX.2.1 hX.1 (54 + w) (wX_sorter hw) rfl 0 (by decide) hlink (fun _ h => h) rfl hdg kk
theorem ka_gs (hx : p.tables.exec = Jvm.exec) (hb : c.code = cc) (hts : ∀ w ∈ Ts, w.before args s = true) (hin : ∀ w ∈ u_ws RX0 TX0 4, w ∈ Ts) (hown : s.vm.findClass RX0 = some m.cls) (hX : WX dC dI ad S A s H locs)   (hlink : (Cond.fieldLink RX0 index "Orderlattice$Auditor" "sorter" "LOrderlattice$Sorter;").before args s = true) (hdg : decode cc pc = .ok (.getfield index, 3)) (kk : W p l e R s m args below meth c H locs cells slots Q (F0 m (pc + 3) ls (.ref (ad (54 + 1)) :: rest))) : W p l e R s m args below meth c H locs cells slots Q (F0 m pc ls (.ref (ad 56) :: rest)) :=
  va_get (D := (dC, dI)) (ci := 2) (C := RX0) (T := TX0) (N := 4) hx hb hts hin hown hX.2.1 hX.1 (56) (wX_top (by decide) (by decide)) rfl 0 (by decide) hlink (fun _ h => h) rfl hdg kk
theorem ka_gl (hx : p.tables.exec = Jvm.exec) (hb : c.code = cc) (hts : ∀ w ∈ Ts, w.before args s = true) (hin : ∀ w ∈ u_ws RX0 TX0 4, w ∈ Ts) (hown : s.vm.findClass RX0 = some m.cls) (hX : WX dC dI ad S A s H locs)   (hlink : (Cond.fieldLink RX0 index "Orderlattice$Auditor" "left" "LOrderlattice$Row;").before args s = true) (hdg : decode cc pc = .ok (.getfield index, 3)) (kk : W p l e R s m args below meth c H locs cells slots Q (F0 m (pc + 3) ls (.ref (ad (3 * 6)) :: rest))) : W p l e R s m args below meth c H locs cells slots Q (F0 m pc ls (.ref (ad 56) :: rest)) :=
  va_get (D := (dC, dI)) (ci := 2) (C := RX0) (T := TX0) (N := 4) hx hb hts hin hown hX.2.1 hX.1 (56) (wX_top (by decide) (by decide)) rfl 1 (by decide) hlink (fun _ h => h) rfl hdg kk
theorem ka_gr (hx : p.tables.exec = Jvm.exec) (hb : c.code = cc) (hts : ∀ w ∈ Ts, w.before args s = true) (hin : ∀ w ∈ u_ws RX0 TX0 4, w ∈ Ts) (hown : s.vm.findClass RX0 = some m.cls) (hX : WX dC dI ad S A s H locs)   (hlink : (Cond.fieldLink RX0 index "Orderlattice$Auditor" "right" "LOrderlattice$Row;").before args s = true) (hdg : decode cc pc = .ok (.getfield index, 3)) (kk : W p l e R s m args below meth c H locs cells slots Q (F0 m (pc + 3) ls (.ref (ad (3 * 7)) :: rest))) : W p l e R s m args below meth c H locs cells slots Q (F0 m pc ls (.ref (ad 56) :: rest)) :=
  va_get (D := (dC, dI)) (ci := 2) (C := RX0) (T := TX0) (N := 4) hx hb hts hin hown hX.2.1 hX.1 (56) (wX_top (by decide) (by decide)) rfl 2 (by decide) hlink (fun _ h => h) rfl hdg kk
theorem ka_gm (hx : p.tables.exec = Jvm.exec) (hb : c.code = cc) (hts : ∀ w ∈ Ts, w.before args s = true) (hin : ∀ w ∈ u_ws RX0 TX0 4, w ∈ Ts) (hown : s.vm.findClass RX0 = some m.cls) (hX : WX dC dI ad S A s H locs)   (hlink : (Cond.fieldLink RX0 index "Orderlattice$Auditor" "made" "LOrderlattice$Order;").before args s = true) (hdg : decode cc pc = .ok (.getfield index, 3)) (kk : W p l e R s m args below meth c H locs cells slots Q (F0 m (pc + 3) ls (.ref (ad (24 + 5 * 5)) :: rest))) : W p l e R s m args below meth c H locs cells slots Q (F0 m pc ls (.ref (ad 56) :: rest)) :=
  va_get (D := (dC, dI)) (ci := 2) (C := RX0) (T := TX0) (N := 4) hx hb hts hin hown hX.2.1 hX.1 (56) (wX_top (by decide) (by decide)) rfl 3 (by decide) hlink (fun _ h => h) rfl hdg kk
theorem kx_grows (hx : p.tables.exec = Jvm.exec) (hb : c.code = cc) (hts : ∀ w ∈ Ts, w.before args s = true) (hin : ∀ w ∈ u_ws RX4 TX4 9, w ∈ Ts) (hown : s.vm.findClass RX4 = some m.cls) (hX : WX dC dI ad S A s H locs)   (hlink : (Cond.fieldLink RX4 index "Orderlattice" "rows" "[LOrderlattice$Row;").before args s = true) (hdg : decode cc pc = .ok (.getfield index, 3)) (kk : W p l e R s m args below meth c H locs cells slots Q (F0 m (pc + 3) ls (.ref (ad 58) :: rest))) : W p l e R s m args below meth c H locs cells slots Q (F0 m pc ls (.ref (ad 57) :: rest)) :=
  va_get (D := (dC, dI)) (ci := 6) (C := RX4) (T := TX4) (N := 9) hx hb hts hin hown hX.2.1 hX.1 (57) (wX_top (by decide) (by decide)) rfl 0 (by decide) hlink (fun _ h => h) rfl hdg kk
theorem kx_gorders (hx : p.tables.exec = Jvm.exec) (hb : c.code = cc) (hts : ∀ w ∈ Ts, w.before args s = true) (hin : ∀ w ∈ u_ws RX4 TX4 9, w ∈ Ts) (hown : s.vm.findClass RX4 = some m.cls) (hX : WX dC dI ad S A s H locs)   (hlink : (Cond.fieldLink RX4 index "Orderlattice" "orders" "[LOrderlattice$Order;").before args s = true) (hdg : decode cc pc = .ok (.getfield index, 3)) (kk : W p l e R s m args below meth c H locs cells slots Q (F0 m (pc + 3) ls (.ref (ad 59) :: rest))) : W p l e R s m args below meth c H locs cells slots Q (F0 m pc ls (.ref (ad 57) :: rest)) :=
  va_get (D := (dC, dI)) (ci := 6) (C := RX4) (T := TX4) (N := 9) hx hb hts hin hown hX.2.1 hX.1 (57) (wX_top (by decide) (by decide)) rfl 1 (by decide) hlink (fun _ h => h) rfl hdg kk
theorem kx_gsorter (hx : p.tables.exec = Jvm.exec) (hb : c.code = cc) (hts : ∀ w ∈ Ts, w.before args s = true) (hin : ∀ w ∈ u_ws RX4 TX4 9, w ∈ Ts) (hown : s.vm.findClass RX4 = some m.cls) (hX : WX dC dI ad S A s H locs)   (hlink : (Cond.fieldLink RX4 index "Orderlattice" "sorter" "LOrderlattice$Sorter;").before args s = true) (hdg : decode cc pc = .ok (.getfield index, 3)) (kk : W p l e R s m args below meth c H locs cells slots Q (F0 m (pc + 3) ls (.ref (ad (54 + 0)) :: rest))) : W p l e R s m args below meth c H locs cells slots Q (F0 m pc ls (.ref (ad 57) :: rest)) :=
  va_get (D := (dC, dI)) (ci := 6) (C := RX4) (T := TX4) (N := 9) hx hb hts hin hown hX.2.1 hX.1 (57) (wX_top (by decide) (by decide)) rfl 2 (by decide) hlink (fun _ h => h) rfl hdg kk
theorem kx_gauditor (hx : p.tables.exec = Jvm.exec) (hb : c.code = cc) (hts : ∀ w ∈ Ts, w.before args s = true) (hin : ∀ w ∈ u_ws RX4 TX4 9, w ∈ Ts) (hown : s.vm.findClass RX4 = some m.cls) (hX : WX dC dI ad S A s H locs)   (hlink : (Cond.fieldLink RX4 index "Orderlattice" "auditor" "LOrderlattice$Auditor;").before args s = true) (hdg : decode cc pc = .ok (.getfield index, 3)) (kk : W p l e R s m args below meth c H locs cells slots Q (F0 m (pc + 3) ls (.ref (ad 56) :: rest))) : W p l e R s m args below meth c H locs cells slots Q (F0 m pc ls (.ref (ad 57) :: rest)) :=
  va_get (D := (dC, dI)) (ci := 6) (C := RX4) (T := TX4) (N := 9) hx hb hts hin hown hX.2.1 hX.1 (57) (wX_top (by decide) (by decide)) rfl 3 (by decide) hlink (fun _ h => h) rfl hdg kk
theorem kx_gspareRow (hx : p.tables.exec = Jvm.exec) (hb : c.code = cc) (hts : ∀ w ∈ Ts, w.before args s = true) (hin : ∀ w ∈ u_ws RX4 TX4 9, w ∈ Ts) (hown : s.vm.findClass RX4 = some m.cls) (hX : WX dC dI ad S A s H locs)   (hlink : (Cond.fieldLink RX4 index "Orderlattice" "spareRow" "LOrderlattice$Row;").before args s = true) (hdg : decode cc pc = .ok (.getfield index, 3)) (kk : W p l e R s m args below meth c H locs cells slots Q (F0 m (pc + 3) ls (.ref (ad (3 * 4)) :: rest))) : W p l e R s m args below meth c H locs cells slots Q (F0 m pc ls (.ref (ad 57) :: rest)) :=
  va_get (D := (dC, dI)) (ci := 6) (C := RX4) (T := TX4) (N := 9) hx hb hts hin hown hX.2.1 hX.1 (57) (wX_top (by decide) (by decide)) rfl 4 (by decide) hlink (fun _ h => h) rfl hdg kk
theorem kx_gspareOrder (hx : p.tables.exec = Jvm.exec) (hb : c.code = cc) (hts : ∀ w ∈ Ts, w.before args s = true) (hin : ∀ w ∈ u_ws RX4 TX4 9, w ∈ Ts) (hown : s.vm.findClass RX4 = some m.cls) (hX : WX dC dI ad S A s H locs)   (hlink : (Cond.fieldLink RX4 index "Orderlattice" "spareOrder" "LOrderlattice$Order;").before args s = true) (hdg : decode cc pc = .ok (.getfield index, 3)) (kk : W p l e R s m args below meth c H locs cells slots Q (F0 m (pc + 3) ls (.ref (ad (24 + 5 * 4)) :: rest))) : W p l e R s m args below meth c H locs cells slots Q (F0 m pc ls (.ref (ad 57) :: rest)) :=
  va_get (D := (dC, dI)) (ci := 6) (C := RX4) (T := TX4) (N := 9) hx hb hts hin hown hX.2.1 hX.1 (57) (wX_top (by decide) (by decide)) rfl 5 (by decide) hlink (fun _ h => h) rfl hdg kk
theorem kx_gput (hx : p.tables.exec = Jvm.exec) (hb : c.code = cc) (hts : ∀ w ∈ Ts, w.before args s = true) (hin : ∀ w ∈ u_ws RX4 TX4 9, w ∈ Ts) (hown : s.vm.findClass RX4 = some m.cls) (hX : WX dC dI ad S A s H locs)  (hn : S.2.2.1 = n) (hlink : (Cond.fieldLink RX4 index "Orderlattice" "marksGiven" "I").before args s = true) (hdg : decode cc pc = .ok (.getfield index, 3)) (kk : W p l e R s m args below meth c H locs cells slots Q (F0 m (pc + 3) ls (.int (nI n) :: rest))) : W p l e R s m args below meth c H locs cells slots Q (F0 m pc ls (.ref (ad 57) :: rest)) :=
  va_get (D := (dC, dI)) (ci := 6) (C := RX4) (T := TX4) (N := 9) hx hb hts hin hown hX.2.1 hX.1 (57) (wX_top (by decide) (by decide)) rfl 6 (by decide) hlink (fun _ h => h) rfl hdg (by rw [hn]; exact kk)
theorem kx_gref (hx : p.tables.exec = Jvm.exec) (hb : c.code = cc) (hts : ∀ w ∈ Ts, w.before args s = true) (hin : ∀ w ∈ u_ws RX4 TX4 9, w ∈ Ts) (hown : s.vm.findClass RX4 = some m.cls) (hX : WX dC dI ad S A s H locs)  (hn : S.2.2.2.1 = n) (hlink : (Cond.fieldLink RX4 index "Orderlattice" "refusals" "I").before args s = true) (hdg : decode cc pc = .ok (.getfield index, 3)) (kk : W p l e R s m args below meth c H locs cells slots Q (F0 m (pc + 3) ls (.int (nI n) :: rest))) : W p l e R s m args below meth c H locs cells slots Q (F0 m pc ls (.ref (ad 57) :: rest)) :=
  va_get (D := (dC, dI)) (ci := 6) (C := RX4) (T := TX4) (N := 9) hx hb hts hin hown hX.2.1 hX.1 (57) (wX_top (by decide) (by decide)) rfl 7 (by decide) hlink (fun _ h => h) rfl hdg (by rw [hn]; exact kk)
theorem kx_gkno (hx : p.tables.exec = Jvm.exec) (hb : c.code = cc) (hts : ∀ w ∈ Ts, w.before args s = true) (hin : ∀ w ∈ u_ws RX4 TX4 9, w ∈ Ts) (hown : s.vm.findClass RX4 = some m.cls) (hX : WX dC dI ad S A s H locs)  (hn : S.2.2.2.2 = n) (hlink : (Cond.fieldLink RX4 index "Orderlattice" "knocks" "I").before args s = true) (hdg : decode cc pc = .ok (.getfield index, 3)) (kk : W p l e R s m args below meth c H locs cells slots Q (F0 m (pc + 3) ls (.int (nI n) :: rest))) : W p l e R s m args below meth c H locs cells slots Q (F0 m pc ls (.ref (ad 57) :: rest)) :=
  va_get (D := (dC, dI)) (ci := 6) (C := RX4) (T := TX4) (N := 9) hx hb hts hin hown hX.2.1 hX.1 (57) (wX_top (by decide) (by decide)) rfl 8 (by decide) hlink (fun _ h => h) rfl hdg (by rw [hn]; exact kk)
theorem kr_lv (hx : p.tables.exec = Jvm.exec) (hb : c.code = cc) (hX : WX dC dI ad S A s H locs) (hi : i < 8) (hk : k < 16) (hv : (S.1 i).1 k = v) (hdg : decode cc pc = .ok (.iaload, 1)) (kk : W p l e R s m args below meth c H locs cells slots Q (F0 m (pc + 1) ls (.int (nI v) :: rest))) : W p l e R s m args below meth c H locs cells slots Q (F0 m pc ls (.int (nI k) :: .ref (ad (3 * i + 1)) :: rest)) := by
  refine va_iald hx hb hX.2.1 hX.1 (3 * i + 1) 0 (wX_rv hi) rfl (vp_in_nI hk (by decide)) hdg ?_
  have ek : (nI k).toNatClampNeg = k := nI_clamp (by omega)
  show W p l e R s m args below meth c H locs cells slots Q (F0 m (pc + 1) ls (.int (nI ((S.1 i).1 (nI k).toNatClampNeg)) :: rest))
  rw [ek, hv]
  exact kk
theorem kr_lm (hx : p.tables.exec = Jvm.exec) (hb : c.code = cc) (hX : WX dC dI ad S A s H locs) (hi : i < 8) (hk : k < 16) (hv : (S.1 i).2.1 k = v) (hdg : decode cc pc = .ok (.iaload, 1)) (kk : W p l e R s m args below meth c H locs cells slots Q (F0 m (pc + 1) ls (.int (nI v) :: rest))) : W p l e R s m args below meth c H locs cells slots Q (F0 m pc ls (.int (nI k) :: .ref (ad (3 * i + 2)) :: rest)) := by
  refine va_iald hx hb hX.2.1 hX.1 (3 * i + 2) 0 (wX_rm hi) rfl (vp_in_nI hk (by decide)) hdg ?_
  have ek : (nI k).toNatClampNeg = k := nI_clamp (by omega)
  show W p l e R s m args below meth c H locs cells slots Q (F0 m (pc + 1) ls (.int (nI ((S.1 i).2.1 (nI k).toNatClampNeg)) :: rest))
  rw [ek, hv]
  exact kk
theorem ko_lk (hx : p.tables.exec = Jvm.exec) (hb : c.code = cc) (hX : WX dC dI ad S A s H locs) (hi : i < 6) (hk : k < 10) (hv : (S.2.1 i).1 k = v) (hdg : decode cc pc = .ok (.iaload, 1)) (kk : W p l e R s m args below meth c H locs cells slots Q (F0 m (pc + 1) ls (.int (nI v) :: rest))) : W p l e R s m args below meth c H locs cells slots Q (F0 m pc ls (.int (nI k) :: .ref (ad (24 + 5 * i + 1)) :: rest)) := by
  refine va_iald hx hb hX.2.1 hX.1 (24 + 5 * i + 1) 0 (wX_ok hi) rfl (vp_in_nI hk (by decide)) hdg ?_
  have ek : (nI k).toNatClampNeg = k := nI_clamp (by omega)
  show W p l e R s m args below meth c H locs cells slots Q (F0 m (pc + 1) ls (.int (nI ((S.2.1 i).1 (nI k).toNatClampNeg)) :: rest))
  rw [ek, hv]
  exact kk
theorem ko_ld (hx : p.tables.exec = Jvm.exec) (hb : c.code = cc) (hX : WX dC dI ad S A s H locs) (hi : i < 6) (hk : k < 10) (hv : (S.2.1 i).2.1 k = z) (hdg : decode cc pc = .ok (.baload, 1)) (kk : W p l e R s m args below meth c H locs cells slots Q (F0 m (pc + 1) ls (.int (bI z) :: rest))) : W p l e R s m args below meth c H locs cells slots Q (F0 m pc ls (.int (nI k) :: .ref (ad (24 + 5 * i + 2)) :: rest)) := by
  refine va_zald hx hb hX.2.1 hX.1 (24 + 5 * i + 2) 1 (wX_od hi) rfl (vp_in_nI hk (by decide)) hdg ?_
  have ek : (nI k).toNatClampNeg = k := nI_clamp (by omega)
  show W p l e R s m args below meth c H locs cells slots Q (F0 m (pc + 1) ls (.int (bI ((S.2.1 i).2.1 (nI k).toNatClampNeg)) :: rest))
  rw [ek, hv]
  exact kk
theorem ko_lc (hx : p.tables.exec = Jvm.exec) (hb : c.code = cc) (hX : WX dC dI ad S A s H locs) (hi : i < 6) (hk : k < 16) (hv : (S.2.1 i).2.2.1 k = v) (hdg : decode cc pc = .ok (.laload, 1)) (kk : W p l e R s m args below meth c H locs cells slots Q (F0 m (pc + 1) ls (.long (lN v) :: rest))) : W p l e R s m args below meth c H locs cells slots Q (F0 m pc ls (.int (nI k) :: .ref (ad (24 + 5 * i + 3)) :: rest)) := by
  refine va_lald hx hb hX.2.1 hX.1 (24 + 5 * i + 3) 2 (wX_oc hi) rfl (vp_in_nI hk (by decide)) hdg ?_
  have ek : (nI k).toNatClampNeg = k := nI_clamp (by omega)
  show W p l e R s m args below meth c H locs cells slots Q (F0 m (pc + 1) ls (.long (lN ((S.2.1 i).2.2.1 (nI k).toNatClampNeg)) :: rest))
  rw [ek, hv]
  exact kk
theorem ko_lr (hx : p.tables.exec = Jvm.exec) (hb : c.code = cc) (hX : WX dC dI ad S A s H locs) (hi : i < 6) (hk : k < 16) (hv : (S.2.1 i).2.2.2.1 k = v) (hdg : decode cc pc = .ok (.iaload, 1)) (kk : W p l e R s m args below meth c H locs cells slots Q (F0 m (pc + 1) ls (.int (nI v) :: rest))) : W p l e R s m args below meth c H locs cells slots Q (F0 m pc ls (.int (nI k) :: .ref (ad (24 + 5 * i + 4)) :: rest)) := by
  refine va_iald hx hb hX.2.1 hX.1 (24 + 5 * i + 4) 0 (wX_or hi) rfl (vp_in_nI hk (by decide)) hdg ?_
  have ek : (nI k).toNatClampNeg = k := nI_clamp (by omega)
  show W p l e R s m args below meth c H locs cells slots Q (F0 m (pc + 1) ls (.int (nI ((S.2.1 i).2.2.2.1 (nI k).toNatClampNeg)) :: rest))
  rw [ek, hv]
  exact kk
theorem kx_lrow (hx : p.tables.exec = Jvm.exec) (hb : c.code = cc) (hX : WX dC dI ad S A s H locs) (hk : k < 3) (hdg : decode cc pc = .ok (.aaload, 1)) (kk : W p l e R s m args below meth c H locs cells slots Q (F0 m (pc + 1) ls (.ref (ad (3 * k)) :: rest))) : W p l e R s m args below meth c H locs cells slots Q (F0 m pc ls (.int (nI k) :: .ref (ad 58) :: rest)) := by
  refine va_aldq hx hb hX.2.1 hX.1 58 3 (wX_top (by decide) (by decide)) rfl (vp_in_nI hk (by decide)) hdg ?_
  have ek : (nI k).toNatClampNeg = k := nI_clamp (by omega)
  rw [ek]
  exact kk
theorem kx_lord (hx : p.tables.exec = Jvm.exec) (hb : c.code = cc) (hX : WX dC dI ad S A s H locs) (hk : k < 4) (hdg : decode cc pc = .ok (.aaload, 1)) (kk : W p l e R s m args below meth c H locs cells slots Q (F0 m (pc + 1) ls (.ref (ad (24 + 5 * k)) :: rest))) : W p l e R s m args below meth c H locs cells slots Q (F0 m pc ls (.int (nI k) :: .ref (ad 59) :: rest)) := by
  refine va_aldq hx hb hX.2.1 hX.1 59 4 (wX_top (by decide) (by decide)) rfl (vp_in_nI hk (by decide)) hdg ?_
  have ek : (nI k).toNatClampNeg = k := nI_clamp (by omega)
  rw [ek]
  exact kk
theorem kr_nv (hx : p.tables.exec = Jvm.exec) (hb : c.code = cc) (hX : WX dC dI ad S A s H locs) (hi : i < 8) (hdg : decode cc pc = .ok (.arraylength, 1)) (kk : W p l e R s m args below meth c H locs cells slots Q (F0 m (pc + 1) ls (.int (nI 16) :: rest))) : W p l e R s m args below meth c H locs cells slots Q (F0 m pc ls (.ref (ad (3 * i + 1)) :: rest)) :=
  va_alen hx hb hX.2.1 hX.1 (3 * i + 1) 0 (wX_rv hi) rfl (v := nI 16) rfl hdg kk
theorem kr_nm (hx : p.tables.exec = Jvm.exec) (hb : c.code = cc) (hX : WX dC dI ad S A s H locs) (hi : i < 8) (hdg : decode cc pc = .ok (.arraylength, 1)) (kk : W p l e R s m args below meth c H locs cells slots Q (F0 m (pc + 1) ls (.int (nI 16) :: rest))) : W p l e R s m args below meth c H locs cells slots Q (F0 m pc ls (.ref (ad (3 * i + 2)) :: rest)) :=
  va_alen hx hb hX.2.1 hX.1 (3 * i + 2) 0 (wX_rm hi) rfl (v := nI 16) rfl hdg kk
theorem ko_nk (hx : p.tables.exec = Jvm.exec) (hb : c.code = cc) (hX : WX dC dI ad S A s H locs) (hi : i < 6) (hdg : decode cc pc = .ok (.arraylength, 1)) (kk : W p l e R s m args below meth c H locs cells slots Q (F0 m (pc + 1) ls (.int (nI 10) :: rest))) : W p l e R s m args below meth c H locs cells slots Q (F0 m pc ls (.ref (ad (24 + 5 * i + 1)) :: rest)) :=
  va_alen hx hb hX.2.1 hX.1 (24 + 5 * i + 1) 0 (wX_ok hi) rfl (v := nI 10) rfl hdg kk
theorem ko_nd (hx : p.tables.exec = Jvm.exec) (hb : c.code = cc) (hX : WX dC dI ad S A s H locs) (hi : i < 6) (hdg : decode cc pc = .ok (.arraylength, 1)) (kk : W p l e R s m args below meth c H locs cells slots Q (F0 m (pc + 1) ls (.int (nI 10) :: rest))) : W p l e R s m args below meth c H locs cells slots Q (F0 m pc ls (.ref (ad (24 + 5 * i + 2)) :: rest)) :=
  va_alen hx hb hX.2.1 hX.1 (24 + 5 * i + 2) 1 (wX_od hi) rfl (v := nI 10) rfl hdg kk
theorem ko_nc (hx : p.tables.exec = Jvm.exec) (hb : c.code = cc) (hX : WX dC dI ad S A s H locs) (hi : i < 6) (hdg : decode cc pc = .ok (.arraylength, 1)) (kk : W p l e R s m args below meth c H locs cells slots Q (F0 m (pc + 1) ls (.int (nI 16) :: rest))) : W p l e R s m args below meth c H locs cells slots Q (F0 m pc ls (.ref (ad (24 + 5 * i + 3)) :: rest)) :=
  va_alen hx hb hX.2.1 hX.1 (24 + 5 * i + 3) 2 (wX_oc hi) rfl (v := nI 16) rfl hdg kk
theorem ko_nr (hx : p.tables.exec = Jvm.exec) (hb : c.code = cc) (hX : WX dC dI ad S A s H locs) (hi : i < 6) (hdg : decode cc pc = .ok (.arraylength, 1)) (kk : W p l e R s m args below meth c H locs cells slots Q (F0 m (pc + 1) ls (.int (nI 16) :: rest))) : W p l e R s m args below meth c H locs cells slots Q (F0 m pc ls (.ref (ad (24 + 5 * i + 4)) :: rest)) :=
  va_alen hx hb hX.2.1 hX.1 (24 + 5 * i + 4) 0 (wX_or hi) rfl (v := nI 16) rfl hdg kk
theorem kx_nrows (hx : p.tables.exec = Jvm.exec) (hb : c.code = cc) (hX : WX dC dI ad S A s H locs)  (hdg : decode cc pc = .ok (.arraylength, 1)) (kk : W p l e R s m args below meth c H locs cells slots Q (F0 m (pc + 1) ls (.int (nI 3) :: rest))) : W p l e R s m args below meth c H locs cells slots Q (F0 m pc ls (.ref (ad 58) :: rest)) :=
  va_alen hx hb hX.2.1 hX.1 (58) 3 (wX_top (by decide) (by decide)) rfl (v := nI 3) rfl hdg kk
theorem kx_norders (hx : p.tables.exec = Jvm.exec) (hb : c.code = cc) (hX : WX dC dI ad S A s H locs)  (hdg : decode cc pc = .ok (.arraylength, 1)) (kk : W p l e R s m args below meth c H locs cells slots Q (F0 m (pc + 1) ls (.int (nI 4) :: rest))) : W p l e R s m args below meth c H locs cells slots Q (F0 m pc ls (.ref (ad 59) :: rest)) :=
  va_alen hx hb hX.2.1 hX.1 (59) 4 (wX_top (by decide) (by decide)) rfl (v := nI 4) rfl hdg kk
theorem kr_sv (hx : p.tables.exec = Jvm.exec) (hb : c.code = cc) (hX : WX dC dI ad S A s H locs) (hi : i < 8) (hk : k < 16) {S' : XS} (hS' : xR S i (va_up (S.1 i).1 k v, (S.1 i).2) = S') (hdg : decode cc pc = .ok (.iastore, 1)) (kk : ∀ (H1 : Heap) (locs1 : List Loc), WX dC dI ad S' A s H1 locs1 → W p l e R s m args below meth c H1 locs1 cells slots Q (F0 m (pc + 1) ls rest)) : W p l e R s m args below meth c H locs cells slots Q (F0 m pc ls (.int (nI v) :: .int (nI k) :: .ref (ad (3 * i + 1)) :: rest)) := by
  refine va_iast hx hb hX.2.1 hX.1 hX.2.2.1 hX.2.2.2 (3 * i + 1) 0 (wX_rv hi) rfl (vp_in_nI hk (by decide)) hdg (fun H1 locs1 hP hD hS => kk H1 locs1 (WX.to ?_ hX hP hD hS))
  have ek : (nI k).toNatClampNeg = k := nI_clamp (by omega)
  rw [ek, nI_fun, ← hS']
  exact wX_setR (t := 1) hi (by decide) rfl (fun u hu hne => by rcases (show u = 0 ∨ u = 2 by omega) with rfl | rfl <;> rfl)
theorem kr_sm (hx : p.tables.exec = Jvm.exec) (hb : c.code = cc) (hX : WX dC dI ad S A s H locs) (hi : i < 8) (hk : k < 16) {S' : XS} (hS' : xR S i ((S.1 i).1, va_up (S.1 i).2.1 k v, (S.1 i).2.2) = S') (hdg : decode cc pc = .ok (.iastore, 1)) (kk : ∀ (H1 : Heap) (locs1 : List Loc), WX dC dI ad S' A s H1 locs1 → W p l e R s m args below meth c H1 locs1 cells slots Q (F0 m (pc + 1) ls rest)) : W p l e R s m args below meth c H locs cells slots Q (F0 m pc ls (.int (nI v) :: .int (nI k) :: .ref (ad (3 * i + 2)) :: rest)) := by
  refine va_iast hx hb hX.2.1 hX.1 hX.2.2.1 hX.2.2.2 (3 * i + 2) 0 (wX_rm hi) rfl (vp_in_nI hk (by decide)) hdg (fun H1 locs1 hP hD hS => kk H1 locs1 (WX.to ?_ hX hP hD hS))
  have ek : (nI k).toNatClampNeg = k := nI_clamp (by omega)
  rw [ek, nI_fun, ← hS']
  exact wX_setR (t := 2) hi (by decide) rfl (fun u hu hne => by rcases (show u = 0 ∨ u = 1 by omega) with rfl | rfl <;> rfl)
theorem ko_sk (hx : p.tables.exec = Jvm.exec) (hb : c.code = cc) (hX : WX dC dI ad S A s H locs) (hi : i < 6) (hk : k < 10) {S' : XS} (hS' : xO S i (va_up (S.2.1 i).1 k v, (S.2.1 i).2) = S') (hdg : decode cc pc = .ok (.iastore, 1)) (kk : ∀ (H1 : Heap) (locs1 : List Loc), WX dC dI ad S' A s H1 locs1 → W p l e R s m args below meth c H1 locs1 cells slots Q (F0 m (pc + 1) ls rest)) : W p l e R s m args below meth c H locs cells slots Q (F0 m pc ls (.int (nI v) :: .int (nI k) :: .ref (ad (24 + 5 * i + 1)) :: rest)) := by
  refine va_iast hx hb hX.2.1 hX.1 hX.2.2.1 hX.2.2.2 (24 + 5 * i + 1) 0 (wX_ok hi) rfl (vp_in_nI hk (by decide)) hdg (fun H1 locs1 hP hD hS => kk H1 locs1 (WX.to ?_ hX hP hD hS))
  have ek : (nI k).toNatClampNeg = k := nI_clamp (by omega)
  rw [ek, nI_fun, ← hS']
  exact wX_setO (t := 1) hi (by decide) rfl (fun u hu hne => by rcases (show u = 0 ∨ u = 2 ∨ u = 3 ∨ u = 4 by omega) with rfl | rfl | rfl | rfl <;> rfl)
theorem ko_sd (hx : p.tables.exec = Jvm.exec) (hb : c.code = cc) (hX : WX dC dI ad S A s H locs) (hi : i < 6) (hk : k < 10) {S' : XS} (hS' : xO S i ((S.2.1 i).1, va_up (S.2.1 i).2.1 k z, (S.2.1 i).2.2) = S') (hdg : decode cc pc = .ok (.bastore, 1)) (kk : ∀ (H1 : Heap) (locs1 : List Loc), WX dC dI ad S' A s H1 locs1 → W p l e R s m args below meth c H1 locs1 cells slots Q (F0 m (pc + 1) ls rest)) : W p l e R s m args below meth c H locs cells slots Q (F0 m pc ls (.int (bI z) :: .int (nI k) :: .ref (ad (24 + 5 * i + 2)) :: rest)) := by
  refine va_zast hx hb hX.2.1 hX.1 hX.2.2.1 hX.2.2.2 (24 + 5 * i + 2) 1 (wX_od hi) rfl (vp_in_nI hk (by decide)) hdg (fun H1 locs1 hP hD hS => kk H1 locs1 (WX.to ?_ hX hP hD hS))
  have ek : (nI k).toNatClampNeg = k := nI_clamp (by omega)
  rw [ek, bI_nar, bI_fun, ← hS']
  exact wX_setO (t := 2) hi (by decide) rfl (fun u hu hne => by rcases (show u = 0 ∨ u = 1 ∨ u = 3 ∨ u = 4 by omega) with rfl | rfl | rfl | rfl <;> rfl)
theorem ko_sc (hx : p.tables.exec = Jvm.exec) (hb : c.code = cc) (hX : WX dC dI ad S A s H locs) (hi : i < 6) (hk : k < 16) {S' : XS} (hS' : xO S i ((S.2.1 i).1, (S.2.1 i).2.1, va_up (S.2.1 i).2.2.1 k v, (S.2.1 i).2.2.2) = S') (hdg : decode cc pc = .ok (.lastore, 1)) (kk : ∀ (H1 : Heap) (locs1 : List Loc), WX dC dI ad S' A s H1 locs1 → W p l e R s m args below meth c H1 locs1 cells slots Q (F0 m (pc + 1) ls rest)) : W p l e R s m args below meth c H locs cells slots Q (F0 m pc ls (.long (lN v) :: .int (nI k) :: .ref (ad (24 + 5 * i + 3)) :: rest)) := by
  refine va_last hx hb hX.2.1 hX.1 hX.2.2.1 hX.2.2.2 (24 + 5 * i + 3) 2 (wX_oc hi) rfl (vp_in_nI hk (by decide)) hdg (fun H1 locs1 hP hD hS => kk H1 locs1 (WX.to ?_ hX hP hD hS))
  have ek : (nI k).toNatClampNeg = k := nI_clamp (by omega)
  rw [ek, lN_fun, ← hS']
  exact wX_setO (t := 3) hi (by decide) rfl (fun u hu hne => by rcases (show u = 0 ∨ u = 1 ∨ u = 2 ∨ u = 4 by omega) with rfl | rfl | rfl | rfl <;> rfl)
theorem ko_sr (hx : p.tables.exec = Jvm.exec) (hb : c.code = cc) (hX : WX dC dI ad S A s H locs) (hi : i < 6) (hk : k < 16) {S' : XS} (hS' : xO S i ((S.2.1 i).1, (S.2.1 i).2.1, (S.2.1 i).2.2.1, va_up (S.2.1 i).2.2.2.1 k v, (S.2.1 i).2.2.2.2) = S') (hdg : decode cc pc = .ok (.iastore, 1)) (kk : ∀ (H1 : Heap) (locs1 : List Loc), WX dC dI ad S' A s H1 locs1 → W p l e R s m args below meth c H1 locs1 cells slots Q (F0 m (pc + 1) ls rest)) : W p l e R s m args below meth c H locs cells slots Q (F0 m pc ls (.int (nI v) :: .int (nI k) :: .ref (ad (24 + 5 * i + 4)) :: rest)) := by
  refine va_iast hx hb hX.2.1 hX.1 hX.2.2.1 hX.2.2.2 (24 + 5 * i + 4) 0 (wX_or hi) rfl (vp_in_nI hk (by decide)) hdg (fun H1 locs1 hP hD hS => kk H1 locs1 (WX.to ?_ hX hP hD hS))
  have ek : (nI k).toNatClampNeg = k := nI_clamp (by omega)
  rw [ek, nI_fun, ← hS']
  exact wX_setO (t := 4) hi (by decide) rfl (fun u hu hne => by rcases (show u = 0 ∨ u = 1 ∨ u = 2 ∨ u = 3 by omega) with rfl | rfl | rfl | rfl <;> rfl)
theorem kr_pn (hx : p.tables.exec = Jvm.exec) (hb : c.code = cc) (hts : ∀ w ∈ Ts, w.before args s = true) (hin : ∀ w ∈ u_ws RX2 TX2 3, w ∈ Ts) (hown : s.vm.findClass RX2 = some m.cls) (hX : WX dC dI ad S A s H locs) (hi : i < 8) {S' : XS} (hS' : xR S i ((S.1 i).1, (S.1 i).2.1, n) = S') (hlink : (Cond.fieldLink RX2 index "Orderlattice$Row" "many" "I").before args s = true) (hdg : decode cc pc = .ok (.putfield index, 3)) (kk : ∀ (H1 : Heap) (locs1 : List Loc), WX dC dI ad S' A s H1 locs1 → W p l e R s m args below meth c H1 locs1 cells slots Q (F0 m (pc + 3) ls rest)) : W p l e R s m args below meth c H locs cells slots Q (F0 m pc ls (.int (nI n) :: .ref (ad (3 * i)) :: rest)) := by
  refine va_put (D := (dC, dI)) (ci := 4) (ty := .int) (C := RX2) (T := TX2) (N := 3) hx hb hts hin tyX2 tyX2_ok nmX2 hown hX.2.1 hX.1 hX.2.2.1 hX.2.2.2 (3 * i) (wX_row hi) rfl 2 (by decide) hlink (fun _ h => h) rfl (by decide +kernel) rfl rfl (Nat.le_of_ble_eq_true rfl) hdg (fun H1 locs1 hP hD hS => kk H1 locs1 (WX.to ?_ hX hP hD hS))
  rw [← hS']
  exact wX_setR (t := 0) hi (by decide) rfl (fun u hu hne => by rcases (show u = 1 ∨ u = 2 by omega) with rfl | rfl <;> rfl)
theorem ko_pn (hx : p.tables.exec = Jvm.exec) (hb : c.code = cc) (hts : ∀ w ∈ Ts, w.before args s = true) (hin : ∀ w ∈ u_ws RX1 TX1 6, w ∈ Ts) (hown : s.vm.findClass RX1 = some m.cls) (hX : WX dC dI ad S A s H locs) (hi : i < 6) {S' : XS} (hS' : xO S i ((S.2.1 i).1, (S.2.1 i).2.1, (S.2.1 i).2.2.1, (S.2.1 i).2.2.2.1, n, (S.2.1 i).2.2.2.2.2) = S') (hlink : (Cond.fieldLink RX1 index "Orderlattice$Order" "many" "I").before args s = true) (hdg : decode cc pc = .ok (.putfield index, 3)) (kk : ∀ (H1 : Heap) (locs1 : List Loc), WX dC dI ad S' A s H1 locs1 → W p l e R s m args below meth c H1 locs1 cells slots Q (F0 m (pc + 3) ls rest)) : W p l e R s m args below meth c H locs cells slots Q (F0 m pc ls (.int (nI n) :: .ref (ad (24 + 5 * i)) :: rest)) := by
  refine va_put (D := (dC, dI)) (ci := 3) (ty := .int) (C := RX1) (T := TX1) (N := 6) hx hb hts hin tyX1 tyX1_ok nmX1 hown hX.2.1 hX.1 hX.2.2.1 hX.2.2.2 (24 + 5 * i) (wX_ord hi) rfl 4 (by decide) hlink (fun _ h => h) rfl (by decide +kernel) rfl rfl (Nat.le_of_ble_eq_true rfl) hdg (fun H1 locs1 hP hD hS => kk H1 locs1 (WX.to ?_ hX hP hD hS))
  rw [← hS']
  exact wX_setO (t := 0) hi (by decide) rfl (fun u hu hne => by rcases (show u = 1 ∨ u = 2 ∨ u = 3 ∨ u = 4 by omega) with rfl | rfl | rfl | rfl <;> rfl)
theorem ko_ps (hx : p.tables.exec = Jvm.exec) (hb : c.code = cc) (hts : ∀ w ∈ Ts, w.before args s = true) (hin : ∀ w ∈ u_ws RX1 TX1 6, w ∈ Ts) (hown : s.vm.findClass RX1 = some m.cls) (hX : WX dC dI ad S A s H locs) (hi : i < 6) {S' : XS} (hS' : xO S i ((S.2.1 i).1, (S.2.1 i).2.1, (S.2.1 i).2.2.1, (S.2.1 i).2.2.2.1, (S.2.1 i).2.2.2.2.1, n) = S') (hlink : (Cond.fieldLink RX1 index "Orderlattice$Order" "classes" "I").before args s = true) (hdg : decode cc pc = .ok (.putfield index, 3)) (kk : ∀ (H1 : Heap) (locs1 : List Loc), WX dC dI ad S' A s H1 locs1 → W p l e R s m args below meth c H1 locs1 cells slots Q (F0 m (pc + 3) ls rest)) : W p l e R s m args below meth c H locs cells slots Q (F0 m pc ls (.int (nI n) :: .ref (ad (24 + 5 * i)) :: rest)) := by
  refine va_put (D := (dC, dI)) (ci := 3) (ty := .int) (C := RX1) (T := TX1) (N := 6) hx hb hts hin tyX1 tyX1_ok nmX1 hown hX.2.1 hX.1 hX.2.2.1 hX.2.2.2 (24 + 5 * i) (wX_ord hi) rfl 5 (by decide) hlink (fun _ h => h) rfl (by decide +kernel) rfl rfl (Nat.le_of_ble_eq_true rfl) hdg (fun H1 locs1 hP hD hS => kk H1 locs1 (WX.to ?_ hX hP hD hS))
  rw [← hS']
  exact wX_setO (t := 0) hi (by decide) rfl (fun u hu hne => by rcases (show u = 1 ∨ u = 2 ∨ u = 3 ∨ u = 4 by omega) with rfl | rfl | rfl | rfl <;> rfl)
theorem kx_pput (hx : p.tables.exec = Jvm.exec) (hb : c.code = cc) (hts : ∀ w ∈ Ts, w.before args s = true) (hin : ∀ w ∈ u_ws RX4 TX4 9, w ∈ Ts) (hown : s.vm.findClass RX4 = some m.cls) (hX : WX dC dI ad S A s H locs)  {S' : XS} (hS' : xN S (n, S.2.2.2) = S') (hlink : (Cond.fieldLink RX4 index "Orderlattice" "marksGiven" "I").before args s = true) (hdg : decode cc pc = .ok (.putfield index, 3)) (kk : ∀ (H1 : Heap) (locs1 : List Loc), WX dC dI ad S' A s H1 locs1 → W p l e R s m args below meth c H1 locs1 cells slots Q (F0 m (pc + 3) ls rest)) : W p l e R s m args below meth c H locs cells slots Q (F0 m pc ls (.int (nI n) :: .ref (ad 57) :: rest)) := by
  refine va_put (D := (dC, dI)) (ci := 6) (ty := .int) (C := RX4) (T := TX4) (N := 9) hx hb hts hin tyX4 tyX4_ok nmX4 hown hX.2.1 hX.1 hX.2.2.1 hX.2.2.2 (57) (wX_top (by decide) (by decide)) rfl 6 (by decide) hlink (fun _ h => h) rfl (by decide +kernel) rfl rfl (Nat.le_of_ble_eq_true rfl) hdg (fun H1 locs1 hP hD hS => kk H1 locs1 (WX.to ?_ hX hP hD hS))
  rw [← hS']
  exact wX_setN (n := (n, S.2.2.2))
theorem kx_pref (hx : p.tables.exec = Jvm.exec) (hb : c.code = cc) (hts : ∀ w ∈ Ts, w.before args s = true) (hin : ∀ w ∈ u_ws RX4 TX4 9, w ∈ Ts) (hown : s.vm.findClass RX4 = some m.cls) (hX : WX dC dI ad S A s H locs)  {S' : XS} (hS' : xN S (S.2.2.1, n, S.2.2.2.2) = S') (hlink : (Cond.fieldLink RX4 index "Orderlattice" "refusals" "I").before args s = true) (hdg : decode cc pc = .ok (.putfield index, 3)) (kk : ∀ (H1 : Heap) (locs1 : List Loc), WX dC dI ad S' A s H1 locs1 → W p l e R s m args below meth c H1 locs1 cells slots Q (F0 m (pc + 3) ls rest)) : W p l e R s m args below meth c H locs cells slots Q (F0 m pc ls (.int (nI n) :: .ref (ad 57) :: rest)) := by
  refine va_put (D := (dC, dI)) (ci := 6) (ty := .int) (C := RX4) (T := TX4) (N := 9) hx hb hts hin tyX4 tyX4_ok nmX4 hown hX.2.1 hX.1 hX.2.2.1 hX.2.2.2 (57) (wX_top (by decide) (by decide)) rfl 7 (by decide) hlink (fun _ h => h) rfl (by decide +kernel) rfl rfl (Nat.le_of_ble_eq_true rfl) hdg (fun H1 locs1 hP hD hS => kk H1 locs1 (WX.to ?_ hX hP hD hS))
  rw [← hS']
  exact wX_setN (n := (S.2.2.1, n, S.2.2.2.2))
theorem kx_pkno (hx : p.tables.exec = Jvm.exec) (hb : c.code = cc) (hts : ∀ w ∈ Ts, w.before args s = true) (hin : ∀ w ∈ u_ws RX4 TX4 9, w ∈ Ts) (hown : s.vm.findClass RX4 = some m.cls) (hX : WX dC dI ad S A s H locs)  {S' : XS} (hS' : xN S (S.2.2.1, S.2.2.2.1, n) = S') (hlink : (Cond.fieldLink RX4 index "Orderlattice" "knocks" "I").before args s = true) (hdg : decode cc pc = .ok (.putfield index, 3)) (kk : ∀ (H1 : Heap) (locs1 : List Loc), WX dC dI ad S' A s H1 locs1 → W p l e R s m args below meth c H1 locs1 cells slots Q (F0 m (pc + 3) ls rest)) : W p l e R s m args below meth c H locs cells slots Q (F0 m pc ls (.int (nI n) :: .ref (ad 57) :: rest)) := by
  refine va_put (D := (dC, dI)) (ci := 6) (ty := .int) (C := RX4) (T := TX4) (N := 9) hx hb hts hin tyX4 tyX4_ok nmX4 hown hX.2.1 hX.1 hX.2.2.1 hX.2.2.2 (57) (wX_top (by decide) (by decide)) rfl 8 (by decide) hlink (fun _ h => h) rfl (by decide +kernel) rfl rfl (Nat.le_of_ble_eq_true rfl) hdg (fun H1 locs1 hP hD hS => kk H1 locs1 (WX.to ?_ hX hP hD hS))
  rw [← hS']
  exact wX_setN (n := (S.2.2.1, S.2.2.2.1, n))
end KM
end
