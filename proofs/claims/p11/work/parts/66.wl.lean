/-! the law's wrappers: the class's world, and the object of answers at o -/
def AO (ad : Nat → Nat) (o q : Nat) : Prop := AX ad q ∨ q = o
def OC (dC : Nat → ClassId) (dI : Nat → Nat → Nat) (o : Nat) (H : Heap) : Prop := ∃ (n : Int64) (v : Value), (v = .null ∨ ∃ q, v = .ref q) ∧ va_P (dC, dI) vwCl [(o, .inr (7, [.long n, v]))] H
/-- the links by which the law reaches the object of answers -/
def NF9 (U : State) : Prop := va_Nw (.fieldLinkNest "OrderlatticeLaw" 13 RX5 "n" "J" "OrderlatticeLaw") U ∧ va_Nw (.fieldLinkNest "OrderlatticeLaw" 73 RX5 "s" "Ljava/lang/String;" "OrderlatticeLaw") U
theorem NF9.warm {s U : State} (hW : s.WarmedH U.vm) (h : NF9 s) : NF9 U := ⟨va_Nw.warmF hW h.1, va_Nw.warmF hW h.2⟩
theorem NF9.same {s U : State} (hv : s.vm = U.vm) (h : NF9 s) : NF9 U := ⟨va_Nw.same rfl hv h.1, va_Nw.same rfl hv h.2⟩
def PW (dC : Nat → ClassId) (dI : Nat → Nat → Nat) (cB : ClassId) (ad : Nat → Nat) (o : Nat) (S : XS) (U : State) : Prop := PXZ dC dI ad S U ∧ PT dC dI cB ad S U ∧ OC dC dI o U.heap ∧ ¬ AX ad o ∧ va_Nc IA IX U ∧ NF9 U
def PO (dC : Nat → ClassId) (dI : Nat → Nat → Nat) (ad : Nat → Nat) (o : Nat) (S : XS) (U : State) : Prop := PX dC dI ad S U ∧ OC dC dI o U.heap
/-- what a call keeps: all in its bounds; the counters grow by little; no knock -/
def LQ (S S1 : XS) : Prop := InvX S1 ∧ (∀ j, j < 4 → (S1.2.1 j).2.2.2.2.1 ≤ 5) ∧ S1.2.2.1 ≤ S.2.2.1 + 12 ∧ S1.2.2.2.1 ≤ S.2.2.2.1 + 1 ∧ S1.2.2.2.2 = S.2.2.2.2
theorem wX_len {dC : Nat → ClassId} {ad : Nat → Nat} {S : XS} : (wX dC ad S).length = 60 := by rw [wX, List.length_map, List.length_range]
theorem OC.kept {dC : Nat → ClassId} {dI : Nat → Nat → Nat} {o : Nat} {H H1 : Heap} (h : OC dC dI o H) (hk : H1[o]? = H[o]?) : OC dC dI o H1 := by
  obtain ⟨n, v, h1, h2⟩ := h
  refine ⟨n, v, h1, h2.kept (fun k q hq => ?_)⟩
  have h3 : k < 1 := (List.getElem?_eq_some_iff.mp hq).1
  obtain rfl : k = 0 := by omega
  cases hq
  exact hk
theorem OC.lt {dC : Nat → ClassId} {dI : Nat → Nat → Nat} {o : Nat} {H : Heap} (h : OC dC dI o H) : o < H.size := by
  obtain ⟨n, v, h1, h2⟩ := h
  exact (h2 0 _ rfl).lt
theorem PW.blind {dC : Nat → ClassId} {dI : Nat → Nat → Nat} {cB : ClassId} {ad : Nat → Nat} {o : Nat} {S : XS} {av : List Value} : FrameBlind (va_Pc av (PW dC dI cB ad o S)) := fun a U g mk h => ⟨h.1, (PXZ.blind (av := av) a U g mk ⟨h.1, h.2.1⟩).2, h.2.2.1.call, h.2.2.2.1, h.2.2.2.2.1, va_Nc.moved (u := U) (U := U.calling g mk a) (Vm.Alike.refl U.vm) h.2.2.2.2.2.1, NF9.same (s := U) (U := U.calling g mk a) rfl h.2.2.2.2.2.2⟩
section KW
variable {dC : Nat → ClassId} {dI : Nat → Nat → Nat} {cB : ClassId} {ad : Nat → Nat} {o : Nat} {S : XS} {s : State} {H : Heap} {locs : List Loc}
theorem wo_P {x : Nat × va_E} (hP : va_P (dC, dI) vwCl (wX dC ad S) H) (hO : va_P (dC, dI) vwCl [x] H) : va_P (dC, dI) vwCl (wX dC ad S ++ [x]) H := fun k q hq => by
  by_cases h : k < 60
  · rw [List.getElem?_append_left (by rw [wX_len]; exact h)] at hq
    exact hP k q hq
  · rw [List.getElem?_append_right (by rw [wX_len]; omega)] at hq
    exact hO _ q hq
theorem wo_D {e : va_E} (hD : va_D (AO ad o) (wX dC ad S)) (hno : ¬ AX ad o) : va_D (AO ad o) (wX dC ad S ++ [(o, e)]) := by
  have one : ∀ k q, (wX dC ad S ++ [(o, e)])[k]? = some q → ((wX dC ad S)[k]? = some q ∧ k < 60 ∧ q.1 = ad k) ∨ (k = 60 ∧ q = (o, e)) := fun k q hq => by
    by_cases h : k < 60
    · rw [List.getElem?_append_left (by rw [wX_len]; exact h)] at hq
      exact Or.inl ⟨hq, h, (wX_in k q hq).2⟩
    · rw [List.getElem?_append_right (by rw [wX_len]; omega), wX_len] at hq
      have h3 : k - 60 < 1 := (List.getElem?_eq_some_iff.mp hq).1
      obtain rfl : k = 60 := by omega
      cases hq
      exact Or.inr ⟨rfl, rfl⟩
  refine ⟨fun i j p q hi hj e1 => ?_, fun k q hq => ?_⟩
  · rcases one i p hi with ⟨h1, h2, h3⟩ | ⟨h1, h2⟩
    · rcases one j q hj with ⟨h4, h5, h6⟩ | ⟨h4, h5⟩
      · exact hD.1 i j p q h1 h4 e1
      · rw [h5] at e1
        exact absurd ⟨i, h2, by rw [← h3]; exact e1.symm⟩ hno
    · rcases one j q hj with ⟨h4, h5, h6⟩ | ⟨h4, h5⟩
      · rw [h2] at e1
        exact absurd ⟨j, h5, by rw [← h6]; exact e1⟩ hno
      · rw [h1, h4]
  · rcases one k q hq with ⟨h1, h2, h3⟩ | ⟨h1, h2⟩
    · exact Or.inl ⟨k, h2, h3⟩
    · rw [h2]; exact Or.inr rfl
theorem WX.ofW (h : PW dC dI cB ad o S s) : WX dC dI ad S (AO ad o) s s.heap [] := ⟨h.2.1.1.1, h.2.1.1.2.1, h.2.1.1.2.2.weaken (fun _ _ _ h => Or.inl h), va_S.rf⟩
theorem PW.preT (h : PW dC dI cB ad o S s) {As : List Value} : PreV s s.heap RX4 (ad 57) (va_Pc (Value.ref (ad 57) :: As) (PT dC dI cB ad S)) As :=
  ⟨PT.blind, ((WX.of h.2.1.1).preTop 57 6 (by decide) (by decide) rfl rfl (As := As)).2.1, fun _ hU hW => ⟨rfl, TB.toPT (TB.of h.2.1) (WX.ofT h.2.1) h.2.1.2.2.2 hU hW⟩⟩
end KW
section KW2
variable {p : Program} {l : Launch} {e : Env} {R : Room} {s : State} {m : MethodId} {args : Array Value} {below : List Frame} {meth : Method} {c : Code} {H : Heap} {locs : List Loc} {cells slots : Nat} {Q : State → Prop}
variable {cc : ByteArray} {pc : Nat} {ls : Array Slot} {rest st0 : List Value} {dC : Nat → ClassId} {dI : Nat → Nat → Nat} {cB : ClassId} {ad : Nat → Nat} {o : Nat} {S : XS} {Ts : List Cond} {a : Array Value} {mc ms : Nat}
theorem kl_put (hx : p.tables.exec = Jvm.exec) (hb : c.code = cc) {own : String} {index : Nat} (hts : ∀ w ∈ Ts, w.before args s = true) (hin : ∀ w ∈ u_ws RX5 TX5 2, w ∈ Ts) (hown : s.vm.findClass own = some m.cls) (hX : WX dC dI ad S (AO ad o) s H locs) (hO : OC dC dI o H) (hno : ¬ AX ad o)
    (k : Nat) (hk : k < 2) {host : String} (hlink : (Cond.fieldLinkNest own index RX5 (TX5 k).2.1 (TX5 k).2.2.1 host).before args s = true) {v : Value} {ty : FieldType} (hd : parseFieldDescriptor (TX5 k).2.2.1 = some ty) (hn : narrow ty v = v) (hfit : fits ty v = true) (hv : (k = 0 ∧ ∃ n, v = .long n) ∨ (k = 1 ∧ ∃ q, v = .ref q)) (hdg : decode cc pc = .ok (.putfield index, 3))
    (kk : ∀ (H1 : Heap) (locs1 : List Loc), WX dC dI ad S (AO ad o) s H1 locs1 → OC dC dI o H1 → W p l e R s m args below meth c H1 locs1 cells slots Q (F0 m (pc + 3) ls rest)) : W p l e R s m args below meth c H locs cells slots Q (F0 m pc ls (v :: .ref o :: rest)) := by
  obtain ⟨n0, v0, h0, hP0⟩ := hO
  have hsame : ∀ x, s.fieldFound? (TX5 k).1 (TX5 k).2.1 (TX5 k).2.2.1 = some x → s.fieldFound? RX5 (TX5 k).2.1 (TX5 k).2.2.1 = some x := by
    rcases (show k = 0 ∨ k = 1 by omega) with rfl | rfl <;> exact fun _ h => h
  have hfin : (TX5 k).2.2.2 = false := by rcases (show k = 0 ∨ k = 1 by omega) with rfl | rfl <;> rfl
  refine va_putN (D := (dC, dI)) (ci := 7) (C := RX5) (T := TX5) (N := 2) (fs := [.long n0, v0]) hx hb hts hin tyX5 tyX5_ok nmX5 hown hX.2.1 (wo_P hX.1 hP0) (wo_D hX.2.2.1 hno) hX.2.2.2 60 (by rw [List.getElem?_append_right (by rw [wX_len]; exact Nat.le_refl _), wX_len]; rfl) rfl k hk hlink hsame hfin hd hn hfit (by show k < 2; exact hk) hdg (fun H1 locs1 h1 h2 h3 => ?_)
  rw [List.set_append_right _ _ (by rw [wX_len]; exact Nat.le_refl _), wX_len] at h1
  refine kk H1 locs1 ⟨fun i q hq => h1 i q (by rw [List.getElem?_append_left (by rw [wX_len]; exact (wX_in i q hq).1)]; exact hq), hX.2.1, hX.2.2.1, h3⟩ ?_
  have h4 : va_P (dC, dI) vwCl [(o, .inr (7, [Value.long n0, v0].set k v))] H1 := fun i q hq => h1 (60 + i) q (by rw [List.getElem?_append_right (by rw [wX_len]; omega), wX_len, Nat.add_sub_cancel_left]; exact hq)
  rcases hv with ⟨rfl, n, rfl⟩ | ⟨rfl, q, rfl⟩
  · exact ⟨n, v0, h0, h4⟩
  · exact ⟨n0, _, Or.inr ⟨q, rfl⟩, h4⟩
theorem kl_cr {post : Int32 → Prop} (hr : va_Run p l e R s m args below meth c H locs cells slots 0 0 (F0 m pc ls st0) rest (vp_Si post a) (fun _ => False)) (kk : ∀ r, post r → W p l e R s m args below meth c H locs cells slots Q (F0 m (pc + 3) ls (.int r :: rest))) : W p l e R s m args below meth c H locs cells slots Q (F0 m pc ls st0) :=
  vp_callSi (va_Run.run hr) (fun r h => kk r h)
theorem kl_ci {post : Int32 → XS → Prop} (hr : va_Run p l e R s m args below meth c H locs cells slots mc ms (F0 m pc ls st0) rest (va_Qi post (PX dC dI ad) (AX ad) a) (AX ad)) (hX : WX dC dI ad S (AO ad o) s H locs) (hO : OC dC dI o H) (hno : ¬ AX ad o) (kk : ∀ (r : Int32) (S1 : XS) (H1 : Heap) (locs1 : List Loc), post r S1 → WX dC dI ad S1 (AO ad o) s H1 locs1 → OC dC dI o H1 → W p l e R s m args below meth c H1 locs1 (cells + mc) (slots + ms) Q (F0 m (pc + 3) ls (.int r :: rest))) : W p l e R s m args below meth c H locs cells slots Q (F0 m pc ls st0) :=
  va_calli hr hX.2.2.2 (fun q _ h => Or.inl h) (fun _ h => Or.inl h) (fun r u t H1 locs1 ht hvm hp hB _ hk hS => kk r u H1 locs1 hp (kx_back hX (fun _ h => Or.inl h) ht hvm hB hS) (hO.kept (hk o hO.lt hno)))
theorem kl_rr {post : XS → Prop} (hr : va_Run p l e R s m args below meth c H locs cells slots mc ms (F0 m pc ls st0) rest (va_Qr post (fun S1 _ t => PX dC dI ad S1 t) (AX ad) a) (AX ad)) (hX : WX dC dI ad S (AO ad o) s H locs) (hO : OC dC dI o H) (hno : ¬ AX ad o) (kk : ∀ (S1 : XS) (q : Nat) (H1 : Heap) (locs1 : List Loc), post S1 → WX dC dI ad S1 (AO ad o) s H1 locs1 → OC dC dI o H1 → W p l e R s m args below meth c H1 locs1 (cells + mc) (slots + ms) Q (F0 m (pc + 3) ls (.ref q :: rest))) : W p l e R s m args below meth c H locs cells slots Q (F0 m pc ls st0) :=
  va_callr hr hX.2.2.2 (fun _ _ h => Or.inl h) (fun _ h => Or.inl h) (fun u q t H1 locs1 ht hvm hp hB _ hk hS => kk u q H1 locs1 hp (kx_back hX (fun _ h => Or.inl h) ht hvm hB hS) (hO.kept (hk o hO.lt hno)))
/-- a refused call: it throws, and nothing that was there has changed -/
theorem kl_throw {cls : String} (hr : vx_Run p l e R s m args below meth c H locs cells slots 1 6 (F0 m pc ls st0) rest (fun _ _ _ => False) (XQ dC dI ad S cls) (fun _ => False)) (hX : WX dC dI ad S (AO ad o) s H locs) (hO : OC dC dI o H)
    (kk : ∀ (ce : Cell) (q : Nat) (H1 : Heap), H1[q]? = some ce → ce.vm = .none → s.vm.findClass cls = some ce.cls → WX dC dI ad S (AO ad o) s H1 locs → OC dC dI o H1 → vx_W p l e R s m args below meth c H1 locs (cells + 1) (slots + 6) Q (F0 m pc ls rest) q) : W p l e R s m args below meth c H locs cells slots Q (F0 m pc ls st0) := by
  intro T hT X
  rcases hr T hT X with ⟨v, st₀, t, T', L, h0, X', hL, e1, e2, h, st⟩ | ⟨q, st₀, t, T', L, E, ce, h0, X', hL, e1, e2, ⟨hE, hP, hF⟩, hce, hcv, hcl, st⟩
  · exact h.elim
  · subst hE
    obtain ⟨hz, hk⟩ := hF
    rw [h0] at hz hk
    obtain rfl : L = [] := by
      cases L with
      | nil => rfl
      | cons x xs => exact (hL x List.mem_cons_self).elim
    rw [List.append_nil] at X'
    have hk' : ∀ q : Nat, q < H.size → T'.heap[q]? = H[q]? := fun q hq => by rw [e1]; exact hk q hq (fun z => z)
    obtain ⟨t2, a1, b1⟩ := kk ce q T'.heap (by rw [e1]; exact hce) hcv hcl ⟨hX.1.kept (fun k q hq => hk' q.1 (hX.1 k q hq).lt), hX.2.1, hX.2.2.1, ⟨Nat.le_trans hX.2.2.2.1 (by rw [e1]; exact hz), fun q h1 h2 => (hk' q (Nat.lt_of_lt_of_le h1 hX.2.2.2.1)).trans (hX.2.2.2.2.1 q h1 h2), hX.2.2.2.2.2⟩⟩ (hO.kept (hk' o hO.lt)) T' rfl X'
    exact ⟨t2, st.trans a1, b1⟩
end KW2
/-! a number in its bounds or out of them -/
theorem lim_lt (n : Nat) (hn : n < 1000) (x : Int32) : (∃ i, i < n ∧ x = nI i) ∨ (x < 0 ∨ nI n ≤ x) := by
  by_cases h : x < 0
  · exact Or.inr (Or.inl h)
  · by_cases h2 : nI n ≤ x
    · exact Or.inr (Or.inr h2)
    · refine Or.inl ⟨x.toNatClampNeg, ?_, ?_⟩
      · rw [Int32.lt_iff_toInt_lt] at h
        rw [Int32.le_iff_toInt_le] at h2
        have e : (nI n).toInt = n := by
          unfold nI
          rw [Int32.toInt_ofNat_of_lt (by omega)]
        rw [e] at h2
        have e0 : (0 : Int32).toInt = 0 := by decide
        rw [e0] at h
        have e3 : (x.toNatClampNeg : Int) = x.toInt := by
          rw [show x.toNatClampNeg = x.toInt.toNat from rfl]
          omega
        omega
      · have h5 : ¬ x < 0 := h
        apply Int32.toInt_inj.mp
        rw [Int32.lt_iff_toInt_lt] at h
        rw [Int32.le_iff_toInt_le] at h2
        have e0 : (0 : Int32).toInt = 0 := by decide
        rw [e0] at h
        have e : (nI n).toInt = n := by
          unfold nI
          rw [Int32.toInt_ofNat_of_lt (by omega)]
        rw [e] at h2
        have e3 : (x.toNatClampNeg : Int) = x.toInt := by
          rw [show x.toNatClampNeg = x.toInt.toNat from rfl]
          omega
        unfold nI
        rw [Int32.toInt_ofNat_of_lt (by omega)]
        exact e3.symm
theorem lim_le (n : Nat) (hn : n < 999) (x : Int32) : (∃ i, i ≤ n ∧ x = nI i) ∨ (x < 0 ∨ nI n < x) := by
  rcases lim_lt (n + 1) (by omega) x with ⟨i, h1, h2⟩ | h | h
  · exact Or.inl ⟨i, by omega, h2⟩
  · exact Or.inr (Or.inl h)
  · refine Or.inr (Or.inr ?_)
    rw [Int32.lt_iff_toInt_lt]
    rw [Int32.le_iff_toInt_le] at h
    have e : ∀ k : Nat, k < 2000 → (nI k).toInt = k := fun k hk => by
      unfold nI
      rw [Int32.toInt_ofNat_of_lt (by omega)]
    rw [e _ (by omega)] at h
    rw [e _ (by omega)]
    omega
/-! what each call keeps -/
theorem LQ_same {S : XS} (hI : InvX S) (h5 : ∀ j, j < 4 → (S.2.1 j).2.2.2.2.1 ≤ 5) : LQ S S := ⟨hI, h5, Nat.le_add_right _ _, Nat.le_add_right _ _, rfl⟩
theorem LQ_ref {S : XS} (hI : InvX S) (h5 : ∀ j, j < 4 → (S.2.1 j).2.2.2.2.1 ≤ 5) : LQ S (refT S) := ⟨hI, h5, Nat.le_add_right _ _, Nat.le_refl _, rfl⟩
theorem LQ_row {S : XS} (hI : InvX S) (h5 : ∀ j, j < 4 → (S.2.1 j).2.2.2.2.1 ≤ 5) {i : Nat} {r : RowS} (hr : rowOK r) {k : Nat} (hk : k ≤ 12) : LQ S (xR (xN S (S.2.2.1 + k, S.2.2.2.1, S.2.2.2.2)) i r) :=
  ⟨InvX_row (S := xN S (S.2.2.1 + k, S.2.2.2.1, S.2.2.2.2)) hI hr, h5, Nat.add_le_add_left hk _, Nat.le_add_right _ _, rfl⟩
theorem LQ_row0 {S : XS} (hI : InvX S) (h5 : ∀ j, j < 4 → (S.2.1 j).2.2.2.2.1 ≤ 5) {i : Nat} {r : RowS} (hr : rowOK r) : LQ S (xR S i r) := ⟨InvX_row hI hr, h5, Nat.le_add_right _ _, Nat.le_add_right _ _, rfl⟩
theorem LQ_ord {S : XS} (hI : InvX S) (h5 : ∀ j, j < 4 → (S.2.1 j).2.2.2.2.1 ≤ 5) {j : Nat} {o : OrdS} (ho : ordOK o) (h : o.2.2.2.2.1 ≤ 5) : LQ S (xO S j o) := by
  refine ⟨InvX_ord hI ho, fun t ht => ?_, Nat.le_add_right _ _, Nat.le_add_right _ _, rfl⟩
  by_cases e : t = j
  · subst e; rw [xO_ord]; exact h
  · rw [xO_ne _ _ e]; exact h5 t ht
theorem LQ_trans4 {S : XS} (hI : InvX S) (h5 : ∀ j, j < 4 → (S.2.1 j).2.2.2.2.1 ≤ 5) {o4 : OrdS} (h4 : ordOK o4) : InvX (xO S 4 o4) ∧ ∀ j, j < 4 → ((xO S 4 o4).2.1 j).2.2.2.2.1 ≤ 5 := ⟨InvX_ord hI h4, fun j hj => by rw [xO_ne _ _ (show j ≠ 4 by omega)]; exact h5 j hj⟩
theorem LQ_sort {S S1 : XS} {i : Nat} (hI : InvX S) (h5 : ∀ j, j < 4 → (S.2.1 j).2.2.2.2.1 ≤ 5) (h : sortA S S1 i) : LQ S S1 := by
  obtain ⟨h1, h2, h3, h4, h6, -⟩ := h
  refine ⟨⟨fun k hk => ?_, fun j hj => by rw [h1]; exact hI.2 j hj⟩, fun j hj => by rw [h1]; exact h5 j hj, by rw [h1]; exact Nat.le_add_right _ _, by rw [h1]; exact Nat.le_add_right _ _, by rw [h1]⟩
  by_cases e1 : k = i
  · rw [e1]; exact h6
  · by_cases e2 : k = 3
    · rw [e2]; exact h3
    · by_cases e3 : k = 4
      · rw [e3]; exact h4
      · rw [h2 k e1 e2 e3]; exact hI.1 k hk
theorem LQ_KA {S S1 : XS} (h5 : ∀ j, j < 4 → (S.2.1 j).2.2.2.2.1 ≤ 5) (h : KA S S1) : LQ S S1 := ⟨h.1, fun j hj => by rw [h.2.2.2 j (by omega)]; exact h5 j hj, by rw [h.2.1]; exact Nat.le_add_right _ _, by rw [h.2.1]; exact Nat.le_add_right _ _, by rw [h.2.1]⟩
theorem shr_lt {f : Nat → Nat} {n a k N : Nat} (h : ∀ q, q < 16 → f q < N) (hk : k < 16) : shr f n a k < N := by
  unfold shr
  split
  · exact h _ (by omega)
  · exact h _ hk
theorem rowOK_ins {r : RowS} (h : rowOK r) {q v u : Nat} (hn : r.2.2 < 12) (hv : v < 16) (hu : u < 1000000) : rowOK (va_up (shr r.1 r.2.2 q) q v, va_up (shr r.2.1 r.2.2 q) q u, r.2.2 + 1) :=
  ⟨by show r.2.2 + 1 ≤ 16; omega, fun k hk => ⟨up_lt (fun x hx => shr_lt (fun y hy => (h.2 y hy).1) hx) hv hk, up_lt (fun x hx => shr_lt (fun y hy => (h.2 y hy).2) hx) hu hk⟩⟩
theorem rowOK_fill {r : RowS} (h : rowOK r) {f g : Nat → Nat} {k : Nat} (hn : r.2.2 + k ≤ 12) (hf : ∀ x, f x < 16) (hg : ∀ x, x < k → g x < 1000000) : rowOK (apn r.1 f r.2.2 k, apn r.2.1 g r.2.2 k, r.2.2 + k) := by
  refine ⟨by show r.2.2 + k ≤ 16; omega, fun y hy => ⟨?_, ?_⟩⟩
  · show apn r.1 f r.2.2 k y < 16
    unfold apn
    split
    · exact hf _
    · exact (h.2 y hy).1
  · show apn r.2.1 g r.2.2 k y < 1000000
    unfold apn
    split
    · exact hg _ (by omega)
    · exact (h.2 y hy).2
theorem keys_up {K : Nat → Nat} (h : ∀ x, x < 10 → K x < 8) {n k : Nat} (hk : k < 8) : ∀ x, x < 10 → va_up K n k x < 8 := fun x hx => by
  unfold va_up
  split
  · exact hk
  · exact h x hx
theorem keys_apn {K L : Nat → Nat} (h : ∀ x, x < 10 → K x < 8) (h2 : ∀ x, x < 10 → L x < 8) {n0 a : Nat} : ∀ x, x < 10 → apn K L n0 a x < 8 := fun x hx => by
  unfold apn
  split
  · exact h2 _ (by omega)
  · exact h x hx
section LQs
variable {S S1 : XS} {i j : Nat} {r : Int32}
theorem LQ_put {q v : Nat} (hI : InvX S) (h5 : ∀ j, j < 4 → (S.2.1 j).2.2.2.2.1 ≤ 5) (hc : S.2.2.1 + 12 < 1000000) (hi : i < 3) (hv : v < 16) (hw : ((S.1 i).2.2 < 12 ∧ r = nI S.2.2.1 ∧ S1 = placeT S i q v) ∨ (12 ≤ (S.1 i).2.2 ∧ r = -9 ∧ S1 = refT S)) : LQ S S1 := by
  rcases hw with ⟨h1, -, rfl⟩ | ⟨-, -, rfl⟩
  · exact LQ_row hI h5 (rowOK_ins (hI.1 i (by omega)) h1 hv (by omega)) (k := 1) (by omega)
  · exact LQ_ref hI h5
theorem LQ_fill {k k2 k3 : Nat} (hI : InvX S) (h5 : ∀ j, j < 4 → (S.2.1 j).2.2.2.2.1 ≤ 5) (hc : S.2.2.1 + 12 < 1000000) (hi : i < 3) (hk : k ≤ 12) (hw : ((S.1 i).2.2 + k ≤ 12 ∧ r = nI ((S.1 i).2.2 + k) ∧ S1 = xR (xN S (S.2.2.1 + k, S.2.2.2.1, S.2.2.2.2)) i (apn (S.1 i).1 (fun x => (k2 + x * k3) % 16) (S.1 i).2.2 k, apn (S.1 i).2.1 (fun x => S.2.2.1 + x) (S.1 i).2.2 k, (S.1 i).2.2 + k)) ∨ (12 < (S.1 i).2.2 + k ∧ r = -9 ∧ S1 = refT S)) : LQ S S1 := by
  rcases hw with ⟨h1, -, rfl⟩ | ⟨-, -, rfl⟩
  · exact LQ_row hI h5 (rowOK_fill (hI.1 i (by omega)) h1 (fun x => Nat.mod_lt _ (by decide)) (fun x hx => by omega)) hk
  · exact LQ_ref hI h5
theorem LQ_wheel {y : Int32} (hI : InvX S) (h5 : ∀ j, j < 4 → (S.2.1 j).2.2.2.2.1 ≤ 5) (hw : ((S.1 i).2.2 = 0 ∧ r = -1 ∧ S1 = S) ∨ (0 < (S.1 i).2.2 ∧ ∃ (x sh : Nat) (r4 r' : RowS), r = nI x ∧ sh < (S.1 i).2.2 ∧ nI sh = fmv y (nI (S.1 i).2.2) ∧ S1 = xR (xR S 4 r4) i r' ∧ rowOK r4 ∧ rowOK r' ∧ r'.2.2 = (S.1 i).2.2)) : LQ S S1 := by
  rcases hw with ⟨-, -, rfl⟩ | ⟨-, x, sh, r4, r', -, -, -, rfl, h1, h2, -⟩
  · exact LQ_same hI h5
  · exact ⟨InvX_row (InvX_row hI h1) h2, h5, Nat.le_add_right _ _, Nat.le_add_right _ _, rfl⟩
theorem LQ_search {P P2 : Prop} (hI : InvX S) (h5 : ∀ j, j < 4 → (S.2.1 j).2.2.2.2.1 ≤ 5) (hw : (P ∧ r = -9 ∧ S1 = refT S) ∨ (P2 ∧ S1 = S)) : LQ S S1 := by
  rcases hw with ⟨-, -, rfl⟩ | ⟨-, rfl⟩
  · exact LQ_ref hI h5
  · exact LQ_same hI h5
theorem LQ_newO {K : Nat → Nat} {D : Nat → Bool} {n : Nat} {c r9 : Nat → Nat} (hI : InvX S) (h5 : ∀ j, j < 4 → (S.2.1 j).2.2.2.2.1 ≤ 5) (hn : n ≤ 5) (hK : ∀ x, x < 10 → K x < 8) : LQ S (xO S j (newO K D n c r9)) := LQ_ord hI h5 (newO_ok ⟨by omega, hK⟩) hn
theorem LQ_product {j2 j3 : Nat} {P : Prop} (hI : InvX S) (h5 : ∀ j, j < 4 → (S.2.1 j).2.2.2.2.1 ≤ 5) (hj : j < 4) (hj2 : j2 < 4) (hj3 : j3 < 4) (hw : ((S.2.1 j).2.2.2.2.1 + (S.2.1 j2).2.2.2.2.1 ≤ 5 ∧ P ∧ S1 = xO (xO S 4 (prodO S j j2)) j3 (copyO (S.2.1 j3) (prodO S j j2))) ∨ (5 < (S.2.1 j).2.2.2.2.1 + (S.2.1 j2).2.2.2.2.1 ∧ r = -9 ∧ S1 = refT S)) : LQ S S1 := by
  rcases hw with ⟨h1, -, rfl⟩ | ⟨-, -, rfl⟩
  · have k4 := (hI.2 4 (by omega)).1.2
    have k1 := (hI.2 j (by omega)).1.2
    have k2 := (hI.2 j2 (by omega)).1.2
    have k3 := (hI.2 j3 (by omega)).1.2
    have hk : ∀ x, x < 10 → (prodO S j j2).1 x < 8 := keys_apn (keys_apn k4 k1) k2
    have h4 : ordOK (prodO S j j2) := newO_ok ⟨by omega, hk⟩
    obtain ⟨e1, e2⟩ := LQ_trans4 hI h5 h4
    exact LQ_ord e1 e2 (newO_ok ⟨by show (S.2.1 j).2.2.2.2.1 + (S.2.1 j2).2.2.2.2.1 ≤ 10; omega, keys_apn k3 hk⟩) h1
  · exact LQ_ref hI h5
theorem LQ_tell {v v2 : Nat} {P P2 P3 : Prop} (hI : InvX S) (h5 : ∀ j, j < 4 → (S.2.1 j).2.2.2.2.1 ≤ 5) (hj : j < 4) (hw : (P ∧ P2 ∧ (S.2.1 j).2.2.2.2.1 < 5 ∧ r = nI (coarse (coarseC (S.2.1 j)) (keyApart v v2) 8).2 ∧ ∃ o4, ordOK o4 ∧ S1 = xO (xO S 4 o4) j (newO (va_up (S.2.1 j).1 (S.2.1 j).2.2.2.2.1 (coarse (coarseC (S.2.1 j)) (keyApart v v2) 8).2) (va_up (S.2.1 j).2.1 (S.2.1 j).2.2.2.2.1 false) ((S.2.1 j).2.2.2.2.1 + 1) (S.2.1 j).2.2.1 (S.2.1 j).2.2.2.1)) ∨ (P3 ∧ r = -9 ∧ S1 = refT S)) : LQ S S1 := by
  rcases hw with ⟨-, -, h1, -, o4, h4, rfl⟩ | ⟨-, -, rfl⟩
  · obtain ⟨e1, e2⟩ := LQ_trans4 hI h5 h4
    exact LQ_ord e1 e2 (newO_ok ⟨by omega, keys_up (hI.2 j (by omega)).1.2 (coarse_lt _ _ 8 (by omega))⟩) (by show (S.2.1 j).2.2.2.2.1 + 1 ≤ 5; omega)
  · exact LQ_ref hI h5
theorem LQ_step {k : Nat} {z : Bool} {P : Prop} (hI : InvX S) (h5 : ∀ j, j < 4 → (S.2.1 j).2.2.2.2.1 ≤ 5) (hj : j < 4) (hk : k ≤ 7) (hw : ((S.2.1 j).2.2.2.2.1 < 5 ∧ P ∧ S1 = xO S j (newO (va_up (S.2.1 j).1 (S.2.1 j).2.2.2.2.1 k) (va_up (S.2.1 j).2.1 (S.2.1 j).2.2.2.2.1 z) ((S.2.1 j).2.2.2.2.1 + 1) (S.2.1 j).2.2.1 (S.2.1 j).2.2.2.1)) ∨ (5 ≤ (S.2.1 j).2.2.2.2.1 ∧ r = -9 ∧ S1 = refT S)) : LQ S S1 := by
  rcases hw with ⟨h1, -, rfl⟩ | ⟨-, -, rfl⟩
  · exact LQ_newO hI h5 (by omega) (keys_up (hI.2 j (by omega)).1.2 (by omega))
  · exact LQ_ref hI h5
theorem LQ_unstep {P P2 : Prop} (hI : InvX S) (h5 : ∀ j, j < 4 → (S.2.1 j).2.2.2.2.1 ≤ 5) (hj : j < 4) (hw : (P ∧ P2 ∧ S1 = xO S j (newO ((S.2.1 j).1) ((S.2.1 j).2.1) ((S.2.1 j).2.2.2.2.1 - 1) (S.2.1 j).2.2.1 (S.2.1 j).2.2.2.1)) ∨ ((S.2.1 j).2.2.2.2.1 = 0 ∧ r = -9 ∧ S1 = refT S)) : LQ S S1 := by
  rcases hw with ⟨-, -, rfl⟩ | ⟨-, -, rfl⟩
  · exact LQ_newO hI h5 (by have := h5 j hj; omega) (hI.2 j (by omega)).1.2
  · exact LQ_ref hI h5
end LQs
theorem LQ_KR {S S1 : XS} (hI : InvX S) (h5 : ∀ j, j < 4 → (S.2.1 j).2.2.2.2.1 ≤ 5) (h : KR2 S S1) : LQ S S1 := by
  obtain ⟨h1, h2, h3⟩ := h
  refine ⟨⟨fun k hk => ?_, fun j hj => by rw [h1]; exact hI.2 j hj⟩, fun j hj => by rw [h1]; exact h5 j hj, by rw [h1]; exact Nat.le_add_right _ _, by rw [h1]; exact Nat.le_add_right _ _, by rw [h1]⟩
  by_cases e : k = 4
  · rw [e]; exact h3 (hI.1 4 (by omega))
  · rw [h2 k e]; exact hI.1 k hk

