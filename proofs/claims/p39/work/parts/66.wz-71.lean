section
/-! the answer that stands in the object of answers -/
def OCn (dC : Nat → ClassId) (dI : Nat → Nat → Nat) (o : Nat) (n : Int64) (H : Heap) : Prop := ∃ v : Value, (v = .null ∨ ∃ q, v = .ref q) ∧ va_P (dC, dI) vwCl [(o, .inr (7, [.long n, v]))] H
def PO2 (dC : Nat → ClassId) (dI : Nat → Nat → Nat) (ad : Nat → Nat) (o : Nat) (u : XS × Int64) (U : State) : Prop := PX dC dI ad u.1 U ∧ OCn dC dI o u.2 U.heap
theorem OCn.oc {dC : Nat → ClassId} {dI : Nat → Nat → Nat} {o : Nat} {n : Int64} {H : Heap} (h : OCn dC dI o n H) : OC dC dI o H := ⟨n, h⟩
theorem OCn.kept {dC : Nat → ClassId} {dI : Nat → Nat → Nat} {o : Nat} {n : Int64} {H H1 : Heap} (h : OCn dC dI o n H) (hk : H1[o]? = H[o]?) : OCn dC dI o n H1 := by
  obtain ⟨v, h1, h2⟩ := h
  refine ⟨v, h1, h2.kept (fun k q hq => ?_)⟩
  have h3 : k < 1 := (List.getElem?_eq_some_iff.mp hq).1
  obtain rfl : k = 0 := by omega
  cases hq
  exact hk
section KW3
variable {p : Program} {l : Launch} {e : Env} {R : Room} {s : State} {m : MethodId} {args : Array Value} {below : List Frame} {meth : Method} {c : Code} {H : Heap} {locs : List Loc} {cells slots : Nat} {Q : State → Prop}
variable {cc : ByteArray} {pc : Nat} {ls : Array Slot} {rest : List Value} {dC : Nat → ClassId} {dI : Nat → Nat → Nat} {ad : Nat → Nat} {o : Nat} {S : XS} {Ts : List Cond}
theorem kl_putn (hx : p.tables.exec = Jvm.exec) (hb : c.code = cc) {own : String} {index : Nat} (hts : ∀ w ∈ Ts, w.before args s = true) (hin : ∀ w ∈ u_ws RX5 TX5 2, w ∈ Ts) (hown : s.vm.findClass own = some m.cls) (hX : WX dC dI ad S (AO ad o) s H locs) (hO : OC dC dI o H) (hno : ¬ AX ad o)
    {host : String} (hlink : (Cond.fieldLinkNest own index RX5 "n" "J" host).before args s = true) {n : Int64} (hdg : decode cc pc = .ok (.putfield index, 3))
    (kk : ∀ (H1 : Heap) (locs1 : List Loc), WX dC dI ad S (AO ad o) s H1 locs1 → OCn dC dI o n H1 → W p l e R s m args below meth c H1 locs1 cells slots Q (F0 m (pc + 3) ls rest)) : W p l e R s m args below meth c H locs cells slots Q (F0 m pc ls (.long n :: .ref o :: rest)) := by
  obtain ⟨n0, v0, h0, hP0⟩ := hO
  refine va_putN (D := (dC, dI)) (ci := 7) (C := RX5) (T := TX5) (N := 2) (fs := [.long n0, v0]) hx hb hts hin tyX5 tyX5_ok nmX5 hown hX.2.1 (wo_P hX.1 hP0) (wo_D hX.2.2.1 hno) hX.2.2.2 60 (by rw [List.getElem?_append_right (by rw [wX_len]; exact Nat.le_refl _), wX_len]; rfl) rfl 0 (by decide) hlink (fun _ h => h) rfl (show parseFieldDescriptor (TX5 0).2.2.1 = some .long from rfl) (v := .long n) rfl rfl (by show (0 : Nat) < 2; decide) hdg (fun H1 locs1 h1 h2 h3 => ?_)
  rw [List.set_append_right _ _ (by rw [wX_len]; exact Nat.le_refl _), wX_len] at h1
  refine kk H1 locs1 ⟨fun i q hq => h1 i q (by rw [List.getElem?_append_left (by rw [wX_len]; exact (wX_in i q hq).1)]; exact hq), hX.2.1, hX.2.2.1, h3⟩ ?_
  have h4 : va_P (dC, dI) vwCl [(o, .inr (7, [Value.long n0, v0].set 0 (.long n)))] H1 := fun i q hq => h1 (60 + i) q (by rw [List.getElem?_append_right (by rw [wX_len]; omega), wX_len, Nat.add_sub_cancel_left]; exact hq)
  exact ⟨v0, h0, h4⟩
end KW3
/-! how each call ends -/
def R_put (x0 : Int32) (x1 : Int32) (S : XS) (r : Int32) (S1 : XS) (n : Int64) : Prop := ((x0 < 0 ∨ nI 3 ≤ x0) ∧ r = nI 1 ∧ S = S1) ∨ (∃ (i : Nat), i < 3 ∧ x0 = nI i ∧ (x1 < 0 ∨ nI 15 < x1) ∧ r = nI 2 ∧ S = S1) ∨ (∃ (i : Nat) (v : Nat) (r9 : Int32), i < 3 ∧ v < 16 ∧ x0 = nI i ∧ x1 = nI v ∧ r = nI 0 ∧ n = r9.toInt64 ∧ (fun (r : Int32) (S' : XS) => ((S.1 i).2.2 < 12 ∧ r = nI S.2.2.1 ∧ S' = placeT S i ((S.1 i).2.2) v) ∨ (12 ≤ (S.1 i).2.2 ∧ r = -9 ∧ S' = refT S)) r9 S1)
def R_putAt (x0 : Int32) (x1 : Int32) (x2 : Int32) (S : XS) (r : Int32) (S1 : XS) (n : Int64) : Prop := ((x0 < 0 ∨ nI 3 ≤ x0) ∧ r = nI 1 ∧ S = S1) ∨ (∃ (i : Nat), i < 3 ∧ x0 = nI i ∧ (x1 < 0 ∨ nI (S.1 i).2.2 < x1) ∧ r = nI 1 ∧ S = S1) ∨ (∃ (i : Nat) (q : Nat), i < 3 ∧ q ≤ (S.1 i).2.2 ∧ x0 = nI i ∧ x1 = nI q ∧ (x2 < 0 ∨ nI 15 < x2) ∧ r = nI 2 ∧ S = S1) ∨ (∃ (i : Nat) (q : Nat) (v : Nat) (r9 : Int32), i < 3 ∧ q ≤ (S.1 i).2.2 ∧ v < 16 ∧ x0 = nI i ∧ x1 = nI q ∧ x2 = nI v ∧ r = nI 0 ∧ n = r9.toInt64 ∧ (fun (r : Int32) (S' : XS) => ((S.1 i).2.2 < 12 ∧ r = nI S.2.2.1 ∧ S' = placeT S i q v) ∨ (12 ≤ (S.1 i).2.2 ∧ r = -9 ∧ S' = refT S)) r9 S1)
def R_fill (x0 : Int32) (x1 : Int32) (x2 : Int32) (x3 : Int32) (S : XS) (r : Int32) (S1 : XS) (n : Int64) : Prop := ((x0 < 0 ∨ nI 3 ≤ x0) ∧ r = nI 1 ∧ S = S1) ∨ (∃ (i : Nat), i < 3 ∧ x0 = nI i ∧ (x1 < 0 ∨ nI 12 < x1) ∧ r = nI 2 ∧ S = S1) ∨ (∃ (i : Nat) (k : Nat), i < 3 ∧ k ≤ 12 ∧ x0 = nI i ∧ x1 = nI k ∧ (x2 < 0 ∨ nI 99 < x2) ∧ r = nI 2 ∧ S = S1) ∨ (∃ (i : Nat) (k : Nat) (k2 : Nat), i < 3 ∧ k ≤ 12 ∧ k2 ≤ 99 ∧ x0 = nI i ∧ x1 = nI k ∧ x2 = nI k2 ∧ (x3 < 0 ∨ nI 99 < x3) ∧ r = nI 2 ∧ S = S1) ∨ (∃ (i : Nat) (k : Nat) (k2 : Nat) (k3 : Nat) (r9 : Int32), i < 3 ∧ k ≤ 12 ∧ k2 ≤ 99 ∧ k3 ≤ 99 ∧ x0 = nI i ∧ x1 = nI k ∧ x2 = nI k2 ∧ x3 = nI k3 ∧ r = nI 0 ∧ n = r9.toInt64 ∧ (fun (r : Int32) (S' : XS) => ((S.1 i).2.2 + k ≤ 12 ∧ r = nI ((S.1 i).2.2 + k) ∧ S' = xR (xN S (S.2.2.1 + k, S.2.2.2.1, S.2.2.2.2)) i (apn (S.1 i).1 (fun x => (k2 + x * k3) % 16) (S.1 i).2.2 k, apn (S.1 i).2.1 (fun x => S.2.2.1 + x) (S.1 i).2.2 k, (S.1 i).2.2 + k)) ∨ (12 < (S.1 i).2.2 + k ∧ r = -9 ∧ S' = refT S)) r9 S1)
def R_drop (x0 : Int32) (x1 : Int32) (S : XS) (r : Int32) (S1 : XS) (n : Int64) : Prop := ((x0 < 0 ∨ nI 3 ≤ x0) ∧ r = nI 1 ∧ S = S1) ∨ (∃ (i : Nat), i < 3 ∧ x0 = nI i ∧ (x1 < 0 ∨ nI (S.1 i).2.2 ≤ x1) ∧ r = nI 1 ∧ S = S1) ∨ (∃ (i : Nat) (q : Nat) (r9 : Int32), i < 3 ∧ q < (S.1 i).2.2 ∧ x0 = nI i ∧ x1 = nI q ∧ r = nI 0 ∧ n = r9.toInt64 ∧ (fun (r : Int32) (S' : XS) => r = nI ((S.1 i).2.1 q) ∧ S' = xR S i (shl (S.1 i).1 q ((S.1 i).2.2 - 1), shl (S.1 i).2.1 q ((S.1 i).2.2 - 1), (S.1 i).2.2 - 1)) r9 S1)
def R_clear (x0 : Int32) (S : XS) (r : Int32) (S1 : XS) (n : Int64) : Prop := ((x0 < 0 ∨ nI 3 ≤ x0) ∧ r = nI 1 ∧ S = S1) ∨ (∃ (i : Nat) (r9 : Int32), i < 3 ∧ x0 = nI i ∧ r = nI 0 ∧ n = r9.toInt64 ∧ (fun (r : Int32) (S' : XS) => r = nI (S.1 i).2.2 ∧ S' = xR S i ((S.1 i).1, (S.1 i).2.1, 0)) r9 S1)
def R_copyRow (x0 : Int32) (x1 : Int32) (S : XS) (r : Int32) (S1 : XS) (n : Int64) : Prop := ((x0 < 0 ∨ nI 3 ≤ x0) ∧ r = nI 1 ∧ S = S1) ∨ (∃ (i : Nat), i < 3 ∧ x0 = nI i ∧ (x1 < 0 ∨ nI 3 ≤ x1) ∧ r = nI 1 ∧ S = S1) ∨ (∃ (i : Nat) (i2 : Nat) (r9 : Int32), i < 3 ∧ i2 < 3 ∧ x0 = nI i ∧ x1 = nI i2 ∧ r = nI 0 ∧ n = r9.toInt64 ∧ (fun (r : Int32) (S' : XS) => r = nI (S.1 i).2.2 ∧ S' = xR S i2 (ovl (S.1 i).1 (S.1 i2).1 (S.1 i).2.2, ovl (S.1 i).2.1 (S.1 i2).2.1 (S.1 i).2.2, (S.1 i).2.2)) r9 S1)
def R_turnRow (x0 : Int32) (S : XS) (r : Int32) (S1 : XS) (n : Int64) : Prop := ((x0 < 0 ∨ nI 3 ≤ x0) ∧ r = nI 1 ∧ S = S1) ∨ (∃ (i : Nat) (r9 : Int32), i < 3 ∧ x0 = nI i ∧ r = nI 0 ∧ n = r9.toInt64 ∧ (fun (r : Int32) (S' : XS) => r = nI ((S.1 i).2.2 - (S.1 i).2.2 % 2) ∧ S' = xR S i (rev (S.1 i).1 (S.1 i).2.2 (S.1 i).2.2, rev (S.1 i).2.1 (S.1 i).2.2 (S.1 i).2.2, (S.1 i).2.2)) r9 S1)
def R_wheel (x0 : Int32) (y : Int32) (S : XS) (r : Int32) (S1 : XS) (n : Int64) : Prop := ((x0 < 0 ∨ nI 3 ≤ x0) ∧ r = nI 1 ∧ S = S1) ∨ (∃ (i : Nat) (r9 : Int32), i < 3 ∧ x0 = nI i ∧ r = nI 0 ∧ n = r9.toInt64 ∧ (fun (r : Int32) (S' : XS) => ((S.1 i).2.2 = 0 ∧ r = -1 ∧ S' = S) ∨ (0 < (S.1 i).2.2 ∧ ∃ (sh : Nat) (r4 r' : RowS), r = nI (r'.2.1 0) ∧ sh < (S.1 i).2.2 ∧ nI sh = fmv y (nI (S.1 i).2.2) ∧ S' = xR (xR S 4 r4) i r' ∧ rowOK r4 ∧ rowOK r' ∧ r'.2.2 = (S.1 i).2.2 ∧ (∀ x, x < (S.1 i).2.2 → r'.1 ((x + sh) % (S.1 i).2.2) = (S.1 i).1 x) ∧ ∀ x, x < (S.1 i).2.2 → r'.2.1 ((x + sh) % (S.1 i).2.2) = (S.1 i).2.1 x)) r9 S1)
def R_swap (x0 : Int32) (x1 : Int32) (x2 : Int32) (S : XS) (r : Int32) (S1 : XS) (n : Int64) : Prop := ((x0 < 0 ∨ nI 3 ≤ x0) ∧ r = nI 1 ∧ S = S1) ∨ (∃ (i : Nat), i < 3 ∧ x0 = nI i ∧ (x1 < 0 ∨ nI (S.1 i).2.2 ≤ x1) ∧ r = nI 1 ∧ S = S1) ∨ (∃ (i : Nat) (q : Nat), i < 3 ∧ q < (S.1 i).2.2 ∧ x0 = nI i ∧ x1 = nI q ∧ (x2 < 0 ∨ nI (S.1 i).2.2 ≤ x2) ∧ r = nI 1 ∧ S = S1) ∨ (∃ (i : Nat) (q : Nat) (q2 : Nat) (r9 : Int32), i < 3 ∧ q < (S.1 i).2.2 ∧ q2 < (S.1 i).2.2 ∧ x0 = nI i ∧ x1 = nI q ∧ x2 = nI q2 ∧ r = nI 0 ∧ n = r9.toInt64 ∧ (fun (r : Int32) (S' : XS) => r = (if xch (S.1 i).1 q q2 q = xch (S.1 i).1 q q2 q2 then 0 else 1) ∧ S' = xR S i (xch (S.1 i).1 q q2, xch (S.1 i).2.1 q q2, (S.1 i).2.2)) r9 S1)
def R_sort (x0 : Int32) (x1 : Int32) (x2 : Int32) (S : XS) (r : Int32) (S1 : XS) (n : Int64) : Prop := ((x0 < 0 ∨ nI 3 ≤ x0) ∧ r = nI 1 ∧ S = S1) ∨ (∃ (i : Nat), i < 3 ∧ x0 = nI i ∧ (x1 < 0 ∨ nI 4 ≤ x1) ∧ r = nI 1 ∧ S = S1) ∨ (∃ (i : Nat) (j : Nat), i < 3 ∧ j < 4 ∧ x0 = nI i ∧ x1 = nI j ∧ (x2 < 0 ∨ nI 2 < x2) ∧ r = nI 2 ∧ S = S1) ∨ (∃ (i : Nat) (j : Nat) (k : Nat) (r9 : Int32), i < 3 ∧ j < 4 ∧ k ≤ 2 ∧ x0 = nI i ∧ x1 = nI j ∧ x2 = nI k ∧ r = nI 0 ∧ n = r9.toInt64 ∧ (fun (r : Int32) (S' : XS) => r = nI (cntB (fun k => decide ((S'.1 i).2.1 k ≠ (S.1 i).2.1 k)) (S.1 i).2.2) ∧ sortA S S' i ∧ SP (S.2.1 j).2.2.1 ((S.1 i).1, (S.1 i).2.1) ((S'.1 i).1, (S'.1 i).2.1) 0 (S.1 i).2.2 ∧ srt (S.2.1 j).2.2.1 (S'.1 i).1 0 (S.1 i).2.2) r9 S1)
def R_sortPart (x0 : Int32) (x1 : Int32) (x2 : Int32) (x3 : Int32) (S : XS) (r : Int32) (S1 : XS) (n : Int64) : Prop := ((x0 < 0 ∨ nI 3 ≤ x0) ∧ r = nI 1 ∧ S = S1) ∨ (∃ (i : Nat), i < 3 ∧ x0 = nI i ∧ (x1 < 0 ∨ nI 4 ≤ x1) ∧ r = nI 1 ∧ S = S1) ∨ (∃ (i : Nat) (j : Nat), i < 3 ∧ j < 4 ∧ x0 = nI i ∧ x1 = nI j ∧ (x2 < 0 ∨ nI (S.1 i).2.2 < x2) ∧ r = nI 1 ∧ S = S1) ∨ (∃ (i : Nat) (j : Nat) (q : Nat), i < 3 ∧ j < 4 ∧ q ≤ (S.1 i).2.2 ∧ x0 = nI i ∧ x1 = nI j ∧ x2 = nI q ∧ (x3 < 0 ∨ nI (S.1 i).2.2 < x3) ∧ r = nI 1 ∧ S = S1) ∨ (∃ (i : Nat) (j : Nat) (q : Nat) (q2 : Nat), i < 3 ∧ j < 4 ∧ q ≤ (S.1 i).2.2 ∧ q2 ≤ (S.1 i).2.2 ∧ x0 = nI i ∧ x1 = nI j ∧ x2 = nI q ∧ x3 = nI q2 ∧ q2 < q ∧ r = nI 2 ∧ S = S1) ∨ (∃ (i : Nat) (j : Nat) (q : Nat) (q2 : Nat) (r9 : Int32), i < 3 ∧ j < 4 ∧ q ≤ (S.1 i).2.2 ∧ q2 ≤ (S.1 i).2.2 ∧ x0 = nI i ∧ x1 = nI j ∧ x2 = nI q ∧ x3 = nI q2 ∧ q ≤ q2 ∧ r = nI 0 ∧ n = r9.toInt64 ∧ (fun (r : Int32) (S' : XS) => r = nI (cntB (fun k => decide ((S'.1 i).2.1 k ≠ (S.1 i).2.1 k)) (S.1 i).2.2) ∧ sortA S S' i ∧ SP (S.2.1 j).2.2.1 ((S.1 i).1, (S.1 i).2.1) ((S'.1 i).1, (S'.1 i).2.1) q q2 ∧ srt (S.2.1 j).2.2.1 (S'.1 i).1 q q2) r9 S1)
def R_isSorted (x0 : Int32) (x1 : Int32) (S : XS) (r : Int32) (S1 : XS) (n : Int64) : Prop := ((x0 < 0 ∨ nI 3 ≤ x0) ∧ r = nI 1 ∧ S = S1) ∨ (∃ (i : Nat), i < 3 ∧ x0 = nI i ∧ (x1 < 0 ∨ nI 4 ≤ x1) ∧ r = nI 1 ∧ S = S1) ∨ (∃ (i : Nat) (j : Nat) (r9 : Int32), i < 3 ∧ j < 4 ∧ x0 = nI i ∧ x1 = nI j ∧ r = nI 0 ∧ n = (if r9 = 0 then lN 0 else lN 1) ∧ (fun (r : Int32) => r = bI (seqB (S.2.1 j).2.2.1 (S.1 i).1 (S.1 i).2.2)) r9 ∧ S1 = S)
def R_size (x0 : Int32) (S : XS) (r : Int32) (S1 : XS) (n : Int64) : Prop := ((x0 < 0 ∨ nI 3 ≤ x0) ∧ r = nI 1 ∧ S = S1) ∨ (∃ (i : Nat) (r9 : Int32), i < 3 ∧ x0 = nI i ∧ r = nI 0 ∧ n = r9.toInt64 ∧ (fun (r : Int32) => r = nI (S.1 i).2.2) r9 ∧ S1 = S)
def R_valueAt (x0 : Int32) (x1 : Int32) (S : XS) (r : Int32) (S1 : XS) (n : Int64) : Prop := ((x0 < 0 ∨ nI 3 ≤ x0) ∧ r = nI 1 ∧ S = S1) ∨ (∃ (i : Nat), i < 3 ∧ x0 = nI i ∧ (x1 < 0 ∨ nI (S.1 i).2.2 ≤ x1) ∧ r = nI 1 ∧ S = S1) ∨ (∃ (i : Nat) (q : Nat) (r9 : Int32), i < 3 ∧ q < (S.1 i).2.2 ∧ x0 = nI i ∧ x1 = nI q ∧ r = nI 0 ∧ n = r9.toInt64 ∧ (fun (r : Int32) => r = nI ((S.1 i).1 q)) r9 ∧ S1 = S)
def R_markAt (x0 : Int32) (x1 : Int32) (S : XS) (r : Int32) (S1 : XS) (n : Int64) : Prop := ((x0 < 0 ∨ nI 3 ≤ x0) ∧ r = nI 1 ∧ S = S1) ∨ (∃ (i : Nat), i < 3 ∧ x0 = nI i ∧ (x1 < 0 ∨ nI (S.1 i).2.2 ≤ x1) ∧ r = nI 1 ∧ S = S1) ∨ (∃ (i : Nat) (q : Nat) (r9 : Int32), i < 3 ∧ q < (S.1 i).2.2 ∧ x0 = nI i ∧ x1 = nI q ∧ r = nI 0 ∧ n = r9.toInt64 ∧ (fun (r : Int32) => r = nI ((S.1 i).2.1 q)) r9 ∧ S1 = S)
def R_text (x0 : Int32) (S : XS) (r : Int32) (S1 : XS) (n : Int64) : Prop := ((x0 < 0 ∨ nI 3 ≤ x0) ∧ r = nI 1 ∧ S = S1) ∨ (∃ (i : Nat), i < 3 ∧ x0 = nI i ∧ r = nI 0 ∧ (fun S1 : XS => S1 = S) S1)
def R_extreme (x0 : Int32) (x1 : Int32) (z : Bool) (S : XS) (r : Int32) (S1 : XS) (n : Int64) : Prop := ((x0 < 0 ∨ nI 3 ≤ x0) ∧ r = nI 1 ∧ S = S1) ∨ (∃ (i : Nat), i < 3 ∧ x0 = nI i ∧ (x1 < 0 ∨ nI 4 ≤ x1) ∧ r = nI 1 ∧ S = S1) ∨ (∃ (i : Nat) (j : Nat) (r9 : Int32), i < 3 ∧ j < 4 ∧ x0 = nI i ∧ x1 = nI j ∧ r = nI 0 ∧ n = r9.toInt64 ∧ (fun (r : Int32) => r = exI (if z then bestB (fun _ => true) (fun a b => decide ((S.2.1 j).2.2.1 ((S.1 i).1 b) < (S.2.1 j).2.2.1 ((S.1 i).1 a))) (S.1 i).2.2 else bestB (fun _ => true) (fun a b => decide ((S.2.1 j).2.2.1 ((S.1 i).1 a) < (S.2.1 j).2.2.1 ((S.1 i).1 b))) (S.1 i).2.2) (fun b => (S.2.1 j).2.2.2.1 ((S.1 i).1 b))) r9 ∧ S1 = S)
def R_search (x0 : Int32) (x1 : Int32) (x2 : Int32) (S : XS) (r : Int32) (S1 : XS) (n : Int64) : Prop := ((x0 < 0 ∨ nI 3 ≤ x0) ∧ r = nI 1 ∧ S = S1) ∨ (∃ (i : Nat), i < 3 ∧ x0 = nI i ∧ (x1 < 0 ∨ nI 4 ≤ x1) ∧ r = nI 1 ∧ S = S1) ∨ (∃ (i : Nat) (j : Nat), i < 3 ∧ j < 4 ∧ x0 = nI i ∧ x1 = nI j ∧ (x2 < 0 ∨ nI 15 < x2) ∧ r = nI 2 ∧ S = S1) ∨ (∃ (i : Nat) (j : Nat) (v : Nat) (r9 : Int32), i < 3 ∧ j < 4 ∧ v < 16 ∧ x0 = nI i ∧ x1 = nI j ∧ x2 = nI v ∧ r = nI 0 ∧ n = r9.toInt64 ∧ (fun (r : Int32) (S' : XS) => (seqB (S.2.1 j).2.2.1 (S.1 i).1 (S.1 i).2.2 = false ∧ r = -9 ∧ S' = refT S) ∨ (seqB (S.2.1 j).2.2.1 (S.1 i).1 (S.1 i).2.2 = true ∧ r = (if ∃ k, k < (S.1 i).2.2 ∧ (S.2.1 j).2.2.1 ((S.1 i).1 k) = (S.2.1 j).2.2.1 v then 16 else nI (cntB (fun k => decide ((S.2.1 j).2.2.1 ((S.1 i).1 k) < (S.2.1 j).2.2.1 v)) (S.1 i).2.2)) ∧ S' = S)) r9 S1)
def R_near (x0 : Int32) (x1 : Int32) (x2 : Int32) (x3 : Int32) (S : XS) (r : Int32) (S1 : XS) (n : Int64) : Prop := ((x0 < 0 ∨ nI 3 ≤ x0) ∧ r = nI 1 ∧ S = S1) ∨ (∃ (i : Nat), i < 3 ∧ x0 = nI i ∧ (x1 < 0 ∨ nI 4 ≤ x1) ∧ r = nI 1 ∧ S = S1) ∨ (∃ (i : Nat) (j : Nat), i < 3 ∧ j < 4 ∧ x0 = nI i ∧ x1 = nI j ∧ (x2 < 0 ∨ nI 15 < x2) ∧ r = nI 2 ∧ S = S1) ∨ (∃ (i : Nat) (j : Nat) (v : Nat), i < 3 ∧ j < 4 ∧ v < 16 ∧ x0 = nI i ∧ x1 = nI j ∧ x2 = nI v ∧ (x3 < 0 ∨ nI 3 < x3) ∧ r = nI 2 ∧ S = S1) ∨ (∃ (i : Nat) (j : Nat) (v : Nat) (k : Nat) (r9 : Int32), i < 3 ∧ j < 4 ∧ v < 16 ∧ k ≤ 3 ∧ x0 = nI i ∧ x1 = nI j ∧ x2 = nI v ∧ x3 = nI k ∧ r = nI 0 ∧ n = r9.toInt64 ∧ (fun (r : Int32) => r = exI (bestB (fun x => sideB k ((S.2.1 j).2.2.1 ((S.1 i).1 x)) ((S.2.1 j).2.2.1 v)) (fun a b => nearB k ((S.2.1 j).2.2.1 ((S.1 i).1 a)) ((S.2.1 j).2.2.1 ((S.1 i).1 b))) (S.1 i).2.2) (S.1 i).2.1) r9 ∧ S1 = S)
def R_kinds (x0 : Int32) (x1 : Int32) (S : XS) (r : Int32) (S1 : XS) (n : Int64) : Prop := ((x0 < 0 ∨ nI 3 ≤ x0) ∧ r = nI 1 ∧ S = S1) ∨ (∃ (i : Nat), i < 3 ∧ x0 = nI i ∧ (x1 < 0 ∨ nI 4 ≤ x1) ∧ r = nI 1 ∧ S = S1) ∨ (∃ (i : Nat) (j : Nat) (r9 : Int32), i < 3 ∧ j < 4 ∧ x0 = nI i ∧ x1 = nI j ∧ r = nI 0 ∧ n = r9.toInt64 ∧ (fun (r : Int32) => r = nI (cntB (firstB (S.2.1 j).2.2.1 (S.1 i).1) (S.1 i).2.2)) r9 ∧ S1 = S)
def R_ahead (x0 : Int32) (x1 : Int32) (x2 : Int32) (S : XS) (r : Int32) (S1 : XS) (n : Int64) : Prop := ((x0 < 0 ∨ nI 3 ≤ x0) ∧ r = nI 1 ∧ S = S1) ∨ (∃ (i : Nat), i < 3 ∧ x0 = nI i ∧ (x1 < 0 ∨ nI 4 ≤ x1) ∧ r = nI 1 ∧ S = S1) ∨ (∃ (i : Nat) (j : Nat), i < 3 ∧ j < 4 ∧ x0 = nI i ∧ x1 = nI j ∧ (x2 < 0 ∨ nI 15 < x2) ∧ r = nI 2 ∧ S = S1) ∨ (∃ (i : Nat) (j : Nat) (v : Nat) (r9 : Int32), i < 3 ∧ j < 4 ∧ v < 16 ∧ x0 = nI i ∧ x1 = nI j ∧ x2 = nI v ∧ r = nI 0 ∧ n = r9.toInt64 ∧ (fun (r : Int32) => r = nI (cntB (fun k => firstB (S.2.1 j).2.2.1 (S.1 i).1 k && decide ((S.2.1 j).2.2.1 ((S.1 i).1 k) < (S.2.1 j).2.2.1 v)) (S.1 i).2.2)) r9 ∧ S1 = S)
def R_groups (x0 : Int32) (x1 : Int32) (S : XS) (r : Int32) (S1 : XS) (n : Int64) : Prop := ((x0 < 0 ∨ nI 3 ≤ x0) ∧ r = nI 1 ∧ S = S1) ∨ (∃ (i : Nat), i < 3 ∧ x0 = nI i ∧ (x1 < 0 ∨ nI 4 ≤ x1) ∧ r = nI 1 ∧ S = S1) ∨ (∃ (i : Nat) (j : Nat), i < 3 ∧ j < 4 ∧ x0 = nI i ∧ x1 = nI j ∧ r = nI 0 ∧ (fun S1 : XS => S1 = S) S1)
def R_ranks (x0 : Int32) (x1 : Int32) (z : Bool) (S : XS) (r : Int32) (S1 : XS) (n : Int64) : Prop := ((x0 < 0 ∨ nI 3 ≤ x0) ∧ r = nI 1 ∧ S = S1) ∨ (∃ (i : Nat), i < 3 ∧ x0 = nI i ∧ (x1 < 0 ∨ nI 4 ≤ x1) ∧ r = nI 1 ∧ S = S1) ∨ (∃ (i : Nat) (j : Nat), i < 3 ∧ j < 4 ∧ x0 = nI i ∧ x1 = nI j ∧ r = nI 0 ∧ (fun S1 : XS => KR2 S S1) S1)
def R_step (x0 : Int32) (x1 : Int32) (z : Bool) (S : XS) (r : Int32) (S1 : XS) (n : Int64) : Prop := ((x0 < 0 ∨ nI 4 ≤ x0) ∧ r = nI 1 ∧ S = S1) ∨ (∃ (j : Nat), j < 4 ∧ x0 = nI j ∧ (x1 < 0 ∨ nI 7 < x1) ∧ r = nI 2 ∧ S = S1) ∨ (∃ (j : Nat) (k : Nat) (r9 : Int32), j < 4 ∧ k ≤ 7 ∧ x0 = nI j ∧ x1 = nI k ∧ r = nI 0 ∧ n = r9.toInt64 ∧ (fun (r : Int32) (S' : XS) => ((S.2.1 j).2.2.2.2.1 < 5 ∧ r = nI (coarseD (S.2.1 j) k z) ∧ S' = xO S j (newO (va_up (S.2.1 j).1 (S.2.1 j).2.2.2.2.1 k) (va_up (S.2.1 j).2.1 (S.2.1 j).2.2.2.2.1 z) ((S.2.1 j).2.2.2.2.1 + 1) (S.2.1 j).2.2.1 (S.2.1 j).2.2.2.1)) ∨ (5 ≤ (S.2.1 j).2.2.2.2.1 ∧ r = -9 ∧ S' = refT S)) r9 S1)
def R_unstep (x0 : Int32) (S : XS) (r : Int32) (S1 : XS) (n : Int64) : Prop := ((x0 < 0 ∨ nI 4 ≤ x0) ∧ r = nI 1 ∧ S = S1) ∨ (∃ (j : Nat) (r9 : Int32), j < 4 ∧ x0 = nI j ∧ r = nI 0 ∧ n = r9.toInt64 ∧ (fun (r : Int32) (S' : XS) => ((S.2.1 j).2.2.2.2.1 ≠ 0 ∧ r = nI ((S.2.1 j).1 ((S.2.1 j).2.2.2.2.1 - 1)) ∧ S' = xO S j (newO ((S.2.1 j).1) ((S.2.1 j).2.1) ((S.2.1 j).2.2.2.2.1 - 1) (S.2.1 j).2.2.1 (S.2.1 j).2.2.2.1)) ∨ ((S.2.1 j).2.2.2.2.1 = 0 ∧ r = -9 ∧ S' = refT S)) r9 S1)
def R_wipe (x0 : Int32) (S : XS) (r : Int32) (S1 : XS) (n : Int64) : Prop := ((x0 < 0 ∨ nI 4 ≤ x0) ∧ r = nI 1 ∧ S = S1) ∨ (∃ (j : Nat) (r9 : Int32), j < 4 ∧ x0 = nI j ∧ r = nI 0 ∧ n = r9.toInt64 ∧ (fun (r : Int32) (S' : XS) => r = nI (S.2.1 j).2.2.2.2.1 ∧ S' = xO S j (newO ((S.2.1 j).1) ((S.2.1 j).2.1) (0) (S.2.1 j).2.2.1 (S.2.1 j).2.2.2.1)) r9 S1)
def R_copyOrder (x0 : Int32) (x1 : Int32) (S : XS) (r : Int32) (S1 : XS) (n : Int64) : Prop := ((x0 < 0 ∨ nI 4 ≤ x0) ∧ r = nI 1 ∧ S = S1) ∨ (∃ (j : Nat), j < 4 ∧ x0 = nI j ∧ (x1 < 0 ∨ nI 4 ≤ x1) ∧ r = nI 1 ∧ S = S1) ∨ (∃ (j : Nat) (j2 : Nat) (r9 : Int32), j < 4 ∧ j2 < 4 ∧ x0 = nI j ∧ x1 = nI j2 ∧ r = nI 0 ∧ n = r9.toInt64 ∧ (fun (r : Int32) (S' : XS) => r = nI (S.2.1 j).2.2.2.2.1 ∧ S' = xO S j2 (newO (apn (S.2.1 j2).1 (S.2.1 j).1 0 (S.2.1 j).2.2.2.2.1) (apn (S.2.1 j2).2.1 (S.2.1 j).2.1 0 (S.2.1 j).2.2.2.2.1) (S.2.1 j).2.2.2.2.1 (S.2.1 j2).2.2.1 (S.2.1 j2).2.2.2.1)) r9 S1)
def R_turn (x0 : Int32) (S : XS) (r : Int32) (S1 : XS) (n : Int64) : Prop := ((x0 < 0 ∨ nI 4 ≤ x0) ∧ r = nI 1 ∧ S = S1) ∨ (∃ (j : Nat) (r9 : Int32), j < 4 ∧ x0 = nI j ∧ r = nI 0 ∧ n = r9.toInt64 ∧ (fun (r : Int32) (S' : XS) => r = nI (cntB (ovl (fun k => !(S.2.1 j).2.1 k) (S.2.1 j).2.1 (S.2.1 j).2.2.2.2.1) (S.2.1 j).2.2.2.2.1) ∧ S' = xO S j (newO ((S.2.1 j).1) (ovl (fun k => !(S.2.1 j).2.1 k) (S.2.1 j).2.1 (S.2.1 j).2.2.2.2.1) ((S.2.1 j).2.2.2.2.1) (S.2.1 j).2.2.1 (S.2.1 j).2.2.2.1)) r9 S1)
def R_product (x0 : Int32) (x1 : Int32) (x2 : Int32) (S : XS) (r : Int32) (S1 : XS) (n : Int64) : Prop := ((x0 < 0 ∨ nI 4 ≤ x0) ∧ r = nI 1 ∧ S = S1) ∨ (∃ (j : Nat), j < 4 ∧ x0 = nI j ∧ (x1 < 0 ∨ nI 4 ≤ x1) ∧ r = nI 1 ∧ S = S1) ∨ (∃ (j : Nat) (j2 : Nat), j < 4 ∧ j2 < 4 ∧ x0 = nI j ∧ x1 = nI j2 ∧ (x2 < 0 ∨ nI 4 ≤ x2) ∧ r = nI 1 ∧ S = S1) ∨ (∃ (j : Nat) (j2 : Nat) (j3 : Nat) (r9 : Int32), j < 4 ∧ j2 < 4 ∧ j3 < 4 ∧ x0 = nI j ∧ x1 = nI j2 ∧ x2 = nI j3 ∧ r = nI 0 ∧ n = r9.toInt64 ∧ (fun (r : Int32) (S' : XS) => ((S.2.1 j).2.2.2.2.1 + (S.2.1 j2).2.2.2.2.1 ≤ 5 ∧ r = nI (copyO (S.2.1 j3) (prodO S j j2)).2.2.2.2.2 ∧ S' = xO (xO S 4 (prodO S j j2)) j3 (copyO (S.2.1 j3) (prodO S j j2))) ∨ (5 < (S.2.1 j).2.2.2.2.1 + (S.2.1 j2).2.2.2.2.1 ∧ r = -9 ∧ S' = refT S)) r9 S1)
def R_tellApart (x0 : Int32) (x1 : Int32) (x2 : Int32) (S : XS) (r : Int32) (S1 : XS) (n : Int64) : Prop := ((x0 < 0 ∨ nI 4 ≤ x0) ∧ r = nI 1 ∧ S = S1) ∨ (∃ (j : Nat), j < 4 ∧ x0 = nI j ∧ (x1 < 0 ∨ nI 15 < x1) ∧ r = nI 2 ∧ S = S1) ∨ (∃ (j : Nat) (v : Nat), j < 4 ∧ v < 16 ∧ x0 = nI j ∧ x1 = nI v ∧ (x2 < 0 ∨ nI 15 < x2) ∧ r = nI 2 ∧ S = S1) ∨ (∃ (j : Nat) (v : Nat) (v2 : Nat) (r9 : Int32), j < 4 ∧ v < 16 ∧ v2 < 16 ∧ x0 = nI j ∧ x1 = nI v ∧ x2 = nI v2 ∧ r = nI 0 ∧ n = r9.toInt64 ∧ (fun (r : Int32) (S' : XS) => (v ≠ v2 ∧ (S.2.1 j).2.2.1 v = (S.2.1 j).2.2.1 v2 ∧ (S.2.1 j).2.2.2.2.1 < 5 ∧ r = nI (coarse (coarseC (S.2.1 j)) (keyApart v v2) 8).2 ∧ ∃ o4, ordOK o4 ∧ S' = xO (xO S 4 o4) j (newO (va_up (S.2.1 j).1 (S.2.1 j).2.2.2.2.1 (coarse (coarseC (S.2.1 j)) (keyApart v v2) 8).2) (va_up (S.2.1 j).2.1 (S.2.1 j).2.2.2.2.1 false) ((S.2.1 j).2.2.2.2.1 + 1) (S.2.1 j).2.2.1 (S.2.1 j).2.2.2.1)) ∨ ((v = v2 ∨ (S.2.1 j).2.2.1 v ≠ (S.2.1 j).2.2.1 v2 ∨ 5 ≤ (S.2.1 j).2.2.2.2.1) ∧ r = -9 ∧ S' = refT S)) r9 S1)
def R_orderText (x0 : Int32) (S : XS) (r : Int32) (S1 : XS) (n : Int64) : Prop := ((x0 < 0 ∨ nI 4 ≤ x0) ∧ r = nI 1 ∧ S = S1) ∨ (∃ (j : Nat), j < 4 ∧ x0 = nI j ∧ r = nI 0 ∧ (fun S1 : XS => S1 = S) S1)
def R_compare (x0 : Int32) (x1 : Int32) (x2 : Int32) (S : XS) (r : Int32) (S1 : XS) (n : Int64) : Prop := ((x0 < 0 ∨ nI 4 ≤ x0) ∧ r = nI 1 ∧ S = S1) ∨ (∃ (j : Nat), j < 4 ∧ x0 = nI j ∧ (x1 < 0 ∨ nI 15 < x1) ∧ r = nI 2 ∧ S = S1) ∨ (∃ (j : Nat) (v : Nat), j < 4 ∧ v < 16 ∧ x0 = nI j ∧ x1 = nI v ∧ (x2 < 0 ∨ nI 15 < x2) ∧ r = nI 2 ∧ S = S1) ∨ (∃ (j : Nat) (v : Nat) (v2 : Nat) (r9 : Int32), j < 4 ∧ v < 16 ∧ v2 < 16 ∧ x0 = nI j ∧ x1 = nI v ∧ x2 = nI v2 ∧ r = nI 0 ∧ n = r9.toInt64 ∧ (fun (r : Int32) => r = cmpI ((S.2.1 j).2.2.1 v) ((S.2.1 j).2.2.1 v2)) r9 ∧ S1 = S)
def R_both (x0 : Int32) (x1 : Int32) (x2 : Int32) (x3 : Int32) (S : XS) (r : Int32) (S1 : XS) (n : Int64) : Prop := ((x0 < 0 ∨ nI 4 ≤ x0) ∧ r = nI 1 ∧ S = S1) ∨ (∃ (j : Nat), j < 4 ∧ x0 = nI j ∧ (x1 < 0 ∨ nI 4 ≤ x1) ∧ r = nI 1 ∧ S = S1) ∨ (∃ (j : Nat) (j2 : Nat), j < 4 ∧ j2 < 4 ∧ x0 = nI j ∧ x1 = nI j2 ∧ (x2 < 0 ∨ nI 15 < x2) ∧ r = nI 2 ∧ S = S1) ∨ (∃ (j : Nat) (j2 : Nat) (v : Nat), j < 4 ∧ j2 < 4 ∧ v < 16 ∧ x0 = nI j ∧ x1 = nI j2 ∧ x2 = nI v ∧ (x3 < 0 ∨ nI 15 < x3) ∧ r = nI 2 ∧ S = S1) ∨ (∃ (j : Nat) (j2 : Nat) (v : Nat) (v2 : Nat) (r9 : Int32), j < 4 ∧ j2 < 4 ∧ v < 16 ∧ v2 < 16 ∧ x0 = nI j ∧ x1 = nI j2 ∧ x2 = nI v ∧ x3 = nI v2 ∧ r = nI 0 ∧ n = r9.toInt64 ∧ (fun (r : Int32) => r = bothI ((S.2.1 j).2.2.1 v) ((S.2.1 j).2.2.1 v2) ((S.2.1 j2).2.2.1 v) ((S.2.1 j2).2.2.1 v2)) r9 ∧ S1 = S)
def R_refines (x0 : Int32) (x1 : Int32) (S : XS) (r : Int32) (S1 : XS) (n : Int64) : Prop := ((x0 < 0 ∨ nI 4 ≤ x0) ∧ r = nI 1 ∧ S = S1) ∨ (∃ (j : Nat), j < 4 ∧ x0 = nI j ∧ (x1 < 0 ∨ nI 4 ≤ x1) ∧ r = nI 1 ∧ S = S1) ∨ (∃ (j : Nat) (j2 : Nat) (r9 : Int32), j < 4 ∧ j2 < 4 ∧ x0 = nI j ∧ x1 = nI j2 ∧ r = nI 0 ∧ n = (if r9 = 0 then lN 0 else lN 1) ∧ (fun (r : Int32) => r = bI (finerB (S.2.1 j).2.2.1 (S.2.1 j2).2.2.1)) r9 ∧ S1 = S)
def R_areSame (x0 : Int32) (x1 : Int32) (S : XS) (r : Int32) (S1 : XS) (n : Int64) : Prop := ((x0 < 0 ∨ nI 4 ≤ x0) ∧ r = nI 1 ∧ S = S1) ∨ (∃ (j : Nat), j < 4 ∧ x0 = nI j ∧ (x1 < 0 ∨ nI 4 ≤ x1) ∧ r = nI 1 ∧ S = S1) ∨ (∃ (j : Nat) (j2 : Nat) (r9 : Int32), j < 4 ∧ j2 < 4 ∧ x0 = nI j ∧ x1 = nI j2 ∧ r = nI 0 ∧ n = (if r9 = 0 then lN 0 else lN 1) ∧ (fun (r : Int32) => r = bI (likeB (S.2.1 j).2.2.1 (S.2.1 j2).2.2.1)) r9 ∧ S1 = S)
def R_apart (x0 : Int32) (x1 : Int32) (S : XS) (r : Int32) (S1 : XS) (n : Int64) : Prop := ((x0 < 0 ∨ nI 4 ≤ x0) ∧ r = nI 1 ∧ S = S1) ∨ (∃ (j : Nat), j < 4 ∧ x0 = nI j ∧ (x1 < 0 ∨ nI 4 ≤ x1) ∧ r = nI 1 ∧ S = S1) ∨ (∃ (j : Nat) (j2 : Nat) (r9 : Int32), j < 4 ∧ j2 < 4 ∧ x0 = nI j ∧ x1 = nI j2 ∧ r = nI 0 ∧ n = r9.toInt64 ∧ (fun (r : Int32) => r = nI (apartN (S.2.1 j).2.2.1 (S.2.1 j2).2.2.1)) r9 ∧ S1 = S)
def R_classes (x0 : Int32) (S : XS) (r : Int32) (S1 : XS) (n : Int64) : Prop := ((x0 < 0 ∨ nI 4 ≤ x0) ∧ r = nI 1 ∧ S = S1) ∨ (∃ (j : Nat) (r9 : Int32), j < 4 ∧ x0 = nI j ∧ r = nI 0 ∧ n = r9.toInt64 ∧ (fun (r : Int32) => r = nI (S.2.1 j).2.2.2.2.2) r9 ∧ S1 = S)
def R_rank (x0 : Int32) (x1 : Int32) (S : XS) (r : Int32) (S1 : XS) (n : Int64) : Prop := ((x0 < 0 ∨ nI 4 ≤ x0) ∧ r = nI 1 ∧ S = S1) ∨ (∃ (j : Nat), j < 4 ∧ x0 = nI j ∧ (x1 < 0 ∨ nI 15 < x1) ∧ r = nI 2 ∧ S = S1) ∨ (∃ (j : Nat) (v : Nat) (r9 : Int32), j < 4 ∧ v < 16 ∧ x0 = nI j ∧ x1 = nI v ∧ r = nI 0 ∧ n = r9.toInt64 ∧ (fun (r : Int32) => r = nI ((S.2.1 j).2.2.2.1 v)) r9 ∧ S1 = S)
def R_keyOf (x0 : Int32) (x1 : Int32) (S : XS) (r : Int32) (S1 : XS) (n : Int64) : Prop := ((x0 < 0 ∨ nI 7 < x0) ∧ r = nI 1 ∧ S = S1) ∨ (∃ (k : Nat), k ≤ 7 ∧ x0 = nI k ∧ (x1 < 0 ∨ nI 15 < x1) ∧ r = nI 1 ∧ S = S1) ∨ (∃ (k : Nat) (v : Nat) (r9 : Int32), k ≤ 7 ∧ v < 16 ∧ x0 = nI k ∧ x1 = nI v ∧ r = nI 0 ∧ n = r9.toInt64 ∧ (fun (r : Int32) => r = nI (numK k v)) r9 ∧ S1 = S)
def R_house (x0 : Int32) (S : XS) (r : Int32) (S1 : XS) (n : Int64) : Prop := ((x0 < 0 ∨ nI 4 < x0) ∧ r = nI 1 ∧ S = S1) ∨ (∃ (k : Nat) (r9 : Int32), k ≤ 4 ∧ x0 = nI k ∧ r = nI 0 ∧ n = r9.toInt64 ∧ (fun (r : Int32) => r = nI (countX S k)) r9 ∧ S1 = S)
end
section
set_option maxHeartbeats 4000000 in
set_option maxRecDepth 100000 in
theorem m_L_put (l : Launch) (hst : l.stackTraces = false) (dC : Nat → ClassId) (dI : Nat → Nat → Nat) (cB : ClassId) (ad : Nat → Nat) (o : Nat) (S : XS) (x0 : Int32) (x1 : Int32) (hI : InvX S) (h5 : ∀ j, j < 4 → (S.2.1 j).2.2.2.2.1 ≤ 5) (hc : S.2.2.1 + 12 < 1000000) : Met l yL_put wsL_put ({ frames := 9, cells := 1, slots := 6, locals := 146 } : Room) (va_Pc [.ref (ad 57), .int x0, .int x1, .ref o] (PW dC dI cB ad o S)) (va_Qi (fun r (u : XS × Int64) => LQ S u.1 ∧ R_put x0 x1 S r u.1 u.2) (PO2 dC dI ad o) (AO ad o)) 1 6 (AO ad o) := by
  refine va_MetW (cc := cL_put) (maxL := 5) (ret := (some .int)) pl_L rfl ?_
  intro p e s m args below meth c s₁ B hml hv
  obtain ⟨rfl, hPW⟩ := hv
  have hx := B.exec
  have hb := B.bytes
  have hr := B.returns
  have hts := atoms_spec (ws := wsL_put) B.pre
  have htab := vx_table (x := yL_put) B (hts (.codeWith yL_put cL_put 5 (some .int) [(0, 11, 14, 19), (0, 11, 18, 21)]) (by unfold wsL_put; exact List.mem_cons_self))
  have hown : s.vm.findClass RL = some m.cls := findClass_of_methodNamed B.named
  have hlocks := B.notSynchronized
  have hin5 : ∀ w ∈ u_ws RX5 TX5 2, w ∈ wsL_put := tu 1332 (by decide +kernel) rfl
  have hX := WX.ofW hPW
  have hO := hPW.2.2.1
  have hno := hPW.2.2.2.1
  have hl := lv_entry ([.ref (ad 57), .int x0, .int x1, .ref o]) (n := 5) (Nat.le_of_ble_eq_true rfl)
  rw [lg_entry_eq]
  generalize (lg_sl ([.ref (ad 57), .int x0, .int x1, .ref o]) ++ List.replicate (5 - (lg_sl ([.ref (ad 57), .int x0, .int x1, .ref o])).length) Slot.unset).toArray = ls at hl ⊢
  have hl : lv_has ls 5 [(0, .ref (ad 57)), (1, .int x0), (2, .int x1), (3, .ref o)] := hl
  show W p l e ({ frames := 9, cells := 1, slots := 6, locals := 146 } : Room) s m ([.ref (ad 57), .int x0, .int x1, .ref o]).toArray below meth c s.heap [] 0 0 (MQ below (va_Qi (fun r (u : XS × Int64) => LQ S u.1 ∧ R_put x0 x1 S r u.1 u.2) (PO2 dC dI ad o) (AO ad o)) ([.ref (ad 57), .int x0, .int x1, .ref o]).toArray s 1 6 (AO ad o)) (F0 m 0 ls [])
  refine lv_aload_n hx hb dL_put_0 rfl (lv_at hl 3 rfl) ?_
  refine lv_aload_n hx hb dL_put_1 rfl (lv_at hl 0 rfl) ?_
  refine lv_iload_n hx hb dL_put_2 rfl (lv_at hl 1 rfl) ?_
  refine lv_iload_n hx hb dL_put_3 rfl (lv_at hl 2 rfl) ?_
  rcases lim_lt 3 (by decide) x0 with ⟨i, hi, rfl⟩ | hb9
  rotate_left
  · skip
    refine kl_throw (vx_runV (As := [.int x0, .int x1]) (rest := [.ref o]) ⟨hx, hb, hml, hown, hts⟩ (t_X4_put_1 l hst dC dI ad S x0 x1 hb9) (cwV 2 hts gL_put_X4_put rfl rfl rfl hdX4_put_2 ⟨Nat.le_of_ble_eq_true rfl, Nat.le_of_ble_eq_true rfl⟩) hPW.1.preX rfl rfl hl.1 rfl (lv_room (Nat.le_of_ble_eq_true rfl)) dL_put_4 ⟨Nat.le_of_ble_eq_true rfl, Nat.le_of_ble_eq_true rfl⟩) hX hO (fun ce q9 H hce1 hce2 hce3 hX hO => ?_)
    refine vx_catch hown [] ⟨0, 11, 14, 19⟩ [⟨0, 11, 18, 21⟩] (htab.trans rfl) (fun _ h => nomatch h) rfl (by decide) (hts (.classLink RL 19 IX) (tm 830 (by decide +kernel) rfl)) (va_Nw.use rfl hPW.1.2.1.2.1.1) hce1 hce2 hce3 ?_
    refine lv_astore (lv' := [(4, .ref q9), (0, .ref (ad 57)), (1, .int x0), (2, .int x1), (3, .ref o)]) hx hb dL_put_14 hl (by decide) rfl (fun ls hl => ?_)
    refine lv_iconst (v := nI 1) hx hb dL_put_16 (by decide) ?_
    obtain ⟨n9, hN⟩ := hO
    exact W.widen (k := 1) (n := 6) (by simp) (by simp) (W.iret (v := nI 1) hx hb hr (fun t9 ht9 hW9 => ⟨⟨_, (S, n9), rfl, ⟨LQ_same hI h5, (Or.inl ⟨hb9, rfl, rfl⟩)⟩, hX.P ht9 hW9, by rw [ht9]; exact hN⟩, hX.2.2.2.F ht9⟩) hX.2.2.2.2.2 dL_put_17)
  replace hi : i < 3 := by omega
  have hn := (hI.1 i (by omega)).1
  rcases lim_le 15 (by decide) x1 with ⟨v, hv, rfl⟩ | hb9
  rotate_left
  · skip
    refine kl_throw (vx_runV (As := [.int (nI i), .int x1]) (rest := [.ref o]) ⟨hx, hb, hml, hown, hts⟩ (t_X4_put_2 l hst dC dI ad S i x1 hi hb9) (cwV 2 hts gL_put_X4_put rfl rfl rfl hdX4_put_2 ⟨Nat.le_of_ble_eq_true rfl, Nat.le_of_ble_eq_true rfl⟩) hPW.1.preX rfl rfl hl.1 rfl (lv_room (Nat.le_of_ble_eq_true rfl)) dL_put_4 ⟨Nat.le_of_ble_eq_true rfl, Nat.le_of_ble_eq_true rfl⟩) hX hO (fun ce q9 H hce1 hce2 hce3 hX hO => ?_)
    refine vx_catch hown [⟨0, 11, 14, 19⟩] ⟨0, 11, 18, 21⟩ [] (htab.trans rfl) (fun z hz => by rw [List.mem_singleton.mp hz]; exact Or.inr ⟨by decide, IX, hts (.classLink RL 19 IX) (by decide +kernel), hPW.2.2.2.2.1⟩) rfl (by decide) (hts (.classLink RL 21 IA) (tm 831 (by decide +kernel) rfl)) (va_Nw.use rfl hPW.1.2.1.2.1.2) hce1 hce2 hce3 ?_
    refine lv_astore (lv' := [(4, .ref q9), (0, .ref (ad 57)), (1, .int (nI i)), (2, .int x1), (3, .ref o)]) hx hb dL_put_18 hl (by decide) rfl (fun ls hl => ?_)
    refine lv_iconst (v := nI 2) hx hb dL_put_20 (by decide) ?_
    obtain ⟨n9, hN⟩ := hO
    exact W.widen (k := 1) (n := 6) (by simp) (by simp) (W.iret (v := nI 2) hx hb hr (fun t9 ht9 hW9 => ⟨⟨_, (S, n9), rfl, ⟨LQ_same hI h5, (Or.inr (Or.inl ⟨i, hi, rfl, hb9, rfl, rfl⟩))⟩, hX.P ht9 hW9, by rw [ht9]; exact hN⟩, hX.2.2.2.F ht9⟩) hX.2.2.2.2.2 dL_put_21)
  replace hv : v < 16 := by omega
  refine kl_ci (va_runV (As := [.int (nI i), .int (nI v)]) (rest := [.ref o]) ⟨hx, hb, hml, hown, hts⟩ (m_X4_put l dC dI ad S i v hi hv hI) (cwV 2 hts gL_put_X4_put rfl rfl rfl hdX4_put_2 ⟨Nat.le_of_ble_eq_true rfl, Nat.le_of_ble_eq_true rfl⟩) (hX.preTop 57 6 (by decide) (by decide) rfl rfl) rfl rfl hl.1 rfl (lv_room (Nat.le_of_ble_eq_true rfl)) dL_put_4 ⟨Nat.le_of_ble_eq_true rfl, Nat.le_of_ble_eq_true rfl⟩) hX hO hno (fun r9 S1 H locs hw hX hO => ?_)
  have hLQ : LQ S S1 := LQ_put hI h5 hc hi hv hw
  refine lv_i2l (v := r9.toInt64) hx hb dL_put_7 rfl ?_
  refine kl_putn hx hb hts hin5 hown hX hO hno (host := "OrderlatticeLaw") (va_Nw.use rfl hPW.2.2.2.2.2.1) dL_put_8 (fun H locs hX hN => ?_)
  refine lv_goto (tgt := 22) hx hb dL_put_11 (by decide) ?_
  refine lv_iconst (v := nI 0) hx hb dL_put_22 (by decide) ?_
  exact W.widen (k := 1) (n := 6) (by simp) (by simp) (W.iret (v := nI 0) hx hb hr (fun t9 ht9 hW9 => ⟨⟨_, (S1, r9.toInt64), rfl, ⟨hLQ, (Or.inr (Or.inr ⟨i, v, r9, hi, hv, rfl, rfl, rfl, rfl, hw⟩))⟩, hX.P ht9 hW9, by rw [ht9]; exact hN⟩, hX.2.2.2.F ht9⟩) hX.2.2.2.2.2 dL_put_23)
set_option maxHeartbeats 4000000 in
set_option maxRecDepth 100000 in
theorem m_L_putAt (l : Launch) (hst : l.stackTraces = false) (dC : Nat → ClassId) (dI : Nat → Nat → Nat) (cB : ClassId) (ad : Nat → Nat) (o : Nat) (S : XS) (x0 : Int32) (x1 : Int32) (x2 : Int32) (hI : InvX S) (h5 : ∀ j, j < 4 → (S.2.1 j).2.2.2.2.1 ≤ 5) (hc : S.2.2.1 + 12 < 1000000) : Met l yL_putAt wsL_putAt ({ frames := 9, cells := 1, slots := 6, locals := 147 } : Room) (va_Pc [.ref (ad 57), .int x0, .int x1, .int x2, .ref o] (PW dC dI cB ad o S)) (va_Qi (fun r (u : XS × Int64) => LQ S u.1 ∧ R_putAt x0 x1 x2 S r u.1 u.2) (PO2 dC dI ad o) (AO ad o)) 1 6 (AO ad o) := by
  refine va_MetW (cc := cL_putAt) (maxL := 6) (ret := (some .int)) pl_L rfl ?_
  intro p e s m args below meth c s₁ B hml hv
  obtain ⟨rfl, hPW⟩ := hv
  have hx := B.exec
  have hb := B.bytes
  have hr := B.returns
  have hts := atoms_spec (ws := wsL_putAt) B.pre
  have htab := vx_table (x := yL_putAt) B (hts (.codeWith yL_putAt cL_putAt 6 (some .int) [(0, 13, 16, 19), (0, 13, 20, 21)]) (by unfold wsL_putAt; exact List.mem_cons_self))
  have hown : s.vm.findClass RL = some m.cls := findClass_of_methodNamed B.named
  have hlocks := B.notSynchronized
  have hin5 : ∀ w ∈ u_ws RX5 TX5 2, w ∈ wsL_putAt := tu 1332 (by decide +kernel) rfl
  have hX := WX.ofW hPW
  have hO := hPW.2.2.1
  have hno := hPW.2.2.2.1
  have hl := lv_entry ([.ref (ad 57), .int x0, .int x1, .int x2, .ref o]) (n := 6) (Nat.le_of_ble_eq_true rfl)
  rw [lg_entry_eq]
  generalize (lg_sl ([.ref (ad 57), .int x0, .int x1, .int x2, .ref o]) ++ List.replicate (6 - (lg_sl ([.ref (ad 57), .int x0, .int x1, .int x2, .ref o])).length) Slot.unset).toArray = ls at hl ⊢
  have hl : lv_has ls 6 [(0, .ref (ad 57)), (1, .int x0), (2, .int x1), (3, .int x2), (4, .ref o)] := hl
  show W p l e ({ frames := 9, cells := 1, slots := 6, locals := 147 } : Room) s m ([.ref (ad 57), .int x0, .int x1, .int x2, .ref o]).toArray below meth c s.heap [] 0 0 (MQ below (va_Qi (fun r (u : XS × Int64) => LQ S u.1 ∧ R_putAt x0 x1 x2 S r u.1 u.2) (PO2 dC dI ad o) (AO ad o)) ([.ref (ad 57), .int x0, .int x1, .int x2, .ref o]).toArray s 1 6 (AO ad o)) (F0 m 0 ls [])
  refine lv_aload hx hb dL_putAt_0 (lv_at hl 4 rfl) ?_
  refine lv_aload_n hx hb dL_putAt_2 rfl (lv_at hl 0 rfl) ?_
  refine lv_iload_n hx hb dL_putAt_3 rfl (lv_at hl 1 rfl) ?_
  refine lv_iload_n hx hb dL_putAt_4 rfl (lv_at hl 2 rfl) ?_
  refine lv_iload_n hx hb dL_putAt_5 rfl (lv_at hl 3 rfl) ?_
  rcases lim_lt 3 (by decide) x0 with ⟨i, hi, rfl⟩ | hb9
  rotate_left
  · skip
    refine kl_throw (vx_runV (As := [.int x0, .int x1, .int x2]) (rest := [.ref o]) ⟨hx, hb, hml, hown, hts⟩ (t_X4_putAt_1 l hst dC dI ad S x0 x1 x2 hb9) (cwV 3 hts gL_putAt_X4_putAt rfl rfl rfl hdX4_putAt_3 ⟨Nat.le_of_ble_eq_true rfl, Nat.le_of_ble_eq_true rfl⟩) hPW.1.preX rfl rfl hl.1 rfl (lv_room (Nat.le_of_ble_eq_true rfl)) dL_putAt_6 ⟨Nat.le_of_ble_eq_true rfl, Nat.le_of_ble_eq_true rfl⟩) hX hO (fun ce q9 H hce1 hce2 hce3 hX hO => ?_)
    refine vx_catch hown [] ⟨0, 13, 16, 19⟩ [⟨0, 13, 20, 21⟩] (htab.trans rfl) (fun _ h => nomatch h) rfl (by decide) (hts (.classLink RL 19 IX) (tm 830 (by decide +kernel) rfl)) (va_Nw.use rfl hPW.1.2.1.2.1.1) hce1 hce2 hce3 ?_
    refine lv_astore (lv' := [(5, .ref q9), (0, .ref (ad 57)), (1, .int x0), (2, .int x1), (3, .int x2), (4, .ref o)]) hx hb dL_putAt_16 hl (by decide) rfl (fun ls hl => ?_)
    refine lv_iconst (v := nI 1) hx hb dL_putAt_18 (by decide) ?_
    obtain ⟨n9, hN⟩ := hO
    exact W.widen (k := 1) (n := 6) (by simp) (by simp) (W.iret (v := nI 1) hx hb hr (fun t9 ht9 hW9 => ⟨⟨_, (S, n9), rfl, ⟨LQ_same hI h5, (Or.inl ⟨hb9, rfl, rfl⟩)⟩, hX.P ht9 hW9, by rw [ht9]; exact hN⟩, hX.2.2.2.F ht9⟩) hX.2.2.2.2.2 dL_putAt_19)
  replace hi : i < 3 := by omega
  have hn := (hI.1 i (by omega)).1
  rcases lim_le (S.1 i).2.2 (by omega) x1 with ⟨q, hq, rfl⟩ | hb9
  rotate_left
  · skip
    refine kl_throw (vx_runV (As := [.int (nI i), .int x1, .int x2]) (rest := [.ref o]) ⟨hx, hb, hml, hown, hts⟩ (t_X4_putAt_2 l hst dC dI ad S i x1 x2 hi (by omega) hb9) (cwV 3 hts gL_putAt_X4_putAt rfl rfl rfl hdX4_putAt_3 ⟨Nat.le_of_ble_eq_true rfl, Nat.le_of_ble_eq_true rfl⟩) hPW.1.preX rfl rfl hl.1 rfl (lv_room (Nat.le_of_ble_eq_true rfl)) dL_putAt_6 ⟨Nat.le_of_ble_eq_true rfl, Nat.le_of_ble_eq_true rfl⟩) hX hO (fun ce q9 H hce1 hce2 hce3 hX hO => ?_)
    refine vx_catch hown [] ⟨0, 13, 16, 19⟩ [⟨0, 13, 20, 21⟩] (htab.trans rfl) (fun _ h => nomatch h) rfl (by decide) (hts (.classLink RL 19 IX) (tm 830 (by decide +kernel) rfl)) (va_Nw.use rfl hPW.1.2.1.2.1.1) hce1 hce2 hce3 ?_
    refine lv_astore (lv' := [(5, .ref q9), (0, .ref (ad 57)), (1, .int (nI i)), (2, .int x1), (3, .int x2), (4, .ref o)]) hx hb dL_putAt_16 hl (by decide) rfl (fun ls hl => ?_)
    refine lv_iconst (v := nI 1) hx hb dL_putAt_18 (by decide) ?_
    obtain ⟨n9, hN⟩ := hO
    exact W.widen (k := 1) (n := 6) (by simp) (by simp) (W.iret (v := nI 1) hx hb hr (fun t9 ht9 hW9 => ⟨⟨_, (S, n9), rfl, ⟨LQ_same hI h5, (Or.inr (Or.inl ⟨i, hi, rfl, hb9, rfl, rfl⟩))⟩, hX.P ht9 hW9, by rw [ht9]; exact hN⟩, hX.2.2.2.F ht9⟩) hX.2.2.2.2.2 dL_putAt_19)
  replace hq : q ≤ (S.1 i).2.2 := by omega
  rcases lim_le 15 (by decide) x2 with ⟨v, hv, rfl⟩ | hb9
  rotate_left
  · skip
    refine kl_throw (vx_runV (As := [.int (nI i), .int (nI q), .int x2]) (rest := [.ref o]) ⟨hx, hb, hml, hown, hts⟩ (t_X4_putAt_3 l hst dC dI ad S i q x2 hi hq (by omega) hb9) (cwV 3 hts gL_putAt_X4_putAt rfl rfl rfl hdX4_putAt_3 ⟨Nat.le_of_ble_eq_true rfl, Nat.le_of_ble_eq_true rfl⟩) hPW.1.preX rfl rfl hl.1 rfl (lv_room (Nat.le_of_ble_eq_true rfl)) dL_putAt_6 ⟨Nat.le_of_ble_eq_true rfl, Nat.le_of_ble_eq_true rfl⟩) hX hO (fun ce q9 H hce1 hce2 hce3 hX hO => ?_)
    refine vx_catch hown [⟨0, 13, 16, 19⟩] ⟨0, 13, 20, 21⟩ [] (htab.trans rfl) (fun z hz => by rw [List.mem_singleton.mp hz]; exact Or.inr ⟨by decide, IX, hts (.classLink RL 19 IX) (by decide +kernel), hPW.2.2.2.2.1⟩) rfl (by decide) (hts (.classLink RL 21 IA) (tm 831 (by decide +kernel) rfl)) (va_Nw.use rfl hPW.1.2.1.2.1.2) hce1 hce2 hce3 ?_
    refine lv_astore (lv' := [(5, .ref q9), (0, .ref (ad 57)), (1, .int (nI i)), (2, .int (nI q)), (3, .int x2), (4, .ref o)]) hx hb dL_putAt_20 hl (by decide) rfl (fun ls hl => ?_)
    refine lv_iconst (v := nI 2) hx hb dL_putAt_22 (by decide) ?_
    obtain ⟨n9, hN⟩ := hO
    exact W.widen (k := 1) (n := 6) (by simp) (by simp) (W.iret (v := nI 2) hx hb hr (fun t9 ht9 hW9 => ⟨⟨_, (S, n9), rfl, ⟨LQ_same hI h5, (Or.inr (Or.inr (Or.inl ⟨i, q, hi, hq, rfl, rfl, hb9, rfl, rfl⟩)))⟩, hX.P ht9 hW9, by rw [ht9]; exact hN⟩, hX.2.2.2.F ht9⟩) hX.2.2.2.2.2 dL_putAt_23)
  replace hv : v < 16 := by omega
  refine kl_ci (va_runV (As := [.int (nI i), .int (nI q), .int (nI v)]) (rest := [.ref o]) ⟨hx, hb, hml, hown, hts⟩ (m_X4_putAt l dC dI ad S i q v hi hq hv hI) (cwV 3 hts gL_putAt_X4_putAt rfl rfl rfl hdX4_putAt_3 ⟨Nat.le_of_ble_eq_true rfl, Nat.le_of_ble_eq_true rfl⟩) (hX.preTop 57 6 (by decide) (by decide) rfl rfl) rfl rfl hl.1 rfl (lv_room (Nat.le_of_ble_eq_true rfl)) dL_putAt_6 ⟨Nat.le_of_ble_eq_true rfl, Nat.le_of_ble_eq_true rfl⟩) hX hO hno (fun r9 S1 H locs hw hX hO => ?_)
  have hLQ : LQ S S1 := LQ_put hI h5 hc hi hv hw
  refine lv_i2l (v := r9.toInt64) hx hb dL_putAt_9 rfl ?_
  refine kl_putn hx hb hts hin5 hown hX hO hno (host := "OrderlatticeLaw") (va_Nw.use rfl hPW.2.2.2.2.2.1) dL_putAt_10 (fun H locs hX hN => ?_)
  refine lv_goto (tgt := 24) hx hb dL_putAt_13 (by decide) ?_
  refine lv_iconst (v := nI 0) hx hb dL_putAt_24 (by decide) ?_
  exact W.widen (k := 1) (n := 6) (by simp) (by simp) (W.iret (v := nI 0) hx hb hr (fun t9 ht9 hW9 => ⟨⟨_, (S1, r9.toInt64), rfl, ⟨hLQ, (Or.inr (Or.inr (Or.inr ⟨i, q, v, r9, hi, hq, hv, rfl, rfl, rfl, rfl, rfl, hw⟩)))⟩, hX.P ht9 hW9, by rw [ht9]; exact hN⟩, hX.2.2.2.F ht9⟩) hX.2.2.2.2.2 dL_putAt_25)
set_option maxHeartbeats 4000000 in
set_option maxRecDepth 100000 in
theorem m_L_fill (l : Launch) (hst : l.stackTraces = false) (dC : Nat → ClassId) (dI : Nat → Nat → Nat) (cB : ClassId) (ad : Nat → Nat) (o : Nat) (S : XS) (x0 : Int32) (x1 : Int32) (x2 : Int32) (x3 : Int32) (hI : InvX S) (h5 : ∀ j, j < 4 → (S.2.1 j).2.2.2.2.1 ≤ 5) (hc : S.2.2.1 + 12 < 1000000) : Met l yL_fill wsL_fill ({ frames := 9, cells := 1, slots := 6, locals := 149 } : Room) (va_Pc [.ref (ad 57), .int x0, .int x1, .int x2, .int x3, .ref o] (PW dC dI cB ad o S)) (va_Qi (fun r (u : XS × Int64) => LQ S u.1 ∧ R_fill x0 x1 x2 x3 S r u.1 u.2) (PO2 dC dI ad o) (AO ad o)) 1 6 (AO ad o) := by
  refine va_MetW (cc := cL_fill) (maxL := 7) (ret := (some .int)) pl_L rfl ?_
  intro p e s m args below meth c s₁ B hml hv
  obtain ⟨rfl, hPW⟩ := hv
  have hx := B.exec
  have hb := B.bytes
  have hr := B.returns
  have hts := atoms_spec (ws := wsL_fill) B.pre
  have htab := vx_table (x := yL_fill) B (hts (.codeWith yL_fill cL_fill 7 (some .int) [(0, 15, 18, 19), (0, 15, 22, 21)]) (by unfold wsL_fill; exact List.mem_cons_self))
  have hown : s.vm.findClass RL = some m.cls := findClass_of_methodNamed B.named
  have hlocks := B.notSynchronized
  have hin5 : ∀ w ∈ u_ws RX5 TX5 2, w ∈ wsL_fill := tu 1332 (by decide +kernel) rfl
  have hX := WX.ofW hPW
  have hO := hPW.2.2.1
  have hno := hPW.2.2.2.1
  have hl := lv_entry ([.ref (ad 57), .int x0, .int x1, .int x2, .int x3, .ref o]) (n := 7) (Nat.le_of_ble_eq_true rfl)
  rw [lg_entry_eq]
  generalize (lg_sl ([.ref (ad 57), .int x0, .int x1, .int x2, .int x3, .ref o]) ++ List.replicate (7 - (lg_sl ([.ref (ad 57), .int x0, .int x1, .int x2, .int x3, .ref o])).length) Slot.unset).toArray = ls at hl ⊢
  have hl : lv_has ls 7 [(0, .ref (ad 57)), (1, .int x0), (2, .int x1), (3, .int x2), (4, .int x3), (5, .ref o)] := hl
  show W p l e ({ frames := 9, cells := 1, slots := 6, locals := 149 } : Room) s m ([.ref (ad 57), .int x0, .int x1, .int x2, .int x3, .ref o]).toArray below meth c s.heap [] 0 0 (MQ below (va_Qi (fun r (u : XS × Int64) => LQ S u.1 ∧ R_fill x0 x1 x2 x3 S r u.1 u.2) (PO2 dC dI ad o) (AO ad o)) ([.ref (ad 57), .int x0, .int x1, .int x2, .int x3, .ref o]).toArray s 1 6 (AO ad o)) (F0 m 0 ls [])
  refine lv_aload hx hb dL_fill_0 (lv_at hl 5 rfl) ?_
  refine lv_aload_n hx hb dL_fill_2 rfl (lv_at hl 0 rfl) ?_
  refine lv_iload_n hx hb dL_fill_3 rfl (lv_at hl 1 rfl) ?_
  refine lv_iload_n hx hb dL_fill_4 rfl (lv_at hl 2 rfl) ?_
  refine lv_iload_n hx hb dL_fill_5 rfl (lv_at hl 3 rfl) ?_
  refine lv_iload hx hb dL_fill_6 (lv_at hl 4 rfl) ?_
  rcases lim_lt 3 (by decide) x0 with ⟨i, hi, rfl⟩ | hb9
  rotate_left
  · skip
    refine kl_throw (vx_runV (As := [.int x0, .int x1, .int x2, .int x3]) (rest := [.ref o]) ⟨hx, hb, hml, hown, hts⟩ (t_X4_fill_1 l hst dC dI ad S x0 x1 x2 x3 hb9) (cwV 4 hts gL_fill_X4_fill rfl rfl rfl hdX4_fill_4 ⟨Nat.le_of_ble_eq_true rfl, Nat.le_of_ble_eq_true rfl⟩) hPW.1.preX rfl rfl hl.1 rfl (lv_room (Nat.le_of_ble_eq_true rfl)) dL_fill_8 ⟨Nat.le_of_ble_eq_true rfl, Nat.le_of_ble_eq_true rfl⟩) hX hO (fun ce q9 H hce1 hce2 hce3 hX hO => ?_)
    refine vx_catch hown [] ⟨0, 15, 18, 19⟩ [⟨0, 15, 22, 21⟩] (htab.trans rfl) (fun _ h => nomatch h) rfl (by decide) (hts (.classLink RL 19 IX) (tm 830 (by decide +kernel) rfl)) (va_Nw.use rfl hPW.1.2.1.2.1.1) hce1 hce2 hce3 ?_
    refine lv_astore (lv' := [(6, .ref q9), (0, .ref (ad 57)), (1, .int x0), (2, .int x1), (3, .int x2), (4, .int x3), (5, .ref o)]) hx hb dL_fill_18 hl (by decide) rfl (fun ls hl => ?_)
    refine lv_iconst (v := nI 1) hx hb dL_fill_20 (by decide) ?_
    obtain ⟨n9, hN⟩ := hO
    exact W.widen (k := 1) (n := 6) (by simp) (by simp) (W.iret (v := nI 1) hx hb hr (fun t9 ht9 hW9 => ⟨⟨_, (S, n9), rfl, ⟨LQ_same hI h5, (Or.inl ⟨hb9, rfl, rfl⟩)⟩, hX.P ht9 hW9, by rw [ht9]; exact hN⟩, hX.2.2.2.F ht9⟩) hX.2.2.2.2.2 dL_fill_21)
  replace hi : i < 3 := by omega
  have hn := (hI.1 i (by omega)).1
  rcases lim_le 12 (by decide) x1 with ⟨k, hk, rfl⟩ | hb9
  rotate_left
  · skip
    refine kl_throw (vx_runV (As := [.int (nI i), .int x1, .int x2, .int x3]) (rest := [.ref o]) ⟨hx, hb, hml, hown, hts⟩ (t_X4_fill_2 l hst dC dI ad S i x1 x2 x3 hi hb9) (cwV 4 hts gL_fill_X4_fill rfl rfl rfl hdX4_fill_4 ⟨Nat.le_of_ble_eq_true rfl, Nat.le_of_ble_eq_true rfl⟩) hPW.1.preX rfl rfl hl.1 rfl (lv_room (Nat.le_of_ble_eq_true rfl)) dL_fill_8 ⟨Nat.le_of_ble_eq_true rfl, Nat.le_of_ble_eq_true rfl⟩) hX hO (fun ce q9 H hce1 hce2 hce3 hX hO => ?_)
    refine vx_catch hown [⟨0, 15, 18, 19⟩] ⟨0, 15, 22, 21⟩ [] (htab.trans rfl) (fun z hz => by rw [List.mem_singleton.mp hz]; exact Or.inr ⟨by decide, IX, hts (.classLink RL 19 IX) (by decide +kernel), hPW.2.2.2.2.1⟩) rfl (by decide) (hts (.classLink RL 21 IA) (tm 831 (by decide +kernel) rfl)) (va_Nw.use rfl hPW.1.2.1.2.1.2) hce1 hce2 hce3 ?_
    refine lv_astore (lv' := [(6, .ref q9), (0, .ref (ad 57)), (1, .int (nI i)), (2, .int x1), (3, .int x2), (4, .int x3), (5, .ref o)]) hx hb dL_fill_22 hl (by decide) rfl (fun ls hl => ?_)
    refine lv_iconst (v := nI 2) hx hb dL_fill_24 (by decide) ?_
    obtain ⟨n9, hN⟩ := hO
    exact W.widen (k := 1) (n := 6) (by simp) (by simp) (W.iret (v := nI 2) hx hb hr (fun t9 ht9 hW9 => ⟨⟨_, (S, n9), rfl, ⟨LQ_same hI h5, (Or.inr (Or.inl ⟨i, hi, rfl, hb9, rfl, rfl⟩))⟩, hX.P ht9 hW9, by rw [ht9]; exact hN⟩, hX.2.2.2.F ht9⟩) hX.2.2.2.2.2 dL_fill_25)
  replace hk : k ≤ 12 := by omega
  rcases lim_le 99 (by decide) x2 with ⟨k2, hk2, rfl⟩ | hb9
  rotate_left
  · skip
    refine kl_throw (vx_runV (As := [.int (nI i), .int (nI k), .int x2, .int x3]) (rest := [.ref o]) ⟨hx, hb, hml, hown, hts⟩ (t_X4_fill_3 l hst dC dI ad S i k x2 x3 hi hk hb9) (cwV 4 hts gL_fill_X4_fill rfl rfl rfl hdX4_fill_4 ⟨Nat.le_of_ble_eq_true rfl, Nat.le_of_ble_eq_true rfl⟩) hPW.1.preX rfl rfl hl.1 rfl (lv_room (Nat.le_of_ble_eq_true rfl)) dL_fill_8 ⟨Nat.le_of_ble_eq_true rfl, Nat.le_of_ble_eq_true rfl⟩) hX hO (fun ce q9 H hce1 hce2 hce3 hX hO => ?_)
    refine vx_catch hown [⟨0, 15, 18, 19⟩] ⟨0, 15, 22, 21⟩ [] (htab.trans rfl) (fun z hz => by rw [List.mem_singleton.mp hz]; exact Or.inr ⟨by decide, IX, hts (.classLink RL 19 IX) (by decide +kernel), hPW.2.2.2.2.1⟩) rfl (by decide) (hts (.classLink RL 21 IA) (tm 831 (by decide +kernel) rfl)) (va_Nw.use rfl hPW.1.2.1.2.1.2) hce1 hce2 hce3 ?_
    refine lv_astore (lv' := [(6, .ref q9), (0, .ref (ad 57)), (1, .int (nI i)), (2, .int (nI k)), (3, .int x2), (4, .int x3), (5, .ref o)]) hx hb dL_fill_22 hl (by decide) rfl (fun ls hl => ?_)
    refine lv_iconst (v := nI 2) hx hb dL_fill_24 (by decide) ?_
    obtain ⟨n9, hN⟩ := hO
    exact W.widen (k := 1) (n := 6) (by simp) (by simp) (W.iret (v := nI 2) hx hb hr (fun t9 ht9 hW9 => ⟨⟨_, (S, n9), rfl, ⟨LQ_same hI h5, (Or.inr (Or.inr (Or.inl ⟨i, k, hi, hk, rfl, rfl, hb9, rfl, rfl⟩)))⟩, hX.P ht9 hW9, by rw [ht9]; exact hN⟩, hX.2.2.2.F ht9⟩) hX.2.2.2.2.2 dL_fill_25)
  replace hk2 : k2 ≤ 99 := by omega
  rcases lim_le 99 (by decide) x3 with ⟨k3, hk3, rfl⟩ | hb9
  rotate_left
  · skip
    refine kl_throw (vx_runV (As := [.int (nI i), .int (nI k), .int (nI k2), .int x3]) (rest := [.ref o]) ⟨hx, hb, hml, hown, hts⟩ (t_X4_fill_4 l hst dC dI ad S i k k2 x3 hi hk hk2 hb9) (cwV 4 hts gL_fill_X4_fill rfl rfl rfl hdX4_fill_4 ⟨Nat.le_of_ble_eq_true rfl, Nat.le_of_ble_eq_true rfl⟩) hPW.1.preX rfl rfl hl.1 rfl (lv_room (Nat.le_of_ble_eq_true rfl)) dL_fill_8 ⟨Nat.le_of_ble_eq_true rfl, Nat.le_of_ble_eq_true rfl⟩) hX hO (fun ce q9 H hce1 hce2 hce3 hX hO => ?_)
    refine vx_catch hown [⟨0, 15, 18, 19⟩] ⟨0, 15, 22, 21⟩ [] (htab.trans rfl) (fun z hz => by rw [List.mem_singleton.mp hz]; exact Or.inr ⟨by decide, IX, hts (.classLink RL 19 IX) (by decide +kernel), hPW.2.2.2.2.1⟩) rfl (by decide) (hts (.classLink RL 21 IA) (tm 831 (by decide +kernel) rfl)) (va_Nw.use rfl hPW.1.2.1.2.1.2) hce1 hce2 hce3 ?_
    refine lv_astore (lv' := [(6, .ref q9), (0, .ref (ad 57)), (1, .int (nI i)), (2, .int (nI k)), (3, .int (nI k2)), (4, .int x3), (5, .ref o)]) hx hb dL_fill_22 hl (by decide) rfl (fun ls hl => ?_)
    refine lv_iconst (v := nI 2) hx hb dL_fill_24 (by decide) ?_
    obtain ⟨n9, hN⟩ := hO
    exact W.widen (k := 1) (n := 6) (by simp) (by simp) (W.iret (v := nI 2) hx hb hr (fun t9 ht9 hW9 => ⟨⟨_, (S, n9), rfl, ⟨LQ_same hI h5, (Or.inr (Or.inr (Or.inr (Or.inl ⟨i, k, k2, hi, hk, hk2, rfl, rfl, rfl, hb9, rfl, rfl⟩))))⟩, hX.P ht9 hW9, by rw [ht9]; exact hN⟩, hX.2.2.2.F ht9⟩) hX.2.2.2.2.2 dL_fill_25)
  replace hk3 : k3 ≤ 99 := by omega
  refine kl_ci (va_runV (As := [.int (nI i), .int (nI k), .int (nI k2), .int (nI k3)]) (rest := [.ref o]) ⟨hx, hb, hml, hown, hts⟩ (m_X4_fill l dC dI ad S i k k2 k3 hi hk hk2 hk3 hI) (cwV 4 hts gL_fill_X4_fill rfl rfl rfl hdX4_fill_4 ⟨Nat.le_of_ble_eq_true rfl, Nat.le_of_ble_eq_true rfl⟩) (hX.preTop 57 6 (by decide) (by decide) rfl rfl) rfl rfl hl.1 rfl (lv_room (Nat.le_of_ble_eq_true rfl)) dL_fill_8 ⟨Nat.le_of_ble_eq_true rfl, Nat.le_of_ble_eq_true rfl⟩) hX hO hno (fun r9 S1 H locs hw hX hO => ?_)
  have hLQ : LQ S S1 := LQ_fill hI h5 hc hi hk hw
  refine lv_i2l (v := r9.toInt64) hx hb dL_fill_11 rfl ?_
  refine kl_putn hx hb hts hin5 hown hX hO hno (host := "OrderlatticeLaw") (va_Nw.use rfl hPW.2.2.2.2.2.1) dL_fill_12 (fun H locs hX hN => ?_)
  refine lv_goto (tgt := 26) hx hb dL_fill_15 (by decide) ?_
  refine lv_iconst (v := nI 0) hx hb dL_fill_26 (by decide) ?_
  exact W.widen (k := 1) (n := 6) (by simp) (by simp) (W.iret (v := nI 0) hx hb hr (fun t9 ht9 hW9 => ⟨⟨_, (S1, r9.toInt64), rfl, ⟨hLQ, (Or.inr (Or.inr (Or.inr (Or.inr ⟨i, k, k2, k3, r9, hi, hk, hk2, hk3, rfl, rfl, rfl, rfl, rfl, rfl, hw⟩))))⟩, hX.P ht9 hW9, by rw [ht9]; exact hN⟩, hX.2.2.2.F ht9⟩) hX.2.2.2.2.2 dL_fill_27)
set_option maxHeartbeats 4000000 in
set_option maxRecDepth 100000 in
theorem m_L_drop (l : Launch) (hst : l.stackTraces = false) (dC : Nat → ClassId) (dI : Nat → Nat → Nat) (cB : ClassId) (ad : Nat → Nat) (o : Nat) (S : XS) (x0 : Int32) (x1 : Int32) (hI : InvX S) (h5 : ∀ j, j < 4 → (S.2.1 j).2.2.2.2.1 ≤ 5) (hc : S.2.2.1 + 12 < 1000000) : Met l yL_drop wsL_drop ({ frames := 9, cells := 1, slots := 6, locals := 147 } : Room) (va_Pc [.ref (ad 57), .int x0, .int x1, .ref o] (PW dC dI cB ad o S)) (va_Qi (fun r (u : XS × Int64) => LQ S u.1 ∧ R_drop x0 x1 S r u.1 u.2) (PO2 dC dI ad o) (AO ad o)) 1 6 (AO ad o) := by
  refine va_MetW (cc := cL_drop) (maxL := 5) (ret := (some .int)) pl_L rfl ?_
  intro p e s m args below meth c s₁ B hml hv
  obtain ⟨rfl, hPW⟩ := hv
  have hx := B.exec
  have hb := B.bytes
  have hr := B.returns
  have hts := atoms_spec (ws := wsL_drop) B.pre
  have htab := vx_table (x := yL_drop) B (hts (.codeWith yL_drop cL_drop 5 (some .int) [(0, 11, 14, 19)]) (by unfold wsL_drop; exact List.mem_cons_self))
  have hown : s.vm.findClass RL = some m.cls := findClass_of_methodNamed B.named
  have hlocks := B.notSynchronized
  have hin5 : ∀ w ∈ u_ws RX5 TX5 2, w ∈ wsL_drop := tu 1332 (by decide +kernel) rfl
  have hX := WX.ofW hPW
  have hO := hPW.2.2.1
  have hno := hPW.2.2.2.1
  have hl := lv_entry ([.ref (ad 57), .int x0, .int x1, .ref o]) (n := 5) (Nat.le_of_ble_eq_true rfl)
  rw [lg_entry_eq]
  generalize (lg_sl ([.ref (ad 57), .int x0, .int x1, .ref o]) ++ List.replicate (5 - (lg_sl ([.ref (ad 57), .int x0, .int x1, .ref o])).length) Slot.unset).toArray = ls at hl ⊢
  have hl : lv_has ls 5 [(0, .ref (ad 57)), (1, .int x0), (2, .int x1), (3, .ref o)] := hl
  show W p l e ({ frames := 9, cells := 1, slots := 6, locals := 147 } : Room) s m ([.ref (ad 57), .int x0, .int x1, .ref o]).toArray below meth c s.heap [] 0 0 (MQ below (va_Qi (fun r (u : XS × Int64) => LQ S u.1 ∧ R_drop x0 x1 S r u.1 u.2) (PO2 dC dI ad o) (AO ad o)) ([.ref (ad 57), .int x0, .int x1, .ref o]).toArray s 1 6 (AO ad o)) (F0 m 0 ls [])
  refine lv_aload_n hx hb dL_drop_0 rfl (lv_at hl 3 rfl) ?_
  refine lv_aload_n hx hb dL_drop_1 rfl (lv_at hl 0 rfl) ?_
  refine lv_iload_n hx hb dL_drop_2 rfl (lv_at hl 1 rfl) ?_
  refine lv_iload_n hx hb dL_drop_3 rfl (lv_at hl 2 rfl) ?_
  rcases lim_lt 3 (by decide) x0 with ⟨i, hi, rfl⟩ | hb9
  rotate_left
  · skip
    refine kl_throw (vx_runV (As := [.int x0, .int x1]) (rest := [.ref o]) ⟨hx, hb, hml, hown, hts⟩ (t_X4_drop_1 l hst dC dI ad S x0 x1 hb9) (cwV 2 hts gL_drop_X4_drop rfl rfl rfl hdX4_drop_2 ⟨Nat.le_of_ble_eq_true rfl, Nat.le_of_ble_eq_true rfl⟩) hPW.1.preX rfl rfl hl.1 rfl (lv_room (Nat.le_of_ble_eq_true rfl)) dL_drop_4 ⟨Nat.le_of_ble_eq_true rfl, Nat.le_of_ble_eq_true rfl⟩) hX hO (fun ce q9 H hce1 hce2 hce3 hX hO => ?_)
    refine vx_catch hown [] ⟨0, 11, 14, 19⟩ [] (htab.trans rfl) (fun _ h => nomatch h) rfl (by decide) (hts (.classLink RL 19 IX) (tm 830 (by decide +kernel) rfl)) (va_Nw.use rfl hPW.1.2.1.2.1.1) hce1 hce2 hce3 ?_
    refine lv_astore (lv' := [(4, .ref q9), (0, .ref (ad 57)), (1, .int x0), (2, .int x1), (3, .ref o)]) hx hb dL_drop_14 hl (by decide) rfl (fun ls hl => ?_)
    refine lv_iconst (v := nI 1) hx hb dL_drop_16 (by decide) ?_
    obtain ⟨n9, hN⟩ := hO
    exact W.widen (k := 1) (n := 6) (by simp) (by simp) (W.iret (v := nI 1) hx hb hr (fun t9 ht9 hW9 => ⟨⟨_, (S, n9), rfl, ⟨LQ_same hI h5, (Or.inl ⟨hb9, rfl, rfl⟩)⟩, hX.P ht9 hW9, by rw [ht9]; exact hN⟩, hX.2.2.2.F ht9⟩) hX.2.2.2.2.2 dL_drop_17)
  replace hi : i < 3 := by omega
  have hn := (hI.1 i (by omega)).1
  rcases lim_lt (S.1 i).2.2 (by omega) x1 with ⟨q, hq, rfl⟩ | hb9
  rotate_left
  · skip
    refine kl_throw (vx_runV (As := [.int (nI i), .int x1]) (rest := [.ref o]) ⟨hx, hb, hml, hown, hts⟩ (t_X4_drop_2 l hst dC dI ad S i x1 hi (by omega) hb9) (cwV 2 hts gL_drop_X4_drop rfl rfl rfl hdX4_drop_2 ⟨Nat.le_of_ble_eq_true rfl, Nat.le_of_ble_eq_true rfl⟩) hPW.1.preX rfl rfl hl.1 rfl (lv_room (Nat.le_of_ble_eq_true rfl)) dL_drop_4 ⟨Nat.le_of_ble_eq_true rfl, Nat.le_of_ble_eq_true rfl⟩) hX hO (fun ce q9 H hce1 hce2 hce3 hX hO => ?_)
    refine vx_catch hown [] ⟨0, 11, 14, 19⟩ [] (htab.trans rfl) (fun _ h => nomatch h) rfl (by decide) (hts (.classLink RL 19 IX) (tm 830 (by decide +kernel) rfl)) (va_Nw.use rfl hPW.1.2.1.2.1.1) hce1 hce2 hce3 ?_
    refine lv_astore (lv' := [(4, .ref q9), (0, .ref (ad 57)), (1, .int (nI i)), (2, .int x1), (3, .ref o)]) hx hb dL_drop_14 hl (by decide) rfl (fun ls hl => ?_)
    refine lv_iconst (v := nI 1) hx hb dL_drop_16 (by decide) ?_
    obtain ⟨n9, hN⟩ := hO
    exact W.widen (k := 1) (n := 6) (by simp) (by simp) (W.iret (v := nI 1) hx hb hr (fun t9 ht9 hW9 => ⟨⟨_, (S, n9), rfl, ⟨LQ_same hI h5, (Or.inr (Or.inl ⟨i, hi, rfl, hb9, rfl, rfl⟩))⟩, hX.P ht9 hW9, by rw [ht9]; exact hN⟩, hX.2.2.2.F ht9⟩) hX.2.2.2.2.2 dL_drop_17)
  replace hq : q < (S.1 i).2.2 := by omega
  refine kl_ci (va_runV (As := [.int (nI i), .int (nI q)]) (rest := [.ref o]) ⟨hx, hb, hml, hown, hts⟩ (m_X4_drop l dC dI ad S i q hi hq hI) (cwV 2 hts gL_drop_X4_drop rfl rfl rfl hdX4_drop_2 ⟨Nat.le_of_ble_eq_true rfl, Nat.le_of_ble_eq_true rfl⟩) (hX.preTop 57 6 (by decide) (by decide) rfl rfl) rfl rfl hl.1 rfl (lv_room (Nat.le_of_ble_eq_true rfl)) dL_drop_4 ⟨Nat.le_of_ble_eq_true rfl, Nat.le_of_ble_eq_true rfl⟩) hX hO hno (fun r9 S1 H locs hw hX hO => ?_)
  have hLQ : LQ S S1 := by rw [hw.2]; exact LQ_row0 hI h5 (rowOK_rem (hI.1 i (by omega)) hq)
  refine lv_i2l (v := r9.toInt64) hx hb dL_drop_7 rfl ?_
  refine kl_putn hx hb hts hin5 hown hX hO hno (host := "OrderlatticeLaw") (va_Nw.use rfl hPW.2.2.2.2.2.1) dL_drop_8 (fun H locs hX hN => ?_)
  refine lv_goto (tgt := 18) hx hb dL_drop_11 (by decide) ?_
  refine lv_iconst (v := nI 0) hx hb dL_drop_18 (by decide) ?_
  exact W.widen (k := 1) (n := 6) (by simp) (by simp) (W.iret (v := nI 0) hx hb hr (fun t9 ht9 hW9 => ⟨⟨_, (S1, r9.toInt64), rfl, ⟨hLQ, (Or.inr (Or.inr ⟨i, q, r9, hi, hq, rfl, rfl, rfl, rfl, hw⟩))⟩, hX.P ht9 hW9, by rw [ht9]; exact hN⟩, hX.2.2.2.F ht9⟩) hX.2.2.2.2.2 dL_drop_19)
set_option maxHeartbeats 4000000 in
set_option maxRecDepth 100000 in
theorem m_L_clear (l : Launch) (hst : l.stackTraces = false) (dC : Nat → ClassId) (dI : Nat → Nat → Nat) (cB : ClassId) (ad : Nat → Nat) (o : Nat) (S : XS) (x0 : Int32) (hI : InvX S) (h5 : ∀ j, j < 4 → (S.2.1 j).2.2.2.2.1 ≤ 5) (hc : S.2.2.1 + 12 < 1000000) : Met l yL_clear wsL_clear ({ frames := 9, cells := 1, slots := 6, locals := 146 } : Room) (va_Pc [.ref (ad 57), .int x0, .ref o] (PW dC dI cB ad o S)) (va_Qi (fun r (u : XS × Int64) => LQ S u.1 ∧ R_clear x0 S r u.1 u.2) (PO2 dC dI ad o) (AO ad o)) 1 6 (AO ad o) := by
  refine va_MetW (cc := cL_clear) (maxL := 4) (ret := (some .int)) pl_L rfl ?_
  intro p e s m args below meth c s₁ B hml hv
  obtain ⟨rfl, hPW⟩ := hv
  have hx := B.exec
  have hb := B.bytes
  have hr := B.returns
  have hts := atoms_spec (ws := wsL_clear) B.pre
  have htab := vx_table (x := yL_clear) B (hts (.codeWith yL_clear cL_clear 4 (some .int) [(0, 10, 13, 19)]) (by unfold wsL_clear; exact List.mem_cons_self))
  have hown : s.vm.findClass RL = some m.cls := findClass_of_methodNamed B.named
  have hlocks := B.notSynchronized
  have hin5 : ∀ w ∈ u_ws RX5 TX5 2, w ∈ wsL_clear := tu 1332 (by decide +kernel) rfl
  have hX := WX.ofW hPW
  have hO := hPW.2.2.1
  have hno := hPW.2.2.2.1
  have hl := lv_entry ([.ref (ad 57), .int x0, .ref o]) (n := 4) (Nat.le_of_ble_eq_true rfl)
  rw [lg_entry_eq]
  generalize (lg_sl ([.ref (ad 57), .int x0, .ref o]) ++ List.replicate (4 - (lg_sl ([.ref (ad 57), .int x0, .ref o])).length) Slot.unset).toArray = ls at hl ⊢
  have hl : lv_has ls 4 [(0, .ref (ad 57)), (1, .int x0), (2, .ref o)] := hl
  show W p l e ({ frames := 9, cells := 1, slots := 6, locals := 146 } : Room) s m ([.ref (ad 57), .int x0, .ref o]).toArray below meth c s.heap [] 0 0 (MQ below (va_Qi (fun r (u : XS × Int64) => LQ S u.1 ∧ R_clear x0 S r u.1 u.2) (PO2 dC dI ad o) (AO ad o)) ([.ref (ad 57), .int x0, .ref o]).toArray s 1 6 (AO ad o)) (F0 m 0 ls [])
  refine lv_aload_n hx hb dL_clear_0 rfl (lv_at hl 2 rfl) ?_
  refine lv_aload_n hx hb dL_clear_1 rfl (lv_at hl 0 rfl) ?_
  refine lv_iload_n hx hb dL_clear_2 rfl (lv_at hl 1 rfl) ?_
  rcases lim_lt 3 (by decide) x0 with ⟨i, hi, rfl⟩ | hb9
  rotate_left
  · skip
    refine kl_throw (vx_runV (As := [.int x0]) (rest := [.ref o]) ⟨hx, hb, hml, hown, hts⟩ (t_X4_clear_1 l hst dC dI ad S x0 hb9) (cwV 1 hts gL_clear_X4_clear rfl rfl rfl hdX4_clear_1 ⟨Nat.le_of_ble_eq_true rfl, Nat.le_of_ble_eq_true rfl⟩) hPW.1.preX rfl rfl hl.1 rfl (lv_room (Nat.le_of_ble_eq_true rfl)) dL_clear_3 ⟨Nat.le_of_ble_eq_true rfl, Nat.le_of_ble_eq_true rfl⟩) hX hO (fun ce q9 H hce1 hce2 hce3 hX hO => ?_)
    refine vx_catch hown [] ⟨0, 10, 13, 19⟩ [] (htab.trans rfl) (fun _ h => nomatch h) rfl (by decide) (hts (.classLink RL 19 IX) (tm 830 (by decide +kernel) rfl)) (va_Nw.use rfl hPW.1.2.1.2.1.1) hce1 hce2 hce3 ?_
    refine lv_astore_n (lv' := [(3, .ref q9), (0, .ref (ad 57)), (1, .int x0), (2, .ref o)]) hx hb dL_clear_13 rfl hl (by decide) rfl (fun ls hl => ?_)
    refine lv_iconst (v := nI 1) hx hb dL_clear_14 (by decide) ?_
    obtain ⟨n9, hN⟩ := hO
    exact W.widen (k := 1) (n := 6) (by simp) (by simp) (W.iret (v := nI 1) hx hb hr (fun t9 ht9 hW9 => ⟨⟨_, (S, n9), rfl, ⟨LQ_same hI h5, (Or.inl ⟨hb9, rfl, rfl⟩)⟩, hX.P ht9 hW9, by rw [ht9]; exact hN⟩, hX.2.2.2.F ht9⟩) hX.2.2.2.2.2 dL_clear_15)
  replace hi : i < 3 := by omega
  have hn := (hI.1 i (by omega)).1
  refine kl_ci (va_runV (As := [.int (nI i)]) (rest := [.ref o]) ⟨hx, hb, hml, hown, hts⟩ (m_X4_clear l dC dI ad S i hi hI) (cwV 1 hts gL_clear_X4_clear rfl rfl rfl hdX4_clear_1 ⟨Nat.le_of_ble_eq_true rfl, Nat.le_of_ble_eq_true rfl⟩) (hX.preTop 57 6 (by decide) (by decide) rfl rfl) rfl rfl hl.1 rfl (lv_room (Nat.le_of_ble_eq_true rfl)) dL_clear_3 ⟨Nat.le_of_ble_eq_true rfl, Nat.le_of_ble_eq_true rfl⟩) hX hO hno (fun r9 S1 H locs hw hX hO => ?_)
  have hLQ : LQ S S1 := by rw [hw.2]; exact LQ_row0 hI h5 (rowOK_0 (hI.1 i (by omega)))
  refine lv_i2l (v := r9.toInt64) hx hb dL_clear_6 rfl ?_
  refine kl_putn hx hb hts hin5 hown hX hO hno (host := "OrderlatticeLaw") (va_Nw.use rfl hPW.2.2.2.2.2.1) dL_clear_7 (fun H locs hX hN => ?_)
  refine lv_goto (tgt := 16) hx hb dL_clear_10 (by decide) ?_
  refine lv_iconst (v := nI 0) hx hb dL_clear_16 (by decide) ?_
  exact W.widen (k := 1) (n := 6) (by simp) (by simp) (W.iret (v := nI 0) hx hb hr (fun t9 ht9 hW9 => ⟨⟨_, (S1, r9.toInt64), rfl, ⟨hLQ, (Or.inr ⟨i, r9, hi, rfl, rfl, rfl, hw⟩)⟩, hX.P ht9 hW9, by rw [ht9]; exact hN⟩, hX.2.2.2.F ht9⟩) hX.2.2.2.2.2 dL_clear_17)
set_option maxHeartbeats 4000000 in
set_option maxRecDepth 100000 in
theorem m_L_copyRow (l : Launch) (hst : l.stackTraces = false) (dC : Nat → ClassId) (dI : Nat → Nat → Nat) (cB : ClassId) (ad : Nat → Nat) (o : Nat) (S : XS) (x0 : Int32) (x1 : Int32) (hI : InvX S) (h5 : ∀ j, j < 4 → (S.2.1 j).2.2.2.2.1 ≤ 5) (hc : S.2.2.1 + 12 < 1000000) : Met l yL_copyRow wsL_copyRow ({ frames := 9, cells := 1, slots := 6, locals := 147 } : Room) (va_Pc [.ref (ad 57), .int x0, .int x1, .ref o] (PW dC dI cB ad o S)) (va_Qi (fun r (u : XS × Int64) => LQ S u.1 ∧ R_copyRow x0 x1 S r u.1 u.2) (PO2 dC dI ad o) (AO ad o)) 1 6 (AO ad o) := by
  refine va_MetW (cc := cL_copyRow) (maxL := 5) (ret := (some .int)) pl_L rfl ?_
  intro p e s m args below meth c s₁ B hml hv
  obtain ⟨rfl, hPW⟩ := hv
  have hx := B.exec
  have hb := B.bytes
  have hr := B.returns
  have hts := atoms_spec (ws := wsL_copyRow) B.pre
  have htab := vx_table (x := yL_copyRow) B (hts (.codeWith yL_copyRow cL_copyRow 5 (some .int) [(0, 11, 14, 19)]) (by unfold wsL_copyRow; exact List.mem_cons_self))
  have hown : s.vm.findClass RL = some m.cls := findClass_of_methodNamed B.named
  have hlocks := B.notSynchronized
  have hin5 : ∀ w ∈ u_ws RX5 TX5 2, w ∈ wsL_copyRow := tu 1332 (by decide +kernel) rfl
  have hX := WX.ofW hPW
  have hO := hPW.2.2.1
  have hno := hPW.2.2.2.1
  have hl := lv_entry ([.ref (ad 57), .int x0, .int x1, .ref o]) (n := 5) (Nat.le_of_ble_eq_true rfl)
  rw [lg_entry_eq]
  generalize (lg_sl ([.ref (ad 57), .int x0, .int x1, .ref o]) ++ List.replicate (5 - (lg_sl ([.ref (ad 57), .int x0, .int x1, .ref o])).length) Slot.unset).toArray = ls at hl ⊢
  have hl : lv_has ls 5 [(0, .ref (ad 57)), (1, .int x0), (2, .int x1), (3, .ref o)] := hl
  show W p l e ({ frames := 9, cells := 1, slots := 6, locals := 147 } : Room) s m ([.ref (ad 57), .int x0, .int x1, .ref o]).toArray below meth c s.heap [] 0 0 (MQ below (va_Qi (fun r (u : XS × Int64) => LQ S u.1 ∧ R_copyRow x0 x1 S r u.1 u.2) (PO2 dC dI ad o) (AO ad o)) ([.ref (ad 57), .int x0, .int x1, .ref o]).toArray s 1 6 (AO ad o)) (F0 m 0 ls [])
  refine lv_aload_n hx hb dL_copyRow_0 rfl (lv_at hl 3 rfl) ?_
  refine lv_aload_n hx hb dL_copyRow_1 rfl (lv_at hl 0 rfl) ?_
  refine lv_iload_n hx hb dL_copyRow_2 rfl (lv_at hl 1 rfl) ?_
  refine lv_iload_n hx hb dL_copyRow_3 rfl (lv_at hl 2 rfl) ?_
  rcases lim_lt 3 (by decide) x0 with ⟨i, hi, rfl⟩ | hb9
  rotate_left
  · skip
    refine kl_throw (vx_runV (As := [.int x0, .int x1]) (rest := [.ref o]) ⟨hx, hb, hml, hown, hts⟩ (t_X4_copyRow_1 l hst dC dI ad S x0 x1 hb9) (cwV 2 hts gL_copyRow_X4_copyRow rfl rfl rfl hdX4_copyRow_2 ⟨Nat.le_of_ble_eq_true rfl, Nat.le_of_ble_eq_true rfl⟩) hPW.1.preX rfl rfl hl.1 rfl (lv_room (Nat.le_of_ble_eq_true rfl)) dL_copyRow_4 ⟨Nat.le_of_ble_eq_true rfl, Nat.le_of_ble_eq_true rfl⟩) hX hO (fun ce q9 H hce1 hce2 hce3 hX hO => ?_)
    refine vx_catch hown [] ⟨0, 11, 14, 19⟩ [] (htab.trans rfl) (fun _ h => nomatch h) rfl (by decide) (hts (.classLink RL 19 IX) (tm 830 (by decide +kernel) rfl)) (va_Nw.use rfl hPW.1.2.1.2.1.1) hce1 hce2 hce3 ?_
    refine lv_astore (lv' := [(4, .ref q9), (0, .ref (ad 57)), (1, .int x0), (2, .int x1), (3, .ref o)]) hx hb dL_copyRow_14 hl (by decide) rfl (fun ls hl => ?_)
    refine lv_iconst (v := nI 1) hx hb dL_copyRow_16 (by decide) ?_
    obtain ⟨n9, hN⟩ := hO
    exact W.widen (k := 1) (n := 6) (by simp) (by simp) (W.iret (v := nI 1) hx hb hr (fun t9 ht9 hW9 => ⟨⟨_, (S, n9), rfl, ⟨LQ_same hI h5, (Or.inl ⟨hb9, rfl, rfl⟩)⟩, hX.P ht9 hW9, by rw [ht9]; exact hN⟩, hX.2.2.2.F ht9⟩) hX.2.2.2.2.2 dL_copyRow_17)
  replace hi : i < 3 := by omega
  have hn := (hI.1 i (by omega)).1
  rcases lim_lt 3 (by decide) x1 with ⟨i2, hi2, rfl⟩ | hb9
  rotate_left
  · skip
    refine kl_throw (vx_runV (As := [.int (nI i), .int x1]) (rest := [.ref o]) ⟨hx, hb, hml, hown, hts⟩ (t_X4_copyRow_2 l hst dC dI ad S i x1 hi hb9) (cwV 2 hts gL_copyRow_X4_copyRow rfl rfl rfl hdX4_copyRow_2 ⟨Nat.le_of_ble_eq_true rfl, Nat.le_of_ble_eq_true rfl⟩) hPW.1.preX rfl rfl hl.1 rfl (lv_room (Nat.le_of_ble_eq_true rfl)) dL_copyRow_4 ⟨Nat.le_of_ble_eq_true rfl, Nat.le_of_ble_eq_true rfl⟩) hX hO (fun ce q9 H hce1 hce2 hce3 hX hO => ?_)
    refine vx_catch hown [] ⟨0, 11, 14, 19⟩ [] (htab.trans rfl) (fun _ h => nomatch h) rfl (by decide) (hts (.classLink RL 19 IX) (tm 830 (by decide +kernel) rfl)) (va_Nw.use rfl hPW.1.2.1.2.1.1) hce1 hce2 hce3 ?_
    refine lv_astore (lv' := [(4, .ref q9), (0, .ref (ad 57)), (1, .int (nI i)), (2, .int x1), (3, .ref o)]) hx hb dL_copyRow_14 hl (by decide) rfl (fun ls hl => ?_)
    refine lv_iconst (v := nI 1) hx hb dL_copyRow_16 (by decide) ?_
    obtain ⟨n9, hN⟩ := hO
    exact W.widen (k := 1) (n := 6) (by simp) (by simp) (W.iret (v := nI 1) hx hb hr (fun t9 ht9 hW9 => ⟨⟨_, (S, n9), rfl, ⟨LQ_same hI h5, (Or.inr (Or.inl ⟨i, hi, rfl, hb9, rfl, rfl⟩))⟩, hX.P ht9 hW9, by rw [ht9]; exact hN⟩, hX.2.2.2.F ht9⟩) hX.2.2.2.2.2 dL_copyRow_17)
  replace hi2 : i2 < 3 := by omega
  refine kl_ci (va_runV (As := [.int (nI i), .int (nI i2)]) (rest := [.ref o]) ⟨hx, hb, hml, hown, hts⟩ (m_X4_copyRow l dC dI ad S i i2 hi hi2 hI) (cwV 2 hts gL_copyRow_X4_copyRow rfl rfl rfl hdX4_copyRow_2 ⟨Nat.le_of_ble_eq_true rfl, Nat.le_of_ble_eq_true rfl⟩) (hX.preTop 57 6 (by decide) (by decide) rfl rfl) rfl rfl hl.1 rfl (lv_room (Nat.le_of_ble_eq_true rfl)) dL_copyRow_4 ⟨Nat.le_of_ble_eq_true rfl, Nat.le_of_ble_eq_true rfl⟩) hX hO hno (fun r9 S1 H locs hw hX hO => ?_)
  have hLQ : LQ S S1 := by rw [hw.2]; exact LQ_row0 hI h5 (rowOK_ovl (hI.1 i2 (by omega)) (hI.1 i (by omega)))
  refine lv_i2l (v := r9.toInt64) hx hb dL_copyRow_7 rfl ?_
  refine kl_putn hx hb hts hin5 hown hX hO hno (host := "OrderlatticeLaw") (va_Nw.use rfl hPW.2.2.2.2.2.1) dL_copyRow_8 (fun H locs hX hN => ?_)
  refine lv_goto (tgt := 18) hx hb dL_copyRow_11 (by decide) ?_
  refine lv_iconst (v := nI 0) hx hb dL_copyRow_18 (by decide) ?_
  exact W.widen (k := 1) (n := 6) (by simp) (by simp) (W.iret (v := nI 0) hx hb hr (fun t9 ht9 hW9 => ⟨⟨_, (S1, r9.toInt64), rfl, ⟨hLQ, (Or.inr (Or.inr ⟨i, i2, r9, hi, hi2, rfl, rfl, rfl, rfl, hw⟩))⟩, hX.P ht9 hW9, by rw [ht9]; exact hN⟩, hX.2.2.2.F ht9⟩) hX.2.2.2.2.2 dL_copyRow_19)
set_option maxHeartbeats 4000000 in
set_option maxRecDepth 100000 in
theorem m_L_turnRow (l : Launch) (hst : l.stackTraces = false) (dC : Nat → ClassId) (dI : Nat → Nat → Nat) (cB : ClassId) (ad : Nat → Nat) (o : Nat) (S : XS) (x0 : Int32) (hI : InvX S) (h5 : ∀ j, j < 4 → (S.2.1 j).2.2.2.2.1 ≤ 5) (hc : S.2.2.1 + 12 < 1000000) : Met l yL_turnRow wsL_turnRow ({ frames := 9, cells := 1, slots := 6, locals := 145 } : Room) (va_Pc [.ref (ad 57), .int x0, .ref o] (PW dC dI cB ad o S)) (va_Qi (fun r (u : XS × Int64) => LQ S u.1 ∧ R_turnRow x0 S r u.1 u.2) (PO2 dC dI ad o) (AO ad o)) 1 6 (AO ad o) := by
  refine va_MetW (cc := cL_turnRow) (maxL := 4) (ret := (some .int)) pl_L rfl ?_
  intro p e s m args below meth c s₁ B hml hv
  obtain ⟨rfl, hPW⟩ := hv
  have hx := B.exec
  have hb := B.bytes
  have hr := B.returns
  have hts := atoms_spec (ws := wsL_turnRow) B.pre
  have htab := vx_table (x := yL_turnRow) B (hts (.codeWith yL_turnRow cL_turnRow 4 (some .int) [(0, 10, 13, 19)]) (by unfold wsL_turnRow; exact List.mem_cons_self))
  have hown : s.vm.findClass RL = some m.cls := findClass_of_methodNamed B.named
  have hlocks := B.notSynchronized
  have hin5 : ∀ w ∈ u_ws RX5 TX5 2, w ∈ wsL_turnRow := tu 1332 (by decide +kernel) rfl
  have hX := WX.ofW hPW
  have hO := hPW.2.2.1
  have hno := hPW.2.2.2.1
  have hl := lv_entry ([.ref (ad 57), .int x0, .ref o]) (n := 4) (Nat.le_of_ble_eq_true rfl)
  rw [lg_entry_eq]
  generalize (lg_sl ([.ref (ad 57), .int x0, .ref o]) ++ List.replicate (4 - (lg_sl ([.ref (ad 57), .int x0, .ref o])).length) Slot.unset).toArray = ls at hl ⊢
  have hl : lv_has ls 4 [(0, .ref (ad 57)), (1, .int x0), (2, .ref o)] := hl
  show W p l e ({ frames := 9, cells := 1, slots := 6, locals := 145 } : Room) s m ([.ref (ad 57), .int x0, .ref o]).toArray below meth c s.heap [] 0 0 (MQ below (va_Qi (fun r (u : XS × Int64) => LQ S u.1 ∧ R_turnRow x0 S r u.1 u.2) (PO2 dC dI ad o) (AO ad o)) ([.ref (ad 57), .int x0, .ref o]).toArray s 1 6 (AO ad o)) (F0 m 0 ls [])
  refine lv_aload_n hx hb dL_turnRow_0 rfl (lv_at hl 2 rfl) ?_
  refine lv_aload_n hx hb dL_turnRow_1 rfl (lv_at hl 0 rfl) ?_
  refine lv_iload_n hx hb dL_turnRow_2 rfl (lv_at hl 1 rfl) ?_
  rcases lim_lt 3 (by decide) x0 with ⟨i, hi, rfl⟩ | hb9
  rotate_left
  · skip
    refine kl_throw (vx_runV (As := [.int x0]) (rest := [.ref o]) ⟨hx, hb, hml, hown, hts⟩ (t_X4_turnRow_1 l hst dC dI ad S x0 hb9) (cwV 1 hts gL_turnRow_X4_turnRow rfl rfl rfl hdX4_turnRow_1 ⟨Nat.le_of_ble_eq_true rfl, Nat.le_of_ble_eq_true rfl⟩) hPW.1.preX rfl rfl hl.1 rfl (lv_room (Nat.le_of_ble_eq_true rfl)) dL_turnRow_3 ⟨Nat.le_of_ble_eq_true rfl, Nat.le_of_ble_eq_true rfl⟩) hX hO (fun ce q9 H hce1 hce2 hce3 hX hO => ?_)
    refine vx_catch hown [] ⟨0, 10, 13, 19⟩ [] (htab.trans rfl) (fun _ h => nomatch h) rfl (by decide) (hts (.classLink RL 19 IX) (tm 830 (by decide +kernel) rfl)) (va_Nw.use rfl hPW.1.2.1.2.1.1) hce1 hce2 hce3 ?_
    refine lv_astore_n (lv' := [(3, .ref q9), (0, .ref (ad 57)), (1, .int x0), (2, .ref o)]) hx hb dL_turnRow_13 rfl hl (by decide) rfl (fun ls hl => ?_)
    refine lv_iconst (v := nI 1) hx hb dL_turnRow_14 (by decide) ?_
    obtain ⟨n9, hN⟩ := hO
    exact W.widen (k := 1) (n := 6) (by simp) (by simp) (W.iret (v := nI 1) hx hb hr (fun t9 ht9 hW9 => ⟨⟨_, (S, n9), rfl, ⟨LQ_same hI h5, (Or.inl ⟨hb9, rfl, rfl⟩)⟩, hX.P ht9 hW9, by rw [ht9]; exact hN⟩, hX.2.2.2.F ht9⟩) hX.2.2.2.2.2 dL_turnRow_15)
  replace hi : i < 3 := by omega
  have hn := (hI.1 i (by omega)).1
  refine kl_ci (va_runV (As := [.int (nI i)]) (rest := [.ref o]) ⟨hx, hb, hml, hown, hts⟩ (m_X4_turnRow l dC dI ad S i hi hI) (cwV 1 hts gL_turnRow_X4_turnRow rfl rfl rfl hdX4_turnRow_1 ⟨Nat.le_of_ble_eq_true rfl, Nat.le_of_ble_eq_true rfl⟩) (hX.preTop 57 6 (by decide) (by decide) rfl rfl) rfl rfl hl.1 rfl (lv_room (Nat.le_of_ble_eq_true rfl)) dL_turnRow_3 ⟨Nat.le_of_ble_eq_true rfl, Nat.le_of_ble_eq_true rfl⟩) hX hO hno (fun r9 S1 H locs hw hX hO => ?_)
  have hLQ : LQ S S1 := by rw [hw.2]; exact LQ_row0 hI h5 (rowOK_rev (hI.1 i (by omega)))
  refine lv_i2l (v := r9.toInt64) hx hb dL_turnRow_6 rfl ?_
  refine kl_putn hx hb hts hin5 hown hX hO hno (host := "OrderlatticeLaw") (va_Nw.use rfl hPW.2.2.2.2.2.1) dL_turnRow_7 (fun H locs hX hN => ?_)
  refine lv_goto (tgt := 16) hx hb dL_turnRow_10 (by decide) ?_
  refine lv_iconst (v := nI 0) hx hb dL_turnRow_16 (by decide) ?_
  exact W.widen (k := 1) (n := 6) (by simp) (by simp) (W.iret (v := nI 0) hx hb hr (fun t9 ht9 hW9 => ⟨⟨_, (S1, r9.toInt64), rfl, ⟨hLQ, (Or.inr ⟨i, r9, hi, rfl, rfl, rfl, hw⟩)⟩, hX.P ht9 hW9, by rw [ht9]; exact hN⟩, hX.2.2.2.F ht9⟩) hX.2.2.2.2.2 dL_turnRow_17)
set_option maxHeartbeats 4000000 in
set_option maxRecDepth 100000 in
theorem m_L_wheel (l : Launch) (hst : l.stackTraces = false) (dC : Nat → ClassId) (dI : Nat → Nat → Nat) (cB : ClassId) (ad : Nat → Nat) (o : Nat) (S : XS) (x0 : Int32) (x1 : Int32) (hI : InvX S) (h5 : ∀ j, j < 4 → (S.2.1 j).2.2.2.2.1 ≤ 5) (hc : S.2.2.1 + 12 < 1000000) : Met l yL_wheel wsL_wheel ({ frames := 9, cells := 1, slots := 6, locals := 149 } : Room) (va_Pc [.ref (ad 57), .int x0, .int x1, .ref o] (PW dC dI cB ad o S)) (va_Qi (fun r (u : XS × Int64) => LQ S u.1 ∧ R_wheel x0 x1 S r u.1 u.2) (PO2 dC dI ad o) (AO ad o)) 1 6 (AO ad o) := by
  refine va_MetW (cc := cL_wheel) (maxL := 5) (ret := (some .int)) pl_L rfl ?_
  intro p e s m args below meth c s₁ B hml hv
  obtain ⟨rfl, hPW⟩ := hv
  have hx := B.exec
  have hb := B.bytes
  have hr := B.returns
  have hts := atoms_spec (ws := wsL_wheel) B.pre
  have htab := vx_table (x := yL_wheel) B (hts (.codeWith yL_wheel cL_wheel 5 (some .int) [(0, 11, 14, 19)]) (by unfold wsL_wheel; exact List.mem_cons_self))
  have hown : s.vm.findClass RL = some m.cls := findClass_of_methodNamed B.named
  have hlocks := B.notSynchronized
  have hin5 : ∀ w ∈ u_ws RX5 TX5 2, w ∈ wsL_wheel := tu 1332 (by decide +kernel) rfl
  have hX := WX.ofW hPW
  have hO := hPW.2.2.1
  have hno := hPW.2.2.2.1
  have hl := lv_entry ([.ref (ad 57), .int x0, .int x1, .ref o]) (n := 5) (Nat.le_of_ble_eq_true rfl)
  rw [lg_entry_eq]
  generalize (lg_sl ([.ref (ad 57), .int x0, .int x1, .ref o]) ++ List.replicate (5 - (lg_sl ([.ref (ad 57), .int x0, .int x1, .ref o])).length) Slot.unset).toArray = ls at hl ⊢
  have hl : lv_has ls 5 [(0, .ref (ad 57)), (1, .int x0), (2, .int x1), (3, .ref o)] := hl
  show W p l e ({ frames := 9, cells := 1, slots := 6, locals := 149 } : Room) s m ([.ref (ad 57), .int x0, .int x1, .ref o]).toArray below meth c s.heap [] 0 0 (MQ below (va_Qi (fun r (u : XS × Int64) => LQ S u.1 ∧ R_wheel x0 x1 S r u.1 u.2) (PO2 dC dI ad o) (AO ad o)) ([.ref (ad 57), .int x0, .int x1, .ref o]).toArray s 1 6 (AO ad o)) (F0 m 0 ls [])
  refine lv_aload_n hx hb dL_wheel_0 rfl (lv_at hl 3 rfl) ?_
  refine lv_aload_n hx hb dL_wheel_1 rfl (lv_at hl 0 rfl) ?_
  refine lv_iload_n hx hb dL_wheel_2 rfl (lv_at hl 1 rfl) ?_
  refine lv_iload_n hx hb dL_wheel_3 rfl (lv_at hl 2 rfl) ?_
  rcases lim_lt 3 (by decide) x0 with ⟨i, hi, rfl⟩ | hb9
  rotate_left
  · skip
    refine kl_throw (vx_runV (As := [.int x0, .int x1]) (rest := [.ref o]) ⟨hx, hb, hml, hown, hts⟩ (t_X4_wheel_1 l hst dC dI ad S x0 x1 hb9) (cwV 2 hts gL_wheel_X4_wheel rfl rfl rfl hdX4_wheel_2 ⟨Nat.le_of_ble_eq_true rfl, Nat.le_of_ble_eq_true rfl⟩) hPW.1.preX rfl rfl hl.1 rfl (lv_room (Nat.le_of_ble_eq_true rfl)) dL_wheel_4 ⟨Nat.le_of_ble_eq_true rfl, Nat.le_of_ble_eq_true rfl⟩) hX hO (fun ce q9 H hce1 hce2 hce3 hX hO => ?_)
    refine vx_catch hown [] ⟨0, 11, 14, 19⟩ [] (htab.trans rfl) (fun _ h => nomatch h) rfl (by decide) (hts (.classLink RL 19 IX) (tm 830 (by decide +kernel) rfl)) (va_Nw.use rfl hPW.1.2.1.2.1.1) hce1 hce2 hce3 ?_
    refine lv_astore (lv' := [(4, .ref q9), (0, .ref (ad 57)), (1, .int x0), (2, .int x1), (3, .ref o)]) hx hb dL_wheel_14 hl (by decide) rfl (fun ls hl => ?_)
    refine lv_iconst (v := nI 1) hx hb dL_wheel_16 (by decide) ?_
    obtain ⟨n9, hN⟩ := hO
    exact W.widen (k := 1) (n := 6) (by simp) (by simp) (W.iret (v := nI 1) hx hb hr (fun t9 ht9 hW9 => ⟨⟨_, (S, n9), rfl, ⟨LQ_same hI h5, (Or.inl ⟨hb9, rfl, rfl⟩)⟩, hX.P ht9 hW9, by rw [ht9]; exact hN⟩, hX.2.2.2.F ht9⟩) hX.2.2.2.2.2 dL_wheel_17)
  replace hi : i < 3 := by omega
  have hn := (hI.1 i (by omega)).1
  refine kl_ci (va_runV (As := [.int (nI i), .int x1]) (rest := [.ref o]) ⟨hx, hb, hml, hown, hts⟩ (s_X4_wheel l dC dI ad S i x1 hi hI) (cwV 2 hts gL_wheel_X4_wheel rfl rfl rfl hdX4_wheel_2 ⟨Nat.le_of_ble_eq_true rfl, Nat.le_of_ble_eq_true rfl⟩) (hX.preTop 57 6 (by decide) (by decide) rfl rfl) rfl rfl hl.1 rfl (lv_room (Nat.le_of_ble_eq_true rfl)) dL_wheel_4 ⟨Nat.le_of_ble_eq_true rfl, Nat.le_of_ble_eq_true rfl⟩) hX hO hno (fun r9 S1 H locs hw hX hO => ?_)
  have hLQ : LQ S S1 := LQ_wheel hI h5 (hw.imp id (fun h => by obtain ⟨h0, sh, r4, r8, a1, a2, a3, a4, a5, a6, a7, -⟩ := h; exact ⟨h0, _, sh, r4, r8, a1, a2, a3, a4, a5, a6, a7⟩))
  refine lv_i2l (v := r9.toInt64) hx hb dL_wheel_7 rfl ?_
  refine kl_putn hx hb hts hin5 hown hX hO hno (host := "OrderlatticeLaw") (va_Nw.use rfl hPW.2.2.2.2.2.1) dL_wheel_8 (fun H locs hX hN => ?_)
  refine lv_goto (tgt := 18) hx hb dL_wheel_11 (by decide) ?_
  refine lv_iconst (v := nI 0) hx hb dL_wheel_18 (by decide) ?_
  exact W.widen (k := 1) (n := 6) (by simp) (by simp) (W.iret (v := nI 0) hx hb hr (fun t9 ht9 hW9 => ⟨⟨_, (S1, r9.toInt64), rfl, ⟨hLQ, (Or.inr ⟨i, r9, hi, rfl, rfl, rfl, hw⟩)⟩, hX.P ht9 hW9, by rw [ht9]; exact hN⟩, hX.2.2.2.F ht9⟩) hX.2.2.2.2.2 dL_wheel_19)
set_option maxHeartbeats 4000000 in
set_option maxRecDepth 100000 in
theorem m_L_swap (l : Launch) (hst : l.stackTraces = false) (dC : Nat → ClassId) (dI : Nat → Nat → Nat) (cB : ClassId) (ad : Nat → Nat) (o : Nat) (S : XS) (x0 : Int32) (x1 : Int32) (x2 : Int32) (hI : InvX S) (h5 : ∀ j, j < 4 → (S.2.1 j).2.2.2.2.1 ≤ 5) (hc : S.2.2.1 + 12 < 1000000) : Met l yL_swap wsL_swap ({ frames := 9, cells := 1, slots := 6, locals := 147 } : Room) (va_Pc [.ref (ad 57), .int x0, .int x1, .int x2, .ref o] (PW dC dI cB ad o S)) (va_Qi (fun r (u : XS × Int64) => LQ S u.1 ∧ R_swap x0 x1 x2 S r u.1 u.2) (PO2 dC dI ad o) (AO ad o)) 1 6 (AO ad o) := by
  refine va_MetW (cc := cL_swap) (maxL := 6) (ret := (some .int)) pl_L rfl ?_
  intro p e s m args below meth c s₁ B hml hv
  obtain ⟨rfl, hPW⟩ := hv
  have hx := B.exec
  have hb := B.bytes
  have hr := B.returns
  have hts := atoms_spec (ws := wsL_swap) B.pre
  have htab := vx_table (x := yL_swap) B (hts (.codeWith yL_swap cL_swap 6 (some .int) [(0, 13, 16, 19)]) (by unfold wsL_swap; exact List.mem_cons_self))
  have hown : s.vm.findClass RL = some m.cls := findClass_of_methodNamed B.named
  have hlocks := B.notSynchronized
  have hin5 : ∀ w ∈ u_ws RX5 TX5 2, w ∈ wsL_swap := tu 1332 (by decide +kernel) rfl
  have hX := WX.ofW hPW
  have hO := hPW.2.2.1
  have hno := hPW.2.2.2.1
  have hl := lv_entry ([.ref (ad 57), .int x0, .int x1, .int x2, .ref o]) (n := 6) (Nat.le_of_ble_eq_true rfl)
  rw [lg_entry_eq]
  generalize (lg_sl ([.ref (ad 57), .int x0, .int x1, .int x2, .ref o]) ++ List.replicate (6 - (lg_sl ([.ref (ad 57), .int x0, .int x1, .int x2, .ref o])).length) Slot.unset).toArray = ls at hl ⊢
  have hl : lv_has ls 6 [(0, .ref (ad 57)), (1, .int x0), (2, .int x1), (3, .int x2), (4, .ref o)] := hl
  show W p l e ({ frames := 9, cells := 1, slots := 6, locals := 147 } : Room) s m ([.ref (ad 57), .int x0, .int x1, .int x2, .ref o]).toArray below meth c s.heap [] 0 0 (MQ below (va_Qi (fun r (u : XS × Int64) => LQ S u.1 ∧ R_swap x0 x1 x2 S r u.1 u.2) (PO2 dC dI ad o) (AO ad o)) ([.ref (ad 57), .int x0, .int x1, .int x2, .ref o]).toArray s 1 6 (AO ad o)) (F0 m 0 ls [])
  refine lv_aload hx hb dL_swap_0 (lv_at hl 4 rfl) ?_
  refine lv_aload_n hx hb dL_swap_2 rfl (lv_at hl 0 rfl) ?_
  refine lv_iload_n hx hb dL_swap_3 rfl (lv_at hl 1 rfl) ?_
  refine lv_iload_n hx hb dL_swap_4 rfl (lv_at hl 2 rfl) ?_
  refine lv_iload_n hx hb dL_swap_5 rfl (lv_at hl 3 rfl) ?_
  rcases lim_lt 3 (by decide) x0 with ⟨i, hi, rfl⟩ | hb9
  rotate_left
  · skip
    refine kl_throw (vx_runV (As := [.int x0, .int x1, .int x2]) (rest := [.ref o]) ⟨hx, hb, hml, hown, hts⟩ (t_X4_swap_1 l hst dC dI ad S x0 x1 x2 hb9) (cwV 3 hts gL_swap_X4_swap rfl rfl rfl hdX4_swap_3 ⟨Nat.le_of_ble_eq_true rfl, Nat.le_of_ble_eq_true rfl⟩) hPW.1.preX rfl rfl hl.1 rfl (lv_room (Nat.le_of_ble_eq_true rfl)) dL_swap_6 ⟨Nat.le_of_ble_eq_true rfl, Nat.le_of_ble_eq_true rfl⟩) hX hO (fun ce q9 H hce1 hce2 hce3 hX hO => ?_)
    refine vx_catch hown [] ⟨0, 13, 16, 19⟩ [] (htab.trans rfl) (fun _ h => nomatch h) rfl (by decide) (hts (.classLink RL 19 IX) (tm 830 (by decide +kernel) rfl)) (va_Nw.use rfl hPW.1.2.1.2.1.1) hce1 hce2 hce3 ?_
    refine lv_astore (lv' := [(5, .ref q9), (0, .ref (ad 57)), (1, .int x0), (2, .int x1), (3, .int x2), (4, .ref o)]) hx hb dL_swap_16 hl (by decide) rfl (fun ls hl => ?_)
    refine lv_iconst (v := nI 1) hx hb dL_swap_18 (by decide) ?_
    obtain ⟨n9, hN⟩ := hO
    exact W.widen (k := 1) (n := 6) (by simp) (by simp) (W.iret (v := nI 1) hx hb hr (fun t9 ht9 hW9 => ⟨⟨_, (S, n9), rfl, ⟨LQ_same hI h5, (Or.inl ⟨hb9, rfl, rfl⟩)⟩, hX.P ht9 hW9, by rw [ht9]; exact hN⟩, hX.2.2.2.F ht9⟩) hX.2.2.2.2.2 dL_swap_19)
  replace hi : i < 3 := by omega
  have hn := (hI.1 i (by omega)).1
  rcases lim_lt (S.1 i).2.2 (by omega) x1 with ⟨q, hq, rfl⟩ | hb9
  rotate_left
  · skip
    refine kl_throw (vx_runV (As := [.int (nI i), .int x1, .int x2]) (rest := [.ref o]) ⟨hx, hb, hml, hown, hts⟩ (t_X4_swap_2 l hst dC dI ad S i x1 x2 hi (by omega) hb9) (cwV 3 hts gL_swap_X4_swap rfl rfl rfl hdX4_swap_3 ⟨Nat.le_of_ble_eq_true rfl, Nat.le_of_ble_eq_true rfl⟩) hPW.1.preX rfl rfl hl.1 rfl (lv_room (Nat.le_of_ble_eq_true rfl)) dL_swap_6 ⟨Nat.le_of_ble_eq_true rfl, Nat.le_of_ble_eq_true rfl⟩) hX hO (fun ce q9 H hce1 hce2 hce3 hX hO => ?_)
    refine vx_catch hown [] ⟨0, 13, 16, 19⟩ [] (htab.trans rfl) (fun _ h => nomatch h) rfl (by decide) (hts (.classLink RL 19 IX) (tm 830 (by decide +kernel) rfl)) (va_Nw.use rfl hPW.1.2.1.2.1.1) hce1 hce2 hce3 ?_
    refine lv_astore (lv' := [(5, .ref q9), (0, .ref (ad 57)), (1, .int (nI i)), (2, .int x1), (3, .int x2), (4, .ref o)]) hx hb dL_swap_16 hl (by decide) rfl (fun ls hl => ?_)
    refine lv_iconst (v := nI 1) hx hb dL_swap_18 (by decide) ?_
    obtain ⟨n9, hN⟩ := hO
    exact W.widen (k := 1) (n := 6) (by simp) (by simp) (W.iret (v := nI 1) hx hb hr (fun t9 ht9 hW9 => ⟨⟨_, (S, n9), rfl, ⟨LQ_same hI h5, (Or.inr (Or.inl ⟨i, hi, rfl, hb9, rfl, rfl⟩))⟩, hX.P ht9 hW9, by rw [ht9]; exact hN⟩, hX.2.2.2.F ht9⟩) hX.2.2.2.2.2 dL_swap_19)
  replace hq : q < (S.1 i).2.2 := by omega
  rcases lim_lt (S.1 i).2.2 (by omega) x2 with ⟨q2, hq2, rfl⟩ | hb9
  rotate_left
  · skip
    refine kl_throw (vx_runV (As := [.int (nI i), .int (nI q), .int x2]) (rest := [.ref o]) ⟨hx, hb, hml, hown, hts⟩ (t_X4_swap_3 l hst dC dI ad S i q x2 hi hq (by omega) hb9) (cwV 3 hts gL_swap_X4_swap rfl rfl rfl hdX4_swap_3 ⟨Nat.le_of_ble_eq_true rfl, Nat.le_of_ble_eq_true rfl⟩) hPW.1.preX rfl rfl hl.1 rfl (lv_room (Nat.le_of_ble_eq_true rfl)) dL_swap_6 ⟨Nat.le_of_ble_eq_true rfl, Nat.le_of_ble_eq_true rfl⟩) hX hO (fun ce q9 H hce1 hce2 hce3 hX hO => ?_)
    refine vx_catch hown [] ⟨0, 13, 16, 19⟩ [] (htab.trans rfl) (fun _ h => nomatch h) rfl (by decide) (hts (.classLink RL 19 IX) (tm 830 (by decide +kernel) rfl)) (va_Nw.use rfl hPW.1.2.1.2.1.1) hce1 hce2 hce3 ?_
    refine lv_astore (lv' := [(5, .ref q9), (0, .ref (ad 57)), (1, .int (nI i)), (2, .int (nI q)), (3, .int x2), (4, .ref o)]) hx hb dL_swap_16 hl (by decide) rfl (fun ls hl => ?_)
    refine lv_iconst (v := nI 1) hx hb dL_swap_18 (by decide) ?_
    obtain ⟨n9, hN⟩ := hO
    exact W.widen (k := 1) (n := 6) (by simp) (by simp) (W.iret (v := nI 1) hx hb hr (fun t9 ht9 hW9 => ⟨⟨_, (S, n9), rfl, ⟨LQ_same hI h5, (Or.inr (Or.inr (Or.inl ⟨i, q, hi, hq, rfl, rfl, hb9, rfl, rfl⟩)))⟩, hX.P ht9 hW9, by rw [ht9]; exact hN⟩, hX.2.2.2.F ht9⟩) hX.2.2.2.2.2 dL_swap_19)
  replace hq2 : q2 < (S.1 i).2.2 := by omega
  refine kl_ci (va_runV (As := [.int (nI i), .int (nI q), .int (nI q2)]) (rest := [.ref o]) ⟨hx, hb, hml, hown, hts⟩ (m_X4_swap l dC dI ad S i q q2 hi hq hq2 hI) (cwV 3 hts gL_swap_X4_swap rfl rfl rfl hdX4_swap_3 ⟨Nat.le_of_ble_eq_true rfl, Nat.le_of_ble_eq_true rfl⟩) (hX.preTop 57 6 (by decide) (by decide) rfl rfl) rfl rfl hl.1 rfl (lv_room (Nat.le_of_ble_eq_true rfl)) dL_swap_6 ⟨Nat.le_of_ble_eq_true rfl, Nat.le_of_ble_eq_true rfl⟩) hX hO hno (fun r9 S1 H locs hw hX hO => ?_)
  have hLQ : LQ S S1 := by rw [hw.2]; exact LQ_row0 hI h5 (rowOK_xch (hI.1 i (by omega)) (by omega) (by omega))
  refine lv_i2l (v := r9.toInt64) hx hb dL_swap_9 rfl ?_
  refine kl_putn hx hb hts hin5 hown hX hO hno (host := "OrderlatticeLaw") (va_Nw.use rfl hPW.2.2.2.2.2.1) dL_swap_10 (fun H locs hX hN => ?_)
  refine lv_goto (tgt := 20) hx hb dL_swap_13 (by decide) ?_
  refine lv_iconst (v := nI 0) hx hb dL_swap_20 (by decide) ?_
  exact W.widen (k := 1) (n := 6) (by simp) (by simp) (W.iret (v := nI 0) hx hb hr (fun t9 ht9 hW9 => ⟨⟨_, (S1, r9.toInt64), rfl, ⟨hLQ, (Or.inr (Or.inr (Or.inr ⟨i, q, q2, r9, hi, hq, hq2, rfl, rfl, rfl, rfl, rfl, hw⟩)))⟩, hX.P ht9 hW9, by rw [ht9]; exact hN⟩, hX.2.2.2.F ht9⟩) hX.2.2.2.2.2 dL_swap_21)
set_option maxHeartbeats 4000000 in
set_option maxRecDepth 100000 in
theorem m_L_sort (l : Launch) (hst : l.stackTraces = false) (dC : Nat → ClassId) (dI : Nat → Nat → Nat) (cB : ClassId) (ad : Nat → Nat) (o : Nat) (S : XS) (x0 : Int32) (x1 : Int32) (x2 : Int32) (hI : InvX S) (h5 : ∀ j, j < 4 → (S.2.1 j).2.2.2.2.1 ≤ 5) (hc : S.2.2.1 + 12 < 1000000) : Met l yL_sort wsL_sort ({ frames := 9, cells := 1, slots := 6, locals := 148 } : Room) (va_Pc [.ref (ad 57), .int x0, .int x1, .int x2, .ref o] (PW dC dI cB ad o S)) (va_Qi (fun r (u : XS × Int64) => LQ S u.1 ∧ R_sort x0 x1 x2 S r u.1 u.2) (PO2 dC dI ad o) (AO ad o)) 1 6 (AO ad o) := by
  refine va_MetW (cc := cL_sort) (maxL := 6) (ret := (some .int)) pl_L rfl ?_
  intro p e s m args below meth c s₁ B hml hv
  obtain ⟨rfl, hPW⟩ := hv
  have hx := B.exec
  have hb := B.bytes
  have hr := B.returns
  have hts := atoms_spec (ws := wsL_sort) B.pre
  have htab := vx_table (x := yL_sort) B (hts (.codeWith yL_sort cL_sort 6 (some .int) [(0, 13, 16, 19), (0, 13, 20, 21)]) (by unfold wsL_sort; exact List.mem_cons_self))
  have hown : s.vm.findClass RL = some m.cls := findClass_of_methodNamed B.named
  have hlocks := B.notSynchronized
  have hin5 : ∀ w ∈ u_ws RX5 TX5 2, w ∈ wsL_sort := tu 1332 (by decide +kernel) rfl
  have hX := WX.ofW hPW
  have hO := hPW.2.2.1
  have hno := hPW.2.2.2.1
  have hl := lv_entry ([.ref (ad 57), .int x0, .int x1, .int x2, .ref o]) (n := 6) (Nat.le_of_ble_eq_true rfl)
  rw [lg_entry_eq]
  generalize (lg_sl ([.ref (ad 57), .int x0, .int x1, .int x2, .ref o]) ++ List.replicate (6 - (lg_sl ([.ref (ad 57), .int x0, .int x1, .int x2, .ref o])).length) Slot.unset).toArray = ls at hl ⊢
  have hl : lv_has ls 6 [(0, .ref (ad 57)), (1, .int x0), (2, .int x1), (3, .int x2), (4, .ref o)] := hl
  show W p l e ({ frames := 9, cells := 1, slots := 6, locals := 148 } : Room) s m ([.ref (ad 57), .int x0, .int x1, .int x2, .ref o]).toArray below meth c s.heap [] 0 0 (MQ below (va_Qi (fun r (u : XS × Int64) => LQ S u.1 ∧ R_sort x0 x1 x2 S r u.1 u.2) (PO2 dC dI ad o) (AO ad o)) ([.ref (ad 57), .int x0, .int x1, .int x2, .ref o]).toArray s 1 6 (AO ad o)) (F0 m 0 ls [])
  refine lv_aload hx hb dL_sort_0 (lv_at hl 4 rfl) ?_
  refine lv_aload_n hx hb dL_sort_2 rfl (lv_at hl 0 rfl) ?_
  refine lv_iload_n hx hb dL_sort_3 rfl (lv_at hl 1 rfl) ?_
  refine lv_iload_n hx hb dL_sort_4 rfl (lv_at hl 2 rfl) ?_
  refine lv_iload_n hx hb dL_sort_5 rfl (lv_at hl 3 rfl) ?_
  rcases lim_lt 3 (by decide) x0 with ⟨i, hi, rfl⟩ | hb9
  rotate_left
  · skip
    refine kl_throw (vx_runV (As := [.int x0, .int x1, .int x2]) (rest := [.ref o]) ⟨hx, hb, hml, hown, hts⟩ (t_X4_sort_1 l hst dC dI ad S x0 x1 x2 hb9) (cwV 3 hts gL_sort_X4_sort rfl rfl rfl hdX4_sort_3 ⟨Nat.le_of_ble_eq_true rfl, Nat.le_of_ble_eq_true rfl⟩) hPW.1.preX rfl rfl hl.1 rfl (lv_room (Nat.le_of_ble_eq_true rfl)) dL_sort_6 ⟨Nat.le_of_ble_eq_true rfl, Nat.le_of_ble_eq_true rfl⟩) hX hO (fun ce q9 H hce1 hce2 hce3 hX hO => ?_)
    refine vx_catch hown [] ⟨0, 13, 16, 19⟩ [⟨0, 13, 20, 21⟩] (htab.trans rfl) (fun _ h => nomatch h) rfl (by decide) (hts (.classLink RL 19 IX) (tm 830 (by decide +kernel) rfl)) (va_Nw.use rfl hPW.1.2.1.2.1.1) hce1 hce2 hce3 ?_
    refine lv_astore (lv' := [(5, .ref q9), (0, .ref (ad 57)), (1, .int x0), (2, .int x1), (3, .int x2), (4, .ref o)]) hx hb dL_sort_16 hl (by decide) rfl (fun ls hl => ?_)
    refine lv_iconst (v := nI 1) hx hb dL_sort_18 (by decide) ?_
    obtain ⟨n9, hN⟩ := hO
    exact W.widen (k := 1) (n := 6) (by simp) (by simp) (W.iret (v := nI 1) hx hb hr (fun t9 ht9 hW9 => ⟨⟨_, (S, n9), rfl, ⟨LQ_same hI h5, (Or.inl ⟨hb9, rfl, rfl⟩)⟩, hX.P ht9 hW9, by rw [ht9]; exact hN⟩, hX.2.2.2.F ht9⟩) hX.2.2.2.2.2 dL_sort_19)
  replace hi : i < 3 := by omega
  have hn := (hI.1 i (by omega)).1
  rcases lim_lt 4 (by decide) x1 with ⟨j, hj, rfl⟩ | hb9
  rotate_left
  · skip
    refine kl_throw (vx_runV (As := [.int (nI i), .int x1, .int x2]) (rest := [.ref o]) ⟨hx, hb, hml, hown, hts⟩ (t_X4_sort_2 l hst dC dI ad S i x1 x2 hi hb9) (cwV 3 hts gL_sort_X4_sort rfl rfl rfl hdX4_sort_3 ⟨Nat.le_of_ble_eq_true rfl, Nat.le_of_ble_eq_true rfl⟩) hPW.1.preX rfl rfl hl.1 rfl (lv_room (Nat.le_of_ble_eq_true rfl)) dL_sort_6 ⟨Nat.le_of_ble_eq_true rfl, Nat.le_of_ble_eq_true rfl⟩) hX hO (fun ce q9 H hce1 hce2 hce3 hX hO => ?_)
    refine vx_catch hown [] ⟨0, 13, 16, 19⟩ [⟨0, 13, 20, 21⟩] (htab.trans rfl) (fun _ h => nomatch h) rfl (by decide) (hts (.classLink RL 19 IX) (tm 830 (by decide +kernel) rfl)) (va_Nw.use rfl hPW.1.2.1.2.1.1) hce1 hce2 hce3 ?_
    refine lv_astore (lv' := [(5, .ref q9), (0, .ref (ad 57)), (1, .int (nI i)), (2, .int x1), (3, .int x2), (4, .ref o)]) hx hb dL_sort_16 hl (by decide) rfl (fun ls hl => ?_)
    refine lv_iconst (v := nI 1) hx hb dL_sort_18 (by decide) ?_
    obtain ⟨n9, hN⟩ := hO
    exact W.widen (k := 1) (n := 6) (by simp) (by simp) (W.iret (v := nI 1) hx hb hr (fun t9 ht9 hW9 => ⟨⟨_, (S, n9), rfl, ⟨LQ_same hI h5, (Or.inr (Or.inl ⟨i, hi, rfl, hb9, rfl, rfl⟩))⟩, hX.P ht9 hW9, by rw [ht9]; exact hN⟩, hX.2.2.2.F ht9⟩) hX.2.2.2.2.2 dL_sort_19)
  replace hj : j < 4 := by omega
  rcases lim_le 2 (by decide) x2 with ⟨k, hk, rfl⟩ | hb9
  rotate_left
  · skip
    refine kl_throw (vx_runV (As := [.int (nI i), .int (nI j), .int x2]) (rest := [.ref o]) ⟨hx, hb, hml, hown, hts⟩ (t_X4_sort_3 l hst dC dI ad S i j x2 hi hj hb9) (cwV 3 hts gL_sort_X4_sort rfl rfl rfl hdX4_sort_3 ⟨Nat.le_of_ble_eq_true rfl, Nat.le_of_ble_eq_true rfl⟩) hPW.1.preX rfl rfl hl.1 rfl (lv_room (Nat.le_of_ble_eq_true rfl)) dL_sort_6 ⟨Nat.le_of_ble_eq_true rfl, Nat.le_of_ble_eq_true rfl⟩) hX hO (fun ce q9 H hce1 hce2 hce3 hX hO => ?_)
    refine vx_catch hown [⟨0, 13, 16, 19⟩] ⟨0, 13, 20, 21⟩ [] (htab.trans rfl) (fun z hz => by rw [List.mem_singleton.mp hz]; exact Or.inr ⟨by decide, IX, hts (.classLink RL 19 IX) (by decide +kernel), hPW.2.2.2.2.1⟩) rfl (by decide) (hts (.classLink RL 21 IA) (tm 831 (by decide +kernel) rfl)) (va_Nw.use rfl hPW.1.2.1.2.1.2) hce1 hce2 hce3 ?_
    refine lv_astore (lv' := [(5, .ref q9), (0, .ref (ad 57)), (1, .int (nI i)), (2, .int (nI j)), (3, .int x2), (4, .ref o)]) hx hb dL_sort_20 hl (by decide) rfl (fun ls hl => ?_)
    refine lv_iconst (v := nI 2) hx hb dL_sort_22 (by decide) ?_
    obtain ⟨n9, hN⟩ := hO
    exact W.widen (k := 1) (n := 6) (by simp) (by simp) (W.iret (v := nI 2) hx hb hr (fun t9 ht9 hW9 => ⟨⟨_, (S, n9), rfl, ⟨LQ_same hI h5, (Or.inr (Or.inr (Or.inl ⟨i, j, hi, hj, rfl, rfl, hb9, rfl, rfl⟩)))⟩, hX.P ht9 hW9, by rw [ht9]; exact hN⟩, hX.2.2.2.F ht9⟩) hX.2.2.2.2.2 dL_sort_23)
  replace hk : k ≤ 2 := by omega
  refine kl_ci (va_runV (As := [.int (nI i), .int (nI j), .int (nI k)]) (rest := [.ref o]) ⟨hx, hb, hml, hown, hts⟩ (s_X4_sort l dC dI ad S i j k hi hj hk hI) (cwV 3 hts gL_sort_X4_sort rfl rfl rfl hdX4_sort_3 ⟨Nat.le_of_ble_eq_true rfl, Nat.le_of_ble_eq_true rfl⟩) (hX.preTop 57 6 (by decide) (by decide) rfl rfl) rfl rfl hl.1 rfl (lv_room (Nat.le_of_ble_eq_true rfl)) dL_sort_6 ⟨Nat.le_of_ble_eq_true rfl, Nat.le_of_ble_eq_true rfl⟩) hX hO hno (fun r9 S1 H locs hw hX hO => ?_)
  have hLQ : LQ S S1 := LQ_sort hI h5 hw.2.1
  refine lv_i2l (v := r9.toInt64) hx hb dL_sort_9 rfl ?_
  refine kl_putn hx hb hts hin5 hown hX hO hno (host := "OrderlatticeLaw") (va_Nw.use rfl hPW.2.2.2.2.2.1) dL_sort_10 (fun H locs hX hN => ?_)
  refine lv_goto (tgt := 24) hx hb dL_sort_13 (by decide) ?_
  refine lv_iconst (v := nI 0) hx hb dL_sort_24 (by decide) ?_
  exact W.widen (k := 1) (n := 6) (by simp) (by simp) (W.iret (v := nI 0) hx hb hr (fun t9 ht9 hW9 => ⟨⟨_, (S1, r9.toInt64), rfl, ⟨hLQ, (Or.inr (Or.inr (Or.inr ⟨i, j, k, r9, hi, hj, hk, rfl, rfl, rfl, rfl, rfl, hw⟩)))⟩, hX.P ht9 hW9, by rw [ht9]; exact hN⟩, hX.2.2.2.F ht9⟩) hX.2.2.2.2.2 dL_sort_25)
set_option maxHeartbeats 4000000 in
set_option maxRecDepth 100000 in
theorem m_L_sortPart (l : Launch) (hst : l.stackTraces = false) (dC : Nat → ClassId) (dI : Nat → Nat → Nat) (cB : ClassId) (ad : Nat → Nat) (o : Nat) (S : XS) (x0 : Int32) (x1 : Int32) (x2 : Int32) (x3 : Int32) (hI : InvX S) (h5 : ∀ j, j < 4 → (S.2.1 j).2.2.2.2.1 ≤ 5) (hc : S.2.2.1 + 12 < 1000000) : Met l yL_sortPart wsL_sortPart ({ frames := 9, cells := 1, slots := 6, locals := 149 } : Room) (va_Pc [.ref (ad 57), .int x0, .int x1, .int x2, .int x3, .ref o] (PW dC dI cB ad o S)) (va_Qi (fun r (u : XS × Int64) => LQ S u.1 ∧ R_sortPart x0 x1 x2 x3 S r u.1 u.2) (PO2 dC dI ad o) (AO ad o)) 1 6 (AO ad o) := by
  refine va_MetW (cc := cL_sortPart) (maxL := 7) (ret := (some .int)) pl_L rfl ?_
  intro p e s m args below meth c s₁ B hml hv
  obtain ⟨rfl, hPW⟩ := hv
  have hx := B.exec
  have hb := B.bytes
  have hr := B.returns
  have hts := atoms_spec (ws := wsL_sortPart) B.pre
  have htab := vx_table (x := yL_sortPart) B (hts (.codeWith yL_sortPart cL_sortPart 7 (some .int) [(0, 15, 18, 19), (0, 15, 22, 21)]) (by unfold wsL_sortPart; exact List.mem_cons_self))
  have hown : s.vm.findClass RL = some m.cls := findClass_of_methodNamed B.named
  have hlocks := B.notSynchronized
  have hin5 : ∀ w ∈ u_ws RX5 TX5 2, w ∈ wsL_sortPart := tu 1332 (by decide +kernel) rfl
  have hX := WX.ofW hPW
  have hO := hPW.2.2.1
  have hno := hPW.2.2.2.1
  have hl := lv_entry ([.ref (ad 57), .int x0, .int x1, .int x2, .int x3, .ref o]) (n := 7) (Nat.le_of_ble_eq_true rfl)
  rw [lg_entry_eq]
  generalize (lg_sl ([.ref (ad 57), .int x0, .int x1, .int x2, .int x3, .ref o]) ++ List.replicate (7 - (lg_sl ([.ref (ad 57), .int x0, .int x1, .int x2, .int x3, .ref o])).length) Slot.unset).toArray = ls at hl ⊢
  have hl : lv_has ls 7 [(0, .ref (ad 57)), (1, .int x0), (2, .int x1), (3, .int x2), (4, .int x3), (5, .ref o)] := hl
  show W p l e ({ frames := 9, cells := 1, slots := 6, locals := 149 } : Room) s m ([.ref (ad 57), .int x0, .int x1, .int x2, .int x3, .ref o]).toArray below meth c s.heap [] 0 0 (MQ below (va_Qi (fun r (u : XS × Int64) => LQ S u.1 ∧ R_sortPart x0 x1 x2 x3 S r u.1 u.2) (PO2 dC dI ad o) (AO ad o)) ([.ref (ad 57), .int x0, .int x1, .int x2, .int x3, .ref o]).toArray s 1 6 (AO ad o)) (F0 m 0 ls [])
  refine lv_aload hx hb dL_sortPart_0 (lv_at hl 5 rfl) ?_
  refine lv_aload_n hx hb dL_sortPart_2 rfl (lv_at hl 0 rfl) ?_
  refine lv_iload_n hx hb dL_sortPart_3 rfl (lv_at hl 1 rfl) ?_
  refine lv_iload_n hx hb dL_sortPart_4 rfl (lv_at hl 2 rfl) ?_
  refine lv_iload_n hx hb dL_sortPart_5 rfl (lv_at hl 3 rfl) ?_
  refine lv_iload hx hb dL_sortPart_6 (lv_at hl 4 rfl) ?_
  rcases lim_lt 3 (by decide) x0 with ⟨i, hi, rfl⟩ | hb9
  rotate_left
  · skip
    refine kl_throw (vx_runV (As := [.int x0, .int x1, .int x2, .int x3]) (rest := [.ref o]) ⟨hx, hb, hml, hown, hts⟩ (t_X4_sortPart_1 l hst dC dI ad S x0 x1 x2 x3 hb9) (cwV 4 hts gL_sortPart_X4_sortPart rfl rfl rfl hdX4_sortPart_4 ⟨Nat.le_of_ble_eq_true rfl, Nat.le_of_ble_eq_true rfl⟩) hPW.1.preX rfl rfl hl.1 rfl (lv_room (Nat.le_of_ble_eq_true rfl)) dL_sortPart_8 ⟨Nat.le_of_ble_eq_true rfl, Nat.le_of_ble_eq_true rfl⟩) hX hO (fun ce q9 H hce1 hce2 hce3 hX hO => ?_)
    refine vx_catch hown [] ⟨0, 15, 18, 19⟩ [⟨0, 15, 22, 21⟩] (htab.trans rfl) (fun _ h => nomatch h) rfl (by decide) (hts (.classLink RL 19 IX) (tm 830 (by decide +kernel) rfl)) (va_Nw.use rfl hPW.1.2.1.2.1.1) hce1 hce2 hce3 ?_
    refine lv_astore (lv' := [(6, .ref q9), (0, .ref (ad 57)), (1, .int x0), (2, .int x1), (3, .int x2), (4, .int x3), (5, .ref o)]) hx hb dL_sortPart_18 hl (by decide) rfl (fun ls hl => ?_)
    refine lv_iconst (v := nI 1) hx hb dL_sortPart_20 (by decide) ?_
    obtain ⟨n9, hN⟩ := hO
    exact W.widen (k := 1) (n := 6) (by simp) (by simp) (W.iret (v := nI 1) hx hb hr (fun t9 ht9 hW9 => ⟨⟨_, (S, n9), rfl, ⟨LQ_same hI h5, (Or.inl ⟨hb9, rfl, rfl⟩)⟩, hX.P ht9 hW9, by rw [ht9]; exact hN⟩, hX.2.2.2.F ht9⟩) hX.2.2.2.2.2 dL_sortPart_21)
  replace hi : i < 3 := by omega
  have hn := (hI.1 i (by omega)).1
  rcases lim_lt 4 (by decide) x1 with ⟨j, hj, rfl⟩ | hb9
  rotate_left
  · skip
    refine kl_throw (vx_runV (As := [.int (nI i), .int x1, .int x2, .int x3]) (rest := [.ref o]) ⟨hx, hb, hml, hown, hts⟩ (t_X4_sortPart_2 l hst dC dI ad S i x1 x2 x3 hi hb9) (cwV 4 hts gL_sortPart_X4_sortPart rfl rfl rfl hdX4_sortPart_4 ⟨Nat.le_of_ble_eq_true rfl, Nat.le_of_ble_eq_true rfl⟩) hPW.1.preX rfl rfl hl.1 rfl (lv_room (Nat.le_of_ble_eq_true rfl)) dL_sortPart_8 ⟨Nat.le_of_ble_eq_true rfl, Nat.le_of_ble_eq_true rfl⟩) hX hO (fun ce q9 H hce1 hce2 hce3 hX hO => ?_)
    refine vx_catch hown [] ⟨0, 15, 18, 19⟩ [⟨0, 15, 22, 21⟩] (htab.trans rfl) (fun _ h => nomatch h) rfl (by decide) (hts (.classLink RL 19 IX) (tm 830 (by decide +kernel) rfl)) (va_Nw.use rfl hPW.1.2.1.2.1.1) hce1 hce2 hce3 ?_
    refine lv_astore (lv' := [(6, .ref q9), (0, .ref (ad 57)), (1, .int (nI i)), (2, .int x1), (3, .int x2), (4, .int x3), (5, .ref o)]) hx hb dL_sortPart_18 hl (by decide) rfl (fun ls hl => ?_)
    refine lv_iconst (v := nI 1) hx hb dL_sortPart_20 (by decide) ?_
    obtain ⟨n9, hN⟩ := hO
    exact W.widen (k := 1) (n := 6) (by simp) (by simp) (W.iret (v := nI 1) hx hb hr (fun t9 ht9 hW9 => ⟨⟨_, (S, n9), rfl, ⟨LQ_same hI h5, (Or.inr (Or.inl ⟨i, hi, rfl, hb9, rfl, rfl⟩))⟩, hX.P ht9 hW9, by rw [ht9]; exact hN⟩, hX.2.2.2.F ht9⟩) hX.2.2.2.2.2 dL_sortPart_21)
  replace hj : j < 4 := by omega
  rcases lim_le (S.1 i).2.2 (by omega) x2 with ⟨q, hq, rfl⟩ | hb9
  rotate_left
  · skip
    refine kl_throw (vx_runV (As := [.int (nI i), .int (nI j), .int x2, .int x3]) (rest := [.ref o]) ⟨hx, hb, hml, hown, hts⟩ (t_X4_sortPart_3 l hst dC dI ad S i j x2 x3 hi hj (by omega) hb9) (cwV 4 hts gL_sortPart_X4_sortPart rfl rfl rfl hdX4_sortPart_4 ⟨Nat.le_of_ble_eq_true rfl, Nat.le_of_ble_eq_true rfl⟩) hPW.1.preX rfl rfl hl.1 rfl (lv_room (Nat.le_of_ble_eq_true rfl)) dL_sortPart_8 ⟨Nat.le_of_ble_eq_true rfl, Nat.le_of_ble_eq_true rfl⟩) hX hO (fun ce q9 H hce1 hce2 hce3 hX hO => ?_)
    refine vx_catch hown [] ⟨0, 15, 18, 19⟩ [⟨0, 15, 22, 21⟩] (htab.trans rfl) (fun _ h => nomatch h) rfl (by decide) (hts (.classLink RL 19 IX) (tm 830 (by decide +kernel) rfl)) (va_Nw.use rfl hPW.1.2.1.2.1.1) hce1 hce2 hce3 ?_
    refine lv_astore (lv' := [(6, .ref q9), (0, .ref (ad 57)), (1, .int (nI i)), (2, .int (nI j)), (3, .int x2), (4, .int x3), (5, .ref o)]) hx hb dL_sortPart_18 hl (by decide) rfl (fun ls hl => ?_)
    refine lv_iconst (v := nI 1) hx hb dL_sortPart_20 (by decide) ?_
    obtain ⟨n9, hN⟩ := hO
    exact W.widen (k := 1) (n := 6) (by simp) (by simp) (W.iret (v := nI 1) hx hb hr (fun t9 ht9 hW9 => ⟨⟨_, (S, n9), rfl, ⟨LQ_same hI h5, (Or.inr (Or.inr (Or.inl ⟨i, j, hi, hj, rfl, rfl, hb9, rfl, rfl⟩)))⟩, hX.P ht9 hW9, by rw [ht9]; exact hN⟩, hX.2.2.2.F ht9⟩) hX.2.2.2.2.2 dL_sortPart_21)
  replace hq : q ≤ (S.1 i).2.2 := by omega
  rcases lim_le (S.1 i).2.2 (by omega) x3 with ⟨q2, hq2, rfl⟩ | hb9
  rotate_left
  · skip
    refine kl_throw (vx_runV (As := [.int (nI i), .int (nI j), .int (nI q), .int x3]) (rest := [.ref o]) ⟨hx, hb, hml, hown, hts⟩ (t_X4_sortPart_4 l hst dC dI ad S i j q x3 hi hj hq (by omega) hb9) (cwV 4 hts gL_sortPart_X4_sortPart rfl rfl rfl hdX4_sortPart_4 ⟨Nat.le_of_ble_eq_true rfl, Nat.le_of_ble_eq_true rfl⟩) hPW.1.preX rfl rfl hl.1 rfl (lv_room (Nat.le_of_ble_eq_true rfl)) dL_sortPart_8 ⟨Nat.le_of_ble_eq_true rfl, Nat.le_of_ble_eq_true rfl⟩) hX hO (fun ce q9 H hce1 hce2 hce3 hX hO => ?_)
    refine vx_catch hown [] ⟨0, 15, 18, 19⟩ [⟨0, 15, 22, 21⟩] (htab.trans rfl) (fun _ h => nomatch h) rfl (by decide) (hts (.classLink RL 19 IX) (tm 830 (by decide +kernel) rfl)) (va_Nw.use rfl hPW.1.2.1.2.1.1) hce1 hce2 hce3 ?_
    refine lv_astore (lv' := [(6, .ref q9), (0, .ref (ad 57)), (1, .int (nI i)), (2, .int (nI j)), (3, .int (nI q)), (4, .int x3), (5, .ref o)]) hx hb dL_sortPart_18 hl (by decide) rfl (fun ls hl => ?_)
    refine lv_iconst (v := nI 1) hx hb dL_sortPart_20 (by decide) ?_
    obtain ⟨n9, hN⟩ := hO
    exact W.widen (k := 1) (n := 6) (by simp) (by simp) (W.iret (v := nI 1) hx hb hr (fun t9 ht9 hW9 => ⟨⟨_, (S, n9), rfl, ⟨LQ_same hI h5, (Or.inr (Or.inr (Or.inr (Or.inl ⟨i, j, q, hi, hj, hq, rfl, rfl, rfl, hb9, rfl, rfl⟩))))⟩, hX.P ht9 hW9, by rw [ht9]; exact hN⟩, hX.2.2.2.F ht9⟩) hX.2.2.2.2.2 dL_sortPart_21)
  replace hq2 : q2 ≤ (S.1 i).2.2 := by omega
  by_cases hqq : q ≤ q2
  rotate_left
  · skip
    refine kl_throw (vx_runV (As := [.int (nI i), .int (nI j), .int (nI q), .int (nI q2)]) (rest := [.ref o]) ⟨hx, hb, hml, hown, hts⟩ (t_X4_sortPart_5 l hst dC dI ad S i j q q2 hi hj hq hq2 (by omega) (by omega)) (cwV 4 hts gL_sortPart_X4_sortPart rfl rfl rfl hdX4_sortPart_4 ⟨Nat.le_of_ble_eq_true rfl, Nat.le_of_ble_eq_true rfl⟩) hPW.1.preX rfl rfl hl.1 rfl (lv_room (Nat.le_of_ble_eq_true rfl)) dL_sortPart_8 ⟨Nat.le_of_ble_eq_true rfl, Nat.le_of_ble_eq_true rfl⟩) hX hO (fun ce q9 H hce1 hce2 hce3 hX hO => ?_)
    refine vx_catch hown [⟨0, 15, 18, 19⟩] ⟨0, 15, 22, 21⟩ [] (htab.trans rfl) (fun z hz => by rw [List.mem_singleton.mp hz]; exact Or.inr ⟨by decide, IX, hts (.classLink RL 19 IX) (by decide +kernel), hPW.2.2.2.2.1⟩) rfl (by decide) (hts (.classLink RL 21 IA) (tm 831 (by decide +kernel) rfl)) (va_Nw.use rfl hPW.1.2.1.2.1.2) hce1 hce2 hce3 ?_
    refine lv_astore (lv' := [(6, .ref q9), (0, .ref (ad 57)), (1, .int (nI i)), (2, .int (nI j)), (3, .int (nI q)), (4, .int (nI q2)), (5, .ref o)]) hx hb dL_sortPart_22 hl (by decide) rfl (fun ls hl => ?_)
    refine lv_iconst (v := nI 2) hx hb dL_sortPart_24 (by decide) ?_
    obtain ⟨n9, hN⟩ := hO
    exact W.widen (k := 1) (n := 6) (by simp) (by simp) (W.iret (v := nI 2) hx hb hr (fun t9 ht9 hW9 => ⟨⟨_, (S, n9), rfl, ⟨LQ_same hI h5, (Or.inr (Or.inr (Or.inr (Or.inr (Or.inl ⟨i, j, q, q2, hi, hj, hq, hq2, rfl, rfl, rfl, rfl, (by omega), rfl, rfl⟩)))))⟩, hX.P ht9 hW9, by rw [ht9]; exact hN⟩, hX.2.2.2.F ht9⟩) hX.2.2.2.2.2 dL_sortPart_25)
  refine kl_ci (va_runV (As := [.int (nI i), .int (nI j), .int (nI q), .int (nI q2)]) (rest := [.ref o]) ⟨hx, hb, hml, hown, hts⟩ (s_X4_sortPart l dC dI ad S i j q q2 hi hj hq hq2 hqq hI) (cwV 4 hts gL_sortPart_X4_sortPart rfl rfl rfl hdX4_sortPart_4 ⟨Nat.le_of_ble_eq_true rfl, Nat.le_of_ble_eq_true rfl⟩) (hX.preTop 57 6 (by decide) (by decide) rfl rfl) rfl rfl hl.1 rfl (lv_room (Nat.le_of_ble_eq_true rfl)) dL_sortPart_8 ⟨Nat.le_of_ble_eq_true rfl, Nat.le_of_ble_eq_true rfl⟩) hX hO hno (fun r9 S1 H locs hw hX hO => ?_)
  have hLQ : LQ S S1 := LQ_sort hI h5 hw.2.1
  refine lv_i2l (v := r9.toInt64) hx hb dL_sortPart_11 rfl ?_
  refine kl_putn hx hb hts hin5 hown hX hO hno (host := "OrderlatticeLaw") (va_Nw.use rfl hPW.2.2.2.2.2.1) dL_sortPart_12 (fun H locs hX hN => ?_)
  refine lv_goto (tgt := 26) hx hb dL_sortPart_15 (by decide) ?_
  refine lv_iconst (v := nI 0) hx hb dL_sortPart_26 (by decide) ?_
  exact W.widen (k := 1) (n := 6) (by simp) (by simp) (W.iret (v := nI 0) hx hb hr (fun t9 ht9 hW9 => ⟨⟨_, (S1, r9.toInt64), rfl, ⟨hLQ, (Or.inr (Or.inr (Or.inr (Or.inr (Or.inr ⟨i, j, q, q2, r9, hi, hj, hq, hq2, rfl, rfl, rfl, rfl, hqq, rfl, rfl, hw⟩)))))⟩, hX.P ht9 hW9, by rw [ht9]; exact hN⟩, hX.2.2.2.F ht9⟩) hX.2.2.2.2.2 dL_sortPart_27)
set_option maxHeartbeats 4000000 in
set_option maxRecDepth 100000 in
theorem m_L_isSorted (l : Launch) (hst : l.stackTraces = false) (dC : Nat → ClassId) (dI : Nat → Nat → Nat) (cB : ClassId) (ad : Nat → Nat) (o : Nat) (S : XS) (x0 : Int32) (x1 : Int32) (hI : InvX S) (h5 : ∀ j, j < 4 → (S.2.1 j).2.2.2.2.1 ≤ 5) (hc : S.2.2.1 + 12 < 1000000) : Met l yL_isSorted wsL_isSorted ({ frames := 9, cells := 1, slots := 6, locals := 146 } : Room) (va_Pc [.ref (ad 57), .int x0, .int x1, .ref o] (PW dC dI cB ad o S)) (va_Qi (fun r (u : XS × Int64) => LQ S u.1 ∧ R_isSorted x0 x1 S r u.1 u.2) (PO2 dC dI ad o) (AO ad o)) 1 6 (AO ad o) := by
  refine va_MetW (cc := cL_isSorted) (maxL := 5) (ret := (some .int)) pl_L rfl ?_
  intro p e s m args below meth c s₁ B hml hv
  obtain ⟨rfl, hPW⟩ := hv
  have hx := B.exec
  have hb := B.bytes
  have hr := B.returns
  have hts := atoms_spec (ws := wsL_isSorted) B.pre
  have htab := vx_table (x := yL_isSorted) B (hts (.codeWith yL_isSorted cL_isSorted 5 (some .int) [(0, 18, 21, 19)]) (by unfold wsL_isSorted; exact List.mem_cons_self))
  have hown : s.vm.findClass RL = some m.cls := findClass_of_methodNamed B.named
  have hlocks := B.notSynchronized
  have hin5 : ∀ w ∈ u_ws RX5 TX5 2, w ∈ wsL_isSorted := tu 1332 (by decide +kernel) rfl
  have hX := WX.ofW hPW
  have hO := hPW.2.2.1
  have hno := hPW.2.2.2.1
  have hl := lv_entry ([.ref (ad 57), .int x0, .int x1, .ref o]) (n := 5) (Nat.le_of_ble_eq_true rfl)
  rw [lg_entry_eq]
  generalize (lg_sl ([.ref (ad 57), .int x0, .int x1, .ref o]) ++ List.replicate (5 - (lg_sl ([.ref (ad 57), .int x0, .int x1, .ref o])).length) Slot.unset).toArray = ls at hl ⊢
  have hl : lv_has ls 5 [(0, .ref (ad 57)), (1, .int x0), (2, .int x1), (3, .ref o)] := hl
  show W p l e ({ frames := 9, cells := 1, slots := 6, locals := 146 } : Room) s m ([.ref (ad 57), .int x0, .int x1, .ref o]).toArray below meth c s.heap [] 0 0 (MQ below (va_Qi (fun r (u : XS × Int64) => LQ S u.1 ∧ R_isSorted x0 x1 S r u.1 u.2) (PO2 dC dI ad o) (AO ad o)) ([.ref (ad 57), .int x0, .int x1, .ref o]).toArray s 1 6 (AO ad o)) (F0 m 0 ls [])
  refine lv_aload_n hx hb dL_isSorted_0 rfl (lv_at hl 3 rfl) ?_
  refine lv_aload_n hx hb dL_isSorted_1 rfl (lv_at hl 0 rfl) ?_
  refine lv_iload_n hx hb dL_isSorted_2 rfl (lv_at hl 1 rfl) ?_
  refine lv_iload_n hx hb dL_isSorted_3 rfl (lv_at hl 2 rfl) ?_
  rcases lim_lt 3 (by decide) x0 with ⟨i, hi, rfl⟩ | hb9
  rotate_left
  · skip
    refine kl_throw (vx_runV (As := [.int x0, .int x1]) (rest := [.ref o]) ⟨hx, hb, hml, hown, hts⟩ (t_X4_isSorted_1 l hst dC dI ad S x0 x1 hb9) (cwV 2 hts gL_isSorted_X4_isSorted rfl rfl rfl hdX4_isSorted_2 ⟨Nat.le_of_ble_eq_true rfl, Nat.le_of_ble_eq_true rfl⟩) hPW.1.preX rfl rfl hl.1 rfl (lv_room (Nat.le_of_ble_eq_true rfl)) dL_isSorted_4 ⟨Nat.le_of_ble_eq_true rfl, Nat.le_of_ble_eq_true rfl⟩) hX hO (fun ce q9 H hce1 hce2 hce3 hX hO => ?_)
    refine vx_catch hown [] ⟨0, 18, 21, 19⟩ [] (htab.trans rfl) (fun _ h => nomatch h) rfl (by decide) (hts (.classLink RL 19 IX) (tm 830 (by decide +kernel) rfl)) (va_Nw.use rfl hPW.1.2.1.2.1.1) hce1 hce2 hce3 ?_
    refine lv_astore (lv' := [(4, .ref q9), (0, .ref (ad 57)), (1, .int x0), (2, .int x1), (3, .ref o)]) hx hb dL_isSorted_21 hl (by decide) rfl (fun ls hl => ?_)
    refine lv_iconst (v := nI 1) hx hb dL_isSorted_23 (by decide) ?_
    obtain ⟨n9, hN⟩ := hO
    exact W.widen (k := 1) (n := 6) (by simp) (by simp) (W.iret (v := nI 1) hx hb hr (fun t9 ht9 hW9 => ⟨⟨_, (S, n9), rfl, ⟨LQ_same hI h5, (Or.inl ⟨hb9, rfl, rfl⟩)⟩, hX.P ht9 hW9, by rw [ht9]; exact hN⟩, hX.2.2.2.F ht9⟩) hX.2.2.2.2.2 dL_isSorted_24)
  replace hi : i < 3 := by omega
  have hn := (hI.1 i (by omega)).1
  rcases lim_lt 4 (by decide) x1 with ⟨j, hj, rfl⟩ | hb9
  rotate_left
  · skip
    refine kl_throw (vx_runV (As := [.int (nI i), .int x1]) (rest := [.ref o]) ⟨hx, hb, hml, hown, hts⟩ (t_X4_isSorted_2 l hst dC dI ad S i x1 hi hb9) (cwV 2 hts gL_isSorted_X4_isSorted rfl rfl rfl hdX4_isSorted_2 ⟨Nat.le_of_ble_eq_true rfl, Nat.le_of_ble_eq_true rfl⟩) hPW.1.preX rfl rfl hl.1 rfl (lv_room (Nat.le_of_ble_eq_true rfl)) dL_isSorted_4 ⟨Nat.le_of_ble_eq_true rfl, Nat.le_of_ble_eq_true rfl⟩) hX hO (fun ce q9 H hce1 hce2 hce3 hX hO => ?_)
    refine vx_catch hown [] ⟨0, 18, 21, 19⟩ [] (htab.trans rfl) (fun _ h => nomatch h) rfl (by decide) (hts (.classLink RL 19 IX) (tm 830 (by decide +kernel) rfl)) (va_Nw.use rfl hPW.1.2.1.2.1.1) hce1 hce2 hce3 ?_
    refine lv_astore (lv' := [(4, .ref q9), (0, .ref (ad 57)), (1, .int (nI i)), (2, .int x1), (3, .ref o)]) hx hb dL_isSorted_21 hl (by decide) rfl (fun ls hl => ?_)
    refine lv_iconst (v := nI 1) hx hb dL_isSorted_23 (by decide) ?_
    obtain ⟨n9, hN⟩ := hO
    exact W.widen (k := 1) (n := 6) (by simp) (by simp) (W.iret (v := nI 1) hx hb hr (fun t9 ht9 hW9 => ⟨⟨_, (S, n9), rfl, ⟨LQ_same hI h5, (Or.inr (Or.inl ⟨i, hi, rfl, hb9, rfl, rfl⟩))⟩, hX.P ht9 hW9, by rw [ht9]; exact hN⟩, hX.2.2.2.F ht9⟩) hX.2.2.2.2.2 dL_isSorted_24)
  replace hj : j < 4 := by omega
  refine kl_cr (va_runV (As := [.int (nI i), .int (nI j)]) (rest := [.ref o]) ⟨hx, hb, hml, hown, hts⟩ (m_X4_isSorted l dC dI ad S i j hi hj hI) (cwV 2 hts gL_isSorted_X4_isSorted rfl rfl rfl hdX4_isSorted_2 ⟨Nat.le_of_ble_eq_true rfl, Nat.le_of_ble_eq_true rfl⟩) (hX.preTop 57 6 (by decide) (by decide) rfl rfl) rfl rfl hl.1 rfl (lv_room (Nat.le_of_ble_eq_true rfl)) dL_isSorted_4 ⟨Nat.le_of_ble_eq_true rfl, Nat.le_of_ble_eq_true rfl⟩) (fun r9 hw => ?_)
  refine lv_if_eq (tgt := 14) hx hb dL_isSorted_7 (by decide) (fun k_1 => ?_) (fun k_1 => ?_)
  · skip
    refine lv_lconst (v := lN 0) hx hb dL_isSorted_14 (by decide) ?_
    refine kl_putn hx hb hts hin5 hown hX hO hno (host := "OrderlatticeLaw") (va_Nw.use rfl hPW.2.2.2.2.2.1) dL_isSorted_15 (fun H locs hX hN => ?_)
    refine lv_goto (tgt := 25) hx hb dL_isSorted_18 (by decide) ?_
    refine lv_iconst (v := nI 0) hx hb dL_isSorted_25 (by decide) ?_
    exact W.widen (k := 1) (n := 6) (by simp) (by simp) (W.iret (v := nI 0) hx hb hr (fun t9 ht9 hW9 => ⟨⟨_, (S, lN 0), rfl, ⟨LQ_same hI h5, (Or.inr (Or.inr ⟨i, j, r9, hi, hj, rfl, rfl, rfl, (if_pos k_1).symm, hw, rfl⟩))⟩, hX.P ht9 hW9, by rw [ht9]; exact hN⟩, hX.2.2.2.F ht9⟩) hX.2.2.2.2.2 dL_isSorted_26)
  · skip
    refine lv_lconst (v := lN 1) hx hb dL_isSorted_10 (by decide) ?_
    refine lv_goto (tgt := 15) hx hb dL_isSorted_11 (by decide) ?_
    refine kl_putn hx hb hts hin5 hown hX hO hno (host := "OrderlatticeLaw") (va_Nw.use rfl hPW.2.2.2.2.2.1) dL_isSorted_15 (fun H locs hX hN => ?_)
    refine lv_goto (tgt := 25) hx hb dL_isSorted_18 (by decide) ?_
    refine lv_iconst (v := nI 0) hx hb dL_isSorted_25 (by decide) ?_
    exact W.widen (k := 1) (n := 6) (by simp) (by simp) (W.iret (v := nI 0) hx hb hr (fun t9 ht9 hW9 => ⟨⟨_, (S, lN 1), rfl, ⟨LQ_same hI h5, (Or.inr (Or.inr ⟨i, j, r9, hi, hj, rfl, rfl, rfl, (if_neg k_1).symm, hw, rfl⟩))⟩, hX.P ht9 hW9, by rw [ht9]; exact hN⟩, hX.2.2.2.F ht9⟩) hX.2.2.2.2.2 dL_isSorted_26)
set_option maxHeartbeats 4000000 in
set_option maxRecDepth 100000 in
theorem m_L_size (l : Launch) (hst : l.stackTraces = false) (dC : Nat → ClassId) (dI : Nat → Nat → Nat) (cB : ClassId) (ad : Nat → Nat) (o : Nat) (S : XS) (x0 : Int32) (hI : InvX S) (h5 : ∀ j, j < 4 → (S.2.1 j).2.2.2.2.1 ≤ 5) (hc : S.2.2.1 + 12 < 1000000) : Met l yL_size wsL_size ({ frames := 9, cells := 1, slots := 6, locals := 144 } : Room) (va_Pc [.ref (ad 57), .int x0, .ref o] (PW dC dI cB ad o S)) (va_Qi (fun r (u : XS × Int64) => LQ S u.1 ∧ R_size x0 S r u.1 u.2) (PO2 dC dI ad o) (AO ad o)) 1 6 (AO ad o) := by
  refine va_MetW (cc := cL_size) (maxL := 4) (ret := (some .int)) pl_L rfl ?_
  intro p e s m args below meth c s₁ B hml hv
  obtain ⟨rfl, hPW⟩ := hv
  have hx := B.exec
  have hb := B.bytes
  have hr := B.returns
  have hts := atoms_spec (ws := wsL_size) B.pre
  have htab := vx_table (x := yL_size) B (hts (.codeWith yL_size cL_size 4 (some .int) [(0, 10, 13, 19)]) (by unfold wsL_size; exact List.mem_cons_self))
  have hown : s.vm.findClass RL = some m.cls := findClass_of_methodNamed B.named
  have hlocks := B.notSynchronized
  have hin5 : ∀ w ∈ u_ws RX5 TX5 2, w ∈ wsL_size := tu 1332 (by decide +kernel) rfl
  have hX := WX.ofW hPW
  have hO := hPW.2.2.1
  have hno := hPW.2.2.2.1
  have hl := lv_entry ([.ref (ad 57), .int x0, .ref o]) (n := 4) (Nat.le_of_ble_eq_true rfl)
  rw [lg_entry_eq]
  generalize (lg_sl ([.ref (ad 57), .int x0, .ref o]) ++ List.replicate (4 - (lg_sl ([.ref (ad 57), .int x0, .ref o])).length) Slot.unset).toArray = ls at hl ⊢
  have hl : lv_has ls 4 [(0, .ref (ad 57)), (1, .int x0), (2, .ref o)] := hl
  show W p l e ({ frames := 9, cells := 1, slots := 6, locals := 144 } : Room) s m ([.ref (ad 57), .int x0, .ref o]).toArray below meth c s.heap [] 0 0 (MQ below (va_Qi (fun r (u : XS × Int64) => LQ S u.1 ∧ R_size x0 S r u.1 u.2) (PO2 dC dI ad o) (AO ad o)) ([.ref (ad 57), .int x0, .ref o]).toArray s 1 6 (AO ad o)) (F0 m 0 ls [])
  refine lv_aload_n hx hb dL_size_0 rfl (lv_at hl 2 rfl) ?_
  refine lv_aload_n hx hb dL_size_1 rfl (lv_at hl 0 rfl) ?_
  refine lv_iload_n hx hb dL_size_2 rfl (lv_at hl 1 rfl) ?_
  rcases lim_lt 3 (by decide) x0 with ⟨i, hi, rfl⟩ | hb9
  rotate_left
  · skip
    refine kl_throw (vx_runV (As := [.int x0]) (rest := [.ref o]) ⟨hx, hb, hml, hown, hts⟩ (t_X4_size_1 l hst dC dI ad S x0 hb9) (cwV 1 hts gL_size_X4_size rfl rfl rfl hdX4_size_1 ⟨Nat.le_of_ble_eq_true rfl, Nat.le_of_ble_eq_true rfl⟩) hPW.1.preX rfl rfl hl.1 rfl (lv_room (Nat.le_of_ble_eq_true rfl)) dL_size_3 ⟨Nat.le_of_ble_eq_true rfl, Nat.le_of_ble_eq_true rfl⟩) hX hO (fun ce q9 H hce1 hce2 hce3 hX hO => ?_)
    refine vx_catch hown [] ⟨0, 10, 13, 19⟩ [] (htab.trans rfl) (fun _ h => nomatch h) rfl (by decide) (hts (.classLink RL 19 IX) (tm 830 (by decide +kernel) rfl)) (va_Nw.use rfl hPW.1.2.1.2.1.1) hce1 hce2 hce3 ?_
    refine lv_astore_n (lv' := [(3, .ref q9), (0, .ref (ad 57)), (1, .int x0), (2, .ref o)]) hx hb dL_size_13 rfl hl (by decide) rfl (fun ls hl => ?_)
    refine lv_iconst (v := nI 1) hx hb dL_size_14 (by decide) ?_
    obtain ⟨n9, hN⟩ := hO
    exact W.widen (k := 1) (n := 6) (by simp) (by simp) (W.iret (v := nI 1) hx hb hr (fun t9 ht9 hW9 => ⟨⟨_, (S, n9), rfl, ⟨LQ_same hI h5, (Or.inl ⟨hb9, rfl, rfl⟩)⟩, hX.P ht9 hW9, by rw [ht9]; exact hN⟩, hX.2.2.2.F ht9⟩) hX.2.2.2.2.2 dL_size_15)
  replace hi : i < 3 := by omega
  have hn := (hI.1 i (by omega)).1
  refine kl_cr (va_runV (As := [.int (nI i)]) (rest := [.ref o]) ⟨hx, hb, hml, hown, hts⟩ (m_X4_size l dC dI ad S i hi hI) (cwV 1 hts gL_size_X4_size rfl rfl rfl hdX4_size_1 ⟨Nat.le_of_ble_eq_true rfl, Nat.le_of_ble_eq_true rfl⟩) (hX.preTop 57 6 (by decide) (by decide) rfl rfl) rfl rfl hl.1 rfl (lv_room (Nat.le_of_ble_eq_true rfl)) dL_size_3 ⟨Nat.le_of_ble_eq_true rfl, Nat.le_of_ble_eq_true rfl⟩) (fun r9 hw => ?_)
  refine lv_i2l (v := r9.toInt64) hx hb dL_size_6 rfl ?_
  refine kl_putn hx hb hts hin5 hown hX hO hno (host := "OrderlatticeLaw") (va_Nw.use rfl hPW.2.2.2.2.2.1) dL_size_7 (fun H locs hX hN => ?_)
  refine lv_goto (tgt := 16) hx hb dL_size_10 (by decide) ?_
  refine lv_iconst (v := nI 0) hx hb dL_size_16 (by decide) ?_
  exact W.widen (k := 1) (n := 6) (by simp) (by simp) (W.iret (v := nI 0) hx hb hr (fun t9 ht9 hW9 => ⟨⟨_, (S, r9.toInt64), rfl, ⟨LQ_same hI h5, (Or.inr ⟨i, r9, hi, rfl, rfl, rfl, hw, rfl⟩)⟩, hX.P ht9 hW9, by rw [ht9]; exact hN⟩, hX.2.2.2.F ht9⟩) hX.2.2.2.2.2 dL_size_17)
set_option maxHeartbeats 4000000 in
set_option maxRecDepth 100000 in
theorem m_L_valueAt (l : Launch) (hst : l.stackTraces = false) (dC : Nat → ClassId) (dI : Nat → Nat → Nat) (cB : ClassId) (ad : Nat → Nat) (o : Nat) (S : XS) (x0 : Int32) (x1 : Int32) (hI : InvX S) (h5 : ∀ j, j < 4 → (S.2.1 j).2.2.2.2.1 ≤ 5) (hc : S.2.2.1 + 12 < 1000000) : Met l yL_valueAt wsL_valueAt ({ frames := 9, cells := 1, slots := 6, locals := 146 } : Room) (va_Pc [.ref (ad 57), .int x0, .int x1, .ref o] (PW dC dI cB ad o S)) (va_Qi (fun r (u : XS × Int64) => LQ S u.1 ∧ R_valueAt x0 x1 S r u.1 u.2) (PO2 dC dI ad o) (AO ad o)) 1 6 (AO ad o) := by
  refine va_MetW (cc := cL_valueAt) (maxL := 5) (ret := (some .int)) pl_L rfl ?_
  intro p e s m args below meth c s₁ B hml hv
  obtain ⟨rfl, hPW⟩ := hv
  have hx := B.exec
  have hb := B.bytes
  have hr := B.returns
  have hts := atoms_spec (ws := wsL_valueAt) B.pre
  have htab := vx_table (x := yL_valueAt) B (hts (.codeWith yL_valueAt cL_valueAt 5 (some .int) [(0, 11, 14, 19)]) (by unfold wsL_valueAt; exact List.mem_cons_self))
  have hown : s.vm.findClass RL = some m.cls := findClass_of_methodNamed B.named
  have hlocks := B.notSynchronized
  have hin5 : ∀ w ∈ u_ws RX5 TX5 2, w ∈ wsL_valueAt := tu 1332 (by decide +kernel) rfl
  have hX := WX.ofW hPW
  have hO := hPW.2.2.1
  have hno := hPW.2.2.2.1
  have hl := lv_entry ([.ref (ad 57), .int x0, .int x1, .ref o]) (n := 5) (Nat.le_of_ble_eq_true rfl)
  rw [lg_entry_eq]
  generalize (lg_sl ([.ref (ad 57), .int x0, .int x1, .ref o]) ++ List.replicate (5 - (lg_sl ([.ref (ad 57), .int x0, .int x1, .ref o])).length) Slot.unset).toArray = ls at hl ⊢
  have hl : lv_has ls 5 [(0, .ref (ad 57)), (1, .int x0), (2, .int x1), (3, .ref o)] := hl
  show W p l e ({ frames := 9, cells := 1, slots := 6, locals := 146 } : Room) s m ([.ref (ad 57), .int x0, .int x1, .ref o]).toArray below meth c s.heap [] 0 0 (MQ below (va_Qi (fun r (u : XS × Int64) => LQ S u.1 ∧ R_valueAt x0 x1 S r u.1 u.2) (PO2 dC dI ad o) (AO ad o)) ([.ref (ad 57), .int x0, .int x1, .ref o]).toArray s 1 6 (AO ad o)) (F0 m 0 ls [])
  refine lv_aload_n hx hb dL_valueAt_0 rfl (lv_at hl 3 rfl) ?_
  refine lv_aload_n hx hb dL_valueAt_1 rfl (lv_at hl 0 rfl) ?_
  refine lv_iload_n hx hb dL_valueAt_2 rfl (lv_at hl 1 rfl) ?_
  refine lv_iload_n hx hb dL_valueAt_3 rfl (lv_at hl 2 rfl) ?_
  rcases lim_lt 3 (by decide) x0 with ⟨i, hi, rfl⟩ | hb9
  rotate_left
  · skip
    refine kl_throw (vx_runV (As := [.int x0, .int x1]) (rest := [.ref o]) ⟨hx, hb, hml, hown, hts⟩ (t_X4_valueAt_1 l hst dC dI ad S x0 x1 hb9) (cwV 2 hts gL_valueAt_X4_valueAt rfl rfl rfl hdX4_valueAt_2 ⟨Nat.le_of_ble_eq_true rfl, Nat.le_of_ble_eq_true rfl⟩) hPW.1.preX rfl rfl hl.1 rfl (lv_room (Nat.le_of_ble_eq_true rfl)) dL_valueAt_4 ⟨Nat.le_of_ble_eq_true rfl, Nat.le_of_ble_eq_true rfl⟩) hX hO (fun ce q9 H hce1 hce2 hce3 hX hO => ?_)
    refine vx_catch hown [] ⟨0, 11, 14, 19⟩ [] (htab.trans rfl) (fun _ h => nomatch h) rfl (by decide) (hts (.classLink RL 19 IX) (tm 830 (by decide +kernel) rfl)) (va_Nw.use rfl hPW.1.2.1.2.1.1) hce1 hce2 hce3 ?_
    refine lv_astore (lv' := [(4, .ref q9), (0, .ref (ad 57)), (1, .int x0), (2, .int x1), (3, .ref o)]) hx hb dL_valueAt_14 hl (by decide) rfl (fun ls hl => ?_)
    refine lv_iconst (v := nI 1) hx hb dL_valueAt_16 (by decide) ?_
    obtain ⟨n9, hN⟩ := hO
    exact W.widen (k := 1) (n := 6) (by simp) (by simp) (W.iret (v := nI 1) hx hb hr (fun t9 ht9 hW9 => ⟨⟨_, (S, n9), rfl, ⟨LQ_same hI h5, (Or.inl ⟨hb9, rfl, rfl⟩)⟩, hX.P ht9 hW9, by rw [ht9]; exact hN⟩, hX.2.2.2.F ht9⟩) hX.2.2.2.2.2 dL_valueAt_17)
  replace hi : i < 3 := by omega
  have hn := (hI.1 i (by omega)).1
  rcases lim_lt (S.1 i).2.2 (by omega) x1 with ⟨q, hq, rfl⟩ | hb9
  rotate_left
  · skip
    refine kl_throw (vx_runV (As := [.int (nI i), .int x1]) (rest := [.ref o]) ⟨hx, hb, hml, hown, hts⟩ (t_X4_valueAt_2 l hst dC dI ad S i x1 hi (by omega) hb9) (cwV 2 hts gL_valueAt_X4_valueAt rfl rfl rfl hdX4_valueAt_2 ⟨Nat.le_of_ble_eq_true rfl, Nat.le_of_ble_eq_true rfl⟩) hPW.1.preX rfl rfl hl.1 rfl (lv_room (Nat.le_of_ble_eq_true rfl)) dL_valueAt_4 ⟨Nat.le_of_ble_eq_true rfl, Nat.le_of_ble_eq_true rfl⟩) hX hO (fun ce q9 H hce1 hce2 hce3 hX hO => ?_)
    refine vx_catch hown [] ⟨0, 11, 14, 19⟩ [] (htab.trans rfl) (fun _ h => nomatch h) rfl (by decide) (hts (.classLink RL 19 IX) (tm 830 (by decide +kernel) rfl)) (va_Nw.use rfl hPW.1.2.1.2.1.1) hce1 hce2 hce3 ?_
    refine lv_astore (lv' := [(4, .ref q9), (0, .ref (ad 57)), (1, .int (nI i)), (2, .int x1), (3, .ref o)]) hx hb dL_valueAt_14 hl (by decide) rfl (fun ls hl => ?_)
    refine lv_iconst (v := nI 1) hx hb dL_valueAt_16 (by decide) ?_
    obtain ⟨n9, hN⟩ := hO
    exact W.widen (k := 1) (n := 6) (by simp) (by simp) (W.iret (v := nI 1) hx hb hr (fun t9 ht9 hW9 => ⟨⟨_, (S, n9), rfl, ⟨LQ_same hI h5, (Or.inr (Or.inl ⟨i, hi, rfl, hb9, rfl, rfl⟩))⟩, hX.P ht9 hW9, by rw [ht9]; exact hN⟩, hX.2.2.2.F ht9⟩) hX.2.2.2.2.2 dL_valueAt_17)
  replace hq : q < (S.1 i).2.2 := by omega
  refine kl_cr (va_runV (As := [.int (nI i), .int (nI q)]) (rest := [.ref o]) ⟨hx, hb, hml, hown, hts⟩ (m_X4_valueAt l dC dI ad S i q hi hq hI) (cwV 2 hts gL_valueAt_X4_valueAt rfl rfl rfl hdX4_valueAt_2 ⟨Nat.le_of_ble_eq_true rfl, Nat.le_of_ble_eq_true rfl⟩) (hX.preTop 57 6 (by decide) (by decide) rfl rfl) rfl rfl hl.1 rfl (lv_room (Nat.le_of_ble_eq_true rfl)) dL_valueAt_4 ⟨Nat.le_of_ble_eq_true rfl, Nat.le_of_ble_eq_true rfl⟩) (fun r9 hw => ?_)
  refine lv_i2l (v := r9.toInt64) hx hb dL_valueAt_7 rfl ?_
  refine kl_putn hx hb hts hin5 hown hX hO hno (host := "OrderlatticeLaw") (va_Nw.use rfl hPW.2.2.2.2.2.1) dL_valueAt_8 (fun H locs hX hN => ?_)
  refine lv_goto (tgt := 18) hx hb dL_valueAt_11 (by decide) ?_
  refine lv_iconst (v := nI 0) hx hb dL_valueAt_18 (by decide) ?_
  exact W.widen (k := 1) (n := 6) (by simp) (by simp) (W.iret (v := nI 0) hx hb hr (fun t9 ht9 hW9 => ⟨⟨_, (S, r9.toInt64), rfl, ⟨LQ_same hI h5, (Or.inr (Or.inr ⟨i, q, r9, hi, hq, rfl, rfl, rfl, rfl, hw, rfl⟩))⟩, hX.P ht9 hW9, by rw [ht9]; exact hN⟩, hX.2.2.2.F ht9⟩) hX.2.2.2.2.2 dL_valueAt_19)
set_option maxHeartbeats 4000000 in
set_option maxRecDepth 100000 in
theorem m_L_markAt (l : Launch) (hst : l.stackTraces = false) (dC : Nat → ClassId) (dI : Nat → Nat → Nat) (cB : ClassId) (ad : Nat → Nat) (o : Nat) (S : XS) (x0 : Int32) (x1 : Int32) (hI : InvX S) (h5 : ∀ j, j < 4 → (S.2.1 j).2.2.2.2.1 ≤ 5) (hc : S.2.2.1 + 12 < 1000000) : Met l yL_markAt wsL_markAt ({ frames := 9, cells := 1, slots := 6, locals := 146 } : Room) (va_Pc [.ref (ad 57), .int x0, .int x1, .ref o] (PW dC dI cB ad o S)) (va_Qi (fun r (u : XS × Int64) => LQ S u.1 ∧ R_markAt x0 x1 S r u.1 u.2) (PO2 dC dI ad o) (AO ad o)) 1 6 (AO ad o) := by
  refine va_MetW (cc := cL_markAt) (maxL := 5) (ret := (some .int)) pl_L rfl ?_
  intro p e s m args below meth c s₁ B hml hv
  obtain ⟨rfl, hPW⟩ := hv
  have hx := B.exec
  have hb := B.bytes
  have hr := B.returns
  have hts := atoms_spec (ws := wsL_markAt) B.pre
  have htab := vx_table (x := yL_markAt) B (hts (.codeWith yL_markAt cL_markAt 5 (some .int) [(0, 11, 14, 19)]) (by unfold wsL_markAt; exact List.mem_cons_self))
  have hown : s.vm.findClass RL = some m.cls := findClass_of_methodNamed B.named
  have hlocks := B.notSynchronized
  have hin5 : ∀ w ∈ u_ws RX5 TX5 2, w ∈ wsL_markAt := tu 1332 (by decide +kernel) rfl
  have hX := WX.ofW hPW
  have hO := hPW.2.2.1
  have hno := hPW.2.2.2.1
  have hl := lv_entry ([.ref (ad 57), .int x0, .int x1, .ref o]) (n := 5) (Nat.le_of_ble_eq_true rfl)
  rw [lg_entry_eq]
  generalize (lg_sl ([.ref (ad 57), .int x0, .int x1, .ref o]) ++ List.replicate (5 - (lg_sl ([.ref (ad 57), .int x0, .int x1, .ref o])).length) Slot.unset).toArray = ls at hl ⊢
  have hl : lv_has ls 5 [(0, .ref (ad 57)), (1, .int x0), (2, .int x1), (3, .ref o)] := hl
  show W p l e ({ frames := 9, cells := 1, slots := 6, locals := 146 } : Room) s m ([.ref (ad 57), .int x0, .int x1, .ref o]).toArray below meth c s.heap [] 0 0 (MQ below (va_Qi (fun r (u : XS × Int64) => LQ S u.1 ∧ R_markAt x0 x1 S r u.1 u.2) (PO2 dC dI ad o) (AO ad o)) ([.ref (ad 57), .int x0, .int x1, .ref o]).toArray s 1 6 (AO ad o)) (F0 m 0 ls [])
  refine lv_aload_n hx hb dL_markAt_0 rfl (lv_at hl 3 rfl) ?_
  refine lv_aload_n hx hb dL_markAt_1 rfl (lv_at hl 0 rfl) ?_
  refine lv_iload_n hx hb dL_markAt_2 rfl (lv_at hl 1 rfl) ?_
  refine lv_iload_n hx hb dL_markAt_3 rfl (lv_at hl 2 rfl) ?_
  rcases lim_lt 3 (by decide) x0 with ⟨i, hi, rfl⟩ | hb9
  rotate_left
  · skip
    refine kl_throw (vx_runV (As := [.int x0, .int x1]) (rest := [.ref o]) ⟨hx, hb, hml, hown, hts⟩ (t_X4_markAt_1 l hst dC dI ad S x0 x1 hb9) (cwV 2 hts gL_markAt_X4_markAt rfl rfl rfl hdX4_markAt_2 ⟨Nat.le_of_ble_eq_true rfl, Nat.le_of_ble_eq_true rfl⟩) hPW.1.preX rfl rfl hl.1 rfl (lv_room (Nat.le_of_ble_eq_true rfl)) dL_markAt_4 ⟨Nat.le_of_ble_eq_true rfl, Nat.le_of_ble_eq_true rfl⟩) hX hO (fun ce q9 H hce1 hce2 hce3 hX hO => ?_)
    refine vx_catch hown [] ⟨0, 11, 14, 19⟩ [] (htab.trans rfl) (fun _ h => nomatch h) rfl (by decide) (hts (.classLink RL 19 IX) (tm 830 (by decide +kernel) rfl)) (va_Nw.use rfl hPW.1.2.1.2.1.1) hce1 hce2 hce3 ?_
    refine lv_astore (lv' := [(4, .ref q9), (0, .ref (ad 57)), (1, .int x0), (2, .int x1), (3, .ref o)]) hx hb dL_markAt_14 hl (by decide) rfl (fun ls hl => ?_)
    refine lv_iconst (v := nI 1) hx hb dL_markAt_16 (by decide) ?_
    obtain ⟨n9, hN⟩ := hO
    exact W.widen (k := 1) (n := 6) (by simp) (by simp) (W.iret (v := nI 1) hx hb hr (fun t9 ht9 hW9 => ⟨⟨_, (S, n9), rfl, ⟨LQ_same hI h5, (Or.inl ⟨hb9, rfl, rfl⟩)⟩, hX.P ht9 hW9, by rw [ht9]; exact hN⟩, hX.2.2.2.F ht9⟩) hX.2.2.2.2.2 dL_markAt_17)
  replace hi : i < 3 := by omega
  have hn := (hI.1 i (by omega)).1
  rcases lim_lt (S.1 i).2.2 (by omega) x1 with ⟨q, hq, rfl⟩ | hb9
  rotate_left
  · skip
    refine kl_throw (vx_runV (As := [.int (nI i), .int x1]) (rest := [.ref o]) ⟨hx, hb, hml, hown, hts⟩ (t_X4_markAt_2 l hst dC dI ad S i x1 hi (by omega) hb9) (cwV 2 hts gL_markAt_X4_markAt rfl rfl rfl hdX4_markAt_2 ⟨Nat.le_of_ble_eq_true rfl, Nat.le_of_ble_eq_true rfl⟩) hPW.1.preX rfl rfl hl.1 rfl (lv_room (Nat.le_of_ble_eq_true rfl)) dL_markAt_4 ⟨Nat.le_of_ble_eq_true rfl, Nat.le_of_ble_eq_true rfl⟩) hX hO (fun ce q9 H hce1 hce2 hce3 hX hO => ?_)
    refine vx_catch hown [] ⟨0, 11, 14, 19⟩ [] (htab.trans rfl) (fun _ h => nomatch h) rfl (by decide) (hts (.classLink RL 19 IX) (tm 830 (by decide +kernel) rfl)) (va_Nw.use rfl hPW.1.2.1.2.1.1) hce1 hce2 hce3 ?_
    refine lv_astore (lv' := [(4, .ref q9), (0, .ref (ad 57)), (1, .int (nI i)), (2, .int x1), (3, .ref o)]) hx hb dL_markAt_14 hl (by decide) rfl (fun ls hl => ?_)
    refine lv_iconst (v := nI 1) hx hb dL_markAt_16 (by decide) ?_
    obtain ⟨n9, hN⟩ := hO
    exact W.widen (k := 1) (n := 6) (by simp) (by simp) (W.iret (v := nI 1) hx hb hr (fun t9 ht9 hW9 => ⟨⟨_, (S, n9), rfl, ⟨LQ_same hI h5, (Or.inr (Or.inl ⟨i, hi, rfl, hb9, rfl, rfl⟩))⟩, hX.P ht9 hW9, by rw [ht9]; exact hN⟩, hX.2.2.2.F ht9⟩) hX.2.2.2.2.2 dL_markAt_17)
  replace hq : q < (S.1 i).2.2 := by omega
  refine kl_cr (va_runV (As := [.int (nI i), .int (nI q)]) (rest := [.ref o]) ⟨hx, hb, hml, hown, hts⟩ (m_X4_markAt l dC dI ad S i q hi hq hI) (cwV 2 hts gL_markAt_X4_markAt rfl rfl rfl hdX4_markAt_2 ⟨Nat.le_of_ble_eq_true rfl, Nat.le_of_ble_eq_true rfl⟩) (hX.preTop 57 6 (by decide) (by decide) rfl rfl) rfl rfl hl.1 rfl (lv_room (Nat.le_of_ble_eq_true rfl)) dL_markAt_4 ⟨Nat.le_of_ble_eq_true rfl, Nat.le_of_ble_eq_true rfl⟩) (fun r9 hw => ?_)
  refine lv_i2l (v := r9.toInt64) hx hb dL_markAt_7 rfl ?_
  refine kl_putn hx hb hts hin5 hown hX hO hno (host := "OrderlatticeLaw") (va_Nw.use rfl hPW.2.2.2.2.2.1) dL_markAt_8 (fun H locs hX hN => ?_)
  refine lv_goto (tgt := 18) hx hb dL_markAt_11 (by decide) ?_
  refine lv_iconst (v := nI 0) hx hb dL_markAt_18 (by decide) ?_
  exact W.widen (k := 1) (n := 6) (by simp) (by simp) (W.iret (v := nI 0) hx hb hr (fun t9 ht9 hW9 => ⟨⟨_, (S, r9.toInt64), rfl, ⟨LQ_same hI h5, (Or.inr (Or.inr ⟨i, q, r9, hi, hq, rfl, rfl, rfl, rfl, hw, rfl⟩))⟩, hX.P ht9 hW9, by rw [ht9]; exact hN⟩, hX.2.2.2.F ht9⟩) hX.2.2.2.2.2 dL_markAt_19)
set_option maxHeartbeats 4000000 in
set_option maxRecDepth 100000 in
theorem m_L_text (l : Launch) (hst : l.stackTraces = false) (dC : Nat → ClassId) (dI : Nat → Nat → Nat) (cB : ClassId) (ad : Nat → Nat) (o : Nat) (S : XS) (x0 : Int32) (hI : InvX S) (h5 : ∀ j, j < 4 → (S.2.1 j).2.2.2.2.1 ≤ 5) (hc : S.2.2.1 + 12 < 1000000) : Met l yL_text wsL_text ({ frames := 9, cells := 80, slots := 900, locals := 194 } : Room) (va_Pc [.ref (ad 57), .int x0, .ref o] (PW dC dI cB ad o S)) (va_Qi (fun r (u : XS × Int64) => LQ S u.1 ∧ R_text x0 S r u.1 u.2) (PO2 dC dI ad o) (AO ad o)) 80 900 (AO ad o) := by
  refine va_MetW (cc := cL_text) (maxL := 4) (ret := (some .int)) pl_L rfl ?_
  intro p e s m args below meth c s₁ B hml hv
  obtain ⟨rfl, hPW⟩ := hv
  have hx := B.exec
  have hb := B.bytes
  have hr := B.returns
  have hts := atoms_spec (ws := wsL_text) B.pre
  have htab := vx_table (x := yL_text) B (hts (.codeWith yL_text cL_text 4 (some .int) [(0, 9, 12, 19)]) (by unfold wsL_text; exact List.mem_cons_self))
  have hown : s.vm.findClass RL = some m.cls := findClass_of_methodNamed B.named
  have hlocks := B.notSynchronized
  have hin5 : ∀ w ∈ u_ws RX5 TX5 2, w ∈ wsL_text := tu 1332 (by decide +kernel) rfl
  have hX := WX.ofW hPW
  have hO := hPW.2.2.1
  have hno := hPW.2.2.2.1
  have hl := lv_entry ([.ref (ad 57), .int x0, .ref o]) (n := 4) (Nat.le_of_ble_eq_true rfl)
  rw [lg_entry_eq]
  generalize (lg_sl ([.ref (ad 57), .int x0, .ref o]) ++ List.replicate (4 - (lg_sl ([.ref (ad 57), .int x0, .ref o])).length) Slot.unset).toArray = ls at hl ⊢
  have hl : lv_has ls 4 [(0, .ref (ad 57)), (1, .int x0), (2, .ref o)] := hl
  show W p l e ({ frames := 9, cells := 80, slots := 900, locals := 194 } : Room) s m ([.ref (ad 57), .int x0, .ref o]).toArray below meth c s.heap [] 0 0 (MQ below (va_Qi (fun r (u : XS × Int64) => LQ S u.1 ∧ R_text x0 S r u.1 u.2) (PO2 dC dI ad o) (AO ad o)) ([.ref (ad 57), .int x0, .ref o]).toArray s 80 900 (AO ad o)) (F0 m 0 ls [])
  refine lv_aload_n hx hb dL_text_0 rfl (lv_at hl 2 rfl) ?_
  refine lv_aload_n hx hb dL_text_1 rfl (lv_at hl 0 rfl) ?_
  refine lv_iload_n hx hb dL_text_2 rfl (lv_at hl 1 rfl) ?_
  rcases lim_lt 3 (by decide) x0 with ⟨i, hi, rfl⟩ | hb9
  rotate_left
  · skip
    refine kl_throw (vx_runV (As := [.int x0]) (rest := [.ref o]) ⟨hx, hb, hml, hown, hts⟩ (t_X4_text_1 l hst dC dI ad S x0 hb9) (cwV 1 hts gL_text_X4_text rfl rfl rfl hdX4_text_1 ⟨Nat.le_of_ble_eq_true rfl, Nat.le_of_ble_eq_true rfl⟩) hPW.1.preX rfl rfl hl.1 rfl (lv_room (Nat.le_of_ble_eq_true rfl)) dL_text_3 ⟨Nat.le_of_ble_eq_true rfl, Nat.le_of_ble_eq_true rfl⟩) hX hO (fun ce q9 H hce1 hce2 hce3 hX hO => ?_)
    refine vx_catch hown [] ⟨0, 9, 12, 19⟩ [] (htab.trans rfl) (fun _ h => nomatch h) rfl (by decide) (hts (.classLink RL 19 IX) (tm 830 (by decide +kernel) rfl)) (va_Nw.use rfl hPW.1.2.1.2.1.1) hce1 hce2 hce3 ?_
    refine lv_astore_n (lv' := [(3, .ref q9), (0, .ref (ad 57)), (1, .int x0), (2, .ref o)]) hx hb dL_text_12 rfl hl (by decide) rfl (fun ls hl => ?_)
    refine lv_iconst (v := nI 1) hx hb dL_text_13 (by decide) ?_
    obtain ⟨n9, hN⟩ := hO
    exact W.widen (k := 80) (n := 900) (by simp) (by simp) (W.iret (v := nI 1) hx hb hr (fun t9 ht9 hW9 => ⟨⟨_, (S, n9), rfl, ⟨LQ_same hI h5, (Or.inl ⟨hb9, rfl, rfl⟩)⟩, hX.P ht9 hW9, by rw [ht9]; exact hN⟩, hX.2.2.2.F ht9⟩) hX.2.2.2.2.2 dL_text_14)
  replace hi : i < 3 := by omega
  have hn := (hI.1 i (by omega)).1
  refine kl_rr (va_runV (As := [.int (nI i)]) (rest := [.ref o]) ⟨hx, hb, hml, hown, hts⟩ (m_X4_text l dC dI cB ad S i hi hI) (cwV 1 hts gL_text_X4_text rfl rfl rfl hdX4_text_1 ⟨Nat.le_of_ble_eq_true rfl, Nat.le_of_ble_eq_true rfl⟩) hPW.preT rfl rfl hl.1 rfl (lv_room (Nat.le_of_ble_eq_true rfl)) dL_text_3 ⟨Nat.le_of_ble_eq_true rfl, Nat.le_of_ble_eq_true rfl⟩) hX hO hno (fun S1 q9 H locs hw hX hO => ?_)
  have hLQ : LQ S S1 := by rw [hw]; exact LQ_same hI h5
  refine kl_put hx hb hts hin5 hown hX hO hno 1 (by decide) (host := "OrderlatticeLaw") (va_Nw.use rfl hPW.2.2.2.2.2.2) (ty := (.object "java/lang/String")) rfl rfl rfl (Or.inr ⟨rfl, _, rfl⟩) dL_text_6 (fun H locs hX hO => ?_)
  refine lv_goto (tgt := 15) hx hb dL_text_9 (by decide) ?_
  refine lv_iconst (v := nI 0) hx hb dL_text_15 (by decide) ?_
  obtain ⟨n9, hN⟩ := hO
  exact W.widen (k := 80) (n := 900) (by simp) (by simp) (W.iret (v := nI 0) hx hb hr (fun t9 ht9 hW9 => ⟨⟨_, (S1, n9), rfl, ⟨hLQ, (Or.inr ⟨i, hi, rfl, rfl, hw⟩)⟩, hX.P ht9 hW9, by rw [ht9]; exact hN⟩, hX.2.2.2.F ht9⟩) hX.2.2.2.2.2 dL_text_16)
set_option maxHeartbeats 4000000 in
set_option maxRecDepth 100000 in
theorem m_L_extreme (l : Launch) (hst : l.stackTraces = false) (dC : Nat → ClassId) (dI : Nat → Nat → Nat) (cB : ClassId) (ad : Nat → Nat) (o : Nat) (S : XS) (x0 : Int32) (x1 : Int32) (z2 : Bool) (hI : InvX S) (h5 : ∀ j, j < 4 → (S.2.1 j).2.2.2.2.1 ≤ 5) (hc : S.2.2.1 + 12 < 1000000) : Met l yL_extreme wsL_extreme ({ frames := 9, cells := 1, slots := 6, locals := 149 } : Room) (va_Pc [.ref (ad 57), .int x0, .int x1, .int (bI z2), .ref o] (PW dC dI cB ad o S)) (va_Qi (fun r (u : XS × Int64) => LQ S u.1 ∧ R_extreme x0 x1 z2 S r u.1 u.2) (PO2 dC dI ad o) (AO ad o)) 1 6 (AO ad o) := by
  refine va_MetW (cc := cL_extreme) (maxL := 6) (ret := (some .int)) pl_L rfl ?_
  intro p e s m args below meth c s₁ B hml hv
  obtain ⟨rfl, hPW⟩ := hv
  have hx := B.exec
  have hb := B.bytes
  have hr := B.returns
  have hts := atoms_spec (ws := wsL_extreme) B.pre
  have htab := vx_table (x := yL_extreme) B (hts (.codeWith yL_extreme cL_extreme 6 (some .int) [(0, 13, 16, 19)]) (by unfold wsL_extreme; exact List.mem_cons_self))
  have hown : s.vm.findClass RL = some m.cls := findClass_of_methodNamed B.named
  have hlocks := B.notSynchronized
  have hin5 : ∀ w ∈ u_ws RX5 TX5 2, w ∈ wsL_extreme := tu 1332 (by decide +kernel) rfl
  have hX := WX.ofW hPW
  have hO := hPW.2.2.1
  have hno := hPW.2.2.2.1
  have hl := lv_entry ([.ref (ad 57), .int x0, .int x1, .int (bI z2), .ref o]) (n := 6) (Nat.le_of_ble_eq_true rfl)
  rw [lg_entry_eq]
  generalize (lg_sl ([.ref (ad 57), .int x0, .int x1, .int (bI z2), .ref o]) ++ List.replicate (6 - (lg_sl ([.ref (ad 57), .int x0, .int x1, .int (bI z2), .ref o])).length) Slot.unset).toArray = ls at hl ⊢
  have hl : lv_has ls 6 [(0, .ref (ad 57)), (1, .int x0), (2, .int x1), (3, .int (bI z2)), (4, .ref o)] := hl
  show W p l e ({ frames := 9, cells := 1, slots := 6, locals := 149 } : Room) s m ([.ref (ad 57), .int x0, .int x1, .int (bI z2), .ref o]).toArray below meth c s.heap [] 0 0 (MQ below (va_Qi (fun r (u : XS × Int64) => LQ S u.1 ∧ R_extreme x0 x1 z2 S r u.1 u.2) (PO2 dC dI ad o) (AO ad o)) ([.ref (ad 57), .int x0, .int x1, .int (bI z2), .ref o]).toArray s 1 6 (AO ad o)) (F0 m 0 ls [])
  refine lv_aload hx hb dL_extreme_0 (lv_at hl 4 rfl) ?_
  refine lv_aload_n hx hb dL_extreme_2 rfl (lv_at hl 0 rfl) ?_
  refine lv_iload_n hx hb dL_extreme_3 rfl (lv_at hl 1 rfl) ?_
  refine lv_iload_n hx hb dL_extreme_4 rfl (lv_at hl 2 rfl) ?_
  refine lv_iload_n hx hb dL_extreme_5 rfl (lv_at hl 3 rfl) ?_
  rcases lim_lt 3 (by decide) x0 with ⟨i, hi, rfl⟩ | hb9
  rotate_left
  · skip
    refine kl_throw (vx_runV (As := [.int x0, .int x1, .int (bI z2)]) (rest := [.ref o]) ⟨hx, hb, hml, hown, hts⟩ (t_X4_extreme_1 l hst dC dI ad S x0 x1 z2 hb9) (cwV 3 hts gL_extreme_X4_extreme rfl rfl rfl hdX4_extreme_3 ⟨Nat.le_of_ble_eq_true rfl, Nat.le_of_ble_eq_true rfl⟩) hPW.1.preX rfl rfl hl.1 rfl (lv_room (Nat.le_of_ble_eq_true rfl)) dL_extreme_6 ⟨Nat.le_of_ble_eq_true rfl, Nat.le_of_ble_eq_true rfl⟩) hX hO (fun ce q9 H hce1 hce2 hce3 hX hO => ?_)
    refine vx_catch hown [] ⟨0, 13, 16, 19⟩ [] (htab.trans rfl) (fun _ h => nomatch h) rfl (by decide) (hts (.classLink RL 19 IX) (tm 830 (by decide +kernel) rfl)) (va_Nw.use rfl hPW.1.2.1.2.1.1) hce1 hce2 hce3 ?_
    refine lv_astore (lv' := [(5, .ref q9), (0, .ref (ad 57)), (1, .int x0), (2, .int x1), (3, .int (bI z2)), (4, .ref o)]) hx hb dL_extreme_16 hl (by decide) rfl (fun ls hl => ?_)
    refine lv_iconst (v := nI 1) hx hb dL_extreme_18 (by decide) ?_
    obtain ⟨n9, hN⟩ := hO
    exact W.widen (k := 1) (n := 6) (by simp) (by simp) (W.iret (v := nI 1) hx hb hr (fun t9 ht9 hW9 => ⟨⟨_, (S, n9), rfl, ⟨LQ_same hI h5, (Or.inl ⟨hb9, rfl, rfl⟩)⟩, hX.P ht9 hW9, by rw [ht9]; exact hN⟩, hX.2.2.2.F ht9⟩) hX.2.2.2.2.2 dL_extreme_19)
  replace hi : i < 3 := by omega
  have hn := (hI.1 i (by omega)).1
  rcases lim_lt 4 (by decide) x1 with ⟨j, hj, rfl⟩ | hb9
  rotate_left
  · skip
    refine kl_throw (vx_runV (As := [.int (nI i), .int x1, .int (bI z2)]) (rest := [.ref o]) ⟨hx, hb, hml, hown, hts⟩ (t_X4_extreme_2 l hst dC dI ad S i x1 z2 hi hb9) (cwV 3 hts gL_extreme_X4_extreme rfl rfl rfl hdX4_extreme_3 ⟨Nat.le_of_ble_eq_true rfl, Nat.le_of_ble_eq_true rfl⟩) hPW.1.preX rfl rfl hl.1 rfl (lv_room (Nat.le_of_ble_eq_true rfl)) dL_extreme_6 ⟨Nat.le_of_ble_eq_true rfl, Nat.le_of_ble_eq_true rfl⟩) hX hO (fun ce q9 H hce1 hce2 hce3 hX hO => ?_)
    refine vx_catch hown [] ⟨0, 13, 16, 19⟩ [] (htab.trans rfl) (fun _ h => nomatch h) rfl (by decide) (hts (.classLink RL 19 IX) (tm 830 (by decide +kernel) rfl)) (va_Nw.use rfl hPW.1.2.1.2.1.1) hce1 hce2 hce3 ?_
    refine lv_astore (lv' := [(5, .ref q9), (0, .ref (ad 57)), (1, .int (nI i)), (2, .int x1), (3, .int (bI z2)), (4, .ref o)]) hx hb dL_extreme_16 hl (by decide) rfl (fun ls hl => ?_)
    refine lv_iconst (v := nI 1) hx hb dL_extreme_18 (by decide) ?_
    obtain ⟨n9, hN⟩ := hO
    exact W.widen (k := 1) (n := 6) (by simp) (by simp) (W.iret (v := nI 1) hx hb hr (fun t9 ht9 hW9 => ⟨⟨_, (S, n9), rfl, ⟨LQ_same hI h5, (Or.inr (Or.inl ⟨i, hi, rfl, hb9, rfl, rfl⟩))⟩, hX.P ht9 hW9, by rw [ht9]; exact hN⟩, hX.2.2.2.F ht9⟩) hX.2.2.2.2.2 dL_extreme_19)
  replace hj : j < 4 := by omega
  refine kl_cr (va_runV (As := [.int (nI i), .int (nI j), .int (bI z2)]) (rest := [.ref o]) ⟨hx, hb, hml, hown, hts⟩ (m_X4_extreme l dC dI ad S i j z2 hi hj hI) (cwV 3 hts gL_extreme_X4_extreme rfl rfl rfl hdX4_extreme_3 ⟨Nat.le_of_ble_eq_true rfl, Nat.le_of_ble_eq_true rfl⟩) (hX.preTop 57 6 (by decide) (by decide) rfl rfl) rfl rfl hl.1 rfl (lv_room (Nat.le_of_ble_eq_true rfl)) dL_extreme_6 ⟨Nat.le_of_ble_eq_true rfl, Nat.le_of_ble_eq_true rfl⟩) (fun r9 hw => ?_)
  refine lv_i2l (v := r9.toInt64) hx hb dL_extreme_9 rfl ?_
  refine kl_putn hx hb hts hin5 hown hX hO hno (host := "OrderlatticeLaw") (va_Nw.use rfl hPW.2.2.2.2.2.1) dL_extreme_10 (fun H locs hX hN => ?_)
  refine lv_goto (tgt := 20) hx hb dL_extreme_13 (by decide) ?_
  refine lv_iconst (v := nI 0) hx hb dL_extreme_20 (by decide) ?_
  exact W.widen (k := 1) (n := 6) (by simp) (by simp) (W.iret (v := nI 0) hx hb hr (fun t9 ht9 hW9 => ⟨⟨_, (S, r9.toInt64), rfl, ⟨LQ_same hI h5, (Or.inr (Or.inr ⟨i, j, r9, hi, hj, rfl, rfl, rfl, rfl, hw, rfl⟩))⟩, hX.P ht9 hW9, by rw [ht9]; exact hN⟩, hX.2.2.2.F ht9⟩) hX.2.2.2.2.2 dL_extreme_21)
set_option maxHeartbeats 4000000 in
set_option maxRecDepth 100000 in
theorem m_L_search (l : Launch) (hst : l.stackTraces = false) (dC : Nat → ClassId) (dI : Nat → Nat → Nat) (cB : ClassId) (ad : Nat → Nat) (o : Nat) (S : XS) (x0 : Int32) (x1 : Int32) (x2 : Int32) (hI : InvX S) (h5 : ∀ j, j < 4 → (S.2.1 j).2.2.2.2.1 ≤ 5) (hc : S.2.2.1 + 12 < 1000000) : Met l yL_search wsL_search ({ frames := 9, cells := 1, slots := 6, locals := 148 } : Room) (va_Pc [.ref (ad 57), .int x0, .int x1, .int x2, .ref o] (PW dC dI cB ad o S)) (va_Qi (fun r (u : XS × Int64) => LQ S u.1 ∧ R_search x0 x1 x2 S r u.1 u.2) (PO2 dC dI ad o) (AO ad o)) 1 6 (AO ad o) := by
  refine va_MetW (cc := cL_search) (maxL := 6) (ret := (some .int)) pl_L rfl ?_
  intro p e s m args below meth c s₁ B hml hv
  obtain ⟨rfl, hPW⟩ := hv
  have hx := B.exec
  have hb := B.bytes
  have hr := B.returns
  have hts := atoms_spec (ws := wsL_search) B.pre
  have htab := vx_table (x := yL_search) B (hts (.codeWith yL_search cL_search 6 (some .int) [(0, 13, 16, 19), (0, 13, 20, 21)]) (by unfold wsL_search; exact List.mem_cons_self))
  have hown : s.vm.findClass RL = some m.cls := findClass_of_methodNamed B.named
  have hlocks := B.notSynchronized
  have hin5 : ∀ w ∈ u_ws RX5 TX5 2, w ∈ wsL_search := tu 1332 (by decide +kernel) rfl
  have hX := WX.ofW hPW
  have hO := hPW.2.2.1
  have hno := hPW.2.2.2.1
  have hl := lv_entry ([.ref (ad 57), .int x0, .int x1, .int x2, .ref o]) (n := 6) (Nat.le_of_ble_eq_true rfl)
  rw [lg_entry_eq]
  generalize (lg_sl ([.ref (ad 57), .int x0, .int x1, .int x2, .ref o]) ++ List.replicate (6 - (lg_sl ([.ref (ad 57), .int x0, .int x1, .int x2, .ref o])).length) Slot.unset).toArray = ls at hl ⊢
  have hl : lv_has ls 6 [(0, .ref (ad 57)), (1, .int x0), (2, .int x1), (3, .int x2), (4, .ref o)] := hl
  show W p l e ({ frames := 9, cells := 1, slots := 6, locals := 148 } : Room) s m ([.ref (ad 57), .int x0, .int x1, .int x2, .ref o]).toArray below meth c s.heap [] 0 0 (MQ below (va_Qi (fun r (u : XS × Int64) => LQ S u.1 ∧ R_search x0 x1 x2 S r u.1 u.2) (PO2 dC dI ad o) (AO ad o)) ([.ref (ad 57), .int x0, .int x1, .int x2, .ref o]).toArray s 1 6 (AO ad o)) (F0 m 0 ls [])
  refine lv_aload hx hb dL_search_0 (lv_at hl 4 rfl) ?_
  refine lv_aload_n hx hb dL_search_2 rfl (lv_at hl 0 rfl) ?_
  refine lv_iload_n hx hb dL_search_3 rfl (lv_at hl 1 rfl) ?_
  refine lv_iload_n hx hb dL_search_4 rfl (lv_at hl 2 rfl) ?_
  refine lv_iload_n hx hb dL_search_5 rfl (lv_at hl 3 rfl) ?_
  rcases lim_lt 3 (by decide) x0 with ⟨i, hi, rfl⟩ | hb9
  rotate_left
  · skip
    refine kl_throw (vx_runV (As := [.int x0, .int x1, .int x2]) (rest := [.ref o]) ⟨hx, hb, hml, hown, hts⟩ (t_X4_search_1 l hst dC dI ad S x0 x1 x2 hb9) (cwV 3 hts gL_search_X4_search rfl rfl rfl hdX4_search_3 ⟨Nat.le_of_ble_eq_true rfl, Nat.le_of_ble_eq_true rfl⟩) hPW.1.preX rfl rfl hl.1 rfl (lv_room (Nat.le_of_ble_eq_true rfl)) dL_search_6 ⟨Nat.le_of_ble_eq_true rfl, Nat.le_of_ble_eq_true rfl⟩) hX hO (fun ce q9 H hce1 hce2 hce3 hX hO => ?_)
    refine vx_catch hown [] ⟨0, 13, 16, 19⟩ [⟨0, 13, 20, 21⟩] (htab.trans rfl) (fun _ h => nomatch h) rfl (by decide) (hts (.classLink RL 19 IX) (tm 830 (by decide +kernel) rfl)) (va_Nw.use rfl hPW.1.2.1.2.1.1) hce1 hce2 hce3 ?_
    refine lv_astore (lv' := [(5, .ref q9), (0, .ref (ad 57)), (1, .int x0), (2, .int x1), (3, .int x2), (4, .ref o)]) hx hb dL_search_16 hl (by decide) rfl (fun ls hl => ?_)
    refine lv_iconst (v := nI 1) hx hb dL_search_18 (by decide) ?_
    obtain ⟨n9, hN⟩ := hO
    exact W.widen (k := 1) (n := 6) (by simp) (by simp) (W.iret (v := nI 1) hx hb hr (fun t9 ht9 hW9 => ⟨⟨_, (S, n9), rfl, ⟨LQ_same hI h5, (Or.inl ⟨hb9, rfl, rfl⟩)⟩, hX.P ht9 hW9, by rw [ht9]; exact hN⟩, hX.2.2.2.F ht9⟩) hX.2.2.2.2.2 dL_search_19)
  replace hi : i < 3 := by omega
  have hn := (hI.1 i (by omega)).1
  rcases lim_lt 4 (by decide) x1 with ⟨j, hj, rfl⟩ | hb9
  rotate_left
  · skip
    refine kl_throw (vx_runV (As := [.int (nI i), .int x1, .int x2]) (rest := [.ref o]) ⟨hx, hb, hml, hown, hts⟩ (t_X4_search_2 l hst dC dI ad S i x1 x2 hi hb9) (cwV 3 hts gL_search_X4_search rfl rfl rfl hdX4_search_3 ⟨Nat.le_of_ble_eq_true rfl, Nat.le_of_ble_eq_true rfl⟩) hPW.1.preX rfl rfl hl.1 rfl (lv_room (Nat.le_of_ble_eq_true rfl)) dL_search_6 ⟨Nat.le_of_ble_eq_true rfl, Nat.le_of_ble_eq_true rfl⟩) hX hO (fun ce q9 H hce1 hce2 hce3 hX hO => ?_)
    refine vx_catch hown [] ⟨0, 13, 16, 19⟩ [⟨0, 13, 20, 21⟩] (htab.trans rfl) (fun _ h => nomatch h) rfl (by decide) (hts (.classLink RL 19 IX) (tm 830 (by decide +kernel) rfl)) (va_Nw.use rfl hPW.1.2.1.2.1.1) hce1 hce2 hce3 ?_
    refine lv_astore (lv' := [(5, .ref q9), (0, .ref (ad 57)), (1, .int (nI i)), (2, .int x1), (3, .int x2), (4, .ref o)]) hx hb dL_search_16 hl (by decide) rfl (fun ls hl => ?_)
    refine lv_iconst (v := nI 1) hx hb dL_search_18 (by decide) ?_
    obtain ⟨n9, hN⟩ := hO
    exact W.widen (k := 1) (n := 6) (by simp) (by simp) (W.iret (v := nI 1) hx hb hr (fun t9 ht9 hW9 => ⟨⟨_, (S, n9), rfl, ⟨LQ_same hI h5, (Or.inr (Or.inl ⟨i, hi, rfl, hb9, rfl, rfl⟩))⟩, hX.P ht9 hW9, by rw [ht9]; exact hN⟩, hX.2.2.2.F ht9⟩) hX.2.2.2.2.2 dL_search_19)
  replace hj : j < 4 := by omega
  rcases lim_le 15 (by decide) x2 with ⟨v, hv, rfl⟩ | hb9
  rotate_left
  · skip
    refine kl_throw (vx_runV (As := [.int (nI i), .int (nI j), .int x2]) (rest := [.ref o]) ⟨hx, hb, hml, hown, hts⟩ (t_X4_search_3 l hst dC dI ad S i j x2 hi hj hb9) (cwV 3 hts gL_search_X4_search rfl rfl rfl hdX4_search_3 ⟨Nat.le_of_ble_eq_true rfl, Nat.le_of_ble_eq_true rfl⟩) hPW.1.preX rfl rfl hl.1 rfl (lv_room (Nat.le_of_ble_eq_true rfl)) dL_search_6 ⟨Nat.le_of_ble_eq_true rfl, Nat.le_of_ble_eq_true rfl⟩) hX hO (fun ce q9 H hce1 hce2 hce3 hX hO => ?_)
    refine vx_catch hown [⟨0, 13, 16, 19⟩] ⟨0, 13, 20, 21⟩ [] (htab.trans rfl) (fun z hz => by rw [List.mem_singleton.mp hz]; exact Or.inr ⟨by decide, IX, hts (.classLink RL 19 IX) (by decide +kernel), hPW.2.2.2.2.1⟩) rfl (by decide) (hts (.classLink RL 21 IA) (tm 831 (by decide +kernel) rfl)) (va_Nw.use rfl hPW.1.2.1.2.1.2) hce1 hce2 hce3 ?_
    refine lv_astore (lv' := [(5, .ref q9), (0, .ref (ad 57)), (1, .int (nI i)), (2, .int (nI j)), (3, .int x2), (4, .ref o)]) hx hb dL_search_20 hl (by decide) rfl (fun ls hl => ?_)
    refine lv_iconst (v := nI 2) hx hb dL_search_22 (by decide) ?_
    obtain ⟨n9, hN⟩ := hO
    exact W.widen (k := 1) (n := 6) (by simp) (by simp) (W.iret (v := nI 2) hx hb hr (fun t9 ht9 hW9 => ⟨⟨_, (S, n9), rfl, ⟨LQ_same hI h5, (Or.inr (Or.inr (Or.inl ⟨i, j, hi, hj, rfl, rfl, hb9, rfl, rfl⟩)))⟩, hX.P ht9 hW9, by rw [ht9]; exact hN⟩, hX.2.2.2.F ht9⟩) hX.2.2.2.2.2 dL_search_23)
  replace hv : v < 16 := by omega
  refine kl_ci (va_runV (As := [.int (nI i), .int (nI j), .int (nI v)]) (rest := [.ref o]) ⟨hx, hb, hml, hown, hts⟩ (m_X4_search l dC dI ad S i j v hi hj hv hI) (cwV 3 hts gL_search_X4_search rfl rfl rfl hdX4_search_3 ⟨Nat.le_of_ble_eq_true rfl, Nat.le_of_ble_eq_true rfl⟩) (hX.preTop 57 6 (by decide) (by decide) rfl rfl) rfl rfl hl.1 rfl (lv_room (Nat.le_of_ble_eq_true rfl)) dL_search_6 ⟨Nat.le_of_ble_eq_true rfl, Nat.le_of_ble_eq_true rfl⟩) hX hO hno (fun r9 S1 H locs hw hX hO => ?_)
  have hLQ : LQ S S1 := LQ_search hI h5 (hw.imp id (fun h => ⟨h.1, h.2.2⟩))
  refine lv_i2l (v := r9.toInt64) hx hb dL_search_9 rfl ?_
  refine kl_putn hx hb hts hin5 hown hX hO hno (host := "OrderlatticeLaw") (va_Nw.use rfl hPW.2.2.2.2.2.1) dL_search_10 (fun H locs hX hN => ?_)
  refine lv_goto (tgt := 24) hx hb dL_search_13 (by decide) ?_
  refine lv_iconst (v := nI 0) hx hb dL_search_24 (by decide) ?_
  exact W.widen (k := 1) (n := 6) (by simp) (by simp) (W.iret (v := nI 0) hx hb hr (fun t9 ht9 hW9 => ⟨⟨_, (S1, r9.toInt64), rfl, ⟨hLQ, (Or.inr (Or.inr (Or.inr ⟨i, j, v, r9, hi, hj, hv, rfl, rfl, rfl, rfl, rfl, hw⟩)))⟩, hX.P ht9 hW9, by rw [ht9]; exact hN⟩, hX.2.2.2.F ht9⟩) hX.2.2.2.2.2 dL_search_25)
set_option maxHeartbeats 4000000 in
set_option maxRecDepth 100000 in
theorem m_L_near (l : Launch) (hst : l.stackTraces = false) (dC : Nat → ClassId) (dI : Nat → Nat → Nat) (cB : ClassId) (ad : Nat → Nat) (o : Nat) (S : XS) (x0 : Int32) (x1 : Int32) (x2 : Int32) (x3 : Int32) (hI : InvX S) (h5 : ∀ j, j < 4 → (S.2.1 j).2.2.2.2.1 ≤ 5) (hc : S.2.2.1 + 12 < 1000000) : Met l yL_near wsL_near ({ frames := 9, cells := 1, slots := 6, locals := 150 } : Room) (va_Pc [.ref (ad 57), .int x0, .int x1, .int x2, .int x3, .ref o] (PW dC dI cB ad o S)) (va_Qi (fun r (u : XS × Int64) => LQ S u.1 ∧ R_near x0 x1 x2 x3 S r u.1 u.2) (PO2 dC dI ad o) (AO ad o)) 1 6 (AO ad o) := by
  refine va_MetW (cc := cL_near) (maxL := 7) (ret := (some .int)) pl_L rfl ?_
  intro p e s m args below meth c s₁ B hml hv
  obtain ⟨rfl, hPW⟩ := hv
  have hx := B.exec
  have hb := B.bytes
  have hr := B.returns
  have hts := atoms_spec (ws := wsL_near) B.pre
  have htab := vx_table (x := yL_near) B (hts (.codeWith yL_near cL_near 7 (some .int) [(0, 15, 18, 19), (0, 15, 22, 21)]) (by unfold wsL_near; exact List.mem_cons_self))
  have hown : s.vm.findClass RL = some m.cls := findClass_of_methodNamed B.named
  have hlocks := B.notSynchronized
  have hin5 : ∀ w ∈ u_ws RX5 TX5 2, w ∈ wsL_near := tu 1332 (by decide +kernel) rfl
  have hX := WX.ofW hPW
  have hO := hPW.2.2.1
  have hno := hPW.2.2.2.1
  have hl := lv_entry ([.ref (ad 57), .int x0, .int x1, .int x2, .int x3, .ref o]) (n := 7) (Nat.le_of_ble_eq_true rfl)
  rw [lg_entry_eq]
  generalize (lg_sl ([.ref (ad 57), .int x0, .int x1, .int x2, .int x3, .ref o]) ++ List.replicate (7 - (lg_sl ([.ref (ad 57), .int x0, .int x1, .int x2, .int x3, .ref o])).length) Slot.unset).toArray = ls at hl ⊢
  have hl : lv_has ls 7 [(0, .ref (ad 57)), (1, .int x0), (2, .int x1), (3, .int x2), (4, .int x3), (5, .ref o)] := hl
  show W p l e ({ frames := 9, cells := 1, slots := 6, locals := 150 } : Room) s m ([.ref (ad 57), .int x0, .int x1, .int x2, .int x3, .ref o]).toArray below meth c s.heap [] 0 0 (MQ below (va_Qi (fun r (u : XS × Int64) => LQ S u.1 ∧ R_near x0 x1 x2 x3 S r u.1 u.2) (PO2 dC dI ad o) (AO ad o)) ([.ref (ad 57), .int x0, .int x1, .int x2, .int x3, .ref o]).toArray s 1 6 (AO ad o)) (F0 m 0 ls [])
  refine lv_aload hx hb dL_near_0 (lv_at hl 5 rfl) ?_
  refine lv_aload_n hx hb dL_near_2 rfl (lv_at hl 0 rfl) ?_
  refine lv_iload_n hx hb dL_near_3 rfl (lv_at hl 1 rfl) ?_
  refine lv_iload_n hx hb dL_near_4 rfl (lv_at hl 2 rfl) ?_
  refine lv_iload_n hx hb dL_near_5 rfl (lv_at hl 3 rfl) ?_
  refine lv_iload hx hb dL_near_6 (lv_at hl 4 rfl) ?_
  rcases lim_lt 3 (by decide) x0 with ⟨i, hi, rfl⟩ | hb9
  rotate_left
  · skip
    refine kl_throw (vx_runV (As := [.int x0, .int x1, .int x2, .int x3]) (rest := [.ref o]) ⟨hx, hb, hml, hown, hts⟩ (t_X4_near_1 l hst dC dI ad S x0 x1 x2 x3 hb9) (cwV 4 hts gL_near_X4_near rfl rfl rfl hdX4_near_4 ⟨Nat.le_of_ble_eq_true rfl, Nat.le_of_ble_eq_true rfl⟩) hPW.1.preX rfl rfl hl.1 rfl (lv_room (Nat.le_of_ble_eq_true rfl)) dL_near_8 ⟨Nat.le_of_ble_eq_true rfl, Nat.le_of_ble_eq_true rfl⟩) hX hO (fun ce q9 H hce1 hce2 hce3 hX hO => ?_)
    refine vx_catch hown [] ⟨0, 15, 18, 19⟩ [⟨0, 15, 22, 21⟩] (htab.trans rfl) (fun _ h => nomatch h) rfl (by decide) (hts (.classLink RL 19 IX) (tm 830 (by decide +kernel) rfl)) (va_Nw.use rfl hPW.1.2.1.2.1.1) hce1 hce2 hce3 ?_
    refine lv_astore (lv' := [(6, .ref q9), (0, .ref (ad 57)), (1, .int x0), (2, .int x1), (3, .int x2), (4, .int x3), (5, .ref o)]) hx hb dL_near_18 hl (by decide) rfl (fun ls hl => ?_)
    refine lv_iconst (v := nI 1) hx hb dL_near_20 (by decide) ?_
    obtain ⟨n9, hN⟩ := hO
    exact W.widen (k := 1) (n := 6) (by simp) (by simp) (W.iret (v := nI 1) hx hb hr (fun t9 ht9 hW9 => ⟨⟨_, (S, n9), rfl, ⟨LQ_same hI h5, (Or.inl ⟨hb9, rfl, rfl⟩)⟩, hX.P ht9 hW9, by rw [ht9]; exact hN⟩, hX.2.2.2.F ht9⟩) hX.2.2.2.2.2 dL_near_21)
  replace hi : i < 3 := by omega
  have hn := (hI.1 i (by omega)).1
  rcases lim_lt 4 (by decide) x1 with ⟨j, hj, rfl⟩ | hb9
  rotate_left
  · skip
    refine kl_throw (vx_runV (As := [.int (nI i), .int x1, .int x2, .int x3]) (rest := [.ref o]) ⟨hx, hb, hml, hown, hts⟩ (t_X4_near_2 l hst dC dI ad S i x1 x2 x3 hi hb9) (cwV 4 hts gL_near_X4_near rfl rfl rfl hdX4_near_4 ⟨Nat.le_of_ble_eq_true rfl, Nat.le_of_ble_eq_true rfl⟩) hPW.1.preX rfl rfl hl.1 rfl (lv_room (Nat.le_of_ble_eq_true rfl)) dL_near_8 ⟨Nat.le_of_ble_eq_true rfl, Nat.le_of_ble_eq_true rfl⟩) hX hO (fun ce q9 H hce1 hce2 hce3 hX hO => ?_)
    refine vx_catch hown [] ⟨0, 15, 18, 19⟩ [⟨0, 15, 22, 21⟩] (htab.trans rfl) (fun _ h => nomatch h) rfl (by decide) (hts (.classLink RL 19 IX) (tm 830 (by decide +kernel) rfl)) (va_Nw.use rfl hPW.1.2.1.2.1.1) hce1 hce2 hce3 ?_
    refine lv_astore (lv' := [(6, .ref q9), (0, .ref (ad 57)), (1, .int (nI i)), (2, .int x1), (3, .int x2), (4, .int x3), (5, .ref o)]) hx hb dL_near_18 hl (by decide) rfl (fun ls hl => ?_)
    refine lv_iconst (v := nI 1) hx hb dL_near_20 (by decide) ?_
    obtain ⟨n9, hN⟩ := hO
    exact W.widen (k := 1) (n := 6) (by simp) (by simp) (W.iret (v := nI 1) hx hb hr (fun t9 ht9 hW9 => ⟨⟨_, (S, n9), rfl, ⟨LQ_same hI h5, (Or.inr (Or.inl ⟨i, hi, rfl, hb9, rfl, rfl⟩))⟩, hX.P ht9 hW9, by rw [ht9]; exact hN⟩, hX.2.2.2.F ht9⟩) hX.2.2.2.2.2 dL_near_21)
  replace hj : j < 4 := by omega
  rcases lim_le 15 (by decide) x2 with ⟨v, hv, rfl⟩ | hb9
  rotate_left
  · skip
    refine kl_throw (vx_runV (As := [.int (nI i), .int (nI j), .int x2, .int x3]) (rest := [.ref o]) ⟨hx, hb, hml, hown, hts⟩ (t_X4_near_3 l hst dC dI ad S i j x2 x3 hi hj hb9) (cwV 4 hts gL_near_X4_near rfl rfl rfl hdX4_near_4 ⟨Nat.le_of_ble_eq_true rfl, Nat.le_of_ble_eq_true rfl⟩) hPW.1.preX rfl rfl hl.1 rfl (lv_room (Nat.le_of_ble_eq_true rfl)) dL_near_8 ⟨Nat.le_of_ble_eq_true rfl, Nat.le_of_ble_eq_true rfl⟩) hX hO (fun ce q9 H hce1 hce2 hce3 hX hO => ?_)
    refine vx_catch hown [⟨0, 15, 18, 19⟩] ⟨0, 15, 22, 21⟩ [] (htab.trans rfl) (fun z hz => by rw [List.mem_singleton.mp hz]; exact Or.inr ⟨by decide, IX, hts (.classLink RL 19 IX) (by decide +kernel), hPW.2.2.2.2.1⟩) rfl (by decide) (hts (.classLink RL 21 IA) (tm 831 (by decide +kernel) rfl)) (va_Nw.use rfl hPW.1.2.1.2.1.2) hce1 hce2 hce3 ?_
    refine lv_astore (lv' := [(6, .ref q9), (0, .ref (ad 57)), (1, .int (nI i)), (2, .int (nI j)), (3, .int x2), (4, .int x3), (5, .ref o)]) hx hb dL_near_22 hl (by decide) rfl (fun ls hl => ?_)
    refine lv_iconst (v := nI 2) hx hb dL_near_24 (by decide) ?_
    obtain ⟨n9, hN⟩ := hO
    exact W.widen (k := 1) (n := 6) (by simp) (by simp) (W.iret (v := nI 2) hx hb hr (fun t9 ht9 hW9 => ⟨⟨_, (S, n9), rfl, ⟨LQ_same hI h5, (Or.inr (Or.inr (Or.inl ⟨i, j, hi, hj, rfl, rfl, hb9, rfl, rfl⟩)))⟩, hX.P ht9 hW9, by rw [ht9]; exact hN⟩, hX.2.2.2.F ht9⟩) hX.2.2.2.2.2 dL_near_25)
  replace hv : v < 16 := by omega
  rcases lim_le 3 (by decide) x3 with ⟨k, hk, rfl⟩ | hb9
  rotate_left
  · skip
    refine kl_throw (vx_runV (As := [.int (nI i), .int (nI j), .int (nI v), .int x3]) (rest := [.ref o]) ⟨hx, hb, hml, hown, hts⟩ (t_X4_near_4 l hst dC dI ad S i j v x3 hi hj hv hb9) (cwV 4 hts gL_near_X4_near rfl rfl rfl hdX4_near_4 ⟨Nat.le_of_ble_eq_true rfl, Nat.le_of_ble_eq_true rfl⟩) hPW.1.preX rfl rfl hl.1 rfl (lv_room (Nat.le_of_ble_eq_true rfl)) dL_near_8 ⟨Nat.le_of_ble_eq_true rfl, Nat.le_of_ble_eq_true rfl⟩) hX hO (fun ce q9 H hce1 hce2 hce3 hX hO => ?_)
    refine vx_catch hown [⟨0, 15, 18, 19⟩] ⟨0, 15, 22, 21⟩ [] (htab.trans rfl) (fun z hz => by rw [List.mem_singleton.mp hz]; exact Or.inr ⟨by decide, IX, hts (.classLink RL 19 IX) (by decide +kernel), hPW.2.2.2.2.1⟩) rfl (by decide) (hts (.classLink RL 21 IA) (tm 831 (by decide +kernel) rfl)) (va_Nw.use rfl hPW.1.2.1.2.1.2) hce1 hce2 hce3 ?_
    refine lv_astore (lv' := [(6, .ref q9), (0, .ref (ad 57)), (1, .int (nI i)), (2, .int (nI j)), (3, .int (nI v)), (4, .int x3), (5, .ref o)]) hx hb dL_near_22 hl (by decide) rfl (fun ls hl => ?_)
    refine lv_iconst (v := nI 2) hx hb dL_near_24 (by decide) ?_
    obtain ⟨n9, hN⟩ := hO
    exact W.widen (k := 1) (n := 6) (by simp) (by simp) (W.iret (v := nI 2) hx hb hr (fun t9 ht9 hW9 => ⟨⟨_, (S, n9), rfl, ⟨LQ_same hI h5, (Or.inr (Or.inr (Or.inr (Or.inl ⟨i, j, v, hi, hj, hv, rfl, rfl, rfl, hb9, rfl, rfl⟩))))⟩, hX.P ht9 hW9, by rw [ht9]; exact hN⟩, hX.2.2.2.F ht9⟩) hX.2.2.2.2.2 dL_near_25)
  replace hk : k ≤ 3 := by omega
  refine kl_cr (va_runV (As := [.int (nI i), .int (nI j), .int (nI v), .int (nI k)]) (rest := [.ref o]) ⟨hx, hb, hml, hown, hts⟩ (m_X4_near l dC dI ad S i j v k hi hj hv hk hI) (cwV 4 hts gL_near_X4_near rfl rfl rfl hdX4_near_4 ⟨Nat.le_of_ble_eq_true rfl, Nat.le_of_ble_eq_true rfl⟩) (hX.preTop 57 6 (by decide) (by decide) rfl rfl) rfl rfl hl.1 rfl (lv_room (Nat.le_of_ble_eq_true rfl)) dL_near_8 ⟨Nat.le_of_ble_eq_true rfl, Nat.le_of_ble_eq_true rfl⟩) (fun r9 hw => ?_)
  refine lv_i2l (v := r9.toInt64) hx hb dL_near_11 rfl ?_
  refine kl_putn hx hb hts hin5 hown hX hO hno (host := "OrderlatticeLaw") (va_Nw.use rfl hPW.2.2.2.2.2.1) dL_near_12 (fun H locs hX hN => ?_)
  refine lv_goto (tgt := 26) hx hb dL_near_15 (by decide) ?_
  refine lv_iconst (v := nI 0) hx hb dL_near_26 (by decide) ?_
  exact W.widen (k := 1) (n := 6) (by simp) (by simp) (W.iret (v := nI 0) hx hb hr (fun t9 ht9 hW9 => ⟨⟨_, (S, r9.toInt64), rfl, ⟨LQ_same hI h5, (Or.inr (Or.inr (Or.inr (Or.inr ⟨i, j, v, k, r9, hi, hj, hv, hk, rfl, rfl, rfl, rfl, rfl, rfl, hw, rfl⟩))))⟩, hX.P ht9 hW9, by rw [ht9]; exact hN⟩, hX.2.2.2.F ht9⟩) hX.2.2.2.2.2 dL_near_27)
set_option maxHeartbeats 4000000 in
set_option maxRecDepth 100000 in
theorem m_L_kinds (l : Launch) (hst : l.stackTraces = false) (dC : Nat → ClassId) (dI : Nat → Nat → Nat) (cB : ClassId) (ad : Nat → Nat) (o : Nat) (S : XS) (x0 : Int32) (x1 : Int32) (hI : InvX S) (h5 : ∀ j, j < 4 → (S.2.1 j).2.2.2.2.1 ≤ 5) (hc : S.2.2.1 + 12 < 1000000) : Met l yL_kinds wsL_kinds ({ frames := 9, cells := 1, slots := 6, locals := 146 } : Room) (va_Pc [.ref (ad 57), .int x0, .int x1, .ref o] (PW dC dI cB ad o S)) (va_Qi (fun r (u : XS × Int64) => LQ S u.1 ∧ R_kinds x0 x1 S r u.1 u.2) (PO2 dC dI ad o) (AO ad o)) 1 6 (AO ad o) := by
  refine va_MetW (cc := cL_kinds) (maxL := 5) (ret := (some .int)) pl_L rfl ?_
  intro p e s m args below meth c s₁ B hml hv
  obtain ⟨rfl, hPW⟩ := hv
  have hx := B.exec
  have hb := B.bytes
  have hr := B.returns
  have hts := atoms_spec (ws := wsL_kinds) B.pre
  have htab := vx_table (x := yL_kinds) B (hts (.codeWith yL_kinds cL_kinds 5 (some .int) [(0, 11, 14, 19)]) (by unfold wsL_kinds; exact List.mem_cons_self))
  have hown : s.vm.findClass RL = some m.cls := findClass_of_methodNamed B.named
  have hlocks := B.notSynchronized
  have hin5 : ∀ w ∈ u_ws RX5 TX5 2, w ∈ wsL_kinds := tu 1332 (by decide +kernel) rfl
  have hX := WX.ofW hPW
  have hO := hPW.2.2.1
  have hno := hPW.2.2.2.1
  have hl := lv_entry ([.ref (ad 57), .int x0, .int x1, .ref o]) (n := 5) (Nat.le_of_ble_eq_true rfl)
  rw [lg_entry_eq]
  generalize (lg_sl ([.ref (ad 57), .int x0, .int x1, .ref o]) ++ List.replicate (5 - (lg_sl ([.ref (ad 57), .int x0, .int x1, .ref o])).length) Slot.unset).toArray = ls at hl ⊢
  have hl : lv_has ls 5 [(0, .ref (ad 57)), (1, .int x0), (2, .int x1), (3, .ref o)] := hl
  show W p l e ({ frames := 9, cells := 1, slots := 6, locals := 146 } : Room) s m ([.ref (ad 57), .int x0, .int x1, .ref o]).toArray below meth c s.heap [] 0 0 (MQ below (va_Qi (fun r (u : XS × Int64) => LQ S u.1 ∧ R_kinds x0 x1 S r u.1 u.2) (PO2 dC dI ad o) (AO ad o)) ([.ref (ad 57), .int x0, .int x1, .ref o]).toArray s 1 6 (AO ad o)) (F0 m 0 ls [])
  refine lv_aload_n hx hb dL_kinds_0 rfl (lv_at hl 3 rfl) ?_
  refine lv_aload_n hx hb dL_kinds_1 rfl (lv_at hl 0 rfl) ?_
  refine lv_iload_n hx hb dL_kinds_2 rfl (lv_at hl 1 rfl) ?_
  refine lv_iload_n hx hb dL_kinds_3 rfl (lv_at hl 2 rfl) ?_
  rcases lim_lt 3 (by decide) x0 with ⟨i, hi, rfl⟩ | hb9
  rotate_left
  · skip
    refine kl_throw (vx_runV (As := [.int x0, .int x1]) (rest := [.ref o]) ⟨hx, hb, hml, hown, hts⟩ (t_X4_kinds_1 l hst dC dI ad S x0 x1 hb9) (cwV 2 hts gL_kinds_X4_kinds rfl rfl rfl hdX4_kinds_2 ⟨Nat.le_of_ble_eq_true rfl, Nat.le_of_ble_eq_true rfl⟩) hPW.1.preX rfl rfl hl.1 rfl (lv_room (Nat.le_of_ble_eq_true rfl)) dL_kinds_4 ⟨Nat.le_of_ble_eq_true rfl, Nat.le_of_ble_eq_true rfl⟩) hX hO (fun ce q9 H hce1 hce2 hce3 hX hO => ?_)
    refine vx_catch hown [] ⟨0, 11, 14, 19⟩ [] (htab.trans rfl) (fun _ h => nomatch h) rfl (by decide) (hts (.classLink RL 19 IX) (tm 830 (by decide +kernel) rfl)) (va_Nw.use rfl hPW.1.2.1.2.1.1) hce1 hce2 hce3 ?_
    refine lv_astore (lv' := [(4, .ref q9), (0, .ref (ad 57)), (1, .int x0), (2, .int x1), (3, .ref o)]) hx hb dL_kinds_14 hl (by decide) rfl (fun ls hl => ?_)
    refine lv_iconst (v := nI 1) hx hb dL_kinds_16 (by decide) ?_
    obtain ⟨n9, hN⟩ := hO
    exact W.widen (k := 1) (n := 6) (by simp) (by simp) (W.iret (v := nI 1) hx hb hr (fun t9 ht9 hW9 => ⟨⟨_, (S, n9), rfl, ⟨LQ_same hI h5, (Or.inl ⟨hb9, rfl, rfl⟩)⟩, hX.P ht9 hW9, by rw [ht9]; exact hN⟩, hX.2.2.2.F ht9⟩) hX.2.2.2.2.2 dL_kinds_17)
  replace hi : i < 3 := by omega
  have hn := (hI.1 i (by omega)).1
  rcases lim_lt 4 (by decide) x1 with ⟨j, hj, rfl⟩ | hb9
  rotate_left
  · skip
    refine kl_throw (vx_runV (As := [.int (nI i), .int x1]) (rest := [.ref o]) ⟨hx, hb, hml, hown, hts⟩ (t_X4_kinds_2 l hst dC dI ad S i x1 hi hb9) (cwV 2 hts gL_kinds_X4_kinds rfl rfl rfl hdX4_kinds_2 ⟨Nat.le_of_ble_eq_true rfl, Nat.le_of_ble_eq_true rfl⟩) hPW.1.preX rfl rfl hl.1 rfl (lv_room (Nat.le_of_ble_eq_true rfl)) dL_kinds_4 ⟨Nat.le_of_ble_eq_true rfl, Nat.le_of_ble_eq_true rfl⟩) hX hO (fun ce q9 H hce1 hce2 hce3 hX hO => ?_)
    refine vx_catch hown [] ⟨0, 11, 14, 19⟩ [] (htab.trans rfl) (fun _ h => nomatch h) rfl (by decide) (hts (.classLink RL 19 IX) (tm 830 (by decide +kernel) rfl)) (va_Nw.use rfl hPW.1.2.1.2.1.1) hce1 hce2 hce3 ?_
    refine lv_astore (lv' := [(4, .ref q9), (0, .ref (ad 57)), (1, .int (nI i)), (2, .int x1), (3, .ref o)]) hx hb dL_kinds_14 hl (by decide) rfl (fun ls hl => ?_)
    refine lv_iconst (v := nI 1) hx hb dL_kinds_16 (by decide) ?_
    obtain ⟨n9, hN⟩ := hO
    exact W.widen (k := 1) (n := 6) (by simp) (by simp) (W.iret (v := nI 1) hx hb hr (fun t9 ht9 hW9 => ⟨⟨_, (S, n9), rfl, ⟨LQ_same hI h5, (Or.inr (Or.inl ⟨i, hi, rfl, hb9, rfl, rfl⟩))⟩, hX.P ht9 hW9, by rw [ht9]; exact hN⟩, hX.2.2.2.F ht9⟩) hX.2.2.2.2.2 dL_kinds_17)
  replace hj : j < 4 := by omega
  refine kl_cr (va_runV (As := [.int (nI i), .int (nI j)]) (rest := [.ref o]) ⟨hx, hb, hml, hown, hts⟩ (m_X4_kinds l dC dI ad S i j hi hj hI) (cwV 2 hts gL_kinds_X4_kinds rfl rfl rfl hdX4_kinds_2 ⟨Nat.le_of_ble_eq_true rfl, Nat.le_of_ble_eq_true rfl⟩) (hX.preTop 57 6 (by decide) (by decide) rfl rfl) rfl rfl hl.1 rfl (lv_room (Nat.le_of_ble_eq_true rfl)) dL_kinds_4 ⟨Nat.le_of_ble_eq_true rfl, Nat.le_of_ble_eq_true rfl⟩) (fun r9 hw => ?_)
  refine lv_i2l (v := r9.toInt64) hx hb dL_kinds_7 rfl ?_
  refine kl_putn hx hb hts hin5 hown hX hO hno (host := "OrderlatticeLaw") (va_Nw.use rfl hPW.2.2.2.2.2.1) dL_kinds_8 (fun H locs hX hN => ?_)
  refine lv_goto (tgt := 18) hx hb dL_kinds_11 (by decide) ?_
  refine lv_iconst (v := nI 0) hx hb dL_kinds_18 (by decide) ?_
  exact W.widen (k := 1) (n := 6) (by simp) (by simp) (W.iret (v := nI 0) hx hb hr (fun t9 ht9 hW9 => ⟨⟨_, (S, r9.toInt64), rfl, ⟨LQ_same hI h5, (Or.inr (Or.inr ⟨i, j, r9, hi, hj, rfl, rfl, rfl, rfl, hw, rfl⟩))⟩, hX.P ht9 hW9, by rw [ht9]; exact hN⟩, hX.2.2.2.F ht9⟩) hX.2.2.2.2.2 dL_kinds_19)
end
section
set_option maxHeartbeats 4000000 in
set_option maxRecDepth 100000 in
theorem m_L_ahead (l : Launch) (hst : l.stackTraces = false) (dC : Nat → ClassId) (dI : Nat → Nat → Nat) (cB : ClassId) (ad : Nat → Nat) (o : Nat) (S : XS) (x0 : Int32) (x1 : Int32) (x2 : Int32) (hI : InvX S) (h5 : ∀ j, j < 4 → (S.2.1 j).2.2.2.2.1 ≤ 5) (hc : S.2.2.1 + 12 < 1000000) : Met l yL_ahead wsL_ahead ({ frames := 9, cells := 1, slots := 6, locals := 148 } : Room) (va_Pc [.ref (ad 57), .int x0, .int x1, .int x2, .ref o] (PW dC dI cB ad o S)) (va_Qi (fun r (u : XS × Int64) => LQ S u.1 ∧ R_ahead x0 x1 x2 S r u.1 u.2) (PO2 dC dI ad o) (AO ad o)) 1 6 (AO ad o) := by
  refine va_MetW (cc := cL_ahead) (maxL := 6) (ret := (some .int)) pl_L rfl ?_
  intro p e s m args below meth c s₁ B hml hv
  obtain ⟨rfl, hPW⟩ := hv
  have hx := B.exec
  have hb := B.bytes
  have hr := B.returns
  have hts := atoms_spec (ws := wsL_ahead) B.pre
  have htab := vx_table (x := yL_ahead) B (hts (.codeWith yL_ahead cL_ahead 6 (some .int) [(0, 13, 16, 19), (0, 13, 20, 21)]) (by unfold wsL_ahead; exact List.mem_cons_self))
  have hown : s.vm.findClass RL = some m.cls := findClass_of_methodNamed B.named
  have hlocks := B.notSynchronized
  have hin5 : ∀ w ∈ u_ws RX5 TX5 2, w ∈ wsL_ahead := tu 1332 (by decide +kernel) rfl
  have hX := WX.ofW hPW
  have hO := hPW.2.2.1
  have hno := hPW.2.2.2.1
  have hl := lv_entry ([.ref (ad 57), .int x0, .int x1, .int x2, .ref o]) (n := 6) (Nat.le_of_ble_eq_true rfl)
  rw [lg_entry_eq]
  generalize (lg_sl ([.ref (ad 57), .int x0, .int x1, .int x2, .ref o]) ++ List.replicate (6 - (lg_sl ([.ref (ad 57), .int x0, .int x1, .int x2, .ref o])).length) Slot.unset).toArray = ls at hl ⊢
  have hl : lv_has ls 6 [(0, .ref (ad 57)), (1, .int x0), (2, .int x1), (3, .int x2), (4, .ref o)] := hl
  show W p l e ({ frames := 9, cells := 1, slots := 6, locals := 148 } : Room) s m ([.ref (ad 57), .int x0, .int x1, .int x2, .ref o]).toArray below meth c s.heap [] 0 0 (MQ below (va_Qi (fun r (u : XS × Int64) => LQ S u.1 ∧ R_ahead x0 x1 x2 S r u.1 u.2) (PO2 dC dI ad o) (AO ad o)) ([.ref (ad 57), .int x0, .int x1, .int x2, .ref o]).toArray s 1 6 (AO ad o)) (F0 m 0 ls [])
  refine lv_aload hx hb dL_ahead_0 (lv_at hl 4 rfl) ?_
  refine lv_aload_n hx hb dL_ahead_2 rfl (lv_at hl 0 rfl) ?_
  refine lv_iload_n hx hb dL_ahead_3 rfl (lv_at hl 1 rfl) ?_
  refine lv_iload_n hx hb dL_ahead_4 rfl (lv_at hl 2 rfl) ?_
  refine lv_iload_n hx hb dL_ahead_5 rfl (lv_at hl 3 rfl) ?_
  rcases lim_lt 3 (by decide) x0 with ⟨i, hi, rfl⟩ | hb9
  rotate_left
  · skip
    refine kl_throw (vx_runV (As := [.int x0, .int x1, .int x2]) (rest := [.ref o]) ⟨hx, hb, hml, hown, hts⟩ (t_X4_ahead_1 l hst dC dI ad S x0 x1 x2 hb9) (cwV 3 hts gL_ahead_X4_ahead rfl rfl rfl hdX4_ahead_3 ⟨Nat.le_of_ble_eq_true rfl, Nat.le_of_ble_eq_true rfl⟩) hPW.1.preX rfl rfl hl.1 rfl (lv_room (Nat.le_of_ble_eq_true rfl)) dL_ahead_6 ⟨Nat.le_of_ble_eq_true rfl, Nat.le_of_ble_eq_true rfl⟩) hX hO (fun ce q9 H hce1 hce2 hce3 hX hO => ?_)
    refine vx_catch hown [] ⟨0, 13, 16, 19⟩ [⟨0, 13, 20, 21⟩] (htab.trans rfl) (fun _ h => nomatch h) rfl (by decide) (hts (.classLink RL 19 IX) (tm 830 (by decide +kernel) rfl)) (va_Nw.use rfl hPW.1.2.1.2.1.1) hce1 hce2 hce3 ?_
    refine lv_astore (lv' := [(5, .ref q9), (0, .ref (ad 57)), (1, .int x0), (2, .int x1), (3, .int x2), (4, .ref o)]) hx hb dL_ahead_16 hl (by decide) rfl (fun ls hl => ?_)
    refine lv_iconst (v := nI 1) hx hb dL_ahead_18 (by decide) ?_
    obtain ⟨n9, hN⟩ := hO
    exact W.widen (k := 1) (n := 6) (by simp) (by simp) (W.iret (v := nI 1) hx hb hr (fun t9 ht9 hW9 => ⟨⟨_, (S, n9), rfl, ⟨LQ_same hI h5, (Or.inl ⟨hb9, rfl, rfl⟩)⟩, hX.P ht9 hW9, by rw [ht9]; exact hN⟩, hX.2.2.2.F ht9⟩) hX.2.2.2.2.2 dL_ahead_19)
  replace hi : i < 3 := by omega
  have hn := (hI.1 i (by omega)).1
  rcases lim_lt 4 (by decide) x1 with ⟨j, hj, rfl⟩ | hb9
  rotate_left
  · skip
    refine kl_throw (vx_runV (As := [.int (nI i), .int x1, .int x2]) (rest := [.ref o]) ⟨hx, hb, hml, hown, hts⟩ (t_X4_ahead_2 l hst dC dI ad S i x1 x2 hi hb9) (cwV 3 hts gL_ahead_X4_ahead rfl rfl rfl hdX4_ahead_3 ⟨Nat.le_of_ble_eq_true rfl, Nat.le_of_ble_eq_true rfl⟩) hPW.1.preX rfl rfl hl.1 rfl (lv_room (Nat.le_of_ble_eq_true rfl)) dL_ahead_6 ⟨Nat.le_of_ble_eq_true rfl, Nat.le_of_ble_eq_true rfl⟩) hX hO (fun ce q9 H hce1 hce2 hce3 hX hO => ?_)
    refine vx_catch hown [] ⟨0, 13, 16, 19⟩ [⟨0, 13, 20, 21⟩] (htab.trans rfl) (fun _ h => nomatch h) rfl (by decide) (hts (.classLink RL 19 IX) (tm 830 (by decide +kernel) rfl)) (va_Nw.use rfl hPW.1.2.1.2.1.1) hce1 hce2 hce3 ?_
    refine lv_astore (lv' := [(5, .ref q9), (0, .ref (ad 57)), (1, .int (nI i)), (2, .int x1), (3, .int x2), (4, .ref o)]) hx hb dL_ahead_16 hl (by decide) rfl (fun ls hl => ?_)
    refine lv_iconst (v := nI 1) hx hb dL_ahead_18 (by decide) ?_
    obtain ⟨n9, hN⟩ := hO
    exact W.widen (k := 1) (n := 6) (by simp) (by simp) (W.iret (v := nI 1) hx hb hr (fun t9 ht9 hW9 => ⟨⟨_, (S, n9), rfl, ⟨LQ_same hI h5, (Or.inr (Or.inl ⟨i, hi, rfl, hb9, rfl, rfl⟩))⟩, hX.P ht9 hW9, by rw [ht9]; exact hN⟩, hX.2.2.2.F ht9⟩) hX.2.2.2.2.2 dL_ahead_19)
  replace hj : j < 4 := by omega
  rcases lim_le 15 (by decide) x2 with ⟨v, hv, rfl⟩ | hb9
  rotate_left
  · skip
    refine kl_throw (vx_runV (As := [.int (nI i), .int (nI j), .int x2]) (rest := [.ref o]) ⟨hx, hb, hml, hown, hts⟩ (t_X4_ahead_3 l hst dC dI ad S i j x2 hi hj hb9) (cwV 3 hts gL_ahead_X4_ahead rfl rfl rfl hdX4_ahead_3 ⟨Nat.le_of_ble_eq_true rfl, Nat.le_of_ble_eq_true rfl⟩) hPW.1.preX rfl rfl hl.1 rfl (lv_room (Nat.le_of_ble_eq_true rfl)) dL_ahead_6 ⟨Nat.le_of_ble_eq_true rfl, Nat.le_of_ble_eq_true rfl⟩) hX hO (fun ce q9 H hce1 hce2 hce3 hX hO => ?_)
    refine vx_catch hown [⟨0, 13, 16, 19⟩] ⟨0, 13, 20, 21⟩ [] (htab.trans rfl) (fun z hz => by rw [List.mem_singleton.mp hz]; exact Or.inr ⟨by decide, IX, hts (.classLink RL 19 IX) (by decide +kernel), hPW.2.2.2.2.1⟩) rfl (by decide) (hts (.classLink RL 21 IA) (tm 831 (by decide +kernel) rfl)) (va_Nw.use rfl hPW.1.2.1.2.1.2) hce1 hce2 hce3 ?_
    refine lv_astore (lv' := [(5, .ref q9), (0, .ref (ad 57)), (1, .int (nI i)), (2, .int (nI j)), (3, .int x2), (4, .ref o)]) hx hb dL_ahead_20 hl (by decide) rfl (fun ls hl => ?_)
    refine lv_iconst (v := nI 2) hx hb dL_ahead_22 (by decide) ?_
    obtain ⟨n9, hN⟩ := hO
    exact W.widen (k := 1) (n := 6) (by simp) (by simp) (W.iret (v := nI 2) hx hb hr (fun t9 ht9 hW9 => ⟨⟨_, (S, n9), rfl, ⟨LQ_same hI h5, (Or.inr (Or.inr (Or.inl ⟨i, j, hi, hj, rfl, rfl, hb9, rfl, rfl⟩)))⟩, hX.P ht9 hW9, by rw [ht9]; exact hN⟩, hX.2.2.2.F ht9⟩) hX.2.2.2.2.2 dL_ahead_23)
  replace hv : v < 16 := by omega
  refine kl_cr (va_runV (As := [.int (nI i), .int (nI j), .int (nI v)]) (rest := [.ref o]) ⟨hx, hb, hml, hown, hts⟩ (m_X4_ahead l dC dI ad S i j v hi hj hv hI) (cwV 3 hts gL_ahead_X4_ahead rfl rfl rfl hdX4_ahead_3 ⟨Nat.le_of_ble_eq_true rfl, Nat.le_of_ble_eq_true rfl⟩) (hX.preTop 57 6 (by decide) (by decide) rfl rfl) rfl rfl hl.1 rfl (lv_room (Nat.le_of_ble_eq_true rfl)) dL_ahead_6 ⟨Nat.le_of_ble_eq_true rfl, Nat.le_of_ble_eq_true rfl⟩) (fun r9 hw => ?_)
  refine lv_i2l (v := r9.toInt64) hx hb dL_ahead_9 rfl ?_
  refine kl_putn hx hb hts hin5 hown hX hO hno (host := "OrderlatticeLaw") (va_Nw.use rfl hPW.2.2.2.2.2.1) dL_ahead_10 (fun H locs hX hN => ?_)
  refine lv_goto (tgt := 24) hx hb dL_ahead_13 (by decide) ?_
  refine lv_iconst (v := nI 0) hx hb dL_ahead_24 (by decide) ?_
  exact W.widen (k := 1) (n := 6) (by simp) (by simp) (W.iret (v := nI 0) hx hb hr (fun t9 ht9 hW9 => ⟨⟨_, (S, r9.toInt64), rfl, ⟨LQ_same hI h5, (Or.inr (Or.inr (Or.inr ⟨i, j, v, r9, hi, hj, hv, rfl, rfl, rfl, rfl, rfl, hw, rfl⟩)))⟩, hX.P ht9 hW9, by rw [ht9]; exact hN⟩, hX.2.2.2.F ht9⟩) hX.2.2.2.2.2 dL_ahead_25)
set_option maxHeartbeats 4000000 in
set_option maxRecDepth 100000 in
theorem m_L_groups (l : Launch) (hst : l.stackTraces = false) (dC : Nat → ClassId) (dI : Nat → Nat → Nat) (cB : ClassId) (ad : Nat → Nat) (o : Nat) (S : XS) (x0 : Int32) (x1 : Int32) (hI : InvX S) (h5 : ∀ j, j < 4 → (S.2.1 j).2.2.2.2.1 ≤ 5) (hc : S.2.2.1 + 12 < 1000000) : Met l yL_groups wsL_groups ({ frames := 10, cells := 80, slots := 3752, locals := 218 } : Room) (va_Pc [.ref (ad 57), .int x0, .int x1, .ref o] (PW dC dI cB ad o S)) (va_Qi (fun r (u : XS × Int64) => LQ S u.1 ∧ R_groups x0 x1 S r u.1 u.2) (PO2 dC dI ad o) (AO ad o)) 80 3752 (AO ad o) := by
  refine va_MetW (cc := cL_groups) (maxL := 5) (ret := (some .int)) pl_L rfl ?_
  intro p e s m args below meth c s₁ B hml hv
  obtain ⟨rfl, hPW⟩ := hv
  have hx := B.exec
  have hb := B.bytes
  have hr := B.returns
  have hts := atoms_spec (ws := wsL_groups) B.pre
  have htab := vx_table (x := yL_groups) B (hts (.codeWith yL_groups cL_groups 5 (some .int) [(0, 10, 13, 19)]) (by unfold wsL_groups; exact List.mem_cons_self))
  have hown : s.vm.findClass RL = some m.cls := findClass_of_methodNamed B.named
  have hlocks := B.notSynchronized
  have hin5 : ∀ w ∈ u_ws RX5 TX5 2, w ∈ wsL_groups := tu 1332 (by decide +kernel) rfl
  have hX := WX.ofW hPW
  have hO := hPW.2.2.1
  have hno := hPW.2.2.2.1
  have hl := lv_entry ([.ref (ad 57), .int x0, .int x1, .ref o]) (n := 5) (Nat.le_of_ble_eq_true rfl)
  rw [lg_entry_eq]
  generalize (lg_sl ([.ref (ad 57), .int x0, .int x1, .ref o]) ++ List.replicate (5 - (lg_sl ([.ref (ad 57), .int x0, .int x1, .ref o])).length) Slot.unset).toArray = ls at hl ⊢
  have hl : lv_has ls 5 [(0, .ref (ad 57)), (1, .int x0), (2, .int x1), (3, .ref o)] := hl
  show W p l e ({ frames := 10, cells := 80, slots := 3752, locals := 218 } : Room) s m ([.ref (ad 57), .int x0, .int x1, .ref o]).toArray below meth c s.heap [] 0 0 (MQ below (va_Qi (fun r (u : XS × Int64) => LQ S u.1 ∧ R_groups x0 x1 S r u.1 u.2) (PO2 dC dI ad o) (AO ad o)) ([.ref (ad 57), .int x0, .int x1, .ref o]).toArray s 80 3752 (AO ad o)) (F0 m 0 ls [])
  refine lv_aload_n hx hb dL_groups_0 rfl (lv_at hl 3 rfl) ?_
  refine lv_aload_n hx hb dL_groups_1 rfl (lv_at hl 0 rfl) ?_
  refine lv_iload_n hx hb dL_groups_2 rfl (lv_at hl 1 rfl) ?_
  refine lv_iload_n hx hb dL_groups_3 rfl (lv_at hl 2 rfl) ?_
  rcases lim_lt 3 (by decide) x0 with ⟨i, hi, rfl⟩ | hb9
  rotate_left
  · skip
    refine kl_throw (vx_runV (As := [.int x0, .int x1]) (rest := [.ref o]) ⟨hx, hb, hml, hown, hts⟩ (t_X4_groups_1 l hst dC dI ad S x0 x1 hb9) (cwV 2 hts gL_groups_X4_groups rfl rfl rfl hdX4_groups_2 ⟨Nat.le_of_ble_eq_true rfl, Nat.le_of_ble_eq_true rfl⟩) hPW.1.preX rfl rfl hl.1 rfl (lv_room (Nat.le_of_ble_eq_true rfl)) dL_groups_4 ⟨Nat.le_of_ble_eq_true rfl, Nat.le_of_ble_eq_true rfl⟩) hX hO (fun ce q9 H hce1 hce2 hce3 hX hO => ?_)
    refine vx_catch hown [] ⟨0, 10, 13, 19⟩ [] (htab.trans rfl) (fun _ h => nomatch h) rfl (by decide) (hts (.classLink RL 19 IX) (tm 830 (by decide +kernel) rfl)) (va_Nw.use rfl hPW.1.2.1.2.1.1) hce1 hce2 hce3 ?_
    refine lv_astore (lv' := [(4, .ref q9), (0, .ref (ad 57)), (1, .int x0), (2, .int x1), (3, .ref o)]) hx hb dL_groups_13 hl (by decide) rfl (fun ls hl => ?_)
    refine lv_iconst (v := nI 1) hx hb dL_groups_15 (by decide) ?_
    obtain ⟨n9, hN⟩ := hO
    exact W.widen (k := 80) (n := 3752) (by simp) (by simp) (W.iret (v := nI 1) hx hb hr (fun t9 ht9 hW9 => ⟨⟨_, (S, n9), rfl, ⟨LQ_same hI h5, (Or.inl ⟨hb9, rfl, rfl⟩)⟩, hX.P ht9 hW9, by rw [ht9]; exact hN⟩, hX.2.2.2.F ht9⟩) hX.2.2.2.2.2 dL_groups_16)
  replace hi : i < 3 := by omega
  have hn := (hI.1 i (by omega)).1
  rcases lim_lt 4 (by decide) x1 with ⟨j, hj, rfl⟩ | hb9
  rotate_left
  · skip
    refine kl_throw (vx_runV (As := [.int (nI i), .int x1]) (rest := [.ref o]) ⟨hx, hb, hml, hown, hts⟩ (t_X4_groups_2 l hst dC dI ad S i x1 hi hb9) (cwV 2 hts gL_groups_X4_groups rfl rfl rfl hdX4_groups_2 ⟨Nat.le_of_ble_eq_true rfl, Nat.le_of_ble_eq_true rfl⟩) hPW.1.preX rfl rfl hl.1 rfl (lv_room (Nat.le_of_ble_eq_true rfl)) dL_groups_4 ⟨Nat.le_of_ble_eq_true rfl, Nat.le_of_ble_eq_true rfl⟩) hX hO (fun ce q9 H hce1 hce2 hce3 hX hO => ?_)
    refine vx_catch hown [] ⟨0, 10, 13, 19⟩ [] (htab.trans rfl) (fun _ h => nomatch h) rfl (by decide) (hts (.classLink RL 19 IX) (tm 830 (by decide +kernel) rfl)) (va_Nw.use rfl hPW.1.2.1.2.1.1) hce1 hce2 hce3 ?_
    refine lv_astore (lv' := [(4, .ref q9), (0, .ref (ad 57)), (1, .int (nI i)), (2, .int x1), (3, .ref o)]) hx hb dL_groups_13 hl (by decide) rfl (fun ls hl => ?_)
    refine lv_iconst (v := nI 1) hx hb dL_groups_15 (by decide) ?_
    obtain ⟨n9, hN⟩ := hO
    exact W.widen (k := 80) (n := 3752) (by simp) (by simp) (W.iret (v := nI 1) hx hb hr (fun t9 ht9 hW9 => ⟨⟨_, (S, n9), rfl, ⟨LQ_same hI h5, (Or.inr (Or.inl ⟨i, hi, rfl, hb9, rfl, rfl⟩))⟩, hX.P ht9 hW9, by rw [ht9]; exact hN⟩, hX.2.2.2.F ht9⟩) hX.2.2.2.2.2 dL_groups_16)
  replace hj : j < 4 := by omega
  refine kl_rr (va_runV (As := [.int (nI i), .int (nI j)]) (rest := [.ref o]) ⟨hx, hb, hml, hown, hts⟩ (n_X4_groups l dC dI cB ad S i j hi hj hI) (cwV 2 hts gL_groups_X4_groups rfl rfl rfl hdX4_groups_2 ⟨Nat.le_of_ble_eq_true rfl, Nat.le_of_ble_eq_true rfl⟩) hPW.preT rfl rfl hl.1 rfl (lv_room (Nat.le_of_ble_eq_true rfl)) dL_groups_4 ⟨Nat.le_of_ble_eq_true rfl, Nat.le_of_ble_eq_true rfl⟩) hX hO hno (fun S1 q9 H locs hw hX hO => ?_)
  have hLQ : LQ S S1 := by rw [hw]; exact LQ_same hI h5
  refine kl_put hx hb hts hin5 hown hX hO hno 1 (by decide) (host := "OrderlatticeLaw") (va_Nw.use rfl hPW.2.2.2.2.2.2) (ty := (.object "java/lang/String")) rfl rfl rfl (Or.inr ⟨rfl, _, rfl⟩) dL_groups_7 (fun H locs hX hO => ?_)
  refine lv_goto (tgt := 17) hx hb dL_groups_10 (by decide) ?_
  refine lv_iconst (v := nI 0) hx hb dL_groups_17 (by decide) ?_
  obtain ⟨n9, hN⟩ := hO
  exact W.widen (k := 80) (n := 3752) (by simp) (by simp) (W.iret (v := nI 0) hx hb hr (fun t9 ht9 hW9 => ⟨⟨_, (S1, n9), rfl, ⟨hLQ, (Or.inr (Or.inr ⟨i, j, hi, hj, rfl, rfl, rfl, hw⟩))⟩, hX.P ht9 hW9, by rw [ht9]; exact hN⟩, hX.2.2.2.F ht9⟩) hX.2.2.2.2.2 dL_groups_18)
set_option maxHeartbeats 4000000 in
set_option maxRecDepth 100000 in
theorem m_L_ranks (l : Launch) (hst : l.stackTraces = false) (dC : Nat → ClassId) (dI : Nat → Nat → Nat) (cB : ClassId) (ad : Nat → Nat) (o : Nat) (S : XS) (x0 : Int32) (x1 : Int32) (z2 : Bool) (hI : InvX S) (h5 : ∀ j, j < 4 → (S.2.1 j).2.2.2.2.1 ≤ 5) (hc : S.2.2.1 + 12 < 1000000) : Met l yL_ranks wsL_ranks ({ frames := 9, cells := 80, slots := 900, locals := 179 } : Room) (va_Pc [.ref (ad 57), .int x0, .int x1, .int (bI z2), .ref o] (PW dC dI cB ad o S)) (va_Qi (fun r (u : XS × Int64) => LQ S u.1 ∧ R_ranks x0 x1 z2 S r u.1 u.2) (PO2 dC dI ad o) (AO ad o)) 80 900 (AO ad o) := by
  refine va_MetW (cc := cL_ranks) (maxL := 6) (ret := (some .int)) pl_L rfl ?_
  intro p e s m args below meth c s₁ B hml hv
  obtain ⟨rfl, hPW⟩ := hv
  have hx := B.exec
  have hb := B.bytes
  have hr := B.returns
  have hts := atoms_spec (ws := wsL_ranks) B.pre
  have htab := vx_table (x := yL_ranks) B (hts (.codeWith yL_ranks cL_ranks 6 (some .int) [(0, 12, 15, 19)]) (by unfold wsL_ranks; exact List.mem_cons_self))
  have hown : s.vm.findClass RL = some m.cls := findClass_of_methodNamed B.named
  have hlocks := B.notSynchronized
  have hin5 : ∀ w ∈ u_ws RX5 TX5 2, w ∈ wsL_ranks := tu 1332 (by decide +kernel) rfl
  have hX := WX.ofW hPW
  have hO := hPW.2.2.1
  have hno := hPW.2.2.2.1
  have hl := lv_entry ([.ref (ad 57), .int x0, .int x1, .int (bI z2), .ref o]) (n := 6) (Nat.le_of_ble_eq_true rfl)
  rw [lg_entry_eq]
  generalize (lg_sl ([.ref (ad 57), .int x0, .int x1, .int (bI z2), .ref o]) ++ List.replicate (6 - (lg_sl ([.ref (ad 57), .int x0, .int x1, .int (bI z2), .ref o])).length) Slot.unset).toArray = ls at hl ⊢
  have hl : lv_has ls 6 [(0, .ref (ad 57)), (1, .int x0), (2, .int x1), (3, .int (bI z2)), (4, .ref o)] := hl
  show W p l e ({ frames := 9, cells := 80, slots := 900, locals := 179 } : Room) s m ([.ref (ad 57), .int x0, .int x1, .int (bI z2), .ref o]).toArray below meth c s.heap [] 0 0 (MQ below (va_Qi (fun r (u : XS × Int64) => LQ S u.1 ∧ R_ranks x0 x1 z2 S r u.1 u.2) (PO2 dC dI ad o) (AO ad o)) ([.ref (ad 57), .int x0, .int x1, .int (bI z2), .ref o]).toArray s 80 900 (AO ad o)) (F0 m 0 ls [])
  refine lv_aload hx hb dL_ranks_0 (lv_at hl 4 rfl) ?_
  refine lv_aload_n hx hb dL_ranks_2 rfl (lv_at hl 0 rfl) ?_
  refine lv_iload_n hx hb dL_ranks_3 rfl (lv_at hl 1 rfl) ?_
  refine lv_iload_n hx hb dL_ranks_4 rfl (lv_at hl 2 rfl) ?_
  refine lv_iload_n hx hb dL_ranks_5 rfl (lv_at hl 3 rfl) ?_
  rcases lim_lt 3 (by decide) x0 with ⟨i, hi, rfl⟩ | hb9
  rotate_left
  · skip
    refine kl_throw (vx_runV (As := [.int x0, .int x1, .int (bI z2)]) (rest := [.ref o]) ⟨hx, hb, hml, hown, hts⟩ (t_X4_ranks_1 l hst dC dI ad S x0 x1 z2 hb9) (cwV 3 hts gL_ranks_X4_ranks rfl rfl rfl hdX4_ranks_3 ⟨Nat.le_of_ble_eq_true rfl, Nat.le_of_ble_eq_true rfl⟩) hPW.1.preX rfl rfl hl.1 rfl (lv_room (Nat.le_of_ble_eq_true rfl)) dL_ranks_6 ⟨Nat.le_of_ble_eq_true rfl, Nat.le_of_ble_eq_true rfl⟩) hX hO (fun ce q9 H hce1 hce2 hce3 hX hO => ?_)
    refine vx_catch hown [] ⟨0, 12, 15, 19⟩ [] (htab.trans rfl) (fun _ h => nomatch h) rfl (by decide) (hts (.classLink RL 19 IX) (tm 830 (by decide +kernel) rfl)) (va_Nw.use rfl hPW.1.2.1.2.1.1) hce1 hce2 hce3 ?_
    refine lv_astore (lv' := [(5, .ref q9), (0, .ref (ad 57)), (1, .int x0), (2, .int x1), (3, .int (bI z2)), (4, .ref o)]) hx hb dL_ranks_15 hl (by decide) rfl (fun ls hl => ?_)
    refine lv_iconst (v := nI 1) hx hb dL_ranks_17 (by decide) ?_
    obtain ⟨n9, hN⟩ := hO
    exact W.widen (k := 80) (n := 900) (by simp) (by simp) (W.iret (v := nI 1) hx hb hr (fun t9 ht9 hW9 => ⟨⟨_, (S, n9), rfl, ⟨LQ_same hI h5, (Or.inl ⟨hb9, rfl, rfl⟩)⟩, hX.P ht9 hW9, by rw [ht9]; exact hN⟩, hX.2.2.2.F ht9⟩) hX.2.2.2.2.2 dL_ranks_18)
  replace hi : i < 3 := by omega
  have hn := (hI.1 i (by omega)).1
  rcases lim_lt 4 (by decide) x1 with ⟨j, hj, rfl⟩ | hb9
  rotate_left
  · skip
    refine kl_throw (vx_runV (As := [.int (nI i), .int x1, .int (bI z2)]) (rest := [.ref o]) ⟨hx, hb, hml, hown, hts⟩ (t_X4_ranks_2 l hst dC dI ad S i x1 z2 hi hb9) (cwV 3 hts gL_ranks_X4_ranks rfl rfl rfl hdX4_ranks_3 ⟨Nat.le_of_ble_eq_true rfl, Nat.le_of_ble_eq_true rfl⟩) hPW.1.preX rfl rfl hl.1 rfl (lv_room (Nat.le_of_ble_eq_true rfl)) dL_ranks_6 ⟨Nat.le_of_ble_eq_true rfl, Nat.le_of_ble_eq_true rfl⟩) hX hO (fun ce q9 H hce1 hce2 hce3 hX hO => ?_)
    refine vx_catch hown [] ⟨0, 12, 15, 19⟩ [] (htab.trans rfl) (fun _ h => nomatch h) rfl (by decide) (hts (.classLink RL 19 IX) (tm 830 (by decide +kernel) rfl)) (va_Nw.use rfl hPW.1.2.1.2.1.1) hce1 hce2 hce3 ?_
    refine lv_astore (lv' := [(5, .ref q9), (0, .ref (ad 57)), (1, .int (nI i)), (2, .int x1), (3, .int (bI z2)), (4, .ref o)]) hx hb dL_ranks_15 hl (by decide) rfl (fun ls hl => ?_)
    refine lv_iconst (v := nI 1) hx hb dL_ranks_17 (by decide) ?_
    obtain ⟨n9, hN⟩ := hO
    exact W.widen (k := 80) (n := 900) (by simp) (by simp) (W.iret (v := nI 1) hx hb hr (fun t9 ht9 hW9 => ⟨⟨_, (S, n9), rfl, ⟨LQ_same hI h5, (Or.inr (Or.inl ⟨i, hi, rfl, hb9, rfl, rfl⟩))⟩, hX.P ht9 hW9, by rw [ht9]; exact hN⟩, hX.2.2.2.F ht9⟩) hX.2.2.2.2.2 dL_ranks_18)
  replace hj : j < 4 := by omega
  refine kl_rr (va_runV (As := [.int (nI i), .int (nI j), .int (bI z2)]) (rest := [.ref o]) ⟨hx, hb, hml, hown, hts⟩ (n_X4_ranks l dC dI cB ad S i j z2 hi hj hI) (cwV 3 hts gL_ranks_X4_ranks rfl rfl rfl hdX4_ranks_3 ⟨Nat.le_of_ble_eq_true rfl, Nat.le_of_ble_eq_true rfl⟩) hPW.preT rfl rfl hl.1 rfl (lv_room (Nat.le_of_ble_eq_true rfl)) dL_ranks_6 ⟨Nat.le_of_ble_eq_true rfl, Nat.le_of_ble_eq_true rfl⟩) hX hO hno (fun S1 q9 H locs hw hX hO => ?_)
  have hLQ : LQ S S1 := LQ_KR hI h5 hw
  refine kl_put hx hb hts hin5 hown hX hO hno 1 (by decide) (host := "OrderlatticeLaw") (va_Nw.use rfl hPW.2.2.2.2.2.2) (ty := (.object "java/lang/String")) rfl rfl rfl (Or.inr ⟨rfl, _, rfl⟩) dL_ranks_9 (fun H locs hX hO => ?_)
  refine lv_goto (tgt := 19) hx hb dL_ranks_12 (by decide) ?_
  refine lv_iconst (v := nI 0) hx hb dL_ranks_19 (by decide) ?_
  obtain ⟨n9, hN⟩ := hO
  exact W.widen (k := 80) (n := 900) (by simp) (by simp) (W.iret (v := nI 0) hx hb hr (fun t9 ht9 hW9 => ⟨⟨_, (S1, n9), rfl, ⟨hLQ, (Or.inr (Or.inr ⟨i, j, hi, hj, rfl, rfl, rfl, hw⟩))⟩, hX.P ht9 hW9, by rw [ht9]; exact hN⟩, hX.2.2.2.F ht9⟩) hX.2.2.2.2.2 dL_ranks_20)
set_option maxHeartbeats 4000000 in
set_option maxRecDepth 100000 in
theorem m_L_step (l : Launch) (hst : l.stackTraces = false) (dC : Nat → ClassId) (dI : Nat → Nat → Nat) (cB : ClassId) (ad : Nat → Nat) (o : Nat) (S : XS) (x0 : Int32) (x1 : Int32) (z2 : Bool) (hI : InvX S) (h5 : ∀ j, j < 4 → (S.2.1 j).2.2.2.2.1 ≤ 5) (hc : S.2.2.1 + 12 < 1000000) : Met l yL_step wsL_step ({ frames := 9, cells := 1, slots := 6, locals := 147 } : Room) (va_Pc [.ref (ad 57), .int x0, .int x1, .int (bI z2), .ref o] (PW dC dI cB ad o S)) (va_Qi (fun r (u : XS × Int64) => LQ S u.1 ∧ R_step x0 x1 z2 S r u.1 u.2) (PO2 dC dI ad o) (AO ad o)) 1 6 (AO ad o) := by
  refine va_MetW (cc := cL_step) (maxL := 6) (ret := (some .int)) pl_L rfl ?_
  intro p e s m args below meth c s₁ B hml hv
  obtain ⟨rfl, hPW⟩ := hv
  have hx := B.exec
  have hb := B.bytes
  have hr := B.returns
  have hts := atoms_spec (ws := wsL_step) B.pre
  have htab := vx_table (x := yL_step) B (hts (.codeWith yL_step cL_step 6 (some .int) [(0, 13, 16, 19), (0, 13, 20, 21)]) (by unfold wsL_step; exact List.mem_cons_self))
  have hown : s.vm.findClass RL = some m.cls := findClass_of_methodNamed B.named
  have hlocks := B.notSynchronized
  have hin5 : ∀ w ∈ u_ws RX5 TX5 2, w ∈ wsL_step := tu 1332 (by decide +kernel) rfl
  have hX := WX.ofW hPW
  have hO := hPW.2.2.1
  have hno := hPW.2.2.2.1
  have hl := lv_entry ([.ref (ad 57), .int x0, .int x1, .int (bI z2), .ref o]) (n := 6) (Nat.le_of_ble_eq_true rfl)
  rw [lg_entry_eq]
  generalize (lg_sl ([.ref (ad 57), .int x0, .int x1, .int (bI z2), .ref o]) ++ List.replicate (6 - (lg_sl ([.ref (ad 57), .int x0, .int x1, .int (bI z2), .ref o])).length) Slot.unset).toArray = ls at hl ⊢
  have hl : lv_has ls 6 [(0, .ref (ad 57)), (1, .int x0), (2, .int x1), (3, .int (bI z2)), (4, .ref o)] := hl
  show W p l e ({ frames := 9, cells := 1, slots := 6, locals := 147 } : Room) s m ([.ref (ad 57), .int x0, .int x1, .int (bI z2), .ref o]).toArray below meth c s.heap [] 0 0 (MQ below (va_Qi (fun r (u : XS × Int64) => LQ S u.1 ∧ R_step x0 x1 z2 S r u.1 u.2) (PO2 dC dI ad o) (AO ad o)) ([.ref (ad 57), .int x0, .int x1, .int (bI z2), .ref o]).toArray s 1 6 (AO ad o)) (F0 m 0 ls [])
  refine lv_aload hx hb dL_step_0 (lv_at hl 4 rfl) ?_
  refine lv_aload_n hx hb dL_step_2 rfl (lv_at hl 0 rfl) ?_
  refine lv_iload_n hx hb dL_step_3 rfl (lv_at hl 1 rfl) ?_
  refine lv_iload_n hx hb dL_step_4 rfl (lv_at hl 2 rfl) ?_
  refine lv_iload_n hx hb dL_step_5 rfl (lv_at hl 3 rfl) ?_
  rcases lim_lt 4 (by decide) x0 with ⟨j, hj, rfl⟩ | hb9
  rotate_left
  · skip
    refine kl_throw (vx_runV (As := [.int x0, .int x1, .int (bI z2)]) (rest := [.ref o]) ⟨hx, hb, hml, hown, hts⟩ (t_X4_step_1 l hst dC dI ad S x0 x1 z2 hb9) (cwV 3 hts gL_step_X4_step rfl rfl rfl hdX4_step_3 ⟨Nat.le_of_ble_eq_true rfl, Nat.le_of_ble_eq_true rfl⟩) hPW.1.preX rfl rfl hl.1 rfl (lv_room (Nat.le_of_ble_eq_true rfl)) dL_step_6 ⟨Nat.le_of_ble_eq_true rfl, Nat.le_of_ble_eq_true rfl⟩) hX hO (fun ce q9 H hce1 hce2 hce3 hX hO => ?_)
    refine vx_catch hown [] ⟨0, 13, 16, 19⟩ [⟨0, 13, 20, 21⟩] (htab.trans rfl) (fun _ h => nomatch h) rfl (by decide) (hts (.classLink RL 19 IX) (tm 830 (by decide +kernel) rfl)) (va_Nw.use rfl hPW.1.2.1.2.1.1) hce1 hce2 hce3 ?_
    refine lv_astore (lv' := [(5, .ref q9), (0, .ref (ad 57)), (1, .int x0), (2, .int x1), (3, .int (bI z2)), (4, .ref o)]) hx hb dL_step_16 hl (by decide) rfl (fun ls hl => ?_)
    refine lv_iconst (v := nI 1) hx hb dL_step_18 (by decide) ?_
    obtain ⟨n9, hN⟩ := hO
    exact W.widen (k := 1) (n := 6) (by simp) (by simp) (W.iret (v := nI 1) hx hb hr (fun t9 ht9 hW9 => ⟨⟨_, (S, n9), rfl, ⟨LQ_same hI h5, (Or.inl ⟨hb9, rfl, rfl⟩)⟩, hX.P ht9 hW9, by rw [ht9]; exact hN⟩, hX.2.2.2.F ht9⟩) hX.2.2.2.2.2 dL_step_19)
  replace hj : j < 4 := by omega
  rcases lim_le 7 (by decide) x1 with ⟨k, hk, rfl⟩ | hb9
  rotate_left
  · skip
    refine kl_throw (vx_runV (As := [.int (nI j), .int x1, .int (bI z2)]) (rest := [.ref o]) ⟨hx, hb, hml, hown, hts⟩ (t_X4_step_2 l hst dC dI ad S j x1 z2 hj hb9) (cwV 3 hts gL_step_X4_step rfl rfl rfl hdX4_step_3 ⟨Nat.le_of_ble_eq_true rfl, Nat.le_of_ble_eq_true rfl⟩) hPW.1.preX rfl rfl hl.1 rfl (lv_room (Nat.le_of_ble_eq_true rfl)) dL_step_6 ⟨Nat.le_of_ble_eq_true rfl, Nat.le_of_ble_eq_true rfl⟩) hX hO (fun ce q9 H hce1 hce2 hce3 hX hO => ?_)
    refine vx_catch hown [⟨0, 13, 16, 19⟩] ⟨0, 13, 20, 21⟩ [] (htab.trans rfl) (fun z hz => by rw [List.mem_singleton.mp hz]; exact Or.inr ⟨by decide, IX, hts (.classLink RL 19 IX) (by decide +kernel), hPW.2.2.2.2.1⟩) rfl (by decide) (hts (.classLink RL 21 IA) (tm 831 (by decide +kernel) rfl)) (va_Nw.use rfl hPW.1.2.1.2.1.2) hce1 hce2 hce3 ?_
    refine lv_astore (lv' := [(5, .ref q9), (0, .ref (ad 57)), (1, .int (nI j)), (2, .int x1), (3, .int (bI z2)), (4, .ref o)]) hx hb dL_step_20 hl (by decide) rfl (fun ls hl => ?_)
    refine lv_iconst (v := nI 2) hx hb dL_step_22 (by decide) ?_
    obtain ⟨n9, hN⟩ := hO
    exact W.widen (k := 1) (n := 6) (by simp) (by simp) (W.iret (v := nI 2) hx hb hr (fun t9 ht9 hW9 => ⟨⟨_, (S, n9), rfl, ⟨LQ_same hI h5, (Or.inr (Or.inl ⟨j, hj, rfl, hb9, rfl, rfl⟩))⟩, hX.P ht9 hW9, by rw [ht9]; exact hN⟩, hX.2.2.2.F ht9⟩) hX.2.2.2.2.2 dL_step_23)
  replace hk : k ≤ 7 := by omega
  refine kl_ci (va_runV (As := [.int (nI j), .int (nI k), .int (bI z2)]) (rest := [.ref o]) ⟨hx, hb, hml, hown, hts⟩ (m_X4_step l dC dI ad S j k z2 hj hk hI) (cwV 3 hts gL_step_X4_step rfl rfl rfl hdX4_step_3 ⟨Nat.le_of_ble_eq_true rfl, Nat.le_of_ble_eq_true rfl⟩) (hX.preTop 57 6 (by decide) (by decide) rfl rfl) rfl rfl hl.1 rfl (lv_room (Nat.le_of_ble_eq_true rfl)) dL_step_6 ⟨Nat.le_of_ble_eq_true rfl, Nat.le_of_ble_eq_true rfl⟩) hX hO hno (fun r9 S1 H locs hw hX hO => ?_)
  have hLQ : LQ S S1 := LQ_step hI h5 hj hk hw
  refine lv_i2l (v := r9.toInt64) hx hb dL_step_9 rfl ?_
  refine kl_putn hx hb hts hin5 hown hX hO hno (host := "OrderlatticeLaw") (va_Nw.use rfl hPW.2.2.2.2.2.1) dL_step_10 (fun H locs hX hN => ?_)
  refine lv_goto (tgt := 24) hx hb dL_step_13 (by decide) ?_
  refine lv_iconst (v := nI 0) hx hb dL_step_24 (by decide) ?_
  exact W.widen (k := 1) (n := 6) (by simp) (by simp) (W.iret (v := nI 0) hx hb hr (fun t9 ht9 hW9 => ⟨⟨_, (S1, r9.toInt64), rfl, ⟨hLQ, (Or.inr (Or.inr ⟨j, k, r9, hj, hk, rfl, rfl, rfl, rfl, hw⟩))⟩, hX.P ht9 hW9, by rw [ht9]; exact hN⟩, hX.2.2.2.F ht9⟩) hX.2.2.2.2.2 dL_step_25)
set_option maxHeartbeats 4000000 in
set_option maxRecDepth 100000 in
theorem m_L_unstep (l : Launch) (hst : l.stackTraces = false) (dC : Nat → ClassId) (dI : Nat → Nat → Nat) (cB : ClassId) (ad : Nat → Nat) (o : Nat) (S : XS) (x0 : Int32) (hI : InvX S) (h5 : ∀ j, j < 4 → (S.2.1 j).2.2.2.2.1 ≤ 5) (hc : S.2.2.1 + 12 < 1000000) : Met l yL_unstep wsL_unstep ({ frames := 9, cells := 1, slots := 6, locals := 146 } : Room) (va_Pc [.ref (ad 57), .int x0, .ref o] (PW dC dI cB ad o S)) (va_Qi (fun r (u : XS × Int64) => LQ S u.1 ∧ R_unstep x0 S r u.1 u.2) (PO2 dC dI ad o) (AO ad o)) 1 6 (AO ad o) := by
  refine va_MetW (cc := cL_unstep) (maxL := 4) (ret := (some .int)) pl_L rfl ?_
  intro p e s m args below meth c s₁ B hml hv
  obtain ⟨rfl, hPW⟩ := hv
  have hx := B.exec
  have hb := B.bytes
  have hr := B.returns
  have hts := atoms_spec (ws := wsL_unstep) B.pre
  have htab := vx_table (x := yL_unstep) B (hts (.codeWith yL_unstep cL_unstep 4 (some .int) [(0, 10, 13, 19)]) (by unfold wsL_unstep; exact List.mem_cons_self))
  have hown : s.vm.findClass RL = some m.cls := findClass_of_methodNamed B.named
  have hlocks := B.notSynchronized
  have hin5 : ∀ w ∈ u_ws RX5 TX5 2, w ∈ wsL_unstep := tu 1332 (by decide +kernel) rfl
  have hX := WX.ofW hPW
  have hO := hPW.2.2.1
  have hno := hPW.2.2.2.1
  have hl := lv_entry ([.ref (ad 57), .int x0, .ref o]) (n := 4) (Nat.le_of_ble_eq_true rfl)
  rw [lg_entry_eq]
  generalize (lg_sl ([.ref (ad 57), .int x0, .ref o]) ++ List.replicate (4 - (lg_sl ([.ref (ad 57), .int x0, .ref o])).length) Slot.unset).toArray = ls at hl ⊢
  have hl : lv_has ls 4 [(0, .ref (ad 57)), (1, .int x0), (2, .ref o)] := hl
  show W p l e ({ frames := 9, cells := 1, slots := 6, locals := 146 } : Room) s m ([.ref (ad 57), .int x0, .ref o]).toArray below meth c s.heap [] 0 0 (MQ below (va_Qi (fun r (u : XS × Int64) => LQ S u.1 ∧ R_unstep x0 S r u.1 u.2) (PO2 dC dI ad o) (AO ad o)) ([.ref (ad 57), .int x0, .ref o]).toArray s 1 6 (AO ad o)) (F0 m 0 ls [])
  refine lv_aload_n hx hb dL_unstep_0 rfl (lv_at hl 2 rfl) ?_
  refine lv_aload_n hx hb dL_unstep_1 rfl (lv_at hl 0 rfl) ?_
  refine lv_iload_n hx hb dL_unstep_2 rfl (lv_at hl 1 rfl) ?_
  rcases lim_lt 4 (by decide) x0 with ⟨j, hj, rfl⟩ | hb9
  rotate_left
  · skip
    refine kl_throw (vx_runV (As := [.int x0]) (rest := [.ref o]) ⟨hx, hb, hml, hown, hts⟩ (t_X4_unstep_1 l hst dC dI ad S x0 hb9) (cwV 1 hts gL_unstep_X4_unstep rfl rfl rfl hdX4_unstep_1 ⟨Nat.le_of_ble_eq_true rfl, Nat.le_of_ble_eq_true rfl⟩) hPW.1.preX rfl rfl hl.1 rfl (lv_room (Nat.le_of_ble_eq_true rfl)) dL_unstep_3 ⟨Nat.le_of_ble_eq_true rfl, Nat.le_of_ble_eq_true rfl⟩) hX hO (fun ce q9 H hce1 hce2 hce3 hX hO => ?_)
    refine vx_catch hown [] ⟨0, 10, 13, 19⟩ [] (htab.trans rfl) (fun _ h => nomatch h) rfl (by decide) (hts (.classLink RL 19 IX) (tm 830 (by decide +kernel) rfl)) (va_Nw.use rfl hPW.1.2.1.2.1.1) hce1 hce2 hce3 ?_
    refine lv_astore_n (lv' := [(3, .ref q9), (0, .ref (ad 57)), (1, .int x0), (2, .ref o)]) hx hb dL_unstep_13 rfl hl (by decide) rfl (fun ls hl => ?_)
    refine lv_iconst (v := nI 1) hx hb dL_unstep_14 (by decide) ?_
    obtain ⟨n9, hN⟩ := hO
    exact W.widen (k := 1) (n := 6) (by simp) (by simp) (W.iret (v := nI 1) hx hb hr (fun t9 ht9 hW9 => ⟨⟨_, (S, n9), rfl, ⟨LQ_same hI h5, (Or.inl ⟨hb9, rfl, rfl⟩)⟩, hX.P ht9 hW9, by rw [ht9]; exact hN⟩, hX.2.2.2.F ht9⟩) hX.2.2.2.2.2 dL_unstep_15)
  replace hj : j < 4 := by omega
  refine kl_ci (va_runV (As := [.int (nI j)]) (rest := [.ref o]) ⟨hx, hb, hml, hown, hts⟩ (m_X4_unstep l dC dI ad S j hj hI) (cwV 1 hts gL_unstep_X4_unstep rfl rfl rfl hdX4_unstep_1 ⟨Nat.le_of_ble_eq_true rfl, Nat.le_of_ble_eq_true rfl⟩) (hX.preTop 57 6 (by decide) (by decide) rfl rfl) rfl rfl hl.1 rfl (lv_room (Nat.le_of_ble_eq_true rfl)) dL_unstep_3 ⟨Nat.le_of_ble_eq_true rfl, Nat.le_of_ble_eq_true rfl⟩) hX hO hno (fun r9 S1 H locs hw hX hO => ?_)
  have hLQ : LQ S S1 := LQ_unstep hI h5 hj hw
  refine lv_i2l (v := r9.toInt64) hx hb dL_unstep_6 rfl ?_
  refine kl_putn hx hb hts hin5 hown hX hO hno (host := "OrderlatticeLaw") (va_Nw.use rfl hPW.2.2.2.2.2.1) dL_unstep_7 (fun H locs hX hN => ?_)
  refine lv_goto (tgt := 16) hx hb dL_unstep_10 (by decide) ?_
  refine lv_iconst (v := nI 0) hx hb dL_unstep_16 (by decide) ?_
  exact W.widen (k := 1) (n := 6) (by simp) (by simp) (W.iret (v := nI 0) hx hb hr (fun t9 ht9 hW9 => ⟨⟨_, (S1, r9.toInt64), rfl, ⟨hLQ, (Or.inr ⟨j, r9, hj, rfl, rfl, rfl, hw⟩)⟩, hX.P ht9 hW9, by rw [ht9]; exact hN⟩, hX.2.2.2.F ht9⟩) hX.2.2.2.2.2 dL_unstep_17)
set_option maxHeartbeats 4000000 in
set_option maxRecDepth 100000 in
theorem m_L_wipe (l : Launch) (hst : l.stackTraces = false) (dC : Nat → ClassId) (dI : Nat → Nat → Nat) (cB : ClassId) (ad : Nat → Nat) (o : Nat) (S : XS) (x0 : Int32) (hI : InvX S) (h5 : ∀ j, j < 4 → (S.2.1 j).2.2.2.2.1 ≤ 5) (hc : S.2.2.1 + 12 < 1000000) : Met l yL_wipe wsL_wipe ({ frames := 9, cells := 1, slots := 6, locals := 146 } : Room) (va_Pc [.ref (ad 57), .int x0, .ref o] (PW dC dI cB ad o S)) (va_Qi (fun r (u : XS × Int64) => LQ S u.1 ∧ R_wipe x0 S r u.1 u.2) (PO2 dC dI ad o) (AO ad o)) 1 6 (AO ad o) := by
  refine va_MetW (cc := cL_wipe) (maxL := 4) (ret := (some .int)) pl_L rfl ?_
  intro p e s m args below meth c s₁ B hml hv
  obtain ⟨rfl, hPW⟩ := hv
  have hx := B.exec
  have hb := B.bytes
  have hr := B.returns
  have hts := atoms_spec (ws := wsL_wipe) B.pre
  have htab := vx_table (x := yL_wipe) B (hts (.codeWith yL_wipe cL_wipe 4 (some .int) [(0, 10, 13, 19)]) (by unfold wsL_wipe; exact List.mem_cons_self))
  have hown : s.vm.findClass RL = some m.cls := findClass_of_methodNamed B.named
  have hlocks := B.notSynchronized
  have hin5 : ∀ w ∈ u_ws RX5 TX5 2, w ∈ wsL_wipe := tu 1332 (by decide +kernel) rfl
  have hX := WX.ofW hPW
  have hO := hPW.2.2.1
  have hno := hPW.2.2.2.1
  have hl := lv_entry ([.ref (ad 57), .int x0, .ref o]) (n := 4) (Nat.le_of_ble_eq_true rfl)
  rw [lg_entry_eq]
  generalize (lg_sl ([.ref (ad 57), .int x0, .ref o]) ++ List.replicate (4 - (lg_sl ([.ref (ad 57), .int x0, .ref o])).length) Slot.unset).toArray = ls at hl ⊢
  have hl : lv_has ls 4 [(0, .ref (ad 57)), (1, .int x0), (2, .ref o)] := hl
  show W p l e ({ frames := 9, cells := 1, slots := 6, locals := 146 } : Room) s m ([.ref (ad 57), .int x0, .ref o]).toArray below meth c s.heap [] 0 0 (MQ below (va_Qi (fun r (u : XS × Int64) => LQ S u.1 ∧ R_wipe x0 S r u.1 u.2) (PO2 dC dI ad o) (AO ad o)) ([.ref (ad 57), .int x0, .ref o]).toArray s 1 6 (AO ad o)) (F0 m 0 ls [])
  refine lv_aload_n hx hb dL_wipe_0 rfl (lv_at hl 2 rfl) ?_
  refine lv_aload_n hx hb dL_wipe_1 rfl (lv_at hl 0 rfl) ?_
  refine lv_iload_n hx hb dL_wipe_2 rfl (lv_at hl 1 rfl) ?_
  rcases lim_lt 4 (by decide) x0 with ⟨j, hj, rfl⟩ | hb9
  rotate_left
  · skip
    refine kl_throw (vx_runV (As := [.int x0]) (rest := [.ref o]) ⟨hx, hb, hml, hown, hts⟩ (t_X4_wipe_1 l hst dC dI ad S x0 hb9) (cwV 1 hts gL_wipe_X4_wipe rfl rfl rfl hdX4_wipe_1 ⟨Nat.le_of_ble_eq_true rfl, Nat.le_of_ble_eq_true rfl⟩) hPW.1.preX rfl rfl hl.1 rfl (lv_room (Nat.le_of_ble_eq_true rfl)) dL_wipe_3 ⟨Nat.le_of_ble_eq_true rfl, Nat.le_of_ble_eq_true rfl⟩) hX hO (fun ce q9 H hce1 hce2 hce3 hX hO => ?_)
    refine vx_catch hown [] ⟨0, 10, 13, 19⟩ [] (htab.trans rfl) (fun _ h => nomatch h) rfl (by decide) (hts (.classLink RL 19 IX) (tm 830 (by decide +kernel) rfl)) (va_Nw.use rfl hPW.1.2.1.2.1.1) hce1 hce2 hce3 ?_
    refine lv_astore_n (lv' := [(3, .ref q9), (0, .ref (ad 57)), (1, .int x0), (2, .ref o)]) hx hb dL_wipe_13 rfl hl (by decide) rfl (fun ls hl => ?_)
    refine lv_iconst (v := nI 1) hx hb dL_wipe_14 (by decide) ?_
    obtain ⟨n9, hN⟩ := hO
    exact W.widen (k := 1) (n := 6) (by simp) (by simp) (W.iret (v := nI 1) hx hb hr (fun t9 ht9 hW9 => ⟨⟨_, (S, n9), rfl, ⟨LQ_same hI h5, (Or.inl ⟨hb9, rfl, rfl⟩)⟩, hX.P ht9 hW9, by rw [ht9]; exact hN⟩, hX.2.2.2.F ht9⟩) hX.2.2.2.2.2 dL_wipe_15)
  replace hj : j < 4 := by omega
  refine kl_ci (va_runV (As := [.int (nI j)]) (rest := [.ref o]) ⟨hx, hb, hml, hown, hts⟩ (m_X4_wipe l dC dI ad S j hj hI) (cwV 1 hts gL_wipe_X4_wipe rfl rfl rfl hdX4_wipe_1 ⟨Nat.le_of_ble_eq_true rfl, Nat.le_of_ble_eq_true rfl⟩) (hX.preTop 57 6 (by decide) (by decide) rfl rfl) rfl rfl hl.1 rfl (lv_room (Nat.le_of_ble_eq_true rfl)) dL_wipe_3 ⟨Nat.le_of_ble_eq_true rfl, Nat.le_of_ble_eq_true rfl⟩) hX hO hno (fun r9 S1 H locs hw hX hO => ?_)
  have hLQ : LQ S S1 := by rw [hw.2]; exact LQ_newO hI h5 (by omega) (hI.2 j (by omega)).1.2
  refine lv_i2l (v := r9.toInt64) hx hb dL_wipe_6 rfl ?_
  refine kl_putn hx hb hts hin5 hown hX hO hno (host := "OrderlatticeLaw") (va_Nw.use rfl hPW.2.2.2.2.2.1) dL_wipe_7 (fun H locs hX hN => ?_)
  refine lv_goto (tgt := 16) hx hb dL_wipe_10 (by decide) ?_
  refine lv_iconst (v := nI 0) hx hb dL_wipe_16 (by decide) ?_
  exact W.widen (k := 1) (n := 6) (by simp) (by simp) (W.iret (v := nI 0) hx hb hr (fun t9 ht9 hW9 => ⟨⟨_, (S1, r9.toInt64), rfl, ⟨hLQ, (Or.inr ⟨j, r9, hj, rfl, rfl, rfl, hw⟩)⟩, hX.P ht9 hW9, by rw [ht9]; exact hN⟩, hX.2.2.2.F ht9⟩) hX.2.2.2.2.2 dL_wipe_17)
set_option maxHeartbeats 4000000 in
set_option maxRecDepth 100000 in
theorem m_L_copyOrder (l : Launch) (hst : l.stackTraces = false) (dC : Nat → ClassId) (dI : Nat → Nat → Nat) (cB : ClassId) (ad : Nat → Nat) (o : Nat) (S : XS) (x0 : Int32) (x1 : Int32) (hI : InvX S) (h5 : ∀ j, j < 4 → (S.2.1 j).2.2.2.2.1 ≤ 5) (hc : S.2.2.1 + 12 < 1000000) : Met l yL_copyOrder wsL_copyOrder ({ frames := 9, cells := 1, slots := 6, locals := 147 } : Room) (va_Pc [.ref (ad 57), .int x0, .int x1, .ref o] (PW dC dI cB ad o S)) (va_Qi (fun r (u : XS × Int64) => LQ S u.1 ∧ R_copyOrder x0 x1 S r u.1 u.2) (PO2 dC dI ad o) (AO ad o)) 1 6 (AO ad o) := by
  refine va_MetW (cc := cL_copyOrder) (maxL := 5) (ret := (some .int)) pl_L rfl ?_
  intro p e s m args below meth c s₁ B hml hv
  obtain ⟨rfl, hPW⟩ := hv
  have hx := B.exec
  have hb := B.bytes
  have hr := B.returns
  have hts := atoms_spec (ws := wsL_copyOrder) B.pre
  have htab := vx_table (x := yL_copyOrder) B (hts (.codeWith yL_copyOrder cL_copyOrder 5 (some .int) [(0, 11, 14, 19)]) (by unfold wsL_copyOrder; exact List.mem_cons_self))
  have hown : s.vm.findClass RL = some m.cls := findClass_of_methodNamed B.named
  have hlocks := B.notSynchronized
  have hin5 : ∀ w ∈ u_ws RX5 TX5 2, w ∈ wsL_copyOrder := tu 1332 (by decide +kernel) rfl
  have hX := WX.ofW hPW
  have hO := hPW.2.2.1
  have hno := hPW.2.2.2.1
  have hl := lv_entry ([.ref (ad 57), .int x0, .int x1, .ref o]) (n := 5) (Nat.le_of_ble_eq_true rfl)
  rw [lg_entry_eq]
  generalize (lg_sl ([.ref (ad 57), .int x0, .int x1, .ref o]) ++ List.replicate (5 - (lg_sl ([.ref (ad 57), .int x0, .int x1, .ref o])).length) Slot.unset).toArray = ls at hl ⊢
  have hl : lv_has ls 5 [(0, .ref (ad 57)), (1, .int x0), (2, .int x1), (3, .ref o)] := hl
  show W p l e ({ frames := 9, cells := 1, slots := 6, locals := 147 } : Room) s m ([.ref (ad 57), .int x0, .int x1, .ref o]).toArray below meth c s.heap [] 0 0 (MQ below (va_Qi (fun r (u : XS × Int64) => LQ S u.1 ∧ R_copyOrder x0 x1 S r u.1 u.2) (PO2 dC dI ad o) (AO ad o)) ([.ref (ad 57), .int x0, .int x1, .ref o]).toArray s 1 6 (AO ad o)) (F0 m 0 ls [])
  refine lv_aload_n hx hb dL_copyOrder_0 rfl (lv_at hl 3 rfl) ?_
  refine lv_aload_n hx hb dL_copyOrder_1 rfl (lv_at hl 0 rfl) ?_
  refine lv_iload_n hx hb dL_copyOrder_2 rfl (lv_at hl 1 rfl) ?_
  refine lv_iload_n hx hb dL_copyOrder_3 rfl (lv_at hl 2 rfl) ?_
  rcases lim_lt 4 (by decide) x0 with ⟨j, hj, rfl⟩ | hb9
  rotate_left
  · skip
    refine kl_throw (vx_runV (As := [.int x0, .int x1]) (rest := [.ref o]) ⟨hx, hb, hml, hown, hts⟩ (t_X4_copyOrder_1 l hst dC dI ad S x0 x1 hb9) (cwV 2 hts gL_copyOrder_X4_copyOrder rfl rfl rfl hdX4_copyOrder_2 ⟨Nat.le_of_ble_eq_true rfl, Nat.le_of_ble_eq_true rfl⟩) hPW.1.preX rfl rfl hl.1 rfl (lv_room (Nat.le_of_ble_eq_true rfl)) dL_copyOrder_4 ⟨Nat.le_of_ble_eq_true rfl, Nat.le_of_ble_eq_true rfl⟩) hX hO (fun ce q9 H hce1 hce2 hce3 hX hO => ?_)
    refine vx_catch hown [] ⟨0, 11, 14, 19⟩ [] (htab.trans rfl) (fun _ h => nomatch h) rfl (by decide) (hts (.classLink RL 19 IX) (tm 830 (by decide +kernel) rfl)) (va_Nw.use rfl hPW.1.2.1.2.1.1) hce1 hce2 hce3 ?_
    refine lv_astore (lv' := [(4, .ref q9), (0, .ref (ad 57)), (1, .int x0), (2, .int x1), (3, .ref o)]) hx hb dL_copyOrder_14 hl (by decide) rfl (fun ls hl => ?_)
    refine lv_iconst (v := nI 1) hx hb dL_copyOrder_16 (by decide) ?_
    obtain ⟨n9, hN⟩ := hO
    exact W.widen (k := 1) (n := 6) (by simp) (by simp) (W.iret (v := nI 1) hx hb hr (fun t9 ht9 hW9 => ⟨⟨_, (S, n9), rfl, ⟨LQ_same hI h5, (Or.inl ⟨hb9, rfl, rfl⟩)⟩, hX.P ht9 hW9, by rw [ht9]; exact hN⟩, hX.2.2.2.F ht9⟩) hX.2.2.2.2.2 dL_copyOrder_17)
  replace hj : j < 4 := by omega
  rcases lim_lt 4 (by decide) x1 with ⟨j2, hj2, rfl⟩ | hb9
  rotate_left
  · skip
    refine kl_throw (vx_runV (As := [.int (nI j), .int x1]) (rest := [.ref o]) ⟨hx, hb, hml, hown, hts⟩ (t_X4_copyOrder_2 l hst dC dI ad S j x1 hj hb9) (cwV 2 hts gL_copyOrder_X4_copyOrder rfl rfl rfl hdX4_copyOrder_2 ⟨Nat.le_of_ble_eq_true rfl, Nat.le_of_ble_eq_true rfl⟩) hPW.1.preX rfl rfl hl.1 rfl (lv_room (Nat.le_of_ble_eq_true rfl)) dL_copyOrder_4 ⟨Nat.le_of_ble_eq_true rfl, Nat.le_of_ble_eq_true rfl⟩) hX hO (fun ce q9 H hce1 hce2 hce3 hX hO => ?_)
    refine vx_catch hown [] ⟨0, 11, 14, 19⟩ [] (htab.trans rfl) (fun _ h => nomatch h) rfl (by decide) (hts (.classLink RL 19 IX) (tm 830 (by decide +kernel) rfl)) (va_Nw.use rfl hPW.1.2.1.2.1.1) hce1 hce2 hce3 ?_
    refine lv_astore (lv' := [(4, .ref q9), (0, .ref (ad 57)), (1, .int (nI j)), (2, .int x1), (3, .ref o)]) hx hb dL_copyOrder_14 hl (by decide) rfl (fun ls hl => ?_)
    refine lv_iconst (v := nI 1) hx hb dL_copyOrder_16 (by decide) ?_
    obtain ⟨n9, hN⟩ := hO
    exact W.widen (k := 1) (n := 6) (by simp) (by simp) (W.iret (v := nI 1) hx hb hr (fun t9 ht9 hW9 => ⟨⟨_, (S, n9), rfl, ⟨LQ_same hI h5, (Or.inr (Or.inl ⟨j, hj, rfl, hb9, rfl, rfl⟩))⟩, hX.P ht9 hW9, by rw [ht9]; exact hN⟩, hX.2.2.2.F ht9⟩) hX.2.2.2.2.2 dL_copyOrder_17)
  replace hj2 : j2 < 4 := by omega
  refine kl_ci (va_runV (As := [.int (nI j), .int (nI j2)]) (rest := [.ref o]) ⟨hx, hb, hml, hown, hts⟩ (m_X4_copyOrder l dC dI ad S j j2 hj hj2 hI) (cwV 2 hts gL_copyOrder_X4_copyOrder rfl rfl rfl hdX4_copyOrder_2 ⟨Nat.le_of_ble_eq_true rfl, Nat.le_of_ble_eq_true rfl⟩) (hX.preTop 57 6 (by decide) (by decide) rfl rfl) rfl rfl hl.1 rfl (lv_room (Nat.le_of_ble_eq_true rfl)) dL_copyOrder_4 ⟨Nat.le_of_ble_eq_true rfl, Nat.le_of_ble_eq_true rfl⟩) hX hO hno (fun r9 S1 H locs hw hX hO => ?_)
  have hLQ : LQ S S1 := by rw [hw.2]; exact LQ_newO hI h5 (h5 j hj) (keys_apn (hI.2 j2 (by omega)).1.2 (hI.2 j (by omega)).1.2)
  refine lv_i2l (v := r9.toInt64) hx hb dL_copyOrder_7 rfl ?_
  refine kl_putn hx hb hts hin5 hown hX hO hno (host := "OrderlatticeLaw") (va_Nw.use rfl hPW.2.2.2.2.2.1) dL_copyOrder_8 (fun H locs hX hN => ?_)
  refine lv_goto (tgt := 18) hx hb dL_copyOrder_11 (by decide) ?_
  refine lv_iconst (v := nI 0) hx hb dL_copyOrder_18 (by decide) ?_
  exact W.widen (k := 1) (n := 6) (by simp) (by simp) (W.iret (v := nI 0) hx hb hr (fun t9 ht9 hW9 => ⟨⟨_, (S1, r9.toInt64), rfl, ⟨hLQ, (Or.inr (Or.inr ⟨j, j2, r9, hj, hj2, rfl, rfl, rfl, rfl, hw⟩))⟩, hX.P ht9 hW9, by rw [ht9]; exact hN⟩, hX.2.2.2.F ht9⟩) hX.2.2.2.2.2 dL_copyOrder_19)
set_option maxHeartbeats 4000000 in
set_option maxRecDepth 100000 in
theorem m_L_turn (l : Launch) (hst : l.stackTraces = false) (dC : Nat → ClassId) (dI : Nat → Nat → Nat) (cB : ClassId) (ad : Nat → Nat) (o : Nat) (S : XS) (x0 : Int32) (hI : InvX S) (h5 : ∀ j, j < 4 → (S.2.1 j).2.2.2.2.1 ≤ 5) (hc : S.2.2.1 + 12 < 1000000) : Met l yL_turn wsL_turn ({ frames := 9, cells := 1, slots := 6, locals := 145 } : Room) (va_Pc [.ref (ad 57), .int x0, .ref o] (PW dC dI cB ad o S)) (va_Qi (fun r (u : XS × Int64) => LQ S u.1 ∧ R_turn x0 S r u.1 u.2) (PO2 dC dI ad o) (AO ad o)) 1 6 (AO ad o) := by
  refine va_MetW (cc := cL_turn) (maxL := 4) (ret := (some .int)) pl_L rfl ?_
  intro p e s m args below meth c s₁ B hml hv
  obtain ⟨rfl, hPW⟩ := hv
  have hx := B.exec
  have hb := B.bytes
  have hr := B.returns
  have hts := atoms_spec (ws := wsL_turn) B.pre
  have htab := vx_table (x := yL_turn) B (hts (.codeWith yL_turn cL_turn 4 (some .int) [(0, 10, 13, 19)]) (by unfold wsL_turn; exact List.mem_cons_self))
  have hown : s.vm.findClass RL = some m.cls := findClass_of_methodNamed B.named
  have hlocks := B.notSynchronized
  have hin5 : ∀ w ∈ u_ws RX5 TX5 2, w ∈ wsL_turn := tu 1332 (by decide +kernel) rfl
  have hX := WX.ofW hPW
  have hO := hPW.2.2.1
  have hno := hPW.2.2.2.1
  have hl := lv_entry ([.ref (ad 57), .int x0, .ref o]) (n := 4) (Nat.le_of_ble_eq_true rfl)
  rw [lg_entry_eq]
  generalize (lg_sl ([.ref (ad 57), .int x0, .ref o]) ++ List.replicate (4 - (lg_sl ([.ref (ad 57), .int x0, .ref o])).length) Slot.unset).toArray = ls at hl ⊢
  have hl : lv_has ls 4 [(0, .ref (ad 57)), (1, .int x0), (2, .ref o)] := hl
  show W p l e ({ frames := 9, cells := 1, slots := 6, locals := 145 } : Room) s m ([.ref (ad 57), .int x0, .ref o]).toArray below meth c s.heap [] 0 0 (MQ below (va_Qi (fun r (u : XS × Int64) => LQ S u.1 ∧ R_turn x0 S r u.1 u.2) (PO2 dC dI ad o) (AO ad o)) ([.ref (ad 57), .int x0, .ref o]).toArray s 1 6 (AO ad o)) (F0 m 0 ls [])
  refine lv_aload_n hx hb dL_turn_0 rfl (lv_at hl 2 rfl) ?_
  refine lv_aload_n hx hb dL_turn_1 rfl (lv_at hl 0 rfl) ?_
  refine lv_iload_n hx hb dL_turn_2 rfl (lv_at hl 1 rfl) ?_
  rcases lim_lt 4 (by decide) x0 with ⟨j, hj, rfl⟩ | hb9
  rotate_left
  · skip
    refine kl_throw (vx_runV (As := [.int x0]) (rest := [.ref o]) ⟨hx, hb, hml, hown, hts⟩ (t_X4_turn_1 l hst dC dI ad S x0 hb9) (cwV 1 hts gL_turn_X4_turn rfl rfl rfl hdX4_turn_1 ⟨Nat.le_of_ble_eq_true rfl, Nat.le_of_ble_eq_true rfl⟩) hPW.1.preX rfl rfl hl.1 rfl (lv_room (Nat.le_of_ble_eq_true rfl)) dL_turn_3 ⟨Nat.le_of_ble_eq_true rfl, Nat.le_of_ble_eq_true rfl⟩) hX hO (fun ce q9 H hce1 hce2 hce3 hX hO => ?_)
    refine vx_catch hown [] ⟨0, 10, 13, 19⟩ [] (htab.trans rfl) (fun _ h => nomatch h) rfl (by decide) (hts (.classLink RL 19 IX) (tm 830 (by decide +kernel) rfl)) (va_Nw.use rfl hPW.1.2.1.2.1.1) hce1 hce2 hce3 ?_
    refine lv_astore_n (lv' := [(3, .ref q9), (0, .ref (ad 57)), (1, .int x0), (2, .ref o)]) hx hb dL_turn_13 rfl hl (by decide) rfl (fun ls hl => ?_)
    refine lv_iconst (v := nI 1) hx hb dL_turn_14 (by decide) ?_
    obtain ⟨n9, hN⟩ := hO
    exact W.widen (k := 1) (n := 6) (by simp) (by simp) (W.iret (v := nI 1) hx hb hr (fun t9 ht9 hW9 => ⟨⟨_, (S, n9), rfl, ⟨LQ_same hI h5, (Or.inl ⟨hb9, rfl, rfl⟩)⟩, hX.P ht9 hW9, by rw [ht9]; exact hN⟩, hX.2.2.2.F ht9⟩) hX.2.2.2.2.2 dL_turn_15)
  replace hj : j < 4 := by omega
  refine kl_ci (va_runV (As := [.int (nI j)]) (rest := [.ref o]) ⟨hx, hb, hml, hown, hts⟩ (m_X4_turn l dC dI ad S j hj hI) (cwV 1 hts gL_turn_X4_turn rfl rfl rfl hdX4_turn_1 ⟨Nat.le_of_ble_eq_true rfl, Nat.le_of_ble_eq_true rfl⟩) (hX.preTop 57 6 (by decide) (by decide) rfl rfl) rfl rfl hl.1 rfl (lv_room (Nat.le_of_ble_eq_true rfl)) dL_turn_3 ⟨Nat.le_of_ble_eq_true rfl, Nat.le_of_ble_eq_true rfl⟩) hX hO hno (fun r9 S1 H locs hw hX hO => ?_)
  have hLQ : LQ S S1 := by rw [hw.2]; exact LQ_newO hI h5 (h5 j hj) (hI.2 j (by omega)).1.2
  refine lv_i2l (v := r9.toInt64) hx hb dL_turn_6 rfl ?_
  refine kl_putn hx hb hts hin5 hown hX hO hno (host := "OrderlatticeLaw") (va_Nw.use rfl hPW.2.2.2.2.2.1) dL_turn_7 (fun H locs hX hN => ?_)
  refine lv_goto (tgt := 16) hx hb dL_turn_10 (by decide) ?_
  refine lv_iconst (v := nI 0) hx hb dL_turn_16 (by decide) ?_
  exact W.widen (k := 1) (n := 6) (by simp) (by simp) (W.iret (v := nI 0) hx hb hr (fun t9 ht9 hW9 => ⟨⟨_, (S1, r9.toInt64), rfl, ⟨hLQ, (Or.inr ⟨j, r9, hj, rfl, rfl, rfl, hw⟩)⟩, hX.P ht9 hW9, by rw [ht9]; exact hN⟩, hX.2.2.2.F ht9⟩) hX.2.2.2.2.2 dL_turn_17)
set_option maxHeartbeats 4000000 in
set_option maxRecDepth 100000 in
theorem m_L_product (l : Launch) (hst : l.stackTraces = false) (dC : Nat → ClassId) (dI : Nat → Nat → Nat) (cB : ClassId) (ad : Nat → Nat) (o : Nat) (S : XS) (x0 : Int32) (x1 : Int32) (x2 : Int32) (hI : InvX S) (h5 : ∀ j, j < 4 → (S.2.1 j).2.2.2.2.1 ≤ 5) (hc : S.2.2.1 + 12 < 1000000) : Met l yL_product wsL_product ({ frames := 9, cells := 1, slots := 6, locals := 149 } : Room) (va_Pc [.ref (ad 57), .int x0, .int x1, .int x2, .ref o] (PW dC dI cB ad o S)) (va_Qi (fun r (u : XS × Int64) => LQ S u.1 ∧ R_product x0 x1 x2 S r u.1 u.2) (PO2 dC dI ad o) (AO ad o)) 1 6 (AO ad o) := by
  refine va_MetW (cc := cL_product) (maxL := 6) (ret := (some .int)) pl_L rfl ?_
  intro p e s m args below meth c s₁ B hml hv
  obtain ⟨rfl, hPW⟩ := hv
  have hx := B.exec
  have hb := B.bytes
  have hr := B.returns
  have hts := atoms_spec (ws := wsL_product) B.pre
  have htab := vx_table (x := yL_product) B (hts (.codeWith yL_product cL_product 6 (some .int) [(0, 13, 16, 19)]) (by unfold wsL_product; exact List.mem_cons_self))
  have hown : s.vm.findClass RL = some m.cls := findClass_of_methodNamed B.named
  have hlocks := B.notSynchronized
  have hin5 : ∀ w ∈ u_ws RX5 TX5 2, w ∈ wsL_product := tu 1332 (by decide +kernel) rfl
  have hX := WX.ofW hPW
  have hO := hPW.2.2.1
  have hno := hPW.2.2.2.1
  have hl := lv_entry ([.ref (ad 57), .int x0, .int x1, .int x2, .ref o]) (n := 6) (Nat.le_of_ble_eq_true rfl)
  rw [lg_entry_eq]
  generalize (lg_sl ([.ref (ad 57), .int x0, .int x1, .int x2, .ref o]) ++ List.replicate (6 - (lg_sl ([.ref (ad 57), .int x0, .int x1, .int x2, .ref o])).length) Slot.unset).toArray = ls at hl ⊢
  have hl : lv_has ls 6 [(0, .ref (ad 57)), (1, .int x0), (2, .int x1), (3, .int x2), (4, .ref o)] := hl
  show W p l e ({ frames := 9, cells := 1, slots := 6, locals := 149 } : Room) s m ([.ref (ad 57), .int x0, .int x1, .int x2, .ref o]).toArray below meth c s.heap [] 0 0 (MQ below (va_Qi (fun r (u : XS × Int64) => LQ S u.1 ∧ R_product x0 x1 x2 S r u.1 u.2) (PO2 dC dI ad o) (AO ad o)) ([.ref (ad 57), .int x0, .int x1, .int x2, .ref o]).toArray s 1 6 (AO ad o)) (F0 m 0 ls [])
  refine lv_aload hx hb dL_product_0 (lv_at hl 4 rfl) ?_
  refine lv_aload_n hx hb dL_product_2 rfl (lv_at hl 0 rfl) ?_
  refine lv_iload_n hx hb dL_product_3 rfl (lv_at hl 1 rfl) ?_
  refine lv_iload_n hx hb dL_product_4 rfl (lv_at hl 2 rfl) ?_
  refine lv_iload_n hx hb dL_product_5 rfl (lv_at hl 3 rfl) ?_
  rcases lim_lt 4 (by decide) x0 with ⟨j, hj, rfl⟩ | hb9
  rotate_left
  · skip
    refine kl_throw (vx_runV (As := [.int x0, .int x1, .int x2]) (rest := [.ref o]) ⟨hx, hb, hml, hown, hts⟩ (t_X4_product_1 l hst dC dI ad S x0 x1 x2 hb9) (cwV 3 hts gL_product_X4_product rfl rfl rfl hdX4_product_3 ⟨Nat.le_of_ble_eq_true rfl, Nat.le_of_ble_eq_true rfl⟩) hPW.1.preX rfl rfl hl.1 rfl (lv_room (Nat.le_of_ble_eq_true rfl)) dL_product_6 ⟨Nat.le_of_ble_eq_true rfl, Nat.le_of_ble_eq_true rfl⟩) hX hO (fun ce q9 H hce1 hce2 hce3 hX hO => ?_)
    refine vx_catch hown [] ⟨0, 13, 16, 19⟩ [] (htab.trans rfl) (fun _ h => nomatch h) rfl (by decide) (hts (.classLink RL 19 IX) (tm 830 (by decide +kernel) rfl)) (va_Nw.use rfl hPW.1.2.1.2.1.1) hce1 hce2 hce3 ?_
    refine lv_astore (lv' := [(5, .ref q9), (0, .ref (ad 57)), (1, .int x0), (2, .int x1), (3, .int x2), (4, .ref o)]) hx hb dL_product_16 hl (by decide) rfl (fun ls hl => ?_)
    refine lv_iconst (v := nI 1) hx hb dL_product_18 (by decide) ?_
    obtain ⟨n9, hN⟩ := hO
    exact W.widen (k := 1) (n := 6) (by simp) (by simp) (W.iret (v := nI 1) hx hb hr (fun t9 ht9 hW9 => ⟨⟨_, (S, n9), rfl, ⟨LQ_same hI h5, (Or.inl ⟨hb9, rfl, rfl⟩)⟩, hX.P ht9 hW9, by rw [ht9]; exact hN⟩, hX.2.2.2.F ht9⟩) hX.2.2.2.2.2 dL_product_19)
  replace hj : j < 4 := by omega
  rcases lim_lt 4 (by decide) x1 with ⟨j2, hj2, rfl⟩ | hb9
  rotate_left
  · skip
    refine kl_throw (vx_runV (As := [.int (nI j), .int x1, .int x2]) (rest := [.ref o]) ⟨hx, hb, hml, hown, hts⟩ (t_X4_product_2 l hst dC dI ad S j x1 x2 hj hb9) (cwV 3 hts gL_product_X4_product rfl rfl rfl hdX4_product_3 ⟨Nat.le_of_ble_eq_true rfl, Nat.le_of_ble_eq_true rfl⟩) hPW.1.preX rfl rfl hl.1 rfl (lv_room (Nat.le_of_ble_eq_true rfl)) dL_product_6 ⟨Nat.le_of_ble_eq_true rfl, Nat.le_of_ble_eq_true rfl⟩) hX hO (fun ce q9 H hce1 hce2 hce3 hX hO => ?_)
    refine vx_catch hown [] ⟨0, 13, 16, 19⟩ [] (htab.trans rfl) (fun _ h => nomatch h) rfl (by decide) (hts (.classLink RL 19 IX) (tm 830 (by decide +kernel) rfl)) (va_Nw.use rfl hPW.1.2.1.2.1.1) hce1 hce2 hce3 ?_
    refine lv_astore (lv' := [(5, .ref q9), (0, .ref (ad 57)), (1, .int (nI j)), (2, .int x1), (3, .int x2), (4, .ref o)]) hx hb dL_product_16 hl (by decide) rfl (fun ls hl => ?_)
    refine lv_iconst (v := nI 1) hx hb dL_product_18 (by decide) ?_
    obtain ⟨n9, hN⟩ := hO
    exact W.widen (k := 1) (n := 6) (by simp) (by simp) (W.iret (v := nI 1) hx hb hr (fun t9 ht9 hW9 => ⟨⟨_, (S, n9), rfl, ⟨LQ_same hI h5, (Or.inr (Or.inl ⟨j, hj, rfl, hb9, rfl, rfl⟩))⟩, hX.P ht9 hW9, by rw [ht9]; exact hN⟩, hX.2.2.2.F ht9⟩) hX.2.2.2.2.2 dL_product_19)
  replace hj2 : j2 < 4 := by omega
  rcases lim_lt 4 (by decide) x2 with ⟨j3, hj3, rfl⟩ | hb9
  rotate_left
  · skip
    refine kl_throw (vx_runV (As := [.int (nI j), .int (nI j2), .int x2]) (rest := [.ref o]) ⟨hx, hb, hml, hown, hts⟩ (t_X4_product_3 l hst dC dI ad S j j2 x2 hj hj2 hb9) (cwV 3 hts gL_product_X4_product rfl rfl rfl hdX4_product_3 ⟨Nat.le_of_ble_eq_true rfl, Nat.le_of_ble_eq_true rfl⟩) hPW.1.preX rfl rfl hl.1 rfl (lv_room (Nat.le_of_ble_eq_true rfl)) dL_product_6 ⟨Nat.le_of_ble_eq_true rfl, Nat.le_of_ble_eq_true rfl⟩) hX hO (fun ce q9 H hce1 hce2 hce3 hX hO => ?_)
    refine vx_catch hown [] ⟨0, 13, 16, 19⟩ [] (htab.trans rfl) (fun _ h => nomatch h) rfl (by decide) (hts (.classLink RL 19 IX) (tm 830 (by decide +kernel) rfl)) (va_Nw.use rfl hPW.1.2.1.2.1.1) hce1 hce2 hce3 ?_
    refine lv_astore (lv' := [(5, .ref q9), (0, .ref (ad 57)), (1, .int (nI j)), (2, .int (nI j2)), (3, .int x2), (4, .ref o)]) hx hb dL_product_16 hl (by decide) rfl (fun ls hl => ?_)
    refine lv_iconst (v := nI 1) hx hb dL_product_18 (by decide) ?_
    obtain ⟨n9, hN⟩ := hO
    exact W.widen (k := 1) (n := 6) (by simp) (by simp) (W.iret (v := nI 1) hx hb hr (fun t9 ht9 hW9 => ⟨⟨_, (S, n9), rfl, ⟨LQ_same hI h5, (Or.inr (Or.inr (Or.inl ⟨j, j2, hj, hj2, rfl, rfl, hb9, rfl, rfl⟩)))⟩, hX.P ht9 hW9, by rw [ht9]; exact hN⟩, hX.2.2.2.F ht9⟩) hX.2.2.2.2.2 dL_product_19)
  replace hj3 : j3 < 4 := by omega
  refine kl_ci (va_runV (As := [.int (nI j), .int (nI j2), .int (nI j3)]) (rest := [.ref o]) ⟨hx, hb, hml, hown, hts⟩ (m_X4_product l dC dI ad S j j2 j3 hj hj2 hj3 hI) (cwV 3 hts gL_product_X4_product rfl rfl rfl hdX4_product_3 ⟨Nat.le_of_ble_eq_true rfl, Nat.le_of_ble_eq_true rfl⟩) (hX.preTop 57 6 (by decide) (by decide) rfl rfl) rfl rfl hl.1 rfl (lv_room (Nat.le_of_ble_eq_true rfl)) dL_product_6 ⟨Nat.le_of_ble_eq_true rfl, Nat.le_of_ble_eq_true rfl⟩) hX hO hno (fun r9 S1 H locs hw hX hO => ?_)
  have hLQ : LQ S S1 := LQ_product hI h5 hj hj2 hj3 hw
  refine lv_i2l (v := r9.toInt64) hx hb dL_product_9 rfl ?_
  refine kl_putn hx hb hts hin5 hown hX hO hno (host := "OrderlatticeLaw") (va_Nw.use rfl hPW.2.2.2.2.2.1) dL_product_10 (fun H locs hX hN => ?_)
  refine lv_goto (tgt := 20) hx hb dL_product_13 (by decide) ?_
  refine lv_iconst (v := nI 0) hx hb dL_product_20 (by decide) ?_
  exact W.widen (k := 1) (n := 6) (by simp) (by simp) (W.iret (v := nI 0) hx hb hr (fun t9 ht9 hW9 => ⟨⟨_, (S1, r9.toInt64), rfl, ⟨hLQ, (Or.inr (Or.inr (Or.inr ⟨j, j2, j3, r9, hj, hj2, hj3, rfl, rfl, rfl, rfl, rfl, hw⟩)))⟩, hX.P ht9 hW9, by rw [ht9]; exact hN⟩, hX.2.2.2.F ht9⟩) hX.2.2.2.2.2 dL_product_21)
set_option maxHeartbeats 4000000 in
set_option maxRecDepth 100000 in
theorem m_L_tellApart (l : Launch) (hst : l.stackTraces = false) (dC : Nat → ClassId) (dI : Nat → Nat → Nat) (cB : ClassId) (ad : Nat → Nat) (o : Nat) (S : XS) (x0 : Int32) (x1 : Int32) (x2 : Int32) (hI : InvX S) (h5 : ∀ j, j < 4 → (S.2.1 j).2.2.2.2.1 ≤ 5) (hc : S.2.2.1 + 12 < 1000000) : Met l yL_tellApart wsL_tellApart ({ frames := 9, cells := 1, slots := 6, locals := 148 } : Room) (va_Pc [.ref (ad 57), .int x0, .int x1, .int x2, .ref o] (PW dC dI cB ad o S)) (va_Qi (fun r (u : XS × Int64) => LQ S u.1 ∧ R_tellApart x0 x1 x2 S r u.1 u.2) (PO2 dC dI ad o) (AO ad o)) 1 6 (AO ad o) := by
  refine va_MetW (cc := cL_tellApart) (maxL := 6) (ret := (some .int)) pl_L rfl ?_
  intro p e s m args below meth c s₁ B hml hv
  obtain ⟨rfl, hPW⟩ := hv
  have hx := B.exec
  have hb := B.bytes
  have hr := B.returns
  have hts := atoms_spec (ws := wsL_tellApart) B.pre
  have htab := vx_table (x := yL_tellApart) B (hts (.codeWith yL_tellApart cL_tellApart 6 (some .int) [(0, 13, 16, 19), (0, 13, 20, 21)]) (by unfold wsL_tellApart; exact List.mem_cons_self))
  have hown : s.vm.findClass RL = some m.cls := findClass_of_methodNamed B.named
  have hlocks := B.notSynchronized
  have hin5 : ∀ w ∈ u_ws RX5 TX5 2, w ∈ wsL_tellApart := tu 1332 (by decide +kernel) rfl
  have hX := WX.ofW hPW
  have hO := hPW.2.2.1
  have hno := hPW.2.2.2.1
  have hl := lv_entry ([.ref (ad 57), .int x0, .int x1, .int x2, .ref o]) (n := 6) (Nat.le_of_ble_eq_true rfl)
  rw [lg_entry_eq]
  generalize (lg_sl ([.ref (ad 57), .int x0, .int x1, .int x2, .ref o]) ++ List.replicate (6 - (lg_sl ([.ref (ad 57), .int x0, .int x1, .int x2, .ref o])).length) Slot.unset).toArray = ls at hl ⊢
  have hl : lv_has ls 6 [(0, .ref (ad 57)), (1, .int x0), (2, .int x1), (3, .int x2), (4, .ref o)] := hl
  show W p l e ({ frames := 9, cells := 1, slots := 6, locals := 148 } : Room) s m ([.ref (ad 57), .int x0, .int x1, .int x2, .ref o]).toArray below meth c s.heap [] 0 0 (MQ below (va_Qi (fun r (u : XS × Int64) => LQ S u.1 ∧ R_tellApart x0 x1 x2 S r u.1 u.2) (PO2 dC dI ad o) (AO ad o)) ([.ref (ad 57), .int x0, .int x1, .int x2, .ref o]).toArray s 1 6 (AO ad o)) (F0 m 0 ls [])
  refine lv_aload hx hb dL_tellApart_0 (lv_at hl 4 rfl) ?_
  refine lv_aload_n hx hb dL_tellApart_2 rfl (lv_at hl 0 rfl) ?_
  refine lv_iload_n hx hb dL_tellApart_3 rfl (lv_at hl 1 rfl) ?_
  refine lv_iload_n hx hb dL_tellApart_4 rfl (lv_at hl 2 rfl) ?_
  refine lv_iload_n hx hb dL_tellApart_5 rfl (lv_at hl 3 rfl) ?_
  rcases lim_lt 4 (by decide) x0 with ⟨j, hj, rfl⟩ | hb9
  rotate_left
  · skip
    refine kl_throw (vx_runV (As := [.int x0, .int x1, .int x2]) (rest := [.ref o]) ⟨hx, hb, hml, hown, hts⟩ (t_X4_tellApart_1 l hst dC dI ad S x0 x1 x2 hb9) (cwV 3 hts gL_tellApart_X4_tellApart rfl rfl rfl hdX4_tellApart_3 ⟨Nat.le_of_ble_eq_true rfl, Nat.le_of_ble_eq_true rfl⟩) hPW.1.preX rfl rfl hl.1 rfl (lv_room (Nat.le_of_ble_eq_true rfl)) dL_tellApart_6 ⟨Nat.le_of_ble_eq_true rfl, Nat.le_of_ble_eq_true rfl⟩) hX hO (fun ce q9 H hce1 hce2 hce3 hX hO => ?_)
    refine vx_catch hown [] ⟨0, 13, 16, 19⟩ [⟨0, 13, 20, 21⟩] (htab.trans rfl) (fun _ h => nomatch h) rfl (by decide) (hts (.classLink RL 19 IX) (tm 830 (by decide +kernel) rfl)) (va_Nw.use rfl hPW.1.2.1.2.1.1) hce1 hce2 hce3 ?_
    refine lv_astore (lv' := [(5, .ref q9), (0, .ref (ad 57)), (1, .int x0), (2, .int x1), (3, .int x2), (4, .ref o)]) hx hb dL_tellApart_16 hl (by decide) rfl (fun ls hl => ?_)
    refine lv_iconst (v := nI 1) hx hb dL_tellApart_18 (by decide) ?_
    obtain ⟨n9, hN⟩ := hO
    exact W.widen (k := 1) (n := 6) (by simp) (by simp) (W.iret (v := nI 1) hx hb hr (fun t9 ht9 hW9 => ⟨⟨_, (S, n9), rfl, ⟨LQ_same hI h5, (Or.inl ⟨hb9, rfl, rfl⟩)⟩, hX.P ht9 hW9, by rw [ht9]; exact hN⟩, hX.2.2.2.F ht9⟩) hX.2.2.2.2.2 dL_tellApart_19)
  replace hj : j < 4 := by omega
  rcases lim_le 15 (by decide) x1 with ⟨v, hv, rfl⟩ | hb9
  rotate_left
  · skip
    refine kl_throw (vx_runV (As := [.int (nI j), .int x1, .int x2]) (rest := [.ref o]) ⟨hx, hb, hml, hown, hts⟩ (t_X4_tellApart_2 l hst dC dI ad S j x1 x2 hj hb9) (cwV 3 hts gL_tellApart_X4_tellApart rfl rfl rfl hdX4_tellApart_3 ⟨Nat.le_of_ble_eq_true rfl, Nat.le_of_ble_eq_true rfl⟩) hPW.1.preX rfl rfl hl.1 rfl (lv_room (Nat.le_of_ble_eq_true rfl)) dL_tellApart_6 ⟨Nat.le_of_ble_eq_true rfl, Nat.le_of_ble_eq_true rfl⟩) hX hO (fun ce q9 H hce1 hce2 hce3 hX hO => ?_)
    refine vx_catch hown [⟨0, 13, 16, 19⟩] ⟨0, 13, 20, 21⟩ [] (htab.trans rfl) (fun z hz => by rw [List.mem_singleton.mp hz]; exact Or.inr ⟨by decide, IX, hts (.classLink RL 19 IX) (by decide +kernel), hPW.2.2.2.2.1⟩) rfl (by decide) (hts (.classLink RL 21 IA) (tm 831 (by decide +kernel) rfl)) (va_Nw.use rfl hPW.1.2.1.2.1.2) hce1 hce2 hce3 ?_
    refine lv_astore (lv' := [(5, .ref q9), (0, .ref (ad 57)), (1, .int (nI j)), (2, .int x1), (3, .int x2), (4, .ref o)]) hx hb dL_tellApart_20 hl (by decide) rfl (fun ls hl => ?_)
    refine lv_iconst (v := nI 2) hx hb dL_tellApart_22 (by decide) ?_
    obtain ⟨n9, hN⟩ := hO
    exact W.widen (k := 1) (n := 6) (by simp) (by simp) (W.iret (v := nI 2) hx hb hr (fun t9 ht9 hW9 => ⟨⟨_, (S, n9), rfl, ⟨LQ_same hI h5, (Or.inr (Or.inl ⟨j, hj, rfl, hb9, rfl, rfl⟩))⟩, hX.P ht9 hW9, by rw [ht9]; exact hN⟩, hX.2.2.2.F ht9⟩) hX.2.2.2.2.2 dL_tellApart_23)
  replace hv : v < 16 := by omega
  rcases lim_le 15 (by decide) x2 with ⟨v2, hv2, rfl⟩ | hb9
  rotate_left
  · skip
    refine kl_throw (vx_runV (As := [.int (nI j), .int (nI v), .int x2]) (rest := [.ref o]) ⟨hx, hb, hml, hown, hts⟩ (t_X4_tellApart_3 l hst dC dI ad S j v x2 hj hv hb9) (cwV 3 hts gL_tellApart_X4_tellApart rfl rfl rfl hdX4_tellApart_3 ⟨Nat.le_of_ble_eq_true rfl, Nat.le_of_ble_eq_true rfl⟩) hPW.1.preX rfl rfl hl.1 rfl (lv_room (Nat.le_of_ble_eq_true rfl)) dL_tellApart_6 ⟨Nat.le_of_ble_eq_true rfl, Nat.le_of_ble_eq_true rfl⟩) hX hO (fun ce q9 H hce1 hce2 hce3 hX hO => ?_)
    refine vx_catch hown [⟨0, 13, 16, 19⟩] ⟨0, 13, 20, 21⟩ [] (htab.trans rfl) (fun z hz => by rw [List.mem_singleton.mp hz]; exact Or.inr ⟨by decide, IX, hts (.classLink RL 19 IX) (by decide +kernel), hPW.2.2.2.2.1⟩) rfl (by decide) (hts (.classLink RL 21 IA) (tm 831 (by decide +kernel) rfl)) (va_Nw.use rfl hPW.1.2.1.2.1.2) hce1 hce2 hce3 ?_
    refine lv_astore (lv' := [(5, .ref q9), (0, .ref (ad 57)), (1, .int (nI j)), (2, .int (nI v)), (3, .int x2), (4, .ref o)]) hx hb dL_tellApart_20 hl (by decide) rfl (fun ls hl => ?_)
    refine lv_iconst (v := nI 2) hx hb dL_tellApart_22 (by decide) ?_
    obtain ⟨n9, hN⟩ := hO
    exact W.widen (k := 1) (n := 6) (by simp) (by simp) (W.iret (v := nI 2) hx hb hr (fun t9 ht9 hW9 => ⟨⟨_, (S, n9), rfl, ⟨LQ_same hI h5, (Or.inr (Or.inr (Or.inl ⟨j, v, hj, hv, rfl, rfl, hb9, rfl, rfl⟩)))⟩, hX.P ht9 hW9, by rw [ht9]; exact hN⟩, hX.2.2.2.F ht9⟩) hX.2.2.2.2.2 dL_tellApart_23)
  replace hv2 : v2 < 16 := by omega
  refine kl_ci (va_runV (As := [.int (nI j), .int (nI v), .int (nI v2)]) (rest := [.ref o]) ⟨hx, hb, hml, hown, hts⟩ (m_X4_tellApart l dC dI ad S j v v2 hj hv hv2 hI) (cwV 3 hts gL_tellApart_X4_tellApart rfl rfl rfl hdX4_tellApart_3 ⟨Nat.le_of_ble_eq_true rfl, Nat.le_of_ble_eq_true rfl⟩) (hX.preTop 57 6 (by decide) (by decide) rfl rfl) rfl rfl hl.1 rfl (lv_room (Nat.le_of_ble_eq_true rfl)) dL_tellApart_6 ⟨Nat.le_of_ble_eq_true rfl, Nat.le_of_ble_eq_true rfl⟩) hX hO hno (fun r9 S1 H locs hw hX hO => ?_)
  have hLQ : LQ S S1 := LQ_tell hI h5 hj hw
  refine lv_i2l (v := r9.toInt64) hx hb dL_tellApart_9 rfl ?_
  refine kl_putn hx hb hts hin5 hown hX hO hno (host := "OrderlatticeLaw") (va_Nw.use rfl hPW.2.2.2.2.2.1) dL_tellApart_10 (fun H locs hX hN => ?_)
  refine lv_goto (tgt := 24) hx hb dL_tellApart_13 (by decide) ?_
  refine lv_iconst (v := nI 0) hx hb dL_tellApart_24 (by decide) ?_
  exact W.widen (k := 1) (n := 6) (by simp) (by simp) (W.iret (v := nI 0) hx hb hr (fun t9 ht9 hW9 => ⟨⟨_, (S1, r9.toInt64), rfl, ⟨hLQ, (Or.inr (Or.inr (Or.inr ⟨j, v, v2, r9, hj, hv, hv2, rfl, rfl, rfl, rfl, rfl, hw⟩)))⟩, hX.P ht9 hW9, by rw [ht9]; exact hN⟩, hX.2.2.2.F ht9⟩) hX.2.2.2.2.2 dL_tellApart_25)
set_option maxHeartbeats 4000000 in
set_option maxRecDepth 100000 in
theorem m_L_orderText (l : Launch) (hst : l.stackTraces = false) (dC : Nat → ClassId) (dI : Nat → Nat → Nat) (cB : ClassId) (ad : Nat → Nat) (o : Nat) (S : XS) (x0 : Int32) (hI : InvX S) (h5 : ∀ j, j < 4 → (S.2.1 j).2.2.2.2.1 ≤ 5) (hc : S.2.2.1 + 12 < 1000000) : Met l yL_orderText wsL_orderText ({ frames := 9, cells := 80, slots := 900, locals := 194 } : Room) (va_Pc [.ref (ad 57), .int x0, .ref o] (PW dC dI cB ad o S)) (va_Qi (fun r (u : XS × Int64) => LQ S u.1 ∧ R_orderText x0 S r u.1 u.2) (PO2 dC dI ad o) (AO ad o)) 80 900 (AO ad o) := by
  refine va_MetW (cc := cL_orderText) (maxL := 4) (ret := (some .int)) pl_L rfl ?_
  intro p e s m args below meth c s₁ B hml hv
  obtain ⟨rfl, hPW⟩ := hv
  have hx := B.exec
  have hb := B.bytes
  have hr := B.returns
  have hts := atoms_spec (ws := wsL_orderText) B.pre
  have htab := vx_table (x := yL_orderText) B (hts (.codeWith yL_orderText cL_orderText 4 (some .int) [(0, 9, 12, 19)]) (by unfold wsL_orderText; exact List.mem_cons_self))
  have hown : s.vm.findClass RL = some m.cls := findClass_of_methodNamed B.named
  have hlocks := B.notSynchronized
  have hin5 : ∀ w ∈ u_ws RX5 TX5 2, w ∈ wsL_orderText := tu 1332 (by decide +kernel) rfl
  have hX := WX.ofW hPW
  have hO := hPW.2.2.1
  have hno := hPW.2.2.2.1
  have hl := lv_entry ([.ref (ad 57), .int x0, .ref o]) (n := 4) (Nat.le_of_ble_eq_true rfl)
  rw [lg_entry_eq]
  generalize (lg_sl ([.ref (ad 57), .int x0, .ref o]) ++ List.replicate (4 - (lg_sl ([.ref (ad 57), .int x0, .ref o])).length) Slot.unset).toArray = ls at hl ⊢
  have hl : lv_has ls 4 [(0, .ref (ad 57)), (1, .int x0), (2, .ref o)] := hl
  show W p l e ({ frames := 9, cells := 80, slots := 900, locals := 194 } : Room) s m ([.ref (ad 57), .int x0, .ref o]).toArray below meth c s.heap [] 0 0 (MQ below (va_Qi (fun r (u : XS × Int64) => LQ S u.1 ∧ R_orderText x0 S r u.1 u.2) (PO2 dC dI ad o) (AO ad o)) ([.ref (ad 57), .int x0, .ref o]).toArray s 80 900 (AO ad o)) (F0 m 0 ls [])
  refine lv_aload_n hx hb dL_orderText_0 rfl (lv_at hl 2 rfl) ?_
  refine lv_aload_n hx hb dL_orderText_1 rfl (lv_at hl 0 rfl) ?_
  refine lv_iload_n hx hb dL_orderText_2 rfl (lv_at hl 1 rfl) ?_
  rcases lim_lt 4 (by decide) x0 with ⟨j, hj, rfl⟩ | hb9
  rotate_left
  · skip
    refine kl_throw (vx_runV (As := [.int x0]) (rest := [.ref o]) ⟨hx, hb, hml, hown, hts⟩ (t_X4_orderText_1 l hst dC dI ad S x0 hb9) (cwV 1 hts gL_orderText_X4_orderText rfl rfl rfl hdX4_orderText_1 ⟨Nat.le_of_ble_eq_true rfl, Nat.le_of_ble_eq_true rfl⟩) hPW.1.preX rfl rfl hl.1 rfl (lv_room (Nat.le_of_ble_eq_true rfl)) dL_orderText_3 ⟨Nat.le_of_ble_eq_true rfl, Nat.le_of_ble_eq_true rfl⟩) hX hO (fun ce q9 H hce1 hce2 hce3 hX hO => ?_)
    refine vx_catch hown [] ⟨0, 9, 12, 19⟩ [] (htab.trans rfl) (fun _ h => nomatch h) rfl (by decide) (hts (.classLink RL 19 IX) (tm 830 (by decide +kernel) rfl)) (va_Nw.use rfl hPW.1.2.1.2.1.1) hce1 hce2 hce3 ?_
    refine lv_astore_n (lv' := [(3, .ref q9), (0, .ref (ad 57)), (1, .int x0), (2, .ref o)]) hx hb dL_orderText_12 rfl hl (by decide) rfl (fun ls hl => ?_)
    refine lv_iconst (v := nI 1) hx hb dL_orderText_13 (by decide) ?_
    obtain ⟨n9, hN⟩ := hO
    exact W.widen (k := 80) (n := 900) (by simp) (by simp) (W.iret (v := nI 1) hx hb hr (fun t9 ht9 hW9 => ⟨⟨_, (S, n9), rfl, ⟨LQ_same hI h5, (Or.inl ⟨hb9, rfl, rfl⟩)⟩, hX.P ht9 hW9, by rw [ht9]; exact hN⟩, hX.2.2.2.F ht9⟩) hX.2.2.2.2.2 dL_orderText_14)
  replace hj : j < 4 := by omega
  refine kl_rr (va_runV (As := [.int (nI j)]) (rest := [.ref o]) ⟨hx, hb, hml, hown, hts⟩ (m_X4_orderText l dC dI cB ad S j hj hI) (cwV 1 hts gL_orderText_X4_orderText rfl rfl rfl hdX4_orderText_1 ⟨Nat.le_of_ble_eq_true rfl, Nat.le_of_ble_eq_true rfl⟩) hPW.preT rfl rfl hl.1 rfl (lv_room (Nat.le_of_ble_eq_true rfl)) dL_orderText_3 ⟨Nat.le_of_ble_eq_true rfl, Nat.le_of_ble_eq_true rfl⟩) hX hO hno (fun S1 q9 H locs hw hX hO => ?_)
  have hLQ : LQ S S1 := by rw [hw]; exact LQ_same hI h5
  refine kl_put hx hb hts hin5 hown hX hO hno 1 (by decide) (host := "OrderlatticeLaw") (va_Nw.use rfl hPW.2.2.2.2.2.2) (ty := (.object "java/lang/String")) rfl rfl rfl (Or.inr ⟨rfl, _, rfl⟩) dL_orderText_6 (fun H locs hX hO => ?_)
  refine lv_goto (tgt := 15) hx hb dL_orderText_9 (by decide) ?_
  refine lv_iconst (v := nI 0) hx hb dL_orderText_15 (by decide) ?_
  obtain ⟨n9, hN⟩ := hO
  exact W.widen (k := 80) (n := 900) (by simp) (by simp) (W.iret (v := nI 0) hx hb hr (fun t9 ht9 hW9 => ⟨⟨_, (S1, n9), rfl, ⟨hLQ, (Or.inr ⟨j, hj, rfl, rfl, hw⟩)⟩, hX.P ht9 hW9, by rw [ht9]; exact hN⟩, hX.2.2.2.F ht9⟩) hX.2.2.2.2.2 dL_orderText_16)
set_option maxHeartbeats 4000000 in
set_option maxRecDepth 100000 in
theorem m_L_compare (l : Launch) (hst : l.stackTraces = false) (dC : Nat → ClassId) (dI : Nat → Nat → Nat) (cB : ClassId) (ad : Nat → Nat) (o : Nat) (S : XS) (x0 : Int32) (x1 : Int32) (x2 : Int32) (hI : InvX S) (h5 : ∀ j, j < 4 → (S.2.1 j).2.2.2.2.1 ≤ 5) (hc : S.2.2.1 + 12 < 1000000) : Met l yL_compare wsL_compare ({ frames := 9, cells := 1, slots := 6, locals := 147 } : Room) (va_Pc [.ref (ad 57), .int x0, .int x1, .int x2, .ref o] (PW dC dI cB ad o S)) (va_Qi (fun r (u : XS × Int64) => LQ S u.1 ∧ R_compare x0 x1 x2 S r u.1 u.2) (PO2 dC dI ad o) (AO ad o)) 1 6 (AO ad o) := by
  refine va_MetW (cc := cL_compare) (maxL := 6) (ret := (some .int)) pl_L rfl ?_
  intro p e s m args below meth c s₁ B hml hv
  obtain ⟨rfl, hPW⟩ := hv
  have hx := B.exec
  have hb := B.bytes
  have hr := B.returns
  have hts := atoms_spec (ws := wsL_compare) B.pre
  have htab := vx_table (x := yL_compare) B (hts (.codeWith yL_compare cL_compare 6 (some .int) [(0, 13, 16, 19), (0, 13, 20, 21)]) (by unfold wsL_compare; exact List.mem_cons_self))
  have hown : s.vm.findClass RL = some m.cls := findClass_of_methodNamed B.named
  have hlocks := B.notSynchronized
  have hin5 : ∀ w ∈ u_ws RX5 TX5 2, w ∈ wsL_compare := tu 1332 (by decide +kernel) rfl
  have hX := WX.ofW hPW
  have hO := hPW.2.2.1
  have hno := hPW.2.2.2.1
  have hl := lv_entry ([.ref (ad 57), .int x0, .int x1, .int x2, .ref o]) (n := 6) (Nat.le_of_ble_eq_true rfl)
  rw [lg_entry_eq]
  generalize (lg_sl ([.ref (ad 57), .int x0, .int x1, .int x2, .ref o]) ++ List.replicate (6 - (lg_sl ([.ref (ad 57), .int x0, .int x1, .int x2, .ref o])).length) Slot.unset).toArray = ls at hl ⊢
  have hl : lv_has ls 6 [(0, .ref (ad 57)), (1, .int x0), (2, .int x1), (3, .int x2), (4, .ref o)] := hl
  show W p l e ({ frames := 9, cells := 1, slots := 6, locals := 147 } : Room) s m ([.ref (ad 57), .int x0, .int x1, .int x2, .ref o]).toArray below meth c s.heap [] 0 0 (MQ below (va_Qi (fun r (u : XS × Int64) => LQ S u.1 ∧ R_compare x0 x1 x2 S r u.1 u.2) (PO2 dC dI ad o) (AO ad o)) ([.ref (ad 57), .int x0, .int x1, .int x2, .ref o]).toArray s 1 6 (AO ad o)) (F0 m 0 ls [])
  refine lv_aload hx hb dL_compare_0 (lv_at hl 4 rfl) ?_
  refine lv_aload_n hx hb dL_compare_2 rfl (lv_at hl 0 rfl) ?_
  refine lv_iload_n hx hb dL_compare_3 rfl (lv_at hl 1 rfl) ?_
  refine lv_iload_n hx hb dL_compare_4 rfl (lv_at hl 2 rfl) ?_
  refine lv_iload_n hx hb dL_compare_5 rfl (lv_at hl 3 rfl) ?_
  rcases lim_lt 4 (by decide) x0 with ⟨j, hj, rfl⟩ | hb9
  rotate_left
  · skip
    refine kl_throw (vx_runV (As := [.int x0, .int x1, .int x2]) (rest := [.ref o]) ⟨hx, hb, hml, hown, hts⟩ (t_X4_compare_1 l hst dC dI ad S x0 x1 x2 hb9) (cwV 3 hts gL_compare_X4_compare rfl rfl rfl hdX4_compare_3 ⟨Nat.le_of_ble_eq_true rfl, Nat.le_of_ble_eq_true rfl⟩) hPW.1.preX rfl rfl hl.1 rfl (lv_room (Nat.le_of_ble_eq_true rfl)) dL_compare_6 ⟨Nat.le_of_ble_eq_true rfl, Nat.le_of_ble_eq_true rfl⟩) hX hO (fun ce q9 H hce1 hce2 hce3 hX hO => ?_)
    refine vx_catch hown [] ⟨0, 13, 16, 19⟩ [⟨0, 13, 20, 21⟩] (htab.trans rfl) (fun _ h => nomatch h) rfl (by decide) (hts (.classLink RL 19 IX) (tm 830 (by decide +kernel) rfl)) (va_Nw.use rfl hPW.1.2.1.2.1.1) hce1 hce2 hce3 ?_
    refine lv_astore (lv' := [(5, .ref q9), (0, .ref (ad 57)), (1, .int x0), (2, .int x1), (3, .int x2), (4, .ref o)]) hx hb dL_compare_16 hl (by decide) rfl (fun ls hl => ?_)
    refine lv_iconst (v := nI 1) hx hb dL_compare_18 (by decide) ?_
    obtain ⟨n9, hN⟩ := hO
    exact W.widen (k := 1) (n := 6) (by simp) (by simp) (W.iret (v := nI 1) hx hb hr (fun t9 ht9 hW9 => ⟨⟨_, (S, n9), rfl, ⟨LQ_same hI h5, (Or.inl ⟨hb9, rfl, rfl⟩)⟩, hX.P ht9 hW9, by rw [ht9]; exact hN⟩, hX.2.2.2.F ht9⟩) hX.2.2.2.2.2 dL_compare_19)
  replace hj : j < 4 := by omega
  rcases lim_le 15 (by decide) x1 with ⟨v, hv, rfl⟩ | hb9
  rotate_left
  · skip
    refine kl_throw (vx_runV (As := [.int (nI j), .int x1, .int x2]) (rest := [.ref o]) ⟨hx, hb, hml, hown, hts⟩ (t_X4_compare_2 l hst dC dI ad S j x1 x2 hj hb9) (cwV 3 hts gL_compare_X4_compare rfl rfl rfl hdX4_compare_3 ⟨Nat.le_of_ble_eq_true rfl, Nat.le_of_ble_eq_true rfl⟩) hPW.1.preX rfl rfl hl.1 rfl (lv_room (Nat.le_of_ble_eq_true rfl)) dL_compare_6 ⟨Nat.le_of_ble_eq_true rfl, Nat.le_of_ble_eq_true rfl⟩) hX hO (fun ce q9 H hce1 hce2 hce3 hX hO => ?_)
    refine vx_catch hown [⟨0, 13, 16, 19⟩] ⟨0, 13, 20, 21⟩ [] (htab.trans rfl) (fun z hz => by rw [List.mem_singleton.mp hz]; exact Or.inr ⟨by decide, IX, hts (.classLink RL 19 IX) (by decide +kernel), hPW.2.2.2.2.1⟩) rfl (by decide) (hts (.classLink RL 21 IA) (tm 831 (by decide +kernel) rfl)) (va_Nw.use rfl hPW.1.2.1.2.1.2) hce1 hce2 hce3 ?_
    refine lv_astore (lv' := [(5, .ref q9), (0, .ref (ad 57)), (1, .int (nI j)), (2, .int x1), (3, .int x2), (4, .ref o)]) hx hb dL_compare_20 hl (by decide) rfl (fun ls hl => ?_)
    refine lv_iconst (v := nI 2) hx hb dL_compare_22 (by decide) ?_
    obtain ⟨n9, hN⟩ := hO
    exact W.widen (k := 1) (n := 6) (by simp) (by simp) (W.iret (v := nI 2) hx hb hr (fun t9 ht9 hW9 => ⟨⟨_, (S, n9), rfl, ⟨LQ_same hI h5, (Or.inr (Or.inl ⟨j, hj, rfl, hb9, rfl, rfl⟩))⟩, hX.P ht9 hW9, by rw [ht9]; exact hN⟩, hX.2.2.2.F ht9⟩) hX.2.2.2.2.2 dL_compare_23)
  replace hv : v < 16 := by omega
  rcases lim_le 15 (by decide) x2 with ⟨v2, hv2, rfl⟩ | hb9
  rotate_left
  · skip
    refine kl_throw (vx_runV (As := [.int (nI j), .int (nI v), .int x2]) (rest := [.ref o]) ⟨hx, hb, hml, hown, hts⟩ (t_X4_compare_3 l hst dC dI ad S j v x2 hj hv hb9) (cwV 3 hts gL_compare_X4_compare rfl rfl rfl hdX4_compare_3 ⟨Nat.le_of_ble_eq_true rfl, Nat.le_of_ble_eq_true rfl⟩) hPW.1.preX rfl rfl hl.1 rfl (lv_room (Nat.le_of_ble_eq_true rfl)) dL_compare_6 ⟨Nat.le_of_ble_eq_true rfl, Nat.le_of_ble_eq_true rfl⟩) hX hO (fun ce q9 H hce1 hce2 hce3 hX hO => ?_)
    refine vx_catch hown [⟨0, 13, 16, 19⟩] ⟨0, 13, 20, 21⟩ [] (htab.trans rfl) (fun z hz => by rw [List.mem_singleton.mp hz]; exact Or.inr ⟨by decide, IX, hts (.classLink RL 19 IX) (by decide +kernel), hPW.2.2.2.2.1⟩) rfl (by decide) (hts (.classLink RL 21 IA) (tm 831 (by decide +kernel) rfl)) (va_Nw.use rfl hPW.1.2.1.2.1.2) hce1 hce2 hce3 ?_
    refine lv_astore (lv' := [(5, .ref q9), (0, .ref (ad 57)), (1, .int (nI j)), (2, .int (nI v)), (3, .int x2), (4, .ref o)]) hx hb dL_compare_20 hl (by decide) rfl (fun ls hl => ?_)
    refine lv_iconst (v := nI 2) hx hb dL_compare_22 (by decide) ?_
    obtain ⟨n9, hN⟩ := hO
    exact W.widen (k := 1) (n := 6) (by simp) (by simp) (W.iret (v := nI 2) hx hb hr (fun t9 ht9 hW9 => ⟨⟨_, (S, n9), rfl, ⟨LQ_same hI h5, (Or.inr (Or.inr (Or.inl ⟨j, v, hj, hv, rfl, rfl, hb9, rfl, rfl⟩)))⟩, hX.P ht9 hW9, by rw [ht9]; exact hN⟩, hX.2.2.2.F ht9⟩) hX.2.2.2.2.2 dL_compare_23)
  replace hv2 : v2 < 16 := by omega
  refine kl_cr (va_runV (As := [.int (nI j), .int (nI v), .int (nI v2)]) (rest := [.ref o]) ⟨hx, hb, hml, hown, hts⟩ (m_X4_compare l dC dI ad S j v v2 hj hv hv2 hI) (cwV 3 hts gL_compare_X4_compare rfl rfl rfl hdX4_compare_3 ⟨Nat.le_of_ble_eq_true rfl, Nat.le_of_ble_eq_true rfl⟩) (hX.preTop 57 6 (by decide) (by decide) rfl rfl) rfl rfl hl.1 rfl (lv_room (Nat.le_of_ble_eq_true rfl)) dL_compare_6 ⟨Nat.le_of_ble_eq_true rfl, Nat.le_of_ble_eq_true rfl⟩) (fun r9 hw => ?_)
  refine lv_i2l (v := r9.toInt64) hx hb dL_compare_9 rfl ?_
  refine kl_putn hx hb hts hin5 hown hX hO hno (host := "OrderlatticeLaw") (va_Nw.use rfl hPW.2.2.2.2.2.1) dL_compare_10 (fun H locs hX hN => ?_)
  refine lv_goto (tgt := 24) hx hb dL_compare_13 (by decide) ?_
  refine lv_iconst (v := nI 0) hx hb dL_compare_24 (by decide) ?_
  exact W.widen (k := 1) (n := 6) (by simp) (by simp) (W.iret (v := nI 0) hx hb hr (fun t9 ht9 hW9 => ⟨⟨_, (S, r9.toInt64), rfl, ⟨LQ_same hI h5, (Or.inr (Or.inr (Or.inr ⟨j, v, v2, r9, hj, hv, hv2, rfl, rfl, rfl, rfl, rfl, hw, rfl⟩)))⟩, hX.P ht9 hW9, by rw [ht9]; exact hN⟩, hX.2.2.2.F ht9⟩) hX.2.2.2.2.2 dL_compare_25)
set_option maxHeartbeats 4000000 in
set_option maxRecDepth 100000 in
theorem m_L_both (l : Launch) (hst : l.stackTraces = false) (dC : Nat → ClassId) (dI : Nat → Nat → Nat) (cB : ClassId) (ad : Nat → Nat) (o : Nat) (S : XS) (x0 : Int32) (x1 : Int32) (x2 : Int32) (x3 : Int32) (hI : InvX S) (h5 : ∀ j, j < 4 → (S.2.1 j).2.2.2.2.1 ≤ 5) (hc : S.2.2.1 + 12 < 1000000) : Met l yL_both wsL_both ({ frames := 9, cells := 1, slots := 6, locals := 149 } : Room) (va_Pc [.ref (ad 57), .int x0, .int x1, .int x2, .int x3, .ref o] (PW dC dI cB ad o S)) (va_Qi (fun r (u : XS × Int64) => LQ S u.1 ∧ R_both x0 x1 x2 x3 S r u.1 u.2) (PO2 dC dI ad o) (AO ad o)) 1 6 (AO ad o) := by
  refine va_MetW (cc := cL_both) (maxL := 7) (ret := (some .int)) pl_L rfl ?_
  intro p e s m args below meth c s₁ B hml hv
  obtain ⟨rfl, hPW⟩ := hv
  have hx := B.exec
  have hb := B.bytes
  have hr := B.returns
  have hts := atoms_spec (ws := wsL_both) B.pre
  have htab := vx_table (x := yL_both) B (hts (.codeWith yL_both cL_both 7 (some .int) [(0, 15, 18, 19), (0, 15, 22, 21)]) (by unfold wsL_both; exact List.mem_cons_self))
  have hown : s.vm.findClass RL = some m.cls := findClass_of_methodNamed B.named
  have hlocks := B.notSynchronized
  have hin5 : ∀ w ∈ u_ws RX5 TX5 2, w ∈ wsL_both := tu 1332 (by decide +kernel) rfl
  have hX := WX.ofW hPW
  have hO := hPW.2.2.1
  have hno := hPW.2.2.2.1
  have hl := lv_entry ([.ref (ad 57), .int x0, .int x1, .int x2, .int x3, .ref o]) (n := 7) (Nat.le_of_ble_eq_true rfl)
  rw [lg_entry_eq]
  generalize (lg_sl ([.ref (ad 57), .int x0, .int x1, .int x2, .int x3, .ref o]) ++ List.replicate (7 - (lg_sl ([.ref (ad 57), .int x0, .int x1, .int x2, .int x3, .ref o])).length) Slot.unset).toArray = ls at hl ⊢
  have hl : lv_has ls 7 [(0, .ref (ad 57)), (1, .int x0), (2, .int x1), (3, .int x2), (4, .int x3), (5, .ref o)] := hl
  show W p l e ({ frames := 9, cells := 1, slots := 6, locals := 149 } : Room) s m ([.ref (ad 57), .int x0, .int x1, .int x2, .int x3, .ref o]).toArray below meth c s.heap [] 0 0 (MQ below (va_Qi (fun r (u : XS × Int64) => LQ S u.1 ∧ R_both x0 x1 x2 x3 S r u.1 u.2) (PO2 dC dI ad o) (AO ad o)) ([.ref (ad 57), .int x0, .int x1, .int x2, .int x3, .ref o]).toArray s 1 6 (AO ad o)) (F0 m 0 ls [])
  refine lv_aload hx hb dL_both_0 (lv_at hl 5 rfl) ?_
  refine lv_aload_n hx hb dL_both_2 rfl (lv_at hl 0 rfl) ?_
  refine lv_iload_n hx hb dL_both_3 rfl (lv_at hl 1 rfl) ?_
  refine lv_iload_n hx hb dL_both_4 rfl (lv_at hl 2 rfl) ?_
  refine lv_iload_n hx hb dL_both_5 rfl (lv_at hl 3 rfl) ?_
  refine lv_iload hx hb dL_both_6 (lv_at hl 4 rfl) ?_
  rcases lim_lt 4 (by decide) x0 with ⟨j, hj, rfl⟩ | hb9
  rotate_left
  · skip
    refine kl_throw (vx_runV (As := [.int x0, .int x1, .int x2, .int x3]) (rest := [.ref o]) ⟨hx, hb, hml, hown, hts⟩ (t_X4_both_1 l hst dC dI ad S x0 x1 x2 x3 hb9) (cwV 4 hts gL_both_X4_both rfl rfl rfl hdX4_both_4 ⟨Nat.le_of_ble_eq_true rfl, Nat.le_of_ble_eq_true rfl⟩) hPW.1.preX rfl rfl hl.1 rfl (lv_room (Nat.le_of_ble_eq_true rfl)) dL_both_8 ⟨Nat.le_of_ble_eq_true rfl, Nat.le_of_ble_eq_true rfl⟩) hX hO (fun ce q9 H hce1 hce2 hce3 hX hO => ?_)
    refine vx_catch hown [] ⟨0, 15, 18, 19⟩ [⟨0, 15, 22, 21⟩] (htab.trans rfl) (fun _ h => nomatch h) rfl (by decide) (hts (.classLink RL 19 IX) (tm 830 (by decide +kernel) rfl)) (va_Nw.use rfl hPW.1.2.1.2.1.1) hce1 hce2 hce3 ?_
    refine lv_astore (lv' := [(6, .ref q9), (0, .ref (ad 57)), (1, .int x0), (2, .int x1), (3, .int x2), (4, .int x3), (5, .ref o)]) hx hb dL_both_18 hl (by decide) rfl (fun ls hl => ?_)
    refine lv_iconst (v := nI 1) hx hb dL_both_20 (by decide) ?_
    obtain ⟨n9, hN⟩ := hO
    exact W.widen (k := 1) (n := 6) (by simp) (by simp) (W.iret (v := nI 1) hx hb hr (fun t9 ht9 hW9 => ⟨⟨_, (S, n9), rfl, ⟨LQ_same hI h5, (Or.inl ⟨hb9, rfl, rfl⟩)⟩, hX.P ht9 hW9, by rw [ht9]; exact hN⟩, hX.2.2.2.F ht9⟩) hX.2.2.2.2.2 dL_both_21)
  replace hj : j < 4 := by omega
  rcases lim_lt 4 (by decide) x1 with ⟨j2, hj2, rfl⟩ | hb9
  rotate_left
  · skip
    refine kl_throw (vx_runV (As := [.int (nI j), .int x1, .int x2, .int x3]) (rest := [.ref o]) ⟨hx, hb, hml, hown, hts⟩ (t_X4_both_2 l hst dC dI ad S j x1 x2 x3 hj hb9) (cwV 4 hts gL_both_X4_both rfl rfl rfl hdX4_both_4 ⟨Nat.le_of_ble_eq_true rfl, Nat.le_of_ble_eq_true rfl⟩) hPW.1.preX rfl rfl hl.1 rfl (lv_room (Nat.le_of_ble_eq_true rfl)) dL_both_8 ⟨Nat.le_of_ble_eq_true rfl, Nat.le_of_ble_eq_true rfl⟩) hX hO (fun ce q9 H hce1 hce2 hce3 hX hO => ?_)
    refine vx_catch hown [] ⟨0, 15, 18, 19⟩ [⟨0, 15, 22, 21⟩] (htab.trans rfl) (fun _ h => nomatch h) rfl (by decide) (hts (.classLink RL 19 IX) (tm 830 (by decide +kernel) rfl)) (va_Nw.use rfl hPW.1.2.1.2.1.1) hce1 hce2 hce3 ?_
    refine lv_astore (lv' := [(6, .ref q9), (0, .ref (ad 57)), (1, .int (nI j)), (2, .int x1), (3, .int x2), (4, .int x3), (5, .ref o)]) hx hb dL_both_18 hl (by decide) rfl (fun ls hl => ?_)
    refine lv_iconst (v := nI 1) hx hb dL_both_20 (by decide) ?_
    obtain ⟨n9, hN⟩ := hO
    exact W.widen (k := 1) (n := 6) (by simp) (by simp) (W.iret (v := nI 1) hx hb hr (fun t9 ht9 hW9 => ⟨⟨_, (S, n9), rfl, ⟨LQ_same hI h5, (Or.inr (Or.inl ⟨j, hj, rfl, hb9, rfl, rfl⟩))⟩, hX.P ht9 hW9, by rw [ht9]; exact hN⟩, hX.2.2.2.F ht9⟩) hX.2.2.2.2.2 dL_both_21)
  replace hj2 : j2 < 4 := by omega
  rcases lim_le 15 (by decide) x2 with ⟨v, hv, rfl⟩ | hb9
  rotate_left
  · skip
    refine kl_throw (vx_runV (As := [.int (nI j), .int (nI j2), .int x2, .int x3]) (rest := [.ref o]) ⟨hx, hb, hml, hown, hts⟩ (t_X4_both_3 l hst dC dI ad S j j2 x2 x3 hj hj2 hb9) (cwV 4 hts gL_both_X4_both rfl rfl rfl hdX4_both_4 ⟨Nat.le_of_ble_eq_true rfl, Nat.le_of_ble_eq_true rfl⟩) hPW.1.preX rfl rfl hl.1 rfl (lv_room (Nat.le_of_ble_eq_true rfl)) dL_both_8 ⟨Nat.le_of_ble_eq_true rfl, Nat.le_of_ble_eq_true rfl⟩) hX hO (fun ce q9 H hce1 hce2 hce3 hX hO => ?_)
    refine vx_catch hown [⟨0, 15, 18, 19⟩] ⟨0, 15, 22, 21⟩ [] (htab.trans rfl) (fun z hz => by rw [List.mem_singleton.mp hz]; exact Or.inr ⟨by decide, IX, hts (.classLink RL 19 IX) (by decide +kernel), hPW.2.2.2.2.1⟩) rfl (by decide) (hts (.classLink RL 21 IA) (tm 831 (by decide +kernel) rfl)) (va_Nw.use rfl hPW.1.2.1.2.1.2) hce1 hce2 hce3 ?_
    refine lv_astore (lv' := [(6, .ref q9), (0, .ref (ad 57)), (1, .int (nI j)), (2, .int (nI j2)), (3, .int x2), (4, .int x3), (5, .ref o)]) hx hb dL_both_22 hl (by decide) rfl (fun ls hl => ?_)
    refine lv_iconst (v := nI 2) hx hb dL_both_24 (by decide) ?_
    obtain ⟨n9, hN⟩ := hO
    exact W.widen (k := 1) (n := 6) (by simp) (by simp) (W.iret (v := nI 2) hx hb hr (fun t9 ht9 hW9 => ⟨⟨_, (S, n9), rfl, ⟨LQ_same hI h5, (Or.inr (Or.inr (Or.inl ⟨j, j2, hj, hj2, rfl, rfl, hb9, rfl, rfl⟩)))⟩, hX.P ht9 hW9, by rw [ht9]; exact hN⟩, hX.2.2.2.F ht9⟩) hX.2.2.2.2.2 dL_both_25)
  replace hv : v < 16 := by omega
  rcases lim_le 15 (by decide) x3 with ⟨v2, hv2, rfl⟩ | hb9
  rotate_left
  · skip
    refine kl_throw (vx_runV (As := [.int (nI j), .int (nI j2), .int (nI v), .int x3]) (rest := [.ref o]) ⟨hx, hb, hml, hown, hts⟩ (t_X4_both_4 l hst dC dI ad S j j2 v x3 hj hj2 hv hb9) (cwV 4 hts gL_both_X4_both rfl rfl rfl hdX4_both_4 ⟨Nat.le_of_ble_eq_true rfl, Nat.le_of_ble_eq_true rfl⟩) hPW.1.preX rfl rfl hl.1 rfl (lv_room (Nat.le_of_ble_eq_true rfl)) dL_both_8 ⟨Nat.le_of_ble_eq_true rfl, Nat.le_of_ble_eq_true rfl⟩) hX hO (fun ce q9 H hce1 hce2 hce3 hX hO => ?_)
    refine vx_catch hown [⟨0, 15, 18, 19⟩] ⟨0, 15, 22, 21⟩ [] (htab.trans rfl) (fun z hz => by rw [List.mem_singleton.mp hz]; exact Or.inr ⟨by decide, IX, hts (.classLink RL 19 IX) (by decide +kernel), hPW.2.2.2.2.1⟩) rfl (by decide) (hts (.classLink RL 21 IA) (tm 831 (by decide +kernel) rfl)) (va_Nw.use rfl hPW.1.2.1.2.1.2) hce1 hce2 hce3 ?_
    refine lv_astore (lv' := [(6, .ref q9), (0, .ref (ad 57)), (1, .int (nI j)), (2, .int (nI j2)), (3, .int (nI v)), (4, .int x3), (5, .ref o)]) hx hb dL_both_22 hl (by decide) rfl (fun ls hl => ?_)
    refine lv_iconst (v := nI 2) hx hb dL_both_24 (by decide) ?_
    obtain ⟨n9, hN⟩ := hO
    exact W.widen (k := 1) (n := 6) (by simp) (by simp) (W.iret (v := nI 2) hx hb hr (fun t9 ht9 hW9 => ⟨⟨_, (S, n9), rfl, ⟨LQ_same hI h5, (Or.inr (Or.inr (Or.inr (Or.inl ⟨j, j2, v, hj, hj2, hv, rfl, rfl, rfl, hb9, rfl, rfl⟩))))⟩, hX.P ht9 hW9, by rw [ht9]; exact hN⟩, hX.2.2.2.F ht9⟩) hX.2.2.2.2.2 dL_both_25)
  replace hv2 : v2 < 16 := by omega
  refine kl_cr (va_runV (As := [.int (nI j), .int (nI j2), .int (nI v), .int (nI v2)]) (rest := [.ref o]) ⟨hx, hb, hml, hown, hts⟩ (m_X4_both l dC dI ad S j j2 v v2 hj hj2 hv hv2 hI) (cwV 4 hts gL_both_X4_both rfl rfl rfl hdX4_both_4 ⟨Nat.le_of_ble_eq_true rfl, Nat.le_of_ble_eq_true rfl⟩) (hX.preTop 57 6 (by decide) (by decide) rfl rfl) rfl rfl hl.1 rfl (lv_room (Nat.le_of_ble_eq_true rfl)) dL_both_8 ⟨Nat.le_of_ble_eq_true rfl, Nat.le_of_ble_eq_true rfl⟩) (fun r9 hw => ?_)
  refine lv_i2l (v := r9.toInt64) hx hb dL_both_11 rfl ?_
  refine kl_putn hx hb hts hin5 hown hX hO hno (host := "OrderlatticeLaw") (va_Nw.use rfl hPW.2.2.2.2.2.1) dL_both_12 (fun H locs hX hN => ?_)
  refine lv_goto (tgt := 26) hx hb dL_both_15 (by decide) ?_
  refine lv_iconst (v := nI 0) hx hb dL_both_26 (by decide) ?_
  exact W.widen (k := 1) (n := 6) (by simp) (by simp) (W.iret (v := nI 0) hx hb hr (fun t9 ht9 hW9 => ⟨⟨_, (S, r9.toInt64), rfl, ⟨LQ_same hI h5, (Or.inr (Or.inr (Or.inr (Or.inr ⟨j, j2, v, v2, r9, hj, hj2, hv, hv2, rfl, rfl, rfl, rfl, rfl, rfl, hw, rfl⟩))))⟩, hX.P ht9 hW9, by rw [ht9]; exact hN⟩, hX.2.2.2.F ht9⟩) hX.2.2.2.2.2 dL_both_27)
set_option maxHeartbeats 4000000 in
set_option maxRecDepth 100000 in
theorem m_L_refines (l : Launch) (hst : l.stackTraces = false) (dC : Nat → ClassId) (dI : Nat → Nat → Nat) (cB : ClassId) (ad : Nat → Nat) (o : Nat) (S : XS) (x0 : Int32) (x1 : Int32) (hI : InvX S) (h5 : ∀ j, j < 4 → (S.2.1 j).2.2.2.2.1 ≤ 5) (hc : S.2.2.1 + 12 < 1000000) : Met l yL_refines wsL_refines ({ frames := 9, cells := 1, slots := 6, locals := 146 } : Room) (va_Pc [.ref (ad 57), .int x0, .int x1, .ref o] (PW dC dI cB ad o S)) (va_Qi (fun r (u : XS × Int64) => LQ S u.1 ∧ R_refines x0 x1 S r u.1 u.2) (PO2 dC dI ad o) (AO ad o)) 1 6 (AO ad o) := by
  refine va_MetW (cc := cL_refines) (maxL := 5) (ret := (some .int)) pl_L rfl ?_
  intro p e s m args below meth c s₁ B hml hv
  obtain ⟨rfl, hPW⟩ := hv
  have hx := B.exec
  have hb := B.bytes
  have hr := B.returns
  have hts := atoms_spec (ws := wsL_refines) B.pre
  have htab := vx_table (x := yL_refines) B (hts (.codeWith yL_refines cL_refines 5 (some .int) [(0, 18, 21, 19)]) (by unfold wsL_refines; exact List.mem_cons_self))
  have hown : s.vm.findClass RL = some m.cls := findClass_of_methodNamed B.named
  have hlocks := B.notSynchronized
  have hin5 : ∀ w ∈ u_ws RX5 TX5 2, w ∈ wsL_refines := tu 1332 (by decide +kernel) rfl
  have hX := WX.ofW hPW
  have hO := hPW.2.2.1
  have hno := hPW.2.2.2.1
  have hl := lv_entry ([.ref (ad 57), .int x0, .int x1, .ref o]) (n := 5) (Nat.le_of_ble_eq_true rfl)
  rw [lg_entry_eq]
  generalize (lg_sl ([.ref (ad 57), .int x0, .int x1, .ref o]) ++ List.replicate (5 - (lg_sl ([.ref (ad 57), .int x0, .int x1, .ref o])).length) Slot.unset).toArray = ls at hl ⊢
  have hl : lv_has ls 5 [(0, .ref (ad 57)), (1, .int x0), (2, .int x1), (3, .ref o)] := hl
  show W p l e ({ frames := 9, cells := 1, slots := 6, locals := 146 } : Room) s m ([.ref (ad 57), .int x0, .int x1, .ref o]).toArray below meth c s.heap [] 0 0 (MQ below (va_Qi (fun r (u : XS × Int64) => LQ S u.1 ∧ R_refines x0 x1 S r u.1 u.2) (PO2 dC dI ad o) (AO ad o)) ([.ref (ad 57), .int x0, .int x1, .ref o]).toArray s 1 6 (AO ad o)) (F0 m 0 ls [])
  refine lv_aload_n hx hb dL_refines_0 rfl (lv_at hl 3 rfl) ?_
  refine lv_aload_n hx hb dL_refines_1 rfl (lv_at hl 0 rfl) ?_
  refine lv_iload_n hx hb dL_refines_2 rfl (lv_at hl 1 rfl) ?_
  refine lv_iload_n hx hb dL_refines_3 rfl (lv_at hl 2 rfl) ?_
  rcases lim_lt 4 (by decide) x0 with ⟨j, hj, rfl⟩ | hb9
  rotate_left
  · skip
    refine kl_throw (vx_runV (As := [.int x0, .int x1]) (rest := [.ref o]) ⟨hx, hb, hml, hown, hts⟩ (t_X4_refines_1 l hst dC dI ad S x0 x1 hb9) (cwV 2 hts gL_refines_X4_refines rfl rfl rfl hdX4_refines_2 ⟨Nat.le_of_ble_eq_true rfl, Nat.le_of_ble_eq_true rfl⟩) hPW.1.preX rfl rfl hl.1 rfl (lv_room (Nat.le_of_ble_eq_true rfl)) dL_refines_4 ⟨Nat.le_of_ble_eq_true rfl, Nat.le_of_ble_eq_true rfl⟩) hX hO (fun ce q9 H hce1 hce2 hce3 hX hO => ?_)
    refine vx_catch hown [] ⟨0, 18, 21, 19⟩ [] (htab.trans rfl) (fun _ h => nomatch h) rfl (by decide) (hts (.classLink RL 19 IX) (tm 830 (by decide +kernel) rfl)) (va_Nw.use rfl hPW.1.2.1.2.1.1) hce1 hce2 hce3 ?_
    refine lv_astore (lv' := [(4, .ref q9), (0, .ref (ad 57)), (1, .int x0), (2, .int x1), (3, .ref o)]) hx hb dL_refines_21 hl (by decide) rfl (fun ls hl => ?_)
    refine lv_iconst (v := nI 1) hx hb dL_refines_23 (by decide) ?_
    obtain ⟨n9, hN⟩ := hO
    exact W.widen (k := 1) (n := 6) (by simp) (by simp) (W.iret (v := nI 1) hx hb hr (fun t9 ht9 hW9 => ⟨⟨_, (S, n9), rfl, ⟨LQ_same hI h5, (Or.inl ⟨hb9, rfl, rfl⟩)⟩, hX.P ht9 hW9, by rw [ht9]; exact hN⟩, hX.2.2.2.F ht9⟩) hX.2.2.2.2.2 dL_refines_24)
  replace hj : j < 4 := by omega
  rcases lim_lt 4 (by decide) x1 with ⟨j2, hj2, rfl⟩ | hb9
  rotate_left
  · skip
    refine kl_throw (vx_runV (As := [.int (nI j), .int x1]) (rest := [.ref o]) ⟨hx, hb, hml, hown, hts⟩ (t_X4_refines_2 l hst dC dI ad S j x1 hj hb9) (cwV 2 hts gL_refines_X4_refines rfl rfl rfl hdX4_refines_2 ⟨Nat.le_of_ble_eq_true rfl, Nat.le_of_ble_eq_true rfl⟩) hPW.1.preX rfl rfl hl.1 rfl (lv_room (Nat.le_of_ble_eq_true rfl)) dL_refines_4 ⟨Nat.le_of_ble_eq_true rfl, Nat.le_of_ble_eq_true rfl⟩) hX hO (fun ce q9 H hce1 hce2 hce3 hX hO => ?_)
    refine vx_catch hown [] ⟨0, 18, 21, 19⟩ [] (htab.trans rfl) (fun _ h => nomatch h) rfl (by decide) (hts (.classLink RL 19 IX) (tm 830 (by decide +kernel) rfl)) (va_Nw.use rfl hPW.1.2.1.2.1.1) hce1 hce2 hce3 ?_
    refine lv_astore (lv' := [(4, .ref q9), (0, .ref (ad 57)), (1, .int (nI j)), (2, .int x1), (3, .ref o)]) hx hb dL_refines_21 hl (by decide) rfl (fun ls hl => ?_)
    refine lv_iconst (v := nI 1) hx hb dL_refines_23 (by decide) ?_
    obtain ⟨n9, hN⟩ := hO
    exact W.widen (k := 1) (n := 6) (by simp) (by simp) (W.iret (v := nI 1) hx hb hr (fun t9 ht9 hW9 => ⟨⟨_, (S, n9), rfl, ⟨LQ_same hI h5, (Or.inr (Or.inl ⟨j, hj, rfl, hb9, rfl, rfl⟩))⟩, hX.P ht9 hW9, by rw [ht9]; exact hN⟩, hX.2.2.2.F ht9⟩) hX.2.2.2.2.2 dL_refines_24)
  replace hj2 : j2 < 4 := by omega
  refine kl_cr (va_runV (As := [.int (nI j), .int (nI j2)]) (rest := [.ref o]) ⟨hx, hb, hml, hown, hts⟩ (m_X4_refines l dC dI ad S j j2 hj hj2 hI) (cwV 2 hts gL_refines_X4_refines rfl rfl rfl hdX4_refines_2 ⟨Nat.le_of_ble_eq_true rfl, Nat.le_of_ble_eq_true rfl⟩) (hX.preTop 57 6 (by decide) (by decide) rfl rfl) rfl rfl hl.1 rfl (lv_room (Nat.le_of_ble_eq_true rfl)) dL_refines_4 ⟨Nat.le_of_ble_eq_true rfl, Nat.le_of_ble_eq_true rfl⟩) (fun r9 hw => ?_)
  refine lv_if_eq (tgt := 14) hx hb dL_refines_7 (by decide) (fun k_1 => ?_) (fun k_1 => ?_)
  · skip
    refine lv_lconst (v := lN 0) hx hb dL_refines_14 (by decide) ?_
    refine kl_putn hx hb hts hin5 hown hX hO hno (host := "OrderlatticeLaw") (va_Nw.use rfl hPW.2.2.2.2.2.1) dL_refines_15 (fun H locs hX hN => ?_)
    refine lv_goto (tgt := 25) hx hb dL_refines_18 (by decide) ?_
    refine lv_iconst (v := nI 0) hx hb dL_refines_25 (by decide) ?_
    exact W.widen (k := 1) (n := 6) (by simp) (by simp) (W.iret (v := nI 0) hx hb hr (fun t9 ht9 hW9 => ⟨⟨_, (S, lN 0), rfl, ⟨LQ_same hI h5, (Or.inr (Or.inr ⟨j, j2, r9, hj, hj2, rfl, rfl, rfl, (if_pos k_1).symm, hw, rfl⟩))⟩, hX.P ht9 hW9, by rw [ht9]; exact hN⟩, hX.2.2.2.F ht9⟩) hX.2.2.2.2.2 dL_refines_26)
  · skip
    refine lv_lconst (v := lN 1) hx hb dL_refines_10 (by decide) ?_
    refine lv_goto (tgt := 15) hx hb dL_refines_11 (by decide) ?_
    refine kl_putn hx hb hts hin5 hown hX hO hno (host := "OrderlatticeLaw") (va_Nw.use rfl hPW.2.2.2.2.2.1) dL_refines_15 (fun H locs hX hN => ?_)
    refine lv_goto (tgt := 25) hx hb dL_refines_18 (by decide) ?_
    refine lv_iconst (v := nI 0) hx hb dL_refines_25 (by decide) ?_
    exact W.widen (k := 1) (n := 6) (by simp) (by simp) (W.iret (v := nI 0) hx hb hr (fun t9 ht9 hW9 => ⟨⟨_, (S, lN 1), rfl, ⟨LQ_same hI h5, (Or.inr (Or.inr ⟨j, j2, r9, hj, hj2, rfl, rfl, rfl, (if_neg k_1).symm, hw, rfl⟩))⟩, hX.P ht9 hW9, by rw [ht9]; exact hN⟩, hX.2.2.2.F ht9⟩) hX.2.2.2.2.2 dL_refines_26)
set_option maxHeartbeats 4000000 in
set_option maxRecDepth 100000 in
theorem m_L_areSame (l : Launch) (hst : l.stackTraces = false) (dC : Nat → ClassId) (dI : Nat → Nat → Nat) (cB : ClassId) (ad : Nat → Nat) (o : Nat) (S : XS) (x0 : Int32) (x1 : Int32) (hI : InvX S) (h5 : ∀ j, j < 4 → (S.2.1 j).2.2.2.2.1 ≤ 5) (hc : S.2.2.1 + 12 < 1000000) : Met l yL_areSame wsL_areSame ({ frames := 9, cells := 1, slots := 6, locals := 146 } : Room) (va_Pc [.ref (ad 57), .int x0, .int x1, .ref o] (PW dC dI cB ad o S)) (va_Qi (fun r (u : XS × Int64) => LQ S u.1 ∧ R_areSame x0 x1 S r u.1 u.2) (PO2 dC dI ad o) (AO ad o)) 1 6 (AO ad o) := by
  refine va_MetW (cc := cL_areSame) (maxL := 5) (ret := (some .int)) pl_L rfl ?_
  intro p e s m args below meth c s₁ B hml hv
  obtain ⟨rfl, hPW⟩ := hv
  have hx := B.exec
  have hb := B.bytes
  have hr := B.returns
  have hts := atoms_spec (ws := wsL_areSame) B.pre
  have htab := vx_table (x := yL_areSame) B (hts (.codeWith yL_areSame cL_areSame 5 (some .int) [(0, 18, 21, 19)]) (by unfold wsL_areSame; exact List.mem_cons_self))
  have hown : s.vm.findClass RL = some m.cls := findClass_of_methodNamed B.named
  have hlocks := B.notSynchronized
  have hin5 : ∀ w ∈ u_ws RX5 TX5 2, w ∈ wsL_areSame := tu 1332 (by decide +kernel) rfl
  have hX := WX.ofW hPW
  have hO := hPW.2.2.1
  have hno := hPW.2.2.2.1
  have hl := lv_entry ([.ref (ad 57), .int x0, .int x1, .ref o]) (n := 5) (Nat.le_of_ble_eq_true rfl)
  rw [lg_entry_eq]
  generalize (lg_sl ([.ref (ad 57), .int x0, .int x1, .ref o]) ++ List.replicate (5 - (lg_sl ([.ref (ad 57), .int x0, .int x1, .ref o])).length) Slot.unset).toArray = ls at hl ⊢
  have hl : lv_has ls 5 [(0, .ref (ad 57)), (1, .int x0), (2, .int x1), (3, .ref o)] := hl
  show W p l e ({ frames := 9, cells := 1, slots := 6, locals := 146 } : Room) s m ([.ref (ad 57), .int x0, .int x1, .ref o]).toArray below meth c s.heap [] 0 0 (MQ below (va_Qi (fun r (u : XS × Int64) => LQ S u.1 ∧ R_areSame x0 x1 S r u.1 u.2) (PO2 dC dI ad o) (AO ad o)) ([.ref (ad 57), .int x0, .int x1, .ref o]).toArray s 1 6 (AO ad o)) (F0 m 0 ls [])
  refine lv_aload_n hx hb dL_areSame_0 rfl (lv_at hl 3 rfl) ?_
  refine lv_aload_n hx hb dL_areSame_1 rfl (lv_at hl 0 rfl) ?_
  refine lv_iload_n hx hb dL_areSame_2 rfl (lv_at hl 1 rfl) ?_
  refine lv_iload_n hx hb dL_areSame_3 rfl (lv_at hl 2 rfl) ?_
  rcases lim_lt 4 (by decide) x0 with ⟨j, hj, rfl⟩ | hb9
  rotate_left
  · skip
    refine kl_throw (vx_runV (As := [.int x0, .int x1]) (rest := [.ref o]) ⟨hx, hb, hml, hown, hts⟩ (t_X4_areSame_1 l hst dC dI ad S x0 x1 hb9) (cwV 2 hts gL_areSame_X4_areSame rfl rfl rfl hdX4_areSame_2 ⟨Nat.le_of_ble_eq_true rfl, Nat.le_of_ble_eq_true rfl⟩) hPW.1.preX rfl rfl hl.1 rfl (lv_room (Nat.le_of_ble_eq_true rfl)) dL_areSame_4 ⟨Nat.le_of_ble_eq_true rfl, Nat.le_of_ble_eq_true rfl⟩) hX hO (fun ce q9 H hce1 hce2 hce3 hX hO => ?_)
    refine vx_catch hown [] ⟨0, 18, 21, 19⟩ [] (htab.trans rfl) (fun _ h => nomatch h) rfl (by decide) (hts (.classLink RL 19 IX) (tm 830 (by decide +kernel) rfl)) (va_Nw.use rfl hPW.1.2.1.2.1.1) hce1 hce2 hce3 ?_
    refine lv_astore (lv' := [(4, .ref q9), (0, .ref (ad 57)), (1, .int x0), (2, .int x1), (3, .ref o)]) hx hb dL_areSame_21 hl (by decide) rfl (fun ls hl => ?_)
    refine lv_iconst (v := nI 1) hx hb dL_areSame_23 (by decide) ?_
    obtain ⟨n9, hN⟩ := hO
    exact W.widen (k := 1) (n := 6) (by simp) (by simp) (W.iret (v := nI 1) hx hb hr (fun t9 ht9 hW9 => ⟨⟨_, (S, n9), rfl, ⟨LQ_same hI h5, (Or.inl ⟨hb9, rfl, rfl⟩)⟩, hX.P ht9 hW9, by rw [ht9]; exact hN⟩, hX.2.2.2.F ht9⟩) hX.2.2.2.2.2 dL_areSame_24)
  replace hj : j < 4 := by omega
  rcases lim_lt 4 (by decide) x1 with ⟨j2, hj2, rfl⟩ | hb9
  rotate_left
  · skip
    refine kl_throw (vx_runV (As := [.int (nI j), .int x1]) (rest := [.ref o]) ⟨hx, hb, hml, hown, hts⟩ (t_X4_areSame_2 l hst dC dI ad S j x1 hj hb9) (cwV 2 hts gL_areSame_X4_areSame rfl rfl rfl hdX4_areSame_2 ⟨Nat.le_of_ble_eq_true rfl, Nat.le_of_ble_eq_true rfl⟩) hPW.1.preX rfl rfl hl.1 rfl (lv_room (Nat.le_of_ble_eq_true rfl)) dL_areSame_4 ⟨Nat.le_of_ble_eq_true rfl, Nat.le_of_ble_eq_true rfl⟩) hX hO (fun ce q9 H hce1 hce2 hce3 hX hO => ?_)
    refine vx_catch hown [] ⟨0, 18, 21, 19⟩ [] (htab.trans rfl) (fun _ h => nomatch h) rfl (by decide) (hts (.classLink RL 19 IX) (tm 830 (by decide +kernel) rfl)) (va_Nw.use rfl hPW.1.2.1.2.1.1) hce1 hce2 hce3 ?_
    refine lv_astore (lv' := [(4, .ref q9), (0, .ref (ad 57)), (1, .int (nI j)), (2, .int x1), (3, .ref o)]) hx hb dL_areSame_21 hl (by decide) rfl (fun ls hl => ?_)
    refine lv_iconst (v := nI 1) hx hb dL_areSame_23 (by decide) ?_
    obtain ⟨n9, hN⟩ := hO
    exact W.widen (k := 1) (n := 6) (by simp) (by simp) (W.iret (v := nI 1) hx hb hr (fun t9 ht9 hW9 => ⟨⟨_, (S, n9), rfl, ⟨LQ_same hI h5, (Or.inr (Or.inl ⟨j, hj, rfl, hb9, rfl, rfl⟩))⟩, hX.P ht9 hW9, by rw [ht9]; exact hN⟩, hX.2.2.2.F ht9⟩) hX.2.2.2.2.2 dL_areSame_24)
  replace hj2 : j2 < 4 := by omega
  refine kl_cr (va_runV (As := [.int (nI j), .int (nI j2)]) (rest := [.ref o]) ⟨hx, hb, hml, hown, hts⟩ (m_X4_areSame l dC dI ad S j j2 hj hj2 hI) (cwV 2 hts gL_areSame_X4_areSame rfl rfl rfl hdX4_areSame_2 ⟨Nat.le_of_ble_eq_true rfl, Nat.le_of_ble_eq_true rfl⟩) (hX.preTop 57 6 (by decide) (by decide) rfl rfl) rfl rfl hl.1 rfl (lv_room (Nat.le_of_ble_eq_true rfl)) dL_areSame_4 ⟨Nat.le_of_ble_eq_true rfl, Nat.le_of_ble_eq_true rfl⟩) (fun r9 hw => ?_)
  refine lv_if_eq (tgt := 14) hx hb dL_areSame_7 (by decide) (fun k_1 => ?_) (fun k_1 => ?_)
  · skip
    refine lv_lconst (v := lN 0) hx hb dL_areSame_14 (by decide) ?_
    refine kl_putn hx hb hts hin5 hown hX hO hno (host := "OrderlatticeLaw") (va_Nw.use rfl hPW.2.2.2.2.2.1) dL_areSame_15 (fun H locs hX hN => ?_)
    refine lv_goto (tgt := 25) hx hb dL_areSame_18 (by decide) ?_
    refine lv_iconst (v := nI 0) hx hb dL_areSame_25 (by decide) ?_
    exact W.widen (k := 1) (n := 6) (by simp) (by simp) (W.iret (v := nI 0) hx hb hr (fun t9 ht9 hW9 => ⟨⟨_, (S, lN 0), rfl, ⟨LQ_same hI h5, (Or.inr (Or.inr ⟨j, j2, r9, hj, hj2, rfl, rfl, rfl, (if_pos k_1).symm, hw, rfl⟩))⟩, hX.P ht9 hW9, by rw [ht9]; exact hN⟩, hX.2.2.2.F ht9⟩) hX.2.2.2.2.2 dL_areSame_26)
  · skip
    refine lv_lconst (v := lN 1) hx hb dL_areSame_10 (by decide) ?_
    refine lv_goto (tgt := 15) hx hb dL_areSame_11 (by decide) ?_
    refine kl_putn hx hb hts hin5 hown hX hO hno (host := "OrderlatticeLaw") (va_Nw.use rfl hPW.2.2.2.2.2.1) dL_areSame_15 (fun H locs hX hN => ?_)
    refine lv_goto (tgt := 25) hx hb dL_areSame_18 (by decide) ?_
    refine lv_iconst (v := nI 0) hx hb dL_areSame_25 (by decide) ?_
    exact W.widen (k := 1) (n := 6) (by simp) (by simp) (W.iret (v := nI 0) hx hb hr (fun t9 ht9 hW9 => ⟨⟨_, (S, lN 1), rfl, ⟨LQ_same hI h5, (Or.inr (Or.inr ⟨j, j2, r9, hj, hj2, rfl, rfl, rfl, (if_neg k_1).symm, hw, rfl⟩))⟩, hX.P ht9 hW9, by rw [ht9]; exact hN⟩, hX.2.2.2.F ht9⟩) hX.2.2.2.2.2 dL_areSame_26)
set_option maxHeartbeats 4000000 in
set_option maxRecDepth 100000 in
theorem m_L_apart (l : Launch) (hst : l.stackTraces = false) (dC : Nat → ClassId) (dI : Nat → Nat → Nat) (cB : ClassId) (ad : Nat → Nat) (o : Nat) (S : XS) (x0 : Int32) (x1 : Int32) (hI : InvX S) (h5 : ∀ j, j < 4 → (S.2.1 j).2.2.2.2.1 ≤ 5) (hc : S.2.2.1 + 12 < 1000000) : Met l yL_apart wsL_apart ({ frames := 9, cells := 1, slots := 6, locals := 146 } : Room) (va_Pc [.ref (ad 57), .int x0, .int x1, .ref o] (PW dC dI cB ad o S)) (va_Qi (fun r (u : XS × Int64) => LQ S u.1 ∧ R_apart x0 x1 S r u.1 u.2) (PO2 dC dI ad o) (AO ad o)) 1 6 (AO ad o) := by
  refine va_MetW (cc := cL_apart) (maxL := 5) (ret := (some .int)) pl_L rfl ?_
  intro p e s m args below meth c s₁ B hml hv
  obtain ⟨rfl, hPW⟩ := hv
  have hx := B.exec
  have hb := B.bytes
  have hr := B.returns
  have hts := atoms_spec (ws := wsL_apart) B.pre
  have htab := vx_table (x := yL_apart) B (hts (.codeWith yL_apart cL_apart 5 (some .int) [(0, 11, 14, 19)]) (by unfold wsL_apart; exact List.mem_cons_self))
  have hown : s.vm.findClass RL = some m.cls := findClass_of_methodNamed B.named
  have hlocks := B.notSynchronized
  have hin5 : ∀ w ∈ u_ws RX5 TX5 2, w ∈ wsL_apart := tu 1332 (by decide +kernel) rfl
  have hX := WX.ofW hPW
  have hO := hPW.2.2.1
  have hno := hPW.2.2.2.1
  have hl := lv_entry ([.ref (ad 57), .int x0, .int x1, .ref o]) (n := 5) (Nat.le_of_ble_eq_true rfl)
  rw [lg_entry_eq]
  generalize (lg_sl ([.ref (ad 57), .int x0, .int x1, .ref o]) ++ List.replicate (5 - (lg_sl ([.ref (ad 57), .int x0, .int x1, .ref o])).length) Slot.unset).toArray = ls at hl ⊢
  have hl : lv_has ls 5 [(0, .ref (ad 57)), (1, .int x0), (2, .int x1), (3, .ref o)] := hl
  show W p l e ({ frames := 9, cells := 1, slots := 6, locals := 146 } : Room) s m ([.ref (ad 57), .int x0, .int x1, .ref o]).toArray below meth c s.heap [] 0 0 (MQ below (va_Qi (fun r (u : XS × Int64) => LQ S u.1 ∧ R_apart x0 x1 S r u.1 u.2) (PO2 dC dI ad o) (AO ad o)) ([.ref (ad 57), .int x0, .int x1, .ref o]).toArray s 1 6 (AO ad o)) (F0 m 0 ls [])
  refine lv_aload_n hx hb dL_apart_0 rfl (lv_at hl 3 rfl) ?_
  refine lv_aload_n hx hb dL_apart_1 rfl (lv_at hl 0 rfl) ?_
  refine lv_iload_n hx hb dL_apart_2 rfl (lv_at hl 1 rfl) ?_
  refine lv_iload_n hx hb dL_apart_3 rfl (lv_at hl 2 rfl) ?_
  rcases lim_lt 4 (by decide) x0 with ⟨j, hj, rfl⟩ | hb9
  rotate_left
  · skip
    refine kl_throw (vx_runV (As := [.int x0, .int x1]) (rest := [.ref o]) ⟨hx, hb, hml, hown, hts⟩ (t_X4_apart_1 l hst dC dI ad S x0 x1 hb9) (cwV 2 hts gL_apart_X4_apart rfl rfl rfl hdX4_apart_2 ⟨Nat.le_of_ble_eq_true rfl, Nat.le_of_ble_eq_true rfl⟩) hPW.1.preX rfl rfl hl.1 rfl (lv_room (Nat.le_of_ble_eq_true rfl)) dL_apart_4 ⟨Nat.le_of_ble_eq_true rfl, Nat.le_of_ble_eq_true rfl⟩) hX hO (fun ce q9 H hce1 hce2 hce3 hX hO => ?_)
    refine vx_catch hown [] ⟨0, 11, 14, 19⟩ [] (htab.trans rfl) (fun _ h => nomatch h) rfl (by decide) (hts (.classLink RL 19 IX) (tm 830 (by decide +kernel) rfl)) (va_Nw.use rfl hPW.1.2.1.2.1.1) hce1 hce2 hce3 ?_
    refine lv_astore (lv' := [(4, .ref q9), (0, .ref (ad 57)), (1, .int x0), (2, .int x1), (3, .ref o)]) hx hb dL_apart_14 hl (by decide) rfl (fun ls hl => ?_)
    refine lv_iconst (v := nI 1) hx hb dL_apart_16 (by decide) ?_
    obtain ⟨n9, hN⟩ := hO
    exact W.widen (k := 1) (n := 6) (by simp) (by simp) (W.iret (v := nI 1) hx hb hr (fun t9 ht9 hW9 => ⟨⟨_, (S, n9), rfl, ⟨LQ_same hI h5, (Or.inl ⟨hb9, rfl, rfl⟩)⟩, hX.P ht9 hW9, by rw [ht9]; exact hN⟩, hX.2.2.2.F ht9⟩) hX.2.2.2.2.2 dL_apart_17)
  replace hj : j < 4 := by omega
  rcases lim_lt 4 (by decide) x1 with ⟨j2, hj2, rfl⟩ | hb9
  rotate_left
  · skip
    refine kl_throw (vx_runV (As := [.int (nI j), .int x1]) (rest := [.ref o]) ⟨hx, hb, hml, hown, hts⟩ (t_X4_apart_2 l hst dC dI ad S j x1 hj hb9) (cwV 2 hts gL_apart_X4_apart rfl rfl rfl hdX4_apart_2 ⟨Nat.le_of_ble_eq_true rfl, Nat.le_of_ble_eq_true rfl⟩) hPW.1.preX rfl rfl hl.1 rfl (lv_room (Nat.le_of_ble_eq_true rfl)) dL_apart_4 ⟨Nat.le_of_ble_eq_true rfl, Nat.le_of_ble_eq_true rfl⟩) hX hO (fun ce q9 H hce1 hce2 hce3 hX hO => ?_)
    refine vx_catch hown [] ⟨0, 11, 14, 19⟩ [] (htab.trans rfl) (fun _ h => nomatch h) rfl (by decide) (hts (.classLink RL 19 IX) (tm 830 (by decide +kernel) rfl)) (va_Nw.use rfl hPW.1.2.1.2.1.1) hce1 hce2 hce3 ?_
    refine lv_astore (lv' := [(4, .ref q9), (0, .ref (ad 57)), (1, .int (nI j)), (2, .int x1), (3, .ref o)]) hx hb dL_apart_14 hl (by decide) rfl (fun ls hl => ?_)
    refine lv_iconst (v := nI 1) hx hb dL_apart_16 (by decide) ?_
    obtain ⟨n9, hN⟩ := hO
    exact W.widen (k := 1) (n := 6) (by simp) (by simp) (W.iret (v := nI 1) hx hb hr (fun t9 ht9 hW9 => ⟨⟨_, (S, n9), rfl, ⟨LQ_same hI h5, (Or.inr (Or.inl ⟨j, hj, rfl, hb9, rfl, rfl⟩))⟩, hX.P ht9 hW9, by rw [ht9]; exact hN⟩, hX.2.2.2.F ht9⟩) hX.2.2.2.2.2 dL_apart_17)
  replace hj2 : j2 < 4 := by omega
  refine kl_cr (va_runV (As := [.int (nI j), .int (nI j2)]) (rest := [.ref o]) ⟨hx, hb, hml, hown, hts⟩ (m_X4_apart l dC dI ad S j j2 hj hj2 hI) (cwV 2 hts gL_apart_X4_apart rfl rfl rfl hdX4_apart_2 ⟨Nat.le_of_ble_eq_true rfl, Nat.le_of_ble_eq_true rfl⟩) (hX.preTop 57 6 (by decide) (by decide) rfl rfl) rfl rfl hl.1 rfl (lv_room (Nat.le_of_ble_eq_true rfl)) dL_apart_4 ⟨Nat.le_of_ble_eq_true rfl, Nat.le_of_ble_eq_true rfl⟩) (fun r9 hw => ?_)
  refine lv_i2l (v := r9.toInt64) hx hb dL_apart_7 rfl ?_
  refine kl_putn hx hb hts hin5 hown hX hO hno (host := "OrderlatticeLaw") (va_Nw.use rfl hPW.2.2.2.2.2.1) dL_apart_8 (fun H locs hX hN => ?_)
  refine lv_goto (tgt := 18) hx hb dL_apart_11 (by decide) ?_
  refine lv_iconst (v := nI 0) hx hb dL_apart_18 (by decide) ?_
  exact W.widen (k := 1) (n := 6) (by simp) (by simp) (W.iret (v := nI 0) hx hb hr (fun t9 ht9 hW9 => ⟨⟨_, (S, r9.toInt64), rfl, ⟨LQ_same hI h5, (Or.inr (Or.inr ⟨j, j2, r9, hj, hj2, rfl, rfl, rfl, rfl, hw, rfl⟩))⟩, hX.P ht9 hW9, by rw [ht9]; exact hN⟩, hX.2.2.2.F ht9⟩) hX.2.2.2.2.2 dL_apart_19)
set_option maxHeartbeats 4000000 in
set_option maxRecDepth 100000 in
theorem m_L_classes (l : Launch) (hst : l.stackTraces = false) (dC : Nat → ClassId) (dI : Nat → Nat → Nat) (cB : ClassId) (ad : Nat → Nat) (o : Nat) (S : XS) (x0 : Int32) (hI : InvX S) (h5 : ∀ j, j < 4 → (S.2.1 j).2.2.2.2.1 ≤ 5) (hc : S.2.2.1 + 12 < 1000000) : Met l yL_classes wsL_classes ({ frames := 9, cells := 1, slots := 6, locals := 144 } : Room) (va_Pc [.ref (ad 57), .int x0, .ref o] (PW dC dI cB ad o S)) (va_Qi (fun r (u : XS × Int64) => LQ S u.1 ∧ R_classes x0 S r u.1 u.2) (PO2 dC dI ad o) (AO ad o)) 1 6 (AO ad o) := by
  refine va_MetW (cc := cL_classes) (maxL := 4) (ret := (some .int)) pl_L rfl ?_
  intro p e s m args below meth c s₁ B hml hv
  obtain ⟨rfl, hPW⟩ := hv
  have hx := B.exec
  have hb := B.bytes
  have hr := B.returns
  have hts := atoms_spec (ws := wsL_classes) B.pre
  have htab := vx_table (x := yL_classes) B (hts (.codeWith yL_classes cL_classes 4 (some .int) [(0, 10, 13, 19)]) (by unfold wsL_classes; exact List.mem_cons_self))
  have hown : s.vm.findClass RL = some m.cls := findClass_of_methodNamed B.named
  have hlocks := B.notSynchronized
  have hin5 : ∀ w ∈ u_ws RX5 TX5 2, w ∈ wsL_classes := tu 1332 (by decide +kernel) rfl
  have hX := WX.ofW hPW
  have hO := hPW.2.2.1
  have hno := hPW.2.2.2.1
  have hl := lv_entry ([.ref (ad 57), .int x0, .ref o]) (n := 4) (Nat.le_of_ble_eq_true rfl)
  rw [lg_entry_eq]
  generalize (lg_sl ([.ref (ad 57), .int x0, .ref o]) ++ List.replicate (4 - (lg_sl ([.ref (ad 57), .int x0, .ref o])).length) Slot.unset).toArray = ls at hl ⊢
  have hl : lv_has ls 4 [(0, .ref (ad 57)), (1, .int x0), (2, .ref o)] := hl
  show W p l e ({ frames := 9, cells := 1, slots := 6, locals := 144 } : Room) s m ([.ref (ad 57), .int x0, .ref o]).toArray below meth c s.heap [] 0 0 (MQ below (va_Qi (fun r (u : XS × Int64) => LQ S u.1 ∧ R_classes x0 S r u.1 u.2) (PO2 dC dI ad o) (AO ad o)) ([.ref (ad 57), .int x0, .ref o]).toArray s 1 6 (AO ad o)) (F0 m 0 ls [])
  refine lv_aload_n hx hb dL_classes_0 rfl (lv_at hl 2 rfl) ?_
  refine lv_aload_n hx hb dL_classes_1 rfl (lv_at hl 0 rfl) ?_
  refine lv_iload_n hx hb dL_classes_2 rfl (lv_at hl 1 rfl) ?_
  rcases lim_lt 4 (by decide) x0 with ⟨j, hj, rfl⟩ | hb9
  rotate_left
  · skip
    refine kl_throw (vx_runV (As := [.int x0]) (rest := [.ref o]) ⟨hx, hb, hml, hown, hts⟩ (t_X4_classes_1 l hst dC dI ad S x0 hb9) (cwV 1 hts gL_classes_X4_classes rfl rfl rfl hdX4_classes_1 ⟨Nat.le_of_ble_eq_true rfl, Nat.le_of_ble_eq_true rfl⟩) hPW.1.preX rfl rfl hl.1 rfl (lv_room (Nat.le_of_ble_eq_true rfl)) dL_classes_3 ⟨Nat.le_of_ble_eq_true rfl, Nat.le_of_ble_eq_true rfl⟩) hX hO (fun ce q9 H hce1 hce2 hce3 hX hO => ?_)
    refine vx_catch hown [] ⟨0, 10, 13, 19⟩ [] (htab.trans rfl) (fun _ h => nomatch h) rfl (by decide) (hts (.classLink RL 19 IX) (tm 830 (by decide +kernel) rfl)) (va_Nw.use rfl hPW.1.2.1.2.1.1) hce1 hce2 hce3 ?_
    refine lv_astore_n (lv' := [(3, .ref q9), (0, .ref (ad 57)), (1, .int x0), (2, .ref o)]) hx hb dL_classes_13 rfl hl (by decide) rfl (fun ls hl => ?_)
    refine lv_iconst (v := nI 1) hx hb dL_classes_14 (by decide) ?_
    obtain ⟨n9, hN⟩ := hO
    exact W.widen (k := 1) (n := 6) (by simp) (by simp) (W.iret (v := nI 1) hx hb hr (fun t9 ht9 hW9 => ⟨⟨_, (S, n9), rfl, ⟨LQ_same hI h5, (Or.inl ⟨hb9, rfl, rfl⟩)⟩, hX.P ht9 hW9, by rw [ht9]; exact hN⟩, hX.2.2.2.F ht9⟩) hX.2.2.2.2.2 dL_classes_15)
  replace hj : j < 4 := by omega
  refine kl_cr (va_runV (As := [.int (nI j)]) (rest := [.ref o]) ⟨hx, hb, hml, hown, hts⟩ (m_X4_classes l dC dI ad S j hj hI) (cwV 1 hts gL_classes_X4_classes rfl rfl rfl hdX4_classes_1 ⟨Nat.le_of_ble_eq_true rfl, Nat.le_of_ble_eq_true rfl⟩) (hX.preTop 57 6 (by decide) (by decide) rfl rfl) rfl rfl hl.1 rfl (lv_room (Nat.le_of_ble_eq_true rfl)) dL_classes_3 ⟨Nat.le_of_ble_eq_true rfl, Nat.le_of_ble_eq_true rfl⟩) (fun r9 hw => ?_)
  refine lv_i2l (v := r9.toInt64) hx hb dL_classes_6 rfl ?_
  refine kl_putn hx hb hts hin5 hown hX hO hno (host := "OrderlatticeLaw") (va_Nw.use rfl hPW.2.2.2.2.2.1) dL_classes_7 (fun H locs hX hN => ?_)
  refine lv_goto (tgt := 16) hx hb dL_classes_10 (by decide) ?_
  refine lv_iconst (v := nI 0) hx hb dL_classes_16 (by decide) ?_
  exact W.widen (k := 1) (n := 6) (by simp) (by simp) (W.iret (v := nI 0) hx hb hr (fun t9 ht9 hW9 => ⟨⟨_, (S, r9.toInt64), rfl, ⟨LQ_same hI h5, (Or.inr ⟨j, r9, hj, rfl, rfl, rfl, hw, rfl⟩)⟩, hX.P ht9 hW9, by rw [ht9]; exact hN⟩, hX.2.2.2.F ht9⟩) hX.2.2.2.2.2 dL_classes_17)
set_option maxHeartbeats 4000000 in
set_option maxRecDepth 100000 in
theorem m_L_rank (l : Launch) (hst : l.stackTraces = false) (dC : Nat → ClassId) (dI : Nat → Nat → Nat) (cB : ClassId) (ad : Nat → Nat) (o : Nat) (S : XS) (x0 : Int32) (x1 : Int32) (hI : InvX S) (h5 : ∀ j, j < 4 → (S.2.1 j).2.2.2.2.1 ≤ 5) (hc : S.2.2.1 + 12 < 1000000) : Met l yL_rank wsL_rank ({ frames := 9, cells := 1, slots := 6, locals := 146 } : Room) (va_Pc [.ref (ad 57), .int x0, .int x1, .ref o] (PW dC dI cB ad o S)) (va_Qi (fun r (u : XS × Int64) => LQ S u.1 ∧ R_rank x0 x1 S r u.1 u.2) (PO2 dC dI ad o) (AO ad o)) 1 6 (AO ad o) := by
  refine va_MetW (cc := cL_rank) (maxL := 5) (ret := (some .int)) pl_L rfl ?_
  intro p e s m args below meth c s₁ B hml hv
  obtain ⟨rfl, hPW⟩ := hv
  have hx := B.exec
  have hb := B.bytes
  have hr := B.returns
  have hts := atoms_spec (ws := wsL_rank) B.pre
  have htab := vx_table (x := yL_rank) B (hts (.codeWith yL_rank cL_rank 5 (some .int) [(0, 11, 14, 19), (0, 11, 18, 21)]) (by unfold wsL_rank; exact List.mem_cons_self))
  have hown : s.vm.findClass RL = some m.cls := findClass_of_methodNamed B.named
  have hlocks := B.notSynchronized
  have hin5 : ∀ w ∈ u_ws RX5 TX5 2, w ∈ wsL_rank := tu 1332 (by decide +kernel) rfl
  have hX := WX.ofW hPW
  have hO := hPW.2.2.1
  have hno := hPW.2.2.2.1
  have hl := lv_entry ([.ref (ad 57), .int x0, .int x1, .ref o]) (n := 5) (Nat.le_of_ble_eq_true rfl)
  rw [lg_entry_eq]
  generalize (lg_sl ([.ref (ad 57), .int x0, .int x1, .ref o]) ++ List.replicate (5 - (lg_sl ([.ref (ad 57), .int x0, .int x1, .ref o])).length) Slot.unset).toArray = ls at hl ⊢
  have hl : lv_has ls 5 [(0, .ref (ad 57)), (1, .int x0), (2, .int x1), (3, .ref o)] := hl
  show W p l e ({ frames := 9, cells := 1, slots := 6, locals := 146 } : Room) s m ([.ref (ad 57), .int x0, .int x1, .ref o]).toArray below meth c s.heap [] 0 0 (MQ below (va_Qi (fun r (u : XS × Int64) => LQ S u.1 ∧ R_rank x0 x1 S r u.1 u.2) (PO2 dC dI ad o) (AO ad o)) ([.ref (ad 57), .int x0, .int x1, .ref o]).toArray s 1 6 (AO ad o)) (F0 m 0 ls [])
  refine lv_aload_n hx hb dL_rank_0 rfl (lv_at hl 3 rfl) ?_
  refine lv_aload_n hx hb dL_rank_1 rfl (lv_at hl 0 rfl) ?_
  refine lv_iload_n hx hb dL_rank_2 rfl (lv_at hl 1 rfl) ?_
  refine lv_iload_n hx hb dL_rank_3 rfl (lv_at hl 2 rfl) ?_
  rcases lim_lt 4 (by decide) x0 with ⟨j, hj, rfl⟩ | hb9
  rotate_left
  · skip
    refine kl_throw (vx_runV (As := [.int x0, .int x1]) (rest := [.ref o]) ⟨hx, hb, hml, hown, hts⟩ (t_X4_rank_1 l hst dC dI ad S x0 x1 hb9) (cwV 2 hts gL_rank_X4_rank rfl rfl rfl hdX4_rank_2 ⟨Nat.le_of_ble_eq_true rfl, Nat.le_of_ble_eq_true rfl⟩) hPW.1.preX rfl rfl hl.1 rfl (lv_room (Nat.le_of_ble_eq_true rfl)) dL_rank_4 ⟨Nat.le_of_ble_eq_true rfl, Nat.le_of_ble_eq_true rfl⟩) hX hO (fun ce q9 H hce1 hce2 hce3 hX hO => ?_)
    refine vx_catch hown [] ⟨0, 11, 14, 19⟩ [⟨0, 11, 18, 21⟩] (htab.trans rfl) (fun _ h => nomatch h) rfl (by decide) (hts (.classLink RL 19 IX) (tm 830 (by decide +kernel) rfl)) (va_Nw.use rfl hPW.1.2.1.2.1.1) hce1 hce2 hce3 ?_
    refine lv_astore (lv' := [(4, .ref q9), (0, .ref (ad 57)), (1, .int x0), (2, .int x1), (3, .ref o)]) hx hb dL_rank_14 hl (by decide) rfl (fun ls hl => ?_)
    refine lv_iconst (v := nI 1) hx hb dL_rank_16 (by decide) ?_
    obtain ⟨n9, hN⟩ := hO
    exact W.widen (k := 1) (n := 6) (by simp) (by simp) (W.iret (v := nI 1) hx hb hr (fun t9 ht9 hW9 => ⟨⟨_, (S, n9), rfl, ⟨LQ_same hI h5, (Or.inl ⟨hb9, rfl, rfl⟩)⟩, hX.P ht9 hW9, by rw [ht9]; exact hN⟩, hX.2.2.2.F ht9⟩) hX.2.2.2.2.2 dL_rank_17)
  replace hj : j < 4 := by omega
  rcases lim_le 15 (by decide) x1 with ⟨v, hv, rfl⟩ | hb9
  rotate_left
  · skip
    refine kl_throw (vx_runV (As := [.int (nI j), .int x1]) (rest := [.ref o]) ⟨hx, hb, hml, hown, hts⟩ (t_X4_rank_2 l hst dC dI ad S j x1 hj hb9) (cwV 2 hts gL_rank_X4_rank rfl rfl rfl hdX4_rank_2 ⟨Nat.le_of_ble_eq_true rfl, Nat.le_of_ble_eq_true rfl⟩) hPW.1.preX rfl rfl hl.1 rfl (lv_room (Nat.le_of_ble_eq_true rfl)) dL_rank_4 ⟨Nat.le_of_ble_eq_true rfl, Nat.le_of_ble_eq_true rfl⟩) hX hO (fun ce q9 H hce1 hce2 hce3 hX hO => ?_)
    refine vx_catch hown [⟨0, 11, 14, 19⟩] ⟨0, 11, 18, 21⟩ [] (htab.trans rfl) (fun z hz => by rw [List.mem_singleton.mp hz]; exact Or.inr ⟨by decide, IX, hts (.classLink RL 19 IX) (by decide +kernel), hPW.2.2.2.2.1⟩) rfl (by decide) (hts (.classLink RL 21 IA) (tm 831 (by decide +kernel) rfl)) (va_Nw.use rfl hPW.1.2.1.2.1.2) hce1 hce2 hce3 ?_
    refine lv_astore (lv' := [(4, .ref q9), (0, .ref (ad 57)), (1, .int (nI j)), (2, .int x1), (3, .ref o)]) hx hb dL_rank_18 hl (by decide) rfl (fun ls hl => ?_)
    refine lv_iconst (v := nI 2) hx hb dL_rank_20 (by decide) ?_
    obtain ⟨n9, hN⟩ := hO
    exact W.widen (k := 1) (n := 6) (by simp) (by simp) (W.iret (v := nI 2) hx hb hr (fun t9 ht9 hW9 => ⟨⟨_, (S, n9), rfl, ⟨LQ_same hI h5, (Or.inr (Or.inl ⟨j, hj, rfl, hb9, rfl, rfl⟩))⟩, hX.P ht9 hW9, by rw [ht9]; exact hN⟩, hX.2.2.2.F ht9⟩) hX.2.2.2.2.2 dL_rank_21)
  replace hv : v < 16 := by omega
  refine kl_cr (va_runV (As := [.int (nI j), .int (nI v)]) (rest := [.ref o]) ⟨hx, hb, hml, hown, hts⟩ (m_X4_rank l dC dI ad S j v hj hv hI) (cwV 2 hts gL_rank_X4_rank rfl rfl rfl hdX4_rank_2 ⟨Nat.le_of_ble_eq_true rfl, Nat.le_of_ble_eq_true rfl⟩) (hX.preTop 57 6 (by decide) (by decide) rfl rfl) rfl rfl hl.1 rfl (lv_room (Nat.le_of_ble_eq_true rfl)) dL_rank_4 ⟨Nat.le_of_ble_eq_true rfl, Nat.le_of_ble_eq_true rfl⟩) (fun r9 hw => ?_)
  refine lv_i2l (v := r9.toInt64) hx hb dL_rank_7 rfl ?_
  refine kl_putn hx hb hts hin5 hown hX hO hno (host := "OrderlatticeLaw") (va_Nw.use rfl hPW.2.2.2.2.2.1) dL_rank_8 (fun H locs hX hN => ?_)
  refine lv_goto (tgt := 22) hx hb dL_rank_11 (by decide) ?_
  refine lv_iconst (v := nI 0) hx hb dL_rank_22 (by decide) ?_
  exact W.widen (k := 1) (n := 6) (by simp) (by simp) (W.iret (v := nI 0) hx hb hr (fun t9 ht9 hW9 => ⟨⟨_, (S, r9.toInt64), rfl, ⟨LQ_same hI h5, (Or.inr (Or.inr ⟨j, v, r9, hj, hv, rfl, rfl, rfl, rfl, hw, rfl⟩))⟩, hX.P ht9 hW9, by rw [ht9]; exact hN⟩, hX.2.2.2.F ht9⟩) hX.2.2.2.2.2 dL_rank_23)
set_option maxHeartbeats 4000000 in
set_option maxRecDepth 100000 in
theorem m_L_keyOf (l : Launch) (hst : l.stackTraces = false) (dC : Nat → ClassId) (dI : Nat → Nat → Nat) (cB : ClassId) (ad : Nat → Nat) (o : Nat) (S : XS) (x0 : Int32) (x1 : Int32) (hI : InvX S) (h5 : ∀ j, j < 4 → (S.2.1 j).2.2.2.2.1 ≤ 5) (hc : S.2.2.1 + 12 < 1000000) : Met l yL_keyOf wsL_keyOf ({ frames := 9, cells := 1, slots := 6, locals := 145 } : Room) (va_Pc [.ref (ad 57), .int x0, .int x1, .ref o] (PW dC dI cB ad o S)) (va_Qi (fun r (u : XS × Int64) => LQ S u.1 ∧ R_keyOf x0 x1 S r u.1 u.2) (PO2 dC dI ad o) (AO ad o)) 1 6 (AO ad o) := by
  refine va_MetW (cc := cL_keyOf) (maxL := 5) (ret := (some .int)) pl_L rfl ?_
  intro p e s m args below meth c s₁ B hml hv
  obtain ⟨rfl, hPW⟩ := hv
  have hx := B.exec
  have hb := B.bytes
  have hr := B.returns
  have hts := atoms_spec (ws := wsL_keyOf) B.pre
  have htab := vx_table (x := yL_keyOf) B (hts (.codeWith yL_keyOf cL_keyOf 5 (some .int) [(0, 11, 14, 21)]) (by unfold wsL_keyOf; exact List.mem_cons_self))
  have hown : s.vm.findClass RL = some m.cls := findClass_of_methodNamed B.named
  have hlocks := B.notSynchronized
  have hin5 : ∀ w ∈ u_ws RX5 TX5 2, w ∈ wsL_keyOf := tu 1332 (by decide +kernel) rfl
  have hX := WX.ofW hPW
  have hO := hPW.2.2.1
  have hno := hPW.2.2.2.1
  have hl := lv_entry ([.ref (ad 57), .int x0, .int x1, .ref o]) (n := 5) (Nat.le_of_ble_eq_true rfl)
  rw [lg_entry_eq]
  generalize (lg_sl ([.ref (ad 57), .int x0, .int x1, .ref o]) ++ List.replicate (5 - (lg_sl ([.ref (ad 57), .int x0, .int x1, .ref o])).length) Slot.unset).toArray = ls at hl ⊢
  have hl : lv_has ls 5 [(0, .ref (ad 57)), (1, .int x0), (2, .int x1), (3, .ref o)] := hl
  show W p l e ({ frames := 9, cells := 1, slots := 6, locals := 145 } : Room) s m ([.ref (ad 57), .int x0, .int x1, .ref o]).toArray below meth c s.heap [] 0 0 (MQ below (va_Qi (fun r (u : XS × Int64) => LQ S u.1 ∧ R_keyOf x0 x1 S r u.1 u.2) (PO2 dC dI ad o) (AO ad o)) ([.ref (ad 57), .int x0, .int x1, .ref o]).toArray s 1 6 (AO ad o)) (F0 m 0 ls [])
  refine lv_aload_n hx hb dL_keyOf_0 rfl (lv_at hl 3 rfl) ?_
  refine lv_aload_n hx hb dL_keyOf_1 rfl (lv_at hl 0 rfl) ?_
  refine lv_iload_n hx hb dL_keyOf_2 rfl (lv_at hl 1 rfl) ?_
  refine lv_iload_n hx hb dL_keyOf_3 rfl (lv_at hl 2 rfl) ?_
  rcases lim_le 7 (by decide) x0 with ⟨k, hk, rfl⟩ | hb9
  rotate_left
  · skip
    refine kl_throw (vx_runV (As := [.int x0, .int x1]) (rest := [.ref o]) ⟨hx, hb, hml, hown, hts⟩ (t_X4_keyOf_1 l hst dC dI ad S x0 x1 hb9) (cwV 2 hts gL_keyOf_X4_keyOf rfl rfl rfl hdX4_keyOf_2 ⟨Nat.le_of_ble_eq_true rfl, Nat.le_of_ble_eq_true rfl⟩) hPW.1.preX rfl rfl hl.1 rfl (lv_room (Nat.le_of_ble_eq_true rfl)) dL_keyOf_4 ⟨Nat.le_of_ble_eq_true rfl, Nat.le_of_ble_eq_true rfl⟩) hX hO (fun ce q9 H hce1 hce2 hce3 hX hO => ?_)
    refine vx_catch hown [] ⟨0, 11, 14, 21⟩ [] (htab.trans rfl) (fun _ h => nomatch h) rfl (by decide) (hts (.classLink RL 21 IA) (tm 831 (by decide +kernel) rfl)) (va_Nw.use rfl hPW.1.2.1.2.1.2) hce1 hce2 hce3 ?_
    refine lv_astore (lv' := [(4, .ref q9), (0, .ref (ad 57)), (1, .int x0), (2, .int x1), (3, .ref o)]) hx hb dL_keyOf_14 hl (by decide) rfl (fun ls hl => ?_)
    refine lv_iconst (v := nI 1) hx hb dL_keyOf_16 (by decide) ?_
    obtain ⟨n9, hN⟩ := hO
    exact W.widen (k := 1) (n := 6) (by simp) (by simp) (W.iret (v := nI 1) hx hb hr (fun t9 ht9 hW9 => ⟨⟨_, (S, n9), rfl, ⟨LQ_same hI h5, (Or.inl ⟨hb9, rfl, rfl⟩)⟩, hX.P ht9 hW9, by rw [ht9]; exact hN⟩, hX.2.2.2.F ht9⟩) hX.2.2.2.2.2 dL_keyOf_17)
  replace hk : k ≤ 7 := by omega
  rcases lim_le 15 (by decide) x1 with ⟨v, hv, rfl⟩ | hb9
  rotate_left
  · skip
    refine kl_throw (vx_runV (As := [.int (nI k), .int x1]) (rest := [.ref o]) ⟨hx, hb, hml, hown, hts⟩ (t_X4_keyOf_2 l hst dC dI ad S k x1 hk hb9) (cwV 2 hts gL_keyOf_X4_keyOf rfl rfl rfl hdX4_keyOf_2 ⟨Nat.le_of_ble_eq_true rfl, Nat.le_of_ble_eq_true rfl⟩) hPW.1.preX rfl rfl hl.1 rfl (lv_room (Nat.le_of_ble_eq_true rfl)) dL_keyOf_4 ⟨Nat.le_of_ble_eq_true rfl, Nat.le_of_ble_eq_true rfl⟩) hX hO (fun ce q9 H hce1 hce2 hce3 hX hO => ?_)
    refine vx_catch hown [] ⟨0, 11, 14, 21⟩ [] (htab.trans rfl) (fun _ h => nomatch h) rfl (by decide) (hts (.classLink RL 21 IA) (tm 831 (by decide +kernel) rfl)) (va_Nw.use rfl hPW.1.2.1.2.1.2) hce1 hce2 hce3 ?_
    refine lv_astore (lv' := [(4, .ref q9), (0, .ref (ad 57)), (1, .int (nI k)), (2, .int x1), (3, .ref o)]) hx hb dL_keyOf_14 hl (by decide) rfl (fun ls hl => ?_)
    refine lv_iconst (v := nI 1) hx hb dL_keyOf_16 (by decide) ?_
    obtain ⟨n9, hN⟩ := hO
    exact W.widen (k := 1) (n := 6) (by simp) (by simp) (W.iret (v := nI 1) hx hb hr (fun t9 ht9 hW9 => ⟨⟨_, (S, n9), rfl, ⟨LQ_same hI h5, (Or.inr (Or.inl ⟨k, hk, rfl, hb9, rfl, rfl⟩))⟩, hX.P ht9 hW9, by rw [ht9]; exact hN⟩, hX.2.2.2.F ht9⟩) hX.2.2.2.2.2 dL_keyOf_17)
  replace hv : v < 16 := by omega
  refine kl_cr (va_runV (As := [.int (nI k), .int (nI v)]) (rest := [.ref o]) ⟨hx, hb, hml, hown, hts⟩ (m_X4_keyOf l dC dI ad S k v hk hv) (cwV 2 hts gL_keyOf_X4_keyOf rfl rfl rfl hdX4_keyOf_2 ⟨Nat.le_of_ble_eq_true rfl, Nat.le_of_ble_eq_true rfl⟩) (hX.preTop 57 6 (by decide) (by decide) rfl rfl) rfl rfl hl.1 rfl (lv_room (Nat.le_of_ble_eq_true rfl)) dL_keyOf_4 ⟨Nat.le_of_ble_eq_true rfl, Nat.le_of_ble_eq_true rfl⟩) (fun r9 hw => ?_)
  refine lv_i2l (v := r9.toInt64) hx hb dL_keyOf_7 rfl ?_
  refine kl_putn hx hb hts hin5 hown hX hO hno (host := "OrderlatticeLaw") (va_Nw.use rfl hPW.2.2.2.2.2.1) dL_keyOf_8 (fun H locs hX hN => ?_)
  refine lv_goto (tgt := 18) hx hb dL_keyOf_11 (by decide) ?_
  refine lv_iconst (v := nI 0) hx hb dL_keyOf_18 (by decide) ?_
  exact W.widen (k := 1) (n := 6) (by simp) (by simp) (W.iret (v := nI 0) hx hb hr (fun t9 ht9 hW9 => ⟨⟨_, (S, r9.toInt64), rfl, ⟨LQ_same hI h5, (Or.inr (Or.inr ⟨k, v, r9, hk, hv, rfl, rfl, rfl, rfl, hw, rfl⟩))⟩, hX.P ht9 hW9, by rw [ht9]; exact hN⟩, hX.2.2.2.F ht9⟩) hX.2.2.2.2.2 dL_keyOf_19)
set_option maxHeartbeats 4000000 in
set_option maxRecDepth 100000 in
theorem m_L_house (l : Launch) (hst : l.stackTraces = false) (dC : Nat → ClassId) (dI : Nat → Nat → Nat) (cB : ClassId) (ad : Nat → Nat) (o : Nat) (S : XS) (x0 : Int32) (hI : InvX S) (h5 : ∀ j, j < 4 → (S.2.1 j).2.2.2.2.1 ≤ 5) (hc : S.2.2.1 + 12 < 1000000) : Met l yL_house wsL_house ({ frames := 9, cells := 1, slots := 6, locals := 144 } : Room) (va_Pc [.ref (ad 57), .int x0, .ref o] (PW dC dI cB ad o S)) (va_Qi (fun r (u : XS × Int64) => LQ S u.1 ∧ R_house x0 S r u.1 u.2) (PO2 dC dI ad o) (AO ad o)) 1 6 (AO ad o) := by
  refine va_MetW (cc := cL_house) (maxL := 4) (ret := (some .int)) pl_L rfl ?_
  intro p e s m args below meth c s₁ B hml hv
  obtain ⟨rfl, hPW⟩ := hv
  have hx := B.exec
  have hb := B.bytes
  have hr := B.returns
  have hts := atoms_spec (ws := wsL_house) B.pre
  have htab := vx_table (x := yL_house) B (hts (.codeWith yL_house cL_house 4 (some .int) [(0, 10, 13, 21)]) (by unfold wsL_house; exact List.mem_cons_self))
  have hown : s.vm.findClass RL = some m.cls := findClass_of_methodNamed B.named
  have hlocks := B.notSynchronized
  have hin5 : ∀ w ∈ u_ws RX5 TX5 2, w ∈ wsL_house := tu 1332 (by decide +kernel) rfl
  have hX := WX.ofW hPW
  have hO := hPW.2.2.1
  have hno := hPW.2.2.2.1
  have hl := lv_entry ([.ref (ad 57), .int x0, .ref o]) (n := 4) (Nat.le_of_ble_eq_true rfl)
  rw [lg_entry_eq]
  generalize (lg_sl ([.ref (ad 57), .int x0, .ref o]) ++ List.replicate (4 - (lg_sl ([.ref (ad 57), .int x0, .ref o])).length) Slot.unset).toArray = ls at hl ⊢
  have hl : lv_has ls 4 [(0, .ref (ad 57)), (1, .int x0), (2, .ref o)] := hl
  show W p l e ({ frames := 9, cells := 1, slots := 6, locals := 144 } : Room) s m ([.ref (ad 57), .int x0, .ref o]).toArray below meth c s.heap [] 0 0 (MQ below (va_Qi (fun r (u : XS × Int64) => LQ S u.1 ∧ R_house x0 S r u.1 u.2) (PO2 dC dI ad o) (AO ad o)) ([.ref (ad 57), .int x0, .ref o]).toArray s 1 6 (AO ad o)) (F0 m 0 ls [])
  refine lv_aload_n hx hb dL_house_0 rfl (lv_at hl 2 rfl) ?_
  refine lv_aload_n hx hb dL_house_1 rfl (lv_at hl 0 rfl) ?_
  refine lv_iload_n hx hb dL_house_2 rfl (lv_at hl 1 rfl) ?_
  rcases lim_le 4 (by decide) x0 with ⟨k, hk, rfl⟩ | hb9
  rotate_left
  · skip
    refine kl_throw (vx_runV (As := [.int x0]) (rest := [.ref o]) ⟨hx, hb, hml, hown, hts⟩ (t_X4_house_1 l hst dC dI ad S x0 hb9) (cwV 1 hts gL_house_X4_house rfl rfl rfl hdX4_house_1 ⟨Nat.le_of_ble_eq_true rfl, Nat.le_of_ble_eq_true rfl⟩) hPW.1.preX rfl rfl hl.1 rfl (lv_room (Nat.le_of_ble_eq_true rfl)) dL_house_3 ⟨Nat.le_of_ble_eq_true rfl, Nat.le_of_ble_eq_true rfl⟩) hX hO (fun ce q9 H hce1 hce2 hce3 hX hO => ?_)
    refine vx_catch hown [] ⟨0, 10, 13, 21⟩ [] (htab.trans rfl) (fun _ h => nomatch h) rfl (by decide) (hts (.classLink RL 21 IA) (tm 831 (by decide +kernel) rfl)) (va_Nw.use rfl hPW.1.2.1.2.1.2) hce1 hce2 hce3 ?_
    refine lv_astore_n (lv' := [(3, .ref q9), (0, .ref (ad 57)), (1, .int x0), (2, .ref o)]) hx hb dL_house_13 rfl hl (by decide) rfl (fun ls hl => ?_)
    refine lv_iconst (v := nI 1) hx hb dL_house_14 (by decide) ?_
    obtain ⟨n9, hN⟩ := hO
    exact W.widen (k := 1) (n := 6) (by simp) (by simp) (W.iret (v := nI 1) hx hb hr (fun t9 ht9 hW9 => ⟨⟨_, (S, n9), rfl, ⟨LQ_same hI h5, (Or.inl ⟨hb9, rfl, rfl⟩)⟩, hX.P ht9 hW9, by rw [ht9]; exact hN⟩, hX.2.2.2.F ht9⟩) hX.2.2.2.2.2 dL_house_15)
  replace hk : k ≤ 4 := by omega
  refine kl_cr (va_runV (As := [.int (nI k)]) (rest := [.ref o]) ⟨hx, hb, hml, hown, hts⟩ (m_X4_house l dC dI ad S k hk hI) (cwV 1 hts gL_house_X4_house rfl rfl rfl hdX4_house_1 ⟨Nat.le_of_ble_eq_true rfl, Nat.le_of_ble_eq_true rfl⟩) (hX.preTop 57 6 (by decide) (by decide) rfl rfl) rfl rfl hl.1 rfl (lv_room (Nat.le_of_ble_eq_true rfl)) dL_house_3 ⟨Nat.le_of_ble_eq_true rfl, Nat.le_of_ble_eq_true rfl⟩) (fun r9 hw => ?_)
  refine lv_i2l (v := r9.toInt64) hx hb dL_house_6 rfl ?_
  refine kl_putn hx hb hts hin5 hown hX hO hno (host := "OrderlatticeLaw") (va_Nw.use rfl hPW.2.2.2.2.2.1) dL_house_7 (fun H locs hX hN => ?_)
  refine lv_goto (tgt := 16) hx hb dL_house_10 (by decide) ?_
  refine lv_iconst (v := nI 0) hx hb dL_house_16 (by decide) ?_
  exact W.widen (k := 1) (n := 6) (by simp) (by simp) (W.iret (v := nI 0) hx hb hr (fun t9 ht9 hW9 => ⟨⟨_, (S, r9.toInt64), rfl, ⟨LQ_same hI h5, (Or.inr ⟨k, r9, hk, rfl, rfl, rfl, hw, rfl⟩)⟩, hX.P ht9 hW9, by rw [ht9]; exact hN⟩, hX.2.2.2.F ht9⟩) hX.2.2.2.2.2 dL_house_17)
end
section
/-! what each of the reference's calls keeps -/
def LM (M M1 : MS) : Prop := InvM M1 ∧ M1.2.2.2.1 ≤ M.2.2.2.1 + 12 ∧ M1.2.2.2.2.1 ≤ M.2.2.2.2.1 + 1 ∧ M1.2.2.2.2.2 = M.2.2.2.2.2
section LMs
variable {M M1 : MS} {i j : Nat} {r : Int32}
theorem LM_th (hI : InvM M) (u : Nat) : LM M (thM M u) := ⟨hI, Nat.le_add_right _ _, Nat.le_add_right _ _, rfl⟩
theorem LM_ref (hI : InvM M) : LM M (refM M) := ⟨hI, Nat.le_add_right _ _, Nat.le_refl _, rfl⟩
theorem InvM_row (hI : InvM M) {i : Nat} {r : RowS} (hr : rowM r) : InvM (mR M i r) := ⟨fun k hk => by
  by_cases e : k = i
  · subst e; rw [mR_row]; exact hr
  · rw [mR_ne _ _ e]; exact hI.1 k hk, hI.2⟩
theorem InvM_ord (hI : InvM M) {j : Nat} {o : OrdM} (ho : ordM o) : InvM (mO M j o) := ⟨hI.1, fun k hk => by
  by_cases e : k = j
  · subst e; rw [mO_ord]; exact ho
  · rw [mO_ne _ _ e]; exact hI.2 k hk⟩
theorem LM_row (hI : InvM M) {r : RowS} (hr : rowM r) {k : Nat} (hk : k ≤ 12) : LM M (mR (mN M (0, M.2.2.2.1 + k, M.2.2.2.2)) i r) := ⟨InvM_row (M := mN M (0, M.2.2.2.1 + k, M.2.2.2.2)) hI hr, Nat.add_le_add_left hk _, Nat.le_add_right _ _, rfl⟩
theorem LM_row0 (hI : InvM M) {r : RowS} (hr : rowM r) : LM M (mR (thM M 0) i r) := ⟨InvM_row (M := thM M 0) hI hr, Nat.le_add_right _ _, Nat.le_add_right _ _, rfl⟩
theorem LM_ord (hI : InvM M) {o : OrdM} (ho : ordM o) : LM M (mO (thM M 0) j o) := ⟨InvM_ord (M := thM M 0) hI ho, Nat.le_add_right _ _, Nat.le_add_right _ _, rfl⟩
theorem upM_lt {f : Nat → Nat} {a v N : Nat} (h : ∀ k, k < 12 → f k < N) (hv : v < N) : ∀ k, k < 12 → va_up f a v k < N := fun k hk => by
  unfold va_up
  split
  · exact hv
  · exact h k hk
theorem shrM_lt {f : Nat → Nat} {n a N : Nat} (h : ∀ k, k < 12 → f k < N) : ∀ k, k < 12 → shr f n a k < N := fun k hk => by
  unfold shr
  split
  · exact h _ (by omega)
  · exact h _ hk
theorem shlM_lt {f : Nat → Nat} {q a N : Nat} (ha : a < 12) (h : ∀ k, k < 12 → f k < N) : ∀ k, k < 12 → shl f q a k < N := fun k hk => by
  unfold shl
  split
  · exact h _ (by omega)
  · exact h _ hk
theorem ovlM_lt {f g : Nat → Nat} {n N : Nat} (h : ∀ k, k < 12 → f k < N) (h2 : ∀ k, k < 12 → g k < N) : ∀ k, k < 12 → ovl f g n k < N := fun k hk => by
  unfold ovl
  split
  · exact h _ hk
  · exact h2 _ hk
theorem revM_lt {f : Nat → Nat} {n a N : Nat} (hn : n ≤ 12) (h : ∀ k, k < 12 → f k < N) : ∀ k, k < 12 → rev f n a k < N := fun k hk => by
  unfold rev
  split
  · exact h _ (by omega)
  · exact h _ hk
theorem rowM_of {f g : Nat → Nat} {n : Nat} (hn : n ≤ 12) (h : ∀ k, k < 12 → f k < 16) (h2 : ∀ k, k < 12 → g k < 1000000) : rowM (f, g, n) := ⟨hn, fun k hk => ⟨h k hk, h2 k hk⟩⟩
theorem rowM_ins {r : RowS} (h : rowM r) {q v u : Nat} (hn : r.2.2 < 12) (hv : v < 16) (hu : u < 1000000) : rowM (va_up (shr r.1 r.2.2 q) q v, va_up (shr r.2.1 r.2.2 q) q u, r.2.2 + 1) :=
  rowM_of (by omega) (upM_lt (shrM_lt (fun k hk => (h.2 k hk).1)) hv) (upM_lt (shrM_lt (fun k hk => (h.2 k hk).2)) hu)
theorem rowM_fill {r : RowS} (h : rowM r) {f g : Nat → Nat} {k : Nat} (hn : r.2.2 + k ≤ 12) (hf : ∀ x, f x < 16) (hg : ∀ x, x < k → g x < 1000000) : rowM (apn r.1 f r.2.2 k, apn r.2.1 g r.2.2 k, r.2.2 + k) :=
  rowM_of hn (fun y hy => by
    unfold apn
    split
    · exact hf _
    · exact (h.2 y hy).1) (fun y hy => by
    unfold apn
    split
    · exact hg _ (by omega)
    · exact (h.2 y hy).2)
theorem rowM_rem {r : RowS} (h : rowM r) {q : Nat} (hq : q < r.2.2) : rowM (shl r.1 q (r.2.2 - 1), shl r.2.1 q (r.2.2 - 1), r.2.2 - 1) :=
  rowM_of (by have := h.1; omega) (shlM_lt (by have := h.1; omega) (fun k hk => (h.2 k hk).1)) (shlM_lt (by have := h.1; omega) (fun k hk => (h.2 k hk).2))
theorem rowM_0 {r : RowS} (h : rowM r) : rowM (r.1, r.2.1, 0) := ⟨Nat.zero_le _, h.2⟩
theorem rowM_ovl {r t : RowS} (h : rowM r) (h2 : rowM t) : rowM (ovl t.1 r.1 t.2.2, ovl t.2.1 r.2.1 t.2.2, t.2.2) :=
  rowM_of h2.1 (ovlM_lt (fun k hk => (h2.2 k hk).1) (fun k hk => (h.2 k hk).1)) (ovlM_lt (fun k hk => (h2.2 k hk).2) (fun k hk => (h.2 k hk).2))
theorem rowM_rev {r : RowS} (h : rowM r) : rowM (rev r.1 r.2.2 r.2.2, rev r.2.1 r.2.2 r.2.2, r.2.2) :=
  rowM_of h.1 (revM_lt h.1 (fun k hk => (h.2 k hk).1)) (revM_lt h.1 (fun k hk => (h.2 k hk).2))
theorem rowM_xch {r : RowS} (h : rowM r) {a b : Nat} (ha : a < 12) (hb : b < 12) : rowM (xch r.1 a b, xch r.2.1 a b, r.2.2) :=
  rowM_of h.1 (xchM_lt (fun k hk => (h.2 k hk).1) ha hb) (xchM_lt (fun k hk => (h.2 k hk).2) ha hb)
theorem rotI_lt {f : Nat → Nat} {n N : Nat} (hn : n ≤ 12) (hn0 : 0 < n) (h : ∀ k, k < 12 → f k < N) : ∀ sh k, k < 12 → rotI f n sh k < N
  | 0, k, hk => h k hk
  | sh + 1, k, hk => car_lt (rotI_lt hn hn0 h sh) hn hn0 hk
theorem rowM_srt (hI : InvM M) {i j q q2 : Nat} (hi : i < 3) (hq : q ≤ q2) (hq2 : q2 ≤ (M.1 i).2.2) : rowM ((srtM M i j q q2).1, (srtM M i j q q2).2, (M.1 i).2.2) := by
  have hn := (hI.1 i hi).1
  exact ⟨hn, prOK_rnd (p := ((M.1 i).1, (M.1 i).2.1)) (hI.1 i hi).2 (by omega) _⟩
theorem LM_put {q v : Nat} (hI : InvM M) (hc : M.2.2.2.1 + 12 < 1000000) (hi : i < 3) (hv : v < 16) (hw : ((M.1 i).2.2 < 12 ∧ r = nI M.2.2.2.1 ∧ M1 = placeM (thM M 0) i q v) ∨ (12 ≤ (M.1 i).2.2 ∧ r = -9 ∧ M1 = refM M)) : LM M M1 := by
  rcases hw with ⟨h1, -, rfl⟩ | ⟨-, -, rfl⟩
  · exact LM_row hI (rowM_ins (hI.1 i hi) h1 hv (show M.2.2.2.1 < 1000000 by omega)) (k := 1) (by omega)
  · exact LM_ref hI
theorem LM_fill {k k2 k3 : Nat} {P P2 : Prop} (hI : InvM M) (hc : M.2.2.2.1 + 12 < 1000000) (hi : i < 3) (hk : k ≤ 12) (hw : ((M.1 i).2.2 + k ≤ 12 ∧ P ∧ M1 = mR (mN M (0, M.2.2.2.1 + k, M.2.2.2.2)) i (apn (M.1 i).1 (fun x => (k2 + x * k3) % 16) (M.1 i).2.2 k, apn (M.1 i).2.1 (fun x => M.2.2.2.1 + x) (M.1 i).2.2 k, (M.1 i).2.2 + k)) ∨ (P2 ∧ r = -9 ∧ M1 = refM M)) : LM M M1 := by
  rcases hw with ⟨h1, -, rfl⟩ | ⟨-, -, rfl⟩
  · exact LM_row hI (rowM_fill (hI.1 i hi) h1 (fun x => Nat.mod_lt _ (by decide)) (fun x hx => by omega)) hk
  · exact LM_ref hI
theorem LM_two {P P2 P3 : Prop} (hI : InvM M) (hw : (P ∧ P2 ∧ M1 = refM M) ∨ (P3 ∧ M1 = thM M 0)) : LM M M1 := by
  rcases hw with ⟨-, -, rfl⟩ | ⟨-, rfl⟩
  · exact LM_ref hI
  · exact LM_th hI 0
theorem LM_tell {v v2 : Nat} {P P2 P3 : Prop} (hI : InvM M) (hj : j < 4) (hw : (P ∧ P2 ∧ (M.2.1 j).2.2 < 5 ∧ r = nI (coarse (coaM M j) (keyApart v v2) 8).2 ∧ ∃ (K9 : Nat → Nat) (D9 : Nat → Bool), (∀ x, x < (M.2.1 j).2.2 → K9 x = (M.2.1 j).1 x ∧ D9 x = (M.2.1 j).2.1 x) ∧ (∀ x, x < 5 → K9 x < 8) ∧ M1 = mO (thM M 0) j (va_up K9 (M.2.1 j).2.2 (coarse (coaM M j) (keyApart v v2) 8).2, va_up D9 (M.2.1 j).2.2 false, (M.2.1 j).2.2 + 1)) ∨ (P3 ∧ r = -9 ∧ M1 = refM M)) : LM M M1 := by
  rcases hw with ⟨-, -, h1, -, K9, D9, -, h9, rfl⟩ | ⟨-, -, rfl⟩
  · exact LM_ord hI (ordM_add (o := (K9, D9, (M.2.1 j).2.2)) ⟨by show (M.2.1 j).2.2 ≤ 5; omega, h9⟩ h1 (coarse_lt _ _ 8 (by omega)))
  · exact LM_ref hI
end LMs
set_option maxHeartbeats 4000000 in
set_option maxRecDepth 100000 in
theorem n_X6_tellApart (l : Launch) (dC : Nat → ClassId) (dI : Nat → Nat → Nat) (am : Nat → Nat) (M : MS) (j : Nat) (v : Nat) (v2 : Nat) (hj : j < 4) (hv : v < 16) (hv2 : v2 < 16) (hI : InvM M) : Met l yX6_tellApart wsX6_tellApart ({ frames := 4, cells := 0, slots := 0, locals := 93 } : Room) (va_Pc [.ref (am 0), .int (nI j), .int (nI v), .int (nI v2)] (PM dC dI am M)) (va_Qi (fun r M' => (v ≠ v2 ∧ cM M j v = cM M j v2 ∧ (M.2.1 j).2.2 < 5 ∧ r = nI (coarse (coaM M j) (keyApart v v2) 8).2 ∧ ∃ (K9 : Nat → Nat) (D9 : Nat → Bool), (∀ x, x < (M.2.1 j).2.2 → K9 x = (M.2.1 j).1 x ∧ D9 x = (M.2.1 j).2.1 x) ∧ (∀ x, x < 5 → K9 x < 8) ∧ M' = mO (thM M 0) j (va_up K9 (M.2.1 j).2.2 (coarse (coaM M j) (keyApart v v2) 8).2, va_up D9 (M.2.1 j).2.2 false, (M.2.1 j).2.2 + 1)) ∨ ((v = v2 ∨ cM M j v ≠ cM M j v2 ∨ 5 ≤ (M.2.1 j).2.2) ∧ r = -9 ∧ M' = refM M)) (PM dC dI am) (AM am)) 0 0 (AM am) := by
  refine Met.ofW (cc := cX6_tellApart) (maxL := 8) (ret := (some .int)) pl_X6 rfl ?_
  intro p e s m args below meth c s₁ B hml hv
  obtain ⟨rfl, hPX⟩ := hv
  have hx := B.exec
  have hb := B.bytes
  have hr := B.returns
  have hts := atoms_spec (ws := wsX6_tellApart) B.pre
  have hown : s.vm.findClass RX6 = some m.cls := findClass_of_methodNamed B.named
  have hlocks := B.notSynchronized
  have hin6 : ∀ w ∈ u_ws RX6 TX6 10, w ∈ wsX6_tellApart := tu 1331 (by decide +kernel) rfl
  have hX := WM.of hPX
  have hl := lv_entry ([.ref (am 0), .int (nI j), .int (nI v), .int (nI v2)]) (n := 8) (Nat.le_of_ble_eq_true rfl)
  rw [lg_entry_eq]
  generalize (lg_sl ([.ref (am 0), .int (nI j), .int (nI v), .int (nI v2)]) ++ List.replicate (8 - (lg_sl ([.ref (am 0), .int (nI j), .int (nI v), .int (nI v2)])).length) Slot.unset).toArray = ls at hl ⊢
  have hl : lv_has ls 8 [(0, .ref (am 0)), (1, .int (nI j)), (2, .int (nI v)), (3, .int (nI v2))] := hl
  show W p l e ({ frames := 4, cells := 0, slots := 0, locals := 93 } : Room) s m ([.ref (am 0), .int (nI j), .int (nI v), .int (nI v2)]).toArray below meth c s.heap [] 0 0 (MQ below (va_Qi (fun r M' => (v ≠ v2 ∧ cM M j v = cM M j v2 ∧ (M.2.1 j).2.2 < 5 ∧ r = nI (coarse (coaM M j) (keyApart v v2) 8).2 ∧ ∃ (K9 : Nat → Nat) (D9 : Nat → Bool), (∀ x, x < (M.2.1 j).2.2 → K9 x = (M.2.1 j).1 x ∧ D9 x = (M.2.1 j).2.1 x) ∧ (∀ x, x < 5 → K9 x < 8) ∧ M' = mO (thM M 0) j (va_up K9 (M.2.1 j).2.2 (coarse (coaM M j) (keyApart v v2) 8).2, va_up D9 (M.2.1 j).2.2 false, (M.2.1 j).2.2 + 1)) ∨ ((v = v2 ∨ cM M j v ≠ cM M j v2 ∨ 5 ≤ (M.2.1 j).2.2) ∧ r = -9 ∧ M' = refM M)) (PM dC dI am) (AM am)) ([.ref (am 0), .int (nI j), .int (nI v), .int (nI v2)]).toArray s 0 0 (AM am)) (F0 m 0 ls [])
  have hn := (hI.2 j (by omega)).1
  refine lv_aload_n hx hb dX6_tellApart_0 rfl (lv_at hl 0 rfl) ?_
  refine lv_iload_n hx hb dX6_tellApart_1 rfl (lv_at hl 1 rfl) ?_
  refine kx_cr (v := bI false) (va_runS (As := [.int (nI j)]) (rest := [.ref (am 0)]) ⟨hx, hb, hml, hown, hts⟩ (m_X6_isNoOrder l dC dI am M (nI j)) (va_cwS 1 hts gX6_tellApart_X6_isNoOrder rfl rfl rfl hdX6_isNoOrder_1.2 ⟨Nat.le_of_ble_eq_true rfl, Nat.le_of_ble_eq_true rfl⟩) hX.preS rfl rfl hl.1 rfl (lv_room (Nat.le_of_ble_eq_true rfl)) dX6_tellApart_2 ⟨Nat.le_of_ble_eq_true rfl, Nat.le_of_ble_eq_true rfl⟩) (fun _ h => h.trans (isNo_ok (by omega) (by omega))) ?_
  refine lv_iconst (v := nI 1) hx hb dX6_tellApart_5 (by decide) ?_
  refine km_ci (va_runV (As := [.int (bI false), .int (nI 1)]) (rest := []) ⟨hx, hb, hml, hown, hts⟩ (m_X6_start l dC dI am M false 1 (by omega)) (cwV 2 hts gX6_tellApart_X6_start rfl rfl rfl hdX6_start_2 ⟨Nat.le_of_ble_eq_true rfl, Nat.le_of_ble_eq_true rfl⟩) (hX.preObj) rfl rfl hl.1 rfl (lv_room (Nat.le_of_ble_eq_true rfl)) dX6_tellApart_6 ⟨Nat.le_of_ble_eq_true rfl, Nat.le_of_ble_eq_true rfl⟩) hX (fun _ h => h) (fun r_ S_ H locs hw hX => ?_)
  obtain ⟨rfl, rfl⟩ := hw
  refine kb_if_ne (tgt := 39) hx hb dX6_tellApart_9 (by decide) (fun k_1 => absurd k_1 (by decide)) (fun k_1 => ?_)
  refine lv_aload_n hx hb dX6_tellApart_12 rfl (lv_at hl 0 rfl) ?_
  refine lv_iload_n hx hb dX6_tellApart_13 rfl (lv_at hl 2 rfl) ?_
  refine kx_cr (v := bI false) (va_runS (As := [.int (nI v)]) (rest := [.ref (am 0)]) ⟨hx, hb, hml, hown, hts⟩ (m_X6_isNoValue l dC dI am (mN M (0, M.2.2.2.1, M.2.2.2.2.1, M.2.2.2.2.2)) (nI v)) (va_cwS 1 hts gX6_tellApart_X6_isNoValue rfl rfl rfl hdX6_isNoValue_1.2 ⟨Nat.le_of_ble_eq_true rfl, Nat.le_of_ble_eq_true rfl⟩) hX.preS rfl rfl hl.1 rfl (lv_room (Nat.le_of_ble_eq_true rfl)) dX6_tellApart_14 ⟨Nat.le_of_ble_eq_true rfl, Nat.le_of_ble_eq_true rfl⟩) (fun _ h => h.trans (isNo_ok (by omega) (by omega))) ?_
  refine kb_if_ne (tgt := 27) hx hb dX6_tellApart_17 (by decide) (fun k_2 => absurd k_2 (by decide)) (fun k_2 => ?_)
  refine lv_iload_n hx hb dX6_tellApart_20 rfl (lv_at hl 3 rfl) ?_
  refine kx_cr (v := bI false) (va_runS (As := [.int (nI v2)]) (rest := [.ref (am 0)]) ⟨hx, hb, hml, hown, hts⟩ (m_X6_isNoValue l dC dI am (mN M (0, M.2.2.2.1, M.2.2.2.2.1, M.2.2.2.2.2)) (nI v2)) (va_cwS 1 hts gX6_tellApart_X6_isNoValue rfl rfl rfl hdX6_isNoValue_1.2 ⟨Nat.le_of_ble_eq_true rfl, Nat.le_of_ble_eq_true rfl⟩) hX.preS rfl rfl hl.1 rfl (lv_room (Nat.le_of_ble_eq_true rfl)) dX6_tellApart_21 ⟨Nat.le_of_ble_eq_true rfl, Nat.le_of_ble_eq_true rfl⟩) (fun _ h => h.trans (isNo_ok (by omega) (by omega))) ?_
  refine kb_if_eq (tgt := 31) hx hb dX6_tellApart_24 (by decide) (fun k_3 => ?_) (fun k_3 => absurd k_3 (by decide))
  refine lv_iconst (v := nI 0) hx hb dX6_tellApart_31 (by decide) ?_
  refine lv_iconst (v := nI 2) hx hb dX6_tellApart_32 (by decide) ?_
  refine km_ci (va_runV (As := [.int (nI 0), .int (nI 2)]) (rest := []) ⟨hx, hb, hml, hown, hts⟩ (m_X6_refuse l dC dI am (mN M (0, M.2.2.2.1, M.2.2.2.2.1, M.2.2.2.2.2)) false 2 (by omega) rfl) (cwV 2 hts gX6_tellApart_X6_refuse rfl rfl rfl hdX6_refuse_2 ⟨Nat.le_of_ble_eq_true rfl, Nat.le_of_ble_eq_true rfl⟩) (hX.preObj) rfl rfl hl.1 rfl (lv_room (Nat.le_of_ble_eq_true rfl)) dX6_tellApart_33 ⟨Nat.le_of_ble_eq_true rfl, Nat.le_of_ble_eq_true rfl⟩) hX (fun _ h => h) (fun r_ S_ H locs hw hX => ?_)
  obtain ⟨rfl, rfl⟩ := hw
  refine kb_if_eq (tgt := 41) hx hb dX6_tellApart_36 (by decide) (fun k_4 => ?_) (fun k_4 => absurd k_4 (by decide))
  refine lv_aload_n hx hb dX6_tellApart_41 rfl (lv_at hl 0 rfl) ?_
  refine lv_iload_n hx hb dX6_tellApart_42 rfl (lv_at hl 1 rfl) ?_
  refine lv_iload_n hx hb dX6_tellApart_43 rfl (lv_at hl 2 rfl) ?_
  refine lv_iload_n hx hb dX6_tellApart_44 rfl (lv_at hl 3 rfl) ?_
  refine kx_cr (v := cmpI (cM M j v) (cM M j v2)) (va_runV (As := [.int (nI j), .int (nI v), .int (nI v2)]) (rest := []) ⟨hx, hb, hml, hown, hts⟩ (m_X6_compareNow l dC dI am (mN M (0, M.2.2.2.1, M.2.2.2.2.1, M.2.2.2.2.2)) j v v2 (by omega) (hI.2 j (by omega)) (by omega) (by omega)) (cwV 3 hts gX6_tellApart_X6_compareNow rfl rfl rfl hdX6_compareNow_3 ⟨Nat.le_of_ble_eq_true rfl, Nat.le_of_ble_eq_true rfl⟩) (hX.preObj) rfl rfl hl.1 rfl (lv_room (Nat.le_of_ble_eq_true rfl)) dX6_tellApart_45 ⟨Nat.le_of_ble_eq_true rfl, Nat.le_of_ble_eq_true rfl⟩) (fun _ h => h) ?_
  refine kc_if_ne (tgt := 66) hx hb dX6_tellApart_48 (by decide) (fun k_5 => ?_) (fun k_5 => ?_)
  · skip
    have h48 := k_5
    refine lv_aload_n hx hb dX6_tellApart_66 rfl (lv_at hl 0 rfl) ?_
    refine km_ci (va_runV (As := []) (rest := []) ⟨hx, hb, hml, hown, hts⟩ (m_X6_no l dC dI am (mN M (0, M.2.2.2.1, M.2.2.2.2.1, M.2.2.2.2.2)) ) (cwV 0 hts gX6_tellApart_X6_no rfl rfl rfl hdX6_no_0 ⟨Nat.le_of_ble_eq_true rfl, Nat.le_of_ble_eq_true rfl⟩) (hX.preObj) rfl rfl hl.1 rfl (lv_room (Nat.le_of_ble_eq_true rfl)) dX6_tellApart_67 ⟨Nat.le_of_ble_eq_true rfl, Nat.le_of_ble_eq_true rfl⟩) hX (fun _ h => h) (fun r_ S_ H locs hw hX => ?_)
    obtain ⟨rfl, rfl⟩ := hw
    exact W.iret (v := (-9)) hx hb hr (fun t9 ht9 hW9 => ⟨⟨_, (mN M (0, M.2.2.2.1, M.2.2.2.2.1 + 1, M.2.2.2.2.2)), rfl, (Or.inr ⟨Or.inr (Or.inl h48), rfl, rfl⟩), hX.P ht9 hW9⟩, hX.2.2.2.F ht9⟩) hX.2.2.2.2.2 dX6_tellApart_70
  · skip
    have h48 := k_5
    refine lv_iload_n hx hb dX6_tellApart_51 rfl (lv_at hl 2 rfl) ?_
    refine lv_iload_n hx hb dX6_tellApart_52 rfl (lv_at hl 3 rfl) ?_
    refine kn_icmp_eq (tgt := 66) hx hb (by omega) (by omega) dX6_tellApart_53 (by decide) (fun k_6 => ?_) (fun k_6 => ?_)
    · skip
      have h53 := k_6
      refine lv_aload_n hx hb dX6_tellApart_66 rfl (lv_at hl 0 rfl) ?_
      refine km_ci (va_runV (As := []) (rest := []) ⟨hx, hb, hml, hown, hts⟩ (m_X6_no l dC dI am (mN M (0, M.2.2.2.1, M.2.2.2.2.1, M.2.2.2.2.2)) ) (cwV 0 hts gX6_tellApart_X6_no rfl rfl rfl hdX6_no_0 ⟨Nat.le_of_ble_eq_true rfl, Nat.le_of_ble_eq_true rfl⟩) (hX.preObj) rfl rfl hl.1 rfl (lv_room (Nat.le_of_ble_eq_true rfl)) dX6_tellApart_67 ⟨Nat.le_of_ble_eq_true rfl, Nat.le_of_ble_eq_true rfl⟩) hX (fun _ h => h) (fun r_ S_ H locs hw hX => ?_)
      obtain ⟨rfl, rfl⟩ := hw
      exact W.iret (v := (-9)) hx hb hr (fun t9 ht9 hW9 => ⟨⟨_, (mN M (0, M.2.2.2.1, M.2.2.2.2.1 + 1, M.2.2.2.2.2)), rfl, (Or.inr ⟨Or.inl h53, rfl, rfl⟩), hX.P ht9 hW9⟩, hX.2.2.2.F ht9⟩) hX.2.2.2.2.2 dX6_tellApart_70
    · skip
      have h53 := k_6
      refine lv_aload_n hx hb dX6_tellApart_56 rfl (lv_at hl 0 rfl) ?_
      refine km_gsteps hx hb hts hin6 hown hX (hts (.fieldLink RX6 29 "OrderlatticeModel" "steps" "[I") (tm 724 (by decide +kernel) rfl)) dX6_tellApart_57 ?_
      refine lv_iload_n hx hb dX6_tellApart_60 rfl (lv_at hl 1 rfl) ?_
      refine km_lt (v := (M.2.1 j).2.2) hx hb hX (by omega) rfl dX6_tellApart_61 ?_
      refine lv_iconst (v := nI 5) hx hb dX6_tellApart_62 (by decide) ?_
      refine kn_icmp_ne (tgt := 71) hx hb (by omega) (by omega) dX6_tellApart_63 (by decide) (fun k_7 => ?_) (fun k_7 => ?_)
      · skip
        have h63 := k_7
        refine lv_iconst (v := (-1)) hx hb dX6_tellApart_71 (by decide) ?_
        refine lv_istore (lv' := [(4, .int (-1)), (0, .ref (am 0)), (1, .int (nI j)), (2, .int (nI v)), (3, .int (nI v2))]) hx hb dX6_tellApart_72 hl (by decide) rfl (fun ls hl => ?_)
        refine lv_bipush (v := nI 17) hx hb dX6_tellApart_74 (by decide) ?_
        refine lv_istore (lv' := [(5, .int (nI 17)), (4, .int (-1)), (0, .ref (am 0)), (1, .int (nI j)), (2, .int (nI v)), (3, .int (nI v2))]) hx hb dX6_tellApart_76 hl (by decide) rfl (fun ls hl => ?_)
        refine lv_iconst (v := nI 0) hx hb dX6_tellApart_78 (by decide) ?_
        refine lv_istore (lv' := [(6, .int (nI 0)), (5, .int (nI 17)), (4, .int (-1)), (0, .ref (am 0)), (1, .int (nI j)), (2, .int (nI v)), (3, .int (nI v2))]) hx hb dX6_tellApart_79 hl (by decide) rfl (fun ls hl => ?_)
        have loop81 : ∀ (fuel : Nat) (K9 : Nat → Nat) (D9 : Nat → Bool) (x4 : Int32) (bb fw k : Nat) (hag : ∀ x, x < (M.2.1 j).2.2 → K9 x = (M.2.1 j).1 x ∧ D9 x = (M.2.1 j).2.1 x) (ho9 : ordM (K9, D9, (M.2.1 j).2.2)) (hk : k ≤ 8) (hx4 : 0 < k → x4 = nI bb) (hq : (fw, bb) = coarse (coaM M j) (keyApart v v2) k) (H : Heap) (locs : List Loc), 8 - k < fuel → WM dC dI am (mO (mN M (0, M.2.2.2.1, M.2.2.2.2.1, M.2.2.2.2.2)) j (K9, D9, (M.2.1 j).2.2)) [] (AM am) s H locs → ∀ ls : Array Slot, lv_has ls 8 [(0, .ref (am 0)), (1, .int (nI j)), (2, .int (nI v)), (3, .int (nI v2)), (4, .int x4), (5, .int (nI fw)), (6, .int (nI k))] → W p l e ({ frames := 4, cells := 0, slots := 0, locals := 93 } : Room) s m ([.ref (am 0), .int (nI j), .int (nI v), .int (nI v2)]).toArray below meth c H locs 0 0 (MQ below (va_Qi (fun r M' => (v ≠ v2 ∧ cM M j v = cM M j v2 ∧ (M.2.1 j).2.2 < 5 ∧ r = nI (coarse (coaM M j) (keyApart v v2) 8).2 ∧ ∃ (K9 : Nat → Nat) (D9 : Nat → Bool), (∀ x, x < (M.2.1 j).2.2 → K9 x = (M.2.1 j).1 x ∧ D9 x = (M.2.1 j).2.1 x) ∧ (∀ x, x < 5 → K9 x < 8) ∧ M' = mO (thM M 0) j (va_up K9 (M.2.1 j).2.2 (coarse (coaM M j) (keyApart v v2) 8).2, va_up D9 (M.2.1 j).2.2 false, (M.2.1 j).2.2 + 1)) ∨ ((v = v2 ∨ cM M j v ≠ cM M j v2 ∨ 5 ≤ (M.2.1 j).2.2) ∧ r = -9 ∧ M' = refM M)) (PM dC dI am) (AM am)) ([.ref (am 0), .int (nI j), .int (nI v), .int (nI v2)]).toArray s 0 0 (AM am)) (F0 m 81 ls []) := by
          intro fuel
          induction fuel with
          | zero => intro K9 D9 x4 bb fw k hag ho9 hk hx4 hq H locs hf; exact absurd hf (Nat.not_lt_zero _)
          | succ fuel ih81 =>
            intro K9 D9 x4 bb fw k hag ho9 hk hx4 hq H locs hf hX ls hl
            refine lv_iload hx hb dX6_tellApart_81 (lv_at hl 6 rfl) ?_
            refine lv_bipush (v := nI 8) hx hb dX6_tellApart_83 (by decide) ?_
            refine kn_icmp_ge (tgt := 155) hx hb (by omega) (by omega) dX6_tellApart_85 (by decide) (fun k_8 => ?_) (fun k_8 => ?_)
            · skip
              obtain rfl := hx4 (by omega)
              refine lv_aload_n hx hb dX6_tellApart_155 rfl (lv_at hl 0 rfl) ?_
              refine lv_iload_n hx hb dX6_tellApart_156 rfl (lv_at hl 1 rfl) ?_
              refine lv_iload hx hb dX6_tellApart_157 (lv_at hl 4 rfl) ?_
              refine lv_iconst (v := nI 0) hx hb dX6_tellApart_159 (by decide) ?_
              refine km_cv (va_runV (As := [.int (nI j), .int (nI bb), .int (nI 0)]) (rest := []) ⟨hx, hb, hml, hown, hts⟩ (m_X6_add l dC dI am (mO (mN M (0, M.2.2.2.1, M.2.2.2.2.1, M.2.2.2.2.2)) j (K9, D9, (M.2.1 j).2.2)) j bb false (by omega) (by rw [mO_ord]; show (M.2.1 j).2.2 < 5; omega)) (cwV 3 hts gX6_tellApart_X6_add rfl rfl rfl hdX6_add_3 ⟨Nat.le_of_ble_eq_true rfl, Nat.le_of_ble_eq_true rfl⟩) (hX.preObj) rfl rfl hl.1 rfl (lv_room (Nat.le_of_ble_eq_true rfl)) dX6_tellApart_160 ⟨Nat.le_of_ble_eq_true rfl, Nat.le_of_ble_eq_true rfl⟩) hX (fun _ h => h) (fun S_ H locs hw hX => ?_)
              rw [mO_ord, mO_mO] at hw
              subst hw
              refine lv_iload hx hb dX6_tellApart_163 (lv_at hl 4 rfl) ?_
              exact W.iret (v := nI bb) hx hb hr (fun t9 ht9 hW9 => ⟨⟨_, (mO (mN M (0, M.2.2.2.1, M.2.2.2.2.1, M.2.2.2.2.2)) j (va_up K9 ((M.2.1 j).2.2) bb, va_up D9 ((M.2.1 j).2.2) false, (M.2.1 j).2.2 + 1)), rfl, (Or.inl ⟨h53, h48, by omega, by rw [← show k = 8 by omega, ← hq], K9, D9, hag, ho9.2, by rw [← show k = 8 by omega, ← hq]⟩), hX.P ht9 hW9⟩, hX.2.2.2.F ht9⟩) hX.2.2.2.2.2 dX6_tellApart_165
            · skip
              have h1 := numK_lt (k := k) hv
              have h2 := numK_lt (k := k) hv2
              refine lv_iload hx hb dX6_tellApart_88 (lv_at hl 6 rfl) ?_
              refine lv_iload_n hx hb dX6_tellApart_90 rfl (lv_at hl 2 rfl) ?_
              refine kx_cr (v := nI (numK k v)) (va_runS (As := [.int (nI k), .int (nI v)]) (rest := []) ⟨hx, hb, hml, hown, hts⟩ (m_X6_keyNow l dC dI am (mO (mN M (0, M.2.2.2.1, M.2.2.2.2.1, M.2.2.2.2.2)) j (K9, D9, (M.2.1 j).2.2)) k v (by omega) (by omega)) (va_cwS 2 hts gX6_tellApart_X6_keyNow rfl rfl rfl hdX6_keyNow_2.2 ⟨Nat.le_of_ble_eq_true rfl, Nat.le_of_ble_eq_true rfl⟩) hX.preS rfl rfl hl.1 rfl (lv_room (Nat.le_of_ble_eq_true rfl)) dX6_tellApart_91 ⟨Nat.le_of_ble_eq_true rfl, Nat.le_of_ble_eq_true rfl⟩) (fun _ h => h) ?_
              refine lv_iload hx hb dX6_tellApart_94 (lv_at hl 6 rfl) ?_
              refine lv_iload_n hx hb dX6_tellApart_96 rfl (lv_at hl 3 rfl) ?_
              refine kx_cr (v := nI (numK k v2)) (va_runS (As := [.int (nI k), .int (nI v2)]) (rest := [.int (nI (numK k v))]) ⟨hx, hb, hml, hown, hts⟩ (m_X6_keyNow l dC dI am (mO (mN M (0, M.2.2.2.1, M.2.2.2.2.1, M.2.2.2.2.2)) j (K9, D9, (M.2.1 j).2.2)) k v2 (by omega) (by omega)) (va_cwS 2 hts gX6_tellApart_X6_keyNow rfl rfl rfl hdX6_keyNow_2.2 ⟨Nat.le_of_ble_eq_true rfl, Nat.le_of_ble_eq_true rfl⟩) hX.preS rfl rfl hl.1 rfl (lv_room (Nat.le_of_ble_eq_true rfl)) dX6_tellApart_97 ⟨Nat.le_of_ble_eq_true rfl, Nat.le_of_ble_eq_true rfl⟩) (fun _ h => h) ?_
              refine kn_icmp_ne (tgt := 106) hx hb (by omega) (by omega) dX6_tellApart_100 (by decide) (fun k_9 => ?_) (fun k_9 => ?_)
              · skip
                have h100 := k_9
                refine lv_aload_n hx hb dX6_tellApart_106 rfl (lv_at hl 0 rfl) ?_
                refine lv_iload_n hx hb dX6_tellApart_107 rfl (lv_at hl 1 rfl) ?_
                refine lv_iload hx hb dX6_tellApart_108 (lv_at hl 6 rfl) ?_
                refine lv_iconst (v := nI 0) hx hb dX6_tellApart_110 (by decide) ?_
                refine km_cv (va_runV (As := [.int (nI j), .int (nI k), .int (nI 0)]) (rest := []) ⟨hx, hb, hml, hown, hts⟩ (m_X6_add l dC dI am (mO (mN M (0, M.2.2.2.1, M.2.2.2.2.1, M.2.2.2.2.2)) j (K9, D9, (M.2.1 j).2.2)) j k false (by omega) (by rw [mO_ord]; show (M.2.1 j).2.2 < 5; omega)) (cwV 3 hts gX6_tellApart_X6_add rfl rfl rfl hdX6_add_3 ⟨Nat.le_of_ble_eq_true rfl, Nat.le_of_ble_eq_true rfl⟩) (hX.preObj) rfl rfl hl.1 rfl (lv_room (Nat.le_of_ble_eq_true rfl)) dX6_tellApart_111 ⟨Nat.le_of_ble_eq_true rfl, Nat.le_of_ble_eq_true rfl⟩) hX (fun _ h => h) (fun S_ H locs hw hX => ?_)
                rw [mO_ord, mO_mO] at hw
                subst hw
                refine lv_aload_n hx hb dX6_tellApart_114 rfl (lv_at hl 0 rfl) ?_
                refine lv_iload_n hx hb dX6_tellApart_115 rfl (lv_at hl 1 rfl) ?_
                refine kx_cr (v := nI (classC (codeOf (va_up K9 (M.2.1 j).2.2 k) (va_up D9 (M.2.1 j).2.2 false) ((M.2.1 j).2.2 + 1)))) (va_runV (As := [.int (nI j)]) (rest := []) ⟨hx, hb, hml, hown, hts⟩ (m_X6_classesNow l dC dI am (mO (mN M (0, M.2.2.2.1, M.2.2.2.2.1, M.2.2.2.2.2)) j (va_up K9 ((M.2.1 j).2.2) k, va_up D9 ((M.2.1 j).2.2) false, (M.2.1 j).2.2 + 1)) j (by omega) (by rw [mO_ord]; exact ordM_add (o := (K9, D9, (M.2.1 j).2.2)) ho9 (show (M.2.1 j).2.2 < 5 by omega) (by omega))) (cwV 1 hts gX6_tellApart_X6_classesNow rfl rfl rfl hdX6_classesNow_1 ⟨Nat.le_of_ble_eq_true rfl, Nat.le_of_ble_eq_true rfl⟩) (hX.preObj) rfl rfl hl.1 rfl (lv_room (Nat.le_of_ble_eq_true rfl)) dX6_tellApart_116 ⟨Nat.le_of_ble_eq_true rfl, Nat.le_of_ble_eq_true rfl⟩) (fun _ h => h.trans (by rw [cM_mO])) ?_
                have hce := coa_eq (M := M) (j := j) (k := k) hag
                have hcc := classC_le (codeOf (va_up K9 (M.2.1 j).2.2 k) (va_up D9 (M.2.1 j).2.2 false) ((M.2.1 j).2.2 + 1))
                have hfw : fw ≤ 17 := by rw [show fw = (coarse (coaM M j) (keyApart v v2) k).1 from congrArg Prod.fst hq]; exact coarse_le _ _ _
                refine lv_istore (lv' := [(7, .int (nI (classC (codeOf (va_up K9 (M.2.1 j).2.2 k) (va_up D9 (M.2.1 j).2.2 false) ((M.2.1 j).2.2 + 1))))), (0, .ref (am 0)), (1, .int (nI j)), (2, .int (nI v)), (3, .int (nI v2)), (4, .int x4), (5, .int (nI fw)), (6, .int (nI k))]) hx hb dX6_tellApart_119 hl (by decide) rfl (fun ls hl => ?_)
                refine lv_aload_n hx hb dX6_tellApart_121 rfl (lv_at hl 1 rfl) ?_
                refine km_gsteps hx hb hts hin6 hown hX (hts (.fieldLink RX6 29 "OrderlatticeModel" "steps" "[I") (tm 724 (by decide +kernel) rfl)) dX6_tellApart_122 ?_
                refine lv_iload_n hx hb dX6_tellApart_125 rfl (lv_at hl 2 rfl) ?_
                refine lv_dup2_11 hx hb dX6_tellApart_126 rfl rfl ?_
                refine km_lt (v := (M.2.1 j).2.2 + 1) hx hb hX (by omega) (by rw [mO_ord] <;> rfl) dX6_tellApart_127 ?_
                refine lv_iconst (v := nI 1) hx hb dX6_tellApart_128 (by decide) ?_
                refine kn_isub hx hb (by omega) dX6_tellApart_129 ?_
                refine km_st (M' := (mO (mN M (0, M.2.2.2.1, M.2.2.2.2.1, M.2.2.2.2.2)) j (va_up K9 ((M.2.1 j).2.2) k, va_up D9 ((M.2.1 j).2.2) false, ((M.2.1 j).2.2 + 1) - 1))) hx hb hX  (by omega) (by rw [mO_ord, mO_mO]) dX6_tellApart_130 (fun H locs hX => ?_)
                refine lv_iload hx hb dX6_tellApart_131 (lv_at hl 0 rfl) ?_
                refine lv_iload hx hb dX6_tellApart_133 (lv_at hl 6 rfl) ?_
                refine kn_icmp_lt (tgt := 141) hx hb (by omega) (by omega) dX6_tellApart_135 (by decide) (fun k_10 => ?_) (fun k_10 => ?_)
                · skip
                  have h135 := k_10
                  refine lv_iload hx hb dX6_tellApart_141 (lv_at hl 0 rfl) ?_
                  refine lv_istore (lv' := [(5, .int (nI (classC (codeOf (va_up K9 (M.2.1 j).2.2 k) (va_up D9 (M.2.1 j).2.2 false) ((M.2.1 j).2.2 + 1))))), (7, .int (nI (classC (codeOf (va_up K9 (M.2.1 j).2.2 k) (va_up D9 (M.2.1 j).2.2 false) ((M.2.1 j).2.2 + 1))))), (0, .ref (am 0)), (1, .int (nI j)), (2, .int (nI v)), (3, .int (nI v2)), (4, .int x4), (6, .int (nI k))]) hx hb dX6_tellApart_143 hl (by decide) rfl (fun ls hl => ?_)
                  refine lv_iload hx hb dX6_tellApart_145 (lv_at hl 7 rfl) ?_
                  refine lv_istore (lv' := [(4, .int (nI k)), (5, .int (nI (classC (codeOf (va_up K9 (M.2.1 j).2.2 k) (va_up D9 (M.2.1 j).2.2 false) ((M.2.1 j).2.2 + 1))))), (7, .int (nI (classC (codeOf (va_up K9 (M.2.1 j).2.2 k) (va_up D9 (M.2.1 j).2.2 false) ((M.2.1 j).2.2 + 1))))), (0, .ref (am 0)), (1, .int (nI j)), (2, .int (nI v)), (3, .int (nI v2)), (6, .int (nI k))]) hx hb dX6_tellApart_147 hl (by decide) rfl (fun ls hl => ?_)
                  refine lv_iinc (v := nI (k + 1)) (lv' := [(6, .int (nI (k + 1))), (4, .int (nI k)), (5, .int (nI (classC (codeOf (va_up K9 (M.2.1 j).2.2 k) (va_up D9 (M.2.1 j).2.2 false) ((M.2.1 j).2.2 + 1))))), (7, .int (nI (classC (codeOf (va_up K9 (M.2.1 j).2.2 k) (va_up D9 (M.2.1 j).2.2 false) ((M.2.1 j).2.2 + 1))))), (0, .ref (am 0)), (1, .int (nI j)), (2, .int (nI v)), (3, .int (nI v2))]) hx hb dX6_tellApart_149 hl (k := 7) rfl (nI_1 k) (by decide) rfl (fun ls hl => ?_)
                  refine lv_goto (tgt := 81) hx hb dX6_tellApart_152 (by decide) ?_
                  exact ih81  (va_up K9 ((M.2.1 j).2.2) k) (va_up D9 ((M.2.1 j).2.2) false) (nI k) k (classC (codeOf (va_up K9 (M.2.1 j).2.2 k) (va_up D9 (M.2.1 j).2.2 false) ((M.2.1 j).2.2 + 1))) (k + 1) (fun x hx => ⟨by rw [va_up_ne _ _ (by omega)]; exact (hag x hx).1, by rw [va_up_ne _ _ (by omega)]; exact (hag x hx).2⟩) (ordM_up (o := M.2.1 j) ho9 (by omega)) (by omega) (fun _ => rfl) (by rw [hce]; exact coarse_new (keyApart_yes h100) (by rw [← hce]; have h17 := congrArg Prod.fst hq; dsimp only at h17; omega) hq) _ _ (by omega) hX _ (lv_sub hl [4, 5, 6, 7, 1, 2, 0] rfl)
                · skip
                  have h135 := k_10
                  refine lv_goto (tgt := 149) hx hb dX6_tellApart_138 (by decide) ?_
                  refine lv_iinc (v := nI (k + 1)) (lv' := [(6, .int (nI (k + 1))), (7, .int (nI (classC (codeOf (va_up K9 (M.2.1 j).2.2 k) (va_up D9 (M.2.1 j).2.2 false) ((M.2.1 j).2.2 + 1))))), (0, .ref (am 0)), (1, .int (nI j)), (2, .int (nI v)), (3, .int (nI v2)), (4, .int x4), (5, .int (nI fw))]) hx hb dX6_tellApart_149 hl (k := 7) rfl (nI_1 k) (by decide) rfl (fun ls hl => ?_)
                  refine lv_goto (tgt := 81) hx hb dX6_tellApart_152 (by decide) ?_
                  exact ih81  (va_up K9 ((M.2.1 j).2.2) k) (va_up D9 ((M.2.1 j).2.2) false) x4 bb fw (k + 1) (fun x hx => ⟨by rw [va_up_ne _ _ (by omega)]; exact (hag x hx).1, by rw [va_up_ne _ _ (by omega)]; exact (hag x hx).2⟩) (ordM_up (o := M.2.1 j) ho9 (by omega)) (by omega) (fun _ => hx4 (Nat.pos_of_ne_zero (fun e => by subst e; have h17 : fw = 17 := congrArg Prod.fst hq; omega))) (coarse_no (Or.inr (by rw [← hce]; have h17 := congrArg Prod.fst hq; dsimp only at h17; omega)) hq) _ _ (by omega) hX _ (lv_sub hl [2, 3, 4, 5, 6, 7, 0] rfl)
              · skip
                have h100 := k_9
                refine lv_goto (tgt := 149) hx hb dX6_tellApart_103 (by decide) ?_
                refine lv_iinc (v := nI (k + 1)) (lv' := [(6, .int (nI (k + 1))), (0, .ref (am 0)), (1, .int (nI j)), (2, .int (nI v)), (3, .int (nI v2)), (4, .int x4), (5, .int (nI fw))]) hx hb dX6_tellApart_149 hl (k := 6) rfl (nI_1 k) (by decide) rfl (fun ls hl => ?_)
                refine lv_goto (tgt := 81) hx hb dX6_tellApart_152 (by decide) ?_
                exact ih81  K9 D9 x4 bb fw (k + 1) hag ho9 (by omega) (fun _ => hx4 (Nat.pos_of_ne_zero (fun e => by subst e; exact h53 h100))) (coarse_no (Or.inl (keyApart_no h100)) hq) _ _ (by omega) hX _ (lv_sub hl [1, 2, 3, 4, 5, 6, 0] rfl)
        exact loop81 (8 + 1) ((M.2.1 j).1) ((M.2.1 j).2.1) (-1) 0 17 0 (fun x _ => ⟨rfl, rfl⟩) (hI.2 j (by omega)) (by omega) (fun h => absurd h (by decide)) rfl _ _ (by omega) (WM.eqS (mO_self _ j).symm hX) _ (lv_sub hl [3, 4, 5, 6, 2, 1, 0] rfl)
      · skip
        have h63 := k_7
        refine lv_aload_n hx hb dX6_tellApart_66 rfl (lv_at hl 0 rfl) ?_
        refine km_ci (va_runV (As := []) (rest := []) ⟨hx, hb, hml, hown, hts⟩ (m_X6_no l dC dI am (mN M (0, M.2.2.2.1, M.2.2.2.2.1, M.2.2.2.2.2)) ) (cwV 0 hts gX6_tellApart_X6_no rfl rfl rfl hdX6_no_0 ⟨Nat.le_of_ble_eq_true rfl, Nat.le_of_ble_eq_true rfl⟩) (hX.preObj) rfl rfl hl.1 rfl (lv_room (Nat.le_of_ble_eq_true rfl)) dX6_tellApart_67 ⟨Nat.le_of_ble_eq_true rfl, Nat.le_of_ble_eq_true rfl⟩) hX (fun _ h => h) (fun r_ S_ H locs hw hX => ?_)
        obtain ⟨rfl, rfl⟩ := hw
        exact W.iret (v := (-9)) hx hb hr (fun t9 ht9 hW9 => ⟨⟨_, (mN M (0, M.2.2.2.1, M.2.2.2.2.1 + 1, M.2.2.2.2.2)), rfl, (Or.inr ⟨Or.inr (Or.inr (by omega)), rfl, rfl⟩), hX.P ht9 hW9⟩, hX.2.2.2.F ht9⟩) hX.2.2.2.2.2 dX6_tellApart_70
end
section
set_option maxHeartbeats 4000000 in
set_option maxRecDepth 100000 in
theorem m_X6_thrown (l : Launch) (dC : Nat → ClassId) (dI : Nat → Nat → Nat) (am : Nat → Nat) (M : MS) : Met l yX6_thrown wsX6_thrown ({ frames := 0, cells := 0, slots := 0, locals := 0 } : Room) (va_Pc [.ref (am 0)] (PM dC dI am M)) (vp_Si (fun r => r = nI M.2.2.1)) 0 0 (fun _ => False) := by
  refine Met.ofW (cc := cX6_thrown) (maxL := 1) (ret := (some .int)) pl_X6 rfl ?_
  intro p e s m args below meth c s₁ B hml hv
  obtain ⟨rfl, hPX⟩ := hv
  have hx := B.exec
  have hb := B.bytes
  have hr := B.returns
  have hts := atoms_spec (ws := wsX6_thrown) B.pre
  have hown : s.vm.findClass RX6 = some m.cls := findClass_of_methodNamed B.named
  have hlocks := B.notSynchronized
  have hin6 : ∀ w ∈ u_ws RX6 TX6 10, w ∈ wsX6_thrown := tu 1331 (by decide +kernel) rfl
  have hX := WM.of hPX
  have hl := lv_entry ([.ref (am 0)]) (n := 1) (Nat.le_of_ble_eq_true rfl)
  rw [lg_entry_eq]
  generalize (lg_sl ([.ref (am 0)]) ++ List.replicate (1 - (lg_sl ([.ref (am 0)])).length) Slot.unset).toArray = ls at hl ⊢
  have hl : lv_has ls 1 [(0, .ref (am 0))] := hl
  show W p l e ({ frames := 0, cells := 0, slots := 0, locals := 0 } : Room) s m ([.ref (am 0)]).toArray below meth c s.heap [] 0 0 (MQ below (vp_Si (fun r => r = nI M.2.2.1)) ([.ref (am 0)]).toArray s 0 0 (fun _ => False)) (F0 m 0 ls [])
  refine lv_aload_n hx hb dX6_thrown_0 rfl (lv_at hl 0 rfl) ?_
  refine km_gthrown (n := M.2.2.1) hx hb hts hin6 hown hX rfl (hts (.fieldLink RX6 32 "OrderlatticeModel" "thrown" "I") (tm 693 (by decide +kernel) rfl)) dX6_thrown_1 ?_
  exact W.iret (v := nI M.2.2.1) hx hb hr (fun t9 ht9 hW9 => ⟨_, rfl, rfl, ht9⟩) (fun _ h => nomatch h) dX6_thrown_4
end
