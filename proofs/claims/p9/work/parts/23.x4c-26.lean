section
/-! the object's inner methods -/
def bothI (a b c d : Nat) : Int32 := if a ≠ b ∧ cmpI a b = -cmpI c d then nI 2 else if a ≠ b then cmpI a b else cmpI c d
theorem both_2 {a b c d : Nat} (h : a ≠ b) (h2 : cmpI a b = -cmpI c d) : nI 2 = bothI a b c d := (if_pos ⟨h, h2⟩).symm
theorem both_x {a b c d : Nat} (h : a ≠ b) (h2 : ¬ (a ≠ b ∧ cmpI a b = -cmpI c d)) : cmpI a b = bothI a b c d := by rw [bothI, if_neg h2, if_pos h]
theorem both_y {a b c d : Nat} (h : a = b) : cmpI c d = bothI a b c d := by rw [bothI, if_neg (fun z => z.1 h), if_neg (fun z => z h)]
def sumN (f : Nat → Nat) : Nat → Nat
  | 0 => 0
  | n + 1 => sumN f n + f n
def apartR (c d : Nat → Nat) (a : Nat) : Nat := cntB (fun y => decide (a < y) && decide (bothI (c a) (c y) (d a) (d y) = nI 2)) 16
def apartN (c d : Nat → Nat) : Nat := sumN (apartR c d) 16
def countX (S : XS) (k : Nat) : Nat := match k with
  | 0 => sumN (fun k => (S.1 k).2.2) 3
  | 1 => sumN (fun k => (S.2.1 k).2.2.2.2.1) 4
  | 2 => S.2.2.1
  | 3 => S.2.2.2.1
  | _ => S.2.2.2.2
def refT (S : XS) : XS := xN S (S.2.2.1, S.2.2.2.1 + 1, S.2.2.2.2)
def placeT (S : XS) (i q v : Nat) : XS := xR (xN S (S.2.2.1 + 1, S.2.2.2.1, S.2.2.2.2)) i (va_up (shr (S.1 i).1 (S.1 i).2.2 q) q v, va_up (shr (S.1 i).2.1 (S.1 i).2.2 q) q S.2.2.1, (S.1 i).2.2 + 1)
/-- of the keys of p the one with the fewest: how few, and which -/
def coarse (cl : Nat → Nat) (p : Nat → Bool) : Nat → Nat × Nat
  | 0 => (17, 0)
  | n + 1 => if p n = true ∧ cl n < (coarse cl p n).1 then (cl n, n) else coarse cl p n
def coarseC (o : OrdS) (k : Nat) : Nat := classC (codeOf (va_up o.1 o.2.2.2.2.1 k) (va_up o.2.1 o.2.2.2.2.1 false) (o.2.2.2.2.1 + 1))
def keyApart (v u k : Nat) : Bool := decide (numK k v ≠ numK k u)
theorem keyApart_no {v u k : Nat} (h : numK k v = numK k u) : keyApart v u k = false := decide_eq_false (fun z => z h)
theorem keyApart_yes {v u k : Nat} (h : numK k v ≠ numK k u) : keyApart v u k = true := decide_eq_true h
theorem coarse_no {cl : Nat → Nat} {p : Nat → Bool} {n : Nat} {x : Nat × Nat} (h : p n = false ∨ ¬ cl n < (coarse cl p n).1) (hx : x = coarse cl p n) : x = coarse cl p (n + 1) := by
  rw [coarse, if_neg, hx]
  intro z
  rcases h with h | h
  · rw [h] at z; exact absurd z.1 (by decide)
  · exact h z.2
theorem coarse_new {cl : Nat → Nat} {p : Nat → Bool} {n : Nat} {x : Nat × Nat} (h : p n = true) (h2 : cl n < (coarse cl p n).1) (_ : x = coarse cl p n) : (cl n, n) = coarse cl p (n + 1) := by
  rw [coarse, if_pos ⟨h, h2⟩]
theorem coarse_le (cl : Nat → Nat) (p : Nat → Bool) : ∀ n, (coarse cl p n).1 ≤ 17
  | 0 => Nat.le_refl _
  | n + 1 => by
    have ih := coarse_le cl p n
    rw [coarse]
    split
    · rename_i h; have := h.2; show cl n ≤ 17; omega
    · exact ih
theorem classC_cong {c d : Nat → Nat} (h : ∀ v, v < 16 → c v = d v) : classC c = classC d := by
  refine cntB_cong (fun k hk => ?_)
  unfold headB
  congr 1
  apply propext
  exact ⟨fun q a ha => by rw [← h a (by omega), ← h k hk]; exact q a ha, fun q a ha => by rw [h a (by omega), h k hk]; exact q a ha⟩
theorem coarse_eq {o : OrdS} {K0 : Nat → Nat} {D0 : Nat → Bool} (k : Nat) : classC (codeOf (va_up (apn K0 o.1 0 o.2.2.2.2.1) o.2.2.2.2.1 k) (va_up (apn D0 o.2.1 0 o.2.2.2.2.1) o.2.2.2.2.1 false) (o.2.2.2.2.1 + 1)) = coarseC o k := by
  refine classC_cong (fun v _ => codeOf_cong (fun q hq => ?_))
  unfold va_up
  by_cases e : q = o.2.2.2.2.1
  · rw [if_pos e, if_pos e, if_pos e, if_pos e]; exact ⟨rfl, rfl⟩
  · rw [if_neg e, if_neg e, if_neg e, if_neg e]
    unfold apn
    rw [if_pos (by omega), if_pos (by omega), Nat.sub_zero]
    exact ⟨rfl, rfl⟩
set_option maxHeartbeats 4000000 in
set_option maxRecDepth 100000 in
theorem m_X4_comparedByBoth (l : Launch) (dC : Nat → ClassId) (dI : Nat → Nat → Nat) (ad : Nat → Nat) (S : XS) (j t v u : Nat) (hj : j < 6) (ht : t < 6) (ho : ordOK (S.2.1 j)) (ho2 : ordOK (S.2.1 t)) (hv : v < 16) (hu : u < 16) : Met l yX4_comparedByBoth wsX4_comparedByBoth ({ frames := 1, cells := 0, slots := 0, locals := 26 } : Room) (va_Pc [.ref (ad (24 + 5 * j)), .ref (ad (24 + 5 * t)), .int (nI v), .int (nI u)] (PX dC dI ad S)) (vp_Si (fun r => r = bothI ((S.2.1 j).2.2.1 v) ((S.2.1 j).2.2.1 u) ((S.2.1 t).2.2.1 v) ((S.2.1 t).2.2.1 u))) 0 0 (fun _ => False) := by
  refine Met.ofW (cc := cX4_comparedByBoth) (maxL := 6) (ret := (some .int)) pl_X4 rfl ?_
  intro p e s m args below meth c s₁ B hml hv
  obtain ⟨rfl, hPX⟩ := hv
  have hx := B.exec
  have hb := B.bytes
  have hr := B.returns
  have hts := atoms_spec (ws := wsX4_comparedByBoth) B.pre
  have hown : s.vm.findClass RX4 = some m.cls := findClass_of_methodNamed B.named
  have hlocks := B.notSynchronized
  have hX := WX.of hPX
  have hl := lv_entry ([.ref (ad (24 + 5 * j)), .ref (ad (24 + 5 * t)), .int (nI v), .int (nI u)]) (n := 6) (Nat.le_of_ble_eq_true rfl)
  rw [lg_entry_eq]
  generalize (lg_sl ([.ref (ad (24 + 5 * j)), .ref (ad (24 + 5 * t)), .int (nI v), .int (nI u)]) ++ List.replicate (6 - (lg_sl ([.ref (ad (24 + 5 * j)), .ref (ad (24 + 5 * t)), .int (nI v), .int (nI u)])).length) Slot.unset).toArray = ls at hl ⊢
  have hl : lv_has ls 6 [(0, .ref (ad (24 + 5 * j))), (1, .ref (ad (24 + 5 * t))), (2, .int (nI v)), (3, .int (nI u))] := hl
  show W p l e ({ frames := 1, cells := 0, slots := 0, locals := 26 } : Room) s m ([.ref (ad (24 + 5 * j)), .ref (ad (24 + 5 * t)), .int (nI v), .int (nI u)]).toArray below meth c s.heap [] 0 0 (MQ below (vp_Si (fun r => r = bothI ((S.2.1 j).2.2.1 v) ((S.2.1 j).2.2.1 u) ((S.2.1 t).2.2.1 v) ((S.2.1 t).2.2.1 u))) ([.ref (ad (24 + 5 * j)), .ref (ad (24 + 5 * t)), .int (nI v), .int (nI u)]).toArray s 0 0 (fun _ => False)) (F0 m 0 ls [])
  have hI : (∀ i, i < 0 → rowOK (S.1 i)) ∧ ∀ k, k = j ∨ k = t → ordOK (S.2.1 k) := ⟨fun _ h => absurd h (Nat.not_lt_zero _), fun k h => by rcases h with rfl | rfl <;> assumption⟩
  refine lv_aload_n hx hb dX4_comparedByBoth_0 rfl (lv_at hl 0 rfl) ?_
  refine lv_iload_n hx hb dX4_comparedByBoth_1 rfl (lv_at hl 2 rfl) ?_
  refine lv_iload_n hx hb dX4_comparedByBoth_2 rfl (lv_at hl 3 rfl) ?_
  refine kx_cr (v := cmpI ((S.2.1 j).2.2.1 v) ((S.2.1 j).2.2.1 u)) (va_runV (As := [.int (nI v), .int (nI u)]) (rest := []) ⟨hx, hb, hml, hown, hts⟩ (m_X1_compared l dC dI ad S j v u (by omega) (hI.2 j (by omega)) (by omega) (by omega)) (cwV 2 hts gX4_comparedByBoth_X1_compared rfl rfl rfl hdX1_compared_2 ⟨Nat.le_of_ble_eq_true rfl, Nat.le_of_ble_eq_true rfl⟩) (hX.preOrd (by omega)) rfl rfl hl.1 rfl (lv_room (Nat.le_of_ble_eq_true rfl)) dX4_comparedByBoth_3 ⟨Nat.le_of_ble_eq_true rfl, Nat.le_of_ble_eq_true rfl⟩) (fun _ h => h) ?_
  refine lv_istore (lv' := [(4, .int (cmpI ((S.2.1 j).2.2.1 v) ((S.2.1 j).2.2.1 u))), (0, .ref (ad (24 + 5 * j))), (1, .ref (ad (24 + 5 * t))), (2, .int (nI v)), (3, .int (nI u))]) hx hb dX4_comparedByBoth_6 hl (by decide) rfl (fun ls hl => ?_)
  refine lv_aload_n hx hb dX4_comparedByBoth_8 rfl (lv_at hl 2 rfl) ?_
  refine lv_iload_n hx hb dX4_comparedByBoth_9 rfl (lv_at hl 3 rfl) ?_
  refine lv_iload_n hx hb dX4_comparedByBoth_10 rfl (lv_at hl 4 rfl) ?_
  refine kx_cr (v := cmpI ((S.2.1 t).2.2.1 v) ((S.2.1 t).2.2.1 u)) (va_runV (As := [.int (nI v), .int (nI u)]) (rest := []) ⟨hx, hb, hml, hown, hts⟩ (m_X1_compared l dC dI ad S t v u (by omega) (hI.2 t (by omega)) (by omega) (by omega)) (cwV 2 hts gX4_comparedByBoth_X1_compared rfl rfl rfl hdX1_compared_2 ⟨Nat.le_of_ble_eq_true rfl, Nat.le_of_ble_eq_true rfl⟩) (hX.preOrd (by omega)) rfl rfl hl.1 rfl (lv_room (Nat.le_of_ble_eq_true rfl)) dX4_comparedByBoth_11 ⟨Nat.le_of_ble_eq_true rfl, Nat.le_of_ble_eq_true rfl⟩) (fun _ h => h) ?_
  refine lv_istore (lv' := [(5, .int (cmpI ((S.2.1 t).2.2.1 v) ((S.2.1 t).2.2.1 u))), (4, .int (cmpI ((S.2.1 j).2.2.1 v) ((S.2.1 j).2.2.1 u))), (0, .ref (ad (24 + 5 * j))), (1, .ref (ad (24 + 5 * t))), (2, .int (nI v)), (3, .int (nI u))]) hx hb dX4_comparedByBoth_14 hl (by decide) rfl (fun ls hl => ?_)
  refine lv_iload hx hb dX4_comparedByBoth_16 (lv_at hl 1 rfl) ?_
  refine kc_if_eq (tgt := 31) hx hb dX4_comparedByBoth_18 (by decide) (fun k_1 => ?_) (fun k_1 => ?_)
  · skip
    have h1 := k_1
    refine lv_iload hx hb dX4_comparedByBoth_31 (lv_at hl 1 rfl) ?_
    refine kc_if_eq (tgt := 41) hx hb dX4_comparedByBoth_33 (by decide) (fun k_2 => ?_) (fun k_2 => ?_)
    · skip
      have h3 := k_2
      refine lv_iload hx hb dX4_comparedByBoth_41 (lv_at hl 0 rfl) ?_
      exact W.iret (v := cmpI ((S.2.1 t).2.2.1 v) ((S.2.1 t).2.2.1 u)) hx hb hr (fun t9 ht9 hW9 => ⟨_, rfl, (both_y h3), ht9⟩) (fun _ h => nomatch h) dX4_comparedByBoth_43
    · skip
      have h3 := k_2
      refine lv_iload hx hb dX4_comparedByBoth_36 (lv_at hl 1 rfl) ?_
      refine lv_goto (tgt := 43) hx hb dX4_comparedByBoth_38 (by decide) ?_
      exact W.iret (v := cmpI ((S.2.1 j).2.2.1 v) ((S.2.1 j).2.2.1 u)) hx hb hr (fun t9 ht9 hW9 => ⟨_, rfl, (both_x (by omega) (fun z => z.1 h1)), ht9⟩) (fun _ h => nomatch h) dX4_comparedByBoth_43
  · skip
    have h1 := k_1
    refine lv_iload hx hb dX4_comparedByBoth_21 (lv_at hl 1 rfl) ?_
    refine lv_iload hx hb dX4_comparedByBoth_23 (lv_at hl 0 rfl) ?_
    refine lv_ineg hx hb dX4_comparedByBoth_25 ?_
    refine lv_icmp_ne (tgt := 31) hx hb dX4_comparedByBoth_26 (by decide) (fun k_3 => ?_) (fun k_3 => ?_)
    · skip
      have h2 := k_3
      refine lv_iload hx hb dX4_comparedByBoth_31 (lv_at hl 1 rfl) ?_
      refine kc_if_eq (tgt := 41) hx hb dX4_comparedByBoth_33 (by decide) (fun k_4 => ?_) (fun k_4 => ?_)
      · skip
        have h3 := k_4
        refine lv_iload hx hb dX4_comparedByBoth_41 (lv_at hl 0 rfl) ?_
        exact W.iret (v := cmpI ((S.2.1 t).2.2.1 v) ((S.2.1 t).2.2.1 u)) hx hb hr (fun t9 ht9 hW9 => ⟨_, rfl, (both_y h3), ht9⟩) (fun _ h => nomatch h) dX4_comparedByBoth_43
      · skip
        have h3 := k_4
        refine lv_iload hx hb dX4_comparedByBoth_36 (lv_at hl 1 rfl) ?_
        refine lv_goto (tgt := 43) hx hb dX4_comparedByBoth_38 (by decide) ?_
        exact W.iret (v := cmpI ((S.2.1 j).2.2.1 v) ((S.2.1 j).2.2.1 u)) hx hb hr (fun t9 ht9 hW9 => ⟨_, rfl, (both_x (by omega) (fun z => h2 z.2)), ht9⟩) (fun _ h => nomatch h) dX4_comparedByBoth_43
    · skip
      have h2 := k_3
      refine lv_iconst (v := nI 2) hx hb dX4_comparedByBoth_29 (by decide) ?_
      exact W.iret (v := nI 2) hx hb hr (fun t9 ht9 hW9 => ⟨_, rfl, (both_2 h1 h2), ht9⟩) (fun _ h => nomatch h) dX4_comparedByBoth_30
set_option maxHeartbeats 4000000 in
set_option maxRecDepth 100000 in
theorem m_X4_pairsApart (l : Launch) (dC : Nat → ClassId) (dI : Nat → Nat → Nat) (ad : Nat → Nat) (S : XS) (j t : Nat) (hj : j < 6) (ht : t < 6) (ho : ordOK (S.2.1 j)) (ho2 : ordOK (S.2.1 t)) : Met l yX4_pairsApart wsX4_pairsApart ({ frames := 2, cells := 0, slots := 0, locals := 51 } : Room) (va_Pc [.ref (ad (24 + 5 * j)), .ref (ad (24 + 5 * t))] (PX dC dI ad S)) (vp_Si (fun r => r = nI (apartN (S.2.1 j).2.2.1 (S.2.1 t).2.2.1))) 0 0 (fun _ => False) := by
  refine Met.ofW (cc := cX4_pairsApart) (maxL := 5) (ret := (some .int)) pl_X4 rfl ?_
  intro p e s m args below meth c s₁ B hml hv
  obtain ⟨rfl, hPX⟩ := hv
  have hx := B.exec
  have hb := B.bytes
  have hr := B.returns
  have hts := atoms_spec (ws := wsX4_pairsApart) B.pre
  have hown : s.vm.findClass RX4 = some m.cls := findClass_of_methodNamed B.named
  have hlocks := B.notSynchronized
  have hX := WX.of hPX
  have hl := lv_entry ([.ref (ad (24 + 5 * j)), .ref (ad (24 + 5 * t))]) (n := 5) (Nat.le_of_ble_eq_true rfl)
  rw [lg_entry_eq]
  generalize (lg_sl ([.ref (ad (24 + 5 * j)), .ref (ad (24 + 5 * t))]) ++ List.replicate (5 - (lg_sl ([.ref (ad (24 + 5 * j)), .ref (ad (24 + 5 * t))])).length) Slot.unset).toArray = ls at hl ⊢
  have hl : lv_has ls 5 [(0, .ref (ad (24 + 5 * j))), (1, .ref (ad (24 + 5 * t)))] := hl
  show W p l e ({ frames := 2, cells := 0, slots := 0, locals := 51 } : Room) s m ([.ref (ad (24 + 5 * j)), .ref (ad (24 + 5 * t))]).toArray below meth c s.heap [] 0 0 (MQ below (vp_Si (fun r => r = nI (apartN (S.2.1 j).2.2.1 (S.2.1 t).2.2.1))) ([.ref (ad (24 + 5 * j)), .ref (ad (24 + 5 * t))]).toArray s 0 0 (fun _ => False)) (F0 m 0 ls [])
  have hI : (∀ i, i < 0 → rowOK (S.1 i)) ∧ ∀ k, k = j ∨ k = t → ordOK (S.2.1 k) := ⟨fun _ h => absurd h (Nat.not_lt_zero _), fun k h => by rcases h with rfl | rfl <;> assumption⟩
  refine lv_iconst (v := nI 0) hx hb dX4_pairsApart_0 (by decide) ?_
  refine lv_istore_n (lv' := [(2, .int (nI 0)), (0, .ref (ad (24 + 5 * j))), (1, .ref (ad (24 + 5 * t)))]) hx hb dX4_pairsApart_1 rfl hl (by decide) rfl (fun ls hl => ?_)
  refine lv_iconst (v := nI 0) hx hb dX4_pairsApart_2 (by decide) ?_
  refine lv_istore_n (lv' := [(3, .int (nI 0)), (2, .int (nI 0)), (0, .ref (ad (24 + 5 * j))), (1, .ref (ad (24 + 5 * t)))]) hx hb dX4_pairsApart_3 rfl hl (by decide) rfl (fun ls hl => ?_)
  have loop4 : ∀ (fuel : Nat) (q a : Nat) (ha : a ≤ 16) (hq : q = sumN (apartR (S.2.1 j).2.2.1 (S.2.1 t).2.2.1) a), 16 - a < fuel → ∀ ls : Array Slot, lv_has ls 5 [(0, .ref (ad (24 + 5 * j))), (1, .ref (ad (24 + 5 * t))), (2, .int (nI q)), (3, .int (nI a))] → W p l e ({ frames := 2, cells := 0, slots := 0, locals := 51 } : Room) s m ([.ref (ad (24 + 5 * j)), .ref (ad (24 + 5 * t))]).toArray below meth c s.heap [] 0 0 (MQ below (vp_Si (fun r => r = nI (apartN (S.2.1 j).2.2.1 (S.2.1 t).2.2.1))) ([.ref (ad (24 + 5 * j)), .ref (ad (24 + 5 * t))]).toArray s 0 0 (fun _ => False)) (F0 m 4 ls []) := by
    intro fuel
    induction fuel with
    | zero => intro q a ha hq hf; exact absurd hf (Nat.not_lt_zero _)
    | succ fuel ih4 =>
      intro q a ha hq hf ls hl
      refine lv_iload_n hx hb dX4_pairsApart_4 rfl (lv_at hl 3 rfl) ?_
      refine lv_bipush (v := nI 16) hx hb dX4_pairsApart_5 (by decide) ?_
      refine kn_icmp_ge (tgt := 49) hx hb (by omega) (by omega) dX4_pairsApart_7 (by decide) (fun k_1 => ?_) (fun k_1 => ?_)
      · skip
        refine lv_iload_n hx hb dX4_pairsApart_49 rfl (lv_at hl 2 rfl) ?_
        exact W.iret (v := nI q) hx hb hr (fun t9 ht9 hW9 => ⟨_, rfl, (by rw [hq, show a = 16 by omega]; rfl), ht9⟩) (fun _ h => nomatch h) dX4_pairsApart_50
      · skip
        refine lv_iload_n hx hb dX4_pairsApart_10 rfl (lv_at hl 3 rfl) ?_
        refine lv_iconst (v := nI 1) hx hb dX4_pairsApart_11 (by decide) ?_
        refine kn_iadd hx hb dX4_pairsApart_12 ?_
        refine lv_istore (lv' := [(4, .int (nI (a + 1))), (0, .ref (ad (24 + 5 * j))), (1, .ref (ad (24 + 5 * t))), (2, .int (nI q)), (3, .int (nI a))]) hx hb dX4_pairsApart_13 hl (by decide) rfl (fun ls hl => ?_)
        have loop15 : ∀ (fuel : Nat) (x b : Nat) (hb3 : a < b ∧ b ≤ 16) (hp : x = sumN (apartR (S.2.1 j).2.2.1 (S.2.1 t).2.2.1) a + cntB (fun y => decide (a < y) && decide (bothI ((S.2.1 j).2.2.1 a) ((S.2.1 j).2.2.1 y) ((S.2.1 t).2.2.1 a) ((S.2.1 t).2.2.1 y) = nI 2)) b), 16 - b < fuel → ∀ ls : Array Slot, lv_has ls 5 [(0, .ref (ad (24 + 5 * j))), (1, .ref (ad (24 + 5 * t))), (2, .int (nI x)), (3, .int (nI a)), (4, .int (nI b))] → W p l e ({ frames := 2, cells := 0, slots := 0, locals := 51 } : Room) s m ([.ref (ad (24 + 5 * j)), .ref (ad (24 + 5 * t))]).toArray below meth c s.heap [] 0 0 (MQ below (vp_Si (fun r => r = nI (apartN (S.2.1 j).2.2.1 (S.2.1 t).2.2.1))) ([.ref (ad (24 + 5 * j)), .ref (ad (24 + 5 * t))]).toArray s 0 0 (fun _ => False)) (F0 m 15 ls []) := by
          intro fuel
          induction fuel with
          | zero => intro x b hb3 hp hf; exact absurd hf (Nat.not_lt_zero _)
          | succ fuel ih15 =>
            intro x b hb3 hp hf ls hl
            refine lv_iload hx hb dX4_pairsApart_15 (lv_at hl 4 rfl) ?_
            refine lv_bipush (v := nI 16) hx hb dX4_pairsApart_17 (by decide) ?_
            refine kn_icmp_ge (tgt := 43) hx hb (by omega) (by omega) dX4_pairsApart_19 (by decide) (fun k_2 => ?_) (fun k_2 => ?_)
            · skip
              refine lv_iinc (v := nI (a + 1)) (lv' := [(3, .int (nI (a + 1))), (0, .ref (ad (24 + 5 * j))), (1, .ref (ad (24 + 5 * t))), (2, .int (nI x)), (4, .int (nI b))]) hx hb dX4_pairsApart_43 hl (k := 3) rfl (nI_1 a) (by decide) rfl (fun ls hl => ?_)
              refine lv_goto (tgt := 4) hx hb dX4_pairsApart_46 (by decide) ?_
              exact ih4  x (a + 1) (by omega) (by rw [hp, show b = 16 by omega]; rfl) (by omega) _ (lv_sub hl [1, 2, 3, 0] rfl)
            · skip
              refine lv_aload_n hx hb dX4_pairsApart_22 rfl (lv_at hl 0 rfl) ?_
              refine lv_aload_n hx hb dX4_pairsApart_23 rfl (lv_at hl 1 rfl) ?_
              refine lv_iload_n hx hb dX4_pairsApart_24 rfl (lv_at hl 3 rfl) ?_
              refine lv_iload hx hb dX4_pairsApart_25 (lv_at hl 4 rfl) ?_
              refine kx_cr (v := (bothI ((S.2.1 j).2.2.1 a) ((S.2.1 j).2.2.1 b) ((S.2.1 t).2.2.1 a) ((S.2.1 t).2.2.1 b))) (va_runS (As := [.ref (ad (24 + 5 * j)), .ref (ad (24 + 5 * t)), .int (nI a), .int (nI b)]) (rest := []) ⟨hx, hb, hml, hown, hts⟩ (m_X4_comparedByBoth l dC dI ad S j t a b (by omega) (by omega) (hI.2 j (by omega)) (hI.2 t (by omega)) (by omega) (by omega)) (va_cwS 4 hts gX4_pairsApart_X4_comparedByBoth rfl rfl rfl hdX4_comparedByBoth_4.2 ⟨Nat.le_of_ble_eq_true rfl, Nat.le_of_ble_eq_true rfl⟩) hX.preS rfl rfl hl.1 rfl (lv_room (Nat.le_of_ble_eq_true rfl)) dX4_pairsApart_27 ⟨Nat.le_of_ble_eq_true rfl, Nat.le_of_ble_eq_true rfl⟩) (fun _ h => h) ?_
              refine lv_iconst (v := nI 2) hx hb dX4_pairsApart_30 (by decide) ?_
              refine lv_icmp_ne (tgt := 37) hx hb dX4_pairsApart_31 (by decide) (fun k_3 => ?_) (fun k_3 => ?_)
              · skip
                have hc := k_3
                refine lv_iinc (v := nI (b + 1)) (lv' := [(4, .int (nI (b + 1))), (0, .ref (ad (24 + 5 * j))), (1, .ref (ad (24 + 5 * t))), (2, .int (nI x)), (3, .int (nI a))]) hx hb dX4_pairsApart_37 hl (k := 4) rfl (nI_1 b) (by decide) rfl (fun ls hl => ?_)
                refine lv_goto (tgt := 15) hx hb dX4_pairsApart_40 (by decide) ?_
                exact ih15  x (b + 1) (by omega) (by rw [hp, cntB_f (by rw [decide_eq_false hc, Bool.and_false])]) (by omega) _ (lv_sub hl [1, 2, 3, 4, 0] rfl)
              · skip
                have hc := k_3
                refine lv_iinc (v := nI (x + 1)) (lv' := [(2, .int (nI (x + 1))), (0, .ref (ad (24 + 5 * j))), (1, .ref (ad (24 + 5 * t))), (3, .int (nI a)), (4, .int (nI b))]) hx hb dX4_pairsApart_34 hl (k := 2) rfl (nI_1 x) (by decide) rfl (fun ls hl => ?_)
                refine lv_iinc (v := nI (b + 1)) (lv' := [(4, .int (nI (b + 1))), (2, .int (nI (x + 1))), (0, .ref (ad (24 + 5 * j))), (1, .ref (ad (24 + 5 * t))), (3, .int (nI a))]) hx hb dX4_pairsApart_37 hl (k := 4) rfl (nI_1 b) (by decide) rfl (fun ls hl => ?_)
                refine lv_goto (tgt := 15) hx hb dX4_pairsApart_40 (by decide) ?_
                exact ih15  (x + 1) (b + 1) (by omega) (by rw [hp, cntB_t (by rw [decide_eq_true hc, decide_eq_true hb3.1]; rfl), Nat.add_assoc]) (by omega) _ (lv_sub hl [2, 3, 1, 4, 0] rfl)
        exact loop15 (16 + 1) q (a + 1) (by omega) (by rw [hq, cntB_none (n := a + 1) (fun y hy => by rw [decide_eq_false (by omega)]; rfl)]; rfl) (by omega) _ (lv_sub hl [1, 2, 3, 4, 0] rfl)
  exact loop4 (16 + 1) 0 0 (by omega) rfl (by omega) _ (lv_sub hl [2, 3, 1, 0] rfl)
set_option maxHeartbeats 4000000 in
set_option maxRecDepth 100000 in
theorem m_X4_thingsInAll (l : Launch) (dC : Nat → ClassId) (dI : Nat → Nat → Nat) (ad : Nat → Nat) (S : XS) (hI : InvX S) : Met l yX4_thingsInAll wsX4_thingsInAll ({ frames := 1, cells := 0, slots := 0, locals := 22 } : Room) (va_Pc [.ref (ad 57)] (PX dC dI ad S)) (vp_Si (fun r => r = nI (sumN (fun k => (S.1 k).2.2) 3))) 0 0 (fun _ => False) := by
  refine Met.ofW (cc := cX4_thingsInAll) (maxL := 3) (ret := (some .int)) pl_X4 rfl ?_
  intro p e s m args below meth c s₁ B hml hv
  obtain ⟨rfl, hPX⟩ := hv
  have hx := B.exec
  have hb := B.bytes
  have hr := B.returns
  have hts := atoms_spec (ws := wsX4_thingsInAll) B.pre
  have hown : s.vm.findClass RX4 = some m.cls := findClass_of_methodNamed B.named
  have hlocks := B.notSynchronized
  have hX := WX.of hPX
  have hl := lv_entry ([.ref (ad 57)]) (n := 3) (Nat.le_of_ble_eq_true rfl)
  rw [lg_entry_eq]
  generalize (lg_sl ([.ref (ad 57)]) ++ List.replicate (3 - (lg_sl ([.ref (ad 57)])).length) Slot.unset).toArray = ls at hl ⊢
  have hl : lv_has ls 3 [(0, .ref (ad 57))] := hl
  show W p l e ({ frames := 1, cells := 0, slots := 0, locals := 22 } : Room) s m ([.ref (ad 57)]).toArray below meth c s.heap [] 0 0 (MQ below (vp_Si (fun r => r = nI (sumN (fun k => (S.1 k).2.2) 3))) ([.ref (ad 57)]).toArray s 0 0 (fun _ => False)) (F0 m 0 ls [])
  refine lv_iconst (v := nI 0) hx hb dX4_thingsInAll_0 (by decide) ?_
  refine lv_istore_n (lv' := [(1, .int (nI 0)), (0, .ref (ad 57))]) hx hb dX4_thingsInAll_1 rfl hl (by decide) rfl (fun ls hl => ?_)
  refine lv_iconst (v := nI 0) hx hb dX4_thingsInAll_2 (by decide) ?_
  refine lv_istore_n (lv' := [(2, .int (nI 0)), (1, .int (nI 0)), (0, .ref (ad 57))]) hx hb dX4_thingsInAll_3 rfl hl (by decide) rfl (fun ls hl => ?_)
  have loop4 : ∀ (fuel : Nat) (q a : Nat) (ha : a ≤ 3) (hq : q = sumN (fun k => (S.1 k).2.2) a), 3 - a < fuel → ∀ ls : Array Slot, lv_has ls 3 [(0, .ref (ad 57)), (1, .int (nI q)), (2, .int (nI a))] → W p l e ({ frames := 1, cells := 0, slots := 0, locals := 22 } : Room) s m ([.ref (ad 57)]).toArray below meth c s.heap [] 0 0 (MQ below (vp_Si (fun r => r = nI (sumN (fun k => (S.1 k).2.2) 3))) ([.ref (ad 57)]).toArray s 0 0 (fun _ => False)) (F0 m 4 ls []) := by
    intro fuel
    induction fuel with
    | zero => intro q a ha hq hf; exact absurd hf (Nat.not_lt_zero _)
    | succ fuel ih4 =>
      intro q a ha hq hf ls hl
      refine lv_iload_n hx hb dX4_thingsInAll_4 rfl (lv_at hl 2 rfl) ?_
      refine lv_iconst (v := nI 3) hx hb dX4_thingsInAll_5 (by decide) ?_
      refine kn_icmp_ge (tgt := 26) hx hb (by omega) (by omega) dX4_thingsInAll_6 (by decide) (fun k_1 => ?_) (fun k_1 => ?_)
      · skip
        refine lv_iload_n hx hb dX4_thingsInAll_26 rfl (lv_at hl 1 rfl) ?_
        exact W.iret (v := nI q) hx hb hr (fun t9 ht9 hW9 => ⟨_, rfl, (by rw [hq, show a = 3 by omega]), ht9⟩) (fun _ h => nomatch h) dX4_thingsInAll_27
      · skip
        refine lv_iload_n hx hb dX4_thingsInAll_9 rfl (lv_at hl 1 rfl) ?_
        refine lv_aload_n hx hb dX4_thingsInAll_10 rfl (lv_at hl 0 rfl) ?_
        refine lv_iload_n hx hb dX4_thingsInAll_11 rfl (lv_at hl 2 rfl) ?_
        refine va_csr (va_Run.run (va_runV (As := [.int (nI a)]) (rest := [.int (nI q)]) ⟨hx, hb, hml, hown, hts⟩ (m_X4_rowAt l dC dI ad S a (by omega)) (cwV 1 hts gX4_thingsInAll_X4_rowAt rfl rfl rfl hdX4_rowAt_1 ⟨Nat.le_of_ble_eq_true rfl, Nat.le_of_ble_eq_true rfl⟩) (hX.preTop 57 6 (by decide) (by decide) rfl rfl) rfl rfl hl.1 rfl (lv_room (Nat.le_of_ble_eq_true rfl)) dX4_thingsInAll_12 ⟨Nat.le_of_ble_eq_true rfl, Nat.le_of_ble_eq_true rfl⟩)) (fun k_ hk_ => ?_)
        rw [hk_]
        refine kx_cr (v := nI ((S.1 a).2.2)) (va_runV (As := []) (rest := [.int (nI q)]) ⟨hx, hb, hml, hown, hts⟩ (m_X2_length l dC dI ad S a (by omega)) (cwV 0 hts gX4_thingsInAll_X2_length rfl rfl rfl hdX2_length_0 ⟨Nat.le_of_ble_eq_true rfl, Nat.le_of_ble_eq_true rfl⟩) (hX.preRow (by omega)) rfl rfl hl.1 rfl (lv_room (Nat.le_of_ble_eq_true rfl)) dX4_thingsInAll_15 ⟨Nat.le_of_ble_eq_true rfl, Nat.le_of_ble_eq_true rfl⟩) (fun _ h => h) ?_
        refine kn_iadd hx hb dX4_thingsInAll_18 ?_
        refine lv_istore_n (lv' := [(1, .int (nI (q + ((S.1 a).2.2)))), (0, .ref (ad 57)), (2, .int (nI a))]) hx hb dX4_thingsInAll_19 rfl hl (by decide) rfl (fun ls hl => ?_)
        refine lv_iinc (v := nI (a + 1)) (lv' := [(2, .int (nI (a + 1))), (1, .int (nI (q + ((S.1 a).2.2)))), (0, .ref (ad 57))]) hx hb dX4_thingsInAll_20 hl (k := 2) rfl (nI_1 a) (by decide) rfl (fun ls hl => ?_)
        refine lv_goto (tgt := 4) hx hb dX4_thingsInAll_23 (by decide) ?_
        exact ih4  (q + ((S.1 a).2.2)) (a + 1) (by omega) (by rw [hq]; rfl) (by omega) _ (lv_sub hl [2, 1, 0] rfl)
  exact loop4 (16 + 1) 0 0 (by omega) rfl (by omega) _ (lv_sub hl [2, 1, 0] rfl)
set_option maxHeartbeats 4000000 in
set_option maxRecDepth 100000 in
theorem m_X4_stepsInAll (l : Launch) (dC : Nat → ClassId) (dI : Nat → Nat → Nat) (ad : Nat → Nat) (S : XS) (hI : InvX S) : Met l yX4_stepsInAll wsX4_stepsInAll ({ frames := 1, cells := 0, slots := 0, locals := 22 } : Room) (va_Pc [.ref (ad 57)] (PX dC dI ad S)) (vp_Si (fun r => r = nI (sumN (fun k => (S.2.1 k).2.2.2.2.1) 4))) 0 0 (fun _ => False) := by
  refine Met.ofW (cc := cX4_stepsInAll) (maxL := 3) (ret := (some .int)) pl_X4 rfl ?_
  intro p e s m args below meth c s₁ B hml hv
  obtain ⟨rfl, hPX⟩ := hv
  have hx := B.exec
  have hb := B.bytes
  have hr := B.returns
  have hts := atoms_spec (ws := wsX4_stepsInAll) B.pre
  have hown : s.vm.findClass RX4 = some m.cls := findClass_of_methodNamed B.named
  have hlocks := B.notSynchronized
  have hX := WX.of hPX
  have hl := lv_entry ([.ref (ad 57)]) (n := 3) (Nat.le_of_ble_eq_true rfl)
  rw [lg_entry_eq]
  generalize (lg_sl ([.ref (ad 57)]) ++ List.replicate (3 - (lg_sl ([.ref (ad 57)])).length) Slot.unset).toArray = ls at hl ⊢
  have hl : lv_has ls 3 [(0, .ref (ad 57))] := hl
  show W p l e ({ frames := 1, cells := 0, slots := 0, locals := 22 } : Room) s m ([.ref (ad 57)]).toArray below meth c s.heap [] 0 0 (MQ below (vp_Si (fun r => r = nI (sumN (fun k => (S.2.1 k).2.2.2.2.1) 4))) ([.ref (ad 57)]).toArray s 0 0 (fun _ => False)) (F0 m 0 ls [])
  refine lv_iconst (v := nI 0) hx hb dX4_stepsInAll_0 (by decide) ?_
  refine lv_istore_n (lv' := [(1, .int (nI 0)), (0, .ref (ad 57))]) hx hb dX4_stepsInAll_1 rfl hl (by decide) rfl (fun ls hl => ?_)
  refine lv_iconst (v := nI 0) hx hb dX4_stepsInAll_2 (by decide) ?_
  refine lv_istore_n (lv' := [(2, .int (nI 0)), (1, .int (nI 0)), (0, .ref (ad 57))]) hx hb dX4_stepsInAll_3 rfl hl (by decide) rfl (fun ls hl => ?_)
  have loop4 : ∀ (fuel : Nat) (q a : Nat) (ha : a ≤ 4) (hq : q = sumN (fun k => (S.2.1 k).2.2.2.2.1) a), 4 - a < fuel → ∀ ls : Array Slot, lv_has ls 3 [(0, .ref (ad 57)), (1, .int (nI q)), (2, .int (nI a))] → W p l e ({ frames := 1, cells := 0, slots := 0, locals := 22 } : Room) s m ([.ref (ad 57)]).toArray below meth c s.heap [] 0 0 (MQ below (vp_Si (fun r => r = nI (sumN (fun k => (S.2.1 k).2.2.2.2.1) 4))) ([.ref (ad 57)]).toArray s 0 0 (fun _ => False)) (F0 m 4 ls []) := by
    intro fuel
    induction fuel with
    | zero => intro q a ha hq hf; exact absurd hf (Nat.not_lt_zero _)
    | succ fuel ih4 =>
      intro q a ha hq hf ls hl
      refine lv_iload_n hx hb dX4_stepsInAll_4 rfl (lv_at hl 2 rfl) ?_
      refine lv_iconst (v := nI 4) hx hb dX4_stepsInAll_5 (by decide) ?_
      refine kn_icmp_ge (tgt := 26) hx hb (by omega) (by omega) dX4_stepsInAll_6 (by decide) (fun k_1 => ?_) (fun k_1 => ?_)
      · skip
        refine lv_iload_n hx hb dX4_stepsInAll_26 rfl (lv_at hl 1 rfl) ?_
        exact W.iret (v := nI q) hx hb hr (fun t9 ht9 hW9 => ⟨_, rfl, (by rw [hq, show a = 4 by omega]), ht9⟩) (fun _ h => nomatch h) dX4_stepsInAll_27
      · skip
        refine lv_iload_n hx hb dX4_stepsInAll_9 rfl (lv_at hl 1 rfl) ?_
        refine lv_aload_n hx hb dX4_stepsInAll_10 rfl (lv_at hl 0 rfl) ?_
        refine lv_iload_n hx hb dX4_stepsInAll_11 rfl (lv_at hl 2 rfl) ?_
        refine va_csr (va_Run.run (va_runV (As := [.int (nI a)]) (rest := [.int (nI q)]) ⟨hx, hb, hml, hown, hts⟩ (m_X4_orderAt l dC dI ad S a (by omega)) (cwV 1 hts gX4_stepsInAll_X4_orderAt rfl rfl rfl hdX4_orderAt_1 ⟨Nat.le_of_ble_eq_true rfl, Nat.le_of_ble_eq_true rfl⟩) (hX.preTop 57 6 (by decide) (by decide) rfl rfl) rfl rfl hl.1 rfl (lv_room (Nat.le_of_ble_eq_true rfl)) dX4_stepsInAll_12 ⟨Nat.le_of_ble_eq_true rfl, Nat.le_of_ble_eq_true rfl⟩)) (fun k_ hk_ => ?_)
        rw [hk_]
        refine kx_cr (v := nI ((S.2.1 a).2.2.2.2.1)) (va_runV (As := []) (rest := [.int (nI q)]) ⟨hx, hb, hml, hown, hts⟩ (m_X1_length l dC dI ad S a  (by omega)) (cwV 0 hts gX4_stepsInAll_X1_length rfl rfl rfl hdX1_length_0 ⟨Nat.le_of_ble_eq_true rfl, Nat.le_of_ble_eq_true rfl⟩) (hX.preOrd (by omega)) rfl rfl hl.1 rfl (lv_room (Nat.le_of_ble_eq_true rfl)) dX4_stepsInAll_15 ⟨Nat.le_of_ble_eq_true rfl, Nat.le_of_ble_eq_true rfl⟩) (fun _ h => h) ?_
        refine kn_iadd hx hb dX4_stepsInAll_18 ?_
        refine lv_istore_n (lv' := [(1, .int (nI (q + ((S.2.1 a).2.2.2.2.1)))), (0, .ref (ad 57)), (2, .int (nI a))]) hx hb dX4_stepsInAll_19 rfl hl (by decide) rfl (fun ls hl => ?_)
        refine lv_iinc (v := nI (a + 1)) (lv' := [(2, .int (nI (a + 1))), (1, .int (nI (q + ((S.2.1 a).2.2.2.2.1)))), (0, .ref (ad 57))]) hx hb dX4_stepsInAll_20 hl (k := 2) rfl (nI_1 a) (by decide) rfl (fun ls hl => ?_)
        refine lv_goto (tgt := 4) hx hb dX4_stepsInAll_23 (by decide) ?_
        exact ih4  (q + ((S.2.1 a).2.2.2.2.1)) (a + 1) (by omega) (by rw [hq]; rfl) (by omega) _ (lv_sub hl [2, 1, 0] rfl)
  exact loop4 (16 + 1) 0 0 (by omega) rfl (by omega) _ (lv_sub hl [2, 1, 0] rfl)
set_option maxHeartbeats 4000000 in
set_option maxRecDepth 100000 in
theorem m_X4_count (l : Launch) (dC : Nat → ClassId) (dI : Nat → Nat → Nat) (ad : Nat → Nat) (S : XS) (k : Nat) (hk : k < 5) (hI : InvX S) : Met l yX4_count wsX4_count ({ frames := 2, cells := 0, slots := 0, locals := 44 } : Room) (va_Pc [.ref (ad 57), .int (nI k)] (PX dC dI ad S)) (vp_Si (fun r => r = nI (countX S k))) 0 0 (fun _ => False) := by
  refine Met.ofW (cc := cX4_count) (maxL := 2) (ret := (some .int)) pl_X4 rfl ?_
  intro p e s m args below meth c s₁ B hml hv
  obtain ⟨rfl, hPX⟩ := hv
  have hx := B.exec
  have hb := B.bytes
  have hr := B.returns
  have hts := atoms_spec (ws := wsX4_count) B.pre
  have hown : s.vm.findClass RX4 = some m.cls := findClass_of_methodNamed B.named
  have hlocks := B.notSynchronized
  have hin4 : ∀ w ∈ u_ws RX4 TX4 9, w ∈ wsX4_count := tu 1328 (by decide +kernel) rfl
  have hX := WX.of hPX
  have hl := lv_entry ([.ref (ad 57), .int (nI k)]) (n := 2) (Nat.le_of_ble_eq_true rfl)
  rw [lg_entry_eq]
  generalize (lg_sl ([.ref (ad 57), .int (nI k)]) ++ List.replicate (2 - (lg_sl ([.ref (ad 57), .int (nI k)])).length) Slot.unset).toArray = ls at hl ⊢
  have hl : lv_has ls 2 [(0, .ref (ad 57)), (1, .int (nI k))] := hl
  show W p l e ({ frames := 2, cells := 0, slots := 0, locals := 44 } : Room) s m ([.ref (ad 57), .int (nI k)]).toArray below meth c s.heap [] 0 0 (MQ below (vp_Si (fun r => r = nI (countX S k))) ([.ref (ad 57), .int (nI k)]).toArray s 0 0 (fun _ => False)) (F0 m 0 ls [])
  rcases (show k = 0 ∨ k = 1 ∨ k = 2 ∨ k = 3 ∨ k = 4 by omega) with rfl | rfl | rfl | rfl | rfl
  · skip
    have hl : lv_has ls 2 [(0, .ref (ad 57)), (1, .int (nI 0))] := hl
    refine lv_iload_n hx hb dX4_count_0 rfl (lv_at hl 1 rfl) ?_
    refine lv_tableIn (x := nI 0) (off := 31) (tgt := 32) hx hb dX4_count_1 (by decide) (by decide) (by decide) (by decide) ?_
    refine lv_aload_n hx hb dX4_count_32 rfl (lv_at hl 0 rfl) ?_
    refine kx_cr (v := nI (sumN (fun k => (S.1 k).2.2) 3)) (va_runV (As := []) (rest := []) ⟨hx, hb, hml, hown, hts⟩ (m_X4_thingsInAll l dC dI ad S hI) (cwV 0 hts gX4_count_X4_thingsInAll rfl rfl rfl hdX4_thingsInAll_0 ⟨Nat.le_of_ble_eq_true rfl, Nat.le_of_ble_eq_true rfl⟩) (hX.preTop 57 6 (by decide) (by decide) rfl rfl) rfl rfl hl.1 rfl (lv_room (Nat.le_of_ble_eq_true rfl)) dX4_count_33 ⟨Nat.le_of_ble_eq_true rfl, Nat.le_of_ble_eq_true rfl⟩) (fun _ h => h) ?_
    exact W.iret (v := nI (sumN (fun k => (S.1 k).2.2) 3)) hx hb hr (fun t9 ht9 hW9 => ⟨_, rfl, rfl, ht9⟩) (fun _ h => nomatch h) dX4_count_36
  · skip
    have hl : lv_has ls 2 [(0, .ref (ad 57)), (1, .int (nI 1))] := hl
    refine lv_iload_n hx hb dX4_count_0 rfl (lv_at hl 1 rfl) ?_
    refine lv_tableIn (x := nI 1) (off := 36) (tgt := 37) hx hb dX4_count_1 (by decide) (by decide) (by decide) (by decide) ?_
    refine lv_aload_n hx hb dX4_count_37 rfl (lv_at hl 0 rfl) ?_
    refine kx_cr (v := nI (sumN (fun k => (S.2.1 k).2.2.2.2.1) 4)) (va_runV (As := []) (rest := []) ⟨hx, hb, hml, hown, hts⟩ (m_X4_stepsInAll l dC dI ad S hI) (cwV 0 hts gX4_count_X4_stepsInAll rfl rfl rfl hdX4_stepsInAll_0 ⟨Nat.le_of_ble_eq_true rfl, Nat.le_of_ble_eq_true rfl⟩) (hX.preTop 57 6 (by decide) (by decide) rfl rfl) rfl rfl hl.1 rfl (lv_room (Nat.le_of_ble_eq_true rfl)) dX4_count_38 ⟨Nat.le_of_ble_eq_true rfl, Nat.le_of_ble_eq_true rfl⟩) (fun _ h => h) ?_
    exact W.iret (v := nI (sumN (fun k => (S.2.1 k).2.2.2.2.1) 4)) hx hb hr (fun t9 ht9 hW9 => ⟨_, rfl, rfl, ht9⟩) (fun _ h => nomatch h) dX4_count_41
  · skip
    have hl : lv_has ls 2 [(0, .ref (ad 57)), (1, .int (nI 2))] := hl
    refine lv_iload_n hx hb dX4_count_0 rfl (lv_at hl 1 rfl) ?_
    refine lv_tableIn (x := nI 2) (off := 41) (tgt := 42) hx hb dX4_count_1 (by decide) (by decide) (by decide) (by decide) ?_
    refine lv_aload_n hx hb dX4_count_42 rfl (lv_at hl 0 rfl) ?_
    refine kx_gput (n := S.2.2.1) hx hb hts hin4 hown hX rfl (hts (.fieldLink RX4 45 "Orderlattice" "marksGiven" "I") (tm 455 (by decide +kernel) rfl)) dX4_count_43 ?_
    exact W.iret (v := nI S.2.2.1) hx hb hr (fun t9 ht9 hW9 => ⟨_, rfl, rfl, ht9⟩) (fun _ h => nomatch h) dX4_count_46
  · skip
    have hl : lv_has ls 2 [(0, .ref (ad 57)), (1, .int (nI 3))] := hl
    refine lv_iload_n hx hb dX4_count_0 rfl (lv_at hl 1 rfl) ?_
    refine lv_tableIn (x := nI 3) (off := 46) (tgt := 47) hx hb dX4_count_1 (by decide) (by decide) (by decide) (by decide) ?_
    refine lv_aload_n hx hb dX4_count_47 rfl (lv_at hl 0 rfl) ?_
    refine kx_gref (n := S.2.2.2.1) hx hb hts hin4 hown hX rfl (hts (.fieldLink RX4 49 "Orderlattice" "refusals" "I") (tm 456 (by decide +kernel) rfl)) dX4_count_48 ?_
    exact W.iret (v := nI S.2.2.2.1) hx hb hr (fun t9 ht9 hW9 => ⟨_, rfl, rfl, ht9⟩) (fun _ h => nomatch h) dX4_count_51
  · skip
    have hl : lv_has ls 2 [(0, .ref (ad 57)), (1, .int (nI 4))] := hl
    refine lv_iload_n hx hb dX4_count_0 rfl (lv_at hl 1 rfl) ?_
    refine lv_tableOut (x := nI 4) (tgt := 52) hx hb dX4_count_1 (by decide) (by decide) ?_
    refine lv_aload_n hx hb dX4_count_52 rfl (lv_at hl 0 rfl) ?_
    refine kx_gkno (n := S.2.2.2.2) hx hb hts hin4 hown hX rfl (hts (.fieldLink RX4 52 "Orderlattice" "knocks" "I") (tm 457 (by decide +kernel) rfl)) dX4_count_53 ?_
    exact W.iret (v := nI S.2.2.2.2) hx hb hr (fun t9 ht9 hW9 => ⟨_, rfl, rfl, ht9⟩) (fun _ h => nomatch h) dX4_count_56
set_option maxHeartbeats 4000000 in
set_option maxRecDepth 100000 in
theorem m_X4_placeNew (l : Launch) (dC : Nat → ClassId) (dI : Nat → Nat → Nat) (ad : Nat → Nat) (S : XS) (i q v : Nat) (hi : i < 3) (hI : InvX S) (hq : q ≤ (S.1 i).2.2) : Met l yX4_placeNew wsX4_placeNew ({ frames := 2, cells := 0, slots := 0, locals := 47 } : Room) (va_Pc [.ref (ad 57), .ref (ad (3 * i)), .int (nI q), .int (nI v)] (PX dC dI ad S)) (va_Qi (fun r S' => ((S.1 i).2.2 < 12 ∧ r = nI S.2.2.1 ∧ S' = placeT S i q v) ∨ (12 ≤ (S.1 i).2.2 ∧ r = -9 ∧ S' = refT S)) (PX dC dI ad) (AX ad)) 0 0 (AX ad) := by
  refine Met.ofW (cc := cX4_placeNew) (maxL := 5) (ret := (some .int)) pl_X4 rfl ?_
  intro p e s m args below meth c s₁ B hml hv
  obtain ⟨rfl, hPX⟩ := hv
  have hx := B.exec
  have hb := B.bytes
  have hr := B.returns
  have hts := atoms_spec (ws := wsX4_placeNew) B.pre
  have hown : s.vm.findClass RX4 = some m.cls := findClass_of_methodNamed B.named
  have hlocks := B.notSynchronized
  have hX := WX.of hPX
  have hl := lv_entry ([.ref (ad 57), .ref (ad (3 * i)), .int (nI q), .int (nI v)]) (n := 5) (Nat.le_of_ble_eq_true rfl)
  rw [lg_entry_eq]
  generalize (lg_sl ([.ref (ad 57), .ref (ad (3 * i)), .int (nI q), .int (nI v)]) ++ List.replicate (5 - (lg_sl ([.ref (ad 57), .ref (ad (3 * i)), .int (nI q), .int (nI v)])).length) Slot.unset).toArray = ls at hl ⊢
  have hl : lv_has ls 5 [(0, .ref (ad 57)), (1, .ref (ad (3 * i))), (2, .int (nI q)), (3, .int (nI v))] := hl
  show W p l e ({ frames := 2, cells := 0, slots := 0, locals := 47 } : Room) s m ([.ref (ad 57), .ref (ad (3 * i)), .int (nI q), .int (nI v)]).toArray below meth c s.heap [] 0 0 (MQ below (va_Qi (fun r S' => ((S.1 i).2.2 < 12 ∧ r = nI S.2.2.1 ∧ S' = placeT S i q v) ∨ (12 ≤ (S.1 i).2.2 ∧ r = -9 ∧ S' = refT S)) (PX dC dI ad) (AX ad)) ([.ref (ad 57), .ref (ad (3 * i)), .int (nI q), .int (nI v)]).toArray s 0 0 (AX ad)) (F0 m 0 ls [])
  have hn := (hI.1 i (by omega)).1
  refine lv_aload_n hx hb dX4_placeNew_0 rfl (lv_at hl 1 rfl) ?_
  refine kx_cr (v := nI ((S.1 i).2.2)) (va_runV (As := []) (rest := []) ⟨hx, hb, hml, hown, hts⟩ (m_X2_length l dC dI ad S i (by omega)) (cwV 0 hts gX4_placeNew_X2_length rfl rfl rfl hdX2_length_0 ⟨Nat.le_of_ble_eq_true rfl, Nat.le_of_ble_eq_true rfl⟩) (hX.preRow (by omega)) rfl rfl hl.1 rfl (lv_room (Nat.le_of_ble_eq_true rfl)) dX4_placeNew_1 ⟨Nat.le_of_ble_eq_true rfl, Nat.le_of_ble_eq_true rfl⟩) (fun _ h => h) ?_
  refine lv_bipush (v := nI 12) hx hb dX4_placeNew_4 (by decide) ?_
  refine kn_icmp_lt (tgt := 14) hx hb (by omega) (by omega) dX4_placeNew_6 (by decide) (fun k_1 => ?_) (fun k_1 => ?_)
  · skip
    have hc := k_1
    refine lv_aload_n hx hb dX4_placeNew_14 rfl (lv_at hl 0 rfl) ?_
    refine kx_ci (va_runV (As := []) (rest := []) ⟨hx, hb, hml, hown, hts⟩ (m_X4_nextMark l dC dI ad S) (cwV 0 hts gX4_placeNew_X4_nextMark rfl rfl rfl hdX4_nextMark_0 ⟨Nat.le_of_ble_eq_true rfl, Nat.le_of_ble_eq_true rfl⟩) (hX.preTop 57 6 (by decide) (by decide) rfl rfl) rfl rfl hl.1 rfl (lv_room (Nat.le_of_ble_eq_true rfl)) dX4_placeNew_15 ⟨Nat.le_of_ble_eq_true rfl, Nat.le_of_ble_eq_true rfl⟩) hX (fun _ h => h) (fun r_ S_ H locs hw hX => ?_)
    obtain ⟨rfl, rfl⟩ := hw
    refine lv_istore (lv' := [(4, .int (nI S.2.2.1)), (0, .ref (ad 57)), (1, .ref (ad (3 * i))), (2, .int (nI q)), (3, .int (nI v))]) hx hb dX4_placeNew_18 hl (by decide) rfl (fun ls hl => ?_)
    refine lv_aload_n hx hb dX4_placeNew_20 rfl (lv_at hl 2 rfl) ?_
    refine lv_iload_n hx hb dX4_placeNew_21 rfl (lv_at hl 3 rfl) ?_
    refine lv_iload_n hx hb dX4_placeNew_22 rfl (lv_at hl 4 rfl) ?_
    refine lv_iload hx hb dX4_placeNew_23 (lv_at hl 0 rfl) ?_
    refine kx_cv (va_runV (As := [.int (nI q), .int (nI v), .int (nI S.2.2.1)]) (rest := []) ⟨hx, hb, hml, hown, hts⟩ (m_X2_insert l dC dI ad (xN S (S.2.2.1 + 1, S.2.2.2.1, S.2.2.2.2)) i q v S.2.2.1 (by omega) (show (S.1 i).2.2 < 16 by omega) hq) (cwV 3 hts gX4_placeNew_X2_insert rfl rfl rfl hdX2_insert_3 ⟨Nat.le_of_ble_eq_true rfl, Nat.le_of_ble_eq_true rfl⟩) (hX.preRow (by omega)) rfl rfl hl.1 rfl (lv_room (Nat.le_of_ble_eq_true rfl)) dX4_placeNew_25 ⟨Nat.le_of_ble_eq_true rfl, Nat.le_of_ble_eq_true rfl⟩) hX (fun _ h => h) (fun S_ H locs hw hX => ?_)
    subst hw
    refine lv_iload hx hb dX4_placeNew_28 (lv_at hl 0 rfl) ?_
    exact W.iret (v := nI S.2.2.1) hx hb hr (fun t9 ht9 hW9 => ⟨⟨_, (xR (xN S (S.2.2.1 + 1, S.2.2.2.1, S.2.2.2.2)) i (va_up (shr ((S.1 i).1) ((S.1 i).2.2) q) q v, va_up (shr ((S.1 i).2.1) ((S.1 i).2.2) q) q S.2.2.1, (S.1 i).2.2 + 1)), rfl, (Or.inl ⟨hc, rfl, rfl⟩), hX.P ht9 hW9⟩, hX.2.2.2.F ht9⟩) hX.2.2.2.2.2 dX4_placeNew_30
  · skip
    have hc := k_1
    refine lv_aload_n hx hb dX4_placeNew_9 rfl (lv_at hl 0 rfl) ?_
    refine kx_ci (va_runV (As := []) (rest := []) ⟨hx, hb, hml, hown, hts⟩ (m_X4_refuse l dC dI ad S) (cwV 0 hts gX4_placeNew_X4_refuse rfl rfl rfl hdX4_refuse_0 ⟨Nat.le_of_ble_eq_true rfl, Nat.le_of_ble_eq_true rfl⟩) (hX.preTop 57 6 (by decide) (by decide) rfl rfl) rfl rfl hl.1 rfl (lv_room (Nat.le_of_ble_eq_true rfl)) dX4_placeNew_10 ⟨Nat.le_of_ble_eq_true rfl, Nat.le_of_ble_eq_true rfl⟩) hX (fun _ h => h) (fun r_ S_ H locs hw hX => ?_)
    obtain ⟨rfl, rfl⟩ := hw
    exact W.iret (v := (-9)) hx hb hr (fun t9 ht9 hW9 => ⟨⟨_, (xN S (S.2.2.1, S.2.2.2.1 + 1, S.2.2.2.2)), rfl, (Or.inr ⟨hc, rfl, rfl⟩), hX.P ht9 hW9⟩, hX.2.2.2.F ht9⟩) hX.2.2.2.2.2 dX4_placeNew_13
set_option maxHeartbeats 4000000 in
set_option maxRecDepth 100000 in
theorem m_X4_coarsestKey (l : Launch) (dC : Nat → ClassId) (dI : Nat → Nat → Nat) (ad : Nat → Nat) (S : XS) (j v u : Nat) (hj : j < 4) (hn : (S.2.1 j).2.2.2.2.1 < 10) (hv : v < 16) (hu : u < 16) (hI : InvX S) : Met l yX4_coarsestKey wsX4_coarsestKey ({ frames := 4, cells := 0, slots := 0, locals := 91 } : Room) (va_Pc [.ref (ad 57), .ref (ad (24 + 5 * j)), .int (nI v), .int (nI u)] (PX dC dI ad S)) (va_Qi (fun r S' => r = nI (coarse (coarseC (S.2.1 j)) (keyApart v u) 8).2 ∧ ∃ o4, ordOK o4 ∧ S' = xO S 4 o4) (PX dC dI ad) (AX ad)) 0 0 (AX ad) := by
  refine Met.ofW (cc := cX4_coarsestKey) (maxL := 7) (ret := (some .int)) pl_X4 rfl ?_
  intro p e s m args below meth c s₁ B hml hv
  obtain ⟨rfl, hPX⟩ := hv
  have hx := B.exec
  have hb := B.bytes
  have hr := B.returns
  have hts := atoms_spec (ws := wsX4_coarsestKey) B.pre
  have hown : s.vm.findClass RX4 = some m.cls := findClass_of_methodNamed B.named
  have hlocks := B.notSynchronized
  have hin4 : ∀ w ∈ u_ws RX4 TX4 9, w ∈ wsX4_coarsestKey := tu 1328 (by decide +kernel) rfl
  have hX := WX.of hPX
  have hl := lv_entry ([.ref (ad 57), .ref (ad (24 + 5 * j)), .int (nI v), .int (nI u)]) (n := 7) (Nat.le_of_ble_eq_true rfl)
  rw [lg_entry_eq]
  generalize (lg_sl ([.ref (ad 57), .ref (ad (24 + 5 * j)), .int (nI v), .int (nI u)]) ++ List.replicate (7 - (lg_sl ([.ref (ad 57), .ref (ad (24 + 5 * j)), .int (nI v), .int (nI u)])).length) Slot.unset).toArray = ls at hl ⊢
  have hl : lv_has ls 7 [(0, .ref (ad 57)), (1, .ref (ad (24 + 5 * j))), (2, .int (nI v)), (3, .int (nI u))] := hl
  show W p l e ({ frames := 4, cells := 0, slots := 0, locals := 91 } : Room) s m ([.ref (ad 57), .ref (ad (24 + 5 * j)), .int (nI v), .int (nI u)]).toArray below meth c s.heap [] 0 0 (MQ below (va_Qi (fun r S' => r = nI (coarse (coarseC (S.2.1 j)) (keyApart v u) 8).2 ∧ ∃ o4, ordOK o4 ∧ S' = xO S 4 o4) (PX dC dI ad) (AX ad)) ([.ref (ad 57), .ref (ad (24 + 5 * j)), .int (nI v), .int (nI u)]).toArray s 0 0 (AX ad)) (F0 m 0 ls [])
  refine lv_iconst (v := nI 0) hx hb dX4_coarsestKey_0 (by decide) ?_
  refine lv_istore (lv' := [(4, .int (nI 0)), (0, .ref (ad 57)), (1, .ref (ad (24 + 5 * j))), (2, .int (nI v)), (3, .int (nI u))]) hx hb dX4_coarsestKey_1 hl (by decide) rfl (fun ls hl => ?_)
  refine lv_bipush (v := nI 17) hx hb dX4_coarsestKey_3 (by decide) ?_
  refine lv_istore (lv' := [(5, .int (nI 17)), (4, .int (nI 0)), (0, .ref (ad 57)), (1, .ref (ad (24 + 5 * j))), (2, .int (nI v)), (3, .int (nI u))]) hx hb dX4_coarsestKey_5 hl (by decide) rfl (fun ls hl => ?_)
  refine lv_iconst (v := nI 0) hx hb dX4_coarsestKey_7 (by decide) ?_
  refine lv_istore (lv' := [(6, .int (nI 0)), (5, .int (nI 17)), (4, .int (nI 0)), (0, .ref (ad 57)), (1, .ref (ad (24 + 5 * j))), (2, .int (nI v)), (3, .int (nI u))]) hx hb dX4_coarsestKey_8 hl (by decide) rfl (fun ls hl => ?_)
  have loop10 : ∀ (fuel : Nat) (o4 : OrdS) (bb fw k : Nat) (ho4 : ordOK o4) (hk : k ≤ 8) (hq : (fw, bb) = coarse (coarseC (S.2.1 j)) (keyApart v u) k) (H : Heap) (locs : List Loc), 8 - k < fuel → WX dC dI ad (xO S 4 (o4.1, o4.2.1, o4.2.2.1, o4.2.2.2.1, o4.2.2.2.2.1, o4.2.2.2.2.2)) (AX ad) s H locs → ∀ ls : Array Slot, lv_has ls 7 [(0, .ref (ad 57)), (1, .ref (ad (24 + 5 * j))), (2, .int (nI v)), (3, .int (nI u)), (4, .int (nI bb)), (5, .int (nI fw)), (6, .int (nI k))] → W p l e ({ frames := 4, cells := 0, slots := 0, locals := 91 } : Room) s m ([.ref (ad 57), .ref (ad (24 + 5 * j)), .int (nI v), .int (nI u)]).toArray below meth c H locs 0 0 (MQ below (va_Qi (fun r S' => r = nI (coarse (coarseC (S.2.1 j)) (keyApart v u) 8).2 ∧ ∃ o4, ordOK o4 ∧ S' = xO S 4 o4) (PX dC dI ad) (AX ad)) ([.ref (ad 57), .ref (ad (24 + 5 * j)), .int (nI v), .int (nI u)]).toArray s 0 0 (AX ad)) (F0 m 10 ls []) := by
    intro fuel
    induction fuel with
    | zero => intro o4 bb fw k ho4 hk hq H locs hf; exact absurd hf (Nat.not_lt_zero _)
    | succ fuel ih10 =>
      intro o4 bb fw k ho4 hk hq H locs hf hX ls hl
      refine lv_iload hx hb dX4_coarsestKey_10 (lv_at hl 6 rfl) ?_
      refine lv_bipush (v := nI 8) hx hb dX4_coarsestKey_12 (by decide) ?_
      refine kn_icmp_ge (tgt := 81) hx hb (by omega) (by omega) dX4_coarsestKey_14 (by decide) (fun k_1 => ?_) (fun k_1 => ?_)
      · skip
        refine lv_iload hx hb dX4_coarsestKey_81 (lv_at hl 4 rfl) ?_
        exact W.iret (v := nI bb) hx hb hr (fun t9 ht9 hW9 => ⟨⟨_, (xO S 4 (o4.1, o4.2.1, o4.2.2.1, o4.2.2.2.1, o4.2.2.2.2.1, o4.2.2.2.2.2)), rfl, ⟨by rw [← show k = 8 by omega, ← hq], o4, ho4, rfl⟩, hX.P ht9 hW9⟩, hX.2.2.2.F ht9⟩) hX.2.2.2.2.2 dX4_coarsestKey_83
      · skip
        refine lv_iload hx hb dX4_coarsestKey_17 (lv_at hl 6 rfl) ?_
        refine lv_iload_n hx hb dX4_coarsestKey_19 rfl (lv_at hl 2 rfl) ?_
        refine kx_cr (v := nI (numK k v)) (va_runS (As := [.int (nI k), .int (nI v)]) (rest := []) ⟨hx, hb, hml, hown, hts⟩ (m_X1_numberBy l dC dI ad (xO S 4 (o4.1, o4.2.1, o4.2.2.1, o4.2.2.2.1, o4.2.2.2.2.1, o4.2.2.2.2.2)) k v (by omega) (by omega)) (va_cwS 2 hts gX4_coarsestKey_X1_numberBy rfl rfl rfl hdX1_numberBy_2.2 ⟨Nat.le_of_ble_eq_true rfl, Nat.le_of_ble_eq_true rfl⟩) hX.preS rfl rfl hl.1 rfl (lv_room (Nat.le_of_ble_eq_true rfl)) dX4_coarsestKey_20 ⟨Nat.le_of_ble_eq_true rfl, Nat.le_of_ble_eq_true rfl⟩) (fun _ h => h) ?_
        refine lv_iload hx hb dX4_coarsestKey_23 (lv_at hl 6 rfl) ?_
        refine lv_iload_n hx hb dX4_coarsestKey_25 rfl (lv_at hl 3 rfl) ?_
        refine kx_cr (v := nI (numK k u)) (va_runS (As := [.int (nI k), .int (nI u)]) (rest := [.int (nI (numK k v))]) ⟨hx, hb, hml, hown, hts⟩ (m_X1_numberBy l dC dI ad (xO S 4 (o4.1, o4.2.1, o4.2.2.1, o4.2.2.2.1, o4.2.2.2.2.1, o4.2.2.2.2.2)) k u (by omega) (by omega)) (va_cwS 2 hts gX4_coarsestKey_X1_numberBy rfl rfl rfl hdX1_numberBy_2.2 ⟨Nat.le_of_ble_eq_true rfl, Nat.le_of_ble_eq_true rfl⟩) hX.preS rfl rfl hl.1 rfl (lv_room (Nat.le_of_ble_eq_true rfl)) dX4_coarsestKey_26 ⟨Nat.le_of_ble_eq_true rfl, Nat.le_of_ble_eq_true rfl⟩) (fun _ h => h) ?_
        have h1 := numK_lt (k := k) hv
        have h2 := numK_lt (k := k) hu
        refine kn_icmp_eq (tgt := 75) hx hb (by omega) (by omega) dX4_coarsestKey_29 (by decide) (fun k_2 => ?_) (fun k_2 => ?_)
        · skip
          have h3 := k_2
          refine lv_iinc (v := nI (k + 1)) (lv' := [(6, .int (nI (k + 1))), (0, .ref (ad 57)), (1, .ref (ad (24 + 5 * j))), (2, .int (nI v)), (3, .int (nI u)), (4, .int (nI bb)), (5, .int (nI fw))]) hx hb dX4_coarsestKey_75 hl (k := 6) rfl (nI_1 k) (by decide) rfl (fun ls hl => ?_)
          refine lv_goto (tgt := 10) hx hb dX4_coarsestKey_78 (by decide) ?_
          exact ih10  o4 bb fw (k + 1) ho4 (by omega) (coarse_no (Or.inl (keyApart_no h3)) hq) _ _ (by omega) hX _ (lv_sub hl [1, 2, 3, 4, 5, 6, 0] rfl)
        · skip
          have h3 := k_2
          refine lv_aload_n hx hb dX4_coarsestKey_32 rfl (lv_at hl 0 rfl) ?_
          refine kx_gspareOrder hx hb hts hin4 hown hX (hts (.fieldLink RX4 41 "Orderlattice" "spareOrder" "LOrderlattice$Order;") (tm 454 (by decide +kernel) rfl)) dX4_coarsestKey_33 ?_
          refine lv_aload_n hx hb dX4_coarsestKey_36 rfl (lv_at hl 1 rfl) ?_
          refine kx_cv (va_runV (As := [.ref (ad (24 + 5 * j))]) (rest := []) ⟨hx, hb, hml, hown, hts⟩ (m_X1_becomeCopyOf l dC dI ad (xO S 4 (o4.1, o4.2.1, o4.2.2.1, o4.2.2.2.1, o4.2.2.2.2.1, o4.2.2.2.2.2)) 4 j (by omega) (by omega) (by rw [xO_ord]; exact ho4.1) (by rw [xO_ne _ _ (show j ≠ 4 by omega)]; exact (hI.2 j (by omega)).1)) (cwV 1 hts gX4_coarsestKey_X1_becomeCopyOf rfl rfl rfl hdX1_becomeCopyOf_1 ⟨Nat.le_of_ble_eq_true rfl, Nat.le_of_ble_eq_true rfl⟩) (hX.preOrd (by omega)) rfl rfl hl.1 rfl (lv_room (Nat.le_of_ble_eq_true rfl)) dX4_coarsestKey_37 ⟨Nat.le_of_ble_eq_true rfl, Nat.le_of_ble_eq_true rfl⟩) hX (fun _ h => h) (fun S_ H locs hw hX => ?_)
          rw [xO_ord, xO_xO] at hw
          rw [xO_ne _ _ (show j ≠ 4 by omega)] at hw
          subst hw
          refine lv_aload_n hx hb dX4_coarsestKey_40 rfl (lv_at hl 0 rfl) ?_
          refine kx_gspareOrder hx hb hts hin4 hown hX (hts (.fieldLink RX4 41 "Orderlattice" "spareOrder" "LOrderlattice$Order;") (tm 454 (by decide +kernel) rfl)) dX4_coarsestKey_41 ?_
          refine lv_iload hx hb dX4_coarsestKey_44 (lv_at hl 6 rfl) ?_
          refine lv_iconst (v := bI false) hx hb dX4_coarsestKey_46 (by decide) ?_
          refine kx_cv (va_runV (As := [.int (nI k), .int (bI false)]) (rest := []) ⟨hx, hb, hml, hown, hts⟩ (m_X1_append l dC dI ad (xO S 4 (apn o4.1 ((S.2.1 j).1) 0 ((S.2.1 j).2.2.2.2.1), apn o4.2.1 ((S.2.1 j).2.1) 0 ((S.2.1 j).2.2.2.2.1), ovl (codeOf (apn o4.1 ((S.2.1 j).1) 0 ((S.2.1 j).2.2.2.2.1)) (apn o4.2.1 ((S.2.1 j).2.1) 0 ((S.2.1 j).2.2.2.2.1)) ((S.2.1 j).2.2.2.2.1)) o4.2.2.1 16, ovl (rankC (codeOf (apn o4.1 ((S.2.1 j).1) 0 ((S.2.1 j).2.2.2.2.1)) (apn o4.2.1 ((S.2.1 j).2.1) 0 ((S.2.1 j).2.2.2.2.1)) ((S.2.1 j).2.2.2.2.1))) o4.2.2.2.1 16, (S.2.1 j).2.2.2.2.1, classC (codeOf (apn o4.1 ((S.2.1 j).1) 0 ((S.2.1 j).2.2.2.2.1)) (apn o4.2.1 ((S.2.1 j).2.1) 0 ((S.2.1 j).2.2.2.2.1)) ((S.2.1 j).2.2.2.2.1)))) 4 k false (by omega) (by rw [xO_ord]; exact stepOK_apn0 (o := o4) ho4.1 (hI.2 j (by omega)).1) (by rw [xO_ord]; exact hn) (by omega)) (cwV 2 hts gX4_coarsestKey_X1_append rfl rfl rfl hdX1_append_2 ⟨Nat.le_of_ble_eq_true rfl, Nat.le_of_ble_eq_true rfl⟩) (hX.preOrd (by omega)) rfl rfl hl.1 rfl (lv_room (Nat.le_of_ble_eq_true rfl)) dX4_coarsestKey_47 ⟨Nat.le_of_ble_eq_true rfl, Nat.le_of_ble_eq_true rfl⟩) hX (fun _ h => h) (fun S_ H locs hw hX => ?_)
          rw [xO_ord, xO_xO] at hw
          subst hw
          refine lv_aload_n hx hb dX4_coarsestKey_50 rfl (lv_at hl 0 rfl) ?_
          refine kx_gspareOrder hx hb hts hin4 hown hX (hts (.fieldLink RX4 41 "Orderlattice" "spareOrder" "LOrderlattice$Order;") (tm 454 (by decide +kernel) rfl)) dX4_coarsestKey_51 ?_
          refine kx_cr (v := nI (classC (codeOf (va_up (apn o4.1 ((S.2.1 j).1) 0 ((S.2.1 j).2.2.2.2.1)) ((S.2.1 j).2.2.2.2.1) k) (va_up (apn o4.2.1 ((S.2.1 j).2.1) 0 ((S.2.1 j).2.2.2.2.1)) ((S.2.1 j).2.2.2.2.1) false) ((S.2.1 j).2.2.2.2.1 + 1)))) (va_runV (As := []) (rest := []) ⟨hx, hb, hml, hown, hts⟩ (m_X1_classCount l dC dI ad (xO S 4 (va_up (apn o4.1 ((S.2.1 j).1) 0 ((S.2.1 j).2.2.2.2.1)) ((S.2.1 j).2.2.2.2.1) k, va_up (apn o4.2.1 ((S.2.1 j).2.1) 0 ((S.2.1 j).2.2.2.2.1)) ((S.2.1 j).2.2.2.2.1) false, ovl (codeOf (va_up (apn o4.1 ((S.2.1 j).1) 0 ((S.2.1 j).2.2.2.2.1)) ((S.2.1 j).2.2.2.2.1) k) (va_up (apn o4.2.1 ((S.2.1 j).2.1) 0 ((S.2.1 j).2.2.2.2.1)) ((S.2.1 j).2.2.2.2.1) false) ((S.2.1 j).2.2.2.2.1 + 1)) (ovl (codeOf (apn o4.1 ((S.2.1 j).1) 0 ((S.2.1 j).2.2.2.2.1)) (apn o4.2.1 ((S.2.1 j).2.1) 0 ((S.2.1 j).2.2.2.2.1)) ((S.2.1 j).2.2.2.2.1)) o4.2.2.1 16) 16, ovl (rankC (codeOf (va_up (apn o4.1 ((S.2.1 j).1) 0 ((S.2.1 j).2.2.2.2.1)) ((S.2.1 j).2.2.2.2.1) k) (va_up (apn o4.2.1 ((S.2.1 j).2.1) 0 ((S.2.1 j).2.2.2.2.1)) ((S.2.1 j).2.2.2.2.1) false) ((S.2.1 j).2.2.2.2.1 + 1))) (ovl (rankC (codeOf (apn o4.1 ((S.2.1 j).1) 0 ((S.2.1 j).2.2.2.2.1)) (apn o4.2.1 ((S.2.1 j).2.1) 0 ((S.2.1 j).2.2.2.2.1)) ((S.2.1 j).2.2.2.2.1))) o4.2.2.2.1 16) 16, (S.2.1 j).2.2.2.2.1 + 1, classC (codeOf (va_up (apn o4.1 ((S.2.1 j).1) 0 ((S.2.1 j).2.2.2.2.1)) ((S.2.1 j).2.2.2.2.1) k) (va_up (apn o4.2.1 ((S.2.1 j).2.1) 0 ((S.2.1 j).2.2.2.2.1)) ((S.2.1 j).2.2.2.2.1) false) ((S.2.1 j).2.2.2.2.1 + 1)))) 4  (by omega)) (cwV 0 hts gX4_coarsestKey_X1_classCount rfl rfl rfl hdX1_classCount_0 ⟨Nat.le_of_ble_eq_true rfl, Nat.le_of_ble_eq_true rfl⟩) (hX.preOrd (by omega)) rfl rfl hl.1 rfl (lv_room (Nat.le_of_ble_eq_true rfl)) dX4_coarsestKey_54 ⟨Nat.le_of_ble_eq_true rfl, Nat.le_of_ble_eq_true rfl⟩) (fun _ h => by rw [h, xO_ord]) ?_
          refine lv_iload hx hb dX4_coarsestKey_57 (lv_at hl 5 rfl) ?_
          have hcc := classC_le (codeOf (va_up (apn o4.1 (S.2.1 j).1 0 (S.2.1 j).2.2.2.2.1) (S.2.1 j).2.2.2.2.1 k) (va_up (apn o4.2.1 (S.2.1 j).2.1 0 (S.2.1 j).2.2.2.2.1) (S.2.1 j).2.2.2.2.1 false) ((S.2.1 j).2.2.2.2.1 + 1))
          have hce := coarse_eq (o := S.2.1 j) (K0 := o4.1) (D0 := o4.2.1) k
          have hfw : fw ≤ 17 := by rw [show fw = (coarse (coarseC (S.2.1 j)) (keyApart v u) k).1 from congrArg Prod.fst hq]; exact coarse_le _ _ _
          refine kn_icmp_ge (tgt := 75) hx hb (by omega) (by omega) dX4_coarsestKey_59 (by decide) (fun k_3 => ?_) (fun k_3 => ?_)
          · skip
            have h4 := k_3
            refine lv_iinc (v := nI (k + 1)) (lv' := [(6, .int (nI (k + 1))), (0, .ref (ad 57)), (1, .ref (ad (24 + 5 * j))), (2, .int (nI v)), (3, .int (nI u)), (4, .int (nI bb)), (5, .int (nI fw))]) hx hb dX4_coarsestKey_75 hl (k := 6) rfl (nI_1 k) (by decide) rfl (fun ls hl => ?_)
            refine lv_goto (tgt := 10) hx hb dX4_coarsestKey_78 (by decide) ?_
            exact ih10  (va_up (apn o4.1 ((S.2.1 j).1) 0 ((S.2.1 j).2.2.2.2.1)) ((S.2.1 j).2.2.2.2.1) k, va_up (apn o4.2.1 ((S.2.1 j).2.1) 0 ((S.2.1 j).2.2.2.2.1)) ((S.2.1 j).2.2.2.2.1) false, ovl (codeOf (va_up (apn o4.1 ((S.2.1 j).1) 0 ((S.2.1 j).2.2.2.2.1)) ((S.2.1 j).2.2.2.2.1) k) (va_up (apn o4.2.1 ((S.2.1 j).2.1) 0 ((S.2.1 j).2.2.2.2.1)) ((S.2.1 j).2.2.2.2.1) false) ((S.2.1 j).2.2.2.2.1 + 1)) (ovl (codeOf (apn o4.1 ((S.2.1 j).1) 0 ((S.2.1 j).2.2.2.2.1)) (apn o4.2.1 ((S.2.1 j).2.1) 0 ((S.2.1 j).2.2.2.2.1)) ((S.2.1 j).2.2.2.2.1)) o4.2.2.1 16) 16, ovl (rankC (codeOf (va_up (apn o4.1 ((S.2.1 j).1) 0 ((S.2.1 j).2.2.2.2.1)) ((S.2.1 j).2.2.2.2.1) k) (va_up (apn o4.2.1 ((S.2.1 j).2.1) 0 ((S.2.1 j).2.2.2.2.1)) ((S.2.1 j).2.2.2.2.1) false) ((S.2.1 j).2.2.2.2.1 + 1))) (ovl (rankC (codeOf (apn o4.1 ((S.2.1 j).1) 0 ((S.2.1 j).2.2.2.2.1)) (apn o4.2.1 ((S.2.1 j).2.1) 0 ((S.2.1 j).2.2.2.2.1)) ((S.2.1 j).2.2.2.2.1))) o4.2.2.2.1 16) 16, (S.2.1 j).2.2.2.2.1 + 1, classC (codeOf (va_up (apn o4.1 ((S.2.1 j).1) 0 ((S.2.1 j).2.2.2.2.1)) ((S.2.1 j).2.2.2.2.1) k) (va_up (apn o4.2.1 ((S.2.1 j).2.1) 0 ((S.2.1 j).2.2.2.2.1)) ((S.2.1 j).2.2.2.2.1) false) ((S.2.1 j).2.2.2.2.1 + 1))) bb fw (k + 1) (newO_ok (stepOK_up (o := (apn o4.1 (S.2.1 j).1 0 (S.2.1 j).2.2.2.2.1, fun _ => false, fun _ => 0, fun _ => 0, (S.2.1 j).2.2.2.2.1, 0)) (D := fun _ => false) (c := fun _ => 0) (r := fun _ => 0) (cl := 0) (stepOK_apn0 (o := o4) ho4.1 (hI.2 j (by omega)).1) hn (by omega))) (by omega) (coarse_no (Or.inr (by rw [← hce]; have := congrArg Prod.fst hq; omega)) hq) _ _ (by omega) hX _ (lv_sub hl [1, 2, 3, 4, 5, 6, 0] rfl)
          · skip
            have h4 := k_3
            refine lv_aload_n hx hb dX4_coarsestKey_62 rfl (lv_at hl 0 rfl) ?_
            refine kx_gspareOrder hx hb hts hin4 hown hX (hts (.fieldLink RX4 41 "Orderlattice" "spareOrder" "LOrderlattice$Order;") (tm 454 (by decide +kernel) rfl)) dX4_coarsestKey_63 ?_
            refine kx_cr (v := nI (classC (codeOf (va_up (apn o4.1 ((S.2.1 j).1) 0 ((S.2.1 j).2.2.2.2.1)) ((S.2.1 j).2.2.2.2.1) k) (va_up (apn o4.2.1 ((S.2.1 j).2.1) 0 ((S.2.1 j).2.2.2.2.1)) ((S.2.1 j).2.2.2.2.1) false) ((S.2.1 j).2.2.2.2.1 + 1)))) (va_runV (As := []) (rest := []) ⟨hx, hb, hml, hown, hts⟩ (m_X1_classCount l dC dI ad (xO S 4 (va_up (apn o4.1 ((S.2.1 j).1) 0 ((S.2.1 j).2.2.2.2.1)) ((S.2.1 j).2.2.2.2.1) k, va_up (apn o4.2.1 ((S.2.1 j).2.1) 0 ((S.2.1 j).2.2.2.2.1)) ((S.2.1 j).2.2.2.2.1) false, ovl (codeOf (va_up (apn o4.1 ((S.2.1 j).1) 0 ((S.2.1 j).2.2.2.2.1)) ((S.2.1 j).2.2.2.2.1) k) (va_up (apn o4.2.1 ((S.2.1 j).2.1) 0 ((S.2.1 j).2.2.2.2.1)) ((S.2.1 j).2.2.2.2.1) false) ((S.2.1 j).2.2.2.2.1 + 1)) (ovl (codeOf (apn o4.1 ((S.2.1 j).1) 0 ((S.2.1 j).2.2.2.2.1)) (apn o4.2.1 ((S.2.1 j).2.1) 0 ((S.2.1 j).2.2.2.2.1)) ((S.2.1 j).2.2.2.2.1)) o4.2.2.1 16) 16, ovl (rankC (codeOf (va_up (apn o4.1 ((S.2.1 j).1) 0 ((S.2.1 j).2.2.2.2.1)) ((S.2.1 j).2.2.2.2.1) k) (va_up (apn o4.2.1 ((S.2.1 j).2.1) 0 ((S.2.1 j).2.2.2.2.1)) ((S.2.1 j).2.2.2.2.1) false) ((S.2.1 j).2.2.2.2.1 + 1))) (ovl (rankC (codeOf (apn o4.1 ((S.2.1 j).1) 0 ((S.2.1 j).2.2.2.2.1)) (apn o4.2.1 ((S.2.1 j).2.1) 0 ((S.2.1 j).2.2.2.2.1)) ((S.2.1 j).2.2.2.2.1))) o4.2.2.2.1 16) 16, (S.2.1 j).2.2.2.2.1 + 1, classC (codeOf (va_up (apn o4.1 ((S.2.1 j).1) 0 ((S.2.1 j).2.2.2.2.1)) ((S.2.1 j).2.2.2.2.1) k) (va_up (apn o4.2.1 ((S.2.1 j).2.1) 0 ((S.2.1 j).2.2.2.2.1)) ((S.2.1 j).2.2.2.2.1) false) ((S.2.1 j).2.2.2.2.1 + 1)))) 4  (by omega)) (cwV 0 hts gX4_coarsestKey_X1_classCount rfl rfl rfl hdX1_classCount_0 ⟨Nat.le_of_ble_eq_true rfl, Nat.le_of_ble_eq_true rfl⟩) (hX.preOrd (by omega)) rfl rfl hl.1 rfl (lv_room (Nat.le_of_ble_eq_true rfl)) dX4_coarsestKey_66 ⟨Nat.le_of_ble_eq_true rfl, Nat.le_of_ble_eq_true rfl⟩) (fun _ h => by rw [h, xO_ord]) ?_
            refine lv_istore (lv' := [(5, .int (nI (classC (codeOf (va_up (apn o4.1 ((S.2.1 j).1) 0 ((S.2.1 j).2.2.2.2.1)) ((S.2.1 j).2.2.2.2.1) k) (va_up (apn o4.2.1 ((S.2.1 j).2.1) 0 ((S.2.1 j).2.2.2.2.1)) ((S.2.1 j).2.2.2.2.1) false) ((S.2.1 j).2.2.2.2.1 + 1))))), (0, .ref (ad 57)), (1, .ref (ad (24 + 5 * j))), (2, .int (nI v)), (3, .int (nI u)), (4, .int (nI bb)), (6, .int (nI k))]) hx hb dX4_coarsestKey_69 hl (by decide) rfl (fun ls hl => ?_)
            refine lv_iload hx hb dX4_coarsestKey_71 (lv_at hl 6 rfl) ?_
            refine lv_istore (lv' := [(4, .int (nI k)), (5, .int (nI (classC (codeOf (va_up (apn o4.1 ((S.2.1 j).1) 0 ((S.2.1 j).2.2.2.2.1)) ((S.2.1 j).2.2.2.2.1) k) (va_up (apn o4.2.1 ((S.2.1 j).2.1) 0 ((S.2.1 j).2.2.2.2.1)) ((S.2.1 j).2.2.2.2.1) false) ((S.2.1 j).2.2.2.2.1 + 1))))), (0, .ref (ad 57)), (1, .ref (ad (24 + 5 * j))), (2, .int (nI v)), (3, .int (nI u)), (6, .int (nI k))]) hx hb dX4_coarsestKey_73 hl (by decide) rfl (fun ls hl => ?_)
            refine lv_iinc (v := nI (k + 1)) (lv' := [(6, .int (nI (k + 1))), (4, .int (nI k)), (5, .int (nI (classC (codeOf (va_up (apn o4.1 ((S.2.1 j).1) 0 ((S.2.1 j).2.2.2.2.1)) ((S.2.1 j).2.2.2.2.1) k) (va_up (apn o4.2.1 ((S.2.1 j).2.1) 0 ((S.2.1 j).2.2.2.2.1)) ((S.2.1 j).2.2.2.2.1) false) ((S.2.1 j).2.2.2.2.1 + 1))))), (0, .ref (ad 57)), (1, .ref (ad (24 + 5 * j))), (2, .int (nI v)), (3, .int (nI u))]) hx hb dX4_coarsestKey_75 hl (k := 6) rfl (nI_1 k) (by decide) rfl (fun ls hl => ?_)
            refine lv_goto (tgt := 10) hx hb dX4_coarsestKey_78 (by decide) ?_
            exact ih10  (va_up (apn o4.1 ((S.2.1 j).1) 0 ((S.2.1 j).2.2.2.2.1)) ((S.2.1 j).2.2.2.2.1) k, va_up (apn o4.2.1 ((S.2.1 j).2.1) 0 ((S.2.1 j).2.2.2.2.1)) ((S.2.1 j).2.2.2.2.1) false, ovl (codeOf (va_up (apn o4.1 ((S.2.1 j).1) 0 ((S.2.1 j).2.2.2.2.1)) ((S.2.1 j).2.2.2.2.1) k) (va_up (apn o4.2.1 ((S.2.1 j).2.1) 0 ((S.2.1 j).2.2.2.2.1)) ((S.2.1 j).2.2.2.2.1) false) ((S.2.1 j).2.2.2.2.1 + 1)) (ovl (codeOf (apn o4.1 ((S.2.1 j).1) 0 ((S.2.1 j).2.2.2.2.1)) (apn o4.2.1 ((S.2.1 j).2.1) 0 ((S.2.1 j).2.2.2.2.1)) ((S.2.1 j).2.2.2.2.1)) o4.2.2.1 16) 16, ovl (rankC (codeOf (va_up (apn o4.1 ((S.2.1 j).1) 0 ((S.2.1 j).2.2.2.2.1)) ((S.2.1 j).2.2.2.2.1) k) (va_up (apn o4.2.1 ((S.2.1 j).2.1) 0 ((S.2.1 j).2.2.2.2.1)) ((S.2.1 j).2.2.2.2.1) false) ((S.2.1 j).2.2.2.2.1 + 1))) (ovl (rankC (codeOf (apn o4.1 ((S.2.1 j).1) 0 ((S.2.1 j).2.2.2.2.1)) (apn o4.2.1 ((S.2.1 j).2.1) 0 ((S.2.1 j).2.2.2.2.1)) ((S.2.1 j).2.2.2.2.1))) o4.2.2.2.1 16) 16, (S.2.1 j).2.2.2.2.1 + 1, classC (codeOf (va_up (apn o4.1 ((S.2.1 j).1) 0 ((S.2.1 j).2.2.2.2.1)) ((S.2.1 j).2.2.2.2.1) k) (va_up (apn o4.2.1 ((S.2.1 j).2.1) 0 ((S.2.1 j).2.2.2.2.1)) ((S.2.1 j).2.2.2.2.1) false) ((S.2.1 j).2.2.2.2.1 + 1))) k (classC (codeOf (va_up (apn o4.1 ((S.2.1 j).1) 0 ((S.2.1 j).2.2.2.2.1)) ((S.2.1 j).2.2.2.2.1) k) (va_up (apn o4.2.1 ((S.2.1 j).2.1) 0 ((S.2.1 j).2.2.2.2.1)) ((S.2.1 j).2.2.2.2.1) false) ((S.2.1 j).2.2.2.2.1 + 1))) (k + 1) (newO_ok (stepOK_up (o := (apn o4.1 (S.2.1 j).1 0 (S.2.1 j).2.2.2.2.1, fun _ => false, fun _ => 0, fun _ => 0, (S.2.1 j).2.2.2.2.1, 0)) (D := fun _ => false) (c := fun _ => 0) (r := fun _ => 0) (cl := 0) (stepOK_apn0 (o := o4) ho4.1 (hI.2 j (by omega)).1) hn (by omega))) (by omega) (by rw [hce]; exact coarse_new (keyApart_yes h3) (by rw [← hce]; have := congrArg Prod.fst hq; omega) hq) _ _ (by omega) hX _ (lv_sub hl [3, 4, 5, 6, 1, 2, 0] rfl)
  exact loop10 (8 + 1) (S.2.1 4) 0 17 0 (hI.2 4 (by omega)) (by omega) rfl _ _ (by omega) (WX.eqS (xO_self S 4).symm hX) _ (lv_sub hl [3, 4, 5, 6, 2, 1, 0] rfl)
end
section
/-! the object's calls -/
def exI (o : Option Nat) (f : Nat → Nat) : Int32 := match o with
  | none => -1
  | some b => nI (f b)
def coarseD (o : OrdS) (k : Nat) (z : Bool) : Nat := classC (codeOf (va_up o.1 o.2.2.2.2.1 k) (va_up o.2.1 o.2.2.2.2.1 z) (o.2.2.2.2.1 + 1))
theorem fillV (f : Nat → Nat) (k2 k3 n a : Nat) : va_up (apn f (fun x => (k2 + x * k3) % 16) n a) (n + a) ((k2 + a * k3) % 16) = apn f (fun x => (k2 + x * k3) % 16) n (a + 1) := apn_up f (fun x => (k2 + x * k3) % 16) n a
theorem fillM (f : Nat → Nat) (p n a : Nat) : va_up (apn f (fun x => p + x) n a) (n + a) (p + a) = apn f (fun x => p + x) n (a + 1) := apn_up f (fun x => p + x) n a
set_option maxHeartbeats 4000000 in
set_option maxRecDepth 100000 in
theorem m_X4_put (l : Launch) (dC : Nat → ClassId) (dI : Nat → Nat → Nat) (ad : Nat → Nat) (S : XS) (i : Nat) (v : Nat) (hi : i < 3) (hv : v < 16) (hI : InvX S) : Met l yX4_put wsX4_put ({ frames := 3, cells := 0, slots := 0, locals := 71 } : Room) (va_Pc [.ref (ad 57), .int (nI i), .int (nI v)] (PX dC dI ad S)) (va_Qi (fun r S' => ((S.1 i).2.2 < 12 ∧ r = nI S.2.2.1 ∧ S' = placeT S i ((S.1 i).2.2) v) ∨ (12 ≤ (S.1 i).2.2 ∧ r = -9 ∧ S' = refT S)) (PX dC dI ad) (AX ad)) 0 0 (AX ad) := by
  refine Met.ofW (cc := cX4_put) (maxL := 4) (ret := (some .int)) pl_X4 rfl ?_
  intro p e s m args below meth c s₁ B hml hv
  obtain ⟨rfl, hPX⟩ := hv
  have hx := B.exec
  have hb := B.bytes
  have hr := B.returns
  have hts := atoms_spec (ws := wsX4_put) B.pre
  have hown : s.vm.findClass RX4 = some m.cls := findClass_of_methodNamed B.named
  have hlocks := B.notSynchronized
  have hX := WX.of hPX
  have hl := lv_entry ([.ref (ad 57), .int (nI i), .int (nI v)]) (n := 4) (Nat.le_of_ble_eq_true rfl)
  rw [lg_entry_eq]
  generalize (lg_sl ([.ref (ad 57), .int (nI i), .int (nI v)]) ++ List.replicate (4 - (lg_sl ([.ref (ad 57), .int (nI i), .int (nI v)])).length) Slot.unset).toArray = ls at hl ⊢
  have hl : lv_has ls 4 [(0, .ref (ad 57)), (1, .int (nI i)), (2, .int (nI v))] := hl
  show W p l e ({ frames := 3, cells := 0, slots := 0, locals := 71 } : Room) s m ([.ref (ad 57), .int (nI i), .int (nI v)]).toArray below meth c s.heap [] 0 0 (MQ below (va_Qi (fun r S' => ((S.1 i).2.2 < 12 ∧ r = nI S.2.2.1 ∧ S' = placeT S i ((S.1 i).2.2) v) ∨ (12 ≤ (S.1 i).2.2 ∧ r = -9 ∧ S' = refT S)) (PX dC dI ad) (AX ad)) ([.ref (ad 57), .int (nI i), .int (nI v)]).toArray s 0 0 (AX ad)) (F0 m 0 ls [])
  have hn := (hI.1 i (by omega)).1
  refine lv_aload_n hx hb dX4_put_0 rfl (lv_at hl 0 rfl) ?_
  refine lv_iload_n hx hb dX4_put_1 rfl (lv_at hl 1 rfl) ?_
  refine va_csr (va_Run.run (va_runV (As := [.int (nI i)]) (rest := []) ⟨hx, hb, hml, hown, hts⟩ (m_X4_rowAt l dC dI ad S i (by omega)) (cwV 1 hts gX4_put_X4_rowAt rfl rfl rfl hdX4_rowAt_1 ⟨Nat.le_of_ble_eq_true rfl, Nat.le_of_ble_eq_true rfl⟩) (hX.preTop 57 6 (by decide) (by decide) rfl rfl) rfl rfl hl.1 rfl (lv_room (Nat.le_of_ble_eq_true rfl)) dX4_put_2 ⟨Nat.le_of_ble_eq_true rfl, Nat.le_of_ble_eq_true rfl⟩)) (fun k_ hk_ => ?_)
  rw [hk_]
  refine lv_astore_n (lv' := [(3, .ref (ad (3 * i))), (0, .ref (ad 57)), (1, .int (nI i)), (2, .int (nI v))]) hx hb dX4_put_5 rfl hl (by decide) rfl (fun ls hl => ?_)
  refine lv_iload_n hx hb dX4_put_6 rfl (lv_at hl 3 rfl) ?_
  refine va_csv (va_Run.run (va_runS (As := [.int (nI v)]) (rest := []) ⟨hx, hb, hml, hown, hts⟩ (m_X4_demandValue l dC dI ad S v (by omega)) (va_cwS 1 hts gX4_put_X4_demandValue rfl rfl rfl hdX4_demandValue_1.2 ⟨Nat.le_of_ble_eq_true rfl, Nat.le_of_ble_eq_true rfl⟩) hX.preS rfl rfl hl.1 rfl (lv_room (Nat.le_of_ble_eq_true rfl)) dX4_put_7 ⟨Nat.le_of_ble_eq_true rfl, Nat.le_of_ble_eq_true rfl⟩)) (fun _ => ?_)
  refine lv_aload_n hx hb dX4_put_10 rfl (lv_at hl 1 rfl) ?_
  refine lv_aload_n hx hb dX4_put_11 rfl (lv_at hl 0 rfl) ?_
  refine lv_aload_n hx hb dX4_put_12 rfl (lv_at hl 0 rfl) ?_
  refine kx_cr (v := nI ((S.1 i).2.2)) (va_runV (As := []) (rest := [.ref (ad (3 * i)), .ref (ad 57)]) ⟨hx, hb, hml, hown, hts⟩ (m_X2_length l dC dI ad S i (by omega)) (cwV 0 hts gX4_put_X2_length rfl rfl rfl hdX2_length_0 ⟨Nat.le_of_ble_eq_true rfl, Nat.le_of_ble_eq_true rfl⟩) (hX.preRow (by omega)) rfl rfl hl.1 rfl (lv_room (Nat.le_of_ble_eq_true rfl)) dX4_put_13 ⟨Nat.le_of_ble_eq_true rfl, Nat.le_of_ble_eq_true rfl⟩) (fun _ h => h) ?_
  refine lv_iload_n hx hb dX4_put_16 rfl (lv_at hl 3 rfl) ?_
  refine kx_ci (va_runV (As := [.ref (ad (3 * i)), .int (nI ((S.1 i).2.2)), .int (nI v)]) (rest := []) ⟨hx, hb, hml, hown, hts⟩ (m_X4_placeNew l dC dI ad S i ((S.1 i).2.2) v (by omega) hI (by omega)) (cwV 3 hts gX4_put_X4_placeNew rfl rfl rfl hdX4_placeNew_3 ⟨Nat.le_of_ble_eq_true rfl, Nat.le_of_ble_eq_true rfl⟩) (hX.preTop 57 6 (by decide) (by decide) rfl rfl) rfl rfl hl.1 rfl (lv_room (Nat.le_of_ble_eq_true rfl)) dX4_put_17 ⟨Nat.le_of_ble_eq_true rfl, Nat.le_of_ble_eq_true rfl⟩) hX (fun _ h => h) (fun r_ S_1 H locs hw hX => ?_)
  exact W.iret (v := r_) hx hb hr (fun t9 ht9 hW9 => ⟨⟨_, S_1, rfl, hw, hX.P ht9 hW9⟩, hX.2.2.2.F ht9⟩) hX.2.2.2.2.2 dX4_put_20
set_option maxHeartbeats 4000000 in
set_option maxRecDepth 100000 in
theorem m_X4_putAt (l : Launch) (dC : Nat → ClassId) (dI : Nat → Nat → Nat) (ad : Nat → Nat) (S : XS) (i : Nat) (q : Nat) (v : Nat) (hi : i < 3) (hq : q ≤ (S.1 i).2.2) (hv : v < 16) (hI : InvX S) : Met l yX4_putAt wsX4_putAt ({ frames := 3, cells := 0, slots := 0, locals := 71 } : Room) (va_Pc [.ref (ad 57), .int (nI i), .int (nI q), .int (nI v)] (PX dC dI ad S)) (va_Qi (fun r S' => ((S.1 i).2.2 < 12 ∧ r = nI S.2.2.1 ∧ S' = placeT S i q v) ∨ (12 ≤ (S.1 i).2.2 ∧ r = -9 ∧ S' = refT S)) (PX dC dI ad) (AX ad)) 0 0 (AX ad) := by
  refine Met.ofW (cc := cX4_putAt) (maxL := 5) (ret := (some .int)) pl_X4 rfl ?_
  intro p e s m args below meth c s₁ B hml hv
  obtain ⟨rfl, hPX⟩ := hv
  have hx := B.exec
  have hb := B.bytes
  have hr := B.returns
  have hts := atoms_spec (ws := wsX4_putAt) B.pre
  have hown : s.vm.findClass RX4 = some m.cls := findClass_of_methodNamed B.named
  have hlocks := B.notSynchronized
  have hX := WX.of hPX
  have hl := lv_entry ([.ref (ad 57), .int (nI i), .int (nI q), .int (nI v)]) (n := 5) (Nat.le_of_ble_eq_true rfl)
  rw [lg_entry_eq]
  generalize (lg_sl ([.ref (ad 57), .int (nI i), .int (nI q), .int (nI v)]) ++ List.replicate (5 - (lg_sl ([.ref (ad 57), .int (nI i), .int (nI q), .int (nI v)])).length) Slot.unset).toArray = ls at hl ⊢
  have hl : lv_has ls 5 [(0, .ref (ad 57)), (1, .int (nI i)), (2, .int (nI q)), (3, .int (nI v))] := hl
  show W p l e ({ frames := 3, cells := 0, slots := 0, locals := 71 } : Room) s m ([.ref (ad 57), .int (nI i), .int (nI q), .int (nI v)]).toArray below meth c s.heap [] 0 0 (MQ below (va_Qi (fun r S' => ((S.1 i).2.2 < 12 ∧ r = nI S.2.2.1 ∧ S' = placeT S i q v) ∨ (12 ≤ (S.1 i).2.2 ∧ r = -9 ∧ S' = refT S)) (PX dC dI ad) (AX ad)) ([.ref (ad 57), .int (nI i), .int (nI q), .int (nI v)]).toArray s 0 0 (AX ad)) (F0 m 0 ls [])
  have hn := (hI.1 i (by omega)).1
  refine lv_aload_n hx hb dX4_putAt_0 rfl (lv_at hl 0 rfl) ?_
  refine lv_iload_n hx hb dX4_putAt_1 rfl (lv_at hl 1 rfl) ?_
  refine va_csr (va_Run.run (va_runV (As := [.int (nI i)]) (rest := []) ⟨hx, hb, hml, hown, hts⟩ (m_X4_rowAt l dC dI ad S i (by omega)) (cwV 1 hts gX4_putAt_X4_rowAt rfl rfl rfl hdX4_rowAt_1 ⟨Nat.le_of_ble_eq_true rfl, Nat.le_of_ble_eq_true rfl⟩) (hX.preTop 57 6 (by decide) (by decide) rfl rfl) rfl rfl hl.1 rfl (lv_room (Nat.le_of_ble_eq_true rfl)) dX4_putAt_2 ⟨Nat.le_of_ble_eq_true rfl, Nat.le_of_ble_eq_true rfl⟩)) (fun k_ hk_ => ?_)
  rw [hk_]
  refine lv_astore (lv' := [(4, .ref (ad (3 * i))), (0, .ref (ad 57)), (1, .int (nI i)), (2, .int (nI q)), (3, .int (nI v))]) hx hb dX4_putAt_5 hl (by decide) rfl (fun ls hl => ?_)
  refine lv_aload hx hb dX4_putAt_7 (lv_at hl 0 rfl) ?_
  refine lv_iload_n hx hb dX4_putAt_9 rfl (lv_at hl 3 rfl) ?_
  refine va_csv (va_Run.run (va_runS (As := [.ref (ad (3 * i)), .int (nI q)]) (rest := []) ⟨hx, hb, hml, hown, hts⟩ (m_X4_demandGap l dC dI ad S i q (by omega) (by omega) (by omega)) (va_cwS 2 hts gX4_putAt_X4_demandGap rfl rfl rfl hdX4_demandGap_2.2 ⟨Nat.le_of_ble_eq_true rfl, Nat.le_of_ble_eq_true rfl⟩) hX.preS rfl rfl hl.1 rfl (lv_room (Nat.le_of_ble_eq_true rfl)) dX4_putAt_10 ⟨Nat.le_of_ble_eq_true rfl, Nat.le_of_ble_eq_true rfl⟩)) (fun _ => ?_)
  refine lv_iload_n hx hb dX4_putAt_13 rfl (lv_at hl 4 rfl) ?_
  refine va_csv (va_Run.run (va_runS (As := [.int (nI v)]) (rest := []) ⟨hx, hb, hml, hown, hts⟩ (m_X4_demandValue l dC dI ad S v (by omega)) (va_cwS 1 hts gX4_putAt_X4_demandValue rfl rfl rfl hdX4_demandValue_1.2 ⟨Nat.le_of_ble_eq_true rfl, Nat.le_of_ble_eq_true rfl⟩) hX.preS rfl rfl hl.1 rfl (lv_room (Nat.le_of_ble_eq_true rfl)) dX4_putAt_14 ⟨Nat.le_of_ble_eq_true rfl, Nat.le_of_ble_eq_true rfl⟩)) (fun _ => ?_)
  refine lv_aload_n hx hb dX4_putAt_17 rfl (lv_at hl 1 rfl) ?_
  refine lv_aload hx hb dX4_putAt_18 (lv_at hl 0 rfl) ?_
  refine lv_iload_n hx hb dX4_putAt_20 rfl (lv_at hl 3 rfl) ?_
  refine lv_iload_n hx hb dX4_putAt_21 rfl (lv_at hl 4 rfl) ?_
  refine kx_ci (va_runV (As := [.ref (ad (3 * i)), .int (nI q), .int (nI v)]) (rest := []) ⟨hx, hb, hml, hown, hts⟩ (m_X4_placeNew l dC dI ad S i q v (by omega) hI (by omega)) (cwV 3 hts gX4_putAt_X4_placeNew rfl rfl rfl hdX4_placeNew_3 ⟨Nat.le_of_ble_eq_true rfl, Nat.le_of_ble_eq_true rfl⟩) (hX.preTop 57 6 (by decide) (by decide) rfl rfl) rfl rfl hl.1 rfl (lv_room (Nat.le_of_ble_eq_true rfl)) dX4_putAt_22 ⟨Nat.le_of_ble_eq_true rfl, Nat.le_of_ble_eq_true rfl⟩) hX (fun _ h => h) (fun r_ S_1 H locs hw hX => ?_)
  exact W.iret (v := r_) hx hb hr (fun t9 ht9 hW9 => ⟨⟨_, S_1, rfl, hw, hX.P ht9 hW9⟩, hX.2.2.2.F ht9⟩) hX.2.2.2.2.2 dX4_putAt_25
set_option maxHeartbeats 4000000 in
set_option maxRecDepth 100000 in
theorem m_X4_fill (l : Launch) (dC : Nat → ClassId) (dI : Nat → Nat → Nat) (ad : Nat → Nat) (S : XS) (i : Nat) (k : Nat) (k2 : Nat) (k3 : Nat) (hi : i < 3) (hk : k ≤ 12) (hk2 : k2 ≤ 99) (hk3 : k3 ≤ 99) (hI : InvX S) : Met l yX4_fill wsX4_fill ({ frames := 1, cells := 0, slots := 0, locals := 22 } : Room) (va_Pc [.ref (ad 57), .int (nI i), .int (nI k), .int (nI k2), .int (nI k3)] (PX dC dI ad S)) (va_Qi (fun r S' => ((S.1 i).2.2 + k ≤ 12 ∧ r = nI ((S.1 i).2.2 + k) ∧ S' = xR (xN S (S.2.2.1 + k, S.2.2.2.1, S.2.2.2.2)) i (apn (S.1 i).1 (fun x => (k2 + x * k3) % 16) (S.1 i).2.2 k, apn (S.1 i).2.1 (fun x => S.2.2.1 + x) (S.1 i).2.2 k, (S.1 i).2.2 + k)) ∨ (12 < (S.1 i).2.2 + k ∧ r = -9 ∧ S' = refT S)) (PX dC dI ad) (AX ad)) 0 0 (AX ad) := by
  refine Met.ofW (cc := cX4_fill) (maxL := 7) (ret := (some .int)) pl_X4 rfl ?_
  intro p e s m args below meth c s₁ B hml hv
  obtain ⟨rfl, hPX⟩ := hv
  have hx := B.exec
  have hb := B.bytes
  have hr := B.returns
  have hts := atoms_spec (ws := wsX4_fill) B.pre
  have hown : s.vm.findClass RX4 = some m.cls := findClass_of_methodNamed B.named
  have hlocks := B.notSynchronized
  have hX := WX.of hPX
  have hl := lv_entry ([.ref (ad 57), .int (nI i), .int (nI k), .int (nI k2), .int (nI k3)]) (n := 7) (Nat.le_of_ble_eq_true rfl)
  rw [lg_entry_eq]
  generalize (lg_sl ([.ref (ad 57), .int (nI i), .int (nI k), .int (nI k2), .int (nI k3)]) ++ List.replicate (7 - (lg_sl ([.ref (ad 57), .int (nI i), .int (nI k), .int (nI k2), .int (nI k3)])).length) Slot.unset).toArray = ls at hl ⊢
  have hl : lv_has ls 7 [(0, .ref (ad 57)), (1, .int (nI i)), (2, .int (nI k)), (3, .int (nI k2)), (4, .int (nI k3))] := hl
  show W p l e ({ frames := 1, cells := 0, slots := 0, locals := 22 } : Room) s m ([.ref (ad 57), .int (nI i), .int (nI k), .int (nI k2), .int (nI k3)]).toArray below meth c s.heap [] 0 0 (MQ below (va_Qi (fun r S' => ((S.1 i).2.2 + k ≤ 12 ∧ r = nI ((S.1 i).2.2 + k) ∧ S' = xR (xN S (S.2.2.1 + k, S.2.2.2.1, S.2.2.2.2)) i (apn (S.1 i).1 (fun x => (k2 + x * k3) % 16) (S.1 i).2.2 k, apn (S.1 i).2.1 (fun x => S.2.2.1 + x) (S.1 i).2.2 k, (S.1 i).2.2 + k)) ∨ (12 < (S.1 i).2.2 + k ∧ r = -9 ∧ S' = refT S)) (PX dC dI ad) (AX ad)) ([.ref (ad 57), .int (nI i), .int (nI k), .int (nI k2), .int (nI k3)]).toArray s 0 0 (AX ad)) (F0 m 0 ls [])
  have hn := (hI.1 i (by omega)).1
  refine lv_aload_n hx hb dX4_fill_0 rfl (lv_at hl 0 rfl) ?_
  refine lv_iload_n hx hb dX4_fill_1 rfl (lv_at hl 1 rfl) ?_
  refine va_csr (va_Run.run (va_runV (As := [.int (nI i)]) (rest := []) ⟨hx, hb, hml, hown, hts⟩ (m_X4_rowAt l dC dI ad S i (by omega)) (cwV 1 hts gX4_fill_X4_rowAt rfl rfl rfl hdX4_rowAt_1 ⟨Nat.le_of_ble_eq_true rfl, Nat.le_of_ble_eq_true rfl⟩) (hX.preTop 57 6 (by decide) (by decide) rfl rfl) rfl rfl hl.1 rfl (lv_room (Nat.le_of_ble_eq_true rfl)) dX4_fill_2 ⟨Nat.le_of_ble_eq_true rfl, Nat.le_of_ble_eq_true rfl⟩)) (fun k_ hk_ => ?_)
  rw [hk_]
  refine lv_astore (lv' := [(5, .ref (ad (3 * i))), (0, .ref (ad 57)), (1, .int (nI i)), (2, .int (nI k)), (3, .int (nI k2)), (4, .int (nI k3))]) hx hb dX4_fill_5 hl (by decide) rfl (fun ls hl => ?_)
  refine lv_iload_n hx hb dX4_fill_7 rfl (lv_at hl 3 rfl) ?_
  refine lv_bipush (v := nI 12) hx hb dX4_fill_8 (by decide) ?_
  refine va_csv (va_Run.run (va_runS (As := [.int (nI k), .int (nI 12)]) (rest := []) ⟨hx, hb, hml, hown, hts⟩ (m_X4_demandWithin l dC dI ad S k 12 (by omega) (by omega)) (va_cwS 2 hts gX4_fill_X4_demandWithin rfl rfl rfl hdX4_demandWithin_2.2 ⟨Nat.le_of_ble_eq_true rfl, Nat.le_of_ble_eq_true rfl⟩) hX.preS rfl rfl hl.1 rfl (lv_room (Nat.le_of_ble_eq_true rfl)) dX4_fill_10 ⟨Nat.le_of_ble_eq_true rfl, Nat.le_of_ble_eq_true rfl⟩)) (fun _ => ?_)
  refine lv_iload_n hx hb dX4_fill_13 rfl (lv_at hl 4 rfl) ?_
  refine lv_bipush (v := nI 99) hx hb dX4_fill_14 (by decide) ?_
  refine va_csv (va_Run.run (va_runS (As := [.int (nI k2), .int (nI 99)]) (rest := []) ⟨hx, hb, hml, hown, hts⟩ (m_X4_demandWithin l dC dI ad S k2 99 (by omega) (by omega)) (va_cwS 2 hts gX4_fill_X4_demandWithin rfl rfl rfl hdX4_demandWithin_2.2 ⟨Nat.le_of_ble_eq_true rfl, Nat.le_of_ble_eq_true rfl⟩) hX.preS rfl rfl hl.1 rfl (lv_room (Nat.le_of_ble_eq_true rfl)) dX4_fill_16 ⟨Nat.le_of_ble_eq_true rfl, Nat.le_of_ble_eq_true rfl⟩)) (fun _ => ?_)
  refine lv_iload hx hb dX4_fill_19 (lv_at hl 5 rfl) ?_
  refine lv_bipush (v := nI 99) hx hb dX4_fill_21 (by decide) ?_
  refine va_csv (va_Run.run (va_runS (As := [.int (nI k3), .int (nI 99)]) (rest := []) ⟨hx, hb, hml, hown, hts⟩ (m_X4_demandWithin l dC dI ad S k3 99 (by omega) (by omega)) (va_cwS 2 hts gX4_fill_X4_demandWithin rfl rfl rfl hdX4_demandWithin_2.2 ⟨Nat.le_of_ble_eq_true rfl, Nat.le_of_ble_eq_true rfl⟩) hX.preS rfl rfl hl.1 rfl (lv_room (Nat.le_of_ble_eq_true rfl)) dX4_fill_23 ⟨Nat.le_of_ble_eq_true rfl, Nat.le_of_ble_eq_true rfl⟩)) (fun _ => ?_)
  refine lv_aload hx hb dX4_fill_26 (lv_at hl 0 rfl) ?_
  refine kx_cr (v := nI ((S.1 i).2.2)) (va_runV (As := []) (rest := []) ⟨hx, hb, hml, hown, hts⟩ (m_X2_length l dC dI ad S i (by omega)) (cwV 0 hts gX4_fill_X2_length rfl rfl rfl hdX2_length_0 ⟨Nat.le_of_ble_eq_true rfl, Nat.le_of_ble_eq_true rfl⟩) (hX.preRow (by omega)) rfl rfl hl.1 rfl (lv_room (Nat.le_of_ble_eq_true rfl)) dX4_fill_28 ⟨Nat.le_of_ble_eq_true rfl, Nat.le_of_ble_eq_true rfl⟩) (fun _ h => h) ?_
  refine lv_iload_n hx hb dX4_fill_31 rfl (lv_at hl 3 rfl) ?_
  refine kn_iadd hx hb dX4_fill_32 ?_
  refine lv_bipush (v := nI 12) hx hb dX4_fill_33 (by decide) ?_
  refine kn_icmp_le (tgt := 43) hx hb (by omega) (by omega) dX4_fill_35 (by decide) (fun k_1 => ?_) (fun k_1 => ?_)
  · skip
    have hc := k_1
    refine lv_iconst (v := nI 0) hx hb dX4_fill_43 (by decide) ?_
    refine lv_istore (lv' := [(6, .int (nI 0)), (5, .ref (ad (3 * i))), (0, .ref (ad 57)), (1, .int (nI i)), (2, .int (nI k)), (3, .int (nI k2)), (4, .int (nI k3))]) hx hb dX4_fill_44 hl (by decide) rfl (fun ls hl => ?_)
    have loop46 : ∀ (fuel : Nat) (a : Nat) (ha : a ≤ k) (H : Heap) (locs : List Loc), k - a < fuel → WX dC dI ad (xR (xN S (S.2.2.1 + a, S.2.2.2.1, S.2.2.2.2)) i (apn (S.1 i).1 (fun x => (k2 + x * k3) % 16) (S.1 i).2.2 a, apn (S.1 i).2.1 (fun x => S.2.2.1 + x) (S.1 i).2.2 a, (S.1 i).2.2 + a)) (AX ad) s H locs → ∀ ls : Array Slot, lv_has ls 7 [(0, .ref (ad 57)), (1, .int (nI i)), (2, .int (nI k)), (3, .int (nI k2)), (4, .int (nI k3)), (5, .ref (ad (3 * i))), (6, .int (nI a))] → W p l e ({ frames := 1, cells := 0, slots := 0, locals := 22 } : Room) s m ([.ref (ad 57), .int (nI i), .int (nI k), .int (nI k2), .int (nI k3)]).toArray below meth c H locs 0 0 (MQ below (va_Qi (fun r S' => ((S.1 i).2.2 + k ≤ 12 ∧ r = nI ((S.1 i).2.2 + k) ∧ S' = xR (xN S (S.2.2.1 + k, S.2.2.2.1, S.2.2.2.2)) i (apn (S.1 i).1 (fun x => (k2 + x * k3) % 16) (S.1 i).2.2 k, apn (S.1 i).2.1 (fun x => S.2.2.1 + x) (S.1 i).2.2 k, (S.1 i).2.2 + k)) ∨ (12 < (S.1 i).2.2 + k ∧ r = -9 ∧ S' = refT S)) (PX dC dI ad) (AX ad)) ([.ref (ad 57), .int (nI i), .int (nI k), .int (nI k2), .int (nI k3)]).toArray s 0 0 (AX ad)) (F0 m 46 ls []) := by
      intro fuel
      induction fuel with
      | zero => intro a ha H locs hf; exact absurd hf (Nat.not_lt_zero _)
      | succ fuel ih46 =>
        intro a ha H locs hf hX ls hl
        refine lv_iload hx hb dX4_fill_46 (lv_at hl 6 rfl) ?_
        refine lv_iload_n hx hb dX4_fill_48 rfl (lv_at hl 2 rfl) ?_
        refine kn_icmp_ge (tgt := 77) hx hb (by omega) (by omega) dX4_fill_49 (by decide) (fun k_2 => ?_) (fun k_2 => ?_)
        · skip
          refine lv_aload hx hb dX4_fill_77 (lv_at hl 5 rfl) ?_
          refine kx_cr (v := nI ((S.1 i).2.2 + a)) (va_runV (As := []) (rest := []) ⟨hx, hb, hml, hown, hts⟩ (m_X2_length l dC dI ad (xR (xN S (S.2.2.1 + a, S.2.2.2.1, S.2.2.2.2)) i (apn (S.1 i).1 (fun x => (k2 + x * k3) % 16) (S.1 i).2.2 a, apn (S.1 i).2.1 (fun x => S.2.2.1 + x) (S.1 i).2.2 a, (S.1 i).2.2 + a)) i (by omega)) (cwV 0 hts gX4_fill_X2_length rfl rfl rfl hdX2_length_0 ⟨Nat.le_of_ble_eq_true rfl, Nat.le_of_ble_eq_true rfl⟩) (hX.preRow (by omega)) rfl rfl hl.1 rfl (lv_room (Nat.le_of_ble_eq_true rfl)) dX4_fill_79 ⟨Nat.le_of_ble_eq_true rfl, Nat.le_of_ble_eq_true rfl⟩) (fun _ h => by rw [h, xR_row]) ?_
          exact W.iret (v := nI ((S.1 i).2.2 + a)) hx hb hr (fun t9 ht9 hW9 => ⟨⟨_, (xR (xN S (S.2.2.1 + a, S.2.2.2.1, S.2.2.2.2)) i (apn (S.1 i).1 (fun x => (k2 + x * k3) % 16) (S.1 i).2.2 a, apn (S.1 i).2.1 (fun x => S.2.2.1 + x) (S.1 i).2.2 a, (S.1 i).2.2 + a)), rfl, (Or.inl ⟨hc, by rw [show a = k by omega], by rw [show a = k by omega]⟩), hX.P ht9 hW9⟩, hX.2.2.2.F ht9⟩) hX.2.2.2.2.2 dX4_fill_82
        · skip
          refine lv_aload hx hb dX4_fill_52 (lv_at hl 5 rfl) ?_
          refine lv_iload_n hx hb dX4_fill_54 rfl (lv_at hl 3 rfl) ?_
          refine lv_iload hx hb dX4_fill_55 (lv_at hl 6 rfl) ?_
          refine lv_iload hx hb dX4_fill_57 (lv_at hl 4 rfl) ?_
          refine kn_imul hx hb dX4_fill_59 ?_
          refine kn_iadd hx hb dX4_fill_60 ?_
          refine lv_bipush (v := nI 16) hx hb dX4_fill_61 (by decide) ?_
          have hm9 : a * k3 ≤ 12 * 99 := Nat.mul_le_mul (by omega) hk3
          refine kn_irem hx hb (by omega) (by omega) (by omega) dX4_fill_63 ?_
          refine lv_aload_n hx hb dX4_fill_64 rfl (lv_at hl 0 rfl) ?_
          refine kx_ci (va_runV (As := []) (rest := [.int (nI ((k2 + (a * k3)) % 16)), .ref (ad (3 * i))]) ⟨hx, hb, hml, hown, hts⟩ (m_X4_nextMark l dC dI ad (xR (xN S (S.2.2.1 + a, S.2.2.2.1, S.2.2.2.2)) i (apn (S.1 i).1 (fun x => (k2 + x * k3) % 16) (S.1 i).2.2 a, apn (S.1 i).2.1 (fun x => S.2.2.1 + x) (S.1 i).2.2 a, (S.1 i).2.2 + a))) (cwV 0 hts gX4_fill_X4_nextMark rfl rfl rfl hdX4_nextMark_0 ⟨Nat.le_of_ble_eq_true rfl, Nat.le_of_ble_eq_true rfl⟩) (hX.preTop 57 6 (by decide) (by decide) rfl rfl) rfl rfl hl.1 rfl (lv_room (Nat.le_of_ble_eq_true rfl)) dX4_fill_65 ⟨Nat.le_of_ble_eq_true rfl, Nat.le_of_ble_eq_true rfl⟩) hX (fun _ h => h) (fun r_ S_ H locs hw hX => ?_)
          obtain ⟨rfl, rfl⟩ := hw
          refine kx_cv (va_runV (As := [.int (nI ((k2 + (a * k3)) % 16)), .int (nI (S.2.2.1 + a))]) (rest := []) ⟨hx, hb, hml, hown, hts⟩ (m_X2_append l dC dI ad (xR (xN S (S.2.2.1 + a + 1, S.2.2.2.1, S.2.2.2.2)) i (apn (S.1 i).1 (fun x => (k2 + x * k3) % 16) (S.1 i).2.2 a, apn (S.1 i).2.1 (fun x => S.2.2.1 + x) (S.1 i).2.2 a, (S.1 i).2.2 + a)) i ((k2 + (a * k3)) % 16) (S.2.2.1 + a) (by omega) (by rw [xR_row]; show (S.1 i).2.2 + a < 16; omega)) (cwV 2 hts gX4_fill_X2_append rfl rfl rfl hdX2_append_2 ⟨Nat.le_of_ble_eq_true rfl, Nat.le_of_ble_eq_true rfl⟩) (hX.preRow (by omega)) rfl rfl hl.1 rfl (lv_room (Nat.le_of_ble_eq_true rfl)) dX4_fill_68 ⟨Nat.le_of_ble_eq_true rfl, Nat.le_of_ble_eq_true rfl⟩) hX (fun _ h => h) (fun S_ H locs hw hX => ?_)
          rw [xR_row, xR_xR] at hw
          dsimp only at hw
          rw [fillV, fillM] at hw
          subst hw
          refine lv_iinc (v := nI (a + 1)) (lv' := [(6, .int (nI (a + 1))), (0, .ref (ad 57)), (1, .int (nI i)), (2, .int (nI k)), (3, .int (nI k2)), (4, .int (nI k3)), (5, .ref (ad (3 * i)))]) hx hb dX4_fill_71 hl (k := 6) rfl (nI_1 a) (by decide) rfl (fun ls hl => ?_)
          refine lv_goto (tgt := 46) hx hb dX4_fill_74 (by decide) ?_
          exact ih46  (a + 1) (by omega) _ _ (by omega) hX _ (lv_sub hl [1, 2, 3, 4, 5, 6, 0] rfl)
    exact loop46 (k + 1) 0 (by omega) _ _ (by omega) (WX.eqS (by rw [apn_0, apn_0]; exact (xR_self S i).symm) hX) _ (lv_sub hl [2, 3, 4, 5, 6, 1, 0] rfl)
  · skip
    have hc := k_1
    refine lv_aload_n hx hb dX4_fill_38 rfl (lv_at hl 1 rfl) ?_
    refine kx_ci (va_runV (As := []) (rest := []) ⟨hx, hb, hml, hown, hts⟩ (m_X4_refuse l dC dI ad S) (cwV 0 hts gX4_fill_X4_refuse rfl rfl rfl hdX4_refuse_0 ⟨Nat.le_of_ble_eq_true rfl, Nat.le_of_ble_eq_true rfl⟩) (hX.preTop 57 6 (by decide) (by decide) rfl rfl) rfl rfl hl.1 rfl (lv_room (Nat.le_of_ble_eq_true rfl)) dX4_fill_39 ⟨Nat.le_of_ble_eq_true rfl, Nat.le_of_ble_eq_true rfl⟩) hX (fun _ h => h) (fun r_ S_ H locs hw hX => ?_)
    obtain ⟨rfl, rfl⟩ := hw
    exact W.iret (v := (-9)) hx hb hr (fun t9 ht9 hW9 => ⟨⟨_, (xN S (S.2.2.1, S.2.2.2.1 + 1, S.2.2.2.2)), rfl, (Or.inr ⟨hc, rfl, rfl⟩), hX.P ht9 hW9⟩, hX.2.2.2.F ht9⟩) hX.2.2.2.2.2 dX4_fill_42
set_option maxHeartbeats 4000000 in
set_option maxRecDepth 100000 in
theorem m_X4_drop (l : Launch) (dC : Nat → ClassId) (dI : Nat → Nat → Nat) (ad : Nat → Nat) (S : XS) (i : Nat) (q : Nat) (hi : i < 3) (hq : q < (S.1 i).2.2) (hI : InvX S) : Met l yX4_drop wsX4_drop ({ frames := 2, cells := 0, slots := 0, locals := 45 } : Room) (va_Pc [.ref (ad 57), .int (nI i), .int (nI q)] (PX dC dI ad S)) (va_Qi (fun r S' => r = nI ((S.1 i).2.1 q) ∧ S' = xR S i (shl (S.1 i).1 q ((S.1 i).2.2 - 1), shl (S.1 i).2.1 q ((S.1 i).2.2 - 1), (S.1 i).2.2 - 1)) (PX dC dI ad) (AX ad)) 0 0 (AX ad) := by
  refine Met.ofW (cc := cX4_drop) (maxL := 5) (ret := (some .int)) pl_X4 rfl ?_
  intro p e s m args below meth c s₁ B hml hv
  obtain ⟨rfl, hPX⟩ := hv
  have hx := B.exec
  have hb := B.bytes
  have hr := B.returns
  have hts := atoms_spec (ws := wsX4_drop) B.pre
  have hown : s.vm.findClass RX4 = some m.cls := findClass_of_methodNamed B.named
  have hlocks := B.notSynchronized
  have hX := WX.of hPX
  have hl := lv_entry ([.ref (ad 57), .int (nI i), .int (nI q)]) (n := 5) (Nat.le_of_ble_eq_true rfl)
  rw [lg_entry_eq]
  generalize (lg_sl ([.ref (ad 57), .int (nI i), .int (nI q)]) ++ List.replicate (5 - (lg_sl ([.ref (ad 57), .int (nI i), .int (nI q)])).length) Slot.unset).toArray = ls at hl ⊢
  have hl : lv_has ls 5 [(0, .ref (ad 57)), (1, .int (nI i)), (2, .int (nI q))] := hl
  show W p l e ({ frames := 2, cells := 0, slots := 0, locals := 45 } : Room) s m ([.ref (ad 57), .int (nI i), .int (nI q)]).toArray below meth c s.heap [] 0 0 (MQ below (va_Qi (fun r S' => r = nI ((S.1 i).2.1 q) ∧ S' = xR S i (shl (S.1 i).1 q ((S.1 i).2.2 - 1), shl (S.1 i).2.1 q ((S.1 i).2.2 - 1), (S.1 i).2.2 - 1)) (PX dC dI ad) (AX ad)) ([.ref (ad 57), .int (nI i), .int (nI q)]).toArray s 0 0 (AX ad)) (F0 m 0 ls [])
  have hn := (hI.1 i (by omega)).1
  refine lv_aload_n hx hb dX4_drop_0 rfl (lv_at hl 0 rfl) ?_
  refine lv_iload_n hx hb dX4_drop_1 rfl (lv_at hl 1 rfl) ?_
  refine va_csr (va_Run.run (va_runV (As := [.int (nI i)]) (rest := []) ⟨hx, hb, hml, hown, hts⟩ (m_X4_rowAt l dC dI ad S i (by omega)) (cwV 1 hts gX4_drop_X4_rowAt rfl rfl rfl hdX4_rowAt_1 ⟨Nat.le_of_ble_eq_true rfl, Nat.le_of_ble_eq_true rfl⟩) (hX.preTop 57 6 (by decide) (by decide) rfl rfl) rfl rfl hl.1 rfl (lv_room (Nat.le_of_ble_eq_true rfl)) dX4_drop_2 ⟨Nat.le_of_ble_eq_true rfl, Nat.le_of_ble_eq_true rfl⟩)) (fun k_ hk_ => ?_)
  rw [hk_]
  refine lv_astore_n (lv' := [(3, .ref (ad (3 * i))), (0, .ref (ad 57)), (1, .int (nI i)), (2, .int (nI q))]) hx hb dX4_drop_5 rfl hl (by decide) rfl (fun ls hl => ?_)
  refine lv_aload_n hx hb dX4_drop_6 rfl (lv_at hl 0 rfl) ?_
  refine lv_iload_n hx hb dX4_drop_7 rfl (lv_at hl 3 rfl) ?_
  refine va_csv (va_Run.run (va_runS (As := [.ref (ad (3 * i)), .int (nI q)]) (rest := []) ⟨hx, hb, hml, hown, hts⟩ (m_X4_demandPlace l dC dI ad S i q (by omega) (by omega) (by omega)) (va_cwS 2 hts gX4_drop_X4_demandPlace rfl rfl rfl hdX4_demandPlace_2.2 ⟨Nat.le_of_ble_eq_true rfl, Nat.le_of_ble_eq_true rfl⟩) hX.preS rfl rfl hl.1 rfl (lv_room (Nat.le_of_ble_eq_true rfl)) dX4_drop_8 ⟨Nat.le_of_ble_eq_true rfl, Nat.le_of_ble_eq_true rfl⟩)) (fun _ => ?_)
  refine lv_aload_n hx hb dX4_drop_11 rfl (lv_at hl 0 rfl) ?_
  refine lv_iload_n hx hb dX4_drop_12 rfl (lv_at hl 3 rfl) ?_
  refine kx_cr (v := nI (((S.1 i).2.1) q)) (va_runV (As := [.int (nI q)]) (rest := []) ⟨hx, hb, hml, hown, hts⟩ (m_X2_markOn l dC dI ad S i q (by omega) (by omega)) (cwV 1 hts gX4_drop_X2_markOn rfl rfl rfl hdX2_markOn_1 ⟨Nat.le_of_ble_eq_true rfl, Nat.le_of_ble_eq_true rfl⟩) (hX.preRow (by omega)) rfl rfl hl.1 rfl (lv_room (Nat.le_of_ble_eq_true rfl)) dX4_drop_13 ⟨Nat.le_of_ble_eq_true rfl, Nat.le_of_ble_eq_true rfl⟩) (fun _ h => h) ?_
  refine lv_istore (lv' := [(4, .int (nI (((S.1 i).2.1) q))), (3, .ref (ad (3 * i))), (0, .ref (ad 57)), (1, .int (nI i)), (2, .int (nI q))]) hx hb dX4_drop_16 hl (by decide) rfl (fun ls hl => ?_)
  refine lv_aload_n hx hb dX4_drop_18 rfl (lv_at hl 1 rfl) ?_
  refine lv_iload_n hx hb dX4_drop_19 rfl (lv_at hl 4 rfl) ?_
  refine kx_cv (va_runV (As := [.int (nI q)]) (rest := []) ⟨hx, hb, hml, hown, hts⟩ (m_X2_remove l dC dI ad S i q (by omega) (by omega) (by omega)) (cwV 1 hts gX4_drop_X2_remove rfl rfl rfl hdX2_remove_1 ⟨Nat.le_of_ble_eq_true rfl, Nat.le_of_ble_eq_true rfl⟩) (hX.preRow (by omega)) rfl rfl hl.1 rfl (lv_room (Nat.le_of_ble_eq_true rfl)) dX4_drop_20 ⟨Nat.le_of_ble_eq_true rfl, Nat.le_of_ble_eq_true rfl⟩) hX (fun _ h => h) (fun S_ H locs hw hX => ?_)
  subst hw
  refine lv_iload hx hb dX4_drop_23 (lv_at hl 0 rfl) ?_
  exact W.iret (v := nI (((S.1 i).2.1) q)) hx hb hr (fun t9 ht9 hW9 => ⟨⟨_, (xR S i (shl ((S.1 i).1) q ((S.1 i).2.2 - 1), shl ((S.1 i).2.1) q ((S.1 i).2.2 - 1), (S.1 i).2.2 - 1)), rfl, ⟨rfl, rfl⟩, hX.P ht9 hW9⟩, hX.2.2.2.F ht9⟩) hX.2.2.2.2.2 dX4_drop_25
set_option maxHeartbeats 4000000 in
set_option maxRecDepth 100000 in
theorem m_X4_clear (l : Launch) (dC : Nat → ClassId) (dI : Nat → Nat → Nat) (ad : Nat → Nat) (S : XS) (i : Nat) (hi : i < 3) (hI : InvX S) : Met l yX4_clear wsX4_clear ({ frames := 1, cells := 0, slots := 0, locals := 22 } : Room) (va_Pc [.ref (ad 57), .int (nI i)] (PX dC dI ad S)) (va_Qi (fun r S' => r = nI (S.1 i).2.2 ∧ S' = xR S i ((S.1 i).1, (S.1 i).2.1, 0)) (PX dC dI ad) (AX ad)) 0 0 (AX ad) := by
  refine Met.ofW (cc := cX4_clear) (maxL := 4) (ret := (some .int)) pl_X4 rfl ?_
  intro p e s m args below meth c s₁ B hml hv
  obtain ⟨rfl, hPX⟩ := hv
  have hx := B.exec
  have hb := B.bytes
  have hr := B.returns
  have hts := atoms_spec (ws := wsX4_clear) B.pre
  have hown : s.vm.findClass RX4 = some m.cls := findClass_of_methodNamed B.named
  have hlocks := B.notSynchronized
  have hX := WX.of hPX
  have hl := lv_entry ([.ref (ad 57), .int (nI i)]) (n := 4) (Nat.le_of_ble_eq_true rfl)
  rw [lg_entry_eq]
  generalize (lg_sl ([.ref (ad 57), .int (nI i)]) ++ List.replicate (4 - (lg_sl ([.ref (ad 57), .int (nI i)])).length) Slot.unset).toArray = ls at hl ⊢
  have hl : lv_has ls 4 [(0, .ref (ad 57)), (1, .int (nI i))] := hl
  show W p l e ({ frames := 1, cells := 0, slots := 0, locals := 22 } : Room) s m ([.ref (ad 57), .int (nI i)]).toArray below meth c s.heap [] 0 0 (MQ below (va_Qi (fun r S' => r = nI (S.1 i).2.2 ∧ S' = xR S i ((S.1 i).1, (S.1 i).2.1, 0)) (PX dC dI ad) (AX ad)) ([.ref (ad 57), .int (nI i)]).toArray s 0 0 (AX ad)) (F0 m 0 ls [])
  have hn := (hI.1 i (by omega)).1
  refine lv_aload_n hx hb dX4_clear_0 rfl (lv_at hl 0 rfl) ?_
  refine lv_iload_n hx hb dX4_clear_1 rfl (lv_at hl 1 rfl) ?_
  refine va_csr (va_Run.run (va_runV (As := [.int (nI i)]) (rest := []) ⟨hx, hb, hml, hown, hts⟩ (m_X4_rowAt l dC dI ad S i (by omega)) (cwV 1 hts gX4_clear_X4_rowAt rfl rfl rfl hdX4_rowAt_1 ⟨Nat.le_of_ble_eq_true rfl, Nat.le_of_ble_eq_true rfl⟩) (hX.preTop 57 6 (by decide) (by decide) rfl rfl) rfl rfl hl.1 rfl (lv_room (Nat.le_of_ble_eq_true rfl)) dX4_clear_2 ⟨Nat.le_of_ble_eq_true rfl, Nat.le_of_ble_eq_true rfl⟩)) (fun k_ hk_ => ?_)
  rw [hk_]
  refine lv_astore_n (lv' := [(2, .ref (ad (3 * i))), (0, .ref (ad 57)), (1, .int (nI i))]) hx hb dX4_clear_5 rfl hl (by decide) rfl (fun ls hl => ?_)
  refine lv_aload_n hx hb dX4_clear_6 rfl (lv_at hl 0 rfl) ?_
  refine kx_cr (v := nI ((S.1 i).2.2)) (va_runV (As := []) (rest := []) ⟨hx, hb, hml, hown, hts⟩ (m_X2_length l dC dI ad S i (by omega)) (cwV 0 hts gX4_clear_X2_length rfl rfl rfl hdX2_length_0 ⟨Nat.le_of_ble_eq_true rfl, Nat.le_of_ble_eq_true rfl⟩) (hX.preRow (by omega)) rfl rfl hl.1 rfl (lv_room (Nat.le_of_ble_eq_true rfl)) dX4_clear_7 ⟨Nat.le_of_ble_eq_true rfl, Nat.le_of_ble_eq_true rfl⟩) (fun _ h => h) ?_
  refine lv_istore_n (lv' := [(3, .int (nI ((S.1 i).2.2))), (2, .ref (ad (3 * i))), (0, .ref (ad 57)), (1, .int (nI i))]) hx hb dX4_clear_10 rfl hl (by decide) rfl (fun ls hl => ?_)
  refine lv_aload_n hx hb dX4_clear_11 rfl (lv_at hl 1 rfl) ?_
  refine kx_cv (va_runV (As := []) (rest := []) ⟨hx, hb, hml, hown, hts⟩ (m_X2_empty l dC dI ad S i  (by omega)) (cwV 0 hts gX4_clear_X2_empty rfl rfl rfl hdX2_empty_0 ⟨Nat.le_of_ble_eq_true rfl, Nat.le_of_ble_eq_true rfl⟩) (hX.preRow (by omega)) rfl rfl hl.1 rfl (lv_room (Nat.le_of_ble_eq_true rfl)) dX4_clear_12 ⟨Nat.le_of_ble_eq_true rfl, Nat.le_of_ble_eq_true rfl⟩) hX (fun _ h => h) (fun S_ H locs hw hX => ?_)
  subst hw
  refine lv_iload_n hx hb dX4_clear_15 rfl (lv_at hl 0 rfl) ?_
  exact W.iret (v := nI ((S.1 i).2.2)) hx hb hr (fun t9 ht9 hW9 => ⟨⟨_, (xR S i ((S.1 i).1, (S.1 i).2.1, 0)), rfl, ⟨rfl, rfl⟩, hX.P ht9 hW9⟩, hX.2.2.2.F ht9⟩) hX.2.2.2.2.2 dX4_clear_16
set_option maxHeartbeats 4000000 in
set_option maxRecDepth 100000 in
theorem m_X4_copyRow (l : Launch) (dC : Nat → ClassId) (dI : Nat → Nat → Nat) (ad : Nat → Nat) (S : XS) (i : Nat) (i2 : Nat) (hi : i < 3) (hi2 : i2 < 3) (hI : InvX S) : Met l yX4_copyRow wsX4_copyRow ({ frames := 2, cells := 0, slots := 0, locals := 46 } : Room) (va_Pc [.ref (ad 57), .int (nI i), .int (nI i2)] (PX dC dI ad S)) (va_Qi (fun r S' => r = nI (S.1 i).2.2 ∧ S' = xR S i2 (ovl (S.1 i).1 (S.1 i2).1 (S.1 i).2.2, ovl (S.1 i).2.1 (S.1 i2).2.1 (S.1 i).2.2, (S.1 i).2.2)) (PX dC dI ad) (AX ad)) 0 0 (AX ad) := by
  refine Met.ofW (cc := cX4_copyRow) (maxL := 5) (ret := (some .int)) pl_X4 rfl ?_
  intro p e s m args below meth c s₁ B hml hv
  obtain ⟨rfl, hPX⟩ := hv
  have hx := B.exec
  have hb := B.bytes
  have hr := B.returns
  have hts := atoms_spec (ws := wsX4_copyRow) B.pre
  have hown : s.vm.findClass RX4 = some m.cls := findClass_of_methodNamed B.named
  have hlocks := B.notSynchronized
  have hX := WX.of hPX
  have hl := lv_entry ([.ref (ad 57), .int (nI i), .int (nI i2)]) (n := 5) (Nat.le_of_ble_eq_true rfl)
  rw [lg_entry_eq]
  generalize (lg_sl ([.ref (ad 57), .int (nI i), .int (nI i2)]) ++ List.replicate (5 - (lg_sl ([.ref (ad 57), .int (nI i), .int (nI i2)])).length) Slot.unset).toArray = ls at hl ⊢
  have hl : lv_has ls 5 [(0, .ref (ad 57)), (1, .int (nI i)), (2, .int (nI i2))] := hl
  show W p l e ({ frames := 2, cells := 0, slots := 0, locals := 46 } : Room) s m ([.ref (ad 57), .int (nI i), .int (nI i2)]).toArray below meth c s.heap [] 0 0 (MQ below (va_Qi (fun r S' => r = nI (S.1 i).2.2 ∧ S' = xR S i2 (ovl (S.1 i).1 (S.1 i2).1 (S.1 i).2.2, ovl (S.1 i).2.1 (S.1 i2).2.1 (S.1 i).2.2, (S.1 i).2.2)) (PX dC dI ad) (AX ad)) ([.ref (ad 57), .int (nI i), .int (nI i2)]).toArray s 0 0 (AX ad)) (F0 m 0 ls [])
  have hn := (hI.1 i (by omega)).1
  refine lv_aload_n hx hb dX4_copyRow_0 rfl (lv_at hl 0 rfl) ?_
  refine lv_iload_n hx hb dX4_copyRow_1 rfl (lv_at hl 1 rfl) ?_
  refine va_csr (va_Run.run (va_runV (As := [.int (nI i)]) (rest := []) ⟨hx, hb, hml, hown, hts⟩ (m_X4_rowAt l dC dI ad S i (by omega)) (cwV 1 hts gX4_copyRow_X4_rowAt rfl rfl rfl hdX4_rowAt_1 ⟨Nat.le_of_ble_eq_true rfl, Nat.le_of_ble_eq_true rfl⟩) (hX.preTop 57 6 (by decide) (by decide) rfl rfl) rfl rfl hl.1 rfl (lv_room (Nat.le_of_ble_eq_true rfl)) dX4_copyRow_2 ⟨Nat.le_of_ble_eq_true rfl, Nat.le_of_ble_eq_true rfl⟩)) (fun k_ hk_ => ?_)
  rw [hk_]
  refine lv_astore_n (lv' := [(3, .ref (ad (3 * i))), (0, .ref (ad 57)), (1, .int (nI i)), (2, .int (nI i2))]) hx hb dX4_copyRow_5 rfl hl (by decide) rfl (fun ls hl => ?_)
  refine lv_aload_n hx hb dX4_copyRow_6 rfl (lv_at hl 1 rfl) ?_
  refine lv_iload_n hx hb dX4_copyRow_7 rfl (lv_at hl 3 rfl) ?_
  refine va_csr (va_Run.run (va_runV (As := [.int (nI i2)]) (rest := []) ⟨hx, hb, hml, hown, hts⟩ (m_X4_rowAt l dC dI ad S i2 (by omega)) (cwV 1 hts gX4_copyRow_X4_rowAt rfl rfl rfl hdX4_rowAt_1 ⟨Nat.le_of_ble_eq_true rfl, Nat.le_of_ble_eq_true rfl⟩) (hX.preTop 57 6 (by decide) (by decide) rfl rfl) rfl rfl hl.1 rfl (lv_room (Nat.le_of_ble_eq_true rfl)) dX4_copyRow_8 ⟨Nat.le_of_ble_eq_true rfl, Nat.le_of_ble_eq_true rfl⟩)) (fun k_ hk_ => ?_)
  rw [hk_]
  refine lv_astore (lv' := [(4, .ref (ad (3 * i2))), (3, .ref (ad (3 * i))), (0, .ref (ad 57)), (1, .int (nI i)), (2, .int (nI i2))]) hx hb dX4_copyRow_11 hl (by decide) rfl (fun ls hl => ?_)
  refine lv_aload hx hb dX4_copyRow_13 (lv_at hl 0 rfl) ?_
  refine lv_aload_n hx hb dX4_copyRow_15 rfl (lv_at hl 1 rfl) ?_
  refine kx_cv (va_runV (As := [.ref (ad (3 * i))]) (rest := []) ⟨hx, hb, hml, hown, hts⟩ (m_X2_becomeCopyOf l dC dI ad S i2 i (by omega) (by omega) (by omega)) (cwV 1 hts gX4_copyRow_X2_becomeCopyOf rfl rfl rfl hdX2_becomeCopyOf_1 ⟨Nat.le_of_ble_eq_true rfl, Nat.le_of_ble_eq_true rfl⟩) (hX.preRow (by omega)) rfl rfl hl.1 rfl (lv_room (Nat.le_of_ble_eq_true rfl)) dX4_copyRow_16 ⟨Nat.le_of_ble_eq_true rfl, Nat.le_of_ble_eq_true rfl⟩) hX (fun _ h => h) (fun S_ H locs hw hX => ?_)
  subst hw
  refine lv_aload hx hb dX4_copyRow_19 (lv_at hl 0 rfl) ?_
  refine kx_cr (v := nI ((S.1 i).2.2)) (va_runV (As := []) (rest := []) ⟨hx, hb, hml, hown, hts⟩ (m_X2_length l dC dI ad (xR S i2 (ovl ((S.1 i).1) ((S.1 i2).1) ((S.1 i).2.2), ovl ((S.1 i).2.1) ((S.1 i2).2.1) ((S.1 i).2.2), (S.1 i).2.2)) i2 (by omega)) (cwV 0 hts gX4_copyRow_X2_length rfl rfl rfl hdX2_length_0 ⟨Nat.le_of_ble_eq_true rfl, Nat.le_of_ble_eq_true rfl⟩) (hX.preRow (by omega)) rfl rfl hl.1 rfl (lv_room (Nat.le_of_ble_eq_true rfl)) dX4_copyRow_21 ⟨Nat.le_of_ble_eq_true rfl, Nat.le_of_ble_eq_true rfl⟩) (fun _ h => by rw [h, xR_row]) ?_
  exact W.iret (v := nI ((S.1 i).2.2)) hx hb hr (fun t9 ht9 hW9 => ⟨⟨_, (xR S i2 (ovl ((S.1 i).1) ((S.1 i2).1) ((S.1 i).2.2), ovl ((S.1 i).2.1) ((S.1 i2).2.1) ((S.1 i).2.2), (S.1 i).2.2)), rfl, ⟨rfl, rfl⟩, hX.P ht9 hW9⟩, hX.2.2.2.F ht9⟩) hX.2.2.2.2.2 dX4_copyRow_24
set_option maxHeartbeats 4000000 in
set_option maxRecDepth 100000 in
theorem m_X4_turnRow (l : Launch) (dC : Nat → ClassId) (dI : Nat → Nat → Nat) (ad : Nat → Nat) (S : XS) (i : Nat) (hi : i < 3) (hI : InvX S) : Met l yX4_turnRow wsX4_turnRow ({ frames := 3, cells := 0, slots := 0, locals := 69 } : Room) (va_Pc [.ref (ad 57), .int (nI i)] (PX dC dI ad S)) (va_Qi (fun r S' => r = nI ((S.1 i).2.2 - (S.1 i).2.2 % 2) ∧ S' = xR S i (rev (S.1 i).1 (S.1 i).2.2 (S.1 i).2.2, rev (S.1 i).2.1 (S.1 i).2.2 (S.1 i).2.2, (S.1 i).2.2)) (PX dC dI ad) (AX ad)) 0 0 (AX ad) := by
  refine Met.ofW (cc := cX4_turnRow) (maxL := 3) (ret := (some .int)) pl_X4 rfl ?_
  intro p e s m args below meth c s₁ B hml hv
  obtain ⟨rfl, hPX⟩ := hv
  have hx := B.exec
  have hb := B.bytes
  have hr := B.returns
  have hts := atoms_spec (ws := wsX4_turnRow) B.pre
  have hown : s.vm.findClass RX4 = some m.cls := findClass_of_methodNamed B.named
  have hlocks := B.notSynchronized
  have hX := WX.of hPX
  have hl := lv_entry ([.ref (ad 57), .int (nI i)]) (n := 3) (Nat.le_of_ble_eq_true rfl)
  rw [lg_entry_eq]
  generalize (lg_sl ([.ref (ad 57), .int (nI i)]) ++ List.replicate (3 - (lg_sl ([.ref (ad 57), .int (nI i)])).length) Slot.unset).toArray = ls at hl ⊢
  have hl : lv_has ls 3 [(0, .ref (ad 57)), (1, .int (nI i))] := hl
  show W p l e ({ frames := 3, cells := 0, slots := 0, locals := 69 } : Room) s m ([.ref (ad 57), .int (nI i)]).toArray below meth c s.heap [] 0 0 (MQ below (va_Qi (fun r S' => r = nI ((S.1 i).2.2 - (S.1 i).2.2 % 2) ∧ S' = xR S i (rev (S.1 i).1 (S.1 i).2.2 (S.1 i).2.2, rev (S.1 i).2.1 (S.1 i).2.2 (S.1 i).2.2, (S.1 i).2.2)) (PX dC dI ad) (AX ad)) ([.ref (ad 57), .int (nI i)]).toArray s 0 0 (AX ad)) (F0 m 0 ls [])
  have hn := (hI.1 i (by omega)).1
  refine lv_aload_n hx hb dX4_turnRow_0 rfl (lv_at hl 0 rfl) ?_
  refine lv_iload_n hx hb dX4_turnRow_1 rfl (lv_at hl 1 rfl) ?_
  refine va_csr (va_Run.run (va_runV (As := [.int (nI i)]) (rest := []) ⟨hx, hb, hml, hown, hts⟩ (m_X4_rowAt l dC dI ad S i (by omega)) (cwV 1 hts gX4_turnRow_X4_rowAt rfl rfl rfl hdX4_rowAt_1 ⟨Nat.le_of_ble_eq_true rfl, Nat.le_of_ble_eq_true rfl⟩) (hX.preTop 57 6 (by decide) (by decide) rfl rfl) rfl rfl hl.1 rfl (lv_room (Nat.le_of_ble_eq_true rfl)) dX4_turnRow_2 ⟨Nat.le_of_ble_eq_true rfl, Nat.le_of_ble_eq_true rfl⟩)) (fun k_ hk_ => ?_)
  rw [hk_]
  refine lv_astore_n (lv' := [(2, .ref (ad (3 * i))), (0, .ref (ad 57)), (1, .int (nI i))]) hx hb dX4_turnRow_5 rfl hl (by decide) rfl (fun ls hl => ?_)
  refine lv_aload_n hx hb dX4_turnRow_6 rfl (lv_at hl 0 rfl) ?_
  refine kx_cv (va_runV (As := []) (rest := []) ⟨hx, hb, hml, hown, hts⟩ (m_X2_reverse l dC dI ad S i  (by omega) (by omega)) (cwV 0 hts gX4_turnRow_X2_reverse rfl rfl rfl hdX2_reverse_0 ⟨Nat.le_of_ble_eq_true rfl, Nat.le_of_ble_eq_true rfl⟩) (hX.preRow (by omega)) rfl rfl hl.1 rfl (lv_room (Nat.le_of_ble_eq_true rfl)) dX4_turnRow_7 ⟨Nat.le_of_ble_eq_true rfl, Nat.le_of_ble_eq_true rfl⟩) hX (fun _ h => h) (fun S_ H locs hw hX => ?_)
  subst hw
  refine lv_aload_n hx hb dX4_turnRow_10 rfl (lv_at hl 0 rfl) ?_
  refine kx_cr (v := nI ((S.1 i).2.2)) (va_runV (As := []) (rest := []) ⟨hx, hb, hml, hown, hts⟩ (m_X2_length l dC dI ad (xR S i (rev ((S.1 i).1) ((S.1 i).2.2) ((S.1 i).2.2), rev ((S.1 i).2.1) ((S.1 i).2.2) ((S.1 i).2.2), (S.1 i).2.2)) i (by omega)) (cwV 0 hts gX4_turnRow_X2_length rfl rfl rfl hdX2_length_0 ⟨Nat.le_of_ble_eq_true rfl, Nat.le_of_ble_eq_true rfl⟩) (hX.preRow (by omega)) rfl rfl hl.1 rfl (lv_room (Nat.le_of_ble_eq_true rfl)) dX4_turnRow_11 ⟨Nat.le_of_ble_eq_true rfl, Nat.le_of_ble_eq_true rfl⟩) (fun _ h => by rw [h, xR_row]) ?_
  refine lv_aload_n hx hb dX4_turnRow_14 rfl (lv_at hl 0 rfl) ?_
  refine kx_cr (v := nI ((S.1 i).2.2)) (va_runV (As := []) (rest := [.int (nI ((S.1 i).2.2))]) ⟨hx, hb, hml, hown, hts⟩ (m_X2_length l dC dI ad (xR S i (rev ((S.1 i).1) ((S.1 i).2.2) ((S.1 i).2.2), rev ((S.1 i).2.1) ((S.1 i).2.2) ((S.1 i).2.2), (S.1 i).2.2)) i (by omega)) (cwV 0 hts gX4_turnRow_X2_length rfl rfl rfl hdX2_length_0 ⟨Nat.le_of_ble_eq_true rfl, Nat.le_of_ble_eq_true rfl⟩) (hX.preRow (by omega)) rfl rfl hl.1 rfl (lv_room (Nat.le_of_ble_eq_true rfl)) dX4_turnRow_15 ⟨Nat.le_of_ble_eq_true rfl, Nat.le_of_ble_eq_true rfl⟩) (fun _ h => by rw [h, xR_row]) ?_
  refine lv_iconst (v := nI 2) hx hb dX4_turnRow_18 (by decide) ?_
  refine kn_irem hx hb (by omega) (by omega) (by omega) dX4_turnRow_19 ?_
  refine kn_isub hx hb (by omega) dX4_turnRow_20 ?_
  exact W.iret (v := nI (((S.1 i).2.2) - (((S.1 i).2.2) % 2))) hx hb hr (fun t9 ht9 hW9 => ⟨⟨_, (xR S i (rev ((S.1 i).1) ((S.1 i).2.2) ((S.1 i).2.2), rev ((S.1 i).2.1) ((S.1 i).2.2) ((S.1 i).2.2), (S.1 i).2.2)), rfl, ⟨rfl, rfl⟩, hX.P ht9 hW9⟩, hX.2.2.2.F ht9⟩) hX.2.2.2.2.2 dX4_turnRow_21
set_option maxHeartbeats 4000000 in
set_option maxRecDepth 100000 in
theorem m_X4_swap (l : Launch) (dC : Nat → ClassId) (dI : Nat → Nat → Nat) (ad : Nat → Nat) (S : XS) (i : Nat) (q : Nat) (q2 : Nat) (hi : i < 3) (hq : q < (S.1 i).2.2) (hq2 : q2 < (S.1 i).2.2) (hI : InvX S) : Met l yX4_swap wsX4_swap ({ frames := 2, cells := 0, slots := 0, locals := 47 } : Room) (va_Pc [.ref (ad 57), .int (nI i), .int (nI q), .int (nI q2)] (PX dC dI ad S)) (va_Qi (fun r S' => r = (if xch (S.1 i).1 q q2 q = xch (S.1 i).1 q q2 q2 then 0 else 1) ∧ S' = xR S i (xch (S.1 i).1 q q2, xch (S.1 i).2.1 q q2, (S.1 i).2.2)) (PX dC dI ad) (AX ad)) 0 0 (AX ad) := by
  refine Met.ofW (cc := cX4_swap) (maxL := 5) (ret := (some .int)) pl_X4 rfl ?_
  intro p e s m args below meth c s₁ B hml hv
  obtain ⟨rfl, hPX⟩ := hv
  have hx := B.exec
  have hb := B.bytes
  have hr := B.returns
  have hts := atoms_spec (ws := wsX4_swap) B.pre
  have hown : s.vm.findClass RX4 = some m.cls := findClass_of_methodNamed B.named
  have hlocks := B.notSynchronized
  have hX := WX.of hPX
  have hl := lv_entry ([.ref (ad 57), .int (nI i), .int (nI q), .int (nI q2)]) (n := 5) (Nat.le_of_ble_eq_true rfl)
  rw [lg_entry_eq]
  generalize (lg_sl ([.ref (ad 57), .int (nI i), .int (nI q), .int (nI q2)]) ++ List.replicate (5 - (lg_sl ([.ref (ad 57), .int (nI i), .int (nI q), .int (nI q2)])).length) Slot.unset).toArray = ls at hl ⊢
  have hl : lv_has ls 5 [(0, .ref (ad 57)), (1, .int (nI i)), (2, .int (nI q)), (3, .int (nI q2))] := hl
  show W p l e ({ frames := 2, cells := 0, slots := 0, locals := 47 } : Room) s m ([.ref (ad 57), .int (nI i), .int (nI q), .int (nI q2)]).toArray below meth c s.heap [] 0 0 (MQ below (va_Qi (fun r S' => r = (if xch (S.1 i).1 q q2 q = xch (S.1 i).1 q q2 q2 then 0 else 1) ∧ S' = xR S i (xch (S.1 i).1 q q2, xch (S.1 i).2.1 q q2, (S.1 i).2.2)) (PX dC dI ad) (AX ad)) ([.ref (ad 57), .int (nI i), .int (nI q), .int (nI q2)]).toArray s 0 0 (AX ad)) (F0 m 0 ls [])
  have hn := (hI.1 i (by omega)).1
  refine lv_aload_n hx hb dX4_swap_0 rfl (lv_at hl 0 rfl) ?_
  refine lv_iload_n hx hb dX4_swap_1 rfl (lv_at hl 1 rfl) ?_
  refine va_csr (va_Run.run (va_runV (As := [.int (nI i)]) (rest := []) ⟨hx, hb, hml, hown, hts⟩ (m_X4_rowAt l dC dI ad S i (by omega)) (cwV 1 hts gX4_swap_X4_rowAt rfl rfl rfl hdX4_rowAt_1 ⟨Nat.le_of_ble_eq_true rfl, Nat.le_of_ble_eq_true rfl⟩) (hX.preTop 57 6 (by decide) (by decide) rfl rfl) rfl rfl hl.1 rfl (lv_room (Nat.le_of_ble_eq_true rfl)) dX4_swap_2 ⟨Nat.le_of_ble_eq_true rfl, Nat.le_of_ble_eq_true rfl⟩)) (fun k_ hk_ => ?_)
  rw [hk_]
  refine lv_astore (lv' := [(4, .ref (ad (3 * i))), (0, .ref (ad 57)), (1, .int (nI i)), (2, .int (nI q)), (3, .int (nI q2))]) hx hb dX4_swap_5 hl (by decide) rfl (fun ls hl => ?_)
  refine lv_aload hx hb dX4_swap_7 (lv_at hl 0 rfl) ?_
  refine lv_iload_n hx hb dX4_swap_9 rfl (lv_at hl 3 rfl) ?_
  refine va_csv (va_Run.run (va_runS (As := [.ref (ad (3 * i)), .int (nI q)]) (rest := []) ⟨hx, hb, hml, hown, hts⟩ (m_X4_demandPlace l dC dI ad S i q (by omega) (by omega) (by omega)) (va_cwS 2 hts gX4_swap_X4_demandPlace rfl rfl rfl hdX4_demandPlace_2.2 ⟨Nat.le_of_ble_eq_true rfl, Nat.le_of_ble_eq_true rfl⟩) hX.preS rfl rfl hl.1 rfl (lv_room (Nat.le_of_ble_eq_true rfl)) dX4_swap_10 ⟨Nat.le_of_ble_eq_true rfl, Nat.le_of_ble_eq_true rfl⟩)) (fun _ => ?_)
  refine lv_aload hx hb dX4_swap_13 (lv_at hl 0 rfl) ?_
  refine lv_iload_n hx hb dX4_swap_15 rfl (lv_at hl 4 rfl) ?_
  refine va_csv (va_Run.run (va_runS (As := [.ref (ad (3 * i)), .int (nI q2)]) (rest := []) ⟨hx, hb, hml, hown, hts⟩ (m_X4_demandPlace l dC dI ad S i q2 (by omega) (by omega) (by omega)) (va_cwS 2 hts gX4_swap_X4_demandPlace rfl rfl rfl hdX4_demandPlace_2.2 ⟨Nat.le_of_ble_eq_true rfl, Nat.le_of_ble_eq_true rfl⟩) hX.preS rfl rfl hl.1 rfl (lv_room (Nat.le_of_ble_eq_true rfl)) dX4_swap_16 ⟨Nat.le_of_ble_eq_true rfl, Nat.le_of_ble_eq_true rfl⟩)) (fun _ => ?_)
  refine lv_aload hx hb dX4_swap_19 (lv_at hl 0 rfl) ?_
  refine lv_iload_n hx hb dX4_swap_21 rfl (lv_at hl 3 rfl) ?_
  refine lv_iload_n hx hb dX4_swap_22 rfl (lv_at hl 4 rfl) ?_
  refine kx_cv (va_runV (As := [.int (nI q), .int (nI q2)]) (rest := []) ⟨hx, hb, hml, hown, hts⟩ (m_X2_exchange l dC dI ad S i q q2 (by omega) (by omega) (by omega)) (cwV 2 hts gX4_swap_X2_exchange rfl rfl rfl hdX2_exchange_2 ⟨Nat.le_of_ble_eq_true rfl, Nat.le_of_ble_eq_true rfl⟩) (hX.preRow (by omega)) rfl rfl hl.1 rfl (lv_room (Nat.le_of_ble_eq_true rfl)) dX4_swap_23 ⟨Nat.le_of_ble_eq_true rfl, Nat.le_of_ble_eq_true rfl⟩) hX (fun _ h => h) (fun S_ H locs hw hX => ?_)
  subst hw
  refine lv_aload hx hb dX4_swap_26 (lv_at hl 0 rfl) ?_
  refine lv_iload_n hx hb dX4_swap_28 rfl (lv_at hl 3 rfl) ?_
  refine kx_cr (v := nI ((xch ((S.1 i).1) q q2) q)) (va_runV (As := [.int (nI q)]) (rest := []) ⟨hx, hb, hml, hown, hts⟩ (m_X2_valueOn l dC dI ad (xR S i (xch ((S.1 i).1) q q2, xch ((S.1 i).2.1) q q2, (S.1 i).2.2)) i q (by omega) (by omega)) (cwV 1 hts gX4_swap_X2_valueOn rfl rfl rfl hdX2_valueOn_1 ⟨Nat.le_of_ble_eq_true rfl, Nat.le_of_ble_eq_true rfl⟩) (hX.preRow (by omega)) rfl rfl hl.1 rfl (lv_room (Nat.le_of_ble_eq_true rfl)) dX4_swap_29 ⟨Nat.le_of_ble_eq_true rfl, Nat.le_of_ble_eq_true rfl⟩) (fun _ h => by rw [h, xR_row]) ?_
  refine lv_aload hx hb dX4_swap_32 (lv_at hl 0 rfl) ?_
  refine lv_iload_n hx hb dX4_swap_34 rfl (lv_at hl 4 rfl) ?_
  refine kx_cr (v := nI ((xch ((S.1 i).1) q q2) q2)) (va_runV (As := [.int (nI q2)]) (rest := [.int (nI ((xch ((S.1 i).1) q q2) q))]) ⟨hx, hb, hml, hown, hts⟩ (m_X2_valueOn l dC dI ad (xR S i (xch ((S.1 i).1) q q2, xch ((S.1 i).2.1) q q2, (S.1 i).2.2)) i q2 (by omega) (by omega)) (cwV 1 hts gX4_swap_X2_valueOn rfl rfl rfl hdX2_valueOn_1 ⟨Nat.le_of_ble_eq_true rfl, Nat.le_of_ble_eq_true rfl⟩) (hX.preRow (by omega)) rfl rfl hl.1 rfl (lv_room (Nat.le_of_ble_eq_true rfl)) dX4_swap_35 ⟨Nat.le_of_ble_eq_true rfl, Nat.le_of_ble_eq_true rfl⟩) (fun _ h => by rw [h, xR_row]) ?_
  have h1 := xch_lt (f := (S.1 i).1) (a := q) (b := q2) (k := q) (fun x hx => ((hI.1 i (by omega)).2 x hx).1) (by omega) (by omega) (by omega)
  have h2 := xch_lt (f := (S.1 i).1) (a := q) (b := q2) (k := q2) (fun x hx => ((hI.1 i (by omega)).2 x hx).1) (by omega) (by omega) (by omega)
  refine kn_icmp_eq (tgt := 45) hx hb (by omega) (by omega) dX4_swap_38 (by decide) (fun k_1 => ?_) (fun k_1 => ?_)
  · skip
    have hc := k_1
    refine lv_iconst (v := nI 0) hx hb dX4_swap_45 (by decide) ?_
    exact W.iret (v := nI 0) hx hb hr (fun t9 ht9 hW9 => ⟨⟨_, (xR S i (xch ((S.1 i).1) q q2, xch ((S.1 i).2.1) q q2, (S.1 i).2.2)), rfl, ⟨(if_pos hc).symm, rfl⟩, hX.P ht9 hW9⟩, hX.2.2.2.F ht9⟩) hX.2.2.2.2.2 dX4_swap_46
  · skip
    have hc := k_1
    refine lv_iconst (v := nI 1) hx hb dX4_swap_41 (by decide) ?_
    refine lv_goto (tgt := 46) hx hb dX4_swap_42 (by decide) ?_
    exact W.iret (v := nI 1) hx hb hr (fun t9 ht9 hW9 => ⟨⟨_, (xR S i (xch ((S.1 i).1) q q2, xch ((S.1 i).2.1) q q2, (S.1 i).2.2)), rfl, ⟨(if_neg hc).symm, rfl⟩, hX.P ht9 hW9⟩, hX.2.2.2.F ht9⟩) hX.2.2.2.2.2 dX4_swap_46
set_option maxHeartbeats 4000000 in
set_option maxRecDepth 100000 in
theorem m_X4_isSorted (l : Launch) (dC : Nat → ClassId) (dI : Nat → Nat → Nat) (ad : Nat → Nat) (S : XS) (i : Nat) (j : Nat) (hi : i < 3) (hj : j < 4) (hI : InvX S) : Met l yX4_isSorted wsX4_isSorted ({ frames := 2, cells := 0, slots := 0, locals := 48 } : Room) (va_Pc [.ref (ad 57), .int (nI i), .int (nI j)] (PX dC dI ad S)) (vp_Si (fun r => r = bI (seqB (S.2.1 j).2.2.1 (S.1 i).1 (S.1 i).2.2))) 0 0 (fun _ => False) := by
  refine Met.ofW (cc := cX4_isSorted) (maxL := 4) (ret := (some .boolean)) pl_X4 rfl ?_
  intro p e s m args below meth c s₁ B hml hv
  obtain ⟨rfl, hPX⟩ := hv
  have hx := B.exec
  have hb := B.bytes
  have hr := B.returns
  have hts := atoms_spec (ws := wsX4_isSorted) B.pre
  have hown : s.vm.findClass RX4 = some m.cls := findClass_of_methodNamed B.named
  have hlocks := B.notSynchronized
  have hX := WX.of hPX
  have hl := lv_entry ([.ref (ad 57), .int (nI i), .int (nI j)]) (n := 4) (Nat.le_of_ble_eq_true rfl)
  rw [lg_entry_eq]
  generalize (lg_sl ([.ref (ad 57), .int (nI i), .int (nI j)]) ++ List.replicate (4 - (lg_sl ([.ref (ad 57), .int (nI i), .int (nI j)])).length) Slot.unset).toArray = ls at hl ⊢
  have hl : lv_has ls 4 [(0, .ref (ad 57)), (1, .int (nI i)), (2, .int (nI j))] := hl
  show W p l e ({ frames := 2, cells := 0, slots := 0, locals := 48 } : Room) s m ([.ref (ad 57), .int (nI i), .int (nI j)]).toArray below meth c s.heap [] 0 0 (MQ below (vp_Si (fun r => r = bI (seqB (S.2.1 j).2.2.1 (S.1 i).1 (S.1 i).2.2))) ([.ref (ad 57), .int (nI i), .int (nI j)]).toArray s 0 0 (fun _ => False)) (F0 m 0 ls [])
  have hn := (hI.1 i (by omega)).1
  refine lv_aload_n hx hb dX4_isSorted_0 rfl (lv_at hl 0 rfl) ?_
  refine lv_iload_n hx hb dX4_isSorted_1 rfl (lv_at hl 1 rfl) ?_
  refine va_csr (va_Run.run (va_runV (As := [.int (nI i)]) (rest := []) ⟨hx, hb, hml, hown, hts⟩ (m_X4_rowAt l dC dI ad S i (by omega)) (cwV 1 hts gX4_isSorted_X4_rowAt rfl rfl rfl hdX4_rowAt_1 ⟨Nat.le_of_ble_eq_true rfl, Nat.le_of_ble_eq_true rfl⟩) (hX.preTop 57 6 (by decide) (by decide) rfl rfl) rfl rfl hl.1 rfl (lv_room (Nat.le_of_ble_eq_true rfl)) dX4_isSorted_2 ⟨Nat.le_of_ble_eq_true rfl, Nat.le_of_ble_eq_true rfl⟩)) (fun k_ hk_ => ?_)
  rw [hk_]
  refine lv_astore_n (lv' := [(3, .ref (ad (3 * i))), (0, .ref (ad 57)), (1, .int (nI i)), (2, .int (nI j))]) hx hb dX4_isSorted_5 rfl hl (by decide) rfl (fun ls hl => ?_)
  refine lv_aload_n hx hb dX4_isSorted_6 rfl (lv_at hl 0 rfl) ?_
  refine lv_aload_n hx hb dX4_isSorted_7 rfl (lv_at hl 1 rfl) ?_
  refine lv_iload_n hx hb dX4_isSorted_8 rfl (lv_at hl 3 rfl) ?_
  refine va_csr (va_Run.run (va_runV (As := [.int (nI j)]) (rest := [.ref (ad (3 * i))]) ⟨hx, hb, hml, hown, hts⟩ (m_X4_orderAt l dC dI ad S j (by omega)) (cwV 1 hts gX4_isSorted_X4_orderAt rfl rfl rfl hdX4_orderAt_1 ⟨Nat.le_of_ble_eq_true rfl, Nat.le_of_ble_eq_true rfl⟩) (hX.preTop 57 6 (by decide) (by decide) rfl rfl) rfl rfl hl.1 rfl (lv_room (Nat.le_of_ble_eq_true rfl)) dX4_isSorted_9 ⟨Nat.le_of_ble_eq_true rfl, Nat.le_of_ble_eq_true rfl⟩)) (fun k_ hk_ => ?_)
  rw [hk_]
  refine kx_cr (v := bI (seqB (S.2.1 j).2.2.1 (S.1 i).1 (S.1 i).2.2)) (va_runV (As := [.ref (ad (24 + 5 * j))]) (rest := []) ⟨hx, hb, hml, hown, hts⟩ (m_X2_isInSequenceBy l dC dI ad S i j (by omega) (by omega) (hI.1 i (by omega)) (hI.2 j (by omega))) (cwV 1 hts gX4_isSorted_X2_isInSequenceBy rfl rfl rfl hdX2_isInSequenceBy_1 ⟨Nat.le_of_ble_eq_true rfl, Nat.le_of_ble_eq_true rfl⟩) (hX.preRow (by omega)) rfl rfl hl.1 rfl (lv_room (Nat.le_of_ble_eq_true rfl)) dX4_isSorted_12 ⟨Nat.le_of_ble_eq_true rfl, Nat.le_of_ble_eq_true rfl⟩) (fun _ h => h) ?_
  exact W.zret (v := bI (seqB (S.2.1 j).2.2.1 (S.1 i).1 (S.1 i).2.2)) hx hb hr (bI_narrow _) (fun t9 ht9 hW9 => ⟨_, rfl, rfl, ht9⟩) (fun _ h => nomatch h) dX4_isSorted_15
set_option maxHeartbeats 4000000 in
set_option maxRecDepth 100000 in
theorem m_X4_size (l : Launch) (dC : Nat → ClassId) (dI : Nat → Nat → Nat) (ad : Nat → Nat) (S : XS) (i : Nat) (hi : i < 3) (hI : InvX S) : Met l yX4_size wsX4_size ({ frames := 1, cells := 0, slots := 0, locals := 22 } : Room) (va_Pc [.ref (ad 57), .int (nI i)] (PX dC dI ad S)) (vp_Si (fun r => r = nI (S.1 i).2.2)) 0 0 (fun _ => False) := by
  refine Met.ofW (cc := cX4_size) (maxL := 2) (ret := (some .int)) pl_X4 rfl ?_
  intro p e s m args below meth c s₁ B hml hv
  obtain ⟨rfl, hPX⟩ := hv
  have hx := B.exec
  have hb := B.bytes
  have hr := B.returns
  have hts := atoms_spec (ws := wsX4_size) B.pre
  have hown : s.vm.findClass RX4 = some m.cls := findClass_of_methodNamed B.named
  have hlocks := B.notSynchronized
  have hX := WX.of hPX
  have hl := lv_entry ([.ref (ad 57), .int (nI i)]) (n := 2) (Nat.le_of_ble_eq_true rfl)
  rw [lg_entry_eq]
  generalize (lg_sl ([.ref (ad 57), .int (nI i)]) ++ List.replicate (2 - (lg_sl ([.ref (ad 57), .int (nI i)])).length) Slot.unset).toArray = ls at hl ⊢
  have hl : lv_has ls 2 [(0, .ref (ad 57)), (1, .int (nI i))] := hl
  show W p l e ({ frames := 1, cells := 0, slots := 0, locals := 22 } : Room) s m ([.ref (ad 57), .int (nI i)]).toArray below meth c s.heap [] 0 0 (MQ below (vp_Si (fun r => r = nI (S.1 i).2.2)) ([.ref (ad 57), .int (nI i)]).toArray s 0 0 (fun _ => False)) (F0 m 0 ls [])
  have hn := (hI.1 i (by omega)).1
  refine lv_aload_n hx hb dX4_size_0 rfl (lv_at hl 0 rfl) ?_
  refine lv_iload_n hx hb dX4_size_1 rfl (lv_at hl 1 rfl) ?_
  refine va_csr (va_Run.run (va_runV (As := [.int (nI i)]) (rest := []) ⟨hx, hb, hml, hown, hts⟩ (m_X4_rowAt l dC dI ad S i (by omega)) (cwV 1 hts gX4_size_X4_rowAt rfl rfl rfl hdX4_rowAt_1 ⟨Nat.le_of_ble_eq_true rfl, Nat.le_of_ble_eq_true rfl⟩) (hX.preTop 57 6 (by decide) (by decide) rfl rfl) rfl rfl hl.1 rfl (lv_room (Nat.le_of_ble_eq_true rfl)) dX4_size_2 ⟨Nat.le_of_ble_eq_true rfl, Nat.le_of_ble_eq_true rfl⟩)) (fun k_ hk_ => ?_)
  rw [hk_]
  refine kx_cr (v := nI ((S.1 i).2.2)) (va_runV (As := []) (rest := []) ⟨hx, hb, hml, hown, hts⟩ (m_X2_length l dC dI ad S i (by omega)) (cwV 0 hts gX4_size_X2_length rfl rfl rfl hdX2_length_0 ⟨Nat.le_of_ble_eq_true rfl, Nat.le_of_ble_eq_true rfl⟩) (hX.preRow (by omega)) rfl rfl hl.1 rfl (lv_room (Nat.le_of_ble_eq_true rfl)) dX4_size_5 ⟨Nat.le_of_ble_eq_true rfl, Nat.le_of_ble_eq_true rfl⟩) (fun _ h => h) ?_
  exact W.iret (v := nI ((S.1 i).2.2)) hx hb hr (fun t9 ht9 hW9 => ⟨_, rfl, rfl, ht9⟩) (fun _ h => nomatch h) dX4_size_8
set_option maxHeartbeats 4000000 in
set_option maxRecDepth 100000 in
theorem m_X4_valueAt (l : Launch) (dC : Nat → ClassId) (dI : Nat → Nat → Nat) (ad : Nat → Nat) (S : XS) (i : Nat) (q : Nat) (hi : i < 3) (hq : q < (S.1 i).2.2) (hI : InvX S) : Met l yX4_valueAt wsX4_valueAt ({ frames := 2, cells := 0, slots := 0, locals := 41 } : Room) (va_Pc [.ref (ad 57), .int (nI i), .int (nI q)] (PX dC dI ad S)) (vp_Si (fun r => r = nI ((S.1 i).1 q))) 0 0 (fun _ => False) := by
  refine Met.ofW (cc := cX4_valueAt) (maxL := 4) (ret := (some .int)) pl_X4 rfl ?_
  intro p e s m args below meth c s₁ B hml hv
  obtain ⟨rfl, hPX⟩ := hv
  have hx := B.exec
  have hb := B.bytes
  have hr := B.returns
  have hts := atoms_spec (ws := wsX4_valueAt) B.pre
  have hown : s.vm.findClass RX4 = some m.cls := findClass_of_methodNamed B.named
  have hlocks := B.notSynchronized
  have hX := WX.of hPX
  have hl := lv_entry ([.ref (ad 57), .int (nI i), .int (nI q)]) (n := 4) (Nat.le_of_ble_eq_true rfl)
  rw [lg_entry_eq]
  generalize (lg_sl ([.ref (ad 57), .int (nI i), .int (nI q)]) ++ List.replicate (4 - (lg_sl ([.ref (ad 57), .int (nI i), .int (nI q)])).length) Slot.unset).toArray = ls at hl ⊢
  have hl : lv_has ls 4 [(0, .ref (ad 57)), (1, .int (nI i)), (2, .int (nI q))] := hl
  show W p l e ({ frames := 2, cells := 0, slots := 0, locals := 41 } : Room) s m ([.ref (ad 57), .int (nI i), .int (nI q)]).toArray below meth c s.heap [] 0 0 (MQ below (vp_Si (fun r => r = nI ((S.1 i).1 q))) ([.ref (ad 57), .int (nI i), .int (nI q)]).toArray s 0 0 (fun _ => False)) (F0 m 0 ls [])
  have hn := (hI.1 i (by omega)).1
  refine lv_aload_n hx hb dX4_valueAt_0 rfl (lv_at hl 0 rfl) ?_
  refine lv_iload_n hx hb dX4_valueAt_1 rfl (lv_at hl 1 rfl) ?_
  refine va_csr (va_Run.run (va_runV (As := [.int (nI i)]) (rest := []) ⟨hx, hb, hml, hown, hts⟩ (m_X4_rowAt l dC dI ad S i (by omega)) (cwV 1 hts gX4_valueAt_X4_rowAt rfl rfl rfl hdX4_rowAt_1 ⟨Nat.le_of_ble_eq_true rfl, Nat.le_of_ble_eq_true rfl⟩) (hX.preTop 57 6 (by decide) (by decide) rfl rfl) rfl rfl hl.1 rfl (lv_room (Nat.le_of_ble_eq_true rfl)) dX4_valueAt_2 ⟨Nat.le_of_ble_eq_true rfl, Nat.le_of_ble_eq_true rfl⟩)) (fun k_ hk_ => ?_)
  rw [hk_]
  refine lv_astore_n (lv' := [(3, .ref (ad (3 * i))), (0, .ref (ad 57)), (1, .int (nI i)), (2, .int (nI q))]) hx hb dX4_valueAt_5 rfl hl (by decide) rfl (fun ls hl => ?_)
  refine lv_aload_n hx hb dX4_valueAt_6 rfl (lv_at hl 0 rfl) ?_
  refine lv_iload_n hx hb dX4_valueAt_7 rfl (lv_at hl 3 rfl) ?_
  refine va_csv (va_Run.run (va_runS (As := [.ref (ad (3 * i)), .int (nI q)]) (rest := []) ⟨hx, hb, hml, hown, hts⟩ (m_X4_demandPlace l dC dI ad S i q (by omega) (by omega) (by omega)) (va_cwS 2 hts gX4_valueAt_X4_demandPlace rfl rfl rfl hdX4_demandPlace_2.2 ⟨Nat.le_of_ble_eq_true rfl, Nat.le_of_ble_eq_true rfl⟩) hX.preS rfl rfl hl.1 rfl (lv_room (Nat.le_of_ble_eq_true rfl)) dX4_valueAt_8 ⟨Nat.le_of_ble_eq_true rfl, Nat.le_of_ble_eq_true rfl⟩)) (fun _ => ?_)
  refine lv_aload_n hx hb dX4_valueAt_11 rfl (lv_at hl 0 rfl) ?_
  refine lv_iload_n hx hb dX4_valueAt_12 rfl (lv_at hl 3 rfl) ?_
  refine kx_cr (v := nI (((S.1 i).1) q)) (va_runV (As := [.int (nI q)]) (rest := []) ⟨hx, hb, hml, hown, hts⟩ (m_X2_valueOn l dC dI ad S i q (by omega) (by omega)) (cwV 1 hts gX4_valueAt_X2_valueOn rfl rfl rfl hdX2_valueOn_1 ⟨Nat.le_of_ble_eq_true rfl, Nat.le_of_ble_eq_true rfl⟩) (hX.preRow (by omega)) rfl rfl hl.1 rfl (lv_room (Nat.le_of_ble_eq_true rfl)) dX4_valueAt_13 ⟨Nat.le_of_ble_eq_true rfl, Nat.le_of_ble_eq_true rfl⟩) (fun _ h => h) ?_
  exact W.iret (v := nI (((S.1 i).1) q)) hx hb hr (fun t9 ht9 hW9 => ⟨_, rfl, rfl, ht9⟩) (fun _ h => nomatch h) dX4_valueAt_16
set_option maxHeartbeats 4000000 in
set_option maxRecDepth 100000 in
theorem m_X4_markAt (l : Launch) (dC : Nat → ClassId) (dI : Nat → Nat → Nat) (ad : Nat → Nat) (S : XS) (i : Nat) (q : Nat) (hi : i < 3) (hq : q < (S.1 i).2.2) (hI : InvX S) : Met l yX4_markAt wsX4_markAt ({ frames := 2, cells := 0, slots := 0, locals := 41 } : Room) (va_Pc [.ref (ad 57), .int (nI i), .int (nI q)] (PX dC dI ad S)) (vp_Si (fun r => r = nI ((S.1 i).2.1 q))) 0 0 (fun _ => False) := by
  refine Met.ofW (cc := cX4_markAt) (maxL := 4) (ret := (some .int)) pl_X4 rfl ?_
  intro p e s m args below meth c s₁ B hml hv
  obtain ⟨rfl, hPX⟩ := hv
  have hx := B.exec
  have hb := B.bytes
  have hr := B.returns
  have hts := atoms_spec (ws := wsX4_markAt) B.pre
  have hown : s.vm.findClass RX4 = some m.cls := findClass_of_methodNamed B.named
  have hlocks := B.notSynchronized
  have hX := WX.of hPX
  have hl := lv_entry ([.ref (ad 57), .int (nI i), .int (nI q)]) (n := 4) (Nat.le_of_ble_eq_true rfl)
  rw [lg_entry_eq]
  generalize (lg_sl ([.ref (ad 57), .int (nI i), .int (nI q)]) ++ List.replicate (4 - (lg_sl ([.ref (ad 57), .int (nI i), .int (nI q)])).length) Slot.unset).toArray = ls at hl ⊢
  have hl : lv_has ls 4 [(0, .ref (ad 57)), (1, .int (nI i)), (2, .int (nI q))] := hl
  show W p l e ({ frames := 2, cells := 0, slots := 0, locals := 41 } : Room) s m ([.ref (ad 57), .int (nI i), .int (nI q)]).toArray below meth c s.heap [] 0 0 (MQ below (vp_Si (fun r => r = nI ((S.1 i).2.1 q))) ([.ref (ad 57), .int (nI i), .int (nI q)]).toArray s 0 0 (fun _ => False)) (F0 m 0 ls [])
  have hn := (hI.1 i (by omega)).1
  refine lv_aload_n hx hb dX4_markAt_0 rfl (lv_at hl 0 rfl) ?_
  refine lv_iload_n hx hb dX4_markAt_1 rfl (lv_at hl 1 rfl) ?_
  refine va_csr (va_Run.run (va_runV (As := [.int (nI i)]) (rest := []) ⟨hx, hb, hml, hown, hts⟩ (m_X4_rowAt l dC dI ad S i (by omega)) (cwV 1 hts gX4_markAt_X4_rowAt rfl rfl rfl hdX4_rowAt_1 ⟨Nat.le_of_ble_eq_true rfl, Nat.le_of_ble_eq_true rfl⟩) (hX.preTop 57 6 (by decide) (by decide) rfl rfl) rfl rfl hl.1 rfl (lv_room (Nat.le_of_ble_eq_true rfl)) dX4_markAt_2 ⟨Nat.le_of_ble_eq_true rfl, Nat.le_of_ble_eq_true rfl⟩)) (fun k_ hk_ => ?_)
  rw [hk_]
  refine lv_astore_n (lv' := [(3, .ref (ad (3 * i))), (0, .ref (ad 57)), (1, .int (nI i)), (2, .int (nI q))]) hx hb dX4_markAt_5 rfl hl (by decide) rfl (fun ls hl => ?_)
  refine lv_aload_n hx hb dX4_markAt_6 rfl (lv_at hl 0 rfl) ?_
  refine lv_iload_n hx hb dX4_markAt_7 rfl (lv_at hl 3 rfl) ?_
  refine va_csv (va_Run.run (va_runS (As := [.ref (ad (3 * i)), .int (nI q)]) (rest := []) ⟨hx, hb, hml, hown, hts⟩ (m_X4_demandPlace l dC dI ad S i q (by omega) (by omega) (by omega)) (va_cwS 2 hts gX4_markAt_X4_demandPlace rfl rfl rfl hdX4_demandPlace_2.2 ⟨Nat.le_of_ble_eq_true rfl, Nat.le_of_ble_eq_true rfl⟩) hX.preS rfl rfl hl.1 rfl (lv_room (Nat.le_of_ble_eq_true rfl)) dX4_markAt_8 ⟨Nat.le_of_ble_eq_true rfl, Nat.le_of_ble_eq_true rfl⟩)) (fun _ => ?_)
  refine lv_aload_n hx hb dX4_markAt_11 rfl (lv_at hl 0 rfl) ?_
  refine lv_iload_n hx hb dX4_markAt_12 rfl (lv_at hl 3 rfl) ?_
  refine kx_cr (v := nI (((S.1 i).2.1) q)) (va_runV (As := [.int (nI q)]) (rest := []) ⟨hx, hb, hml, hown, hts⟩ (m_X2_markOn l dC dI ad S i q (by omega) (by omega)) (cwV 1 hts gX4_markAt_X2_markOn rfl rfl rfl hdX2_markOn_1 ⟨Nat.le_of_ble_eq_true rfl, Nat.le_of_ble_eq_true rfl⟩) (hX.preRow (by omega)) rfl rfl hl.1 rfl (lv_room (Nat.le_of_ble_eq_true rfl)) dX4_markAt_13 ⟨Nat.le_of_ble_eq_true rfl, Nat.le_of_ble_eq_true rfl⟩) (fun _ h => h) ?_
  exact W.iret (v := nI (((S.1 i).2.1) q)) hx hb hr (fun t9 ht9 hW9 => ⟨_, rfl, rfl, ht9⟩) (fun _ h => nomatch h) dX4_markAt_16
set_option maxHeartbeats 4000000 in
set_option maxRecDepth 100000 in
theorem m_X4_kinds (l : Launch) (dC : Nat → ClassId) (dI : Nat → Nat → Nat) (ad : Nat → Nat) (S : XS) (i : Nat) (j : Nat) (hi : i < 3) (hj : j < 4) (hI : InvX S) : Met l yX4_kinds wsX4_kinds ({ frames := 3, cells := 0, slots := 0, locals := 72 } : Room) (va_Pc [.ref (ad 57), .int (nI i), .int (nI j)] (PX dC dI ad S)) (vp_Si (fun r => r = nI (cntB (firstB (S.2.1 j).2.2.1 (S.1 i).1) (S.1 i).2.2))) 0 0 (fun _ => False) := by
  refine Met.ofW (cc := cX4_kinds) (maxL := 4) (ret := (some .int)) pl_X4 rfl ?_
  intro p e s m args below meth c s₁ B hml hv
  obtain ⟨rfl, hPX⟩ := hv
  have hx := B.exec
  have hb := B.bytes
  have hr := B.returns
  have hts := atoms_spec (ws := wsX4_kinds) B.pre
  have hown : s.vm.findClass RX4 = some m.cls := findClass_of_methodNamed B.named
  have hlocks := B.notSynchronized
  have hX := WX.of hPX
  have hl := lv_entry ([.ref (ad 57), .int (nI i), .int (nI j)]) (n := 4) (Nat.le_of_ble_eq_true rfl)
  rw [lg_entry_eq]
  generalize (lg_sl ([.ref (ad 57), .int (nI i), .int (nI j)]) ++ List.replicate (4 - (lg_sl ([.ref (ad 57), .int (nI i), .int (nI j)])).length) Slot.unset).toArray = ls at hl ⊢
  have hl : lv_has ls 4 [(0, .ref (ad 57)), (1, .int (nI i)), (2, .int (nI j))] := hl
  show W p l e ({ frames := 3, cells := 0, slots := 0, locals := 72 } : Room) s m ([.ref (ad 57), .int (nI i), .int (nI j)]).toArray below meth c s.heap [] 0 0 (MQ below (vp_Si (fun r => r = nI (cntB (firstB (S.2.1 j).2.2.1 (S.1 i).1) (S.1 i).2.2))) ([.ref (ad 57), .int (nI i), .int (nI j)]).toArray s 0 0 (fun _ => False)) (F0 m 0 ls [])
  have hn := (hI.1 i (by omega)).1
  refine lv_aload_n hx hb dX4_kinds_0 rfl (lv_at hl 0 rfl) ?_
  refine lv_iload_n hx hb dX4_kinds_1 rfl (lv_at hl 1 rfl) ?_
  refine va_csr (va_Run.run (va_runV (As := [.int (nI i)]) (rest := []) ⟨hx, hb, hml, hown, hts⟩ (m_X4_rowAt l dC dI ad S i (by omega)) (cwV 1 hts gX4_kinds_X4_rowAt rfl rfl rfl hdX4_rowAt_1 ⟨Nat.le_of_ble_eq_true rfl, Nat.le_of_ble_eq_true rfl⟩) (hX.preTop 57 6 (by decide) (by decide) rfl rfl) rfl rfl hl.1 rfl (lv_room (Nat.le_of_ble_eq_true rfl)) dX4_kinds_2 ⟨Nat.le_of_ble_eq_true rfl, Nat.le_of_ble_eq_true rfl⟩)) (fun k_ hk_ => ?_)
  rw [hk_]
  refine lv_astore_n (lv' := [(3, .ref (ad (3 * i))), (0, .ref (ad 57)), (1, .int (nI i)), (2, .int (nI j))]) hx hb dX4_kinds_5 rfl hl (by decide) rfl (fun ls hl => ?_)
  refine lv_aload_n hx hb dX4_kinds_6 rfl (lv_at hl 0 rfl) ?_
  refine lv_aload_n hx hb dX4_kinds_7 rfl (lv_at hl 1 rfl) ?_
  refine lv_iload_n hx hb dX4_kinds_8 rfl (lv_at hl 3 rfl) ?_
  refine va_csr (va_Run.run (va_runV (As := [.int (nI j)]) (rest := [.ref (ad (3 * i))]) ⟨hx, hb, hml, hown, hts⟩ (m_X4_orderAt l dC dI ad S j (by omega)) (cwV 1 hts gX4_kinds_X4_orderAt rfl rfl rfl hdX4_orderAt_1 ⟨Nat.le_of_ble_eq_true rfl, Nat.le_of_ble_eq_true rfl⟩) (hX.preTop 57 6 (by decide) (by decide) rfl rfl) rfl rfl hl.1 rfl (lv_room (Nat.le_of_ble_eq_true rfl)) dX4_kinds_9 ⟨Nat.le_of_ble_eq_true rfl, Nat.le_of_ble_eq_true rfl⟩)) (fun k_ hk_ => ?_)
  rw [hk_]
  refine kx_cr (v := nI (cntB (firstB (S.2.1 j).2.2.1 (S.1 i).1) (S.1 i).2.2)) (va_runV (As := [.ref (ad (24 + 5 * j))]) (rest := []) ⟨hx, hb, hml, hown, hts⟩ (m_X2_lots l dC dI ad S i j (by omega) (by omega) (hI.1 i (by omega)) (hI.2 j (by omega))) (cwV 1 hts gX4_kinds_X2_lots rfl rfl rfl hdX2_lots_1 ⟨Nat.le_of_ble_eq_true rfl, Nat.le_of_ble_eq_true rfl⟩) (hX.preRow (by omega)) rfl rfl hl.1 rfl (lv_room (Nat.le_of_ble_eq_true rfl)) dX4_kinds_12 ⟨Nat.le_of_ble_eq_true rfl, Nat.le_of_ble_eq_true rfl⟩) (fun _ h => h) ?_
  exact W.iret (v := nI (cntB (firstB (S.2.1 j).2.2.1 (S.1 i).1) (S.1 i).2.2)) hx hb hr (fun t9 ht9 hW9 => ⟨_, rfl, rfl, ht9⟩) (fun _ h => nomatch h) dX4_kinds_15
set_option maxHeartbeats 4000000 in
set_option maxRecDepth 100000 in
theorem m_X4_ahead (l : Launch) (dC : Nat → ClassId) (dI : Nat → Nat → Nat) (ad : Nat → Nat) (S : XS) (i : Nat) (j : Nat) (v : Nat) (hi : i < 3) (hj : j < 4) (hv : v < 16) (hI : InvX S) : Met l yX4_ahead wsX4_ahead ({ frames := 3, cells := 0, slots := 0, locals := 73 } : Room) (va_Pc [.ref (ad 57), .int (nI i), .int (nI j), .int (nI v)] (PX dC dI ad S)) (vp_Si (fun r => r = nI (cntB (fun k => firstB (S.2.1 j).2.2.1 (S.1 i).1 k && decide ((S.2.1 j).2.2.1 ((S.1 i).1 k) < (S.2.1 j).2.2.1 v)) (S.1 i).2.2))) 0 0 (fun _ => False) := by
  refine Met.ofW (cc := cX4_ahead) (maxL := 6) (ret := (some .int)) pl_X4 rfl ?_
  intro p e s m args below meth c s₁ B hml hv
  obtain ⟨rfl, hPX⟩ := hv
  have hx := B.exec
  have hb := B.bytes
  have hr := B.returns
  have hts := atoms_spec (ws := wsX4_ahead) B.pre
  have hown : s.vm.findClass RX4 = some m.cls := findClass_of_methodNamed B.named
  have hlocks := B.notSynchronized
  have hX := WX.of hPX
  have hl := lv_entry ([.ref (ad 57), .int (nI i), .int (nI j), .int (nI v)]) (n := 6) (Nat.le_of_ble_eq_true rfl)
  rw [lg_entry_eq]
  generalize (lg_sl ([.ref (ad 57), .int (nI i), .int (nI j), .int (nI v)]) ++ List.replicate (6 - (lg_sl ([.ref (ad 57), .int (nI i), .int (nI j), .int (nI v)])).length) Slot.unset).toArray = ls at hl ⊢
  have hl : lv_has ls 6 [(0, .ref (ad 57)), (1, .int (nI i)), (2, .int (nI j)), (3, .int (nI v))] := hl
  show W p l e ({ frames := 3, cells := 0, slots := 0, locals := 73 } : Room) s m ([.ref (ad 57), .int (nI i), .int (nI j), .int (nI v)]).toArray below meth c s.heap [] 0 0 (MQ below (vp_Si (fun r => r = nI (cntB (fun k => firstB (S.2.1 j).2.2.1 (S.1 i).1 k && decide ((S.2.1 j).2.2.1 ((S.1 i).1 k) < (S.2.1 j).2.2.1 v)) (S.1 i).2.2))) ([.ref (ad 57), .int (nI i), .int (nI j), .int (nI v)]).toArray s 0 0 (fun _ => False)) (F0 m 0 ls [])
  have hn := (hI.1 i (by omega)).1
  refine lv_aload_n hx hb dX4_ahead_0 rfl (lv_at hl 0 rfl) ?_
  refine lv_iload_n hx hb dX4_ahead_1 rfl (lv_at hl 1 rfl) ?_
  refine va_csr (va_Run.run (va_runV (As := [.int (nI i)]) (rest := []) ⟨hx, hb, hml, hown, hts⟩ (m_X4_rowAt l dC dI ad S i (by omega)) (cwV 1 hts gX4_ahead_X4_rowAt rfl rfl rfl hdX4_rowAt_1 ⟨Nat.le_of_ble_eq_true rfl, Nat.le_of_ble_eq_true rfl⟩) (hX.preTop 57 6 (by decide) (by decide) rfl rfl) rfl rfl hl.1 rfl (lv_room (Nat.le_of_ble_eq_true rfl)) dX4_ahead_2 ⟨Nat.le_of_ble_eq_true rfl, Nat.le_of_ble_eq_true rfl⟩)) (fun k_ hk_ => ?_)
  rw [hk_]
  refine lv_astore (lv' := [(4, .ref (ad (3 * i))), (0, .ref (ad 57)), (1, .int (nI i)), (2, .int (nI j)), (3, .int (nI v))]) hx hb dX4_ahead_5 hl (by decide) rfl (fun ls hl => ?_)
  refine lv_aload_n hx hb dX4_ahead_7 rfl (lv_at hl 1 rfl) ?_
  refine lv_iload_n hx hb dX4_ahead_8 rfl (lv_at hl 3 rfl) ?_
  refine va_csr (va_Run.run (va_runV (As := [.int (nI j)]) (rest := []) ⟨hx, hb, hml, hown, hts⟩ (m_X4_orderAt l dC dI ad S j (by omega)) (cwV 1 hts gX4_ahead_X4_orderAt rfl rfl rfl hdX4_orderAt_1 ⟨Nat.le_of_ble_eq_true rfl, Nat.le_of_ble_eq_true rfl⟩) (hX.preTop 57 6 (by decide) (by decide) rfl rfl) rfl rfl hl.1 rfl (lv_room (Nat.le_of_ble_eq_true rfl)) dX4_ahead_9 ⟨Nat.le_of_ble_eq_true rfl, Nat.le_of_ble_eq_true rfl⟩)) (fun k_ hk_ => ?_)
  rw [hk_]
  refine lv_astore (lv' := [(5, .ref (ad (24 + 5 * j))), (4, .ref (ad (3 * i))), (0, .ref (ad 57)), (1, .int (nI i)), (2, .int (nI j)), (3, .int (nI v))]) hx hb dX4_ahead_12 hl (by decide) rfl (fun ls hl => ?_)
  refine lv_iload_n hx hb dX4_ahead_14 rfl (lv_at hl 5 rfl) ?_
  refine va_csv (va_Run.run (va_runS (As := [.int (nI v)]) (rest := []) ⟨hx, hb, hml, hown, hts⟩ (m_X4_demandValue l dC dI ad S v (by omega)) (va_cwS 1 hts gX4_ahead_X4_demandValue rfl rfl rfl hdX4_demandValue_1.2 ⟨Nat.le_of_ble_eq_true rfl, Nat.le_of_ble_eq_true rfl⟩) hX.preS rfl rfl hl.1 rfl (lv_room (Nat.le_of_ble_eq_true rfl)) dX4_ahead_15 ⟨Nat.le_of_ble_eq_true rfl, Nat.le_of_ble_eq_true rfl⟩)) (fun _ => ?_)
  refine lv_aload hx hb dX4_ahead_18 (lv_at hl 1 rfl) ?_
  refine lv_aload hx hb dX4_ahead_20 (lv_at hl 0 rfl) ?_
  refine lv_iload_n hx hb dX4_ahead_22 rfl (lv_at hl 5 rfl) ?_
  refine kx_cr (v := nI (cntB (fun k => firstB (S.2.1 j).2.2.1 (S.1 i).1 k && decide ((S.2.1 j).2.2.1 ((S.1 i).1 k) < (S.2.1 j).2.2.1 v)) (S.1 i).2.2)) (va_runV (As := [.ref (ad (24 + 5 * j)), .int (nI v)]) (rest := []) ⟨hx, hb, hml, hown, hts⟩ (m_X2_lotsAhead l dC dI ad S i j v (by omega) (by omega) (hI.1 i (by omega)) (hI.2 j (by omega)) (by omega)) (cwV 2 hts gX4_ahead_X2_lotsAhead rfl rfl rfl hdX2_lotsAhead_2 ⟨Nat.le_of_ble_eq_true rfl, Nat.le_of_ble_eq_true rfl⟩) (hX.preRow (by omega)) rfl rfl hl.1 rfl (lv_room (Nat.le_of_ble_eq_true rfl)) dX4_ahead_23 ⟨Nat.le_of_ble_eq_true rfl, Nat.le_of_ble_eq_true rfl⟩) (fun _ h => h) ?_
  exact W.iret (v := nI (cntB (fun k => firstB (S.2.1 j).2.2.1 (S.1 i).1 k && decide ((S.2.1 j).2.2.1 ((S.1 i).1 k) < (S.2.1 j).2.2.1 v)) (S.1 i).2.2)) hx hb hr (fun t9 ht9 hW9 => ⟨_, rfl, rfl, ht9⟩) (fun _ h => nomatch h) dX4_ahead_26
set_option maxHeartbeats 4000000 in
set_option maxRecDepth 100000 in
theorem m_X4_extreme (l : Launch) (dC : Nat → ClassId) (dI : Nat → Nat → Nat) (ad : Nat → Nat) (S : XS) (i : Nat) (j : Nat) (z : Bool) (hi : i < 3) (hj : j < 4) (hI : InvX S) : Met l yX4_extreme wsX4_extreme ({ frames := 2, cells := 0, slots := 0, locals := 49 } : Room) (va_Pc [.ref (ad 57), .int (nI i), .int (nI j), .int (bI z)] (PX dC dI ad S)) (vp_Si (fun r => r = exI (if z then bestB (fun _ => true) (fun a b => decide ((S.2.1 j).2.2.1 ((S.1 i).1 b) < (S.2.1 j).2.2.1 ((S.1 i).1 a))) (S.1 i).2.2 else bestB (fun _ => true) (fun a b => decide ((S.2.1 j).2.2.1 ((S.1 i).1 a) < (S.2.1 j).2.2.1 ((S.1 i).1 b))) (S.1 i).2.2) (fun b => (S.2.1 j).2.2.2.1 ((S.1 i).1 b)))) 0 0 (fun _ => False) := by
  refine Met.ofW (cc := cX4_extreme) (maxL := 7) (ret := (some .int)) pl_X4 rfl ?_
  intro p e s m args below meth c s₁ B hml hv
  obtain ⟨rfl, hPX⟩ := hv
  have hx := B.exec
  have hb := B.bytes
  have hr := B.returns
  have hts := atoms_spec (ws := wsX4_extreme) B.pre
  have hown : s.vm.findClass RX4 = some m.cls := findClass_of_methodNamed B.named
  have hlocks := B.notSynchronized
  have hX := WX.of hPX
  have hl := lv_entry ([.ref (ad 57), .int (nI i), .int (nI j), .int (bI z)]) (n := 7) (Nat.le_of_ble_eq_true rfl)
  rw [lg_entry_eq]
  generalize (lg_sl ([.ref (ad 57), .int (nI i), .int (nI j), .int (bI z)]) ++ List.replicate (7 - (lg_sl ([.ref (ad 57), .int (nI i), .int (nI j), .int (bI z)])).length) Slot.unset).toArray = ls at hl ⊢
  have hl : lv_has ls 7 [(0, .ref (ad 57)), (1, .int (nI i)), (2, .int (nI j)), (3, .int (bI z))] := hl
  show W p l e ({ frames := 2, cells := 0, slots := 0, locals := 49 } : Room) s m ([.ref (ad 57), .int (nI i), .int (nI j), .int (bI z)]).toArray below meth c s.heap [] 0 0 (MQ below (vp_Si (fun r => r = exI (if z then bestB (fun _ => true) (fun a b => decide ((S.2.1 j).2.2.1 ((S.1 i).1 b) < (S.2.1 j).2.2.1 ((S.1 i).1 a))) (S.1 i).2.2 else bestB (fun _ => true) (fun a b => decide ((S.2.1 j).2.2.1 ((S.1 i).1 a) < (S.2.1 j).2.2.1 ((S.1 i).1 b))) (S.1 i).2.2) (fun b => (S.2.1 j).2.2.2.1 ((S.1 i).1 b)))) ([.ref (ad 57), .int (nI i), .int (nI j), .int (bI z)]).toArray s 0 0 (fun _ => False)) (F0 m 0 ls [])
  have hn := (hI.1 i (by omega)).1
  refine lv_aload_n hx hb dX4_extreme_0 rfl (lv_at hl 0 rfl) ?_
  refine lv_iload_n hx hb dX4_extreme_1 rfl (lv_at hl 1 rfl) ?_
  refine va_csr (va_Run.run (va_runV (As := [.int (nI i)]) (rest := []) ⟨hx, hb, hml, hown, hts⟩ (m_X4_rowAt l dC dI ad S i (by omega)) (cwV 1 hts gX4_extreme_X4_rowAt rfl rfl rfl hdX4_rowAt_1 ⟨Nat.le_of_ble_eq_true rfl, Nat.le_of_ble_eq_true rfl⟩) (hX.preTop 57 6 (by decide) (by decide) rfl rfl) rfl rfl hl.1 rfl (lv_room (Nat.le_of_ble_eq_true rfl)) dX4_extreme_2 ⟨Nat.le_of_ble_eq_true rfl, Nat.le_of_ble_eq_true rfl⟩)) (fun k_ hk_ => ?_)
  rw [hk_]
  refine lv_astore (lv' := [(4, .ref (ad (3 * i))), (0, .ref (ad 57)), (1, .int (nI i)), (2, .int (nI j)), (3, .int (bI z))]) hx hb dX4_extreme_5 hl (by decide) rfl (fun ls hl => ?_)
  refine lv_aload_n hx hb dX4_extreme_7 rfl (lv_at hl 1 rfl) ?_
  refine lv_iload_n hx hb dX4_extreme_8 rfl (lv_at hl 3 rfl) ?_
  refine va_csr (va_Run.run (va_runV (As := [.int (nI j)]) (rest := []) ⟨hx, hb, hml, hown, hts⟩ (m_X4_orderAt l dC dI ad S j (by omega)) (cwV 1 hts gX4_extreme_X4_orderAt rfl rfl rfl hdX4_orderAt_1 ⟨Nat.le_of_ble_eq_true rfl, Nat.le_of_ble_eq_true rfl⟩) (hX.preTop 57 6 (by decide) (by decide) rfl rfl) rfl rfl hl.1 rfl (lv_room (Nat.le_of_ble_eq_true rfl)) dX4_extreme_9 ⟨Nat.le_of_ble_eq_true rfl, Nat.le_of_ble_eq_true rfl⟩)) (fun k_ hk_ => ?_)
  rw [hk_]
  refine lv_astore (lv' := [(5, .ref (ad (24 + 5 * j))), (4, .ref (ad (3 * i))), (0, .ref (ad 57)), (1, .int (nI i)), (2, .int (nI j)), (3, .int (bI z))]) hx hb dX4_extreme_12 hl (by decide) rfl (fun ls hl => ?_)
  refine lv_iload_n hx hb dX4_extreme_14 rfl (lv_at hl 5 rfl) ?_
  refine kb_if_eq (tgt := 28) hx hb dX4_extreme_15 (by decide) (fun k_1 => ?_) (fun k_1 => ?_)
  · skip
    have hz := k_1
    refine lv_aload hx hb dX4_extreme_28 (lv_at hl 1 rfl) ?_
    refine lv_aload hx hb dX4_extreme_30 (lv_at hl 0 rfl) ?_
    refine kx_cr (v := (oI (bestB (fun _ => true) (fun a b => decide ((S.2.1 j).2.2.1 ((S.1 i).1 a) < (S.2.1 j).2.2.1 ((S.1 i).1 b))) (S.1 i).2.2))) (va_runV (As := [.ref (ad (24 + 5 * j))]) (rest := []) ⟨hx, hb, hml, hown, hts⟩ (m_X2_firstPlaceBy l dC dI ad S i j (by omega) (by omega) (hI.1 i (by omega)) (hI.2 j (by omega))) (cwV 1 hts gX4_extreme_X2_firstPlaceBy rfl rfl rfl hdX2_firstPlaceBy_1 ⟨Nat.le_of_ble_eq_true rfl, Nat.le_of_ble_eq_true rfl⟩) (hX.preRow (by omega)) rfl rfl hl.1 rfl (lv_room (Nat.le_of_ble_eq_true rfl)) dX4_extreme_32 ⟨Nat.le_of_ble_eq_true rfl, Nat.le_of_ble_eq_true rfl⟩) (fun _ h => h) ?_
    rcases hq9 : (bestB (fun _ => true) (fun a b => decide ((S.2.1 j).2.2.1 ((S.1 i).1 a) < (S.2.1 j).2.2.1 ((S.1 i).1 b))) (S.1 i).2.2) with _ | bb
    · skip
      refine lv_istore (lv' := [(6, .int (oI none)), (5, .ref (ad (24 + 5 * j))), (4, .ref (ad (3 * i))), (0, .ref (ad 57)), (1, .int (nI i)), (2, .int (nI j)), (3, .int (bI z))]) hx hb dX4_extreme_35 hl (by decide) rfl (fun ls hl => ?_)
      refine lv_iload hx hb dX4_extreme_37 (lv_at hl 0 rfl) ?_
      refine lv_iconst (v := (-1)) hx hb dX4_extreme_39 (by decide) ?_
      refine lv_icmp_ne (tgt := 47) hx hb dX4_extreme_40 (by decide) (fun k_2 => absurd rfl k_2) (fun k_2 => ?_)
      refine lv_iconst (v := (-1)) hx hb dX4_extreme_43 (by decide) ?_
      refine lv_goto (tgt := 59) hx hb dX4_extreme_44 (by decide) ?_
      exact W.iret (v := (-1)) hx hb hr (fun t9 ht9 hW9 => ⟨_, rfl, (by rw [hz, if_neg (by decide)]; first | done | rfl), ht9⟩) (fun _ h => nomatch h) dX4_extreme_59
    · skip
      have hbb := bestB_lt hq9
      have hb1 := hbb.1
      refine lv_istore (lv' := [(6, .int (nI bb)), (5, .ref (ad (24 + 5 * j))), (4, .ref (ad (3 * i))), (0, .ref (ad 57)), (1, .int (nI i)), (2, .int (nI j)), (3, .int (bI z))]) hx hb dX4_extreme_35 hl (by decide) rfl (fun ls hl => ?_)
      refine lv_iload hx hb dX4_extreme_37 (lv_at hl 0 rfl) ?_
      refine lv_iconst (v := (-1)) hx hb dX4_extreme_39 (by decide) ?_
      refine lv_icmp_ne (tgt := 47) hx hb dX4_extreme_40 (by decide) (fun k_3 => ?_) (fun k_3 => absurd k_3 (nI_nm1 (by omega)))
      refine lv_aload hx hb dX4_extreme_47 (lv_at hl 1 rfl) ?_
      refine lv_aload hx hb dX4_extreme_49 (lv_at hl 2 rfl) ?_
      refine lv_iload hx hb dX4_extreme_51 (lv_at hl 0 rfl) ?_
      refine kx_cr (v := nI (((S.1 i).1) bb)) (va_runV (As := [.int (nI bb)]) (rest := [.ref (ad (24 + 5 * j))]) ⟨hx, hb, hml, hown, hts⟩ (m_X2_valueOn l dC dI ad S i bb (by omega) (by omega)) (cwV 1 hts gX4_extreme_X2_valueOn rfl rfl rfl hdX2_valueOn_1 ⟨Nat.le_of_ble_eq_true rfl, Nat.le_of_ble_eq_true rfl⟩) (hX.preRow (by omega)) rfl rfl hl.1 rfl (lv_room (Nat.le_of_ble_eq_true rfl)) dX4_extreme_53 ⟨Nat.le_of_ble_eq_true rfl, Nat.le_of_ble_eq_true rfl⟩) (fun _ h => h) ?_
      refine kx_cr (v := nI (((S.2.1 j).2.2.2.1) (((S.1 i).1) bb))) (va_runV (As := [.int (nI (((S.1 i).1) bb))]) (rest := []) ⟨hx, hb, hml, hown, hts⟩ (m_X1_rankOf l dC dI ad S j (((S.1 i).1) bb) (by omega) ((hI.1 i (by omega)).2 _ (by omega)).1) (cwV 1 hts gX4_extreme_X1_rankOf rfl rfl rfl hdX1_rankOf_1 ⟨Nat.le_of_ble_eq_true rfl, Nat.le_of_ble_eq_true rfl⟩) (hX.preOrd (by omega)) rfl rfl hl.1 rfl (lv_room (Nat.le_of_ble_eq_true rfl)) dX4_extreme_56 ⟨Nat.le_of_ble_eq_true rfl, Nat.le_of_ble_eq_true rfl⟩) (fun _ h => h) ?_
      exact W.iret (v := nI (((S.2.1 j).2.2.2.1) (((S.1 i).1) bb))) hx hb hr (fun t9 ht9 hW9 => ⟨_, rfl, (by rw [hz, if_neg (by decide)]; first | done | rfl), ht9⟩) (fun _ h => nomatch h) dX4_extreme_59
  · skip
    have hz := k_1
    refine lv_aload hx hb dX4_extreme_18 (lv_at hl 1 rfl) ?_
    refine lv_aload hx hb dX4_extreme_20 (lv_at hl 0 rfl) ?_
    refine kx_cr (v := (oI (bestB (fun _ => true) (fun a b => decide ((S.2.1 j).2.2.1 ((S.1 i).1 b) < (S.2.1 j).2.2.1 ((S.1 i).1 a))) (S.1 i).2.2))) (va_runV (As := [.ref (ad (24 + 5 * j))]) (rest := []) ⟨hx, hb, hml, hown, hts⟩ (m_X2_lastPlaceBy l dC dI ad S i j (by omega) (by omega) (hI.1 i (by omega)) (hI.2 j (by omega))) (cwV 1 hts gX4_extreme_X2_lastPlaceBy rfl rfl rfl hdX2_lastPlaceBy_1 ⟨Nat.le_of_ble_eq_true rfl, Nat.le_of_ble_eq_true rfl⟩) (hX.preRow (by omega)) rfl rfl hl.1 rfl (lv_room (Nat.le_of_ble_eq_true rfl)) dX4_extreme_22 ⟨Nat.le_of_ble_eq_true rfl, Nat.le_of_ble_eq_true rfl⟩) (fun _ h => h) ?_
    refine lv_goto (tgt := 35) hx hb dX4_extreme_25 (by decide) ?_
    rcases hq9 : (bestB (fun _ => true) (fun a b => decide ((S.2.1 j).2.2.1 ((S.1 i).1 b) < (S.2.1 j).2.2.1 ((S.1 i).1 a))) (S.1 i).2.2) with _ | bb
    · skip
      refine lv_istore (lv' := [(6, .int (oI none)), (5, .ref (ad (24 + 5 * j))), (4, .ref (ad (3 * i))), (0, .ref (ad 57)), (1, .int (nI i)), (2, .int (nI j)), (3, .int (bI z))]) hx hb dX4_extreme_35 hl (by decide) rfl (fun ls hl => ?_)
      refine lv_iload hx hb dX4_extreme_37 (lv_at hl 0 rfl) ?_
      refine lv_iconst (v := (-1)) hx hb dX4_extreme_39 (by decide) ?_
      refine lv_icmp_ne (tgt := 47) hx hb dX4_extreme_40 (by decide) (fun k_4 => absurd rfl k_4) (fun k_4 => ?_)
      refine lv_iconst (v := (-1)) hx hb dX4_extreme_43 (by decide) ?_
      refine lv_goto (tgt := 59) hx hb dX4_extreme_44 (by decide) ?_
      exact W.iret (v := (-1)) hx hb hr (fun t9 ht9 hW9 => ⟨_, rfl, (by rw [hz, if_pos rfl]; first | done | rfl), ht9⟩) (fun _ h => nomatch h) dX4_extreme_59
    · skip
      have hbb := bestB_lt hq9
      have hb1 := hbb.1
      refine lv_istore (lv' := [(6, .int (nI bb)), (5, .ref (ad (24 + 5 * j))), (4, .ref (ad (3 * i))), (0, .ref (ad 57)), (1, .int (nI i)), (2, .int (nI j)), (3, .int (bI z))]) hx hb dX4_extreme_35 hl (by decide) rfl (fun ls hl => ?_)
      refine lv_iload hx hb dX4_extreme_37 (lv_at hl 0 rfl) ?_
      refine lv_iconst (v := (-1)) hx hb dX4_extreme_39 (by decide) ?_
      refine lv_icmp_ne (tgt := 47) hx hb dX4_extreme_40 (by decide) (fun k_5 => ?_) (fun k_5 => absurd k_5 (nI_nm1 (by omega)))
      refine lv_aload hx hb dX4_extreme_47 (lv_at hl 1 rfl) ?_
      refine lv_aload hx hb dX4_extreme_49 (lv_at hl 2 rfl) ?_
      refine lv_iload hx hb dX4_extreme_51 (lv_at hl 0 rfl) ?_
      refine kx_cr (v := nI (((S.1 i).1) bb)) (va_runV (As := [.int (nI bb)]) (rest := [.ref (ad (24 + 5 * j))]) ⟨hx, hb, hml, hown, hts⟩ (m_X2_valueOn l dC dI ad S i bb (by omega) (by omega)) (cwV 1 hts gX4_extreme_X2_valueOn rfl rfl rfl hdX2_valueOn_1 ⟨Nat.le_of_ble_eq_true rfl, Nat.le_of_ble_eq_true rfl⟩) (hX.preRow (by omega)) rfl rfl hl.1 rfl (lv_room (Nat.le_of_ble_eq_true rfl)) dX4_extreme_53 ⟨Nat.le_of_ble_eq_true rfl, Nat.le_of_ble_eq_true rfl⟩) (fun _ h => h) ?_
      refine kx_cr (v := nI (((S.2.1 j).2.2.2.1) (((S.1 i).1) bb))) (va_runV (As := [.int (nI (((S.1 i).1) bb))]) (rest := []) ⟨hx, hb, hml, hown, hts⟩ (m_X1_rankOf l dC dI ad S j (((S.1 i).1) bb) (by omega) ((hI.1 i (by omega)).2 _ (by omega)).1) (cwV 1 hts gX4_extreme_X1_rankOf rfl rfl rfl hdX1_rankOf_1 ⟨Nat.le_of_ble_eq_true rfl, Nat.le_of_ble_eq_true rfl⟩) (hX.preOrd (by omega)) rfl rfl hl.1 rfl (lv_room (Nat.le_of_ble_eq_true rfl)) dX4_extreme_56 ⟨Nat.le_of_ble_eq_true rfl, Nat.le_of_ble_eq_true rfl⟩) (fun _ h => h) ?_
      exact W.iret (v := nI (((S.2.1 j).2.2.2.1) (((S.1 i).1) bb))) hx hb hr (fun t9 ht9 hW9 => ⟨_, rfl, (by rw [hz, if_pos rfl]; first | done | rfl), ht9⟩) (fun _ h => nomatch h) dX4_extreme_59
set_option maxHeartbeats 4000000 in
set_option maxRecDepth 100000 in
theorem m_X4_near (l : Launch) (dC : Nat → ClassId) (dI : Nat → Nat → Nat) (ad : Nat → Nat) (S : XS) (i : Nat) (j : Nat) (v : Nat) (k : Nat) (hi : i < 3) (hj : j < 4) (hv : v < 16) (hk : k ≤ 3) (hI : InvX S) : Met l yX4_near wsX4_near ({ frames := 3, cells := 0, slots := 0, locals := 76 } : Room) (va_Pc [.ref (ad 57), .int (nI i), .int (nI j), .int (nI v), .int (nI k)] (PX dC dI ad S)) (vp_Si (fun r => r = exI (bestB (fun x => sideB k ((S.2.1 j).2.2.1 ((S.1 i).1 x)) ((S.2.1 j).2.2.1 v)) (fun a b => nearB k ((S.2.1 j).2.2.1 ((S.1 i).1 a)) ((S.2.1 j).2.2.1 ((S.1 i).1 b))) (S.1 i).2.2) (S.1 i).2.1)) 0 0 (fun _ => False) := by
  refine Met.ofW (cc := cX4_near) (maxL := 8) (ret := (some .int)) pl_X4 rfl ?_
  intro p e s m args below meth c s₁ B hml hv
  obtain ⟨rfl, hPX⟩ := hv
  have hx := B.exec
  have hb := B.bytes
  have hr := B.returns
  have hts := atoms_spec (ws := wsX4_near) B.pre
  have hown : s.vm.findClass RX4 = some m.cls := findClass_of_methodNamed B.named
  have hlocks := B.notSynchronized
  have hX := WX.of hPX
  have hl := lv_entry ([.ref (ad 57), .int (nI i), .int (nI j), .int (nI v), .int (nI k)]) (n := 8) (Nat.le_of_ble_eq_true rfl)
  rw [lg_entry_eq]
  generalize (lg_sl ([.ref (ad 57), .int (nI i), .int (nI j), .int (nI v), .int (nI k)]) ++ List.replicate (8 - (lg_sl ([.ref (ad 57), .int (nI i), .int (nI j), .int (nI v), .int (nI k)])).length) Slot.unset).toArray = ls at hl ⊢
  have hl : lv_has ls 8 [(0, .ref (ad 57)), (1, .int (nI i)), (2, .int (nI j)), (3, .int (nI v)), (4, .int (nI k))] := hl
  show W p l e ({ frames := 3, cells := 0, slots := 0, locals := 76 } : Room) s m ([.ref (ad 57), .int (nI i), .int (nI j), .int (nI v), .int (nI k)]).toArray below meth c s.heap [] 0 0 (MQ below (vp_Si (fun r => r = exI (bestB (fun x => sideB k ((S.2.1 j).2.2.1 ((S.1 i).1 x)) ((S.2.1 j).2.2.1 v)) (fun a b => nearB k ((S.2.1 j).2.2.1 ((S.1 i).1 a)) ((S.2.1 j).2.2.1 ((S.1 i).1 b))) (S.1 i).2.2) (S.1 i).2.1)) ([.ref (ad 57), .int (nI i), .int (nI j), .int (nI v), .int (nI k)]).toArray s 0 0 (fun _ => False)) (F0 m 0 ls [])
  have hn := (hI.1 i (by omega)).1
  refine lv_aload_n hx hb dX4_near_0 rfl (lv_at hl 0 rfl) ?_
  refine lv_iload_n hx hb dX4_near_1 rfl (lv_at hl 1 rfl) ?_
  refine va_csr (va_Run.run (va_runV (As := [.int (nI i)]) (rest := []) ⟨hx, hb, hml, hown, hts⟩ (m_X4_rowAt l dC dI ad S i (by omega)) (cwV 1 hts gX4_near_X4_rowAt rfl rfl rfl hdX4_rowAt_1 ⟨Nat.le_of_ble_eq_true rfl, Nat.le_of_ble_eq_true rfl⟩) (hX.preTop 57 6 (by decide) (by decide) rfl rfl) rfl rfl hl.1 rfl (lv_room (Nat.le_of_ble_eq_true rfl)) dX4_near_2 ⟨Nat.le_of_ble_eq_true rfl, Nat.le_of_ble_eq_true rfl⟩)) (fun k_ hk_ => ?_)
  rw [hk_]
  refine lv_astore (lv' := [(5, .ref (ad (3 * i))), (0, .ref (ad 57)), (1, .int (nI i)), (2, .int (nI j)), (3, .int (nI v)), (4, .int (nI k))]) hx hb dX4_near_5 hl (by decide) rfl (fun ls hl => ?_)
  refine lv_aload_n hx hb dX4_near_7 rfl (lv_at hl 1 rfl) ?_
  refine lv_iload_n hx hb dX4_near_8 rfl (lv_at hl 3 rfl) ?_
  refine va_csr (va_Run.run (va_runV (As := [.int (nI j)]) (rest := []) ⟨hx, hb, hml, hown, hts⟩ (m_X4_orderAt l dC dI ad S j (by omega)) (cwV 1 hts gX4_near_X4_orderAt rfl rfl rfl hdX4_orderAt_1 ⟨Nat.le_of_ble_eq_true rfl, Nat.le_of_ble_eq_true rfl⟩) (hX.preTop 57 6 (by decide) (by decide) rfl rfl) rfl rfl hl.1 rfl (lv_room (Nat.le_of_ble_eq_true rfl)) dX4_near_9 ⟨Nat.le_of_ble_eq_true rfl, Nat.le_of_ble_eq_true rfl⟩)) (fun k_ hk_ => ?_)
  rw [hk_]
  refine lv_astore (lv' := [(6, .ref (ad (24 + 5 * j))), (5, .ref (ad (3 * i))), (0, .ref (ad 57)), (1, .int (nI i)), (2, .int (nI j)), (3, .int (nI v)), (4, .int (nI k))]) hx hb dX4_near_12 hl (by decide) rfl (fun ls hl => ?_)
  refine lv_iload_n hx hb dX4_near_14 rfl (lv_at hl 5 rfl) ?_
  refine va_csv (va_Run.run (va_runS (As := [.int (nI v)]) (rest := []) ⟨hx, hb, hml, hown, hts⟩ (m_X4_demandValue l dC dI ad S v (by omega)) (va_cwS 1 hts gX4_near_X4_demandValue rfl rfl rfl hdX4_demandValue_1.2 ⟨Nat.le_of_ble_eq_true rfl, Nat.le_of_ble_eq_true rfl⟩) hX.preS rfl rfl hl.1 rfl (lv_room (Nat.le_of_ble_eq_true rfl)) dX4_near_15 ⟨Nat.le_of_ble_eq_true rfl, Nat.le_of_ble_eq_true rfl⟩)) (fun _ => ?_)
  refine lv_iload hx hb dX4_near_18 (lv_at hl 6 rfl) ?_
  refine lv_iconst (v := nI 3) hx hb dX4_near_20 (by decide) ?_
  refine va_csv (va_Run.run (va_runS (As := [.int (nI k), .int (nI 3)]) (rest := []) ⟨hx, hb, hml, hown, hts⟩ (m_X4_demandWithin l dC dI ad S k 3 (by omega) (by omega)) (va_cwS 2 hts gX4_near_X4_demandWithin rfl rfl rfl hdX4_demandWithin_2.2 ⟨Nat.le_of_ble_eq_true rfl, Nat.le_of_ble_eq_true rfl⟩) hX.preS rfl rfl hl.1 rfl (lv_room (Nat.le_of_ble_eq_true rfl)) dX4_near_21 ⟨Nat.le_of_ble_eq_true rfl, Nat.le_of_ble_eq_true rfl⟩)) (fun _ => ?_)
  refine lv_aload hx hb dX4_near_24 (lv_at hl 1 rfl) ?_
  refine lv_aload hx hb dX4_near_26 (lv_at hl 0 rfl) ?_
  refine lv_iload_n hx hb dX4_near_28 rfl (lv_at hl 5 rfl) ?_
  refine lv_iload hx hb dX4_near_29 (lv_at hl 6 rfl) ?_
  refine kx_cr (v := (oI (bestB (fun x => sideB k ((S.2.1 j).2.2.1 ((S.1 i).1 x)) ((S.2.1 j).2.2.1 v)) (fun a b => nearB k ((S.2.1 j).2.2.1 ((S.1 i).1 a)) ((S.2.1 j).2.2.1 ((S.1 i).1 b))) (S.1 i).2.2))) (va_runV (As := [.ref (ad (24 + 5 * j)), .int (nI v), .int (nI k)]) (rest := []) ⟨hx, hb, hml, hown, hts⟩ (m_X2_nearestPlace l dC dI ad S i j v k (by omega) (by omega) (hI.1 i (by omega)) (hI.2 j (by omega)) (by omega) (by omega)) (cwV 3 hts gX4_near_X2_nearestPlace rfl rfl rfl hdX2_nearestPlace_3 ⟨Nat.le_of_ble_eq_true rfl, Nat.le_of_ble_eq_true rfl⟩) (hX.preRow (by omega)) rfl rfl hl.1 rfl (lv_room (Nat.le_of_ble_eq_true rfl)) dX4_near_31 ⟨Nat.le_of_ble_eq_true rfl, Nat.le_of_ble_eq_true rfl⟩) (fun _ h => h) ?_
  rcases hq9 : (bestB (fun x => sideB k ((S.2.1 j).2.2.1 ((S.1 i).1 x)) ((S.2.1 j).2.2.1 v)) (fun a b => nearB k ((S.2.1 j).2.2.1 ((S.1 i).1 a)) ((S.2.1 j).2.2.1 ((S.1 i).1 b))) (S.1 i).2.2) with _ | bb
  · skip
    refine lv_istore (lv' := [(7, .int (oI none)), (6, .ref (ad (24 + 5 * j))), (5, .ref (ad (3 * i))), (0, .ref (ad 57)), (1, .int (nI i)), (2, .int (nI j)), (3, .int (nI v)), (4, .int (nI k))]) hx hb dX4_near_34 hl (by decide) rfl (fun ls hl => ?_)
    refine lv_iload hx hb dX4_near_36 (lv_at hl 0 rfl) ?_
    refine lv_iconst (v := (-1)) hx hb dX4_near_38 (by decide) ?_
    refine lv_icmp_ne (tgt := 46) hx hb dX4_near_39 (by decide) (fun k_1 => absurd rfl k_1) (fun k_1 => ?_)
    refine lv_iconst (v := (-1)) hx hb dX4_near_42 (by decide) ?_
    refine lv_goto (tgt := 53) hx hb dX4_near_43 (by decide) ?_
    exact W.iret (v := (-1)) hx hb hr (fun t9 ht9 hW9 => ⟨_, rfl, rfl, ht9⟩) (fun _ h => nomatch h) dX4_near_53
  · skip
    have hbb := bestB_lt hq9
    have hb1 := hbb.1
    refine lv_istore (lv' := [(7, .int (nI bb)), (6, .ref (ad (24 + 5 * j))), (5, .ref (ad (3 * i))), (0, .ref (ad 57)), (1, .int (nI i)), (2, .int (nI j)), (3, .int (nI v)), (4, .int (nI k))]) hx hb dX4_near_34 hl (by decide) rfl (fun ls hl => ?_)
    refine lv_iload hx hb dX4_near_36 (lv_at hl 0 rfl) ?_
    refine lv_iconst (v := (-1)) hx hb dX4_near_38 (by decide) ?_
    refine lv_icmp_ne (tgt := 46) hx hb dX4_near_39 (by decide) (fun k_2 => ?_) (fun k_2 => absurd k_2 (nI_nm1 (by omega)))
    refine lv_aload hx hb dX4_near_46 (lv_at hl 2 rfl) ?_
    refine lv_iload hx hb dX4_near_48 (lv_at hl 0 rfl) ?_
    refine kx_cr (v := nI (((S.1 i).2.1) bb)) (va_runV (As := [.int (nI bb)]) (rest := []) ⟨hx, hb, hml, hown, hts⟩ (m_X2_markOn l dC dI ad S i bb (by omega) (by omega)) (cwV 1 hts gX4_near_X2_markOn rfl rfl rfl hdX2_markOn_1 ⟨Nat.le_of_ble_eq_true rfl, Nat.le_of_ble_eq_true rfl⟩) (hX.preRow (by omega)) rfl rfl hl.1 rfl (lv_room (Nat.le_of_ble_eq_true rfl)) dX4_near_50 ⟨Nat.le_of_ble_eq_true rfl, Nat.le_of_ble_eq_true rfl⟩) (fun _ h => h) ?_
    exact W.iret (v := nI (((S.1 i).2.1) bb)) hx hb hr (fun t9 ht9 hW9 => ⟨_, rfl, rfl, ht9⟩) (fun _ h => nomatch h) dX4_near_53
set_option maxHeartbeats 4000000 in
set_option maxRecDepth 100000 in
theorem m_X4_search (l : Launch) (dC : Nat → ClassId) (dI : Nat → Nat → Nat) (ad : Nat → Nat) (S : XS) (i : Nat) (j : Nat) (v : Nat) (hi : i < 3) (hj : j < 4) (hv : v < 16) (hI : InvX S) : Met l yX4_search wsX4_search ({ frames := 2, cells := 0, slots := 0, locals := 50 } : Room) (va_Pc [.ref (ad 57), .int (nI i), .int (nI j), .int (nI v)] (PX dC dI ad S)) (va_Qi (fun r S' => (seqB (S.2.1 j).2.2.1 (S.1 i).1 (S.1 i).2.2 = false ∧ r = -9 ∧ S' = refT S) ∨ (seqB (S.2.1 j).2.2.1 (S.1 i).1 (S.1 i).2.2 = true ∧ r = (if ∃ k, k < (S.1 i).2.2 ∧ (S.2.1 j).2.2.1 ((S.1 i).1 k) = (S.2.1 j).2.2.1 v then 16 else nI (cntB (fun k => decide ((S.2.1 j).2.2.1 ((S.1 i).1 k) < (S.2.1 j).2.2.1 v)) (S.1 i).2.2)) ∧ S' = S)) (PX dC dI ad) (AX ad)) 0 0 (AX ad) := by
  refine Met.ofW (cc := cX4_search) (maxL := 6) (ret := (some .int)) pl_X4 rfl ?_
  intro p e s m args below meth c s₁ B hml hv
  obtain ⟨rfl, hPX⟩ := hv
  have hx := B.exec
  have hb := B.bytes
  have hr := B.returns
  have hts := atoms_spec (ws := wsX4_search) B.pre
  have hown : s.vm.findClass RX4 = some m.cls := findClass_of_methodNamed B.named
  have hlocks := B.notSynchronized
  have hX := WX.of hPX
  have hl := lv_entry ([.ref (ad 57), .int (nI i), .int (nI j), .int (nI v)]) (n := 6) (Nat.le_of_ble_eq_true rfl)
  rw [lg_entry_eq]
  generalize (lg_sl ([.ref (ad 57), .int (nI i), .int (nI j), .int (nI v)]) ++ List.replicate (6 - (lg_sl ([.ref (ad 57), .int (nI i), .int (nI j), .int (nI v)])).length) Slot.unset).toArray = ls at hl ⊢
  have hl : lv_has ls 6 [(0, .ref (ad 57)), (1, .int (nI i)), (2, .int (nI j)), (3, .int (nI v))] := hl
  show W p l e ({ frames := 2, cells := 0, slots := 0, locals := 50 } : Room) s m ([.ref (ad 57), .int (nI i), .int (nI j), .int (nI v)]).toArray below meth c s.heap [] 0 0 (MQ below (va_Qi (fun r S' => (seqB (S.2.1 j).2.2.1 (S.1 i).1 (S.1 i).2.2 = false ∧ r = -9 ∧ S' = refT S) ∨ (seqB (S.2.1 j).2.2.1 (S.1 i).1 (S.1 i).2.2 = true ∧ r = (if ∃ k, k < (S.1 i).2.2 ∧ (S.2.1 j).2.2.1 ((S.1 i).1 k) = (S.2.1 j).2.2.1 v then 16 else nI (cntB (fun k => decide ((S.2.1 j).2.2.1 ((S.1 i).1 k) < (S.2.1 j).2.2.1 v)) (S.1 i).2.2)) ∧ S' = S)) (PX dC dI ad) (AX ad)) ([.ref (ad 57), .int (nI i), .int (nI j), .int (nI v)]).toArray s 0 0 (AX ad)) (F0 m 0 ls [])
  have hn := (hI.1 i (by omega)).1
  refine lv_aload_n hx hb dX4_search_0 rfl (lv_at hl 0 rfl) ?_
  refine lv_iload_n hx hb dX4_search_1 rfl (lv_at hl 1 rfl) ?_
  refine va_csr (va_Run.run (va_runV (As := [.int (nI i)]) (rest := []) ⟨hx, hb, hml, hown, hts⟩ (m_X4_rowAt l dC dI ad S i (by omega)) (cwV 1 hts gX4_search_X4_rowAt rfl rfl rfl hdX4_rowAt_1 ⟨Nat.le_of_ble_eq_true rfl, Nat.le_of_ble_eq_true rfl⟩) (hX.preTop 57 6 (by decide) (by decide) rfl rfl) rfl rfl hl.1 rfl (lv_room (Nat.le_of_ble_eq_true rfl)) dX4_search_2 ⟨Nat.le_of_ble_eq_true rfl, Nat.le_of_ble_eq_true rfl⟩)) (fun k_ hk_ => ?_)
  rw [hk_]
  refine lv_astore (lv' := [(4, .ref (ad (3 * i))), (0, .ref (ad 57)), (1, .int (nI i)), (2, .int (nI j)), (3, .int (nI v))]) hx hb dX4_search_5 hl (by decide) rfl (fun ls hl => ?_)
  refine lv_aload_n hx hb dX4_search_7 rfl (lv_at hl 1 rfl) ?_
  refine lv_iload_n hx hb dX4_search_8 rfl (lv_at hl 3 rfl) ?_
  refine va_csr (va_Run.run (va_runV (As := [.int (nI j)]) (rest := []) ⟨hx, hb, hml, hown, hts⟩ (m_X4_orderAt l dC dI ad S j (by omega)) (cwV 1 hts gX4_search_X4_orderAt rfl rfl rfl hdX4_orderAt_1 ⟨Nat.le_of_ble_eq_true rfl, Nat.le_of_ble_eq_true rfl⟩) (hX.preTop 57 6 (by decide) (by decide) rfl rfl) rfl rfl hl.1 rfl (lv_room (Nat.le_of_ble_eq_true rfl)) dX4_search_9 ⟨Nat.le_of_ble_eq_true rfl, Nat.le_of_ble_eq_true rfl⟩)) (fun k_ hk_ => ?_)
  rw [hk_]
  refine lv_astore (lv' := [(5, .ref (ad (24 + 5 * j))), (4, .ref (ad (3 * i))), (0, .ref (ad 57)), (1, .int (nI i)), (2, .int (nI j)), (3, .int (nI v))]) hx hb dX4_search_12 hl (by decide) rfl (fun ls hl => ?_)
  refine lv_iload_n hx hb dX4_search_14 rfl (lv_at hl 5 rfl) ?_
  refine va_csv (va_Run.run (va_runS (As := [.int (nI v)]) (rest := []) ⟨hx, hb, hml, hown, hts⟩ (m_X4_demandValue l dC dI ad S v (by omega)) (va_cwS 1 hts gX4_search_X4_demandValue rfl rfl rfl hdX4_demandValue_1.2 ⟨Nat.le_of_ble_eq_true rfl, Nat.le_of_ble_eq_true rfl⟩) hX.preS rfl rfl hl.1 rfl (lv_room (Nat.le_of_ble_eq_true rfl)) dX4_search_15 ⟨Nat.le_of_ble_eq_true rfl, Nat.le_of_ble_eq_true rfl⟩)) (fun _ => ?_)
  refine lv_aload hx hb dX4_search_18 (lv_at hl 1 rfl) ?_
  refine lv_aload hx hb dX4_search_20 (lv_at hl 0 rfl) ?_
  refine kx_cr (v := bI (seqB (S.2.1 j).2.2.1 (S.1 i).1 (S.1 i).2.2)) (va_runV (As := [.ref (ad (24 + 5 * j))]) (rest := []) ⟨hx, hb, hml, hown, hts⟩ (m_X2_isInSequenceBy l dC dI ad S i j (by omega) (by omega) (hI.1 i (by omega)) (hI.2 j (by omega))) (cwV 1 hts gX4_search_X2_isInSequenceBy rfl rfl rfl hdX2_isInSequenceBy_1 ⟨Nat.le_of_ble_eq_true rfl, Nat.le_of_ble_eq_true rfl⟩) (hX.preRow (by omega)) rfl rfl hl.1 rfl (lv_room (Nat.le_of_ble_eq_true rfl)) dX4_search_22 ⟨Nat.le_of_ble_eq_true rfl, Nat.le_of_ble_eq_true rfl⟩) (fun _ h => h) ?_
  refine kb_if_ne (tgt := 33) hx hb dX4_search_25 (by decide) (fun k_1 => ?_) (fun k_1 => ?_)
  · skip
    have hs := k_1
    refine lv_aload hx hb dX4_search_33 (lv_at hl 1 rfl) ?_
    refine lv_aload hx hb dX4_search_35 (lv_at hl 0 rfl) ?_
    refine lv_iload_n hx hb dX4_search_37 rfl (lv_at hl 5 rfl) ?_
    refine kx_cr (v := bI (decide (∃ k, k < (S.1 i).2.2 ∧ (S.2.1 j).2.2.1 ((S.1 i).1 k) = (S.2.1 j).2.2.1 v))) (va_runV (As := [.ref (ad (24 + 5 * j)), .int (nI v)]) (rest := []) ⟨hx, hb, hml, hown, hts⟩ (m_X2_hasAlike l dC dI ad S i j v (by omega) (by omega) (hI.1 i (by omega)) (hI.2 j (by omega)) (by omega)) (cwV 2 hts gX4_search_X2_hasAlike rfl rfl rfl hdX2_hasAlike_2 ⟨Nat.le_of_ble_eq_true rfl, Nat.le_of_ble_eq_true rfl⟩) (hX.preRow (by omega)) rfl rfl hl.1 rfl (lv_room (Nat.le_of_ble_eq_true rfl)) dX4_search_38 ⟨Nat.le_of_ble_eq_true rfl, Nat.le_of_ble_eq_true rfl⟩) (fun _ h => h) ?_
    refine kb_if_eq (tgt := 49) hx hb dX4_search_41 (by decide) (fun k_2 => ?_) (fun k_2 => ?_)
    · skip
      have ha := k_2
      refine lv_aload hx hb dX4_search_49 (lv_at hl 1 rfl) ?_
      refine lv_aload hx hb dX4_search_51 (lv_at hl 0 rfl) ?_
      refine lv_iload_n hx hb dX4_search_53 rfl (lv_at hl 5 rfl) ?_
      refine kx_cr (v := nI (cntB (fun k => decide ((S.2.1 j).2.2.1 ((S.1 i).1 k) < (S.2.1 j).2.2.1 v)) (S.1 i).2.2)) (va_runV (As := [.ref (ad (24 + 5 * j)), .int (nI v)]) (rest := []) ⟨hx, hb, hml, hown, hts⟩ (m_X2_thingsAhead l dC dI ad S i j v (by omega) (by omega) (hI.1 i (by omega)) (hI.2 j (by omega)) (by omega)) (cwV 2 hts gX4_search_X2_thingsAhead rfl rfl rfl hdX2_thingsAhead_2 ⟨Nat.le_of_ble_eq_true rfl, Nat.le_of_ble_eq_true rfl⟩) (hX.preRow (by omega)) rfl rfl hl.1 rfl (lv_room (Nat.le_of_ble_eq_true rfl)) dX4_search_54 ⟨Nat.le_of_ble_eq_true rfl, Nat.le_of_ble_eq_true rfl⟩) (fun _ h => h) ?_
      exact W.iret (v := nI (cntB (fun k => decide ((S.2.1 j).2.2.1 ((S.1 i).1 k) < (S.2.1 j).2.2.1 v)) (S.1 i).2.2)) hx hb hr (fun t9 ht9 hW9 => ⟨⟨_, S, rfl, (Or.inr ⟨hs, (if_neg (of_decide_eq_false ha)).symm, rfl⟩), hX.P ht9 hW9⟩, hX.2.2.2.F ht9⟩) hX.2.2.2.2.2 dX4_search_57
    · skip
      have ha := k_2
      refine lv_bipush (v := nI 16) hx hb dX4_search_44 (by decide) ?_
      refine lv_goto (tgt := 57) hx hb dX4_search_46 (by decide) ?_
      exact W.iret (v := nI 16) hx hb hr (fun t9 ht9 hW9 => ⟨⟨_, S, rfl, (Or.inr ⟨hs, (if_pos (of_decide_eq_true ha)).symm, rfl⟩), hX.P ht9 hW9⟩, hX.2.2.2.F ht9⟩) hX.2.2.2.2.2 dX4_search_57
  · skip
    have hs := k_1
    refine lv_aload_n hx hb dX4_search_28 rfl (lv_at hl 2 rfl) ?_
    refine kx_ci (va_runV (As := []) (rest := []) ⟨hx, hb, hml, hown, hts⟩ (m_X4_refuse l dC dI ad S) (cwV 0 hts gX4_search_X4_refuse rfl rfl rfl hdX4_refuse_0 ⟨Nat.le_of_ble_eq_true rfl, Nat.le_of_ble_eq_true rfl⟩) (hX.preTop 57 6 (by decide) (by decide) rfl rfl) rfl rfl hl.1 rfl (lv_room (Nat.le_of_ble_eq_true rfl)) dX4_search_29 ⟨Nat.le_of_ble_eq_true rfl, Nat.le_of_ble_eq_true rfl⟩) hX (fun _ h => h) (fun r_ S_ H locs hw hX => ?_)
    obtain ⟨rfl, rfl⟩ := hw
    exact W.iret (v := (-9)) hx hb hr (fun t9 ht9 hW9 => ⟨⟨_, (xN S (S.2.2.1, S.2.2.2.1 + 1, S.2.2.2.2)), rfl, (Or.inl ⟨hs, rfl, rfl⟩), hX.P ht9 hW9⟩, hX.2.2.2.F ht9⟩) hX.2.2.2.2.2 dX4_search_32
set_option maxHeartbeats 4000000 in
set_option maxRecDepth 100000 in
theorem m_X4_step (l : Launch) (dC : Nat → ClassId) (dI : Nat → Nat → Nat) (ad : Nat → Nat) (S : XS) (j : Nat) (k : Nat) (z : Bool) (hj : j < 4) (hk : k ≤ 7) (hI : InvX S) : Met l yX4_step wsX4_step ({ frames := 4, cells := 0, slots := 0, locals := 91 } : Room) (va_Pc [.ref (ad 57), .int (nI j), .int (nI k), .int (bI z)] (PX dC dI ad S)) (va_Qi (fun r S' => ((S.2.1 j).2.2.2.2.1 < 5 ∧ r = nI (coarseD (S.2.1 j) k z) ∧ S' = xO S j (newO (va_up (S.2.1 j).1 (S.2.1 j).2.2.2.2.1 k) (va_up (S.2.1 j).2.1 (S.2.1 j).2.2.2.2.1 z) ((S.2.1 j).2.2.2.2.1 + 1) (S.2.1 j).2.2.1 (S.2.1 j).2.2.2.1)) ∨ (5 ≤ (S.2.1 j).2.2.2.2.1 ∧ r = -9 ∧ S' = refT S)) (PX dC dI ad) (AX ad)) 0 0 (AX ad) := by
  refine Met.ofW (cc := cX4_step) (maxL := 5) (ret := (some .int)) pl_X4 rfl ?_
  intro p e s m args below meth c s₁ B hml hv
  obtain ⟨rfl, hPX⟩ := hv
  have hx := B.exec
  have hb := B.bytes
  have hr := B.returns
  have hts := atoms_spec (ws := wsX4_step) B.pre
  have hown : s.vm.findClass RX4 = some m.cls := findClass_of_methodNamed B.named
  have hlocks := B.notSynchronized
  have hX := WX.of hPX
  have hl := lv_entry ([.ref (ad 57), .int (nI j), .int (nI k), .int (bI z)]) (n := 5) (Nat.le_of_ble_eq_true rfl)
  rw [lg_entry_eq]
  generalize (lg_sl ([.ref (ad 57), .int (nI j), .int (nI k), .int (bI z)]) ++ List.replicate (5 - (lg_sl ([.ref (ad 57), .int (nI j), .int (nI k), .int (bI z)])).length) Slot.unset).toArray = ls at hl ⊢
  have hl : lv_has ls 5 [(0, .ref (ad 57)), (1, .int (nI j)), (2, .int (nI k)), (3, .int (bI z))] := hl
  show W p l e ({ frames := 4, cells := 0, slots := 0, locals := 91 } : Room) s m ([.ref (ad 57), .int (nI j), .int (nI k), .int (bI z)]).toArray below meth c s.heap [] 0 0 (MQ below (va_Qi (fun r S' => ((S.2.1 j).2.2.2.2.1 < 5 ∧ r = nI (coarseD (S.2.1 j) k z) ∧ S' = xO S j (newO (va_up (S.2.1 j).1 (S.2.1 j).2.2.2.2.1 k) (va_up (S.2.1 j).2.1 (S.2.1 j).2.2.2.2.1 z) ((S.2.1 j).2.2.2.2.1 + 1) (S.2.1 j).2.2.1 (S.2.1 j).2.2.2.1)) ∨ (5 ≤ (S.2.1 j).2.2.2.2.1 ∧ r = -9 ∧ S' = refT S)) (PX dC dI ad) (AX ad)) ([.ref (ad 57), .int (nI j), .int (nI k), .int (bI z)]).toArray s 0 0 (AX ad)) (F0 m 0 ls [])
  have hn := (hI.2 j (by omega)).1.1
  refine lv_aload_n hx hb dX4_step_0 rfl (lv_at hl 0 rfl) ?_
  refine lv_iload_n hx hb dX4_step_1 rfl (lv_at hl 1 rfl) ?_
  refine va_csr (va_Run.run (va_runV (As := [.int (nI j)]) (rest := []) ⟨hx, hb, hml, hown, hts⟩ (m_X4_orderAt l dC dI ad S j (by omega)) (cwV 1 hts gX4_step_X4_orderAt rfl rfl rfl hdX4_orderAt_1 ⟨Nat.le_of_ble_eq_true rfl, Nat.le_of_ble_eq_true rfl⟩) (hX.preTop 57 6 (by decide) (by decide) rfl rfl) rfl rfl hl.1 rfl (lv_room (Nat.le_of_ble_eq_true rfl)) dX4_step_2 ⟨Nat.le_of_ble_eq_true rfl, Nat.le_of_ble_eq_true rfl⟩)) (fun k_ hk_ => ?_)
  rw [hk_]
  refine lv_astore (lv' := [(4, .ref (ad (24 + 5 * j))), (0, .ref (ad 57)), (1, .int (nI j)), (2, .int (nI k)), (3, .int (bI z))]) hx hb dX4_step_5 hl (by decide) rfl (fun ls hl => ?_)
  refine lv_iload_n hx hb dX4_step_7 rfl (lv_at hl 3 rfl) ?_
  refine lv_bipush (v := nI 7) hx hb dX4_step_8 (by decide) ?_
  refine va_csv (va_Run.run (va_runS (As := [.int (nI k), .int (nI 7)]) (rest := []) ⟨hx, hb, hml, hown, hts⟩ (m_X4_demandWithin l dC dI ad S k 7 (by omega) (by omega)) (va_cwS 2 hts gX4_step_X4_demandWithin rfl rfl rfl hdX4_demandWithin_2.2 ⟨Nat.le_of_ble_eq_true rfl, Nat.le_of_ble_eq_true rfl⟩) hX.preS rfl rfl hl.1 rfl (lv_room (Nat.le_of_ble_eq_true rfl)) dX4_step_10 ⟨Nat.le_of_ble_eq_true rfl, Nat.le_of_ble_eq_true rfl⟩)) (fun _ => ?_)
  refine lv_aload hx hb dX4_step_13 (lv_at hl 0 rfl) ?_
  refine kx_cr (v := nI ((S.2.1 j).2.2.2.2.1)) (va_runV (As := []) (rest := []) ⟨hx, hb, hml, hown, hts⟩ (m_X1_length l dC dI ad S j  (by omega)) (cwV 0 hts gX4_step_X1_length rfl rfl rfl hdX1_length_0 ⟨Nat.le_of_ble_eq_true rfl, Nat.le_of_ble_eq_true rfl⟩) (hX.preOrd (by omega)) rfl rfl hl.1 rfl (lv_room (Nat.le_of_ble_eq_true rfl)) dX4_step_15 ⟨Nat.le_of_ble_eq_true rfl, Nat.le_of_ble_eq_true rfl⟩) (fun _ h => h) ?_
  refine lv_iconst (v := nI 5) hx hb dX4_step_18 (by decide) ?_
  refine kn_icmp_lt (tgt := 27) hx hb (by omega) (by omega) dX4_step_19 (by decide) (fun k_1 => ?_) (fun k_1 => ?_)
  · skip
    have hc := k_1
    refine lv_aload hx hb dX4_step_27 (lv_at hl 0 rfl) ?_
    refine lv_iload_n hx hb dX4_step_29 rfl (lv_at hl 3 rfl) ?_
    refine lv_iload_n hx hb dX4_step_30 rfl (lv_at hl 4 rfl) ?_
    refine kx_cv (va_runV (As := [.int (nI k), .int (bI z)]) (rest := []) ⟨hx, hb, hml, hown, hts⟩ (m_X1_append l dC dI ad S j k z (by omega) (hI.2 j (by omega)).1 (show (S.2.1 j).2.2.2.2.1 < 10 by omega) (by omega)) (cwV 2 hts gX4_step_X1_append rfl rfl rfl hdX1_append_2 ⟨Nat.le_of_ble_eq_true rfl, Nat.le_of_ble_eq_true rfl⟩) (hX.preOrd (by omega)) rfl rfl hl.1 rfl (lv_room (Nat.le_of_ble_eq_true rfl)) dX4_step_31 ⟨Nat.le_of_ble_eq_true rfl, Nat.le_of_ble_eq_true rfl⟩) hX (fun _ h => h) (fun S_ H locs hw hX => ?_)
    subst hw
    refine lv_aload hx hb dX4_step_34 (lv_at hl 0 rfl) ?_
    refine kx_cr (v := nI (classC (codeOf (va_up ((S.2.1 j).1) ((S.2.1 j).2.2.2.2.1) k) (va_up ((S.2.1 j).2.1) ((S.2.1 j).2.2.2.2.1) z) ((S.2.1 j).2.2.2.2.1 + 1)))) (va_runV (As := []) (rest := []) ⟨hx, hb, hml, hown, hts⟩ (m_X1_classCount l dC dI ad (xO S j (va_up ((S.2.1 j).1) ((S.2.1 j).2.2.2.2.1) k, va_up ((S.2.1 j).2.1) ((S.2.1 j).2.2.2.2.1) z, ovl (codeOf (va_up ((S.2.1 j).1) ((S.2.1 j).2.2.2.2.1) k) (va_up ((S.2.1 j).2.1) ((S.2.1 j).2.2.2.2.1) z) ((S.2.1 j).2.2.2.2.1 + 1)) ((S.2.1 j).2.2.1) 16, ovl (rankC (codeOf (va_up ((S.2.1 j).1) ((S.2.1 j).2.2.2.2.1) k) (va_up ((S.2.1 j).2.1) ((S.2.1 j).2.2.2.2.1) z) ((S.2.1 j).2.2.2.2.1 + 1))) ((S.2.1 j).2.2.2.1) 16, (S.2.1 j).2.2.2.2.1 + 1, classC (codeOf (va_up ((S.2.1 j).1) ((S.2.1 j).2.2.2.2.1) k) (va_up ((S.2.1 j).2.1) ((S.2.1 j).2.2.2.2.1) z) ((S.2.1 j).2.2.2.2.1 + 1)))) j  (by omega)) (cwV 0 hts gX4_step_X1_classCount rfl rfl rfl hdX1_classCount_0 ⟨Nat.le_of_ble_eq_true rfl, Nat.le_of_ble_eq_true rfl⟩) (hX.preOrd (by omega)) rfl rfl hl.1 rfl (lv_room (Nat.le_of_ble_eq_true rfl)) dX4_step_36 ⟨Nat.le_of_ble_eq_true rfl, Nat.le_of_ble_eq_true rfl⟩) (fun _ h => by rw [h, xO_ord]) ?_
    exact W.iret (v := nI (classC (codeOf (va_up ((S.2.1 j).1) ((S.2.1 j).2.2.2.2.1) k) (va_up ((S.2.1 j).2.1) ((S.2.1 j).2.2.2.2.1) z) ((S.2.1 j).2.2.2.2.1 + 1)))) hx hb hr (fun t9 ht9 hW9 => ⟨⟨_, (xO S j (va_up ((S.2.1 j).1) ((S.2.1 j).2.2.2.2.1) k, va_up ((S.2.1 j).2.1) ((S.2.1 j).2.2.2.2.1) z, ovl (codeOf (va_up ((S.2.1 j).1) ((S.2.1 j).2.2.2.2.1) k) (va_up ((S.2.1 j).2.1) ((S.2.1 j).2.2.2.2.1) z) ((S.2.1 j).2.2.2.2.1 + 1)) ((S.2.1 j).2.2.1) 16, ovl (rankC (codeOf (va_up ((S.2.1 j).1) ((S.2.1 j).2.2.2.2.1) k) (va_up ((S.2.1 j).2.1) ((S.2.1 j).2.2.2.2.1) z) ((S.2.1 j).2.2.2.2.1 + 1))) ((S.2.1 j).2.2.2.1) 16, (S.2.1 j).2.2.2.2.1 + 1, classC (codeOf (va_up ((S.2.1 j).1) ((S.2.1 j).2.2.2.2.1) k) (va_up ((S.2.1 j).2.1) ((S.2.1 j).2.2.2.2.1) z) ((S.2.1 j).2.2.2.2.1 + 1)))), rfl, (Or.inl ⟨hc, rfl, rfl⟩), hX.P ht9 hW9⟩, hX.2.2.2.F ht9⟩) hX.2.2.2.2.2 dX4_step_39
  · skip
    have hc := k_1
    refine lv_aload_n hx hb dX4_step_22 rfl (lv_at hl 1 rfl) ?_
    refine kx_ci (va_runV (As := []) (rest := []) ⟨hx, hb, hml, hown, hts⟩ (m_X4_refuse l dC dI ad S) (cwV 0 hts gX4_step_X4_refuse rfl rfl rfl hdX4_refuse_0 ⟨Nat.le_of_ble_eq_true rfl, Nat.le_of_ble_eq_true rfl⟩) (hX.preTop 57 6 (by decide) (by decide) rfl rfl) rfl rfl hl.1 rfl (lv_room (Nat.le_of_ble_eq_true rfl)) dX4_step_23 ⟨Nat.le_of_ble_eq_true rfl, Nat.le_of_ble_eq_true rfl⟩) hX (fun _ h => h) (fun r_ S_ H locs hw hX => ?_)
    obtain ⟨rfl, rfl⟩ := hw
    exact W.iret (v := (-9)) hx hb hr (fun t9 ht9 hW9 => ⟨⟨_, (xN S (S.2.2.1, S.2.2.2.1 + 1, S.2.2.2.2)), rfl, (Or.inr ⟨hc, rfl, rfl⟩), hX.P ht9 hW9⟩, hX.2.2.2.F ht9⟩) hX.2.2.2.2.2 dX4_step_26
set_option maxHeartbeats 4000000 in
set_option maxRecDepth 100000 in
theorem m_X4_unstep (l : Launch) (dC : Nat → ClassId) (dI : Nat → Nat → Nat) (ad : Nat → Nat) (S : XS) (j : Nat) (hj : j < 4) (hI : InvX S) : Met l yX4_unstep wsX4_unstep ({ frames := 4, cells := 0, slots := 0, locals := 89 } : Room) (va_Pc [.ref (ad 57), .int (nI j)] (PX dC dI ad S)) (va_Qi (fun r S' => ((S.2.1 j).2.2.2.2.1 ≠ 0 ∧ r = nI ((S.2.1 j).1 ((S.2.1 j).2.2.2.2.1 - 1)) ∧ S' = xO S j (newO ((S.2.1 j).1) ((S.2.1 j).2.1) ((S.2.1 j).2.2.2.2.1 - 1) (S.2.1 j).2.2.1 (S.2.1 j).2.2.2.1)) ∨ ((S.2.1 j).2.2.2.2.1 = 0 ∧ r = -9 ∧ S' = refT S)) (PX dC dI ad) (AX ad)) 0 0 (AX ad) := by
  refine Met.ofW (cc := cX4_unstep) (maxL := 4) (ret := (some .int)) pl_X4 rfl ?_
  intro p e s m args below meth c s₁ B hml hv
  obtain ⟨rfl, hPX⟩ := hv
  have hx := B.exec
  have hb := B.bytes
  have hr := B.returns
  have hts := atoms_spec (ws := wsX4_unstep) B.pre
  have hown : s.vm.findClass RX4 = some m.cls := findClass_of_methodNamed B.named
  have hlocks := B.notSynchronized
  have hX := WX.of hPX
  have hl := lv_entry ([.ref (ad 57), .int (nI j)]) (n := 4) (Nat.le_of_ble_eq_true rfl)
  rw [lg_entry_eq]
  generalize (lg_sl ([.ref (ad 57), .int (nI j)]) ++ List.replicate (4 - (lg_sl ([.ref (ad 57), .int (nI j)])).length) Slot.unset).toArray = ls at hl ⊢
  have hl : lv_has ls 4 [(0, .ref (ad 57)), (1, .int (nI j))] := hl
  show W p l e ({ frames := 4, cells := 0, slots := 0, locals := 89 } : Room) s m ([.ref (ad 57), .int (nI j)]).toArray below meth c s.heap [] 0 0 (MQ below (va_Qi (fun r S' => ((S.2.1 j).2.2.2.2.1 ≠ 0 ∧ r = nI ((S.2.1 j).1 ((S.2.1 j).2.2.2.2.1 - 1)) ∧ S' = xO S j (newO ((S.2.1 j).1) ((S.2.1 j).2.1) ((S.2.1 j).2.2.2.2.1 - 1) (S.2.1 j).2.2.1 (S.2.1 j).2.2.2.1)) ∨ ((S.2.1 j).2.2.2.2.1 = 0 ∧ r = -9 ∧ S' = refT S)) (PX dC dI ad) (AX ad)) ([.ref (ad 57), .int (nI j)]).toArray s 0 0 (AX ad)) (F0 m 0 ls [])
  have hn := (hI.2 j (by omega)).1.1
  refine lv_aload_n hx hb dX4_unstep_0 rfl (lv_at hl 0 rfl) ?_
  refine lv_iload_n hx hb dX4_unstep_1 rfl (lv_at hl 1 rfl) ?_
  refine va_csr (va_Run.run (va_runV (As := [.int (nI j)]) (rest := []) ⟨hx, hb, hml, hown, hts⟩ (m_X4_orderAt l dC dI ad S j (by omega)) (cwV 1 hts gX4_unstep_X4_orderAt rfl rfl rfl hdX4_orderAt_1 ⟨Nat.le_of_ble_eq_true rfl, Nat.le_of_ble_eq_true rfl⟩) (hX.preTop 57 6 (by decide) (by decide) rfl rfl) rfl rfl hl.1 rfl (lv_room (Nat.le_of_ble_eq_true rfl)) dX4_unstep_2 ⟨Nat.le_of_ble_eq_true rfl, Nat.le_of_ble_eq_true rfl⟩)) (fun k_ hk_ => ?_)
  rw [hk_]
  refine lv_astore_n (lv' := [(2, .ref (ad (24 + 5 * j))), (0, .ref (ad 57)), (1, .int (nI j))]) hx hb dX4_unstep_5 rfl hl (by decide) rfl (fun ls hl => ?_)
  refine lv_aload_n hx hb dX4_unstep_6 rfl (lv_at hl 0 rfl) ?_
  refine kx_cr (v := nI ((S.2.1 j).2.2.2.2.1)) (va_runV (As := []) (rest := []) ⟨hx, hb, hml, hown, hts⟩ (m_X1_length l dC dI ad S j  (by omega)) (cwV 0 hts gX4_unstep_X1_length rfl rfl rfl hdX1_length_0 ⟨Nat.le_of_ble_eq_true rfl, Nat.le_of_ble_eq_true rfl⟩) (hX.preOrd (by omega)) rfl rfl hl.1 rfl (lv_room (Nat.le_of_ble_eq_true rfl)) dX4_unstep_7 ⟨Nat.le_of_ble_eq_true rfl, Nat.le_of_ble_eq_true rfl⟩) (fun _ h => h) ?_
  refine kn_if_ne (tgt := 18) hx hb (by omega) dX4_unstep_10 (by decide) (fun k_1 => ?_) (fun k_1 => ?_)
  · skip
    have hc := k_1
    refine lv_aload_n hx hb dX4_unstep_18 rfl (lv_at hl 0 rfl) ?_
    refine lv_aload_n hx hb dX4_unstep_19 rfl (lv_at hl 0 rfl) ?_
    refine kx_cr (v := nI ((S.2.1 j).2.2.2.2.1)) (va_runV (As := []) (rest := [.ref (ad (24 + 5 * j))]) ⟨hx, hb, hml, hown, hts⟩ (m_X1_length l dC dI ad S j  (by omega)) (cwV 0 hts gX4_unstep_X1_length rfl rfl rfl hdX1_length_0 ⟨Nat.le_of_ble_eq_true rfl, Nat.le_of_ble_eq_true rfl⟩) (hX.preOrd (by omega)) rfl rfl hl.1 rfl (lv_room (Nat.le_of_ble_eq_true rfl)) dX4_unstep_20 ⟨Nat.le_of_ble_eq_true rfl, Nat.le_of_ble_eq_true rfl⟩) (fun _ h => h) ?_
    refine lv_iconst (v := nI 1) hx hb dX4_unstep_23 (by decide) ?_
    refine kn_isub hx hb (by omega) dX4_unstep_24 ?_
    refine kx_cr (v := nI (((S.2.1 j).1) (((S.2.1 j).2.2.2.2.1) - 1))) (va_runV (As := [.int (nI (((S.2.1 j).2.2.2.2.1) - 1))]) (rest := []) ⟨hx, hb, hml, hown, hts⟩ (m_X1_keyOn l dC dI ad S j (((S.2.1 j).2.2.2.2.1) - 1) (by omega) (by omega)) (cwV 1 hts gX4_unstep_X1_keyOn rfl rfl rfl hdX1_keyOn_1 ⟨Nat.le_of_ble_eq_true rfl, Nat.le_of_ble_eq_true rfl⟩) (hX.preOrd (by omega)) rfl rfl hl.1 rfl (lv_room (Nat.le_of_ble_eq_true rfl)) dX4_unstep_25 ⟨Nat.le_of_ble_eq_true rfl, Nat.le_of_ble_eq_true rfl⟩) (fun _ h => h) ?_
    refine lv_istore_n (lv' := [(3, .int (nI (((S.2.1 j).1) (((S.2.1 j).2.2.2.2.1) - 1)))), (2, .ref (ad (24 + 5 * j))), (0, .ref (ad 57)), (1, .int (nI j))]) hx hb dX4_unstep_28 rfl hl (by decide) rfl (fun ls hl => ?_)
    refine lv_aload_n hx hb dX4_unstep_29 rfl (lv_at hl 1 rfl) ?_
    refine kx_cv (va_runV (As := []) (rest := []) ⟨hx, hb, hml, hown, hts⟩ (m_X1_removeLast l dC dI ad S j (by omega) (hI.2 j (by omega)).1 (by omega)) (cwV 0 hts gX4_unstep_X1_removeLast rfl rfl rfl hdX1_removeLast_0 ⟨Nat.le_of_ble_eq_true rfl, Nat.le_of_ble_eq_true rfl⟩) (hX.preOrd (by omega)) rfl rfl hl.1 rfl (lv_room (Nat.le_of_ble_eq_true rfl)) dX4_unstep_30 ⟨Nat.le_of_ble_eq_true rfl, Nat.le_of_ble_eq_true rfl⟩) hX (fun _ h => h) (fun S_ H locs hw hX => ?_)
    subst hw
    refine lv_iload_n hx hb dX4_unstep_33 rfl (lv_at hl 0 rfl) ?_
    exact W.iret (v := nI (((S.2.1 j).1) (((S.2.1 j).2.2.2.2.1) - 1))) hx hb hr (fun t9 ht9 hW9 => ⟨⟨_, (xO S j ((S.2.1 j).1, (S.2.1 j).2.1, ovl (codeOf ((S.2.1 j).1) ((S.2.1 j).2.1) ((S.2.1 j).2.2.2.2.1 - 1)) ((S.2.1 j).2.2.1) 16, ovl (rankC (codeOf ((S.2.1 j).1) ((S.2.1 j).2.1) ((S.2.1 j).2.2.2.2.1 - 1))) ((S.2.1 j).2.2.2.1) 16, (S.2.1 j).2.2.2.2.1 - 1, classC (codeOf ((S.2.1 j).1) ((S.2.1 j).2.1) ((S.2.1 j).2.2.2.2.1 - 1)))), rfl, (Or.inl ⟨hc, rfl, rfl⟩), hX.P ht9 hW9⟩, hX.2.2.2.F ht9⟩) hX.2.2.2.2.2 dX4_unstep_34
  · skip
    have hc := k_1
    refine lv_aload_n hx hb dX4_unstep_13 rfl (lv_at hl 1 rfl) ?_
    refine kx_ci (va_runV (As := []) (rest := []) ⟨hx, hb, hml, hown, hts⟩ (m_X4_refuse l dC dI ad S) (cwV 0 hts gX4_unstep_X4_refuse rfl rfl rfl hdX4_refuse_0 ⟨Nat.le_of_ble_eq_true rfl, Nat.le_of_ble_eq_true rfl⟩) (hX.preTop 57 6 (by decide) (by decide) rfl rfl) rfl rfl hl.1 rfl (lv_room (Nat.le_of_ble_eq_true rfl)) dX4_unstep_14 ⟨Nat.le_of_ble_eq_true rfl, Nat.le_of_ble_eq_true rfl⟩) hX (fun _ h => h) (fun r_ S_ H locs hw hX => ?_)
    obtain ⟨rfl, rfl⟩ := hw
    exact W.iret (v := (-9)) hx hb hr (fun t9 ht9 hW9 => ⟨⟨_, (xN S (S.2.2.1, S.2.2.2.1 + 1, S.2.2.2.2)), rfl, (Or.inr ⟨hc, rfl, rfl⟩), hX.P ht9 hW9⟩, hX.2.2.2.F ht9⟩) hX.2.2.2.2.2 dX4_unstep_17
set_option maxHeartbeats 4000000 in
set_option maxRecDepth 100000 in
theorem m_X4_wipe (l : Launch) (dC : Nat → ClassId) (dI : Nat → Nat → Nat) (ad : Nat → Nat) (S : XS) (j : Nat) (hj : j < 4) (hI : InvX S) : Met l yX4_wipe wsX4_wipe ({ frames := 4, cells := 0, slots := 0, locals := 89 } : Room) (va_Pc [.ref (ad 57), .int (nI j)] (PX dC dI ad S)) (va_Qi (fun r S' => r = nI (S.2.1 j).2.2.2.2.1 ∧ S' = xO S j (newO ((S.2.1 j).1) ((S.2.1 j).2.1) (0) (S.2.1 j).2.2.1 (S.2.1 j).2.2.2.1)) (PX dC dI ad) (AX ad)) 0 0 (AX ad) := by
  refine Met.ofW (cc := cX4_wipe) (maxL := 4) (ret := (some .int)) pl_X4 rfl ?_
  intro p e s m args below meth c s₁ B hml hv
  obtain ⟨rfl, hPX⟩ := hv
  have hx := B.exec
  have hb := B.bytes
  have hr := B.returns
  have hts := atoms_spec (ws := wsX4_wipe) B.pre
  have hown : s.vm.findClass RX4 = some m.cls := findClass_of_methodNamed B.named
  have hlocks := B.notSynchronized
  have hX := WX.of hPX
  have hl := lv_entry ([.ref (ad 57), .int (nI j)]) (n := 4) (Nat.le_of_ble_eq_true rfl)
  rw [lg_entry_eq]
  generalize (lg_sl ([.ref (ad 57), .int (nI j)]) ++ List.replicate (4 - (lg_sl ([.ref (ad 57), .int (nI j)])).length) Slot.unset).toArray = ls at hl ⊢
  have hl : lv_has ls 4 [(0, .ref (ad 57)), (1, .int (nI j))] := hl
  show W p l e ({ frames := 4, cells := 0, slots := 0, locals := 89 } : Room) s m ([.ref (ad 57), .int (nI j)]).toArray below meth c s.heap [] 0 0 (MQ below (va_Qi (fun r S' => r = nI (S.2.1 j).2.2.2.2.1 ∧ S' = xO S j (newO ((S.2.1 j).1) ((S.2.1 j).2.1) (0) (S.2.1 j).2.2.1 (S.2.1 j).2.2.2.1)) (PX dC dI ad) (AX ad)) ([.ref (ad 57), .int (nI j)]).toArray s 0 0 (AX ad)) (F0 m 0 ls [])
  have hn := (hI.2 j (by omega)).1.1
  refine lv_aload_n hx hb dX4_wipe_0 rfl (lv_at hl 0 rfl) ?_
  refine lv_iload_n hx hb dX4_wipe_1 rfl (lv_at hl 1 rfl) ?_
  refine va_csr (va_Run.run (va_runV (As := [.int (nI j)]) (rest := []) ⟨hx, hb, hml, hown, hts⟩ (m_X4_orderAt l dC dI ad S j (by omega)) (cwV 1 hts gX4_wipe_X4_orderAt rfl rfl rfl hdX4_orderAt_1 ⟨Nat.le_of_ble_eq_true rfl, Nat.le_of_ble_eq_true rfl⟩) (hX.preTop 57 6 (by decide) (by decide) rfl rfl) rfl rfl hl.1 rfl (lv_room (Nat.le_of_ble_eq_true rfl)) dX4_wipe_2 ⟨Nat.le_of_ble_eq_true rfl, Nat.le_of_ble_eq_true rfl⟩)) (fun k_ hk_ => ?_)
  rw [hk_]
  refine lv_astore_n (lv' := [(2, .ref (ad (24 + 5 * j))), (0, .ref (ad 57)), (1, .int (nI j))]) hx hb dX4_wipe_5 rfl hl (by decide) rfl (fun ls hl => ?_)
  refine lv_aload_n hx hb dX4_wipe_6 rfl (lv_at hl 0 rfl) ?_
  refine kx_cr (v := nI ((S.2.1 j).2.2.2.2.1)) (va_runV (As := []) (rest := []) ⟨hx, hb, hml, hown, hts⟩ (m_X1_length l dC dI ad S j  (by omega)) (cwV 0 hts gX4_wipe_X1_length rfl rfl rfl hdX1_length_0 ⟨Nat.le_of_ble_eq_true rfl, Nat.le_of_ble_eq_true rfl⟩) (hX.preOrd (by omega)) rfl rfl hl.1 rfl (lv_room (Nat.le_of_ble_eq_true rfl)) dX4_wipe_7 ⟨Nat.le_of_ble_eq_true rfl, Nat.le_of_ble_eq_true rfl⟩) (fun _ h => h) ?_
  refine lv_istore_n (lv' := [(3, .int (nI ((S.2.1 j).2.2.2.2.1))), (2, .ref (ad (24 + 5 * j))), (0, .ref (ad 57)), (1, .int (nI j))]) hx hb dX4_wipe_10 rfl hl (by decide) rfl (fun ls hl => ?_)
  refine lv_aload_n hx hb dX4_wipe_11 rfl (lv_at hl 1 rfl) ?_
  refine kx_cv (va_runV (As := []) (rest := []) ⟨hx, hb, hml, hown, hts⟩ (m_X1_empty l dC dI ad S j (by omega) (hI.2 j (by omega)).1) (cwV 0 hts gX4_wipe_X1_empty rfl rfl rfl hdX1_empty_0 ⟨Nat.le_of_ble_eq_true rfl, Nat.le_of_ble_eq_true rfl⟩) (hX.preOrd (by omega)) rfl rfl hl.1 rfl (lv_room (Nat.le_of_ble_eq_true rfl)) dX4_wipe_12 ⟨Nat.le_of_ble_eq_true rfl, Nat.le_of_ble_eq_true rfl⟩) hX (fun _ h => h) (fun S_ H locs hw hX => ?_)
  subst hw
  refine lv_iload_n hx hb dX4_wipe_15 rfl (lv_at hl 0 rfl) ?_
  exact W.iret (v := nI ((S.2.1 j).2.2.2.2.1)) hx hb hr (fun t9 ht9 hW9 => ⟨⟨_, (xO S j ((S.2.1 j).1, (S.2.1 j).2.1, ovl (codeOf ((S.2.1 j).1) ((S.2.1 j).2.1) 0) ((S.2.1 j).2.2.1) 16, ovl (rankC (codeOf ((S.2.1 j).1) ((S.2.1 j).2.1) 0)) ((S.2.1 j).2.2.2.1) 16, 0, classC (codeOf ((S.2.1 j).1) ((S.2.1 j).2.1) 0))), rfl, ⟨rfl, rfl⟩, hX.P ht9 hW9⟩, hX.2.2.2.F ht9⟩) hX.2.2.2.2.2 dX4_wipe_16
set_option maxHeartbeats 4000000 in
set_option maxRecDepth 100000 in
theorem m_X4_copyOrder (l : Launch) (dC : Nat → ClassId) (dI : Nat → Nat → Nat) (ad : Nat → Nat) (S : XS) (j : Nat) (j2 : Nat) (hj : j < 4) (hj2 : j2 < 4) (hI : InvX S) : Met l yX4_copyOrder wsX4_copyOrder ({ frames := 4, cells := 0, slots := 0, locals := 91 } : Room) (va_Pc [.ref (ad 57), .int (nI j), .int (nI j2)] (PX dC dI ad S)) (va_Qi (fun r S' => r = nI (S.2.1 j).2.2.2.2.1 ∧ S' = xO S j2 (newO (apn (S.2.1 j2).1 (S.2.1 j).1 0 (S.2.1 j).2.2.2.2.1) (apn (S.2.1 j2).2.1 (S.2.1 j).2.1 0 (S.2.1 j).2.2.2.2.1) (S.2.1 j).2.2.2.2.1 (S.2.1 j2).2.2.1 (S.2.1 j2).2.2.2.1)) (PX dC dI ad) (AX ad)) 0 0 (AX ad) := by
  refine Met.ofW (cc := cX4_copyOrder) (maxL := 5) (ret := (some .int)) pl_X4 rfl ?_
  intro p e s m args below meth c s₁ B hml hv
  obtain ⟨rfl, hPX⟩ := hv
  have hx := B.exec
  have hb := B.bytes
  have hr := B.returns
  have hts := atoms_spec (ws := wsX4_copyOrder) B.pre
  have hown : s.vm.findClass RX4 = some m.cls := findClass_of_methodNamed B.named
  have hlocks := B.notSynchronized
  have hX := WX.of hPX
  have hl := lv_entry ([.ref (ad 57), .int (nI j), .int (nI j2)]) (n := 5) (Nat.le_of_ble_eq_true rfl)
  rw [lg_entry_eq]
  generalize (lg_sl ([.ref (ad 57), .int (nI j), .int (nI j2)]) ++ List.replicate (5 - (lg_sl ([.ref (ad 57), .int (nI j), .int (nI j2)])).length) Slot.unset).toArray = ls at hl ⊢
  have hl : lv_has ls 5 [(0, .ref (ad 57)), (1, .int (nI j)), (2, .int (nI j2))] := hl
  show W p l e ({ frames := 4, cells := 0, slots := 0, locals := 91 } : Room) s m ([.ref (ad 57), .int (nI j), .int (nI j2)]).toArray below meth c s.heap [] 0 0 (MQ below (va_Qi (fun r S' => r = nI (S.2.1 j).2.2.2.2.1 ∧ S' = xO S j2 (newO (apn (S.2.1 j2).1 (S.2.1 j).1 0 (S.2.1 j).2.2.2.2.1) (apn (S.2.1 j2).2.1 (S.2.1 j).2.1 0 (S.2.1 j).2.2.2.2.1) (S.2.1 j).2.2.2.2.1 (S.2.1 j2).2.2.1 (S.2.1 j2).2.2.2.1)) (PX dC dI ad) (AX ad)) ([.ref (ad 57), .int (nI j), .int (nI j2)]).toArray s 0 0 (AX ad)) (F0 m 0 ls [])
  have hn := (hI.2 j (by omega)).1.1
  refine lv_aload_n hx hb dX4_copyOrder_0 rfl (lv_at hl 0 rfl) ?_
  refine lv_iload_n hx hb dX4_copyOrder_1 rfl (lv_at hl 1 rfl) ?_
  refine va_csr (va_Run.run (va_runV (As := [.int (nI j)]) (rest := []) ⟨hx, hb, hml, hown, hts⟩ (m_X4_orderAt l dC dI ad S j (by omega)) (cwV 1 hts gX4_copyOrder_X4_orderAt rfl rfl rfl hdX4_orderAt_1 ⟨Nat.le_of_ble_eq_true rfl, Nat.le_of_ble_eq_true rfl⟩) (hX.preTop 57 6 (by decide) (by decide) rfl rfl) rfl rfl hl.1 rfl (lv_room (Nat.le_of_ble_eq_true rfl)) dX4_copyOrder_2 ⟨Nat.le_of_ble_eq_true rfl, Nat.le_of_ble_eq_true rfl⟩)) (fun k_ hk_ => ?_)
  rw [hk_]
  refine lv_astore_n (lv' := [(3, .ref (ad (24 + 5 * j))), (0, .ref (ad 57)), (1, .int (nI j)), (2, .int (nI j2))]) hx hb dX4_copyOrder_5 rfl hl (by decide) rfl (fun ls hl => ?_)
  refine lv_aload_n hx hb dX4_copyOrder_6 rfl (lv_at hl 1 rfl) ?_
  refine lv_iload_n hx hb dX4_copyOrder_7 rfl (lv_at hl 3 rfl) ?_
  refine va_csr (va_Run.run (va_runV (As := [.int (nI j2)]) (rest := []) ⟨hx, hb, hml, hown, hts⟩ (m_X4_orderAt l dC dI ad S j2 (by omega)) (cwV 1 hts gX4_copyOrder_X4_orderAt rfl rfl rfl hdX4_orderAt_1 ⟨Nat.le_of_ble_eq_true rfl, Nat.le_of_ble_eq_true rfl⟩) (hX.preTop 57 6 (by decide) (by decide) rfl rfl) rfl rfl hl.1 rfl (lv_room (Nat.le_of_ble_eq_true rfl)) dX4_copyOrder_8 ⟨Nat.le_of_ble_eq_true rfl, Nat.le_of_ble_eq_true rfl⟩)) (fun k_ hk_ => ?_)
  rw [hk_]
  refine lv_astore (lv' := [(4, .ref (ad (24 + 5 * j2))), (3, .ref (ad (24 + 5 * j))), (0, .ref (ad 57)), (1, .int (nI j)), (2, .int (nI j2))]) hx hb dX4_copyOrder_11 hl (by decide) rfl (fun ls hl => ?_)
  refine lv_aload hx hb dX4_copyOrder_13 (lv_at hl 0 rfl) ?_
  refine lv_aload_n hx hb dX4_copyOrder_15 rfl (lv_at hl 1 rfl) ?_
  refine kx_cv (va_runV (As := [.ref (ad (24 + 5 * j))]) (rest := []) ⟨hx, hb, hml, hown, hts⟩ (m_X1_becomeCopyOf l dC dI ad S j2 j (by omega) (by omega) (hI.2 j2 (by omega)).1 (hI.2 j (by omega)).1) (cwV 1 hts gX4_copyOrder_X1_becomeCopyOf rfl rfl rfl hdX1_becomeCopyOf_1 ⟨Nat.le_of_ble_eq_true rfl, Nat.le_of_ble_eq_true rfl⟩) (hX.preOrd (by omega)) rfl rfl hl.1 rfl (lv_room (Nat.le_of_ble_eq_true rfl)) dX4_copyOrder_16 ⟨Nat.le_of_ble_eq_true rfl, Nat.le_of_ble_eq_true rfl⟩) hX (fun _ h => h) (fun S_ H locs hw hX => ?_)
  subst hw
  refine lv_aload hx hb dX4_copyOrder_19 (lv_at hl 0 rfl) ?_
  refine kx_cr (v := nI ((S.2.1 j).2.2.2.2.1)) (va_runV (As := []) (rest := []) ⟨hx, hb, hml, hown, hts⟩ (m_X1_length l dC dI ad (xO S j2 (apn ((S.2.1 j2).1) ((S.2.1 j).1) 0 ((S.2.1 j).2.2.2.2.1), apn ((S.2.1 j2).2.1) ((S.2.1 j).2.1) 0 ((S.2.1 j).2.2.2.2.1), ovl (codeOf (apn ((S.2.1 j2).1) ((S.2.1 j).1) 0 ((S.2.1 j).2.2.2.2.1)) (apn ((S.2.1 j2).2.1) ((S.2.1 j).2.1) 0 ((S.2.1 j).2.2.2.2.1)) ((S.2.1 j).2.2.2.2.1)) ((S.2.1 j2).2.2.1) 16, ovl (rankC (codeOf (apn ((S.2.1 j2).1) ((S.2.1 j).1) 0 ((S.2.1 j).2.2.2.2.1)) (apn ((S.2.1 j2).2.1) ((S.2.1 j).2.1) 0 ((S.2.1 j).2.2.2.2.1)) ((S.2.1 j).2.2.2.2.1))) ((S.2.1 j2).2.2.2.1) 16, (S.2.1 j).2.2.2.2.1, classC (codeOf (apn ((S.2.1 j2).1) ((S.2.1 j).1) 0 ((S.2.1 j).2.2.2.2.1)) (apn ((S.2.1 j2).2.1) ((S.2.1 j).2.1) 0 ((S.2.1 j).2.2.2.2.1)) ((S.2.1 j).2.2.2.2.1)))) j2  (by omega)) (cwV 0 hts gX4_copyOrder_X1_length rfl rfl rfl hdX1_length_0 ⟨Nat.le_of_ble_eq_true rfl, Nat.le_of_ble_eq_true rfl⟩) (hX.preOrd (by omega)) rfl rfl hl.1 rfl (lv_room (Nat.le_of_ble_eq_true rfl)) dX4_copyOrder_21 ⟨Nat.le_of_ble_eq_true rfl, Nat.le_of_ble_eq_true rfl⟩) (fun _ h => by rw [h, xO_ord]) ?_
  exact W.iret (v := nI ((S.2.1 j).2.2.2.2.1)) hx hb hr (fun t9 ht9 hW9 => ⟨⟨_, (xO S j2 (apn ((S.2.1 j2).1) ((S.2.1 j).1) 0 ((S.2.1 j).2.2.2.2.1), apn ((S.2.1 j2).2.1) ((S.2.1 j).2.1) 0 ((S.2.1 j).2.2.2.2.1), ovl (codeOf (apn ((S.2.1 j2).1) ((S.2.1 j).1) 0 ((S.2.1 j).2.2.2.2.1)) (apn ((S.2.1 j2).2.1) ((S.2.1 j).2.1) 0 ((S.2.1 j).2.2.2.2.1)) ((S.2.1 j).2.2.2.2.1)) ((S.2.1 j2).2.2.1) 16, ovl (rankC (codeOf (apn ((S.2.1 j2).1) ((S.2.1 j).1) 0 ((S.2.1 j).2.2.2.2.1)) (apn ((S.2.1 j2).2.1) ((S.2.1 j).2.1) 0 ((S.2.1 j).2.2.2.2.1)) ((S.2.1 j).2.2.2.2.1))) ((S.2.1 j2).2.2.2.1) 16, (S.2.1 j).2.2.2.2.1, classC (codeOf (apn ((S.2.1 j2).1) ((S.2.1 j).1) 0 ((S.2.1 j).2.2.2.2.1)) (apn ((S.2.1 j2).2.1) ((S.2.1 j).2.1) 0 ((S.2.1 j).2.2.2.2.1)) ((S.2.1 j).2.2.2.2.1)))), rfl, ⟨rfl, rfl⟩, hX.P ht9 hW9⟩, hX.2.2.2.F ht9⟩) hX.2.2.2.2.2 dX4_copyOrder_24
set_option maxHeartbeats 4000000 in
set_option maxRecDepth 100000 in
theorem m_X4_turn (l : Launch) (dC : Nat → ClassId) (dI : Nat → Nat → Nat) (ad : Nat → Nat) (S : XS) (j : Nat) (hj : j < 4) (hI : InvX S) : Met l yX4_turn wsX4_turn ({ frames := 4, cells := 0, slots := 0, locals := 90 } : Room) (va_Pc [.ref (ad 57), .int (nI j)] (PX dC dI ad S)) (va_Qi (fun r S' => r = nI (cntB (ovl (fun k => !(S.2.1 j).2.1 k) (S.2.1 j).2.1 (S.2.1 j).2.2.2.2.1) (S.2.1 j).2.2.2.2.1) ∧ S' = xO S j (newO ((S.2.1 j).1) (ovl (fun k => !(S.2.1 j).2.1 k) (S.2.1 j).2.1 (S.2.1 j).2.2.2.2.1) ((S.2.1 j).2.2.2.2.1) (S.2.1 j).2.2.1 (S.2.1 j).2.2.2.1)) (PX dC dI ad) (AX ad)) 0 0 (AX ad) := by
  refine Met.ofW (cc := cX4_turn) (maxL := 3) (ret := (some .int)) pl_X4 rfl ?_
  intro p e s m args below meth c s₁ B hml hv
  obtain ⟨rfl, hPX⟩ := hv
  have hx := B.exec
  have hb := B.bytes
  have hr := B.returns
  have hts := atoms_spec (ws := wsX4_turn) B.pre
  have hown : s.vm.findClass RX4 = some m.cls := findClass_of_methodNamed B.named
  have hlocks := B.notSynchronized
  have hX := WX.of hPX
  have hl := lv_entry ([.ref (ad 57), .int (nI j)]) (n := 3) (Nat.le_of_ble_eq_true rfl)
  rw [lg_entry_eq]
  generalize (lg_sl ([.ref (ad 57), .int (nI j)]) ++ List.replicate (3 - (lg_sl ([.ref (ad 57), .int (nI j)])).length) Slot.unset).toArray = ls at hl ⊢
  have hl : lv_has ls 3 [(0, .ref (ad 57)), (1, .int (nI j))] := hl
  show W p l e ({ frames := 4, cells := 0, slots := 0, locals := 90 } : Room) s m ([.ref (ad 57), .int (nI j)]).toArray below meth c s.heap [] 0 0 (MQ below (va_Qi (fun r S' => r = nI (cntB (ovl (fun k => !(S.2.1 j).2.1 k) (S.2.1 j).2.1 (S.2.1 j).2.2.2.2.1) (S.2.1 j).2.2.2.2.1) ∧ S' = xO S j (newO ((S.2.1 j).1) (ovl (fun k => !(S.2.1 j).2.1 k) (S.2.1 j).2.1 (S.2.1 j).2.2.2.2.1) ((S.2.1 j).2.2.2.2.1) (S.2.1 j).2.2.1 (S.2.1 j).2.2.2.1)) (PX dC dI ad) (AX ad)) ([.ref (ad 57), .int (nI j)]).toArray s 0 0 (AX ad)) (F0 m 0 ls [])
  have hn := (hI.2 j (by omega)).1.1
  refine lv_aload_n hx hb dX4_turn_0 rfl (lv_at hl 0 rfl) ?_
  refine lv_iload_n hx hb dX4_turn_1 rfl (lv_at hl 1 rfl) ?_
  refine va_csr (va_Run.run (va_runV (As := [.int (nI j)]) (rest := []) ⟨hx, hb, hml, hown, hts⟩ (m_X4_orderAt l dC dI ad S j (by omega)) (cwV 1 hts gX4_turn_X4_orderAt rfl rfl rfl hdX4_orderAt_1 ⟨Nat.le_of_ble_eq_true rfl, Nat.le_of_ble_eq_true rfl⟩) (hX.preTop 57 6 (by decide) (by decide) rfl rfl) rfl rfl hl.1 rfl (lv_room (Nat.le_of_ble_eq_true rfl)) dX4_turn_2 ⟨Nat.le_of_ble_eq_true rfl, Nat.le_of_ble_eq_true rfl⟩)) (fun k_ hk_ => ?_)
  rw [hk_]
  refine lv_astore_n (lv' := [(2, .ref (ad (24 + 5 * j))), (0, .ref (ad 57)), (1, .int (nI j))]) hx hb dX4_turn_5 rfl hl (by decide) rfl (fun ls hl => ?_)
  refine lv_aload_n hx hb dX4_turn_6 rfl (lv_at hl 0 rfl) ?_
  refine kx_cv (va_runV (As := []) (rest := []) ⟨hx, hb, hml, hown, hts⟩ (m_X1_reverse l dC dI ad S j (by omega) (hI.2 j (by omega)).1) (cwV 0 hts gX4_turn_X1_reverse rfl rfl rfl hdX1_reverse_0 ⟨Nat.le_of_ble_eq_true rfl, Nat.le_of_ble_eq_true rfl⟩) (hX.preOrd (by omega)) rfl rfl hl.1 rfl (lv_room (Nat.le_of_ble_eq_true rfl)) dX4_turn_7 ⟨Nat.le_of_ble_eq_true rfl, Nat.le_of_ble_eq_true rfl⟩) hX (fun _ h => h) (fun S_ H locs hw hX => ?_)
  subst hw
  refine lv_aload_n hx hb dX4_turn_10 rfl (lv_at hl 0 rfl) ?_
  refine kx_cr (v := nI (cntB (ovl (fun k => !((S.2.1 j).2.1) k) ((S.2.1 j).2.1) ((S.2.1 j).2.2.2.2.1)) ((S.2.1 j).2.2.2.2.1))) (va_runV (As := []) (rest := []) ⟨hx, hb, hml, hown, hts⟩ (m_X1_downSteps l dC dI ad (xO S j ((S.2.1 j).1, ovl (fun k => !((S.2.1 j).2.1) k) ((S.2.1 j).2.1) ((S.2.1 j).2.2.2.2.1), ovl (codeOf ((S.2.1 j).1) (ovl (fun k => !((S.2.1 j).2.1) k) ((S.2.1 j).2.1) ((S.2.1 j).2.2.2.2.1)) ((S.2.1 j).2.2.2.2.1)) ((S.2.1 j).2.2.1) 16, ovl (rankC (codeOf ((S.2.1 j).1) (ovl (fun k => !((S.2.1 j).2.1) k) ((S.2.1 j).2.1) ((S.2.1 j).2.2.2.2.1)) ((S.2.1 j).2.2.2.2.1))) ((S.2.1 j).2.2.2.1) 16, (S.2.1 j).2.2.2.2.1, classC (codeOf ((S.2.1 j).1) (ovl (fun k => !((S.2.1 j).2.1) k) ((S.2.1 j).2.1) ((S.2.1 j).2.2.2.2.1)) ((S.2.1 j).2.2.2.2.1)))) j (by omega) (by rw [xO_ord]; exact (hI.2 j (by omega)).1)) (cwV 0 hts gX4_turn_X1_downSteps rfl rfl rfl hdX1_downSteps_0 ⟨Nat.le_of_ble_eq_true rfl, Nat.le_of_ble_eq_true rfl⟩) (hX.preOrd (by omega)) rfl rfl hl.1 rfl (lv_room (Nat.le_of_ble_eq_true rfl)) dX4_turn_11 ⟨Nat.le_of_ble_eq_true rfl, Nat.le_of_ble_eq_true rfl⟩) (fun _ h => by rw [h, xO_ord]) ?_
  exact W.iret (v := nI (cntB (ovl (fun k => !((S.2.1 j).2.1) k) ((S.2.1 j).2.1) ((S.2.1 j).2.2.2.2.1)) ((S.2.1 j).2.2.2.2.1))) hx hb hr (fun t9 ht9 hW9 => ⟨⟨_, (xO S j ((S.2.1 j).1, ovl (fun k => !((S.2.1 j).2.1) k) ((S.2.1 j).2.1) ((S.2.1 j).2.2.2.2.1), ovl (codeOf ((S.2.1 j).1) (ovl (fun k => !((S.2.1 j).2.1) k) ((S.2.1 j).2.1) ((S.2.1 j).2.2.2.2.1)) ((S.2.1 j).2.2.2.2.1)) ((S.2.1 j).2.2.1) 16, ovl (rankC (codeOf ((S.2.1 j).1) (ovl (fun k => !((S.2.1 j).2.1) k) ((S.2.1 j).2.1) ((S.2.1 j).2.2.2.2.1)) ((S.2.1 j).2.2.2.2.1))) ((S.2.1 j).2.2.2.1) 16, (S.2.1 j).2.2.2.2.1, classC (codeOf ((S.2.1 j).1) (ovl (fun k => !((S.2.1 j).2.1) k) ((S.2.1 j).2.1) ((S.2.1 j).2.2.2.2.1)) ((S.2.1 j).2.2.2.2.1)))), rfl, ⟨rfl, rfl⟩, hX.P ht9 hW9⟩, hX.2.2.2.F ht9⟩) hX.2.2.2.2.2 dX4_turn_14
set_option maxHeartbeats 4000000 in
set_option maxRecDepth 100000 in
theorem m_X4_compare (l : Launch) (dC : Nat → ClassId) (dI : Nat → Nat → Nat) (ad : Nat → Nat) (S : XS) (j : Nat) (v : Nat) (v2 : Nat) (hj : j < 4) (hv : v < 16) (hv2 : v2 < 16) (hI : InvX S) : Met l yX4_compare wsX4_compare ({ frames := 2, cells := 0, slots := 0, locals := 41 } : Room) (va_Pc [.ref (ad 57), .int (nI j), .int (nI v), .int (nI v2)] (PX dC dI ad S)) (vp_Si (fun r => r = cmpI ((S.2.1 j).2.2.1 v) ((S.2.1 j).2.2.1 v2))) 0 0 (fun _ => False) := by
  refine Met.ofW (cc := cX4_compare) (maxL := 5) (ret := (some .int)) pl_X4 rfl ?_
  intro p e s m args below meth c s₁ B hml hv
  obtain ⟨rfl, hPX⟩ := hv
  have hx := B.exec
  have hb := B.bytes
  have hr := B.returns
  have hts := atoms_spec (ws := wsX4_compare) B.pre
  have hown : s.vm.findClass RX4 = some m.cls := findClass_of_methodNamed B.named
  have hlocks := B.notSynchronized
  have hX := WX.of hPX
  have hl := lv_entry ([.ref (ad 57), .int (nI j), .int (nI v), .int (nI v2)]) (n := 5) (Nat.le_of_ble_eq_true rfl)
  rw [lg_entry_eq]
  generalize (lg_sl ([.ref (ad 57), .int (nI j), .int (nI v), .int (nI v2)]) ++ List.replicate (5 - (lg_sl ([.ref (ad 57), .int (nI j), .int (nI v), .int (nI v2)])).length) Slot.unset).toArray = ls at hl ⊢
  have hl : lv_has ls 5 [(0, .ref (ad 57)), (1, .int (nI j)), (2, .int (nI v)), (3, .int (nI v2))] := hl
  show W p l e ({ frames := 2, cells := 0, slots := 0, locals := 41 } : Room) s m ([.ref (ad 57), .int (nI j), .int (nI v), .int (nI v2)]).toArray below meth c s.heap [] 0 0 (MQ below (vp_Si (fun r => r = cmpI ((S.2.1 j).2.2.1 v) ((S.2.1 j).2.2.1 v2))) ([.ref (ad 57), .int (nI j), .int (nI v), .int (nI v2)]).toArray s 0 0 (fun _ => False)) (F0 m 0 ls [])
  have hn := (hI.2 j (by omega)).1.1
  refine lv_aload_n hx hb dX4_compare_0 rfl (lv_at hl 0 rfl) ?_
  refine lv_iload_n hx hb dX4_compare_1 rfl (lv_at hl 1 rfl) ?_
  refine va_csr (va_Run.run (va_runV (As := [.int (nI j)]) (rest := []) ⟨hx, hb, hml, hown, hts⟩ (m_X4_orderAt l dC dI ad S j (by omega)) (cwV 1 hts gX4_compare_X4_orderAt rfl rfl rfl hdX4_orderAt_1 ⟨Nat.le_of_ble_eq_true rfl, Nat.le_of_ble_eq_true rfl⟩) (hX.preTop 57 6 (by decide) (by decide) rfl rfl) rfl rfl hl.1 rfl (lv_room (Nat.le_of_ble_eq_true rfl)) dX4_compare_2 ⟨Nat.le_of_ble_eq_true rfl, Nat.le_of_ble_eq_true rfl⟩)) (fun k_ hk_ => ?_)
  rw [hk_]
  refine lv_astore (lv' := [(4, .ref (ad (24 + 5 * j))), (0, .ref (ad 57)), (1, .int (nI j)), (2, .int (nI v)), (3, .int (nI v2))]) hx hb dX4_compare_5 hl (by decide) rfl (fun ls hl => ?_)
  refine lv_iload_n hx hb dX4_compare_7 rfl (lv_at hl 3 rfl) ?_
  refine va_csv (va_Run.run (va_runS (As := [.int (nI v)]) (rest := []) ⟨hx, hb, hml, hown, hts⟩ (m_X4_demandValue l dC dI ad S v (by omega)) (va_cwS 1 hts gX4_compare_X4_demandValue rfl rfl rfl hdX4_demandValue_1.2 ⟨Nat.le_of_ble_eq_true rfl, Nat.le_of_ble_eq_true rfl⟩) hX.preS rfl rfl hl.1 rfl (lv_room (Nat.le_of_ble_eq_true rfl)) dX4_compare_8 ⟨Nat.le_of_ble_eq_true rfl, Nat.le_of_ble_eq_true rfl⟩)) (fun _ => ?_)
  refine lv_iload_n hx hb dX4_compare_11 rfl (lv_at hl 4 rfl) ?_
  refine va_csv (va_Run.run (va_runS (As := [.int (nI v2)]) (rest := []) ⟨hx, hb, hml, hown, hts⟩ (m_X4_demandValue l dC dI ad S v2 (by omega)) (va_cwS 1 hts gX4_compare_X4_demandValue rfl rfl rfl hdX4_demandValue_1.2 ⟨Nat.le_of_ble_eq_true rfl, Nat.le_of_ble_eq_true rfl⟩) hX.preS rfl rfl hl.1 rfl (lv_room (Nat.le_of_ble_eq_true rfl)) dX4_compare_12 ⟨Nat.le_of_ble_eq_true rfl, Nat.le_of_ble_eq_true rfl⟩)) (fun _ => ?_)
  refine lv_aload hx hb dX4_compare_15 (lv_at hl 0 rfl) ?_
  refine lv_iload_n hx hb dX4_compare_17 rfl (lv_at hl 3 rfl) ?_
  refine lv_iload_n hx hb dX4_compare_18 rfl (lv_at hl 4 rfl) ?_
  refine kx_cr (v := cmpI ((S.2.1 j).2.2.1 v) ((S.2.1 j).2.2.1 v2)) (va_runV (As := [.int (nI v), .int (nI v2)]) (rest := []) ⟨hx, hb, hml, hown, hts⟩ (m_X1_compared l dC dI ad S j v v2 (by omega) (hI.2 j (by omega)) (by omega) (by omega)) (cwV 2 hts gX4_compare_X1_compared rfl rfl rfl hdX1_compared_2 ⟨Nat.le_of_ble_eq_true rfl, Nat.le_of_ble_eq_true rfl⟩) (hX.preOrd (by omega)) rfl rfl hl.1 rfl (lv_room (Nat.le_of_ble_eq_true rfl)) dX4_compare_19 ⟨Nat.le_of_ble_eq_true rfl, Nat.le_of_ble_eq_true rfl⟩) (fun _ h => h) ?_
  exact W.iret (v := cmpI ((S.2.1 j).2.2.1 v) ((S.2.1 j).2.2.1 v2)) hx hb hr (fun t9 ht9 hW9 => ⟨_, rfl, rfl, ht9⟩) (fun _ h => nomatch h) dX4_compare_22
set_option maxHeartbeats 4000000 in
set_option maxRecDepth 100000 in
theorem m_X4_both (l : Launch) (dC : Nat → ClassId) (dI : Nat → Nat → Nat) (ad : Nat → Nat) (S : XS) (j : Nat) (j2 : Nat) (v : Nat) (v2 : Nat) (hj : j < 4) (hj2 : j2 < 4) (hv : v < 16) (hv2 : v2 < 16) (hI : InvX S) : Met l yX4_both wsX4_both ({ frames := 2, cells := 0, slots := 0, locals := 51 } : Room) (va_Pc [.ref (ad 57), .int (nI j), .int (nI j2), .int (nI v), .int (nI v2)] (PX dC dI ad S)) (vp_Si (fun r => r = bothI ((S.2.1 j).2.2.1 v) ((S.2.1 j).2.2.1 v2) ((S.2.1 j2).2.2.1 v) ((S.2.1 j2).2.2.1 v2))) 0 0 (fun _ => False) := by
  refine Met.ofW (cc := cX4_both) (maxL := 7) (ret := (some .int)) pl_X4 rfl ?_
  intro p e s m args below meth c s₁ B hml hv
  obtain ⟨rfl, hPX⟩ := hv
  have hx := B.exec
  have hb := B.bytes
  have hr := B.returns
  have hts := atoms_spec (ws := wsX4_both) B.pre
  have hown : s.vm.findClass RX4 = some m.cls := findClass_of_methodNamed B.named
  have hlocks := B.notSynchronized
  have hX := WX.of hPX
  have hl := lv_entry ([.ref (ad 57), .int (nI j), .int (nI j2), .int (nI v), .int (nI v2)]) (n := 7) (Nat.le_of_ble_eq_true rfl)
  rw [lg_entry_eq]
  generalize (lg_sl ([.ref (ad 57), .int (nI j), .int (nI j2), .int (nI v), .int (nI v2)]) ++ List.replicate (7 - (lg_sl ([.ref (ad 57), .int (nI j), .int (nI j2), .int (nI v), .int (nI v2)])).length) Slot.unset).toArray = ls at hl ⊢
  have hl : lv_has ls 7 [(0, .ref (ad 57)), (1, .int (nI j)), (2, .int (nI j2)), (3, .int (nI v)), (4, .int (nI v2))] := hl
  show W p l e ({ frames := 2, cells := 0, slots := 0, locals := 51 } : Room) s m ([.ref (ad 57), .int (nI j), .int (nI j2), .int (nI v), .int (nI v2)]).toArray below meth c s.heap [] 0 0 (MQ below (vp_Si (fun r => r = bothI ((S.2.1 j).2.2.1 v) ((S.2.1 j).2.2.1 v2) ((S.2.1 j2).2.2.1 v) ((S.2.1 j2).2.2.1 v2))) ([.ref (ad 57), .int (nI j), .int (nI j2), .int (nI v), .int (nI v2)]).toArray s 0 0 (fun _ => False)) (F0 m 0 ls [])
  have hn := (hI.2 j (by omega)).1.1
  refine lv_aload_n hx hb dX4_both_0 rfl (lv_at hl 0 rfl) ?_
  refine lv_iload_n hx hb dX4_both_1 rfl (lv_at hl 1 rfl) ?_
  refine va_csr (va_Run.run (va_runV (As := [.int (nI j)]) (rest := []) ⟨hx, hb, hml, hown, hts⟩ (m_X4_orderAt l dC dI ad S j (by omega)) (cwV 1 hts gX4_both_X4_orderAt rfl rfl rfl hdX4_orderAt_1 ⟨Nat.le_of_ble_eq_true rfl, Nat.le_of_ble_eq_true rfl⟩) (hX.preTop 57 6 (by decide) (by decide) rfl rfl) rfl rfl hl.1 rfl (lv_room (Nat.le_of_ble_eq_true rfl)) dX4_both_2 ⟨Nat.le_of_ble_eq_true rfl, Nat.le_of_ble_eq_true rfl⟩)) (fun k_ hk_ => ?_)
  rw [hk_]
  refine lv_astore (lv' := [(5, .ref (ad (24 + 5 * j))), (0, .ref (ad 57)), (1, .int (nI j)), (2, .int (nI j2)), (3, .int (nI v)), (4, .int (nI v2))]) hx hb dX4_both_5 hl (by decide) rfl (fun ls hl => ?_)
  refine lv_aload_n hx hb dX4_both_7 rfl (lv_at hl 1 rfl) ?_
  refine lv_iload_n hx hb dX4_both_8 rfl (lv_at hl 3 rfl) ?_
  refine va_csr (va_Run.run (va_runV (As := [.int (nI j2)]) (rest := []) ⟨hx, hb, hml, hown, hts⟩ (m_X4_orderAt l dC dI ad S j2 (by omega)) (cwV 1 hts gX4_both_X4_orderAt rfl rfl rfl hdX4_orderAt_1 ⟨Nat.le_of_ble_eq_true rfl, Nat.le_of_ble_eq_true rfl⟩) (hX.preTop 57 6 (by decide) (by decide) rfl rfl) rfl rfl hl.1 rfl (lv_room (Nat.le_of_ble_eq_true rfl)) dX4_both_9 ⟨Nat.le_of_ble_eq_true rfl, Nat.le_of_ble_eq_true rfl⟩)) (fun k_ hk_ => ?_)
  rw [hk_]
  refine lv_astore (lv' := [(6, .ref (ad (24 + 5 * j2))), (5, .ref (ad (24 + 5 * j))), (0, .ref (ad 57)), (1, .int (nI j)), (2, .int (nI j2)), (3, .int (nI v)), (4, .int (nI v2))]) hx hb dX4_both_12 hl (by decide) rfl (fun ls hl => ?_)
  refine lv_iload_n hx hb dX4_both_14 rfl (lv_at hl 5 rfl) ?_
  refine va_csv (va_Run.run (va_runS (As := [.int (nI v)]) (rest := []) ⟨hx, hb, hml, hown, hts⟩ (m_X4_demandValue l dC dI ad S v (by omega)) (va_cwS 1 hts gX4_both_X4_demandValue rfl rfl rfl hdX4_demandValue_1.2 ⟨Nat.le_of_ble_eq_true rfl, Nat.le_of_ble_eq_true rfl⟩) hX.preS rfl rfl hl.1 rfl (lv_room (Nat.le_of_ble_eq_true rfl)) dX4_both_15 ⟨Nat.le_of_ble_eq_true rfl, Nat.le_of_ble_eq_true rfl⟩)) (fun _ => ?_)
  refine lv_iload hx hb dX4_both_18 (lv_at hl 6 rfl) ?_
  refine va_csv (va_Run.run (va_runS (As := [.int (nI v2)]) (rest := []) ⟨hx, hb, hml, hown, hts⟩ (m_X4_demandValue l dC dI ad S v2 (by omega)) (va_cwS 1 hts gX4_both_X4_demandValue rfl rfl rfl hdX4_demandValue_1.2 ⟨Nat.le_of_ble_eq_true rfl, Nat.le_of_ble_eq_true rfl⟩) hX.preS rfl rfl hl.1 rfl (lv_room (Nat.le_of_ble_eq_true rfl)) dX4_both_20 ⟨Nat.le_of_ble_eq_true rfl, Nat.le_of_ble_eq_true rfl⟩)) (fun _ => ?_)
  refine lv_aload hx hb dX4_both_23 (lv_at hl 1 rfl) ?_
  refine lv_aload hx hb dX4_both_25 (lv_at hl 0 rfl) ?_
  refine lv_iload_n hx hb dX4_both_27 rfl (lv_at hl 5 rfl) ?_
  refine lv_iload hx hb dX4_both_28 (lv_at hl 6 rfl) ?_
  refine kx_cr (v := (bothI ((S.2.1 j).2.2.1 v) ((S.2.1 j).2.2.1 v2) ((S.2.1 j2).2.2.1 v) ((S.2.1 j2).2.2.1 v2))) (va_runS (As := [.ref (ad (24 + 5 * j)), .ref (ad (24 + 5 * j2)), .int (nI v), .int (nI v2)]) (rest := []) ⟨hx, hb, hml, hown, hts⟩ (m_X4_comparedByBoth l dC dI ad S j j2 v v2 (by omega) (by omega) (hI.2 j (by omega)) (hI.2 j2 (by omega)) (by omega) (by omega)) (va_cwS 4 hts gX4_both_X4_comparedByBoth rfl rfl rfl hdX4_comparedByBoth_4.2 ⟨Nat.le_of_ble_eq_true rfl, Nat.le_of_ble_eq_true rfl⟩) hX.preS rfl rfl hl.1 rfl (lv_room (Nat.le_of_ble_eq_true rfl)) dX4_both_30 ⟨Nat.le_of_ble_eq_true rfl, Nat.le_of_ble_eq_true rfl⟩) (fun _ h => h) ?_
  exact W.iret (v := (bothI ((S.2.1 j).2.2.1 v) ((S.2.1 j).2.2.1 v2) ((S.2.1 j2).2.2.1 v) ((S.2.1 j2).2.2.1 v2))) hx hb hr (fun t9 ht9 hW9 => ⟨_, rfl, rfl, ht9⟩) (fun _ h => nomatch h) dX4_both_33
set_option maxHeartbeats 4000000 in
set_option maxRecDepth 100000 in
theorem m_X4_refines (l : Launch) (dC : Nat → ClassId) (dI : Nat → Nat → Nat) (ad : Nat → Nat) (S : XS) (j : Nat) (j2 : Nat) (hj : j < 4) (hj2 : j2 < 4) (hI : InvX S) : Met l yX4_refines wsX4_refines ({ frames := 2, cells := 0, slots := 0, locals := 49 } : Room) (va_Pc [.ref (ad 57), .int (nI j), .int (nI j2)] (PX dC dI ad S)) (vp_Si (fun r => r = bI (finerB (S.2.1 j).2.2.1 (S.2.1 j2).2.2.1))) 0 0 (fun _ => False) := by
  refine Met.ofW (cc := cX4_refines) (maxL := 4) (ret := (some .boolean)) pl_X4 rfl ?_
  intro p e s m args below meth c s₁ B hml hv
  obtain ⟨rfl, hPX⟩ := hv
  have hx := B.exec
  have hb := B.bytes
  have hr := B.returns
  have hts := atoms_spec (ws := wsX4_refines) B.pre
  have hown : s.vm.findClass RX4 = some m.cls := findClass_of_methodNamed B.named
  have hlocks := B.notSynchronized
  have hX := WX.of hPX
  have hl := lv_entry ([.ref (ad 57), .int (nI j), .int (nI j2)]) (n := 4) (Nat.le_of_ble_eq_true rfl)
  rw [lg_entry_eq]
  generalize (lg_sl ([.ref (ad 57), .int (nI j), .int (nI j2)]) ++ List.replicate (4 - (lg_sl ([.ref (ad 57), .int (nI j), .int (nI j2)])).length) Slot.unset).toArray = ls at hl ⊢
  have hl : lv_has ls 4 [(0, .ref (ad 57)), (1, .int (nI j)), (2, .int (nI j2))] := hl
  show W p l e ({ frames := 2, cells := 0, slots := 0, locals := 49 } : Room) s m ([.ref (ad 57), .int (nI j), .int (nI j2)]).toArray below meth c s.heap [] 0 0 (MQ below (vp_Si (fun r => r = bI (finerB (S.2.1 j).2.2.1 (S.2.1 j2).2.2.1))) ([.ref (ad 57), .int (nI j), .int (nI j2)]).toArray s 0 0 (fun _ => False)) (F0 m 0 ls [])
  have hn := (hI.2 j (by omega)).1.1
  refine lv_aload_n hx hb dX4_refines_0 rfl (lv_at hl 0 rfl) ?_
  refine lv_iload_n hx hb dX4_refines_1 rfl (lv_at hl 1 rfl) ?_
  refine va_csr (va_Run.run (va_runV (As := [.int (nI j)]) (rest := []) ⟨hx, hb, hml, hown, hts⟩ (m_X4_orderAt l dC dI ad S j (by omega)) (cwV 1 hts gX4_refines_X4_orderAt rfl rfl rfl hdX4_orderAt_1 ⟨Nat.le_of_ble_eq_true rfl, Nat.le_of_ble_eq_true rfl⟩) (hX.preTop 57 6 (by decide) (by decide) rfl rfl) rfl rfl hl.1 rfl (lv_room (Nat.le_of_ble_eq_true rfl)) dX4_refines_2 ⟨Nat.le_of_ble_eq_true rfl, Nat.le_of_ble_eq_true rfl⟩)) (fun k_ hk_ => ?_)
  rw [hk_]
  refine lv_astore_n (lv' := [(3, .ref (ad (24 + 5 * j))), (0, .ref (ad 57)), (1, .int (nI j)), (2, .int (nI j2))]) hx hb dX4_refines_5 rfl hl (by decide) rfl (fun ls hl => ?_)
  refine lv_aload_n hx hb dX4_refines_6 rfl (lv_at hl 0 rfl) ?_
  refine lv_aload_n hx hb dX4_refines_7 rfl (lv_at hl 1 rfl) ?_
  refine lv_iload_n hx hb dX4_refines_8 rfl (lv_at hl 3 rfl) ?_
  refine va_csr (va_Run.run (va_runV (As := [.int (nI j2)]) (rest := [.ref (ad (24 + 5 * j))]) ⟨hx, hb, hml, hown, hts⟩ (m_X4_orderAt l dC dI ad S j2 (by omega)) (cwV 1 hts gX4_refines_X4_orderAt rfl rfl rfl hdX4_orderAt_1 ⟨Nat.le_of_ble_eq_true rfl, Nat.le_of_ble_eq_true rfl⟩) (hX.preTop 57 6 (by decide) (by decide) rfl rfl) rfl rfl hl.1 rfl (lv_room (Nat.le_of_ble_eq_true rfl)) dX4_refines_9 ⟨Nat.le_of_ble_eq_true rfl, Nat.le_of_ble_eq_true rfl⟩)) (fun k_ hk_ => ?_)
  rw [hk_]
  refine kx_cr (v := bI (finerB (S.2.1 j).2.2.1 (S.2.1 j2).2.2.1)) (va_runV (As := [.ref (ad (24 + 5 * j2))]) (rest := []) ⟨hx, hb, hml, hown, hts⟩ (m_X1_isFinerThan l dC dI ad S j j2 (by omega) (by omega) (hI.2 j (by omega)) (hI.2 j2 (by omega))) (cwV 1 hts gX4_refines_X1_isFinerThan rfl rfl rfl hdX1_isFinerThan_1 ⟨Nat.le_of_ble_eq_true rfl, Nat.le_of_ble_eq_true rfl⟩) (hX.preOrd (by omega)) rfl rfl hl.1 rfl (lv_room (Nat.le_of_ble_eq_true rfl)) dX4_refines_12 ⟨Nat.le_of_ble_eq_true rfl, Nat.le_of_ble_eq_true rfl⟩) (fun _ h => h) ?_
  exact W.zret (v := bI (finerB (S.2.1 j).2.2.1 (S.2.1 j2).2.2.1)) hx hb hr (bI_narrow _) (fun t9 ht9 hW9 => ⟨_, rfl, rfl, ht9⟩) (fun _ h => nomatch h) dX4_refines_15
set_option maxHeartbeats 4000000 in
set_option maxRecDepth 100000 in
theorem m_X4_areSame (l : Launch) (dC : Nat → ClassId) (dI : Nat → Nat → Nat) (ad : Nat → Nat) (S : XS) (j : Nat) (j2 : Nat) (hj : j < 4) (hj2 : j2 < 4) (hI : InvX S) : Met l yX4_areSame wsX4_areSame ({ frames := 2, cells := 0, slots := 0, locals := 49 } : Room) (va_Pc [.ref (ad 57), .int (nI j), .int (nI j2)] (PX dC dI ad S)) (vp_Si (fun r => r = bI (likeB (S.2.1 j).2.2.1 (S.2.1 j2).2.2.1))) 0 0 (fun _ => False) := by
  refine Met.ofW (cc := cX4_areSame) (maxL := 4) (ret := (some .boolean)) pl_X4 rfl ?_
  intro p e s m args below meth c s₁ B hml hv
  obtain ⟨rfl, hPX⟩ := hv
  have hx := B.exec
  have hb := B.bytes
  have hr := B.returns
  have hts := atoms_spec (ws := wsX4_areSame) B.pre
  have hown : s.vm.findClass RX4 = some m.cls := findClass_of_methodNamed B.named
  have hlocks := B.notSynchronized
  have hX := WX.of hPX
  have hl := lv_entry ([.ref (ad 57), .int (nI j), .int (nI j2)]) (n := 4) (Nat.le_of_ble_eq_true rfl)
  rw [lg_entry_eq]
  generalize (lg_sl ([.ref (ad 57), .int (nI j), .int (nI j2)]) ++ List.replicate (4 - (lg_sl ([.ref (ad 57), .int (nI j), .int (nI j2)])).length) Slot.unset).toArray = ls at hl ⊢
  have hl : lv_has ls 4 [(0, .ref (ad 57)), (1, .int (nI j)), (2, .int (nI j2))] := hl
  show W p l e ({ frames := 2, cells := 0, slots := 0, locals := 49 } : Room) s m ([.ref (ad 57), .int (nI j), .int (nI j2)]).toArray below meth c s.heap [] 0 0 (MQ below (vp_Si (fun r => r = bI (likeB (S.2.1 j).2.2.1 (S.2.1 j2).2.2.1))) ([.ref (ad 57), .int (nI j), .int (nI j2)]).toArray s 0 0 (fun _ => False)) (F0 m 0 ls [])
  have hn := (hI.2 j (by omega)).1.1
  refine lv_aload_n hx hb dX4_areSame_0 rfl (lv_at hl 0 rfl) ?_
  refine lv_iload_n hx hb dX4_areSame_1 rfl (lv_at hl 1 rfl) ?_
  refine va_csr (va_Run.run (va_runV (As := [.int (nI j)]) (rest := []) ⟨hx, hb, hml, hown, hts⟩ (m_X4_orderAt l dC dI ad S j (by omega)) (cwV 1 hts gX4_areSame_X4_orderAt rfl rfl rfl hdX4_orderAt_1 ⟨Nat.le_of_ble_eq_true rfl, Nat.le_of_ble_eq_true rfl⟩) (hX.preTop 57 6 (by decide) (by decide) rfl rfl) rfl rfl hl.1 rfl (lv_room (Nat.le_of_ble_eq_true rfl)) dX4_areSame_2 ⟨Nat.le_of_ble_eq_true rfl, Nat.le_of_ble_eq_true rfl⟩)) (fun k_ hk_ => ?_)
  rw [hk_]
  refine lv_astore_n (lv' := [(3, .ref (ad (24 + 5 * j))), (0, .ref (ad 57)), (1, .int (nI j)), (2, .int (nI j2))]) hx hb dX4_areSame_5 rfl hl (by decide) rfl (fun ls hl => ?_)
  refine lv_aload_n hx hb dX4_areSame_6 rfl (lv_at hl 0 rfl) ?_
  refine lv_aload_n hx hb dX4_areSame_7 rfl (lv_at hl 1 rfl) ?_
  refine lv_iload_n hx hb dX4_areSame_8 rfl (lv_at hl 3 rfl) ?_
  refine va_csr (va_Run.run (va_runV (As := [.int (nI j2)]) (rest := [.ref (ad (24 + 5 * j))]) ⟨hx, hb, hml, hown, hts⟩ (m_X4_orderAt l dC dI ad S j2 (by omega)) (cwV 1 hts gX4_areSame_X4_orderAt rfl rfl rfl hdX4_orderAt_1 ⟨Nat.le_of_ble_eq_true rfl, Nat.le_of_ble_eq_true rfl⟩) (hX.preTop 57 6 (by decide) (by decide) rfl rfl) rfl rfl hl.1 rfl (lv_room (Nat.le_of_ble_eq_true rfl)) dX4_areSame_9 ⟨Nat.le_of_ble_eq_true rfl, Nat.le_of_ble_eq_true rfl⟩)) (fun k_ hk_ => ?_)
  rw [hk_]
  refine kx_cr (v := bI (likeB (S.2.1 j).2.2.1 (S.2.1 j2).2.2.1)) (va_runV (As := [.ref (ad (24 + 5 * j2))]) (rest := []) ⟨hx, hb, hml, hown, hts⟩ (m_X1_comparesLike l dC dI ad S j j2 (by omega) (by omega) (hI.2 j (by omega)) (hI.2 j2 (by omega))) (cwV 1 hts gX4_areSame_X1_comparesLike rfl rfl rfl hdX1_comparesLike_1 ⟨Nat.le_of_ble_eq_true rfl, Nat.le_of_ble_eq_true rfl⟩) (hX.preOrd (by omega)) rfl rfl hl.1 rfl (lv_room (Nat.le_of_ble_eq_true rfl)) dX4_areSame_12 ⟨Nat.le_of_ble_eq_true rfl, Nat.le_of_ble_eq_true rfl⟩) (fun _ h => h) ?_
  exact W.zret (v := bI (likeB (S.2.1 j).2.2.1 (S.2.1 j2).2.2.1)) hx hb hr (bI_narrow _) (fun t9 ht9 hW9 => ⟨_, rfl, rfl, ht9⟩) (fun _ h => nomatch h) dX4_areSame_15
set_option maxHeartbeats 4000000 in
set_option maxRecDepth 100000 in
theorem m_X4_apart (l : Launch) (dC : Nat → ClassId) (dI : Nat → Nat → Nat) (ad : Nat → Nat) (S : XS) (j : Nat) (j2 : Nat) (hj : j < 4) (hj2 : j2 < 4) (hI : InvX S) : Met l yX4_apart wsX4_apart ({ frames := 3, cells := 0, slots := 0, locals := 75 } : Room) (va_Pc [.ref (ad 57), .int (nI j), .int (nI j2)] (PX dC dI ad S)) (vp_Si (fun r => r = nI (apartN (S.2.1 j).2.2.1 (S.2.1 j2).2.2.1))) 0 0 (fun _ => False) := by
  refine Met.ofW (cc := cX4_apart) (maxL := 4) (ret := (some .int)) pl_X4 rfl ?_
  intro p e s m args below meth c s₁ B hml hv
  obtain ⟨rfl, hPX⟩ := hv
  have hx := B.exec
  have hb := B.bytes
  have hr := B.returns
  have hts := atoms_spec (ws := wsX4_apart) B.pre
  have hown : s.vm.findClass RX4 = some m.cls := findClass_of_methodNamed B.named
  have hlocks := B.notSynchronized
  have hX := WX.of hPX
  have hl := lv_entry ([.ref (ad 57), .int (nI j), .int (nI j2)]) (n := 4) (Nat.le_of_ble_eq_true rfl)
  rw [lg_entry_eq]
  generalize (lg_sl ([.ref (ad 57), .int (nI j), .int (nI j2)]) ++ List.replicate (4 - (lg_sl ([.ref (ad 57), .int (nI j), .int (nI j2)])).length) Slot.unset).toArray = ls at hl ⊢
  have hl : lv_has ls 4 [(0, .ref (ad 57)), (1, .int (nI j)), (2, .int (nI j2))] := hl
  show W p l e ({ frames := 3, cells := 0, slots := 0, locals := 75 } : Room) s m ([.ref (ad 57), .int (nI j), .int (nI j2)]).toArray below meth c s.heap [] 0 0 (MQ below (vp_Si (fun r => r = nI (apartN (S.2.1 j).2.2.1 (S.2.1 j2).2.2.1))) ([.ref (ad 57), .int (nI j), .int (nI j2)]).toArray s 0 0 (fun _ => False)) (F0 m 0 ls [])
  have hn := (hI.2 j (by omega)).1.1
  refine lv_aload_n hx hb dX4_apart_0 rfl (lv_at hl 0 rfl) ?_
  refine lv_iload_n hx hb dX4_apart_1 rfl (lv_at hl 1 rfl) ?_
  refine va_csr (va_Run.run (va_runV (As := [.int (nI j)]) (rest := []) ⟨hx, hb, hml, hown, hts⟩ (m_X4_orderAt l dC dI ad S j (by omega)) (cwV 1 hts gX4_apart_X4_orderAt rfl rfl rfl hdX4_orderAt_1 ⟨Nat.le_of_ble_eq_true rfl, Nat.le_of_ble_eq_true rfl⟩) (hX.preTop 57 6 (by decide) (by decide) rfl rfl) rfl rfl hl.1 rfl (lv_room (Nat.le_of_ble_eq_true rfl)) dX4_apart_2 ⟨Nat.le_of_ble_eq_true rfl, Nat.le_of_ble_eq_true rfl⟩)) (fun k_ hk_ => ?_)
  rw [hk_]
  refine lv_astore_n (lv' := [(3, .ref (ad (24 + 5 * j))), (0, .ref (ad 57)), (1, .int (nI j)), (2, .int (nI j2))]) hx hb dX4_apart_5 rfl hl (by decide) rfl (fun ls hl => ?_)
  refine lv_aload_n hx hb dX4_apart_6 rfl (lv_at hl 0 rfl) ?_
  refine lv_aload_n hx hb dX4_apart_7 rfl (lv_at hl 1 rfl) ?_
  refine lv_iload_n hx hb dX4_apart_8 rfl (lv_at hl 3 rfl) ?_
  refine va_csr (va_Run.run (va_runV (As := [.int (nI j2)]) (rest := [.ref (ad (24 + 5 * j))]) ⟨hx, hb, hml, hown, hts⟩ (m_X4_orderAt l dC dI ad S j2 (by omega)) (cwV 1 hts gX4_apart_X4_orderAt rfl rfl rfl hdX4_orderAt_1 ⟨Nat.le_of_ble_eq_true rfl, Nat.le_of_ble_eq_true rfl⟩) (hX.preTop 57 6 (by decide) (by decide) rfl rfl) rfl rfl hl.1 rfl (lv_room (Nat.le_of_ble_eq_true rfl)) dX4_apart_9 ⟨Nat.le_of_ble_eq_true rfl, Nat.le_of_ble_eq_true rfl⟩)) (fun k_ hk_ => ?_)
  rw [hk_]
  refine kx_cr (v := nI (apartN (S.2.1 j).2.2.1 (S.2.1 j2).2.2.1)) (va_runS (As := [.ref (ad (24 + 5 * j)), .ref (ad (24 + 5 * j2))]) (rest := []) ⟨hx, hb, hml, hown, hts⟩ (m_X4_pairsApart l dC dI ad S j j2 (by omega) (by omega) (hI.2 j (by omega)) (hI.2 j2 (by omega))) (va_cwS 2 hts gX4_apart_X4_pairsApart rfl rfl rfl hdX4_pairsApart_2.2 ⟨Nat.le_of_ble_eq_true rfl, Nat.le_of_ble_eq_true rfl⟩) hX.preS rfl rfl hl.1 rfl (lv_room (Nat.le_of_ble_eq_true rfl)) dX4_apart_12 ⟨Nat.le_of_ble_eq_true rfl, Nat.le_of_ble_eq_true rfl⟩) (fun _ h => h) ?_
  exact W.iret (v := nI (apartN (S.2.1 j).2.2.1 (S.2.1 j2).2.2.1)) hx hb hr (fun t9 ht9 hW9 => ⟨_, rfl, rfl, ht9⟩) (fun _ h => nomatch h) dX4_apart_15
set_option maxHeartbeats 4000000 in
set_option maxRecDepth 100000 in
theorem m_X4_classes (l : Launch) (dC : Nat → ClassId) (dI : Nat → Nat → Nat) (ad : Nat → Nat) (S : XS) (j : Nat) (hj : j < 4) (hI : InvX S) : Met l yX4_classes wsX4_classes ({ frames := 1, cells := 0, slots := 0, locals := 22 } : Room) (va_Pc [.ref (ad 57), .int (nI j)] (PX dC dI ad S)) (vp_Si (fun r => r = nI (S.2.1 j).2.2.2.2.2)) 0 0 (fun _ => False) := by
  refine Met.ofW (cc := cX4_classes) (maxL := 2) (ret := (some .int)) pl_X4 rfl ?_
  intro p e s m args below meth c s₁ B hml hv
  obtain ⟨rfl, hPX⟩ := hv
  have hx := B.exec
  have hb := B.bytes
  have hr := B.returns
  have hts := atoms_spec (ws := wsX4_classes) B.pre
  have hown : s.vm.findClass RX4 = some m.cls := findClass_of_methodNamed B.named
  have hlocks := B.notSynchronized
  have hX := WX.of hPX
  have hl := lv_entry ([.ref (ad 57), .int (nI j)]) (n := 2) (Nat.le_of_ble_eq_true rfl)
  rw [lg_entry_eq]
  generalize (lg_sl ([.ref (ad 57), .int (nI j)]) ++ List.replicate (2 - (lg_sl ([.ref (ad 57), .int (nI j)])).length) Slot.unset).toArray = ls at hl ⊢
  have hl : lv_has ls 2 [(0, .ref (ad 57)), (1, .int (nI j))] := hl
  show W p l e ({ frames := 1, cells := 0, slots := 0, locals := 22 } : Room) s m ([.ref (ad 57), .int (nI j)]).toArray below meth c s.heap [] 0 0 (MQ below (vp_Si (fun r => r = nI (S.2.1 j).2.2.2.2.2)) ([.ref (ad 57), .int (nI j)]).toArray s 0 0 (fun _ => False)) (F0 m 0 ls [])
  have hn := (hI.2 j (by omega)).1.1
  refine lv_aload_n hx hb dX4_classes_0 rfl (lv_at hl 0 rfl) ?_
  refine lv_iload_n hx hb dX4_classes_1 rfl (lv_at hl 1 rfl) ?_
  refine va_csr (va_Run.run (va_runV (As := [.int (nI j)]) (rest := []) ⟨hx, hb, hml, hown, hts⟩ (m_X4_orderAt l dC dI ad S j (by omega)) (cwV 1 hts gX4_classes_X4_orderAt rfl rfl rfl hdX4_orderAt_1 ⟨Nat.le_of_ble_eq_true rfl, Nat.le_of_ble_eq_true rfl⟩) (hX.preTop 57 6 (by decide) (by decide) rfl rfl) rfl rfl hl.1 rfl (lv_room (Nat.le_of_ble_eq_true rfl)) dX4_classes_2 ⟨Nat.le_of_ble_eq_true rfl, Nat.le_of_ble_eq_true rfl⟩)) (fun k_ hk_ => ?_)
  rw [hk_]
  refine kx_cr (v := nI ((S.2.1 j).2.2.2.2.2)) (va_runV (As := []) (rest := []) ⟨hx, hb, hml, hown, hts⟩ (m_X1_classCount l dC dI ad S j  (by omega)) (cwV 0 hts gX4_classes_X1_classCount rfl rfl rfl hdX1_classCount_0 ⟨Nat.le_of_ble_eq_true rfl, Nat.le_of_ble_eq_true rfl⟩) (hX.preOrd (by omega)) rfl rfl hl.1 rfl (lv_room (Nat.le_of_ble_eq_true rfl)) dX4_classes_5 ⟨Nat.le_of_ble_eq_true rfl, Nat.le_of_ble_eq_true rfl⟩) (fun _ h => h) ?_
  exact W.iret (v := nI ((S.2.1 j).2.2.2.2.2)) hx hb hr (fun t9 ht9 hW9 => ⟨_, rfl, rfl, ht9⟩) (fun _ h => nomatch h) dX4_classes_8
set_option maxHeartbeats 4000000 in
set_option maxRecDepth 100000 in
theorem m_X4_rank (l : Launch) (dC : Nat → ClassId) (dI : Nat → Nat → Nat) (ad : Nat → Nat) (S : XS) (j : Nat) (v : Nat) (hj : j < 4) (hv : v < 16) (hI : InvX S) : Met l yX4_rank wsX4_rank ({ frames := 2, cells := 0, slots := 0, locals := 41 } : Room) (va_Pc [.ref (ad 57), .int (nI j), .int (nI v)] (PX dC dI ad S)) (vp_Si (fun r => r = nI ((S.2.1 j).2.2.2.1 v))) 0 0 (fun _ => False) := by
  refine Met.ofW (cc := cX4_rank) (maxL := 4) (ret := (some .int)) pl_X4 rfl ?_
  intro p e s m args below meth c s₁ B hml hv
  obtain ⟨rfl, hPX⟩ := hv
  have hx := B.exec
  have hb := B.bytes
  have hr := B.returns
  have hts := atoms_spec (ws := wsX4_rank) B.pre
  have hown : s.vm.findClass RX4 = some m.cls := findClass_of_methodNamed B.named
  have hlocks := B.notSynchronized
  have hX := WX.of hPX
  have hl := lv_entry ([.ref (ad 57), .int (nI j), .int (nI v)]) (n := 4) (Nat.le_of_ble_eq_true rfl)
  rw [lg_entry_eq]
  generalize (lg_sl ([.ref (ad 57), .int (nI j), .int (nI v)]) ++ List.replicate (4 - (lg_sl ([.ref (ad 57), .int (nI j), .int (nI v)])).length) Slot.unset).toArray = ls at hl ⊢
  have hl : lv_has ls 4 [(0, .ref (ad 57)), (1, .int (nI j)), (2, .int (nI v))] := hl
  show W p l e ({ frames := 2, cells := 0, slots := 0, locals := 41 } : Room) s m ([.ref (ad 57), .int (nI j), .int (nI v)]).toArray below meth c s.heap [] 0 0 (MQ below (vp_Si (fun r => r = nI ((S.2.1 j).2.2.2.1 v))) ([.ref (ad 57), .int (nI j), .int (nI v)]).toArray s 0 0 (fun _ => False)) (F0 m 0 ls [])
  have hn := (hI.2 j (by omega)).1.1
  refine lv_aload_n hx hb dX4_rank_0 rfl (lv_at hl 0 rfl) ?_
  refine lv_iload_n hx hb dX4_rank_1 rfl (lv_at hl 1 rfl) ?_
  refine va_csr (va_Run.run (va_runV (As := [.int (nI j)]) (rest := []) ⟨hx, hb, hml, hown, hts⟩ (m_X4_orderAt l dC dI ad S j (by omega)) (cwV 1 hts gX4_rank_X4_orderAt rfl rfl rfl hdX4_orderAt_1 ⟨Nat.le_of_ble_eq_true rfl, Nat.le_of_ble_eq_true rfl⟩) (hX.preTop 57 6 (by decide) (by decide) rfl rfl) rfl rfl hl.1 rfl (lv_room (Nat.le_of_ble_eq_true rfl)) dX4_rank_2 ⟨Nat.le_of_ble_eq_true rfl, Nat.le_of_ble_eq_true rfl⟩)) (fun k_ hk_ => ?_)
  rw [hk_]
  refine lv_astore_n (lv' := [(3, .ref (ad (24 + 5 * j))), (0, .ref (ad 57)), (1, .int (nI j)), (2, .int (nI v))]) hx hb dX4_rank_5 rfl hl (by decide) rfl (fun ls hl => ?_)
  refine lv_iload_n hx hb dX4_rank_6 rfl (lv_at hl 3 rfl) ?_
  refine va_csv (va_Run.run (va_runS (As := [.int (nI v)]) (rest := []) ⟨hx, hb, hml, hown, hts⟩ (m_X4_demandValue l dC dI ad S v (by omega)) (va_cwS 1 hts gX4_rank_X4_demandValue rfl rfl rfl hdX4_demandValue_1.2 ⟨Nat.le_of_ble_eq_true rfl, Nat.le_of_ble_eq_true rfl⟩) hX.preS rfl rfl hl.1 rfl (lv_room (Nat.le_of_ble_eq_true rfl)) dX4_rank_7 ⟨Nat.le_of_ble_eq_true rfl, Nat.le_of_ble_eq_true rfl⟩)) (fun _ => ?_)
  refine lv_aload_n hx hb dX4_rank_10 rfl (lv_at hl 0 rfl) ?_
  refine lv_iload_n hx hb dX4_rank_11 rfl (lv_at hl 3 rfl) ?_
  refine kx_cr (v := nI (((S.2.1 j).2.2.2.1) v)) (va_runV (As := [.int (nI v)]) (rest := []) ⟨hx, hb, hml, hown, hts⟩ (m_X1_rankOf l dC dI ad S j v (by omega) (by omega)) (cwV 1 hts gX4_rank_X1_rankOf rfl rfl rfl hdX1_rankOf_1 ⟨Nat.le_of_ble_eq_true rfl, Nat.le_of_ble_eq_true rfl⟩) (hX.preOrd (by omega)) rfl rfl hl.1 rfl (lv_room (Nat.le_of_ble_eq_true rfl)) dX4_rank_12 ⟨Nat.le_of_ble_eq_true rfl, Nat.le_of_ble_eq_true rfl⟩) (fun _ h => h) ?_
  exact W.iret (v := nI (((S.2.1 j).2.2.2.1) v)) hx hb hr (fun t9 ht9 hW9 => ⟨_, rfl, rfl, ht9⟩) (fun _ h => nomatch h) dX4_rank_15
set_option maxHeartbeats 4000000 in
set_option maxRecDepth 100000 in
theorem m_X4_keyOf (l : Launch) (dC : Nat → ClassId) (dI : Nat → Nat → Nat) (ad : Nat → Nat) (S : XS) (k : Nat) (v : Nat) (hk : k ≤ 7) (hv : v < 16) : Met l yX4_keyOf wsX4_keyOf ({ frames := 2, cells := 0, slots := 0, locals := 41 } : Room) (va_Pc [.ref (ad 57), .int (nI k), .int (nI v)] (PX dC dI ad S)) (vp_Si (fun r => r = nI (numK k v))) 0 0 (fun _ => False) := by
  refine Met.ofW (cc := cX4_keyOf) (maxL := 3) (ret := (some .int)) pl_X4 rfl ?_
  intro p e s m args below meth c s₁ B hml hv
  obtain ⟨rfl, hPX⟩ := hv
  have hx := B.exec
  have hb := B.bytes
  have hr := B.returns
  have hts := atoms_spec (ws := wsX4_keyOf) B.pre
  have hown : s.vm.findClass RX4 = some m.cls := findClass_of_methodNamed B.named
  have hlocks := B.notSynchronized
  have hX := WX.of hPX
  have hl := lv_entry ([.ref (ad 57), .int (nI k), .int (nI v)]) (n := 3) (Nat.le_of_ble_eq_true rfl)
  rw [lg_entry_eq]
  generalize (lg_sl ([.ref (ad 57), .int (nI k), .int (nI v)]) ++ List.replicate (3 - (lg_sl ([.ref (ad 57), .int (nI k), .int (nI v)])).length) Slot.unset).toArray = ls at hl ⊢
  have hl : lv_has ls 3 [(0, .ref (ad 57)), (1, .int (nI k)), (2, .int (nI v))] := hl
  show W p l e ({ frames := 2, cells := 0, slots := 0, locals := 41 } : Room) s m ([.ref (ad 57), .int (nI k), .int (nI v)]).toArray below meth c s.heap [] 0 0 (MQ below (vp_Si (fun r => r = nI (numK k v))) ([.ref (ad 57), .int (nI k), .int (nI v)]).toArray s 0 0 (fun _ => False)) (F0 m 0 ls [])
  refine lv_iload_n hx hb dX4_keyOf_0 rfl (lv_at hl 1 rfl) ?_
  refine lv_bipush (v := nI 7) hx hb dX4_keyOf_1 (by decide) ?_
  refine va_csv (va_Run.run (va_runS (As := [.int (nI k), .int (nI 7)]) (rest := []) ⟨hx, hb, hml, hown, hts⟩ (m_X4_demandWithin l dC dI ad S k 7 (by omega) (by omega)) (va_cwS 2 hts gX4_keyOf_X4_demandWithin rfl rfl rfl hdX4_demandWithin_2.2 ⟨Nat.le_of_ble_eq_true rfl, Nat.le_of_ble_eq_true rfl⟩) hX.preS rfl rfl hl.1 rfl (lv_room (Nat.le_of_ble_eq_true rfl)) dX4_keyOf_3 ⟨Nat.le_of_ble_eq_true rfl, Nat.le_of_ble_eq_true rfl⟩)) (fun _ => ?_)
  refine lv_iload_n hx hb dX4_keyOf_6 rfl (lv_at hl 2 rfl) ?_
  refine va_csv (va_Run.run (va_runS (As := [.int (nI v)]) (rest := []) ⟨hx, hb, hml, hown, hts⟩ (m_X4_demandValue l dC dI ad S v (by omega)) (va_cwS 1 hts gX4_keyOf_X4_demandValue rfl rfl rfl hdX4_demandValue_1.2 ⟨Nat.le_of_ble_eq_true rfl, Nat.le_of_ble_eq_true rfl⟩) hX.preS rfl rfl hl.1 rfl (lv_room (Nat.le_of_ble_eq_true rfl)) dX4_keyOf_7 ⟨Nat.le_of_ble_eq_true rfl, Nat.le_of_ble_eq_true rfl⟩)) (fun _ => ?_)
  refine lv_iload_n hx hb dX4_keyOf_10 rfl (lv_at hl 1 rfl) ?_
  refine lv_iload_n hx hb dX4_keyOf_11 rfl (lv_at hl 2 rfl) ?_
  refine kx_cr (v := nI (numK k v)) (va_runS (As := [.int (nI k), .int (nI v)]) (rest := []) ⟨hx, hb, hml, hown, hts⟩ (m_X1_numberBy l dC dI ad S k v (by omega) (by omega)) (va_cwS 2 hts gX4_keyOf_X1_numberBy rfl rfl rfl hdX1_numberBy_2.2 ⟨Nat.le_of_ble_eq_true rfl, Nat.le_of_ble_eq_true rfl⟩) hX.preS rfl rfl hl.1 rfl (lv_room (Nat.le_of_ble_eq_true rfl)) dX4_keyOf_12 ⟨Nat.le_of_ble_eq_true rfl, Nat.le_of_ble_eq_true rfl⟩) (fun _ h => h) ?_
  exact W.iret (v := nI (numK k v)) hx hb hr (fun t9 ht9 hW9 => ⟨_, rfl, rfl, ht9⟩) (fun _ h => nomatch h) dX4_keyOf_15
set_option maxHeartbeats 4000000 in
set_option maxRecDepth 100000 in
theorem m_X4_house (l : Launch) (dC : Nat → ClassId) (dI : Nat → Nat → Nat) (ad : Nat → Nat) (S : XS) (k : Nat) (hk : k ≤ 4) (hI : InvX S) : Met l yX4_house wsX4_house ({ frames := 3, cells := 0, slots := 0, locals := 65 } : Room) (va_Pc [.ref (ad 57), .int (nI k)] (PX dC dI ad S)) (vp_Si (fun r => r = nI (countX S k))) 0 0 (fun _ => False) := by
  refine Met.ofW (cc := cX4_house) (maxL := 2) (ret := (some .int)) pl_X4 rfl ?_
  intro p e s m args below meth c s₁ B hml hv
  obtain ⟨rfl, hPX⟩ := hv
  have hx := B.exec
  have hb := B.bytes
  have hr := B.returns
  have hts := atoms_spec (ws := wsX4_house) B.pre
  have hown : s.vm.findClass RX4 = some m.cls := findClass_of_methodNamed B.named
  have hlocks := B.notSynchronized
  have hX := WX.of hPX
  have hl := lv_entry ([.ref (ad 57), .int (nI k)]) (n := 2) (Nat.le_of_ble_eq_true rfl)
  rw [lg_entry_eq]
  generalize (lg_sl ([.ref (ad 57), .int (nI k)]) ++ List.replicate (2 - (lg_sl ([.ref (ad 57), .int (nI k)])).length) Slot.unset).toArray = ls at hl ⊢
  have hl : lv_has ls 2 [(0, .ref (ad 57)), (1, .int (nI k))] := hl
  show W p l e ({ frames := 3, cells := 0, slots := 0, locals := 65 } : Room) s m ([.ref (ad 57), .int (nI k)]).toArray below meth c s.heap [] 0 0 (MQ below (vp_Si (fun r => r = nI (countX S k))) ([.ref (ad 57), .int (nI k)]).toArray s 0 0 (fun _ => False)) (F0 m 0 ls [])
  refine lv_iload_n hx hb dX4_house_0 rfl (lv_at hl 1 rfl) ?_
  refine lv_iconst (v := nI 4) hx hb dX4_house_1 (by decide) ?_
  refine va_csv (va_Run.run (va_runS (As := [.int (nI k), .int (nI 4)]) (rest := []) ⟨hx, hb, hml, hown, hts⟩ (m_X4_demandWithin l dC dI ad S k 4 (by omega) (by omega)) (va_cwS 2 hts gX4_house_X4_demandWithin rfl rfl rfl hdX4_demandWithin_2.2 ⟨Nat.le_of_ble_eq_true rfl, Nat.le_of_ble_eq_true rfl⟩) hX.preS rfl rfl hl.1 rfl (lv_room (Nat.le_of_ble_eq_true rfl)) dX4_house_2 ⟨Nat.le_of_ble_eq_true rfl, Nat.le_of_ble_eq_true rfl⟩)) (fun _ => ?_)
  refine lv_aload_n hx hb dX4_house_5 rfl (lv_at hl 0 rfl) ?_
  refine lv_iload_n hx hb dX4_house_6 rfl (lv_at hl 1 rfl) ?_
  refine kx_cr (v := nI (countX S k)) (va_runV (As := [.int (nI k)]) (rest := []) ⟨hx, hb, hml, hown, hts⟩ (m_X4_count l dC dI ad S k (by omega) hI) (cwV 1 hts gX4_house_X4_count rfl rfl rfl hdX4_count_1 ⟨Nat.le_of_ble_eq_true rfl, Nat.le_of_ble_eq_true rfl⟩) (hX.preTop 57 6 (by decide) (by decide) rfl rfl) rfl rfl hl.1 rfl (lv_room (Nat.le_of_ble_eq_true rfl)) dX4_house_7 ⟨Nat.le_of_ble_eq_true rfl, Nat.le_of_ble_eq_true rfl⟩) (fun _ h => h) ?_
  exact W.iret (v := nI (countX S k)) hx hb hr (fun t9 ht9 hW9 => ⟨_, rfl, rfl, ht9⟩) (fun _ h => nomatch h) dX4_house_10
end
section
/-! digests -/
def mixI (d : Int64) (x : Nat) : Int64 := d * lN 31 + lN x
def bN (b : Bool) : Nat := if b then 1 else 0
def iterL (f : Nat → Int64 → Int64) : Nat → Int64 → Int64
  | 0, d => d
  | n + 1, d => f n (iterL f n d)
def mixRow (S : XS) (i : Nat) (d : Int64) : Int64 := iterL (fun k d => mixI (mixI d ((S.1 i).1 k)) ((S.1 i).2.1 k)) (S.1 i).2.2 (mixI d (S.1 i).2.2)
def mixRows (S : XS) (d : Int64) : Int64 := iterL (mixRow S) 3 d
def mixOrd (S : XS) (j : Nat) (d : Int64) : Int64 := iterL (fun v d => mixI d ((S.2.1 j).2.2.2.1 v)) 16 (mixI (iterL (fun k d => mixI (mixI d ((S.2.1 j).1 k)) (bN ((S.2.1 j).2.1 k))) (S.2.1 j).2.2.2.2.1 (mixI d (S.2.1 j).2.2.2.2.1)) (S.2.1 j).2.2.2.2.2)
def mixOrders (S : XS) (d : Int64) : Int64 := iterL (mixOrd S) 4 d
def mixPair (S : XS) (a b : Nat) (d : Int64) : Int64 := mixI (mixI d (apartN (S.2.1 a).2.2.1 (S.2.1 b).2.2.1)) (bN (finerB (S.2.1 a).2.2.1 (S.2.1 b).2.2.1))
def mixPairs (S : XS) (d : Int64) : Int64 := iterL (fun a d => iterL (mixPair S a) 4 d) 4 d
def mixSeq (S : XS) (i j : Nat) (d : Int64) : Int64 := mixI (mixI d (cntB (firstB (S.2.1 j).2.2.1 (S.1 i).1) (S.1 i).2.2)) (bN (seqB (S.2.1 j).2.2.1 (S.1 i).1 (S.1 i).2.2))
def mixSeqs (S : XS) (d : Int64) : Int64 := iterL (fun i d => iterL (mixSeq S i) 4 d) 3 d
theorem sumN_le {f : Nat → Nat} {c : Nat} (h : ∀ k, f k ≤ c) : ∀ n, sumN f n ≤ n * c
  | 0 => Nat.zero_le _
  | n + 1 => by
    have ih := sumN_le h n
    have := h n
    rw [sumN, Nat.add_mul, Nat.one_mul]
    omega
theorem apartN_le (c d : Nat → Nat) : apartN c d ≤ 256 := sumN_le (c := 16) (fun _ => cntB_le _ 16) 16
section KXL
variable {p : Program} {l : Launch} {e : Env} {R : Room} {s : State} {m : MethodId} {args : Array Value} {below : List Frame} {meth : Method} {c : Code} {H : Heap} {locs : List Loc} {cells slots : Nat} {Q : State → Prop}
theorem kx_crl {pc : Nat} {ls : Array Slot} {rest st0 : List Value} {a : Array Value} {v : Int64} {post : Int64 → Prop} (hr : va_Run p l e R s m args below meth c H locs cells slots 0 0 (F0 m pc ls st0) rest (vp_Sl post a) (fun _ => False)) (hv : ∀ r, post r → r = v) (kk : W p l e R s m args below meth c H locs cells slots Q (F0 m (pc + 3) ls (.long v :: rest))) : W p l e R s m args below meth c H locs cells slots Q (F0 m pc ls st0) :=
  vp_callSl (va_Run.run hr) (fun r h => by rw [hv r h]; exact kk)
end KXL
set_option maxHeartbeats 4000000 in
set_option maxRecDepth 100000 in
theorem m_X4_mixed (l : Launch) (dC : Nat → ClassId) (dI : Nat → Nat → Nat) (ad : Nat → Nat) (S : XS) (d : Int64) (x : Nat) (hx3 : x < 2 ^ 31) : Met l yX4_mixed wsX4_mixed ({ frames := 0, cells := 0, slots := 0, locals := 0 } : Room) (va_Pc [.long d, .int (nI x)] (PX dC dI ad S)) (vp_Sl (fun r => r = mixI d x)) 0 0 (fun _ => False) := by
  refine Met.ofW (cc := cX4_mixed) (maxL := 3) (ret := (some .long)) pl_X4 rfl ?_
  intro p e s m args below meth c s₁ B hml hv
  obtain ⟨rfl, hPX⟩ := hv
  have hx := B.exec
  have hb := B.bytes
  have hr := B.returns
  have hts := atoms_spec (ws := wsX4_mixed) B.pre
  have hown : s.vm.findClass RX4 = some m.cls := findClass_of_methodNamed B.named
  have hlocks := B.notSynchronized
  have hX := WX.of hPX
  have hl := lv_entry ([.long d, .int (nI x)]) (n := 3) (Nat.le_of_ble_eq_true rfl)
  rw [lg_entry_eq]
  generalize (lg_sl ([.long d, .int (nI x)]) ++ List.replicate (3 - (lg_sl ([.long d, .int (nI x)])).length) Slot.unset).toArray = ls at hl ⊢
  have hl : lv_has ls 3 [(0, .long d), (2, .int (nI x))] := hl
  show W p l e ({ frames := 0, cells := 0, slots := 0, locals := 0 } : Room) s m ([.long d, .int (nI x)]).toArray below meth c s.heap [] 0 0 (MQ below (vp_Sl (fun r => r = mixI d x)) ([.long d, .int (nI x)]).toArray s 0 0 (fun _ => False)) (F0 m 0 ls [])
  refine lv_lload_n hx hb dX4_mixed_0 rfl (lv_at hl 0 rfl) ?_
  refine lv_ldc2 (v := lN 31) hx hb hown (hts (.constantLong RX4 326 31) (tm 654 (by decide +kernel) rfl)) dX4_mixed_1 ?_
  refine lv_lmul hx hb dX4_mixed_4 ?_
  refine lv_iload_n hx hb dX4_mixed_5 rfl (lv_at hl 1 rfl) ?_
  refine lv_i2l (v := lN x) hx hb dX4_mixed_6 (nI_l (by omega)) ?_
  refine lv_ladd hx hb dX4_mixed_7 ?_
  exact W.lret (v := (d * lN 31) + lN x) hx hb hr (fun t9 ht9 hW9 => ⟨_, rfl, rfl, ht9⟩) (fun _ h => nomatch h) dX4_mixed_8
set_option maxHeartbeats 4000000 in
set_option maxRecDepth 100000 in
theorem m_X4_mixedWithRows (l : Launch) (dC : Nat → ClassId) (dI : Nat → Nat → Nat) (ad : Nat → Nat) (S : XS) (d : Int64) (hI : InvX S) : Met l yX4_mixedWithRows wsX4_mixedWithRows ({ frames := 1, cells := 0, slots := 0, locals := 22 } : Room) (va_Pc [.ref (ad 57), .long d] (PX dC dI ad S)) (vp_Sl (fun r => r = mixRows S d)) 0 0 (fun _ => False) := by
  refine Met.ofW (cc := cX4_mixedWithRows) (maxL := 8) (ret := (some .long)) pl_X4 rfl ?_
  intro p e s m args below meth c s₁ B hml hv
  obtain ⟨rfl, hPX⟩ := hv
  have hx := B.exec
  have hb := B.bytes
  have hr := B.returns
  have hts := atoms_spec (ws := wsX4_mixedWithRows) B.pre
  have hown : s.vm.findClass RX4 = some m.cls := findClass_of_methodNamed B.named
  have hlocks := B.notSynchronized
  have hX := WX.of hPX
  have hl := lv_entry ([.ref (ad 57), .long d]) (n := 8) (Nat.le_of_ble_eq_true rfl)
  rw [lg_entry_eq]
  generalize (lg_sl ([.ref (ad 57), .long d]) ++ List.replicate (8 - (lg_sl ([.ref (ad 57), .long d])).length) Slot.unset).toArray = ls at hl ⊢
  have hl : lv_has ls 8 [(0, .ref (ad 57)), (1, .long d)] := hl
  show W p l e ({ frames := 1, cells := 0, slots := 0, locals := 22 } : Room) s m ([.ref (ad 57), .long d]).toArray below meth c s.heap [] 0 0 (MQ below (vp_Sl (fun r => r = mixRows S d)) ([.ref (ad 57), .long d]).toArray s 0 0 (fun _ => False)) (F0 m 0 ls [])
  refine lv_lload_n hx hb dX4_mixedWithRows_0 rfl (lv_at hl 1 rfl) ?_
  refine lv_lstore_n (lv' := [(3, .long d), (0, .ref (ad 57)), (1, .long d)]) hx hb dX4_mixedWithRows_1 rfl hl (by decide) rfl (fun ls hl => ?_)
  refine lv_iconst (v := nI 0) hx hb dX4_mixedWithRows_2 (by decide) ?_
  refine lv_istore (lv' := [(5, .int (nI 0)), (3, .long d), (0, .ref (ad 57)), (1, .long d)]) hx hb dX4_mixedWithRows_3 hl (by decide) rfl (fun ls hl => ?_)
  have loop5 : ∀ (fuel : Nat) (x5 : Int64) (i : Nat) (hi : i ≤ 3) (hx5 : x5 = iterL (mixRow S) i d), 3 - i < fuel → ∀ ls : Array Slot, lv_has ls 8 [(0, .ref (ad 57)), (1, .long d), (3, .long x5), (5, .int (nI i))] → W p l e ({ frames := 1, cells := 0, slots := 0, locals := 22 } : Room) s m ([.ref (ad 57), .long d]).toArray below meth c s.heap [] 0 0 (MQ below (vp_Sl (fun r => r = mixRows S d)) ([.ref (ad 57), .long d]).toArray s 0 0 (fun _ => False)) (F0 m 5 ls []) := by
    intro fuel
    induction fuel with
    | zero => intro x5 i hi hx5 hf; exact absurd hf (Nat.not_lt_zero _)
    | succ fuel ih5 =>
      intro x5 i hi hx5 hf ls hl
      refine lv_iload hx hb dX4_mixedWithRows_5 (lv_at hl 3 rfl) ?_
      refine lv_iconst (v := nI 3) hx hb dX4_mixedWithRows_7 (by decide) ?_
      refine kn_icmp_ge (tgt := 78) hx hb (by omega) (by omega) dX4_mixedWithRows_8 (by decide) (fun k_1 => ?_) (fun k_1 => ?_)
      · skip
        refine lv_lload_n hx hb dX4_mixedWithRows_78 rfl (lv_at hl 2 rfl) ?_
        exact W.lret (v := x5) hx hb hr (fun t9 ht9 hW9 => ⟨_, rfl, (by rw [hx5, show i = 3 by omega]; rfl), ht9⟩) (fun _ h => nomatch h) dX4_mixedWithRows_79
      · skip
        have hr9 := hI.1 i (by omega)
        have hn9 := hr9.1
        refine lv_aload_n hx hb dX4_mixedWithRows_11 rfl (lv_at hl 0 rfl) ?_
        refine lv_iload hx hb dX4_mixedWithRows_12 (lv_at hl 3 rfl) ?_
        refine va_csr (va_Run.run (va_runV (As := [.int (nI i)]) (rest := []) ⟨hx, hb, hml, hown, hts⟩ (m_X4_rowAt l dC dI ad S i (by omega)) (cwV 1 hts gX4_mixedWithRows_X4_rowAt rfl rfl rfl hdX4_rowAt_1 ⟨Nat.le_of_ble_eq_true rfl, Nat.le_of_ble_eq_true rfl⟩) (hX.preTop 57 6 (by decide) (by decide) rfl rfl) rfl rfl hl.1 rfl (lv_room (Nat.le_of_ble_eq_true rfl)) dX4_mixedWithRows_14 ⟨Nat.le_of_ble_eq_true rfl, Nat.le_of_ble_eq_true rfl⟩)) (fun k_ hk_ => ?_)
        rw [hk_]
        refine lv_astore (lv' := [(6, .ref (ad (3 * i))), (0, .ref (ad 57)), (1, .long d), (3, .long x5), (5, .int (nI i))]) hx hb dX4_mixedWithRows_17 hl (by decide) rfl (fun ls hl => ?_)
        refine lv_lload_n hx hb dX4_mixedWithRows_19 rfl (lv_at hl 3 rfl) ?_
        refine lv_aload hx hb dX4_mixedWithRows_20 (lv_at hl 0 rfl) ?_
        refine kx_cr (v := nI ((S.1 i).2.2)) (va_runV (As := []) (rest := [.long x5]) ⟨hx, hb, hml, hown, hts⟩ (m_X2_length l dC dI ad S i (by omega)) (cwV 0 hts gX4_mixedWithRows_X2_length rfl rfl rfl hdX2_length_0 ⟨Nat.le_of_ble_eq_true rfl, Nat.le_of_ble_eq_true rfl⟩) (hX.preRow (by omega)) rfl rfl hl.1 rfl (lv_room (Nat.le_of_ble_eq_true rfl)) dX4_mixedWithRows_22 ⟨Nat.le_of_ble_eq_true rfl, Nat.le_of_ble_eq_true rfl⟩) (fun _ h => h) ?_
        refine kx_crl (v := mixI x5 ((S.1 i).2.2)) (va_runS (As := [.long x5, .int (nI ((S.1 i).2.2))]) (rest := []) ⟨hx, hb, hml, hown, hts⟩ (m_X4_mixed l dC dI ad S x5 ((S.1 i).2.2) (by omega)) (va_cwS 2 hts gX4_mixedWithRows_X4_mixed rfl rfl rfl hdX4_mixed_2.2 ⟨Nat.le_of_ble_eq_true rfl, Nat.le_of_ble_eq_true rfl⟩) hX.preS rfl rfl hl.1 rfl (lv_room (Nat.le_of_ble_eq_true rfl)) dX4_mixedWithRows_25 ⟨Nat.le_of_ble_eq_true rfl, Nat.le_of_ble_eq_true rfl⟩) (fun _ h => h) ?_
        refine lv_lstore_n (lv' := [(3, .long (mixI x5 ((S.1 i).2.2))), (6, .ref (ad (3 * i))), (0, .ref (ad 57)), (1, .long d), (5, .int (nI i))]) hx hb dX4_mixedWithRows_28 rfl hl (by decide) rfl (fun ls hl => ?_)
        refine lv_iconst (v := nI 0) hx hb dX4_mixedWithRows_29 (by decide) ?_
        refine lv_istore (lv' := [(7, .int (nI 0)), (3, .long (mixI x5 ((S.1 i).2.2))), (6, .ref (ad (3 * i))), (0, .ref (ad 57)), (1, .long d), (5, .int (nI i))]) hx hb dX4_mixedWithRows_30 hl (by decide) rfl (fun ls hl => ?_)
        have loop32 : ∀ (fuel : Nat) (x7 : Int64) (q : Nat) (hq : q ≤ (S.1 i).2.2) (hx7 : x7 = iterL (fun k d => mixI (mixI d ((S.1 i).1 k)) ((S.1 i).2.1 k)) q (mixI x5 (S.1 i).2.2)), (S.1 i).2.2 - q < fuel → ∀ ls : Array Slot, lv_has ls 8 [(0, .ref (ad 57)), (1, .long d), (3, .long x7), (5, .int (nI i)), (6, .ref (ad (3 * i))), (7, .int (nI q))] → W p l e ({ frames := 1, cells := 0, slots := 0, locals := 22 } : Room) s m ([.ref (ad 57), .long d]).toArray below meth c s.heap [] 0 0 (MQ below (vp_Sl (fun r => r = mixRows S d)) ([.ref (ad 57), .long d]).toArray s 0 0 (fun _ => False)) (F0 m 32 ls []) := by
          intro fuel
          induction fuel with
          | zero => intro x7 q hq hx7 hf; exact absurd hf (Nat.not_lt_zero _)
          | succ fuel ih32 =>
            intro x7 q hq hx7 hf ls hl
            refine lv_iload hx hb dX4_mixedWithRows_32 (lv_at hl 5 rfl) ?_
            refine lv_aload hx hb dX4_mixedWithRows_34 (lv_at hl 4 rfl) ?_
            refine kx_cr (v := nI ((S.1 i).2.2)) (va_runV (As := []) (rest := [.int (nI q)]) ⟨hx, hb, hml, hown, hts⟩ (m_X2_length l dC dI ad S i (by omega)) (cwV 0 hts gX4_mixedWithRows_X2_length rfl rfl rfl hdX2_length_0 ⟨Nat.le_of_ble_eq_true rfl, Nat.le_of_ble_eq_true rfl⟩) (hX.preRow (by omega)) rfl rfl hl.1 rfl (lv_room (Nat.le_of_ble_eq_true rfl)) dX4_mixedWithRows_36 ⟨Nat.le_of_ble_eq_true rfl, Nat.le_of_ble_eq_true rfl⟩) (fun _ h => h) ?_
            refine kn_icmp_ge (tgt := 72) hx hb (by omega) (by omega) dX4_mixedWithRows_39 (by decide) (fun k_2 => ?_) (fun k_2 => ?_)
            · skip
              refine lv_iinc (v := nI (i + 1)) (lv' := [(5, .int (nI (i + 1))), (0, .ref (ad 57)), (1, .long d), (3, .long x7), (6, .ref (ad (3 * i))), (7, .int (nI q))]) hx hb dX4_mixedWithRows_72 hl (k := 3) rfl (nI_1 i) (by decide) rfl (fun ls hl => ?_)
              refine lv_goto (tgt := 5) hx hb dX4_mixedWithRows_75 (by decide) ?_
              exact ih5  x7 (i + 1) (by omega) (by rw [hx7, hx5, show q = (S.1 i).2.2 by omega]; rfl) (by omega) _ (lv_sub hl [1, 2, 3, 0] rfl)
            · skip
              refine lv_lload_n hx hb dX4_mixedWithRows_42 rfl (lv_at hl 2 rfl) ?_
              refine lv_aload hx hb dX4_mixedWithRows_43 (lv_at hl 4 rfl) ?_
              refine lv_iload hx hb dX4_mixedWithRows_45 (lv_at hl 5 rfl) ?_
              have hv9 := hr9.2 q (by omega)
              refine kx_cr (v := nI (((S.1 i).1) q)) (va_runV (As := [.int (nI q)]) (rest := [.long x7]) ⟨hx, hb, hml, hown, hts⟩ (m_X2_valueOn l dC dI ad S i q (by omega) (by omega)) (cwV 1 hts gX4_mixedWithRows_X2_valueOn rfl rfl rfl hdX2_valueOn_1 ⟨Nat.le_of_ble_eq_true rfl, Nat.le_of_ble_eq_true rfl⟩) (hX.preRow (by omega)) rfl rfl hl.1 rfl (lv_room (Nat.le_of_ble_eq_true rfl)) dX4_mixedWithRows_47 ⟨Nat.le_of_ble_eq_true rfl, Nat.le_of_ble_eq_true rfl⟩) (fun _ h => h) ?_
              refine kx_crl (v := mixI x7 (((S.1 i).1) q)) (va_runS (As := [.long x7, .int (nI (((S.1 i).1) q))]) (rest := []) ⟨hx, hb, hml, hown, hts⟩ (m_X4_mixed l dC dI ad S x7 (((S.1 i).1) q) (by omega)) (va_cwS 2 hts gX4_mixedWithRows_X4_mixed rfl rfl rfl hdX4_mixed_2.2 ⟨Nat.le_of_ble_eq_true rfl, Nat.le_of_ble_eq_true rfl⟩) hX.preS rfl rfl hl.1 rfl (lv_room (Nat.le_of_ble_eq_true rfl)) dX4_mixedWithRows_50 ⟨Nat.le_of_ble_eq_true rfl, Nat.le_of_ble_eq_true rfl⟩) (fun _ h => h) ?_
              refine lv_lstore_n (lv' := [(3, .long (mixI x7 (((S.1 i).1) q))), (0, .ref (ad 57)), (1, .long d), (5, .int (nI i)), (6, .ref (ad (3 * i))), (7, .int (nI q))]) hx hb dX4_mixedWithRows_53 rfl hl (by decide) rfl (fun ls hl => ?_)
              refine lv_lload_n hx hb dX4_mixedWithRows_54 rfl (lv_at hl 0 rfl) ?_
              refine lv_aload hx hb dX4_mixedWithRows_55 (lv_at hl 4 rfl) ?_
              refine lv_iload hx hb dX4_mixedWithRows_57 (lv_at hl 5 rfl) ?_
              refine kx_cr (v := nI (((S.1 i).2.1) q)) (va_runV (As := [.int (nI q)]) (rest := [.long (mixI x7 (((S.1 i).1) q))]) ⟨hx, hb, hml, hown, hts⟩ (m_X2_markOn l dC dI ad S i q (by omega) (by omega)) (cwV 1 hts gX4_mixedWithRows_X2_markOn rfl rfl rfl hdX2_markOn_1 ⟨Nat.le_of_ble_eq_true rfl, Nat.le_of_ble_eq_true rfl⟩) (hX.preRow (by omega)) rfl rfl hl.1 rfl (lv_room (Nat.le_of_ble_eq_true rfl)) dX4_mixedWithRows_59 ⟨Nat.le_of_ble_eq_true rfl, Nat.le_of_ble_eq_true rfl⟩) (fun _ h => h) ?_
              refine kx_crl (v := mixI (mixI x7 (((S.1 i).1) q)) (((S.1 i).2.1) q)) (va_runS (As := [.long (mixI x7 (((S.1 i).1) q)), .int (nI (((S.1 i).2.1) q))]) (rest := []) ⟨hx, hb, hml, hown, hts⟩ (m_X4_mixed l dC dI ad S (mixI x7 (((S.1 i).1) q)) (((S.1 i).2.1) q) (by omega)) (va_cwS 2 hts gX4_mixedWithRows_X4_mixed rfl rfl rfl hdX4_mixed_2.2 ⟨Nat.le_of_ble_eq_true rfl, Nat.le_of_ble_eq_true rfl⟩) hX.preS rfl rfl hl.1 rfl (lv_room (Nat.le_of_ble_eq_true rfl)) dX4_mixedWithRows_62 ⟨Nat.le_of_ble_eq_true rfl, Nat.le_of_ble_eq_true rfl⟩) (fun _ h => h) ?_
              refine lv_lstore_n (lv' := [(3, .long (mixI (mixI x7 (((S.1 i).1) q)) (((S.1 i).2.1) q))), (0, .ref (ad 57)), (1, .long d), (5, .int (nI i)), (6, .ref (ad (3 * i))), (7, .int (nI q))]) hx hb dX4_mixedWithRows_65 rfl hl (by decide) rfl (fun ls hl => ?_)
              refine lv_iinc (v := nI (q + 1)) (lv' := [(7, .int (nI (q + 1))), (3, .long (mixI (mixI x7 (((S.1 i).1) q)) (((S.1 i).2.1) q))), (0, .ref (ad 57)), (1, .long d), (5, .int (nI i)), (6, .ref (ad (3 * i)))]) hx hb dX4_mixedWithRows_66 hl (k := 5) rfl (nI_1 q) (by decide) rfl (fun ls hl => ?_)
              refine lv_goto (tgt := 32) hx hb dX4_mixedWithRows_69 (by decide) ?_
              exact ih32  (mixI (mixI x7 (((S.1 i).1) q)) (((S.1 i).2.1) q)) (q + 1) (by omega) (by rw [hx7]; rfl) (by omega) _ (lv_sub hl [2, 3, 1, 4, 5, 0] rfl)
        exact loop32 ((S.1 i).2.2 + 1) (mixI x5 ((S.1 i).2.2)) 0 (by omega) rfl (by omega) _ (lv_sub hl [3, 4, 1, 5, 2, 0] rfl)
  exact loop5 (3 + 1) d 0 (by omega) rfl (by omega) _ (lv_sub hl [2, 3, 1, 0] rfl)
set_option maxHeartbeats 4000000 in
set_option maxRecDepth 100000 in
theorem m_X4_mixedWithOrders (l : Launch) (dC : Nat → ClassId) (dI : Nat → Nat → Nat) (ad : Nat → Nat) (S : XS) (d : Int64) (hI : InvX S) : Met l yX4_mixedWithOrders wsX4_mixedWithOrders ({ frames := 1, cells := 0, slots := 0, locals := 22 } : Room) (va_Pc [.ref (ad 57), .long d] (PX dC dI ad S)) (vp_Sl (fun r => r = mixOrders S d)) 0 0 (fun _ => False) := by
  refine Met.ofW (cc := cX4_mixedWithOrders) (maxL := 8) (ret := (some .long)) pl_X4 rfl ?_
  intro p e s m args below meth c s₁ B hml hv
  obtain ⟨rfl, hPX⟩ := hv
  have hx := B.exec
  have hb := B.bytes
  have hr := B.returns
  have hts := atoms_spec (ws := wsX4_mixedWithOrders) B.pre
  have hown : s.vm.findClass RX4 = some m.cls := findClass_of_methodNamed B.named
  have hlocks := B.notSynchronized
  have hX := WX.of hPX
  have hl := lv_entry ([.ref (ad 57), .long d]) (n := 8) (Nat.le_of_ble_eq_true rfl)
  rw [lg_entry_eq]
  generalize (lg_sl ([.ref (ad 57), .long d]) ++ List.replicate (8 - (lg_sl ([.ref (ad 57), .long d])).length) Slot.unset).toArray = ls at hl ⊢
  have hl : lv_has ls 8 [(0, .ref (ad 57)), (1, .long d)] := hl
  show W p l e ({ frames := 1, cells := 0, slots := 0, locals := 22 } : Room) s m ([.ref (ad 57), .long d]).toArray below meth c s.heap [] 0 0 (MQ below (vp_Sl (fun r => r = mixOrders S d)) ([.ref (ad 57), .long d]).toArray s 0 0 (fun _ => False)) (F0 m 0 ls [])
  refine lv_lload_n hx hb dX4_mixedWithOrders_0 rfl (lv_at hl 1 rfl) ?_
  refine lv_lstore_n (lv' := [(3, .long d), (0, .ref (ad 57)), (1, .long d)]) hx hb dX4_mixedWithOrders_1 rfl hl (by decide) rfl (fun ls hl => ?_)
  refine lv_iconst (v := nI 0) hx hb dX4_mixedWithOrders_2 (by decide) ?_
  refine lv_istore (lv' := [(5, .int (nI 0)), (3, .long d), (0, .ref (ad 57)), (1, .long d)]) hx hb dX4_mixedWithOrders_3 hl (by decide) rfl (fun ls hl => ?_)
  have loop5 : ∀ (fuel : Nat) (x5 : Int64) (j : Nat) (hj : j ≤ 4) (hx5 : x5 = iterL (mixOrd S) j d), 4 - j < fuel → ∀ ls : Array Slot, lv_has ls 8 [(0, .ref (ad 57)), (1, .long d), (3, .long x5), (5, .int (nI j))] → W p l e ({ frames := 1, cells := 0, slots := 0, locals := 22 } : Room) s m ([.ref (ad 57), .long d]).toArray below meth c s.heap [] 0 0 (MQ below (vp_Sl (fun r => r = mixOrders S d)) ([.ref (ad 57), .long d]).toArray s 0 0 (fun _ => False)) (F0 m 5 ls []) := by
    intro fuel
    induction fuel with
    | zero => intro x5 j hj hx5 hf; exact absurd hf (Nat.not_lt_zero _)
    | succ fuel ih5 =>
      intro x5 j hj hx5 hf ls hl
      refine lv_iload hx hb dX4_mixedWithOrders_5 (lv_at hl 3 rfl) ?_
      refine lv_iconst (v := nI 4) hx hb dX4_mixedWithOrders_7 (by decide) ?_
      refine kn_icmp_ge (tgt := 124) hx hb (by omega) (by omega) dX4_mixedWithOrders_8 (by decide) (fun k_1 => ?_) (fun k_1 => ?_)
      · skip
        refine lv_lload_n hx hb dX4_mixedWithOrders_124 rfl (lv_at hl 2 rfl) ?_
        exact W.lret (v := x5) hx hb hr (fun t9 ht9 hW9 => ⟨_, rfl, (by rw [hx5, show j = 4 by omega]; rfl), ht9⟩) (fun _ h => nomatch h) dX4_mixedWithOrders_125
      · skip
        have ho9 := hI.2 j (by omega)
        have hn9 := ho9.1.1
        have hc9 := ordOK.cls ho9
        refine lv_aload_n hx hb dX4_mixedWithOrders_11 rfl (lv_at hl 0 rfl) ?_
        refine lv_iload hx hb dX4_mixedWithOrders_12 (lv_at hl 3 rfl) ?_
        refine va_csr (va_Run.run (va_runV (As := [.int (nI j)]) (rest := []) ⟨hx, hb, hml, hown, hts⟩ (m_X4_orderAt l dC dI ad S j (by omega)) (cwV 1 hts gX4_mixedWithOrders_X4_orderAt rfl rfl rfl hdX4_orderAt_1 ⟨Nat.le_of_ble_eq_true rfl, Nat.le_of_ble_eq_true rfl⟩) (hX.preTop 57 6 (by decide) (by decide) rfl rfl) rfl rfl hl.1 rfl (lv_room (Nat.le_of_ble_eq_true rfl)) dX4_mixedWithOrders_14 ⟨Nat.le_of_ble_eq_true rfl, Nat.le_of_ble_eq_true rfl⟩)) (fun k_ hk_ => ?_)
        rw [hk_]
        refine lv_astore (lv' := [(6, .ref (ad (24 + 5 * j))), (0, .ref (ad 57)), (1, .long d), (3, .long x5), (5, .int (nI j))]) hx hb dX4_mixedWithOrders_17 hl (by decide) rfl (fun ls hl => ?_)
        refine lv_lload_n hx hb dX4_mixedWithOrders_19 rfl (lv_at hl 3 rfl) ?_
        refine lv_aload hx hb dX4_mixedWithOrders_20 (lv_at hl 0 rfl) ?_
        refine kx_cr (v := nI ((S.2.1 j).2.2.2.2.1)) (va_runV (As := []) (rest := [.long x5]) ⟨hx, hb, hml, hown, hts⟩ (m_X1_length l dC dI ad S j  (by omega)) (cwV 0 hts gX4_mixedWithOrders_X1_length rfl rfl rfl hdX1_length_0 ⟨Nat.le_of_ble_eq_true rfl, Nat.le_of_ble_eq_true rfl⟩) (hX.preOrd (by omega)) rfl rfl hl.1 rfl (lv_room (Nat.le_of_ble_eq_true rfl)) dX4_mixedWithOrders_22 ⟨Nat.le_of_ble_eq_true rfl, Nat.le_of_ble_eq_true rfl⟩) (fun _ h => h) ?_
        refine kx_crl (v := mixI x5 ((S.2.1 j).2.2.2.2.1)) (va_runS (As := [.long x5, .int (nI ((S.2.1 j).2.2.2.2.1))]) (rest := []) ⟨hx, hb, hml, hown, hts⟩ (m_X4_mixed l dC dI ad S x5 ((S.2.1 j).2.2.2.2.1) (by omega)) (va_cwS 2 hts gX4_mixedWithOrders_X4_mixed rfl rfl rfl hdX4_mixed_2.2 ⟨Nat.le_of_ble_eq_true rfl, Nat.le_of_ble_eq_true rfl⟩) hX.preS rfl rfl hl.1 rfl (lv_room (Nat.le_of_ble_eq_true rfl)) dX4_mixedWithOrders_25 ⟨Nat.le_of_ble_eq_true rfl, Nat.le_of_ble_eq_true rfl⟩) (fun _ h => h) ?_
        refine lv_lstore_n (lv' := [(3, .long (mixI x5 ((S.2.1 j).2.2.2.2.1))), (6, .ref (ad (24 + 5 * j))), (0, .ref (ad 57)), (1, .long d), (5, .int (nI j))]) hx hb dX4_mixedWithOrders_28 rfl hl (by decide) rfl (fun ls hl => ?_)
        refine lv_iconst (v := nI 0) hx hb dX4_mixedWithOrders_29 (by decide) ?_
        refine lv_istore (lv' := [(7, .int (nI 0)), (3, .long (mixI x5 ((S.2.1 j).2.2.2.2.1))), (6, .ref (ad (24 + 5 * j))), (0, .ref (ad 57)), (1, .long d), (5, .int (nI j))]) hx hb dX4_mixedWithOrders_30 hl (by decide) rfl (fun ls hl => ?_)
        have loop32 : ∀ (fuel : Nat) (x7 : Int64) (q : Nat) (hq : q ≤ (S.2.1 j).2.2.2.2.1) (hx7 : x7 = iterL (fun k d => mixI (mixI d ((S.2.1 j).1 k)) (bN ((S.2.1 j).2.1 k))) q (mixI x5 (S.2.1 j).2.2.2.2.1)), (S.2.1 j).2.2.2.2.1 - q < fuel → ∀ ls : Array Slot, lv_has ls 8 [(0, .ref (ad 57)), (1, .long d), (3, .long x7), (5, .int (nI j)), (6, .ref (ad (24 + 5 * j))), (7, .int (nI q))] → W p l e ({ frames := 1, cells := 0, slots := 0, locals := 22 } : Room) s m ([.ref (ad 57), .long d]).toArray below meth c s.heap [] 0 0 (MQ below (vp_Sl (fun r => r = mixOrders S d)) ([.ref (ad 57), .long d]).toArray s 0 0 (fun _ => False)) (F0 m 32 ls []) := by
          intro fuel
          induction fuel with
          | zero => intro x7 q hq hx7 hf; exact absurd hf (Nat.not_lt_zero _)
          | succ fuel ih32 =>
            intro x7 q hq hx7 hf ls hl
            refine lv_iload hx hb dX4_mixedWithOrders_32 (lv_at hl 5 rfl) ?_
            refine lv_aload hx hb dX4_mixedWithOrders_34 (lv_at hl 4 rfl) ?_
            refine kx_cr (v := nI ((S.2.1 j).2.2.2.2.1)) (va_runV (As := []) (rest := [.int (nI q)]) ⟨hx, hb, hml, hown, hts⟩ (m_X1_length l dC dI ad S j  (by omega)) (cwV 0 hts gX4_mixedWithOrders_X1_length rfl rfl rfl hdX1_length_0 ⟨Nat.le_of_ble_eq_true rfl, Nat.le_of_ble_eq_true rfl⟩) (hX.preOrd (by omega)) rfl rfl hl.1 rfl (lv_room (Nat.le_of_ble_eq_true rfl)) dX4_mixedWithOrders_36 ⟨Nat.le_of_ble_eq_true rfl, Nat.le_of_ble_eq_true rfl⟩) (fun _ h => h) ?_
            refine kn_icmp_ge (tgt := 80) hx hb (by omega) (by omega) dX4_mixedWithOrders_39 (by decide) (fun k_2 => ?_) (fun k_2 => ?_)
            · skip
              refine lv_lload_n hx hb dX4_mixedWithOrders_80 rfl (lv_at hl 2 rfl) ?_
              refine lv_aload hx hb dX4_mixedWithOrders_81 (lv_at hl 4 rfl) ?_
              refine kx_cr (v := nI ((S.2.1 j).2.2.2.2.2)) (va_runV (As := []) (rest := [.long x7]) ⟨hx, hb, hml, hown, hts⟩ (m_X1_classCount l dC dI ad S j  (by omega)) (cwV 0 hts gX4_mixedWithOrders_X1_classCount rfl rfl rfl hdX1_classCount_0 ⟨Nat.le_of_ble_eq_true rfl, Nat.le_of_ble_eq_true rfl⟩) (hX.preOrd (by omega)) rfl rfl hl.1 rfl (lv_room (Nat.le_of_ble_eq_true rfl)) dX4_mixedWithOrders_83 ⟨Nat.le_of_ble_eq_true rfl, Nat.le_of_ble_eq_true rfl⟩) (fun _ h => h) ?_
              refine kx_crl (v := mixI x7 ((S.2.1 j).2.2.2.2.2)) (va_runS (As := [.long x7, .int (nI ((S.2.1 j).2.2.2.2.2))]) (rest := []) ⟨hx, hb, hml, hown, hts⟩ (m_X4_mixed l dC dI ad S x7 ((S.2.1 j).2.2.2.2.2) (by omega)) (va_cwS 2 hts gX4_mixedWithOrders_X4_mixed rfl rfl rfl hdX4_mixed_2.2 ⟨Nat.le_of_ble_eq_true rfl, Nat.le_of_ble_eq_true rfl⟩) hX.preS rfl rfl hl.1 rfl (lv_room (Nat.le_of_ble_eq_true rfl)) dX4_mixedWithOrders_86 ⟨Nat.le_of_ble_eq_true rfl, Nat.le_of_ble_eq_true rfl⟩) (fun _ h => h) ?_
              refine lv_lstore_n (lv' := [(3, .long (mixI x7 ((S.2.1 j).2.2.2.2.2))), (0, .ref (ad 57)), (1, .long d), (5, .int (nI j)), (6, .ref (ad (24 + 5 * j))), (7, .int (nI q))]) hx hb dX4_mixedWithOrders_89 rfl hl (by decide) rfl (fun ls hl => ?_)
              refine lv_iconst (v := nI 0) hx hb dX4_mixedWithOrders_90 (by decide) ?_
              refine lv_istore (lv' := [(7, .int (nI 0)), (3, .long (mixI x7 ((S.2.1 j).2.2.2.2.2))), (0, .ref (ad 57)), (1, .long d), (5, .int (nI j)), (6, .ref (ad (24 + 5 * j)))]) hx hb dX4_mixedWithOrders_91 hl (by decide) rfl (fun ls hl => ?_)
              have loop93 : ∀ (fuel : Nat) (y7 : Int64) (v : Nat) (hv : v ≤ 16) (hy7 : y7 = iterL (fun v d => mixI d ((S.2.1 j).2.2.2.1 v)) v (mixI x7 (S.2.1 j).2.2.2.2.2)), 16 - v < fuel → ∀ ls : Array Slot, lv_has ls 8 [(0, .ref (ad 57)), (1, .long d), (3, .long y7), (5, .int (nI j)), (6, .ref (ad (24 + 5 * j))), (7, .int (nI v))] → W p l e ({ frames := 1, cells := 0, slots := 0, locals := 22 } : Room) s m ([.ref (ad 57), .long d]).toArray below meth c s.heap [] 0 0 (MQ below (vp_Sl (fun r => r = mixOrders S d)) ([.ref (ad 57), .long d]).toArray s 0 0 (fun _ => False)) (F0 m 93 ls []) := by
                intro fuel
                induction fuel with
                | zero => intro y7 v hv hy7 hf; exact absurd hf (Nat.not_lt_zero _)
                | succ fuel ih93 =>
                  intro y7 v hv hy7 hf ls hl
                  refine lv_iload hx hb dX4_mixedWithOrders_93 (lv_at hl 5 rfl) ?_
                  refine lv_bipush (v := nI 16) hx hb dX4_mixedWithOrders_95 (by decide) ?_
                  refine kn_icmp_ge (tgt := 118) hx hb (by omega) (by omega) dX4_mixedWithOrders_97 (by decide) (fun k_3 => ?_) (fun k_3 => ?_)
                  · skip
                    refine lv_iinc (v := nI (j + 1)) (lv' := [(5, .int (nI (j + 1))), (0, .ref (ad 57)), (1, .long d), (3, .long y7), (6, .ref (ad (24 + 5 * j))), (7, .int (nI v))]) hx hb dX4_mixedWithOrders_118 hl (k := 3) rfl (nI_1 j) (by decide) rfl (fun ls hl => ?_)
                    refine lv_goto (tgt := 5) hx hb dX4_mixedWithOrders_121 (by decide) ?_
                    exact ih5  y7 (j + 1) (by omega) (by rw [hy7, hx7, hx5, show v = 16 by omega, show q = (S.2.1 j).2.2.2.2.1 by omega]; rfl) (by omega) _ (lv_sub hl [1, 2, 3, 0] rfl)
                  · skip
                    refine lv_lload_n hx hb dX4_mixedWithOrders_100 rfl (lv_at hl 2 rfl) ?_
                    refine lv_aload hx hb dX4_mixedWithOrders_101 (lv_at hl 4 rfl) ?_
                    refine lv_iload hx hb dX4_mixedWithOrders_103 (lv_at hl 5 rfl) ?_
                    refine kx_cr (v := nI (((S.2.1 j).2.2.2.1) v)) (va_runV (As := [.int (nI v)]) (rest := [.long y7]) ⟨hx, hb, hml, hown, hts⟩ (m_X1_rankOf l dC dI ad S j v (by omega) (by omega)) (cwV 1 hts gX4_mixedWithOrders_X1_rankOf rfl rfl rfl hdX1_rankOf_1 ⟨Nat.le_of_ble_eq_true rfl, Nat.le_of_ble_eq_true rfl⟩) (hX.preOrd (by omega)) rfl rfl hl.1 rfl (lv_room (Nat.le_of_ble_eq_true rfl)) dX4_mixedWithOrders_105 ⟨Nat.le_of_ble_eq_true rfl, Nat.le_of_ble_eq_true rfl⟩) (fun _ h => h) ?_
                    have hv9 := ordOK.rnk ho9 (show v < 16 by omega)
                    refine kx_crl (v := mixI y7 (((S.2.1 j).2.2.2.1) v)) (va_runS (As := [.long y7, .int (nI (((S.2.1 j).2.2.2.1) v))]) (rest := []) ⟨hx, hb, hml, hown, hts⟩ (m_X4_mixed l dC dI ad S y7 (((S.2.1 j).2.2.2.1) v) (by omega)) (va_cwS 2 hts gX4_mixedWithOrders_X4_mixed rfl rfl rfl hdX4_mixed_2.2 ⟨Nat.le_of_ble_eq_true rfl, Nat.le_of_ble_eq_true rfl⟩) hX.preS rfl rfl hl.1 rfl (lv_room (Nat.le_of_ble_eq_true rfl)) dX4_mixedWithOrders_108 ⟨Nat.le_of_ble_eq_true rfl, Nat.le_of_ble_eq_true rfl⟩) (fun _ h => h) ?_
                    refine lv_lstore_n (lv' := [(3, .long (mixI y7 (((S.2.1 j).2.2.2.1) v))), (0, .ref (ad 57)), (1, .long d), (5, .int (nI j)), (6, .ref (ad (24 + 5 * j))), (7, .int (nI v))]) hx hb dX4_mixedWithOrders_111 rfl hl (by decide) rfl (fun ls hl => ?_)
                    refine lv_iinc (v := nI (v + 1)) (lv' := [(7, .int (nI (v + 1))), (3, .long (mixI y7 (((S.2.1 j).2.2.2.1) v))), (0, .ref (ad 57)), (1, .long d), (5, .int (nI j)), (6, .ref (ad (24 + 5 * j)))]) hx hb dX4_mixedWithOrders_112 hl (k := 5) rfl (nI_1 v) (by decide) rfl (fun ls hl => ?_)
                    refine lv_goto (tgt := 93) hx hb dX4_mixedWithOrders_115 (by decide) ?_
                    exact ih93  (mixI y7 (((S.2.1 j).2.2.2.1) v)) (v + 1) (by omega) (by rw [hy7]; rfl) (by omega) _ (lv_sub hl [2, 3, 1, 4, 5, 0] rfl)
              exact loop93 (16 + 1) (mixI x7 ((S.2.1 j).2.2.2.2.2)) 0 (by omega) rfl (by omega) _ (lv_sub hl [2, 3, 1, 4, 5, 0] rfl)
            · skip
              refine lv_lload_n hx hb dX4_mixedWithOrders_42 rfl (lv_at hl 2 rfl) ?_
              refine lv_aload hx hb dX4_mixedWithOrders_43 (lv_at hl 4 rfl) ?_
              refine lv_iload hx hb dX4_mixedWithOrders_45 (lv_at hl 5 rfl) ?_
              refine kx_cr (v := nI (((S.2.1 j).1) q)) (va_runV (As := [.int (nI q)]) (rest := [.long x7]) ⟨hx, hb, hml, hown, hts⟩ (m_X1_keyOn l dC dI ad S j q (by omega) (by omega)) (cwV 1 hts gX4_mixedWithOrders_X1_keyOn rfl rfl rfl hdX1_keyOn_1 ⟨Nat.le_of_ble_eq_true rfl, Nat.le_of_ble_eq_true rfl⟩) (hX.preOrd (by omega)) rfl rfl hl.1 rfl (lv_room (Nat.le_of_ble_eq_true rfl)) dX4_mixedWithOrders_47 ⟨Nat.le_of_ble_eq_true rfl, Nat.le_of_ble_eq_true rfl⟩) (fun _ h => h) ?_
              have hk9 := ho9.1.2 q (by omega)
              refine kx_crl (v := mixI x7 (((S.2.1 j).1) q)) (va_runS (As := [.long x7, .int (nI (((S.2.1 j).1) q))]) (rest := []) ⟨hx, hb, hml, hown, hts⟩ (m_X4_mixed l dC dI ad S x7 (((S.2.1 j).1) q) (by omega)) (va_cwS 2 hts gX4_mixedWithOrders_X4_mixed rfl rfl rfl hdX4_mixed_2.2 ⟨Nat.le_of_ble_eq_true rfl, Nat.le_of_ble_eq_true rfl⟩) hX.preS rfl rfl hl.1 rfl (lv_room (Nat.le_of_ble_eq_true rfl)) dX4_mixedWithOrders_50 ⟨Nat.le_of_ble_eq_true rfl, Nat.le_of_ble_eq_true rfl⟩) (fun _ h => h) ?_
              refine lv_lstore_n (lv' := [(3, .long (mixI x7 (((S.2.1 j).1) q))), (0, .ref (ad 57)), (1, .long d), (5, .int (nI j)), (6, .ref (ad (24 + 5 * j))), (7, .int (nI q))]) hx hb dX4_mixedWithOrders_53 rfl hl (by decide) rfl (fun ls hl => ?_)
              refine lv_lload_n hx hb dX4_mixedWithOrders_54 rfl (lv_at hl 0 rfl) ?_
              refine lv_aload hx hb dX4_mixedWithOrders_55 (lv_at hl 4 rfl) ?_
              refine lv_iload hx hb dX4_mixedWithOrders_57 (lv_at hl 5 rfl) ?_
              refine kx_cr (v := bI (((S.2.1 j).2.1) q)) (va_runV (As := [.int (nI q)]) (rest := [.long (mixI x7 (((S.2.1 j).1) q))]) ⟨hx, hb, hml, hown, hts⟩ (m_X1_isDownOn l dC dI ad S j q (by omega) (by omega)) (cwV 1 hts gX4_mixedWithOrders_X1_isDownOn rfl rfl rfl hdX1_isDownOn_1 ⟨Nat.le_of_ble_eq_true rfl, Nat.le_of_ble_eq_true rfl⟩) (hX.preOrd (by omega)) rfl rfl hl.1 rfl (lv_room (Nat.le_of_ble_eq_true rfl)) dX4_mixedWithOrders_59 ⟨Nat.le_of_ble_eq_true rfl, Nat.le_of_ble_eq_true rfl⟩) (fun _ h => h) ?_
              refine kb_if_eq (tgt := 69) hx hb dX4_mixedWithOrders_62 (by decide) (fun k_4 => ?_) (fun k_4 => ?_)
              · skip
                have hc := k_4
                refine lv_iconst (v := nI 0) hx hb dX4_mixedWithOrders_69 (by decide) ?_
                refine kx_crl (v := mixI (mixI x7 (((S.2.1 j).1) q)) 0) (va_runS (As := [.long (mixI x7 (((S.2.1 j).1) q)), .int (nI 0)]) (rest := []) ⟨hx, hb, hml, hown, hts⟩ (m_X4_mixed l dC dI ad S (mixI x7 (((S.2.1 j).1) q)) 0 (by omega)) (va_cwS 2 hts gX4_mixedWithOrders_X4_mixed rfl rfl rfl hdX4_mixed_2.2 ⟨Nat.le_of_ble_eq_true rfl, Nat.le_of_ble_eq_true rfl⟩) hX.preS rfl rfl hl.1 rfl (lv_room (Nat.le_of_ble_eq_true rfl)) dX4_mixedWithOrders_70 ⟨Nat.le_of_ble_eq_true rfl, Nat.le_of_ble_eq_true rfl⟩) (fun _ h => h) ?_
                refine lv_lstore_n (lv' := [(3, .long (mixI (mixI x7 (((S.2.1 j).1) q)) 0)), (0, .ref (ad 57)), (1, .long d), (5, .int (nI j)), (6, .ref (ad (24 + 5 * j))), (7, .int (nI q))]) hx hb dX4_mixedWithOrders_73 rfl hl (by decide) rfl (fun ls hl => ?_)
                refine lv_iinc (v := nI (q + 1)) (lv' := [(7, .int (nI (q + 1))), (3, .long (mixI (mixI x7 (((S.2.1 j).1) q)) 0)), (0, .ref (ad 57)), (1, .long d), (5, .int (nI j)), (6, .ref (ad (24 + 5 * j)))]) hx hb dX4_mixedWithOrders_74 hl (k := 5) rfl (nI_1 q) (by decide) rfl (fun ls hl => ?_)
                refine lv_goto (tgt := 32) hx hb dX4_mixedWithOrders_77 (by decide) ?_
                exact ih32  (mixI (mixI x7 (((S.2.1 j).1) q)) 0) (q + 1) (by omega) (by rw [hx7]; show _ = mixI (mixI _ _) (bN ((S.2.1 j).2.1 q)); rw [hc]; rfl) (by omega) _ (lv_sub hl [2, 3, 1, 4, 5, 0] rfl)
              · skip
                have hc := k_4
                refine lv_iconst (v := nI 1) hx hb dX4_mixedWithOrders_65 (by decide) ?_
                refine lv_goto (tgt := 70) hx hb dX4_mixedWithOrders_66 (by decide) ?_
                refine kx_crl (v := mixI (mixI x7 (((S.2.1 j).1) q)) 1) (va_runS (As := [.long (mixI x7 (((S.2.1 j).1) q)), .int (nI 1)]) (rest := []) ⟨hx, hb, hml, hown, hts⟩ (m_X4_mixed l dC dI ad S (mixI x7 (((S.2.1 j).1) q)) 1 (by omega)) (va_cwS 2 hts gX4_mixedWithOrders_X4_mixed rfl rfl rfl hdX4_mixed_2.2 ⟨Nat.le_of_ble_eq_true rfl, Nat.le_of_ble_eq_true rfl⟩) hX.preS rfl rfl hl.1 rfl (lv_room (Nat.le_of_ble_eq_true rfl)) dX4_mixedWithOrders_70 ⟨Nat.le_of_ble_eq_true rfl, Nat.le_of_ble_eq_true rfl⟩) (fun _ h => h) ?_
                refine lv_lstore_n (lv' := [(3, .long (mixI (mixI x7 (((S.2.1 j).1) q)) 1)), (0, .ref (ad 57)), (1, .long d), (5, .int (nI j)), (6, .ref (ad (24 + 5 * j))), (7, .int (nI q))]) hx hb dX4_mixedWithOrders_73 rfl hl (by decide) rfl (fun ls hl => ?_)
                refine lv_iinc (v := nI (q + 1)) (lv' := [(7, .int (nI (q + 1))), (3, .long (mixI (mixI x7 (((S.2.1 j).1) q)) 1)), (0, .ref (ad 57)), (1, .long d), (5, .int (nI j)), (6, .ref (ad (24 + 5 * j)))]) hx hb dX4_mixedWithOrders_74 hl (k := 5) rfl (nI_1 q) (by decide) rfl (fun ls hl => ?_)
                refine lv_goto (tgt := 32) hx hb dX4_mixedWithOrders_77 (by decide) ?_
                exact ih32  (mixI (mixI x7 (((S.2.1 j).1) q)) 1) (q + 1) (by omega) (by rw [hx7]; show _ = mixI (mixI _ _) (bN ((S.2.1 j).2.1 q)); rw [hc]; rfl) (by omega) _ (lv_sub hl [2, 3, 1, 4, 5, 0] rfl)
        exact loop32 ((S.2.1 j).2.2.2.2.1 + 1) (mixI x5 ((S.2.1 j).2.2.2.2.1)) 0 (by omega) rfl (by omega) _ (lv_sub hl [3, 4, 1, 5, 2, 0] rfl)
  exact loop5 (4 + 1) d 0 (by omega) rfl (by omega) _ (lv_sub hl [2, 3, 1, 0] rfl)
set_option maxHeartbeats 4000000 in
set_option maxRecDepth 100000 in
theorem m_X4_mixedWithPairs (l : Launch) (dC : Nat → ClassId) (dI : Nat → Nat → Nat) (ad : Nat → Nat) (S : XS) (d : Int64) (hI : InvX S) : Met l yX4_mixedWithPairs wsX4_mixedWithPairs ({ frames := 3, cells := 0, slots := 0, locals := 75 } : Room) (va_Pc [.ref (ad 57), .long d] (PX dC dI ad S)) (vp_Sl (fun r => r = mixPairs S d)) 0 0 (fun _ => False) := by
  refine Met.ofW (cc := cX4_mixedWithPairs) (maxL := 7) (ret := (some .long)) pl_X4 rfl ?_
  intro p e s m args below meth c s₁ B hml hv
  obtain ⟨rfl, hPX⟩ := hv
  have hx := B.exec
  have hb := B.bytes
  have hr := B.returns
  have hts := atoms_spec (ws := wsX4_mixedWithPairs) B.pre
  have hown : s.vm.findClass RX4 = some m.cls := findClass_of_methodNamed B.named
  have hlocks := B.notSynchronized
  have hX := WX.of hPX
  have hl := lv_entry ([.ref (ad 57), .long d]) (n := 7) (Nat.le_of_ble_eq_true rfl)
  rw [lg_entry_eq]
  generalize (lg_sl ([.ref (ad 57), .long d]) ++ List.replicate (7 - (lg_sl ([.ref (ad 57), .long d])).length) Slot.unset).toArray = ls at hl ⊢
  have hl : lv_has ls 7 [(0, .ref (ad 57)), (1, .long d)] := hl
  show W p l e ({ frames := 3, cells := 0, slots := 0, locals := 75 } : Room) s m ([.ref (ad 57), .long d]).toArray below meth c s.heap [] 0 0 (MQ below (vp_Sl (fun r => r = mixPairs S d)) ([.ref (ad 57), .long d]).toArray s 0 0 (fun _ => False)) (F0 m 0 ls [])
  refine lv_lload_n hx hb dX4_mixedWithPairs_0 rfl (lv_at hl 1 rfl) ?_
  refine lv_lstore_n (lv' := [(3, .long d), (0, .ref (ad 57)), (1, .long d)]) hx hb dX4_mixedWithPairs_1 rfl hl (by decide) rfl (fun ls hl => ?_)
  refine lv_iconst (v := nI 0) hx hb dX4_mixedWithPairs_2 (by decide) ?_
  refine lv_istore (lv' := [(5, .int (nI 0)), (3, .long d), (0, .ref (ad 57)), (1, .long d)]) hx hb dX4_mixedWithPairs_3 hl (by decide) rfl (fun ls hl => ?_)
  have loop5 : ∀ (fuel : Nat) (x5 : Int64) (a : Nat) (ha : a ≤ 4) (hx5 : x5 = iterL (fun a d => iterL (mixPair S a) 4 d) a d), 4 - a < fuel → ∀ ls : Array Slot, lv_has ls 7 [(0, .ref (ad 57)), (1, .long d), (3, .long x5), (5, .int (nI a))] → W p l e ({ frames := 3, cells := 0, slots := 0, locals := 75 } : Room) s m ([.ref (ad 57), .long d]).toArray below meth c s.heap [] 0 0 (MQ below (vp_Sl (fun r => r = mixPairs S d)) ([.ref (ad 57), .long d]).toArray s 0 0 (fun _ => False)) (F0 m 5 ls []) := by
    intro fuel
    induction fuel with
    | zero => intro x5 a ha hx5 hf; exact absurd hf (Nat.not_lt_zero _)
    | succ fuel ih5 =>
      intro x5 a ha hx5 hf ls hl
      refine lv_iload hx hb dX4_mixedWithPairs_5 (lv_at hl 3 rfl) ?_
      refine lv_iconst (v := nI 4) hx hb dX4_mixedWithPairs_7 (by decide) ?_
      refine kn_icmp_ge (tgt := 80) hx hb (by omega) (by omega) dX4_mixedWithPairs_8 (by decide) (fun k_1 => ?_) (fun k_1 => ?_)
      · skip
        refine lv_lload_n hx hb dX4_mixedWithPairs_80 rfl (lv_at hl 2 rfl) ?_
        exact W.lret (v := x5) hx hb hr (fun t9 ht9 hW9 => ⟨_, rfl, (by rw [hx5, show a = 4 by omega]; rfl), ht9⟩) (fun _ h => nomatch h) dX4_mixedWithPairs_81
      · skip
        refine lv_iconst (v := nI 0) hx hb dX4_mixedWithPairs_11 (by decide) ?_
        refine lv_istore (lv' := [(6, .int (nI 0)), (0, .ref (ad 57)), (1, .long d), (3, .long x5), (5, .int (nI a))]) hx hb dX4_mixedWithPairs_12 hl (by decide) rfl (fun ls hl => ?_)
        have loop14 : ∀ (fuel : Nat) (x6 : Int64) (b9 : Nat) (hb9 : b9 ≤ 4) (hx6 : x6 = iterL (mixPair S a) b9 x5), 4 - b9 < fuel → ∀ ls : Array Slot, lv_has ls 7 [(0, .ref (ad 57)), (1, .long d), (3, .long x6), (5, .int (nI a)), (6, .int (nI b9))] → W p l e ({ frames := 3, cells := 0, slots := 0, locals := 75 } : Room) s m ([.ref (ad 57), .long d]).toArray below meth c s.heap [] 0 0 (MQ below (vp_Sl (fun r => r = mixPairs S d)) ([.ref (ad 57), .long d]).toArray s 0 0 (fun _ => False)) (F0 m 14 ls []) := by
          intro fuel
          induction fuel with
          | zero => intro x6 b9 hb9 hx6 hf; exact absurd hf (Nat.not_lt_zero _)
          | succ fuel ih14 =>
            intro x6 b9 hb9 hx6 hf ls hl
            refine lv_iload hx hb dX4_mixedWithPairs_14 (lv_at hl 4 rfl) ?_
            refine lv_iconst (v := nI 4) hx hb dX4_mixedWithPairs_16 (by decide) ?_
            refine kn_icmp_ge (tgt := 74) hx hb (by omega) (by omega) dX4_mixedWithPairs_17 (by decide) (fun k_2 => ?_) (fun k_2 => ?_)
            · skip
              refine lv_iinc (v := nI (a + 1)) (lv' := [(5, .int (nI (a + 1))), (0, .ref (ad 57)), (1, .long d), (3, .long x6), (6, .int (nI b9))]) hx hb dX4_mixedWithPairs_74 hl (k := 3) rfl (nI_1 a) (by decide) rfl (fun ls hl => ?_)
              refine lv_goto (tgt := 5) hx hb dX4_mixedWithPairs_77 (by decide) ?_
              exact ih5  x6 (a + 1) (by omega) (by rw [hx6, hx5, show b9 = 4 by omega]; rfl) (by omega) _ (lv_sub hl [1, 2, 3, 0] rfl)
            · skip
              refine lv_lload_n hx hb dX4_mixedWithPairs_20 rfl (lv_at hl 2 rfl) ?_
              refine lv_aload_n hx hb dX4_mixedWithPairs_21 rfl (lv_at hl 0 rfl) ?_
              refine lv_iload hx hb dX4_mixedWithPairs_22 (lv_at hl 3 rfl) ?_
              refine va_csr (va_Run.run (va_runV (As := [.int (nI a)]) (rest := [.long x6]) ⟨hx, hb, hml, hown, hts⟩ (m_X4_orderAt l dC dI ad S a (by omega)) (cwV 1 hts gX4_mixedWithPairs_X4_orderAt rfl rfl rfl hdX4_orderAt_1 ⟨Nat.le_of_ble_eq_true rfl, Nat.le_of_ble_eq_true rfl⟩) (hX.preTop 57 6 (by decide) (by decide) rfl rfl) rfl rfl hl.1 rfl (lv_room (Nat.le_of_ble_eq_true rfl)) dX4_mixedWithPairs_24 ⟨Nat.le_of_ble_eq_true rfl, Nat.le_of_ble_eq_true rfl⟩)) (fun k_ hk_ => ?_)
              rw [hk_]
              refine lv_aload_n hx hb dX4_mixedWithPairs_27 rfl (lv_at hl 0 rfl) ?_
              refine lv_iload hx hb dX4_mixedWithPairs_28 (lv_at hl 4 rfl) ?_
              refine va_csr (va_Run.run (va_runV (As := [.int (nI b9)]) (rest := [.ref (ad (24 + 5 * a)), .long x6]) ⟨hx, hb, hml, hown, hts⟩ (m_X4_orderAt l dC dI ad S b9 (by omega)) (cwV 1 hts gX4_mixedWithPairs_X4_orderAt rfl rfl rfl hdX4_orderAt_1 ⟨Nat.le_of_ble_eq_true rfl, Nat.le_of_ble_eq_true rfl⟩) (hX.preTop 57 6 (by decide) (by decide) rfl rfl) rfl rfl hl.1 rfl (lv_room (Nat.le_of_ble_eq_true rfl)) dX4_mixedWithPairs_30 ⟨Nat.le_of_ble_eq_true rfl, Nat.le_of_ble_eq_true rfl⟩)) (fun k_ hk_ => ?_)
              rw [hk_]
              refine kx_cr (v := nI (apartN (S.2.1 a).2.2.1 (S.2.1 b9).2.2.1)) (va_runS (As := [.ref (ad (24 + 5 * a)), .ref (ad (24 + 5 * b9))]) (rest := [.long x6]) ⟨hx, hb, hml, hown, hts⟩ (m_X4_pairsApart l dC dI ad S a b9 (by omega) (by omega) (hI.2 a (by omega)) (hI.2 b9 (by omega))) (va_cwS 2 hts gX4_mixedWithPairs_X4_pairsApart rfl rfl rfl hdX4_pairsApart_2.2 ⟨Nat.le_of_ble_eq_true rfl, Nat.le_of_ble_eq_true rfl⟩) hX.preS rfl rfl hl.1 rfl (lv_room (Nat.le_of_ble_eq_true rfl)) dX4_mixedWithPairs_33 ⟨Nat.le_of_ble_eq_true rfl, Nat.le_of_ble_eq_true rfl⟩) (fun _ h => h) ?_
              have h1 := apartN_le (S.2.1 a).2.2.1 (S.2.1 b9).2.2.1
              refine kx_crl (v := mixI x6 (apartN (S.2.1 a).2.2.1 (S.2.1 b9).2.2.1)) (va_runS (As := [.long x6, .int (nI (apartN (S.2.1 a).2.2.1 (S.2.1 b9).2.2.1))]) (rest := []) ⟨hx, hb, hml, hown, hts⟩ (m_X4_mixed l dC dI ad S x6 (apartN (S.2.1 a).2.2.1 (S.2.1 b9).2.2.1) (by omega)) (va_cwS 2 hts gX4_mixedWithPairs_X4_mixed rfl rfl rfl hdX4_mixed_2.2 ⟨Nat.le_of_ble_eq_true rfl, Nat.le_of_ble_eq_true rfl⟩) hX.preS rfl rfl hl.1 rfl (lv_room (Nat.le_of_ble_eq_true rfl)) dX4_mixedWithPairs_36 ⟨Nat.le_of_ble_eq_true rfl, Nat.le_of_ble_eq_true rfl⟩) (fun _ h => h) ?_
              refine lv_lstore_n (lv' := [(3, .long (mixI x6 (apartN (S.2.1 a).2.2.1 (S.2.1 b9).2.2.1))), (0, .ref (ad 57)), (1, .long d), (5, .int (nI a)), (6, .int (nI b9))]) hx hb dX4_mixedWithPairs_39 rfl hl (by decide) rfl (fun ls hl => ?_)
              refine lv_lload_n hx hb dX4_mixedWithPairs_40 rfl (lv_at hl 0 rfl) ?_
              refine lv_aload_n hx hb dX4_mixedWithPairs_41 rfl (lv_at hl 1 rfl) ?_
              refine lv_iload hx hb dX4_mixedWithPairs_42 (lv_at hl 3 rfl) ?_
              refine va_csr (va_Run.run (va_runV (As := [.int (nI a)]) (rest := [.long (mixI x6 (apartN (S.2.1 a).2.2.1 (S.2.1 b9).2.2.1))]) ⟨hx, hb, hml, hown, hts⟩ (m_X4_orderAt l dC dI ad S a (by omega)) (cwV 1 hts gX4_mixedWithPairs_X4_orderAt rfl rfl rfl hdX4_orderAt_1 ⟨Nat.le_of_ble_eq_true rfl, Nat.le_of_ble_eq_true rfl⟩) (hX.preTop 57 6 (by decide) (by decide) rfl rfl) rfl rfl hl.1 rfl (lv_room (Nat.le_of_ble_eq_true rfl)) dX4_mixedWithPairs_44 ⟨Nat.le_of_ble_eq_true rfl, Nat.le_of_ble_eq_true rfl⟩)) (fun k_ hk_ => ?_)
              rw [hk_]
              refine lv_aload_n hx hb dX4_mixedWithPairs_47 rfl (lv_at hl 1 rfl) ?_
              refine lv_iload hx hb dX4_mixedWithPairs_48 (lv_at hl 4 rfl) ?_
              refine va_csr (va_Run.run (va_runV (As := [.int (nI b9)]) (rest := [.ref (ad (24 + 5 * a)), .long (mixI x6 (apartN (S.2.1 a).2.2.1 (S.2.1 b9).2.2.1))]) ⟨hx, hb, hml, hown, hts⟩ (m_X4_orderAt l dC dI ad S b9 (by omega)) (cwV 1 hts gX4_mixedWithPairs_X4_orderAt rfl rfl rfl hdX4_orderAt_1 ⟨Nat.le_of_ble_eq_true rfl, Nat.le_of_ble_eq_true rfl⟩) (hX.preTop 57 6 (by decide) (by decide) rfl rfl) rfl rfl hl.1 rfl (lv_room (Nat.le_of_ble_eq_true rfl)) dX4_mixedWithPairs_50 ⟨Nat.le_of_ble_eq_true rfl, Nat.le_of_ble_eq_true rfl⟩)) (fun k_ hk_ => ?_)
              rw [hk_]
              refine kx_cr (v := bI (finerB (S.2.1 a).2.2.1 (S.2.1 b9).2.2.1)) (va_runV (As := [.ref (ad (24 + 5 * b9))]) (rest := [.long (mixI x6 (apartN (S.2.1 a).2.2.1 (S.2.1 b9).2.2.1))]) ⟨hx, hb, hml, hown, hts⟩ (m_X1_isFinerThan l dC dI ad S a b9 (by omega) (by omega) (hI.2 a (by omega)) (hI.2 b9 (by omega))) (cwV 1 hts gX4_mixedWithPairs_X1_isFinerThan rfl rfl rfl hdX1_isFinerThan_1 ⟨Nat.le_of_ble_eq_true rfl, Nat.le_of_ble_eq_true rfl⟩) (hX.preOrd (by omega)) rfl rfl hl.1 rfl (lv_room (Nat.le_of_ble_eq_true rfl)) dX4_mixedWithPairs_53 ⟨Nat.le_of_ble_eq_true rfl, Nat.le_of_ble_eq_true rfl⟩) (fun _ h => h) ?_
              refine kb_if_eq (tgt := 63) hx hb dX4_mixedWithPairs_56 (by decide) (fun k_3 => ?_) (fun k_3 => ?_)
              · skip
                have hc := k_3
                refine lv_iconst (v := nI 0) hx hb dX4_mixedWithPairs_63 (by decide) ?_
                refine kx_crl (v := mixI (mixI x6 (apartN (S.2.1 a).2.2.1 (S.2.1 b9).2.2.1)) 0) (va_runS (As := [.long (mixI x6 (apartN (S.2.1 a).2.2.1 (S.2.1 b9).2.2.1)), .int (nI 0)]) (rest := []) ⟨hx, hb, hml, hown, hts⟩ (m_X4_mixed l dC dI ad S (mixI x6 (apartN (S.2.1 a).2.2.1 (S.2.1 b9).2.2.1)) 0 (by omega)) (va_cwS 2 hts gX4_mixedWithPairs_X4_mixed rfl rfl rfl hdX4_mixed_2.2 ⟨Nat.le_of_ble_eq_true rfl, Nat.le_of_ble_eq_true rfl⟩) hX.preS rfl rfl hl.1 rfl (lv_room (Nat.le_of_ble_eq_true rfl)) dX4_mixedWithPairs_64 ⟨Nat.le_of_ble_eq_true rfl, Nat.le_of_ble_eq_true rfl⟩) (fun _ h => h) ?_
                refine lv_lstore_n (lv' := [(3, .long (mixI (mixI x6 (apartN (S.2.1 a).2.2.1 (S.2.1 b9).2.2.1)) 0)), (0, .ref (ad 57)), (1, .long d), (5, .int (nI a)), (6, .int (nI b9))]) hx hb dX4_mixedWithPairs_67 rfl hl (by decide) rfl (fun ls hl => ?_)
                refine lv_iinc (v := nI (b9 + 1)) (lv' := [(6, .int (nI (b9 + 1))), (3, .long (mixI (mixI x6 (apartN (S.2.1 a).2.2.1 (S.2.1 b9).2.2.1)) 0)), (0, .ref (ad 57)), (1, .long d), (5, .int (nI a))]) hx hb dX4_mixedWithPairs_68 hl (k := 4) rfl (nI_1 b9) (by decide) rfl (fun ls hl => ?_)
                refine lv_goto (tgt := 14) hx hb dX4_mixedWithPairs_71 (by decide) ?_
                exact ih14  (mixI (mixI x6 (apartN (S.2.1 a).2.2.1 (S.2.1 b9).2.2.1)) 0) (b9 + 1) (by omega) (by rw [hx6]; show _ = mixI (mixI _ _) (bN (finerB (S.2.1 a).2.2.1 (S.2.1 b9).2.2.1)); rw [hc]; rfl) (by omega) _ (lv_sub hl [2, 3, 1, 4, 0] rfl)
              · skip
                have hc := k_3
                refine lv_iconst (v := nI 1) hx hb dX4_mixedWithPairs_59 (by decide) ?_
                refine lv_goto (tgt := 64) hx hb dX4_mixedWithPairs_60 (by decide) ?_
                refine kx_crl (v := mixI (mixI x6 (apartN (S.2.1 a).2.2.1 (S.2.1 b9).2.2.1)) 1) (va_runS (As := [.long (mixI x6 (apartN (S.2.1 a).2.2.1 (S.2.1 b9).2.2.1)), .int (nI 1)]) (rest := []) ⟨hx, hb, hml, hown, hts⟩ (m_X4_mixed l dC dI ad S (mixI x6 (apartN (S.2.1 a).2.2.1 (S.2.1 b9).2.2.1)) 1 (by omega)) (va_cwS 2 hts gX4_mixedWithPairs_X4_mixed rfl rfl rfl hdX4_mixed_2.2 ⟨Nat.le_of_ble_eq_true rfl, Nat.le_of_ble_eq_true rfl⟩) hX.preS rfl rfl hl.1 rfl (lv_room (Nat.le_of_ble_eq_true rfl)) dX4_mixedWithPairs_64 ⟨Nat.le_of_ble_eq_true rfl, Nat.le_of_ble_eq_true rfl⟩) (fun _ h => h) ?_
                refine lv_lstore_n (lv' := [(3, .long (mixI (mixI x6 (apartN (S.2.1 a).2.2.1 (S.2.1 b9).2.2.1)) 1)), (0, .ref (ad 57)), (1, .long d), (5, .int (nI a)), (6, .int (nI b9))]) hx hb dX4_mixedWithPairs_67 rfl hl (by decide) rfl (fun ls hl => ?_)
                refine lv_iinc (v := nI (b9 + 1)) (lv' := [(6, .int (nI (b9 + 1))), (3, .long (mixI (mixI x6 (apartN (S.2.1 a).2.2.1 (S.2.1 b9).2.2.1)) 1)), (0, .ref (ad 57)), (1, .long d), (5, .int (nI a))]) hx hb dX4_mixedWithPairs_68 hl (k := 4) rfl (nI_1 b9) (by decide) rfl (fun ls hl => ?_)
                refine lv_goto (tgt := 14) hx hb dX4_mixedWithPairs_71 (by decide) ?_
                exact ih14  (mixI (mixI x6 (apartN (S.2.1 a).2.2.1 (S.2.1 b9).2.2.1)) 1) (b9 + 1) (by omega) (by rw [hx6]; show _ = mixI (mixI _ _) (bN (finerB (S.2.1 a).2.2.1 (S.2.1 b9).2.2.1)); rw [hc]; rfl) (by omega) _ (lv_sub hl [2, 3, 1, 4, 0] rfl)
        exact loop14 (4 + 1) x5 0 (by omega) rfl (by omega) _ (lv_sub hl [1, 2, 3, 4, 0] rfl)
  exact loop5 (4 + 1) d 0 (by omega) rfl (by omega) _ (lv_sub hl [2, 3, 1, 0] rfl)
set_option maxHeartbeats 4000000 in
set_option maxRecDepth 100000 in
theorem m_X4_mixedWithSequences (l : Launch) (dC : Nat → ClassId) (dI : Nat → Nat → Nat) (ad : Nat → Nat) (S : XS) (d : Int64) (hI : InvX S) : Met l yX4_mixedWithSequences wsX4_mixedWithSequences ({ frames := 3, cells := 0, slots := 0, locals := 72 } : Room) (va_Pc [.ref (ad 57), .long d] (PX dC dI ad S)) (vp_Sl (fun r => r = mixSeqs S d)) 0 0 (fun _ => False) := by
  refine Met.ofW (cc := cX4_mixedWithSequences) (maxL := 7) (ret := (some .long)) pl_X4 rfl ?_
  intro p e s m args below meth c s₁ B hml hv
  obtain ⟨rfl, hPX⟩ := hv
  have hx := B.exec
  have hb := B.bytes
  have hr := B.returns
  have hts := atoms_spec (ws := wsX4_mixedWithSequences) B.pre
  have hown : s.vm.findClass RX4 = some m.cls := findClass_of_methodNamed B.named
  have hlocks := B.notSynchronized
  have hX := WX.of hPX
  have hl := lv_entry ([.ref (ad 57), .long d]) (n := 7) (Nat.le_of_ble_eq_true rfl)
  rw [lg_entry_eq]
  generalize (lg_sl ([.ref (ad 57), .long d]) ++ List.replicate (7 - (lg_sl ([.ref (ad 57), .long d])).length) Slot.unset).toArray = ls at hl ⊢
  have hl : lv_has ls 7 [(0, .ref (ad 57)), (1, .long d)] := hl
  show W p l e ({ frames := 3, cells := 0, slots := 0, locals := 72 } : Room) s m ([.ref (ad 57), .long d]).toArray below meth c s.heap [] 0 0 (MQ below (vp_Sl (fun r => r = mixSeqs S d)) ([.ref (ad 57), .long d]).toArray s 0 0 (fun _ => False)) (F0 m 0 ls [])
  refine lv_lload_n hx hb dX4_mixedWithSequences_0 rfl (lv_at hl 1 rfl) ?_
  refine lv_lstore_n (lv' := [(3, .long d), (0, .ref (ad 57)), (1, .long d)]) hx hb dX4_mixedWithSequences_1 rfl hl (by decide) rfl (fun ls hl => ?_)
  refine lv_iconst (v := nI 0) hx hb dX4_mixedWithSequences_2 (by decide) ?_
  refine lv_istore (lv' := [(5, .int (nI 0)), (3, .long d), (0, .ref (ad 57)), (1, .long d)]) hx hb dX4_mixedWithSequences_3 hl (by decide) rfl (fun ls hl => ?_)
  have loop5 : ∀ (fuel : Nat) (x5 : Int64) (a : Nat) (ha : a ≤ 3) (hx5 : x5 = iterL (fun i d => iterL (mixSeq S i) 4 d) a d), 3 - a < fuel → ∀ ls : Array Slot, lv_has ls 7 [(0, .ref (ad 57)), (1, .long d), (3, .long x5), (5, .int (nI a))] → W p l e ({ frames := 3, cells := 0, slots := 0, locals := 72 } : Room) s m ([.ref (ad 57), .long d]).toArray below meth c s.heap [] 0 0 (MQ below (vp_Sl (fun r => r = mixSeqs S d)) ([.ref (ad 57), .long d]).toArray s 0 0 (fun _ => False)) (F0 m 5 ls []) := by
    intro fuel
    induction fuel with
    | zero => intro x5 a ha hx5 hf; exact absurd hf (Nat.not_lt_zero _)
    | succ fuel ih5 =>
      intro x5 a ha hx5 hf ls hl
      refine lv_iload hx hb dX4_mixedWithSequences_5 (lv_at hl 3 rfl) ?_
      refine lv_iconst (v := nI 3) hx hb dX4_mixedWithSequences_7 (by decide) ?_
      refine kn_icmp_ge (tgt := 80) hx hb (by omega) (by omega) dX4_mixedWithSequences_8 (by decide) (fun k_1 => ?_) (fun k_1 => ?_)
      · skip
        refine lv_lload_n hx hb dX4_mixedWithSequences_80 rfl (lv_at hl 2 rfl) ?_
        exact W.lret (v := x5) hx hb hr (fun t9 ht9 hW9 => ⟨_, rfl, (by rw [hx5, show a = 3 by omega]; rfl), ht9⟩) (fun _ h => nomatch h) dX4_mixedWithSequences_81
      · skip
        refine lv_iconst (v := nI 0) hx hb dX4_mixedWithSequences_11 (by decide) ?_
        refine lv_istore (lv' := [(6, .int (nI 0)), (0, .ref (ad 57)), (1, .long d), (3, .long x5), (5, .int (nI a))]) hx hb dX4_mixedWithSequences_12 hl (by decide) rfl (fun ls hl => ?_)
        have loop14 : ∀ (fuel : Nat) (x6 : Int64) (b9 : Nat) (hb9 : b9 ≤ 4) (hx6 : x6 = iterL (mixSeq S a) b9 x5), 4 - b9 < fuel → ∀ ls : Array Slot, lv_has ls 7 [(0, .ref (ad 57)), (1, .long d), (3, .long x6), (5, .int (nI a)), (6, .int (nI b9))] → W p l e ({ frames := 3, cells := 0, slots := 0, locals := 72 } : Room) s m ([.ref (ad 57), .long d]).toArray below meth c s.heap [] 0 0 (MQ below (vp_Sl (fun r => r = mixSeqs S d)) ([.ref (ad 57), .long d]).toArray s 0 0 (fun _ => False)) (F0 m 14 ls []) := by
          intro fuel
          induction fuel with
          | zero => intro x6 b9 hb9 hx6 hf; exact absurd hf (Nat.not_lt_zero _)
          | succ fuel ih14 =>
            intro x6 b9 hb9 hx6 hf ls hl
            refine lv_iload hx hb dX4_mixedWithSequences_14 (lv_at hl 4 rfl) ?_
            refine lv_iconst (v := nI 4) hx hb dX4_mixedWithSequences_16 (by decide) ?_
            refine kn_icmp_ge (tgt := 74) hx hb (by omega) (by omega) dX4_mixedWithSequences_17 (by decide) (fun k_2 => ?_) (fun k_2 => ?_)
            · skip
              refine lv_iinc (v := nI (a + 1)) (lv' := [(5, .int (nI (a + 1))), (0, .ref (ad 57)), (1, .long d), (3, .long x6), (6, .int (nI b9))]) hx hb dX4_mixedWithSequences_74 hl (k := 3) rfl (nI_1 a) (by decide) rfl (fun ls hl => ?_)
              refine lv_goto (tgt := 5) hx hb dX4_mixedWithSequences_77 (by decide) ?_
              exact ih5  x6 (a + 1) (by omega) (by rw [hx6, hx5, show b9 = 4 by omega]; rfl) (by omega) _ (lv_sub hl [1, 2, 3, 0] rfl)
            · skip
              refine lv_lload_n hx hb dX4_mixedWithSequences_20 rfl (lv_at hl 2 rfl) ?_
              refine lv_aload_n hx hb dX4_mixedWithSequences_21 rfl (lv_at hl 0 rfl) ?_
              refine lv_iload hx hb dX4_mixedWithSequences_22 (lv_at hl 3 rfl) ?_
              refine va_csr (va_Run.run (va_runV (As := [.int (nI a)]) (rest := [.long x6]) ⟨hx, hb, hml, hown, hts⟩ (m_X4_rowAt l dC dI ad S a (by omega)) (cwV 1 hts gX4_mixedWithSequences_X4_rowAt rfl rfl rfl hdX4_rowAt_1 ⟨Nat.le_of_ble_eq_true rfl, Nat.le_of_ble_eq_true rfl⟩) (hX.preTop 57 6 (by decide) (by decide) rfl rfl) rfl rfl hl.1 rfl (lv_room (Nat.le_of_ble_eq_true rfl)) dX4_mixedWithSequences_24 ⟨Nat.le_of_ble_eq_true rfl, Nat.le_of_ble_eq_true rfl⟩)) (fun k_ hk_ => ?_)
              rw [hk_]
              refine lv_aload_n hx hb dX4_mixedWithSequences_27 rfl (lv_at hl 0 rfl) ?_
              refine lv_iload hx hb dX4_mixedWithSequences_28 (lv_at hl 4 rfl) ?_
              refine va_csr (va_Run.run (va_runV (As := [.int (nI b9)]) (rest := [.ref (ad (3 * a)), .long x6]) ⟨hx, hb, hml, hown, hts⟩ (m_X4_orderAt l dC dI ad S b9 (by omega)) (cwV 1 hts gX4_mixedWithSequences_X4_orderAt rfl rfl rfl hdX4_orderAt_1 ⟨Nat.le_of_ble_eq_true rfl, Nat.le_of_ble_eq_true rfl⟩) (hX.preTop 57 6 (by decide) (by decide) rfl rfl) rfl rfl hl.1 rfl (lv_room (Nat.le_of_ble_eq_true rfl)) dX4_mixedWithSequences_30 ⟨Nat.le_of_ble_eq_true rfl, Nat.le_of_ble_eq_true rfl⟩)) (fun k_ hk_ => ?_)
              rw [hk_]
              refine kx_cr (v := nI (cntB (firstB (S.2.1 b9).2.2.1 (S.1 a).1) (S.1 a).2.2)) (va_runV (As := [.ref (ad (24 + 5 * b9))]) (rest := [.long x6]) ⟨hx, hb, hml, hown, hts⟩ (m_X2_lots l dC dI ad S a b9 (by omega) (by omega) (hI.1 a (by omega)) (hI.2 b9 (by omega))) (cwV 1 hts gX4_mixedWithSequences_X2_lots rfl rfl rfl hdX2_lots_1 ⟨Nat.le_of_ble_eq_true rfl, Nat.le_of_ble_eq_true rfl⟩) (hX.preRow (by omega)) rfl rfl hl.1 rfl (lv_room (Nat.le_of_ble_eq_true rfl)) dX4_mixedWithSequences_33 ⟨Nat.le_of_ble_eq_true rfl, Nat.le_of_ble_eq_true rfl⟩) (fun _ h => h) ?_
              have h1 := cntB_le (firstB (S.2.1 b9).2.2.1 (S.1 a).1) (S.1 a).2.2
              have h2 := (hI.1 a (by omega)).1
              refine kx_crl (v := mixI x6 (cntB (firstB (S.2.1 b9).2.2.1 (S.1 a).1) (S.1 a).2.2)) (va_runS (As := [.long x6, .int (nI (cntB (firstB (S.2.1 b9).2.2.1 (S.1 a).1) (S.1 a).2.2))]) (rest := []) ⟨hx, hb, hml, hown, hts⟩ (m_X4_mixed l dC dI ad S x6 (cntB (firstB (S.2.1 b9).2.2.1 (S.1 a).1) (S.1 a).2.2) (by omega)) (va_cwS 2 hts gX4_mixedWithSequences_X4_mixed rfl rfl rfl hdX4_mixed_2.2 ⟨Nat.le_of_ble_eq_true rfl, Nat.le_of_ble_eq_true rfl⟩) hX.preS rfl rfl hl.1 rfl (lv_room (Nat.le_of_ble_eq_true rfl)) dX4_mixedWithSequences_36 ⟨Nat.le_of_ble_eq_true rfl, Nat.le_of_ble_eq_true rfl⟩) (fun _ h => h) ?_
              refine lv_lstore_n (lv' := [(3, .long (mixI x6 (cntB (firstB (S.2.1 b9).2.2.1 (S.1 a).1) (S.1 a).2.2))), (0, .ref (ad 57)), (1, .long d), (5, .int (nI a)), (6, .int (nI b9))]) hx hb dX4_mixedWithSequences_39 rfl hl (by decide) rfl (fun ls hl => ?_)
              refine lv_lload_n hx hb dX4_mixedWithSequences_40 rfl (lv_at hl 0 rfl) ?_
              refine lv_aload_n hx hb dX4_mixedWithSequences_41 rfl (lv_at hl 1 rfl) ?_
              refine lv_iload hx hb dX4_mixedWithSequences_42 (lv_at hl 3 rfl) ?_
              refine va_csr (va_Run.run (va_runV (As := [.int (nI a)]) (rest := [.long (mixI x6 (cntB (firstB (S.2.1 b9).2.2.1 (S.1 a).1) (S.1 a).2.2))]) ⟨hx, hb, hml, hown, hts⟩ (m_X4_rowAt l dC dI ad S a (by omega)) (cwV 1 hts gX4_mixedWithSequences_X4_rowAt rfl rfl rfl hdX4_rowAt_1 ⟨Nat.le_of_ble_eq_true rfl, Nat.le_of_ble_eq_true rfl⟩) (hX.preTop 57 6 (by decide) (by decide) rfl rfl) rfl rfl hl.1 rfl (lv_room (Nat.le_of_ble_eq_true rfl)) dX4_mixedWithSequences_44 ⟨Nat.le_of_ble_eq_true rfl, Nat.le_of_ble_eq_true rfl⟩)) (fun k_ hk_ => ?_)
              rw [hk_]
              refine lv_aload_n hx hb dX4_mixedWithSequences_47 rfl (lv_at hl 1 rfl) ?_
              refine lv_iload hx hb dX4_mixedWithSequences_48 (lv_at hl 4 rfl) ?_
              refine va_csr (va_Run.run (va_runV (As := [.int (nI b9)]) (rest := [.ref (ad (3 * a)), .long (mixI x6 (cntB (firstB (S.2.1 b9).2.2.1 (S.1 a).1) (S.1 a).2.2))]) ⟨hx, hb, hml, hown, hts⟩ (m_X4_orderAt l dC dI ad S b9 (by omega)) (cwV 1 hts gX4_mixedWithSequences_X4_orderAt rfl rfl rfl hdX4_orderAt_1 ⟨Nat.le_of_ble_eq_true rfl, Nat.le_of_ble_eq_true rfl⟩) (hX.preTop 57 6 (by decide) (by decide) rfl rfl) rfl rfl hl.1 rfl (lv_room (Nat.le_of_ble_eq_true rfl)) dX4_mixedWithSequences_50 ⟨Nat.le_of_ble_eq_true rfl, Nat.le_of_ble_eq_true rfl⟩)) (fun k_ hk_ => ?_)
              rw [hk_]
              refine kx_cr (v := bI (seqB (S.2.1 b9).2.2.1 (S.1 a).1 (S.1 a).2.2)) (va_runV (As := [.ref (ad (24 + 5 * b9))]) (rest := [.long (mixI x6 (cntB (firstB (S.2.1 b9).2.2.1 (S.1 a).1) (S.1 a).2.2))]) ⟨hx, hb, hml, hown, hts⟩ (m_X2_isInSequenceBy l dC dI ad S a b9 (by omega) (by omega) (hI.1 a (by omega)) (hI.2 b9 (by omega))) (cwV 1 hts gX4_mixedWithSequences_X2_isInSequenceBy rfl rfl rfl hdX2_isInSequenceBy_1 ⟨Nat.le_of_ble_eq_true rfl, Nat.le_of_ble_eq_true rfl⟩) (hX.preRow (by omega)) rfl rfl hl.1 rfl (lv_room (Nat.le_of_ble_eq_true rfl)) dX4_mixedWithSequences_53 ⟨Nat.le_of_ble_eq_true rfl, Nat.le_of_ble_eq_true rfl⟩) (fun _ h => h) ?_
              refine kb_if_eq (tgt := 63) hx hb dX4_mixedWithSequences_56 (by decide) (fun k_3 => ?_) (fun k_3 => ?_)
              · skip
                have hc := k_3
                refine lv_iconst (v := nI 0) hx hb dX4_mixedWithSequences_63 (by decide) ?_
                refine kx_crl (v := mixI (mixI x6 (cntB (firstB (S.2.1 b9).2.2.1 (S.1 a).1) (S.1 a).2.2)) 0) (va_runS (As := [.long (mixI x6 (cntB (firstB (S.2.1 b9).2.2.1 (S.1 a).1) (S.1 a).2.2)), .int (nI 0)]) (rest := []) ⟨hx, hb, hml, hown, hts⟩ (m_X4_mixed l dC dI ad S (mixI x6 (cntB (firstB (S.2.1 b9).2.2.1 (S.1 a).1) (S.1 a).2.2)) 0 (by omega)) (va_cwS 2 hts gX4_mixedWithSequences_X4_mixed rfl rfl rfl hdX4_mixed_2.2 ⟨Nat.le_of_ble_eq_true rfl, Nat.le_of_ble_eq_true rfl⟩) hX.preS rfl rfl hl.1 rfl (lv_room (Nat.le_of_ble_eq_true rfl)) dX4_mixedWithSequences_64 ⟨Nat.le_of_ble_eq_true rfl, Nat.le_of_ble_eq_true rfl⟩) (fun _ h => h) ?_
                refine lv_lstore_n (lv' := [(3, .long (mixI (mixI x6 (cntB (firstB (S.2.1 b9).2.2.1 (S.1 a).1) (S.1 a).2.2)) 0)), (0, .ref (ad 57)), (1, .long d), (5, .int (nI a)), (6, .int (nI b9))]) hx hb dX4_mixedWithSequences_67 rfl hl (by decide) rfl (fun ls hl => ?_)
                refine lv_iinc (v := nI (b9 + 1)) (lv' := [(6, .int (nI (b9 + 1))), (3, .long (mixI (mixI x6 (cntB (firstB (S.2.1 b9).2.2.1 (S.1 a).1) (S.1 a).2.2)) 0)), (0, .ref (ad 57)), (1, .long d), (5, .int (nI a))]) hx hb dX4_mixedWithSequences_68 hl (k := 4) rfl (nI_1 b9) (by decide) rfl (fun ls hl => ?_)
                refine lv_goto (tgt := 14) hx hb dX4_mixedWithSequences_71 (by decide) ?_
                exact ih14  (mixI (mixI x6 (cntB (firstB (S.2.1 b9).2.2.1 (S.1 a).1) (S.1 a).2.2)) 0) (b9 + 1) (by omega) (by rw [hx6]; show _ = mixI (mixI _ _) (bN (seqB (S.2.1 b9).2.2.1 (S.1 a).1 (S.1 a).2.2)); rw [hc]; rfl) (by omega) _ (lv_sub hl [2, 3, 1, 4, 0] rfl)
              · skip
                have hc := k_3
                refine lv_iconst (v := nI 1) hx hb dX4_mixedWithSequences_59 (by decide) ?_
                refine lv_goto (tgt := 64) hx hb dX4_mixedWithSequences_60 (by decide) ?_
                refine kx_crl (v := mixI (mixI x6 (cntB (firstB (S.2.1 b9).2.2.1 (S.1 a).1) (S.1 a).2.2)) 1) (va_runS (As := [.long (mixI x6 (cntB (firstB (S.2.1 b9).2.2.1 (S.1 a).1) (S.1 a).2.2)), .int (nI 1)]) (rest := []) ⟨hx, hb, hml, hown, hts⟩ (m_X4_mixed l dC dI ad S (mixI x6 (cntB (firstB (S.2.1 b9).2.2.1 (S.1 a).1) (S.1 a).2.2)) 1 (by omega)) (va_cwS 2 hts gX4_mixedWithSequences_X4_mixed rfl rfl rfl hdX4_mixed_2.2 ⟨Nat.le_of_ble_eq_true rfl, Nat.le_of_ble_eq_true rfl⟩) hX.preS rfl rfl hl.1 rfl (lv_room (Nat.le_of_ble_eq_true rfl)) dX4_mixedWithSequences_64 ⟨Nat.le_of_ble_eq_true rfl, Nat.le_of_ble_eq_true rfl⟩) (fun _ h => h) ?_
                refine lv_lstore_n (lv' := [(3, .long (mixI (mixI x6 (cntB (firstB (S.2.1 b9).2.2.1 (S.1 a).1) (S.1 a).2.2)) 1)), (0, .ref (ad 57)), (1, .long d), (5, .int (nI a)), (6, .int (nI b9))]) hx hb dX4_mixedWithSequences_67 rfl hl (by decide) rfl (fun ls hl => ?_)
                refine lv_iinc (v := nI (b9 + 1)) (lv' := [(6, .int (nI (b9 + 1))), (3, .long (mixI (mixI x6 (cntB (firstB (S.2.1 b9).2.2.1 (S.1 a).1) (S.1 a).2.2)) 1)), (0, .ref (ad 57)), (1, .long d), (5, .int (nI a))]) hx hb dX4_mixedWithSequences_68 hl (k := 4) rfl (nI_1 b9) (by decide) rfl (fun ls hl => ?_)
                refine lv_goto (tgt := 14) hx hb dX4_mixedWithSequences_71 (by decide) ?_
                exact ih14  (mixI (mixI x6 (cntB (firstB (S.2.1 b9).2.2.1 (S.1 a).1) (S.1 a).2.2)) 1) (b9 + 1) (by omega) (by rw [hx6]; show _ = mixI (mixI _ _) (bN (seqB (S.2.1 b9).2.2.1 (S.1 a).1 (S.1 a).2.2)); rw [hc]; rfl) (by omega) _ (lv_sub hl [2, 3, 1, 4, 0] rfl)
        exact loop14 (4 + 1) x5 0 (by omega) rfl (by omega) _ (lv_sub hl [1, 2, 3, 4, 0] rfl)
  exact loop5 (3 + 1) d 0 (by omega) rfl (by omega) _ (lv_sub hl [2, 3, 1, 0] rfl)
end
section
/-! sorting by the object; round and round -/
theorem ofWF {l : Launch} {y : MethodName} {ws ws' : List Cond} {rm : Room} {Pc : Array Value → State → Prop} {Qc : Array Value → State → Outcome → State → Prop} {mc ms : Nat} {free : Addr → Prop} {cc : ByteArray} {maxL : Nat} {ret : Option FieldType} (hy : plainFor y = true) (hw : ws = Cond.code y cc maxL ret :: ws') (go : ∀ p e s m args below meth c s₁, BodyLoose p l y (headSpec ws rm) cc maxL ret e s m args below meth c s₁ → c.maxLocals = maxL → Pc args s → W p l e (headSpec ws rm).room s m args below meth c s.heap [] 0 0 (MQ below Qc args s mc ms free) (entryFrame m args maxL)) : Met l y ws rm Pc Qc mc ms free := by
  refine MetFree.of_bodySF (code := cc) (maxLocals := maxL) (ret := ret) hy (fun args s m h hn => ?_) (fun p e s m args below meth c s₁ B hml hP _ => ?_)
  · have h9 := atoms_spec (ws := ws) h _ (hw ▸ List.mem_cons_self)
    obtain ⟨u, c, h1, h2, h3, h4, h5, h6, -, -⟩ := Cond.code_spec hn h9
    exact ⟨u, c, h1, h2, h3, h4, h5, h6⟩
  · obtain ⟨t, g1, o, g2, g3, g4⟩ := go p e s m args below meth c s₁ B hml hP s₁ (by rw [B.state]; rfl) (Stand.of_body B)
    exact ⟨t, o, g1, g2, g3, g4.1, g4.2⟩
theorem xor_sign (x : Int32) {y : Int32} (hy : 0 ≤ y.toInt) : 0 ≤ (x ^^^ y) ↔ 0 ≤ x := by
  have h1 : ∀ z : Int32, z.toBitVec.msb = decide (z.toInt < 0) := fun z => BitVec.msb_eq_toInt
  have h2 := h1 (x ^^^ y)
  rw [Int32.toBitVec_xor, BitVec.msb_xor, h1 x, h1 y, decide_eq_false (show ¬ y.toInt < 0 by omega), Bool.xor_false] at h2
  have h3 := decide_eq_decide.mp h2
  rw [Int32.le_iff_toInt_le, Int32.le_iff_toInt_le, Int32.toInt_zero]
  omega
theorem fm_pos {x : Int32} {k : Nat} (h0 : 0 < k) (hk : k < 2 ^ 31) (h : 0 ≤ (x ^^^ nI k)) : x - x / nI k * nI k = fmv x (nI k) := by
  have hx : 0 ≤ x := (xor_sign x (by rw [nI_toInt hk]; omega)).mp h
  rw [Int32.le_iff_toInt_le, Int32.toInt_zero] at hx
  refine (if_pos ?_).symm
  rw [Int32.le_iff_toInt_le, rem_toInt, Int32.toInt_zero]
  exact Int.tmod_nonneg _ hx
theorem fm_zero {x : Int32} {k : Nat} (h : x - x / nI k * nI k = 0) : x - x / nI k * nI k = fmv x (nI k) := by
  unfold fmv
  rw [h]
  rfl
theorem fm_neg {x : Int32} {k : Nat} (h0 : 0 < k) (hk : k < 2 ^ 31) (h : ¬ 0 ≤ (x ^^^ nI k)) (h2 : ¬ x - x / nI k * nI k = 0) : x - x / nI k * nI k + nI k = fmv x (nI k) := by
  have hx : ¬ 0 ≤ x := fun z => h ((xor_sign x (by rw [nI_toInt hk]; omega)).mpr z)
  rw [Int32.le_iff_toInt_le, Int32.toInt_zero] at hx
  refine (if_neg ?_).symm
  intro z
  rw [Int32.le_iff_toInt_le, Int32.toInt_zero] at z
  apply h2
  apply Int32.toInt_inj.mp
  rw [Int32.toInt_zero]
  have h3 : (x - x / nI k * nI k).toInt ≤ 0 := by
    rw [rem_toInt]
    have h4 := Int.tmod_nonneg (nI k).toInt (a := -x.toInt) (by omega)
    rw [Int.neg_tmod] at h4
    omega
  omega
/-- what sort and sortPart of row i leave as it was -/
def sortA (S S1 : XS) (i : Nat) : Prop := S1.2 = S.2 ∧ (∀ k, k ≠ i → k ≠ 3 → k ≠ 4 → S1.1 k = S.1 k) ∧ rowOK (S1.1 3) ∧ rowOK (S1.1 4) ∧ rowOK (S1.1 i) ∧ (S1.1 i).2.2 = (S.1 i).2.2
theorem sortA_arr {S S2 S3 : XS} {i : Nat} (hI : InvX S) (e : S2 = xR S 4 (ovl (S.1 i).1 (S.1 4).1 (S.1 i).2.2, ovl (S.1 i).2.1 (S.1 4).2.1 (S.1 i).2.2, (S.1 i).2.2)) (h : keepR S2 S3 i (3 + 2 * 0)) (hi : i < 3) : sortA S S3 i := by
  subst e
  refine ⟨h.1, fun k h1 h2 h3 => ?_, h.2.2.1, ?_, h.2.2.2.1, ?_⟩
  · rw [h.2.1 k h1 h2, xR_ne _ _ h3]
  · rw [h.2.1 4 (by omega) (by decide), xR_row]
    exact rowOK_ovl (hI.1 4 (by decide)) (hI.1 i (by omega))
  · rw [h.2.2.2.2, xR_ne _ _ (by omega)]
theorem sortA_ins {S S2 S3 : XS} {i : Nat} (hI : InvX S) (e : S2 = xR S 4 (ovl (S.1 i).1 (S.1 4).1 (S.1 i).2.2, ovl (S.1 i).2.1 (S.1 4).2.1 (S.1 i).2.2, (S.1 i).2.2)) (h : ∃ r' : RowS, S3 = xR S2 i r' ∧ rowOK r' ∧ r'.2.2 = (S2.1 i).2.2) (hi : i < 3) : sortA S S3 i := by
  obtain ⟨r', rfl, h1, h2⟩ := h
  subst e
  refine ⟨rfl, fun k g1 g2 g3 => ?_, ?_, ?_, ?_, ?_⟩
  · rw [xR_ne _ _ g1, xR_ne _ _ g3]
  · rw [xR_ne _ _ (by omega), xR_ne _ _ (by omega)]; exact hI.1 3 (by decide)
  · rw [xR_ne _ _ (by omega), xR_row]; exact rowOK_ovl (hI.1 4 (by decide)) (hI.1 i (by omega))
  · rw [xR_row]; exact h1
  · rw [xR_row, h2, xR_ne _ _ (by omega)]
theorem rowOK_put {r : RowS} (h : rowOK r) {a v u : Nat} (hv : v < 16 ∧ u < 1000000) : rowOK (va_up r.1 a v, va_up r.2.1 a u, r.2.2) :=
  ⟨h.1, fun _ hk => ⟨up_lt (fun q hq => (h.2 q hq).1) hv.1 hk, up_lt (fun q hq => (h.2 q hq).2) hv.2 hk⟩⟩
set_option maxHeartbeats 4000000 in
set_option maxRecDepth 100000 in
theorem m_J9_floorMod (l : Launch) (dC : Nat → ClassId) (dI : Nat → Nat → Nat) (ad : Nat → Nat) (S : XS) (x : Int32) (k : Nat) (h0 : 0 < k) (hk : k < 2 ^ 31) : Met l yJ9_floorMod_7cf53 wsJ9_floorMod_7cf53 ({ frames := 0, cells := 0, slots := 0, locals := 0 } : Room) (va_Pc [.int x, .int (nI k)] (PX dC dI ad S)) (vp_Si (fun r => r = fmv x (nI k))) 0 0 (fun _ => False) := by
  refine ofWF (cc := cJ9_floorMod_7cf53) (maxL := 3) (ret := (some .int)) (by decide +kernel) rfl ?_
  intro p e s m args below meth c s₁ B hml hv
  obtain ⟨rfl, hPX⟩ := hv
  have hx := B.exec
  have hb := B.bytes
  have hr := B.returns
  have hts := atoms_spec (ws := wsJ9_floorMod_7cf53) B.pre
  have hown : s.vm.findClass RJ9 = some m.cls := findClass_of_methodNamed B.named
  have hlocks := B.notSynchronized
  have hX := WX.of hPX
  have hl := lv_entry ([.int x, .int (nI k)]) (n := 3) (Nat.le_of_ble_eq_true rfl)
  rw [lg_entry_eq]
  generalize (lg_sl ([.int x, .int (nI k)]) ++ List.replicate (3 - (lg_sl ([.int x, .int (nI k)])).length) Slot.unset).toArray = ls at hl ⊢
  have hl : lv_has ls 3 [(0, .int x), (1, .int (nI k))] := hl
  show W p l e ({ frames := 0, cells := 0, slots := 0, locals := 0 } : Room) s m ([.int x, .int (nI k)]).toArray below meth c s.heap [] 0 0 (MQ below (vp_Si (fun r => r = fmv x (nI k))) ([.int x, .int (nI k)]).toArray s 0 0 (fun _ => False)) (F0 m 0 ls [])
  have hy0 := nI_ne0 h0 hk
  refine lv_iload_n hx hb dJ9_floorMod_7cf53_0 rfl (lv_at hl 0 rfl) ?_
  refine lv_iload_n hx hb dJ9_floorMod_7cf53_1 rfl (lv_at hl 1 rfl) ?_
  refine lv_irem hx hb dJ9_floorMod_7cf53_2 hy0 ?_
  refine lv_istore_n (lv' := [(2, .int (x - x / (nI k) * (nI k))), (0, .int x), (1, .int (nI k))]) hx hb dJ9_floorMod_7cf53_3 rfl hl (by decide) rfl (fun ls hl => ?_)
  refine lv_iload_n hx hb dJ9_floorMod_7cf53_4 rfl (lv_at hl 1 rfl) ?_
  refine lv_iload_n hx hb dJ9_floorMod_7cf53_5 rfl (lv_at hl 2 rfl) ?_
  refine lv_ixor hx hb dJ9_floorMod_7cf53_6 ?_
  refine lv_if_ge (tgt := 18) hx hb dJ9_floorMod_7cf53_7 (by decide) (fun k_1 => ?_) (fun k_1 => ?_)
  · skip
    have h1 := k_1
    refine lv_iload_n hx hb dJ9_floorMod_7cf53_18 rfl (lv_at hl 0 rfl) ?_
    exact W.iret (v := (x - x / (nI k) * (nI k))) hx hb hr (fun t9 ht9 hW9 => ⟨_, rfl, (fm_pos h0 hk h1), ht9⟩) (fun _ h => nomatch h) dJ9_floorMod_7cf53_19
  · skip
    have h1 := k_1
    refine lv_iload_n hx hb dJ9_floorMod_7cf53_10 rfl (lv_at hl 0 rfl) ?_
    refine lv_if_eq (tgt := 18) hx hb dJ9_floorMod_7cf53_11 (by decide) (fun k_2 => ?_) (fun k_2 => ?_)
    · skip
      have h2 := k_2
      refine lv_iload_n hx hb dJ9_floorMod_7cf53_18 rfl (lv_at hl 0 rfl) ?_
      exact W.iret (v := (x - x / (nI k) * (nI k))) hx hb hr (fun t9 ht9 hW9 => ⟨_, rfl, (fm_zero h2), ht9⟩) (fun _ h => nomatch h) dJ9_floorMod_7cf53_19
    · skip
      have h2 := k_2
      refine lv_iload_n hx hb dJ9_floorMod_7cf53_14 rfl (lv_at hl 0 rfl) ?_
      refine lv_iload_n hx hb dJ9_floorMod_7cf53_15 rfl (lv_at hl 2 rfl) ?_
      refine lv_iadd hx hb dJ9_floorMod_7cf53_16 ?_
      exact W.iret (v := ((x - x / (nI k) * (nI k)) + nI k)) hx hb hr (fun t9 ht9 hW9 => ⟨_, rfl, (fm_neg h0 hk h1 h2), ht9⟩) (fun _ h => nomatch h) dJ9_floorMod_7cf53_17
set_option maxHeartbeats 4000000 in
set_option maxRecDepth 100000 in
theorem m_X4_sort (l : Launch) (dC : Nat → ClassId) (dI : Nat → Nat → Nat) (ad : Nat → Nat) (S : XS) (i : Nat) (j : Nat) (k : Nat) (hi : i < 3) (hj : j < 4) (hk : k ≤ 2) (hI : InvX S) : Met l yX4_sort wsX4_sort ({ frames := 4, cells := 0, slots := 0, locals := 105 } : Room) (va_Pc [.ref (ad 57), .int (nI i), .int (nI j), .int (nI k)] (PX dC dI ad S)) (va_Qi (fun r S' => (∃ x, r = nI x) ∧ sortA S S' i) (PX dC dI ad) (AX ad)) 0 0 (AX ad) := by
  refine Met.ofW (cc := cX4_sort) (maxL := 6) (ret := (some .int)) pl_X4 rfl ?_
  intro p e s m args below meth c s₁ B hml hv
  obtain ⟨rfl, hPX⟩ := hv
  have hx := B.exec
  have hb := B.bytes
  have hr := B.returns
  have hts := atoms_spec (ws := wsX4_sort) B.pre
  have hown : s.vm.findClass RX4 = some m.cls := findClass_of_methodNamed B.named
  have hlocks := B.notSynchronized
  have hin4 : ∀ w ∈ u_ws RX4 TX4 9, w ∈ wsX4_sort := tu 1328 (by decide +kernel) rfl
  have hX := WX.of hPX
  have hl := lv_entry ([.ref (ad 57), .int (nI i), .int (nI j), .int (nI k)]) (n := 6) (Nat.le_of_ble_eq_true rfl)
  rw [lg_entry_eq]
  generalize (lg_sl ([.ref (ad 57), .int (nI i), .int (nI j), .int (nI k)]) ++ List.replicate (6 - (lg_sl ([.ref (ad 57), .int (nI i), .int (nI j), .int (nI k)])).length) Slot.unset).toArray = ls at hl ⊢
  have hl : lv_has ls 6 [(0, .ref (ad 57)), (1, .int (nI i)), (2, .int (nI j)), (3, .int (nI k))] := hl
  show W p l e ({ frames := 4, cells := 0, slots := 0, locals := 105 } : Room) s m ([.ref (ad 57), .int (nI i), .int (nI j), .int (nI k)]).toArray below meth c s.heap [] 0 0 (MQ below (va_Qi (fun r S' => (∃ x, r = nI x) ∧ sortA S S' i) (PX dC dI ad) (AX ad)) ([.ref (ad 57), .int (nI i), .int (nI j), .int (nI k)]).toArray s 0 0 (AX ad)) (F0 m 0 ls [])
  have hn := (hI.1 i (by omega)).1
  refine lv_aload_n hx hb dX4_sort_0 rfl (lv_at hl 0 rfl) ?_
  refine lv_iload_n hx hb dX4_sort_1 rfl (lv_at hl 1 rfl) ?_
  refine va_csr (va_Run.run (va_runV (As := [.int (nI i)]) (rest := []) ⟨hx, hb, hml, hown, hts⟩ (m_X4_rowAt l dC dI ad S i (by omega)) (cwV 1 hts gX4_sort_X4_rowAt rfl rfl rfl hdX4_rowAt_1 ⟨Nat.le_of_ble_eq_true rfl, Nat.le_of_ble_eq_true rfl⟩) (hX.preTop 57 6 (by decide) (by decide) rfl rfl) rfl rfl hl.1 rfl (lv_room (Nat.le_of_ble_eq_true rfl)) dX4_sort_2 ⟨Nat.le_of_ble_eq_true rfl, Nat.le_of_ble_eq_true rfl⟩)) (fun k_ hk_ => ?_)
  rw [hk_]
  refine lv_astore (lv' := [(4, .ref (ad (3 * i))), (0, .ref (ad 57)), (1, .int (nI i)), (2, .int (nI j)), (3, .int (nI k))]) hx hb dX4_sort_5 hl (by decide) rfl (fun ls hl => ?_)
  refine lv_aload_n hx hb dX4_sort_7 rfl (lv_at hl 1 rfl) ?_
  refine lv_iload_n hx hb dX4_sort_8 rfl (lv_at hl 3 rfl) ?_
  refine va_csr (va_Run.run (va_runV (As := [.int (nI j)]) (rest := []) ⟨hx, hb, hml, hown, hts⟩ (m_X4_orderAt l dC dI ad S j (by omega)) (cwV 1 hts gX4_sort_X4_orderAt rfl rfl rfl hdX4_orderAt_1 ⟨Nat.le_of_ble_eq_true rfl, Nat.le_of_ble_eq_true rfl⟩) (hX.preTop 57 6 (by decide) (by decide) rfl rfl) rfl rfl hl.1 rfl (lv_room (Nat.le_of_ble_eq_true rfl)) dX4_sort_9 ⟨Nat.le_of_ble_eq_true rfl, Nat.le_of_ble_eq_true rfl⟩)) (fun k_ hk_ => ?_)
  rw [hk_]
  refine lv_astore (lv' := [(5, .ref (ad (24 + 5 * j))), (4, .ref (ad (3 * i))), (0, .ref (ad 57)), (1, .int (nI i)), (2, .int (nI j)), (3, .int (nI k))]) hx hb dX4_sort_12 hl (by decide) rfl (fun ls hl => ?_)
  refine lv_iload_n hx hb dX4_sort_14 rfl (lv_at hl 5 rfl) ?_
  refine lv_iconst (v := nI 2) hx hb dX4_sort_15 (by decide) ?_
  refine va_csv (va_Run.run (va_runS (As := [.int (nI k), .int (nI 2)]) (rest := []) ⟨hx, hb, hml, hown, hts⟩ (m_X4_demandWithin l dC dI ad S k 2 (by omega) (by omega)) (va_cwS 2 hts gX4_sort_X4_demandWithin rfl rfl rfl hdX4_demandWithin_2.2 ⟨Nat.le_of_ble_eq_true rfl, Nat.le_of_ble_eq_true rfl⟩) hX.preS rfl rfl hl.1 rfl (lv_room (Nat.le_of_ble_eq_true rfl)) dX4_sort_16 ⟨Nat.le_of_ble_eq_true rfl, Nat.le_of_ble_eq_true rfl⟩)) (fun _ => ?_)
  refine lv_aload_n hx hb dX4_sort_19 rfl (lv_at hl 2 rfl) ?_
  refine kx_gspareRow hx hb hts hin4 hown hX (hts (.fieldLink RX4 36 "Orderlattice" "spareRow" "LOrderlattice$Row;") (tm 453 (by decide +kernel) rfl)) dX4_sort_20 ?_
  refine lv_aload hx hb dX4_sort_23 (lv_at hl 1 rfl) ?_
  refine kx_cv (va_runV (As := [.ref (ad (3 * i))]) (rest := []) ⟨hx, hb, hml, hown, hts⟩ (m_X2_becomeCopyOf l dC dI ad S 4 i (by omega) (by omega) (by omega)) (cwV 1 hts gX4_sort_X2_becomeCopyOf rfl rfl rfl hdX2_becomeCopyOf_1 ⟨Nat.le_of_ble_eq_true rfl, Nat.le_of_ble_eq_true rfl⟩) (hX.preRow (by omega)) rfl rfl hl.1 rfl (lv_room (Nat.le_of_ble_eq_true rfl)) dX4_sort_25 ⟨Nat.le_of_ble_eq_true rfl, Nat.le_of_ble_eq_true rfl⟩) hX (fun _ h => h) (fun S_ H locs hw hX => ?_)
  subst hw
  obtain ⟨S2, e_S2⟩ : ∃ z, z = (xR S 4 (ovl ((S.1 i).1) ((S.1 4).1) ((S.1 i).2.2), ovl ((S.1 i).2.1) ((S.1 4).2.1) ((S.1 i).2.2), (S.1 i).2.2)) := ⟨_, rfl⟩
  replace hX := WX.eqS e_S2.symm hX
  have hI2 : InvX S2 := by rw [e_S2]; exact InvX_row hI (rowOK_ovl (hI.1 4 (by decide)) (hI.1 i (by omega)))
  refine lv_aload_n hx hb dX4_sort_28 rfl (lv_at hl 2 rfl) ?_
  refine kx_gsorter hx hb hts hin4 hown hX (hts (.fieldLink RX4 24 "Orderlattice" "sorter" "LOrderlattice$Sorter;") (tm 449 (by decide +kernel) rfl)) dX4_sort_29 ?_
  refine lv_aload hx hb dX4_sort_32 (lv_at hl 1 rfl) ?_
  refine lv_aload hx hb dX4_sort_34 (lv_at hl 0 rfl) ?_
  refine lv_iload_n hx hb dX4_sort_36 rfl (lv_at hl 5 rfl) ?_
  refine kx_cv (va_runV (As := [.ref (ad (3 * i)), .ref (ad (24 + 5 * j)), .int (nI k)]) (rest := []) ⟨hx, hb, hml, hown, hts⟩ (m_X3_arrangeAll l dC dI ad S2 0 i j k (by decide) (by omega) (by omega) (hI2.1 i (by omega)) (hI2.2 j (by omega)) (show i ≠ 3 by omega) (hI2.1 3 (by decide)) (by omega)) (cwV 3 hts gX4_sort_X3_arrangeAll rfl rfl rfl hdX3_arrangeAll_3 ⟨Nat.le_of_ble_eq_true rfl, Nat.le_of_ble_eq_true rfl⟩) (hX.preSor (by omega)) rfl rfl hl.1 rfl (lv_room (Nat.le_of_ble_eq_true rfl)) dX4_sort_37 ⟨Nat.le_of_ble_eq_true rfl, Nat.le_of_ble_eq_true rfl⟩) hX (fun _ h => h) (fun S3 H locs hw hX => ?_)
  have hA := sortA_arr hI e_S2 hw (by omega)
  refine lv_aload hx hb dX4_sort_40 (lv_at hl 1 rfl) ?_
  refine lv_aload_n hx hb dX4_sort_42 rfl (lv_at hl 2 rfl) ?_
  refine kx_gspareRow hx hb hts hin4 hown hX (hts (.fieldLink RX4 36 "Orderlattice" "spareRow" "LOrderlattice$Row;") (tm 453 (by decide +kernel) rfl)) dX4_sort_43 ?_
  refine kx_cr (v := nI (cntB (fun k => decide ((S3.1 i).2.1 k ≠ (S3.1 4).2.1 k)) (S3.1 i).2.2)) (va_runV (As := [.ref (ad (3 * 4))]) (rest := []) ⟨hx, hb, hml, hown, hts⟩ (m_X2_placesUnlike l dC dI ad S3 i 4 (by omega) (by omega) hA.2.2.2.2.1 hA.2.2.2.1) (cwV 1 hts gX4_sort_X2_placesUnlike rfl rfl rfl hdX2_placesUnlike_1 ⟨Nat.le_of_ble_eq_true rfl, Nat.le_of_ble_eq_true rfl⟩) (hX.preRow (by omega)) rfl rfl hl.1 rfl (lv_room (Nat.le_of_ble_eq_true rfl)) dX4_sort_46 ⟨Nat.le_of_ble_eq_true rfl, Nat.le_of_ble_eq_true rfl⟩) (fun _ h => h) ?_
  exact W.iret (v := nI (cntB (fun k => decide ((S3.1 i).2.1 k ≠ (S3.1 4).2.1 k)) (S3.1 i).2.2)) hx hb hr (fun t9 ht9 hW9 => ⟨⟨_, S3, rfl, ⟨⟨_, rfl⟩, hA⟩, hX.P ht9 hW9⟩, hX.2.2.2.F ht9⟩) hX.2.2.2.2.2 dX4_sort_49
set_option maxHeartbeats 4000000 in
set_option maxRecDepth 100000 in
theorem m_X4_sortPart (l : Launch) (dC : Nat → ClassId) (dI : Nat → Nat → Nat) (ad : Nat → Nat) (S : XS) (i : Nat) (j : Nat) (q : Nat) (q2 : Nat) (hi : i < 3) (hj : j < 4) (hq : q ≤ (S.1 i).2.2) (hq2 : q2 ≤ (S.1 i).2.2) (hqq : q ≤ q2) (hI : InvX S) : Met l yX4_sortPart wsX4_sortPart ({ frames := 3, cells := 0, slots := 0, locals := 73 } : Room) (va_Pc [.ref (ad 57), .int (nI i), .int (nI j), .int (nI q), .int (nI q2)] (PX dC dI ad S)) (va_Qi (fun r S' => (∃ x, r = nI x) ∧ sortA S S' i) (PX dC dI ad) (AX ad)) 0 0 (AX ad) := by
  refine Met.ofW (cc := cX4_sortPart) (maxL := 7) (ret := (some .int)) pl_X4 rfl ?_
  intro p e s m args below meth c s₁ B hml hv
  obtain ⟨rfl, hPX⟩ := hv
  have hx := B.exec
  have hb := B.bytes
  have hr := B.returns
  have hts := atoms_spec (ws := wsX4_sortPart) B.pre
  have hown : s.vm.findClass RX4 = some m.cls := findClass_of_methodNamed B.named
  have hlocks := B.notSynchronized
  have hin4 : ∀ w ∈ u_ws RX4 TX4 9, w ∈ wsX4_sortPart := tu 1328 (by decide +kernel) rfl
  have hX := WX.of hPX
  have hl := lv_entry ([.ref (ad 57), .int (nI i), .int (nI j), .int (nI q), .int (nI q2)]) (n := 7) (Nat.le_of_ble_eq_true rfl)
  rw [lg_entry_eq]
  generalize (lg_sl ([.ref (ad 57), .int (nI i), .int (nI j), .int (nI q), .int (nI q2)]) ++ List.replicate (7 - (lg_sl ([.ref (ad 57), .int (nI i), .int (nI j), .int (nI q), .int (nI q2)])).length) Slot.unset).toArray = ls at hl ⊢
  have hl : lv_has ls 7 [(0, .ref (ad 57)), (1, .int (nI i)), (2, .int (nI j)), (3, .int (nI q)), (4, .int (nI q2))] := hl
  show W p l e ({ frames := 3, cells := 0, slots := 0, locals := 73 } : Room) s m ([.ref (ad 57), .int (nI i), .int (nI j), .int (nI q), .int (nI q2)]).toArray below meth c s.heap [] 0 0 (MQ below (va_Qi (fun r S' => (∃ x, r = nI x) ∧ sortA S S' i) (PX dC dI ad) (AX ad)) ([.ref (ad 57), .int (nI i), .int (nI j), .int (nI q), .int (nI q2)]).toArray s 0 0 (AX ad)) (F0 m 0 ls [])
  have hn := (hI.1 i (by omega)).1
  refine lv_aload_n hx hb dX4_sortPart_0 rfl (lv_at hl 0 rfl) ?_
  refine lv_iload_n hx hb dX4_sortPart_1 rfl (lv_at hl 1 rfl) ?_
  refine va_csr (va_Run.run (va_runV (As := [.int (nI i)]) (rest := []) ⟨hx, hb, hml, hown, hts⟩ (m_X4_rowAt l dC dI ad S i (by omega)) (cwV 1 hts gX4_sortPart_X4_rowAt rfl rfl rfl hdX4_rowAt_1 ⟨Nat.le_of_ble_eq_true rfl, Nat.le_of_ble_eq_true rfl⟩) (hX.preTop 57 6 (by decide) (by decide) rfl rfl) rfl rfl hl.1 rfl (lv_room (Nat.le_of_ble_eq_true rfl)) dX4_sortPart_2 ⟨Nat.le_of_ble_eq_true rfl, Nat.le_of_ble_eq_true rfl⟩)) (fun k_ hk_ => ?_)
  rw [hk_]
  refine lv_astore (lv' := [(5, .ref (ad (3 * i))), (0, .ref (ad 57)), (1, .int (nI i)), (2, .int (nI j)), (3, .int (nI q)), (4, .int (nI q2))]) hx hb dX4_sortPart_5 hl (by decide) rfl (fun ls hl => ?_)
  refine lv_aload_n hx hb dX4_sortPart_7 rfl (lv_at hl 1 rfl) ?_
  refine lv_iload_n hx hb dX4_sortPart_8 rfl (lv_at hl 3 rfl) ?_
  refine va_csr (va_Run.run (va_runV (As := [.int (nI j)]) (rest := []) ⟨hx, hb, hml, hown, hts⟩ (m_X4_orderAt l dC dI ad S j (by omega)) (cwV 1 hts gX4_sortPart_X4_orderAt rfl rfl rfl hdX4_orderAt_1 ⟨Nat.le_of_ble_eq_true rfl, Nat.le_of_ble_eq_true rfl⟩) (hX.preTop 57 6 (by decide) (by decide) rfl rfl) rfl rfl hl.1 rfl (lv_room (Nat.le_of_ble_eq_true rfl)) dX4_sortPart_9 ⟨Nat.le_of_ble_eq_true rfl, Nat.le_of_ble_eq_true rfl⟩)) (fun k_ hk_ => ?_)
  rw [hk_]
  refine lv_astore (lv' := [(6, .ref (ad (24 + 5 * j))), (5, .ref (ad (3 * i))), (0, .ref (ad 57)), (1, .int (nI i)), (2, .int (nI j)), (3, .int (nI q)), (4, .int (nI q2))]) hx hb dX4_sortPart_12 hl (by decide) rfl (fun ls hl => ?_)
  refine lv_aload hx hb dX4_sortPart_14 (lv_at hl 1 rfl) ?_
  refine lv_iload_n hx hb dX4_sortPart_16 rfl (lv_at hl 5 rfl) ?_
  refine va_csv (va_Run.run (va_runS (As := [.ref (ad (3 * i)), .int (nI q)]) (rest := []) ⟨hx, hb, hml, hown, hts⟩ (m_X4_demandGap l dC dI ad S i q (by omega) (by omega) (by omega)) (va_cwS 2 hts gX4_sortPart_X4_demandGap rfl rfl rfl hdX4_demandGap_2.2 ⟨Nat.le_of_ble_eq_true rfl, Nat.le_of_ble_eq_true rfl⟩) hX.preS rfl rfl hl.1 rfl (lv_room (Nat.le_of_ble_eq_true rfl)) dX4_sortPart_17 ⟨Nat.le_of_ble_eq_true rfl, Nat.le_of_ble_eq_true rfl⟩)) (fun _ => ?_)
  refine lv_aload hx hb dX4_sortPart_20 (lv_at hl 1 rfl) ?_
  refine lv_iload hx hb dX4_sortPart_22 (lv_at hl 6 rfl) ?_
  refine va_csv (va_Run.run (va_runS (As := [.ref (ad (3 * i)), .int (nI q2)]) (rest := []) ⟨hx, hb, hml, hown, hts⟩ (m_X4_demandGap l dC dI ad S i q2 (by omega) (by omega) (by omega)) (va_cwS 2 hts gX4_sortPart_X4_demandGap rfl rfl rfl hdX4_demandGap_2.2 ⟨Nat.le_of_ble_eq_true rfl, Nat.le_of_ble_eq_true rfl⟩) hX.preS rfl rfl hl.1 rfl (lv_room (Nat.le_of_ble_eq_true rfl)) dX4_sortPart_24 ⟨Nat.le_of_ble_eq_true rfl, Nat.le_of_ble_eq_true rfl⟩)) (fun _ => ?_)
  refine lv_iload_n hx hb dX4_sortPart_27 rfl (lv_at hl 5 rfl) ?_
  refine lv_iload hx hb dX4_sortPart_28 (lv_at hl 6 rfl) ?_
  refine kn_icmp_le (tgt := 43) hx hb (by omega) (by omega) dX4_sortPart_30 (by decide) (fun k_1 => ?_) (fun k_1 => absurd k_1 (by omega))
  refine lv_aload_n hx hb dX4_sortPart_43 rfl (lv_at hl 2 rfl) ?_
  refine kx_gspareRow hx hb hts hin4 hown hX (hts (.fieldLink RX4 36 "Orderlattice" "spareRow" "LOrderlattice$Row;") (tm 453 (by decide +kernel) rfl)) dX4_sortPart_44 ?_
  refine lv_aload hx hb dX4_sortPart_47 (lv_at hl 1 rfl) ?_
  refine kx_cv (va_runV (As := [.ref (ad (3 * i))]) (rest := []) ⟨hx, hb, hml, hown, hts⟩ (m_X2_becomeCopyOf l dC dI ad S 4 i (by omega) (by omega) (by omega)) (cwV 1 hts gX4_sortPart_X2_becomeCopyOf rfl rfl rfl hdX2_becomeCopyOf_1 ⟨Nat.le_of_ble_eq_true rfl, Nat.le_of_ble_eq_true rfl⟩) (hX.preRow (by omega)) rfl rfl hl.1 rfl (lv_room (Nat.le_of_ble_eq_true rfl)) dX4_sortPart_49 ⟨Nat.le_of_ble_eq_true rfl, Nat.le_of_ble_eq_true rfl⟩) hX (fun _ h => h) (fun S_ H locs hw hX => ?_)
  subst hw
  obtain ⟨S2, e_S2⟩ : ∃ z, z = (xR S 4 (ovl ((S.1 i).1) ((S.1 4).1) ((S.1 i).2.2), ovl ((S.1 i).2.1) ((S.1 4).2.1) ((S.1 i).2.2), (S.1 i).2.2)) := ⟨_, rfl⟩
  replace hX := WX.eqS e_S2.symm hX
  have hI2 : InvX S2 := by rw [e_S2]; exact InvX_row hI (rowOK_ovl (hI.1 4 (by decide)) (hI.1 i (by omega)))
  refine lv_aload_n hx hb dX4_sortPart_52 rfl (lv_at hl 2 rfl) ?_
  refine kx_gsorter hx hb hts hin4 hown hX (hts (.fieldLink RX4 24 "Orderlattice" "sorter" "LOrderlattice$Sorter;") (tm 449 (by decide +kernel) rfl)) dX4_sortPart_53 ?_
  refine lv_aload hx hb dX4_sortPart_56 (lv_at hl 1 rfl) ?_
  refine lv_aload hx hb dX4_sortPart_58 (lv_at hl 0 rfl) ?_
  refine lv_iload_n hx hb dX4_sortPart_60 rfl (lv_at hl 5 rfl) ?_
  refine lv_iload hx hb dX4_sortPart_61 (lv_at hl 6 rfl) ?_
  refine kx_cv (va_runV (As := [.ref (ad (3 * i)), .ref (ad (24 + 5 * j)), .int (nI q), .int (nI q2)]) (rest := []) ⟨hx, hb, hml, hown, hts⟩ (m_X3_insertEach l dC dI ad S2 0 i j q q2 (by decide) (by omega) (by omega) (hI2.1 i (by omega)) (hI2.2 j (by omega)) (by omega) (by rw [e_S2, xR_ne _ _ (show i ≠ 4 by omega)]; omega)) (cwV 4 hts gX4_sortPart_X3_insertEach rfl rfl rfl hdX3_insertEach_4 ⟨Nat.le_of_ble_eq_true rfl, Nat.le_of_ble_eq_true rfl⟩) (hX.preSor (by omega)) rfl rfl hl.1 rfl (lv_room (Nat.le_of_ble_eq_true rfl)) dX4_sortPart_63 ⟨Nat.le_of_ble_eq_true rfl, Nat.le_of_ble_eq_true rfl⟩) hX (fun _ h => h) (fun S3 H locs hw hX => ?_)
  have hA := sortA_ins hI e_S2 hw (by omega)
  refine lv_aload hx hb dX4_sortPart_66 (lv_at hl 1 rfl) ?_
  refine lv_aload_n hx hb dX4_sortPart_68 rfl (lv_at hl 2 rfl) ?_
  refine kx_gspareRow hx hb hts hin4 hown hX (hts (.fieldLink RX4 36 "Orderlattice" "spareRow" "LOrderlattice$Row;") (tm 453 (by decide +kernel) rfl)) dX4_sortPart_69 ?_
  refine kx_cr (v := nI (cntB (fun k => decide ((S3.1 i).2.1 k ≠ (S3.1 4).2.1 k)) (S3.1 i).2.2)) (va_runV (As := [.ref (ad (3 * 4))]) (rest := []) ⟨hx, hb, hml, hown, hts⟩ (m_X2_placesUnlike l dC dI ad S3 i 4 (by omega) (by omega) hA.2.2.2.2.1 hA.2.2.2.1) (cwV 1 hts gX4_sortPart_X2_placesUnlike rfl rfl rfl hdX2_placesUnlike_1 ⟨Nat.le_of_ble_eq_true rfl, Nat.le_of_ble_eq_true rfl⟩) (hX.preRow (by omega)) rfl rfl hl.1 rfl (lv_room (Nat.le_of_ble_eq_true rfl)) dX4_sortPart_72 ⟨Nat.le_of_ble_eq_true rfl, Nat.le_of_ble_eq_true rfl⟩) (fun _ h => h) ?_
  exact W.iret (v := nI (cntB (fun k => decide ((S3.1 i).2.1 k ≠ (S3.1 4).2.1 k)) (S3.1 i).2.2)) hx hb hr (fun t9 ht9 hW9 => ⟨⟨_, S3, rfl, ⟨⟨_, rfl⟩, hA⟩, hX.P ht9 hW9⟩, hX.2.2.2.F ht9⟩) hX.2.2.2.2.2 dX4_sortPart_75
set_option maxHeartbeats 4000000 in
set_option maxRecDepth 100000 in
theorem m_X4_wheel (l : Launch) (dC : Nat → ClassId) (dI : Nat → Nat → Nat) (ad : Nat → Nat) (S : XS) (i : Nat) (y : Int32) (hi : i < 3) (hI : InvX S) : Met l yX4_wheel wsX4_wheel ({ frames := 2, cells := 0, slots := 0, locals := 46 } : Room) (va_Pc [.ref (ad 57), .int (nI i), .int y] (PX dC dI ad S)) (va_Qi (fun r S' => ((S.1 i).2.2 = 0 ∧ r = -1 ∧ S' = S) ∨ (0 < (S.1 i).2.2 ∧ ∃ (x sh : Nat) (r4 r' : RowS), r = nI x ∧ sh < (S.1 i).2.2 ∧ nI sh = fmv y (nI (S.1 i).2.2) ∧ S' = xR (xR S 4 r4) i r' ∧ rowOK r4 ∧ rowOK r' ∧ r'.2.2 = (S.1 i).2.2)) (PX dC dI ad) (AX ad)) 0 0 (AX ad) := by
  refine Met.ofW (cc := cX4_wheel) (maxL := 7) (ret := (some .int)) pl_X4 rfl ?_
  intro p e s m args below meth c s₁ B hml hv
  obtain ⟨rfl, hPX⟩ := hv
  have hx := B.exec
  have hb := B.bytes
  have hr := B.returns
  have hts := atoms_spec (ws := wsX4_wheel) B.pre
  have hown : s.vm.findClass RX4 = some m.cls := findClass_of_methodNamed B.named
  have hlocks := B.notSynchronized
  have hin4 : ∀ w ∈ u_ws RX4 TX4 9, w ∈ wsX4_wheel := tu 1328 (by decide +kernel) rfl
  have hX := WX.of hPX
  have hl := lv_entry ([.ref (ad 57), .int (nI i), .int y]) (n := 7) (Nat.le_of_ble_eq_true rfl)
  rw [lg_entry_eq]
  generalize (lg_sl ([.ref (ad 57), .int (nI i), .int y]) ++ List.replicate (7 - (lg_sl ([.ref (ad 57), .int (nI i), .int y])).length) Slot.unset).toArray = ls at hl ⊢
  have hl : lv_has ls 7 [(0, .ref (ad 57)), (1, .int (nI i)), (2, .int y)] := hl
  show W p l e ({ frames := 2, cells := 0, slots := 0, locals := 46 } : Room) s m ([.ref (ad 57), .int (nI i), .int y]).toArray below meth c s.heap [] 0 0 (MQ below (va_Qi (fun r S' => ((S.1 i).2.2 = 0 ∧ r = -1 ∧ S' = S) ∨ (0 < (S.1 i).2.2 ∧ ∃ (x sh : Nat) (r4 r' : RowS), r = nI x ∧ sh < (S.1 i).2.2 ∧ nI sh = fmv y (nI (S.1 i).2.2) ∧ S' = xR (xR S 4 r4) i r' ∧ rowOK r4 ∧ rowOK r' ∧ r'.2.2 = (S.1 i).2.2)) (PX dC dI ad) (AX ad)) ([.ref (ad 57), .int (nI i), .int y]).toArray s 0 0 (AX ad)) (F0 m 0 ls [])
  have hn := (hI.1 i (by omega)).1
  refine lv_aload_n hx hb dX4_wheel_0 rfl (lv_at hl 0 rfl) ?_
  refine lv_iload_n hx hb dX4_wheel_1 rfl (lv_at hl 1 rfl) ?_
  refine va_csr (va_Run.run (va_runV (As := [.int (nI i)]) (rest := []) ⟨hx, hb, hml, hown, hts⟩ (m_X4_rowAt l dC dI ad S i (by omega)) (cwV 1 hts gX4_wheel_X4_rowAt rfl rfl rfl hdX4_rowAt_1 ⟨Nat.le_of_ble_eq_true rfl, Nat.le_of_ble_eq_true rfl⟩) (hX.preTop 57 6 (by decide) (by decide) rfl rfl) rfl rfl hl.1 rfl (lv_room (Nat.le_of_ble_eq_true rfl)) dX4_wheel_2 ⟨Nat.le_of_ble_eq_true rfl, Nat.le_of_ble_eq_true rfl⟩)) (fun k_ hk_ => ?_)
  rw [hk_]
  refine lv_astore_n (lv' := [(3, .ref (ad (3 * i))), (0, .ref (ad 57)), (1, .int (nI i)), (2, .int y)]) hx hb dX4_wheel_5 rfl hl (by decide) rfl (fun ls hl => ?_)
  refine lv_aload_n hx hb dX4_wheel_6 rfl (lv_at hl 0 rfl) ?_
  refine kx_cr (v := nI ((S.1 i).2.2)) (va_runV (As := []) (rest := []) ⟨hx, hb, hml, hown, hts⟩ (m_X2_length l dC dI ad S i (by omega)) (cwV 0 hts gX4_wheel_X2_length rfl rfl rfl hdX2_length_0 ⟨Nat.le_of_ble_eq_true rfl, Nat.le_of_ble_eq_true rfl⟩) (hX.preRow (by omega)) rfl rfl hl.1 rfl (lv_room (Nat.le_of_ble_eq_true rfl)) dX4_wheel_7 ⟨Nat.le_of_ble_eq_true rfl, Nat.le_of_ble_eq_true rfl⟩) (fun _ h => h) ?_
  refine lv_istore (lv' := [(4, .int (nI ((S.1 i).2.2))), (3, .ref (ad (3 * i))), (0, .ref (ad 57)), (1, .int (nI i)), (2, .int y)]) hx hb dX4_wheel_10 hl (by decide) rfl (fun ls hl => ?_)
  refine lv_iload hx hb dX4_wheel_12 (lv_at hl 0 rfl) ?_
  refine kn_if_gt (tgt := 19) hx hb (by omega) dX4_wheel_14 (by decide) (fun k_1 => ?_) (fun k_1 => ?_)
  · skip
    have h0 := k_1
    refine lv_iload_n hx hb dX4_wheel_19 rfl (lv_at hl 4 rfl) ?_
    refine lv_iload hx hb dX4_wheel_20 (lv_at hl 0 rfl) ?_
    refine kx_cr (v := (fmv y (nI ((S.1 i).2.2)))) (va_runS (As := [.int y, .int (nI ((S.1 i).2.2))]) (rest := []) ⟨hx, hb, hml, hown, hts⟩ (m_J9_floorMod l dC dI ad S y ((S.1 i).2.2) (by omega) (by omega)) (va_cwS 2 hts gX4_wheel_J9_floorMod_7cf53 rfl rfl rfl hdJ9_floorMod_7cf53_2.2 ⟨Nat.le_of_ble_eq_true rfl, Nat.le_of_ble_eq_true rfl⟩) hX.preS rfl rfl hl.1 rfl (lv_room (Nat.le_of_ble_eq_true rfl)) dX4_wheel_22 ⟨Nat.le_of_ble_eq_true rfl, Nat.le_of_ble_eq_true rfl⟩) (fun _ h => h) ?_
    obtain ⟨sh, hsh, hsl⟩ := fmv_nat (a := y) (m := nI (S.1 i).2.2) (by rw [nI_toInt (by omega)]; omega)
    have hsl : sh < (S.1 i).2.2 := by rw [nI_toInt (by omega)] at hsl; omega
    refine lv_topi (fun z9 hz9 => ?_)
    obtain rfl : z9 = nI sh := hz9.trans hsh
    refine lv_istore (lv' := [(5, .int (nI sh)), (4, .int (nI ((S.1 i).2.2))), (3, .ref (ad (3 * i))), (0, .ref (ad 57)), (1, .int (nI i)), (2, .int y)]) hx hb dX4_wheel_25 hl (by decide) rfl (fun ls hl => ?_)
    refine lv_aload_n hx hb dX4_wheel_27 rfl (lv_at hl 3 rfl) ?_
    refine kx_gspareRow hx hb hts hin4 hown hX (hts (.fieldLink RX4 36 "Orderlattice" "spareRow" "LOrderlattice$Row;") (tm 453 (by decide +kernel) rfl)) dX4_wheel_28 ?_
    refine lv_aload_n hx hb dX4_wheel_31 rfl (lv_at hl 2 rfl) ?_
    refine kx_cv (va_runV (As := [.ref (ad (3 * i))]) (rest := []) ⟨hx, hb, hml, hown, hts⟩ (m_X2_becomeCopyOf l dC dI ad S 4 i (by omega) (by omega) (by omega)) (cwV 1 hts gX4_wheel_X2_becomeCopyOf rfl rfl rfl hdX2_becomeCopyOf_1 ⟨Nat.le_of_ble_eq_true rfl, Nat.le_of_ble_eq_true rfl⟩) (hX.preRow (by omega)) rfl rfl hl.1 rfl (lv_room (Nat.le_of_ble_eq_true rfl)) dX4_wheel_32 ⟨Nat.le_of_ble_eq_true rfl, Nat.le_of_ble_eq_true rfl⟩) hX (fun _ h => h) (fun S_ H locs hw hX => ?_)
    subst hw
    obtain ⟨S2, e_S2⟩ : ∃ z, z = (xR S 4 (ovl ((S.1 i).1) ((S.1 4).1) ((S.1 i).2.2), ovl ((S.1 i).2.1) ((S.1 4).2.1) ((S.1 i).2.2), (S.1 i).2.2)) := ⟨_, rfl⟩
    replace hX := WX.eqS e_S2.symm hX
    have hI2 : InvX S2 := by rw [e_S2]; exact InvX_row hI (rowOK_ovl (hI.1 4 (by decide)) (hI.1 i (by omega)))
    have hr4 := hI2.1 4 (by decide)
    have hn4 : (S2.1 4).2.2 = (S.1 i).2.2 := by rw [e_S2, xR_row]
    have hi4 : S2.1 i = S.1 i := by rw [e_S2, xR_ne _ _ (show i ≠ 4 by omega)]
    refine lv_iconst (v := nI 0) hx hb dX4_wheel_35 (by decide) ?_
    refine lv_istore (lv' := [(6, .int (nI 0)), (5, .int (nI sh)), (4, .int (nI ((S.1 i).2.2))), (3, .ref (ad (3 * i))), (0, .ref (ad 57)), (1, .int (nI i)), (2, .int y)]) hx hb dX4_wheel_36 hl (by decide) rfl (fun ls hl => ?_)
    have loop38 : ∀ (fuel : Nat) (r : RowS) (a : Nat) (hr9 : rowOK r ∧ r.2.2 = (S.1 i).2.2) (ha : a ≤ (S.1 i).2.2) (H : Heap) (locs : List Loc), (S.1 i).2.2 - a < fuel → WX dC dI ad (xR S2 i (r.1, r.2.1, r.2.2)) (AX ad) s H locs → ∀ ls : Array Slot, lv_has ls 7 [(0, .ref (ad 57)), (1, .int (nI i)), (2, .int y), (3, .ref (ad (3 * i))), (4, .int (nI ((S.1 i).2.2))), (5, .int (nI sh)), (6, .int (nI a))] → W p l e ({ frames := 2, cells := 0, slots := 0, locals := 46 } : Room) s m ([.ref (ad 57), .int (nI i), .int y]).toArray below meth c H locs 0 0 (MQ below (va_Qi (fun r S' => ((S.1 i).2.2 = 0 ∧ r = -1 ∧ S' = S) ∨ (0 < (S.1 i).2.2 ∧ ∃ (x sh : Nat) (r4 r' : RowS), r = nI x ∧ sh < (S.1 i).2.2 ∧ nI sh = fmv y (nI (S.1 i).2.2) ∧ S' = xR (xR S 4 r4) i r' ∧ rowOK r4 ∧ rowOK r' ∧ r'.2.2 = (S.1 i).2.2)) (PX dC dI ad) (AX ad)) ([.ref (ad 57), .int (nI i), .int y]).toArray s 0 0 (AX ad)) (F0 m 38 ls []) := by
      intro fuel
      induction fuel with
      | zero => intro r a hr9 ha H locs hf; exact absurd hf (Nat.not_lt_zero _)
      | succ fuel ih38 =>
        intro r a hr9 ha H locs hf hX ls hl
        refine lv_iload hx hb dX4_wheel_38 (lv_at hl 6 rfl) ?_
        refine lv_iload hx hb dX4_wheel_40 (lv_at hl 4 rfl) ?_
        refine kn_icmp_ge (tgt := 81) hx hb (by omega) (by omega) dX4_wheel_42 (by decide) (fun k_2 => ?_) (fun k_2 => ?_)
        · skip
          refine lv_aload_n hx hb dX4_wheel_81 rfl (lv_at hl 3 rfl) ?_
          refine lv_iconst (v := nI 0) hx hb dX4_wheel_82 (by decide) ?_
          refine kx_cr (v := nI (r.2.1 0)) (va_runV (As := [.int (nI 0)]) (rest := []) ⟨hx, hb, hml, hown, hts⟩ (m_X2_markOn l dC dI ad (xR S2 i (r.1, r.2.1, r.2.2)) i 0 (by omega) (by omega)) (cwV 1 hts gX4_wheel_X2_markOn rfl rfl rfl hdX2_markOn_1 ⟨Nat.le_of_ble_eq_true rfl, Nat.le_of_ble_eq_true rfl⟩) (hX.preRow (by omega)) rfl rfl hl.1 rfl (lv_room (Nat.le_of_ble_eq_true rfl)) dX4_wheel_83 ⟨Nat.le_of_ble_eq_true rfl, Nat.le_of_ble_eq_true rfl⟩) (fun _ h => by rw [h, xR_row]) ?_
          exact W.iret (v := nI (r.2.1 0)) hx hb hr (fun t9 ht9 hW9 => ⟨⟨_, (xR S2 i (r.1, r.2.1, r.2.2)), rfl, (Or.inr ⟨h0, _, sh, _, r, rfl, hsl, hsh.symm, by rw [e_S2], rowOK_ovl (hI.1 4 (by decide)) (hI.1 i (by omega)), hr9.1, hr9.2⟩), hX.P ht9 hW9⟩, hX.2.2.2.F ht9⟩) hX.2.2.2.2.2 dX4_wheel_86
        · skip
          refine lv_aload_n hx hb dX4_wheel_45 rfl (lv_at hl 3 rfl) ?_
          refine lv_iload hx hb dX4_wheel_46 (lv_at hl 6 rfl) ?_
          refine lv_iload hx hb dX4_wheel_48 (lv_at hl 5 rfl) ?_
          refine kn_iadd hx hb dX4_wheel_50 ?_
          refine lv_iload hx hb dX4_wheel_51 (lv_at hl 4 rfl) ?_
          refine kn_irem hx hb (by omega) (by omega) (by omega) dX4_wheel_53 ?_
          refine lv_aload_n hx hb dX4_wheel_54 rfl (lv_at hl 0 rfl) ?_
          refine kx_gspareRow hx hb hts hin4 hown hX (hts (.fieldLink RX4 36 "Orderlattice" "spareRow" "LOrderlattice$Row;") (tm 453 (by decide +kernel) rfl)) dX4_wheel_55 ?_
          refine lv_iload hx hb dX4_wheel_58 (lv_at hl 6 rfl) ?_
          refine kx_cr (v := nI ((S2.1 4).1 a)) (va_runV (As := [.int (nI a)]) (rest := [.int (nI ((a + sh) % ((S.1 i).2.2))), .ref (ad (3 * i))]) ⟨hx, hb, hml, hown, hts⟩ (m_X2_valueOn l dC dI ad (xR S2 i (r.1, r.2.1, r.2.2)) 4 a (by omega) (by omega)) (cwV 1 hts gX4_wheel_X2_valueOn rfl rfl rfl hdX2_valueOn_1 ⟨Nat.le_of_ble_eq_true rfl, Nat.le_of_ble_eq_true rfl⟩) (hX.preRow (by omega)) rfl rfl hl.1 rfl (lv_room (Nat.le_of_ble_eq_true rfl)) dX4_wheel_60 ⟨Nat.le_of_ble_eq_true rfl, Nat.le_of_ble_eq_true rfl⟩) (fun _ h => by rw [h, xR_ne _ _ (show (4 : Nat) ≠ i by omega)]) ?_
          refine lv_aload_n hx hb dX4_wheel_63 rfl (lv_at hl 0 rfl) ?_
          refine kx_gspareRow hx hb hts hin4 hown hX (hts (.fieldLink RX4 36 "Orderlattice" "spareRow" "LOrderlattice$Row;") (tm 453 (by decide +kernel) rfl)) dX4_wheel_64 ?_
          refine lv_iload hx hb dX4_wheel_67 (lv_at hl 6 rfl) ?_
          refine kx_cr (v := nI ((S2.1 4).2.1 a)) (va_runV (As := [.int (nI a)]) (rest := [.int (nI ((S2.1 4).1 a)), .int (nI ((a + sh) % ((S.1 i).2.2))), .ref (ad (3 * i))]) ⟨hx, hb, hml, hown, hts⟩ (m_X2_markOn l dC dI ad (xR S2 i (r.1, r.2.1, r.2.2)) 4 a (by omega) (by omega)) (cwV 1 hts gX4_wheel_X2_markOn rfl rfl rfl hdX2_markOn_1 ⟨Nat.le_of_ble_eq_true rfl, Nat.le_of_ble_eq_true rfl⟩) (hX.preRow (by omega)) rfl rfl hl.1 rfl (lv_room (Nat.le_of_ble_eq_true rfl)) dX4_wheel_69 ⟨Nat.le_of_ble_eq_true rfl, Nat.le_of_ble_eq_true rfl⟩) (fun _ h => by rw [h, xR_ne _ _ (show (4 : Nat) ≠ i by omega)]) ?_
          refine kx_cv (va_runV (As := [.int (nI ((a + sh) % ((S.1 i).2.2))), .int (nI ((S2.1 4).1 a)), .int (nI ((S2.1 4).2.1 a))]) (rest := []) ⟨hx, hb, hml, hown, hts⟩ (m_X2_replace l dC dI ad (xR S2 i (r.1, r.2.1, r.2.2)) i ((a + sh) % ((S.1 i).2.2)) ((S2.1 4).1 a) ((S2.1 4).2.1 a) (by omega) (Nat.lt_of_lt_of_le (Nat.mod_lt _ (by omega)) (by omega))) (cwV 3 hts gX4_wheel_X2_replace rfl rfl rfl hdX2_replace_3 ⟨Nat.le_of_ble_eq_true rfl, Nat.le_of_ble_eq_true rfl⟩) (hX.preRow (by omega)) rfl rfl hl.1 rfl (lv_room (Nat.le_of_ble_eq_true rfl)) dX4_wheel_72 ⟨Nat.le_of_ble_eq_true rfl, Nat.le_of_ble_eq_true rfl⟩) hX (fun _ h => h) (fun S_ H locs hw hX => ?_)
          rw [xR_row, xR_xR] at hw
          subst hw
          refine lv_iinc (v := nI (a + 1)) (lv' := [(6, .int (nI (a + 1))), (0, .ref (ad 57)), (1, .int (nI i)), (2, .int y), (3, .ref (ad (3 * i))), (4, .int (nI ((S.1 i).2.2))), (5, .int (nI sh))]) hx hb dX4_wheel_75 hl (k := 6) rfl (nI_1 a) (by decide) rfl (fun ls hl => ?_)
          refine lv_goto (tgt := 38) hx hb dX4_wheel_78 (by decide) ?_
          exact ih38  (va_up r.1 ((a + sh) % ((S.1 i).2.2)) ((S2.1 4).1 a), va_up r.2.1 ((a + sh) % ((S.1 i).2.2)) ((S2.1 4).2.1 a), r.2.2) (a + 1) ⟨rowOK_put hr9.1 (hr4.2 a (by omega)), hr9.2⟩ (by omega) _ _ (by omega) hX _ (lv_sub hl [1, 2, 3, 4, 5, 6, 0] rfl)
    exact loop38 ((S.1 i).2.2 + 1) (S2.1 i) 0 ⟨hI2.1 i (by omega), by rw [hi4]⟩ (by omega) _ _ (by omega) (WX.eqS (xR_self _ _).symm hX) _ (lv_sub hl [4, 5, 6, 3, 2, 1, 0] rfl)
  · skip
    have h0 := k_1
    refine lv_iconst (v := (-1)) hx hb dX4_wheel_17 (by decide) ?_
    exact W.iret (v := (-1)) hx hb hr (fun t9 ht9 hW9 => ⟨⟨_, S, rfl, (Or.inl ⟨h0, rfl, rfl⟩), hX.P ht9 hW9⟩, hX.2.2.2.F ht9⟩) hX.2.2.2.2.2 dX4_wheel_18
end
