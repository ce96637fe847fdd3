theorem bc_tab : ∀ v, v < 16 → ((((((((nI v) - (((nI v).toUInt32 >>> ((nI 1).toUInt32 &&& Int32.toUInt32 31)).toInt32 &&& 1431655765)) &&& 858993459) + ((((nI v) - (((nI v).toUInt32 >>> ((nI 1).toUInt32 &&& Int32.toUInt32 31)).toInt32 &&& 1431655765)).toUInt32 >>> ((nI 2).toUInt32 &&& Int32.toUInt32 31)).toInt32 &&& 858993459)) + (((((nI v) - (((nI v).toUInt32 >>> ((nI 1).toUInt32 &&& Int32.toUInt32 31)).toInt32 &&& 1431655765)) &&& 858993459) + ((((nI v) - (((nI v).toUInt32 >>> ((nI 1).toUInt32 &&& Int32.toUInt32 31)).toInt32 &&& 1431655765)).toUInt32 >>> ((nI 2).toUInt32 &&& Int32.toUInt32 31)).toInt32 &&& 858993459)).toUInt32 >>> ((nI 4).toUInt32 &&& Int32.toUInt32 31)).toInt32) &&& 252645135) + (((((((nI v) - (((nI v).toUInt32 >>> ((nI 1).toUInt32 &&& Int32.toUInt32 31)).toInt32 &&& 1431655765)) &&& 858993459) + ((((nI v) - (((nI v).toUInt32 >>> ((nI 1).toUInt32 &&& Int32.toUInt32 31)).toInt32 &&& 1431655765)).toUInt32 >>> ((nI 2).toUInt32 &&& Int32.toUInt32 31)).toInt32 &&& 858993459)) + (((((nI v) - (((nI v).toUInt32 >>> ((nI 1).toUInt32 &&& Int32.toUInt32 31)).toInt32 &&& 1431655765)) &&& 858993459) + ((((nI v) - (((nI v).toUInt32 >>> ((nI 1).toUInt32 &&& Int32.toUInt32 31)).toInt32 &&& 1431655765)).toUInt32 >>> ((nI 2).toUInt32 &&& Int32.toUInt32 31)).toInt32 &&& 858993459)).toUInt32 >>> ((nI 4).toUInt32 &&& Int32.toUInt32 31)).toInt32) &&& 252645135).toUInt32 >>> ((nI 8).toUInt32 &&& Int32.toUInt32 31)).toInt32) + ((((((((nI v) - (((nI v).toUInt32 >>> ((nI 1).toUInt32 &&& Int32.toUInt32 31)).toInt32 &&& 1431655765)) &&& 858993459) + ((((nI v) - (((nI v).toUInt32 >>> ((nI 1).toUInt32 &&& Int32.toUInt32 31)).toInt32 &&& 1431655765)).toUInt32 >>> ((nI 2).toUInt32 &&& Int32.toUInt32 31)).toInt32 &&& 858993459)) + (((((nI v) - (((nI v).toUInt32 >>> ((nI 1).toUInt32 &&& Int32.toUInt32 31)).toInt32 &&& 1431655765)) &&& 858993459) + ((((nI v) - (((nI v).toUInt32 >>> ((nI 1).toUInt32 &&& Int32.toUInt32 31)).toInt32 &&& 1431655765)).toUInt32 >>> ((nI 2).toUInt32 &&& Int32.toUInt32 31)).toInt32 &&& 858993459)).toUInt32 >>> ((nI 4).toUInt32 &&& Int32.toUInt32 31)).toInt32) &&& 252645135) + (((((((nI v) - (((nI v).toUInt32 >>> ((nI 1).toUInt32 &&& Int32.toUInt32 31)).toInt32 &&& 1431655765)) &&& 858993459) + ((((nI v) - (((nI v).toUInt32 >>> ((nI 1).toUInt32 &&& Int32.toUInt32 31)).toInt32 &&& 1431655765)).toUInt32 >>> ((nI 2).toUInt32 &&& Int32.toUInt32 31)).toInt32 &&& 858993459)) + (((((nI v) - (((nI v).toUInt32 >>> ((nI 1).toUInt32 &&& Int32.toUInt32 31)).toInt32 &&& 1431655765)) &&& 858993459) + ((((nI v) - (((nI v).toUInt32 >>> ((nI 1).toUInt32 &&& Int32.toUInt32 31)).toInt32 &&& 1431655765)).toUInt32 >>> ((nI 2).toUInt32 &&& Int32.toUInt32 31)).toInt32 &&& 858993459)).toUInt32 >>> ((nI 4).toUInt32 &&& Int32.toUInt32 31)).toInt32) &&& 252645135).toUInt32 >>> ((nI 8).toUInt32 &&& Int32.toUInt32 31)).toInt32).toUInt32 >>> ((nI 16).toUInt32 &&& Int32.toUInt32 31)).toInt32) &&& (nI 63) = nI (numK 6 v) := by decide +kernel
theorem head_ovl {c d : Nat → Nat} {h : Nat} (hh : h < 16) : headB (ovl c d 16) h = headB c h := by
  unfold headB
  congr 1
  rw [ovl_in hh]
  apply propext
  exact ⟨fun q k hk => by have := q k hk; rw [ovl_in (by omega)] at this; exact this, fun q k hk => by rw [ovl_in (by omega)]; exact q k hk⟩
theorem class_ovl (c d : Nat → Nat) : classC (ovl c d 16) = classC c := cntB_cong (fun _ hk => head_ovl hk)
theorem rank_ovl (c d r : Nat → Nat) : ovl (rankC (ovl c d 16)) r 16 = ovl (rankC c) r 16 := by
  funext v
  unfold ovl
  by_cases hv : v < 16
  · rw [if_pos hv, if_pos hv]
    refine cntB_cong (fun k hk => ?_)
    show (headB (ovl c d 16) k && decide (ovl c d 16 k < ovl c d 16 v)) = _
    rw [head_ovl hk, ovl_in hk, ovl_in hv]
  · rw [if_neg hv, if_neg hv]
/-- an order made anew of steps -/
abbrev newO (K : Nat → Nat) (D : Nat → Bool) (n : Nat) (c r : Nat → Nat) : OrdS := (K, D, ovl (codeOf K D n) c 16, ovl (rankC (codeOf K D n)) r 16, n, classC (codeOf K D n))
theorem newO_ok {K : Nat → Nat} {D : Nat → Bool} {n : Nat} {c r : Nat → Nat} (h : n ≤ 10 ∧ ∀ k, k < 10 → K k < 8) : ordOK (newO K D n c r) :=
  ⟨h, fun _ hv => ovl_in hv, fun _ hv => ovl_in hv, rfl⟩
theorem stepOK_up {o : OrdS} (h : stepOK o) (hn : o.2.2.2.2.1 < 10) {k : Nat} (hk : k < 8) {D : Nat → Bool} {c r : Nat → Nat} {cl : Nat} : stepOK (va_up o.1 o.2.2.2.2.1 k, D, c, r, o.2.2.2.2.1 + 1, cl) :=
  ⟨hn, fun q hq => by
    show va_up o.1 o.2.2.2.2.1 k q < 8
    unfold va_up
    split
    · exact hk
    · exact h.2 q hq⟩
theorem stepOK_apn0 {o o2 : OrdS} (h : stepOK o) (h2 : stepOK o2) {D : Nat → Bool} {c r : Nat → Nat} {cl : Nat} : stepOK (apn o.1 o2.1 0 o2.2.2.2.2.1, D, c, r, o2.2.2.2.2.1, cl) :=
  ⟨h2.1, fun q hq => by
    show apn o.1 o2.1 0 o2.2.2.2.2.1 q < 8
    unfold apn
    split
    · exact h2.2 _ (by omega)
    · exact h.2 q hq⟩
theorem stepOK_apn2 {o o2 o3 : OrdS} (h : stepOK o) (h2 : stepOK o2) (h3 : stepOK o3) (hn : o2.2.2.2.2.1 + o3.2.2.2.2.1 ≤ 10) {D : Nat → Bool} {c r : Nat → Nat} {cl : Nat} : stepOK (apn (apn o.1 o2.1 0 o2.2.2.2.2.1) o3.1 o2.2.2.2.2.1 o3.2.2.2.2.1, D, c, r, o2.2.2.2.2.1 + o3.2.2.2.2.1, cl) :=
  ⟨hn, fun q hq => by
    show apn (apn o.1 o2.1 0 o2.2.2.2.2.1) o3.1 o2.2.2.2.2.1 o3.2.2.2.2.1 q < 8
    unfold apn
    split
    · exact h3.2 _ (by omega)
    · split
      · exact h2.2 _ (by omega)
      · exact h.2 q hq⟩
theorem xO_src1 (S : XS) (j t : Nat) (D : Nat → Bool) (x : (Nat → Nat) × (Nat → Nat) × Nat × Nat) : ((xO S j ((S.2.1 j).1, D, x)).2.1 t).1 = (S.2.1 t).1 := by
  by_cases h : t = j
  · subst h; rw [xO_ord]
  · rw [xO_ne _ _ h]
theorem xO_src2 (S : XS) (j t : Nat) (K : Nat → Nat) (x : (Nat → Nat) × (Nat → Nat) × Nat × Nat) : ((xO S j (K, (S.2.1 j).2.1, x)).2.1 t).2.1 = (S.2.1 t).2.1 := by
  by_cases h : t = j
  · subst h; rw [xO_ord]
  · rw [xO_ne _ _ h]
set_option maxHeartbeats 4000000 in
set_option maxRecDepth 100000 in
theorem m_J6_bitCount (l : Launch) (dC : Nat → ClassId) (dI : Nat → Nat → Nat) (ad : Nat → Nat) (S : XS) (v : Nat) (hv : v < 16) : Met l yJ6_bitCount_0f7a4 wsJ6_bitCount_0f7a4 ({ frames := 0, cells := 0, slots := 0, locals := 0 } : Room) (va_Pc [.int (nI v)] (PX dC dI ad S)) (vp_Si (fun r => r = nI (numK 6 v))) 0 0 (fun _ => False) := by
  refine Met.ofW (cc := cJ6_bitCount_0f7a4) (maxL := 1) (ret := (some .int)) (by decide) rfl ?_
  intro p e s m args below meth c s₁ B hml hv
  obtain ⟨rfl, hPX⟩ := hv
  have hx := B.exec
  have hb := B.bytes
  have hr := B.returns
  have hts := atoms_spec (ws := wsJ6_bitCount_0f7a4) B.pre
  have hown : s.vm.findClass RJ6 = some m.cls := findClass_of_methodNamed B.named
  have hlocks := B.notSynchronized
  have hX := WX.of hPX
  have hl := lv_entry ([.int (nI v)]) (n := 1) (Nat.le_of_ble_eq_true rfl)
  rw [lg_entry_eq]
  generalize (lg_sl ([.int (nI v)]) ++ List.replicate (1 - (lg_sl ([.int (nI v)])).length) Slot.unset).toArray = ls at hl ⊢
  have hl : lv_has ls 1 [(0, .int (nI v))] := hl
  show W p l e ({ frames := 0, cells := 0, slots := 0, locals := 0 } : Room) s m ([.int (nI v)]).toArray below meth c s.heap [] 0 0 (MQ below (vp_Si (fun r => r = nI (numK 6 v))) ([.int (nI v)]).toArray s 0 0 (fun _ => False)) (F0 m 0 ls [])
  refine lv_iload_n hx hb dJ6_bitCount_0f7a4_0 rfl (lv_at hl 0 rfl) ?_
  refine lv_iload_n hx hb dJ6_bitCount_0f7a4_1 rfl (lv_at hl 0 rfl) ?_
  refine lv_iconst (v := nI 1) hx hb dJ6_bitCount_0f7a4_2 (by decide) ?_
  refine lv_iushr (v := ((nI v).toUInt32 >>> ((nI 1).toUInt32 &&& Int32.toUInt32 31)).toInt32) hx hb dJ6_bitCount_0f7a4_3 rfl ?_
  refine lv_ldcw (v := 1431655765) hx hb hown (hts (.constant RJ6 265 1431655765) (tm 47 (by decide +kernel) rfl)) dJ6_bitCount_0f7a4_4 ?_
  refine lv_iand hx hb dJ6_bitCount_0f7a4_7 ?_
  refine lv_isub hx hb dJ6_bitCount_0f7a4_8 ?_
  refine lv_topi (fun x1 e_x1 => ?_)
  refine lv_istore_n (lv' := [(0, .int x1)]) hx hb dJ6_bitCount_0f7a4_9 rfl hl (by decide) rfl (fun ls hl => ?_)
  refine lv_iload_n hx hb dJ6_bitCount_0f7a4_10 rfl (lv_at hl 0 rfl) ?_
  refine lv_ldcw (v := 858993459) hx hb hown (hts (.constant RJ6 266 858993459) (tm 48 (by decide +kernel) rfl)) dJ6_bitCount_0f7a4_11 ?_
  refine lv_iand hx hb dJ6_bitCount_0f7a4_14 ?_
  refine lv_iload_n hx hb dJ6_bitCount_0f7a4_15 rfl (lv_at hl 0 rfl) ?_
  refine lv_iconst (v := nI 2) hx hb dJ6_bitCount_0f7a4_16 (by decide) ?_
  refine lv_iushr (v := (x1.toUInt32 >>> ((nI 2).toUInt32 &&& Int32.toUInt32 31)).toInt32) hx hb dJ6_bitCount_0f7a4_17 rfl ?_
  refine lv_ldcw (v := 858993459) hx hb hown (hts (.constant RJ6 266 858993459) (tm 48 (by decide +kernel) rfl)) dJ6_bitCount_0f7a4_18 ?_
  refine lv_iand hx hb dJ6_bitCount_0f7a4_21 ?_
  refine lv_iadd hx hb dJ6_bitCount_0f7a4_22 ?_
  refine lv_topi (fun x2 e_x2 => ?_)
  refine lv_istore_n (lv' := [(0, .int x2)]) hx hb dJ6_bitCount_0f7a4_23 rfl hl (by decide) rfl (fun ls hl => ?_)
  refine lv_iload_n hx hb dJ6_bitCount_0f7a4_24 rfl (lv_at hl 0 rfl) ?_
  refine lv_iload_n hx hb dJ6_bitCount_0f7a4_25 rfl (lv_at hl 0 rfl) ?_
  refine lv_iconst (v := nI 4) hx hb dJ6_bitCount_0f7a4_26 (by decide) ?_
  refine lv_iushr (v := (x2.toUInt32 >>> ((nI 4).toUInt32 &&& Int32.toUInt32 31)).toInt32) hx hb dJ6_bitCount_0f7a4_27 rfl ?_
  refine lv_iadd hx hb dJ6_bitCount_0f7a4_28 ?_
  refine lv_ldcw (v := 252645135) hx hb hown (hts (.constant RJ6 267 252645135) (tm 49 (by decide +kernel) rfl)) dJ6_bitCount_0f7a4_29 ?_
  refine lv_iand hx hb dJ6_bitCount_0f7a4_32 ?_
  refine lv_topi (fun x3 e_x3 => ?_)
  refine lv_istore_n (lv' := [(0, .int x3)]) hx hb dJ6_bitCount_0f7a4_33 rfl hl (by decide) rfl (fun ls hl => ?_)
  refine lv_iload_n hx hb dJ6_bitCount_0f7a4_34 rfl (lv_at hl 0 rfl) ?_
  refine lv_iload_n hx hb dJ6_bitCount_0f7a4_35 rfl (lv_at hl 0 rfl) ?_
  refine lv_bipush (v := nI 8) hx hb dJ6_bitCount_0f7a4_36 (by decide) ?_
  refine lv_iushr (v := (x3.toUInt32 >>> ((nI 8).toUInt32 &&& Int32.toUInt32 31)).toInt32) hx hb dJ6_bitCount_0f7a4_38 rfl ?_
  refine lv_iadd hx hb dJ6_bitCount_0f7a4_39 ?_
  refine lv_topi (fun x4 e_x4 => ?_)
  refine lv_istore_n (lv' := [(0, .int x4)]) hx hb dJ6_bitCount_0f7a4_40 rfl hl (by decide) rfl (fun ls hl => ?_)
  refine lv_iload_n hx hb dJ6_bitCount_0f7a4_41 rfl (lv_at hl 0 rfl) ?_
  refine lv_iload_n hx hb dJ6_bitCount_0f7a4_42 rfl (lv_at hl 0 rfl) ?_
  refine lv_bipush (v := nI 16) hx hb dJ6_bitCount_0f7a4_43 (by decide) ?_
  refine lv_iushr (v := (x4.toUInt32 >>> ((nI 16).toUInt32 &&& Int32.toUInt32 31)).toInt32) hx hb dJ6_bitCount_0f7a4_45 rfl ?_
  refine lv_iadd hx hb dJ6_bitCount_0f7a4_46 ?_
  refine lv_topi (fun x5 e_x5 => ?_)
  refine lv_istore_n (lv' := [(0, .int x5)]) hx hb dJ6_bitCount_0f7a4_47 rfl hl (by decide) rfl (fun ls hl => ?_)
  refine lv_iload_n hx hb dJ6_bitCount_0f7a4_48 rfl (lv_at hl 0 rfl) ?_
  refine lv_bipush (v := nI 63) hx hb dJ6_bitCount_0f7a4_49 (by decide) ?_
  refine lv_iand hx hb dJ6_bitCount_0f7a4_51 ?_
  exact W.iret (v := (x5 &&& (nI 63))) hx hb hr (fun t9 ht9 hW9 => ⟨_, rfl, (by subst e_x5; subst e_x4; subst e_x3; subst e_x2; subst e_x1; exact bc_tab v hv), ht9⟩) (fun _ h => nomatch h) dJ6_bitCount_0f7a4_52
set_option maxHeartbeats 4000000 in
set_option maxRecDepth 100000 in
theorem m_X1_numberBy (l : Launch) (dC : Nat → ClassId) (dI : Nat → Nat → Nat) (ad : Nat → Nat) (S : XS) (k v : Nat) (hk : k < 8) (hv : v < 16) : Met l yX1_numberBy wsX1_numberBy ({ frames := 1, cells := 0, slots := 0, locals := 20 } : Room) (va_Pc [.int (nI k), .int (nI v)] (PX dC dI ad S)) (vp_Si (fun r => r = nI (numK k v))) 0 0 (fun _ => False) := by
  refine Met.ofW (cc := cX1_numberBy) (maxL := 2) (ret := (some .int)) pl_X1 rfl ?_
  intro p e s m args below meth c s₁ B hml hv
  obtain ⟨rfl, hPX⟩ := hv
  have hx := B.exec
  have hb := B.bytes
  have hr := B.returns
  have hts := atoms_spec (ws := wsX1_numberBy) B.pre
  have hown : s.vm.findClass RX1 = some m.cls := findClass_of_methodNamed B.named
  have hlocks := B.notSynchronized
  have hX := WX.of hPX
  have hl := lv_entry ([.int (nI k), .int (nI v)]) (n := 2) (Nat.le_of_ble_eq_true rfl)
  rw [lg_entry_eq]
  generalize (lg_sl ([.int (nI k), .int (nI v)]) ++ List.replicate (2 - (lg_sl ([.int (nI k), .int (nI v)])).length) Slot.unset).toArray = ls at hl ⊢
  have hl : lv_has ls 2 [(0, .int (nI k)), (1, .int (nI v))] := hl
  show W p l e ({ frames := 1, cells := 0, slots := 0, locals := 20 } : Room) s m ([.int (nI k), .int (nI v)]).toArray below meth c s.heap [] 0 0 (MQ below (vp_Si (fun r => r = nI (numK k v))) ([.int (nI k), .int (nI v)]).toArray s 0 0 (fun _ => False)) (F0 m 0 ls [])
  rcases (show k = 0 ∨ k = 1 ∨ k = 2 ∨ k = 3 ∨ k = 4 ∨ k = 5 ∨ k = 6 ∨ k = 7 by omega) with rfl | rfl | rfl | rfl | rfl | rfl | rfl | rfl
  · skip
    have hl : lv_has ls 2 [(0, .int (nI 0)), (1, .int (nI v))] := hl
    refine lv_iload_n hx hb dX1_numberBy_0 rfl (lv_at hl 0 rfl) ?_
    refine lv_tableIn (x := nI 0) (off := 43) (tgt := 44) hx hb dX1_numberBy_1 (by decide) (by decide) (by decide) (by decide) ?_
    refine lv_iload_n hx hb dX1_numberBy_44 rfl (lv_at hl 1 rfl) ?_
    exact W.iret (v := nI v) hx hb hr (fun t9 ht9 hW9 => ⟨_, rfl, rfl, ht9⟩) (fun _ h => nomatch h) dX1_numberBy_45
  · skip
    have hl : lv_has ls 2 [(0, .int (nI 1)), (1, .int (nI v))] := hl
    refine lv_iload_n hx hb dX1_numberBy_0 rfl (lv_at hl 0 rfl) ?_
    refine lv_tableIn (x := nI 1) (off := 45) (tgt := 46) hx hb dX1_numberBy_1 (by decide) (by decide) (by decide) (by decide) ?_
    refine lv_iload_n hx hb dX1_numberBy_46 rfl (lv_at hl 1 rfl) ?_
    refine lv_iconst (v := nI 4) hx hb dX1_numberBy_47 (by decide) ?_
    refine kn_idiv hx hb (by omega) (by omega) (by omega) dX1_numberBy_48 ?_
    exact W.iret (v := nI (v / 4)) hx hb hr (fun t9 ht9 hW9 => ⟨_, rfl, rfl, ht9⟩) (fun _ h => nomatch h) dX1_numberBy_49
  · skip
    have hl : lv_has ls 2 [(0, .int (nI 2)), (1, .int (nI v))] := hl
    refine lv_iload_n hx hb dX1_numberBy_0 rfl (lv_at hl 0 rfl) ?_
    refine lv_tableIn (x := nI 2) (off := 49) (tgt := 50) hx hb dX1_numberBy_1 (by decide) (by decide) (by decide) (by decide) ?_
    refine lv_iload_n hx hb dX1_numberBy_50 rfl (lv_at hl 1 rfl) ?_
    refine lv_iconst (v := nI 4) hx hb dX1_numberBy_51 (by decide) ?_
    refine kn_irem hx hb (by omega) (by omega) (by omega) dX1_numberBy_52 ?_
    exact W.iret (v := nI (v % 4)) hx hb hr (fun t9 ht9 hW9 => ⟨_, rfl, rfl, ht9⟩) (fun _ h => nomatch h) dX1_numberBy_53
  · skip
    have hl : lv_has ls 2 [(0, .int (nI 3)), (1, .int (nI v))] := hl
    refine lv_iload_n hx hb dX1_numberBy_0 rfl (lv_at hl 0 rfl) ?_
    refine lv_tableIn (x := nI 3) (off := 53) (tgt := 54) hx hb dX1_numberBy_1 (by decide) (by decide) (by decide) (by decide) ?_
    refine lv_iload_n hx hb dX1_numberBy_54 rfl (lv_at hl 1 rfl) ?_
    refine lv_iconst (v := nI 2) hx hb dX1_numberBy_55 (by decide) ?_
    refine kn_irem hx hb (by omega) (by omega) (by omega) dX1_numberBy_56 ?_
    exact W.iret (v := nI (v % 2)) hx hb hr (fun t9 ht9 hW9 => ⟨_, rfl, rfl, ht9⟩) (fun _ h => nomatch h) dX1_numberBy_57
  · skip
    have hl : lv_has ls 2 [(0, .int (nI 4)), (1, .int (nI v))] := hl
    refine lv_iload_n hx hb dX1_numberBy_0 rfl (lv_at hl 0 rfl) ?_
    refine lv_tableIn (x := nI 4) (off := 57) (tgt := 58) hx hb dX1_numberBy_1 (by decide) (by decide) (by decide) (by decide) ?_
    refine lv_iload_n hx hb dX1_numberBy_58 rfl (lv_at hl 1 rfl) ?_
    refine lv_iconst (v := nI 3) hx hb dX1_numberBy_59 (by decide) ?_
    refine kn_irem hx hb (by omega) (by omega) (by omega) dX1_numberBy_60 ?_
    exact W.iret (v := nI (v % 3)) hx hb hr (fun t9 ht9 hW9 => ⟨_, rfl, rfl, ht9⟩) (fun _ h => nomatch h) dX1_numberBy_61
  · skip
    have hl : lv_has ls 2 [(0, .int (nI 5)), (1, .int (nI v))] := hl
    refine lv_iload_n hx hb dX1_numberBy_0 rfl (lv_at hl 0 rfl) ?_
    refine lv_tableIn (x := nI 5) (off := 61) (tgt := 62) hx hb dX1_numberBy_1 (by decide) (by decide) (by decide) (by decide) ?_
    refine lv_iload_n hx hb dX1_numberBy_62 rfl (lv_at hl 1 rfl) ?_
    refine lv_bipush (v := nI 8) hx hb dX1_numberBy_63 (by decide) ?_
    refine kn_icmp_ge (tgt := 75) hx hb (by omega) (by omega) dX1_numberBy_65 (by decide) (fun c1 => ?_) (fun c1 => ?_)
    · skip
      refine lv_iload_n hx hb dX1_numberBy_75 rfl (lv_at hl 1 rfl) ?_
      refine lv_bipush (v := nI 8) hx hb dX1_numberBy_76 (by decide) ?_
      refine kn_isub hx hb (by omega) dX1_numberBy_78 ?_
      exact W.iret (v := nI (v - 8)) hx hb hr (fun t9 ht9 hW9 => ⟨_, rfl, (by show _ = nI (if v < 8 then 7 - v else v - 8); rw [if_neg (by omega)]), ht9⟩) (fun _ h => nomatch h) dX1_numberBy_79
    · skip
      refine lv_bipush (v := nI 7) hx hb dX1_numberBy_68 (by decide) ?_
      refine lv_iload_n hx hb dX1_numberBy_70 rfl (lv_at hl 1 rfl) ?_
      refine kn_isub hx hb (by omega) dX1_numberBy_71 ?_
      refine lv_goto (tgt := 79) hx hb dX1_numberBy_72 (by decide) ?_
      exact W.iret (v := nI (7 - v)) hx hb hr (fun t9 ht9 hW9 => ⟨_, rfl, (by show _ = nI (if v < 8 then 7 - v else v - 8); rw [if_pos (by omega)]), ht9⟩) (fun _ h => nomatch h) dX1_numberBy_79
  · skip
    have hl : lv_has ls 2 [(0, .int (nI 6)), (1, .int (nI v))] := hl
    refine lv_iload_n hx hb dX1_numberBy_0 rfl (lv_at hl 0 rfl) ?_
    refine lv_tableIn (x := nI 6) (off := 79) (tgt := 80) hx hb dX1_numberBy_1 (by decide) (by decide) (by decide) (by decide) ?_
    refine lv_iload_n hx hb dX1_numberBy_80 rfl (lv_at hl 1 rfl) ?_
    refine kx_cr (v := nI (numK 6 v)) (va_runS (As := [.int (nI v)]) (rest := []) ⟨hx, hb, hml, hown, hts⟩ (m_J6_bitCount l dC dI ad S v (by omega)) (va_cwS 1 hts gX1_numberBy_J6_bitCount_0f7a4 rfl rfl rfl hdJ6_bitCount_0f7a4_1.2 ⟨Nat.le_of_ble_eq_true rfl, Nat.le_of_ble_eq_true rfl⟩) hX.preS rfl rfl hl.1 rfl (lv_room (Nat.le_of_ble_eq_true rfl)) dX1_numberBy_81 ⟨Nat.le_of_ble_eq_true rfl, Nat.le_of_ble_eq_true rfl⟩) (fun _ h => h) ?_
    exact W.iret (v := nI (numK 6 v)) hx hb hr (fun t9 ht9 hW9 => ⟨_, rfl, rfl, ht9⟩) (fun _ h => nomatch h) dX1_numberBy_84
  · skip
    have hl : lv_has ls 2 [(0, .int (nI 7)), (1, .int (nI v))] := hl
    refine lv_iload_n hx hb dX1_numberBy_0 rfl (lv_at hl 0 rfl) ?_
    refine lv_tableOut (x := nI 7) (tgt := 85) hx hb dX1_numberBy_1 (by decide) (by decide) ?_
    refine lv_iconst (v := nI 0) hx hb dX1_numberBy_85 (by decide) ?_
    exact W.iret (v := nI 0) hx hb hr (fun t9 ht9 hW9 => ⟨_, rfl, rfl, ht9⟩) (fun _ h => nomatch h) dX1_numberBy_86
set_option maxHeartbeats 4000000 in
set_option maxRecDepth 100000 in
theorem m_X1_settle (l : Launch) (dC : Nat → ClassId) (dI : Nat → Nat → Nat) (ad : Nat → Nat) (S : XS) (j : Nat) (hj : j < 6) (ho : stepOK (S.2.1 j)) : Met l yX1_settle wsX1_settle ({ frames := 2, cells := 0, slots := 0, locals := 44 } : Room) (va_Pc [.ref (ad (24 + 5 * j))] (PX dC dI ad S)) (va_Qv (fun S' => S' = xO S j ((S.2.1 j).1, (S.2.1 j).2.1, ovl (codeOf (S.2.1 j).1 (S.2.1 j).2.1 (S.2.1 j).2.2.2.2.1) (S.2.1 j).2.2.1 16, ovl (rankC (codeOf (S.2.1 j).1 (S.2.1 j).2.1 (S.2.1 j).2.2.2.2.1)) (S.2.1 j).2.2.2.1 16, (S.2.1 j).2.2.2.2.1, classC (codeOf (S.2.1 j).1 (S.2.1 j).2.1 (S.2.1 j).2.2.2.2.1))) (PX dC dI ad) (AX ad)) 0 0 (AX ad) := by
  refine Met.ofW (cc := cX1_settle) (maxL := 6) (ret := none) pl_X1 rfl ?_
  intro p e s m args below meth c s₁ B hml hv
  obtain ⟨rfl, hPX⟩ := hv
  have hx := B.exec
  have hb := B.bytes
  have hr := B.returns
  have hts := atoms_spec (ws := wsX1_settle) B.pre
  have hown : s.vm.findClass RX1 = some m.cls := findClass_of_methodNamed B.named
  have hlocks := B.notSynchronized
  have hin1 : ∀ w ∈ u_ws RX1 TX1 6, w ∈ wsX1_settle := tu 1324 (by decide +kernel) rfl
  have hX := WX.of hPX
  have hl := lv_entry ([.ref (ad (24 + 5 * j))]) (n := 6) (Nat.le_of_ble_eq_true rfl)
  rw [lg_entry_eq]
  generalize (lg_sl ([.ref (ad (24 + 5 * j))]) ++ List.replicate (6 - (lg_sl ([.ref (ad (24 + 5 * j))])).length) Slot.unset).toArray = ls at hl ⊢
  have hl : lv_has ls 6 [(0, .ref (ad (24 + 5 * j)))] := hl
  show W p l e ({ frames := 2, cells := 0, slots := 0, locals := 44 } : Room) s m ([.ref (ad (24 + 5 * j))]).toArray below meth c s.heap [] 0 0 (MQ below (va_Qv (fun S' => S' = xO S j ((S.2.1 j).1, (S.2.1 j).2.1, ovl (codeOf (S.2.1 j).1 (S.2.1 j).2.1 (S.2.1 j).2.2.2.2.1) (S.2.1 j).2.2.1 16, ovl (rankC (codeOf (S.2.1 j).1 (S.2.1 j).2.1 (S.2.1 j).2.2.2.2.1)) (S.2.1 j).2.2.2.1 16, (S.2.1 j).2.2.2.2.1, classC (codeOf (S.2.1 j).1 (S.2.1 j).2.1 (S.2.1 j).2.2.2.2.1))) (PX dC dI ad) (AX ad)) ([.ref (ad (24 + 5 * j))]).toArray s 0 0 (AX ad)) (F0 m 0 ls [])
  have hn := ho.1
  refine lv_iconst (v := nI 0) hx hb dX1_settle_0 (by decide) ?_
  refine lv_istore_n (lv' := [(1, .int (nI 0)), (0, .ref (ad (24 + 5 * j)))]) hx hb dX1_settle_1 rfl hl (by decide) rfl (fun ls hl => ?_)
  have loop2 : ∀ (fuel : Nat) (a : Nat) (ha : a ≤ 16) (H : Heap) (locs : List Loc), 16 - a < fuel → WX dC dI ad (xO S j ((S.2.1 j).1, (S.2.1 j).2.1, ovl (codeOf (S.2.1 j).1 (S.2.1 j).2.1 (S.2.1 j).2.2.2.2.1) (S.2.1 j).2.2.1 a, (S.2.1 j).2.2.2.1, (S.2.1 j).2.2.2.2.1, (S.2.1 j).2.2.2.2.2)) (AX ad) s H locs → ∀ ls : Array Slot, lv_has ls 6 [(0, .ref (ad (24 + 5 * j))), (1, .int (nI a))] → W p l e ({ frames := 2, cells := 0, slots := 0, locals := 44 } : Room) s m ([.ref (ad (24 + 5 * j))]).toArray below meth c H locs 0 0 (MQ below (va_Qv (fun S' => S' = xO S j ((S.2.1 j).1, (S.2.1 j).2.1, ovl (codeOf (S.2.1 j).1 (S.2.1 j).2.1 (S.2.1 j).2.2.2.2.1) (S.2.1 j).2.2.1 16, ovl (rankC (codeOf (S.2.1 j).1 (S.2.1 j).2.1 (S.2.1 j).2.2.2.2.1)) (S.2.1 j).2.2.2.1 16, (S.2.1 j).2.2.2.2.1, classC (codeOf (S.2.1 j).1 (S.2.1 j).2.1 (S.2.1 j).2.2.2.2.1))) (PX dC dI ad) (AX ad)) ([.ref (ad (24 + 5 * j))]).toArray s 0 0 (AX ad)) (F0 m 2 ls []) := by
    intro fuel
    induction fuel with
    | zero => intro a ha H locs hf; exact absurd hf (Nat.not_lt_zero _)
    | succ fuel ih2 =>
      intro a ha H locs hf hX ls hl
      refine lv_iload_n hx hb dX1_settle_2 rfl (lv_at hl 1 rfl) ?_
      refine lv_aload_n hx hb dX1_settle_3 rfl (lv_at hl 0 rfl) ?_
      refine ko_gc hx hb hts hin1 hown hX hj (hts (.fieldLink RX1 19 "Orderlattice$Order" "codes" "[J") (tm 35 (by decide +kernel) rfl)) dX1_settle_4 ?_
      refine ko_nc hx hb hX hj dX1_settle_7 ?_
      refine kn_icmp_ge (tgt := 105) hx hb (by omega) (by omega) dX1_settle_8 (by decide) (fun c1 => ?_) (fun c1 => ?_)
      · skip
        refine lv_aload_n hx hb dX1_settle_105 rfl (lv_at hl 0 rfl) ?_
        refine kx_cv (va_runV (As := []) (rest := []) ⟨hx, hb, hml, hown, hts⟩ (m_X1_rankAll l dC dI ad (xO S j ((S.2.1 j).1, (S.2.1 j).2.1, ovl (codeOf (S.2.1 j).1 (S.2.1 j).2.1 (S.2.1 j).2.2.2.2.1) (S.2.1 j).2.2.1 a, (S.2.1 j).2.2.2.1, (S.2.1 j).2.2.2.2.1, (S.2.1 j).2.2.2.2.2)) j hj (by rw [xO_ord]; dsimp only; rw [show a = 16 by omega]; exact fun k hk => by rw [ovl_in hk]; exact Nat.lt_of_lt_of_le (codeOf_lt _ _ hk _) (Nat.le_trans (pow16_le hn) (by decide)))) (cwV 0 hts gX1_settle_X1_rankAll rfl rfl rfl hdX1_rankAll_0 ⟨Nat.le_of_ble_eq_true rfl, Nat.le_of_ble_eq_true rfl⟩) (hX.preOrd hj) rfl rfl hl.1 rfl (lv_room (Nat.le_of_ble_eq_true rfl)) dX1_settle_106 ⟨Nat.le_of_ble_eq_true rfl, Nat.le_of_ble_eq_true rfl⟩) hX (fun _ h => h) (fun S_ H locs hw hX => ?_)
        rw [xO_ord, xO_xO] at hw
        dsimp only at hw
        rw [show a = 16 by omega, rank_ovl, class_ovl] at hw
        subst hw
        exact W.vret hx hb hr (fun t9 ht9 hW9 => ⟨⟨(xO S j ((S.2.1 j).1, (S.2.1 j).2.1, ovl (codeOf (S.2.1 j).1 (S.2.1 j).2.1 (S.2.1 j).2.2.2.2.1) (S.2.1 j).2.2.1 16, ovl (rankC (codeOf (S.2.1 j).1 (S.2.1 j).2.1 (S.2.1 j).2.2.2.2.1)) (S.2.1 j).2.2.2.1 16, (S.2.1 j).2.2.2.2.1, classC (codeOf (S.2.1 j).1 (S.2.1 j).2.1 (S.2.1 j).2.2.2.2.1))), rfl, rfl, hX.P ht9 hW9⟩, hX.2.2.2.F ht9⟩) hX.2.2.2.2.2 dX1_settle_109
      · skip
        refine lv_lconst (v := lN 0) hx hb dX1_settle_11 (by decide) ?_
        refine lv_lstore_n (lv' := [(2, .long (lN 0)), (0, .ref (ad (24 + 5 * j))), (1, .int (nI a))]) hx hb dX1_settle_12 rfl hl (by decide) rfl (fun ls hl => ?_)
        refine lv_iconst (v := nI 0) hx hb dX1_settle_13 (by decide) ?_
        refine lv_istore (lv' := [(4, .int (nI 0)), (2, .long (lN 0)), (0, .ref (ad (24 + 5 * j))), (1, .int (nI a))]) hx hb dX1_settle_14 hl (by decide) rfl (fun ls hl => ?_)
        have loop16 : ∀ (fuel : Nat) (q x : Nat) (hk : q ≤ (S.2.1 j).2.2.2.2.1) (hq : x = codeOf (S.2.1 j).1 (S.2.1 j).2.1 q a) (H : Heap) (locs : List Loc), (S.2.1 j).2.2.2.2.1 - q < fuel → WX dC dI ad (xO S j ((S.2.1 j).1, (S.2.1 j).2.1, ovl (codeOf (S.2.1 j).1 (S.2.1 j).2.1 (S.2.1 j).2.2.2.2.1) (S.2.1 j).2.2.1 a, (S.2.1 j).2.2.2.1, (S.2.1 j).2.2.2.2.1, (S.2.1 j).2.2.2.2.2)) (AX ad) s H locs → ∀ ls : Array Slot, lv_has ls 6 [(0, .ref (ad (24 + 5 * j))), (1, .int (nI a)), (2, .long (lN x)), (4, .int (nI q))] → W p l e ({ frames := 2, cells := 0, slots := 0, locals := 44 } : Room) s m ([.ref (ad (24 + 5 * j))]).toArray below meth c H locs 0 0 (MQ below (va_Qv (fun S' => S' = xO S j ((S.2.1 j).1, (S.2.1 j).2.1, ovl (codeOf (S.2.1 j).1 (S.2.1 j).2.1 (S.2.1 j).2.2.2.2.1) (S.2.1 j).2.2.1 16, ovl (rankC (codeOf (S.2.1 j).1 (S.2.1 j).2.1 (S.2.1 j).2.2.2.2.1)) (S.2.1 j).2.2.2.1 16, (S.2.1 j).2.2.2.2.1, classC (codeOf (S.2.1 j).1 (S.2.1 j).2.1 (S.2.1 j).2.2.2.2.1))) (PX dC dI ad) (AX ad)) ([.ref (ad (24 + 5 * j))]).toArray s 0 0 (AX ad)) (F0 m 16 ls []) := by
          intro fuel
          induction fuel with
          | zero => intro q x hk hq H locs hf; exact absurd hf (Nat.not_lt_zero _)
          | succ fuel ih16 =>
            intro q x hk hq H locs hf hX ls hl
            refine lv_iload hx hb dX1_settle_16 (lv_at hl 3 rfl) ?_
            refine lv_aload_n hx hb dX1_settle_18 rfl (lv_at hl 0 rfl) ?_
            refine ko_gn (n := (S.2.1 j).2.2.2.2.1) hx hb hts hin1 hown hX hj (by rw [xO_ord]) (hts (.fieldLink RX1 26 "Orderlattice$Order" "many" "I") (tm 37 (by decide +kernel) rfl)) dX1_settle_19 ?_
            refine kn_icmp_ge (tgt := 92) hx hb (by omega) (by omega) dX1_settle_22 (by decide) (fun c2 => ?_) (fun c2 => ?_)
            · skip
              refine lv_aload_n hx hb dX1_settle_92 rfl (lv_at hl 0 rfl) ?_
              refine ko_gc hx hb hts hin1 hown hX hj (hts (.fieldLink RX1 19 "Orderlattice$Order" "codes" "[J") (tm 35 (by decide +kernel) rfl)) dX1_settle_93 ?_
              refine lv_iload_n hx hb dX1_settle_96 rfl (lv_at hl 1 rfl) ?_
              refine lv_lload_n hx hb dX1_settle_97 rfl (lv_at hl 2 rfl) ?_
              refine ko_sc (S' := (xO S j ((S.2.1 j).1, (S.2.1 j).2.1, va_up (ovl (codeOf (S.2.1 j).1 (S.2.1 j).2.1 (S.2.1 j).2.2.2.2.1) (S.2.1 j).2.2.1 a) a x, (S.2.1 j).2.2.2.1, (S.2.1 j).2.2.2.2.1, (S.2.1 j).2.2.2.2.2))) hx hb hX hj (by omega) (by rw [xO_ord, xO_xO]) dX1_settle_98 (fun H locs hX => ?_)
              refine lv_iinc (v := nI (a + 1)) (lv' := [(1, .int (nI (a + 1))), (0, .ref (ad (24 + 5 * j))), (2, .long (lN x)), (4, .int (nI q))]) hx hb dX1_settle_99 hl (k := 1) rfl (nI_1 a) (by decide) rfl (fun ls hl => ?_)
              refine lv_goto (tgt := 2) hx hb dX1_settle_102 (by decide) ?_
              exact ih2  (a + 1) (by omega) _ _ (by omega) (WX.eqS (by rw [hq, show q = (S.2.1 j).2.2.2.2.1 by omega, ovl_up]) hX) _ (lv_sub hl [1, 0] rfl)
            · skip
              refine lv_iload hx hb dX1_settle_25 (lv_at hl 3 rfl) ?_
              refine lv_aload_n hx hb dX1_settle_27 rfl (lv_at hl 0 rfl) ?_
              refine ko_gk hx hb hts hin1 hown hX hj (hts (.fieldLink RX1 11 "Orderlattice$Order" "keys" "[I") (tm 31 (by decide +kernel) rfl)) dX1_settle_28 ?_
              refine ko_nk hx hb hX hj dX1_settle_31 ?_
              refine kn_icmp_ge (tgt := 92) hx hb (by omega) (by omega) dX1_settle_32 (by decide) (fun c3 => absurd c3 (by omega)) (fun c3 => ?_)
              refine lv_iload hx hb dX1_settle_35 (lv_at hl 3 rfl) ?_
              refine lv_aload_n hx hb dX1_settle_37 rfl (lv_at hl 0 rfl) ?_
              refine ko_gd hx hb hts hin1 hown hX hj (hts (.fieldLink RX1 15 "Orderlattice$Order" "downs" "[Z") (tm 33 (by decide +kernel) rfl)) dX1_settle_38 ?_
              refine ko_nd hx hb hX hj dX1_settle_41 ?_
              refine kn_icmp_ge (tgt := 92) hx hb (by omega) (by omega) dX1_settle_42 (by decide) (fun c4 => absurd c4 (by omega)) (fun c4 => ?_)
              refine lv_aload_n hx hb dX1_settle_45 rfl (lv_at hl 0 rfl) ?_
              refine ko_gk hx hb hts hin1 hown hX hj (hts (.fieldLink RX1 11 "Orderlattice$Order" "keys" "[I") (tm 31 (by decide +kernel) rfl)) dX1_settle_46 ?_
              refine lv_iload hx hb dX1_settle_49 (lv_at hl 3 rfl) ?_
              refine ko_lk (v := ((S.2.1 j).1) q) hx hb hX hj (by omega) (by rw [xO_ord]) dX1_settle_51 ?_
              refine lv_iload_n hx hb dX1_settle_52 rfl (lv_at hl 1 rfl) ?_
              refine kx_cr (v := nI (numK (((S.2.1 j).1) q) a)) (va_runS (As := [.int (nI (((S.2.1 j).1) q)), .int (nI a)]) (rest := []) ⟨hx, hb, hml, hown, hts⟩ (m_X1_numberBy l dC dI ad (xO S j ((S.2.1 j).1, (S.2.1 j).2.1, ovl (codeOf (S.2.1 j).1 (S.2.1 j).2.1 (S.2.1 j).2.2.2.2.1) (S.2.1 j).2.2.1 a, (S.2.1 j).2.2.2.1, (S.2.1 j).2.2.2.2.1, (S.2.1 j).2.2.2.2.2)) (((S.2.1 j).1) q) a (ho.2 _ (by omega)) (by omega)) (va_cwS 2 hts gX1_settle_X1_numberBy rfl rfl rfl hdX1_numberBy_2.2 ⟨Nat.le_of_ble_eq_true rfl, Nat.le_of_ble_eq_true rfl⟩) hX.preS rfl rfl hl.1 rfl (lv_room (Nat.le_of_ble_eq_true rfl)) dX1_settle_53 ⟨Nat.le_of_ble_eq_true rfl, Nat.le_of_ble_eq_true rfl⟩) (fun _ h => h) ?_
              refine lv_istore (lv' := [(5, .int (nI (numK (((S.2.1 j).1) q) a))), (0, .ref (ad (24 + 5 * j))), (1, .int (nI a)), (2, .long (lN x)), (4, .int (nI q))]) hx hb dX1_settle_56 hl (by decide) rfl (fun ls hl => ?_)
              refine lv_lload_n hx hb dX1_settle_58 rfl (lv_at hl 3 rfl) ?_
              refine lv_ldc2 (v := lN 16) hx hb hown (hts (.constantLong RX1 86 16) (tm 39 (by decide +kernel) rfl)) dX1_settle_59 ?_
              refine kn_lmul hx hb dX1_settle_62 ?_
              refine lv_aload_n hx hb dX1_settle_63 rfl (lv_at hl 1 rfl) ?_
              refine ko_gd hx hb hts hin1 hown hX hj (hts (.fieldLink RX1 15 "Orderlattice$Order" "downs" "[Z") (tm 33 (by decide +kernel) rfl)) dX1_settle_64 ?_
              refine lv_iload hx hb dX1_settle_67 (lv_at hl 4 rfl) ?_
              refine ko_ld (z := ((S.2.1 j).2.1) q) hx hb hX hj (by omega) (by rw [xO_ord]) dX1_settle_69 ?_
              refine kb_if_eq (tgt := 81) hx hb dX1_settle_70 (by decide) (fun c5 => ?_) (fun c5 => ?_)
              · skip
                have hd := c5
                refine lv_iload hx hb dX1_settle_81 (lv_at hl 0 rfl) ?_
                have h9 := numK_lt (k := (S.2.1 j).1 q) (v := a) (by omega)
                refine lv_i2l (v := lN (numK (((S.2.1 j).1) q) a)) hx hb dX1_settle_83 (nI_l (by omega)) ?_
                refine kn_ladd hx hb dX1_settle_84 ?_
                refine lv_lstore_n (lv' := [(2, .long (lN (x * 16 + (numK (((S.2.1 j).1) q) a)))), (5, .int (nI (numK (((S.2.1 j).1) q) a))), (0, .ref (ad (24 + 5 * j))), (1, .int (nI a)), (4, .int (nI q))]) hx hb dX1_settle_85 rfl hl (by decide) rfl (fun ls hl => ?_)
                refine lv_iinc (v := nI (q + 1)) (lv' := [(4, .int (nI (q + 1))), (2, .long (lN (x * 16 + (numK (((S.2.1 j).1) q) a)))), (5, .int (nI (numK (((S.2.1 j).1) q) a))), (0, .ref (ad (24 + 5 * j))), (1, .int (nI a))]) hx hb dX1_settle_86 hl (k := 4) rfl (nI_1 q) (by decide) rfl (fun ls hl => ?_)
                refine lv_goto (tgt := 16) hx hb dX1_settle_89 (by decide) ?_
                exact ih16  (q + 1) (x * 16 + (numK (((S.2.1 j).1) q) a)) (by omega) (by rw [codeOf, ← hq, digK, hd]; rfl) _ _ (by omega) hX _ (lv_sub hl [3, 4, 1, 0] rfl)
              · skip
                have hd := c5
                refine lv_bipush (v := nI 15) hx hb dX1_settle_73 (by decide) ?_
                refine lv_iload hx hb dX1_settle_75 (lv_at hl 0 rfl) ?_
                have h9 := numK_lt (k := (S.2.1 j).1 q) (v := a) (by omega)
                refine kn_isub hx hb (by omega) dX1_settle_77 ?_
                refine lv_goto (tgt := 83) hx hb dX1_settle_78 (by decide) ?_
                have h9 := numK_lt (k := (S.2.1 j).1 q) (v := a) (by omega)
                refine lv_i2l (v := lN (15 - (numK (((S.2.1 j).1) q) a))) hx hb dX1_settle_83 (nI_l (by omega)) ?_
                refine kn_ladd hx hb dX1_settle_84 ?_
                refine lv_lstore_n (lv' := [(2, .long (lN (x * 16 + (15 - (numK (((S.2.1 j).1) q) a))))), (5, .int (nI (numK (((S.2.1 j).1) q) a))), (0, .ref (ad (24 + 5 * j))), (1, .int (nI a)), (4, .int (nI q))]) hx hb dX1_settle_85 rfl hl (by decide) rfl (fun ls hl => ?_)
                refine lv_iinc (v := nI (q + 1)) (lv' := [(4, .int (nI (q + 1))), (2, .long (lN (x * 16 + (15 - (numK (((S.2.1 j).1) q) a))))), (5, .int (nI (numK (((S.2.1 j).1) q) a))), (0, .ref (ad (24 + 5 * j))), (1, .int (nI a))]) hx hb dX1_settle_86 hl (k := 4) rfl (nI_1 q) (by decide) rfl (fun ls hl => ?_)
                refine lv_goto (tgt := 16) hx hb dX1_settle_89 (by decide) ?_
                exact ih16  (q + 1) (x * 16 + (15 - (numK (((S.2.1 j).1) q) a))) (by omega) (by rw [codeOf, ← hq, digK, hd]; rfl) _ _ (by omega) hX _ (lv_sub hl [3, 4, 1, 0] rfl)
        exact loop16 ((S.2.1 j).2.2.2.2.1 - 0 + 1) 0 0 (by omega) rfl _ _ (by omega) (WX.eqS rfl hX) _ (lv_sub hl [2, 3, 1, 0] rfl)
  exact loop2 (16 - 0 + 1) 0 (by omega) _ _ (by omega) (WX.eqS (by rw [ovl_0]; exact (xO_self S j).symm) hX) _ (lv_sub hl [1, 0] rfl)
set_option maxHeartbeats 4000000 in
set_option maxRecDepth 100000 in
theorem m_X1_append (l : Launch) (dC : Nat → ClassId) (dI : Nat → Nat → Nat) (ad : Nat → Nat) (S : XS) (j k : Nat) (d : Bool) (hj : j < 6) (ho : stepOK (S.2.1 j)) (hn : (S.2.1 j).2.2.2.2.1 < 10) (hk : k < 8) : Met l yX1_append wsX1_append ({ frames := 3, cells := 0, slots := 0, locals := 69 } : Room) (va_Pc [.ref (ad (24 + 5 * j)), .int (nI k), .int (bI d)] (PX dC dI ad S)) (va_Qv (fun S' => S' = xO S j (newO (va_up (S.2.1 j).1 (S.2.1 j).2.2.2.2.1 k) (va_up (S.2.1 j).2.1 (S.2.1 j).2.2.2.2.1 d) ((S.2.1 j).2.2.2.2.1 + 1) (S.2.1 j).2.2.1 (S.2.1 j).2.2.2.1)) (PX dC dI ad) (AX ad)) 0 0 (AX ad) := by
  refine Met.ofW (cc := cX1_append) (maxL := 3) (ret := none) pl_X1 rfl ?_
  intro p e s m args below meth c s₁ B hml hv
  obtain ⟨rfl, hPX⟩ := hv
  have hx := B.exec
  have hb := B.bytes
  have hr := B.returns
  have hts := atoms_spec (ws := wsX1_append) B.pre
  have hown : s.vm.findClass RX1 = some m.cls := findClass_of_methodNamed B.named
  have hlocks := B.notSynchronized
  have hX := WX.of hPX
  have hl := lv_entry ([.ref (ad (24 + 5 * j)), .int (nI k), .int (bI d)]) (n := 3) (Nat.le_of_ble_eq_true rfl)
  rw [lg_entry_eq]
  generalize (lg_sl ([.ref (ad (24 + 5 * j)), .int (nI k), .int (bI d)]) ++ List.replicate (3 - (lg_sl ([.ref (ad (24 + 5 * j)), .int (nI k), .int (bI d)])).length) Slot.unset).toArray = ls at hl ⊢
  have hl : lv_has ls 3 [(0, .ref (ad (24 + 5 * j))), (1, .int (nI k)), (2, .int (bI d))] := hl
  show W p l e ({ frames := 3, cells := 0, slots := 0, locals := 69 } : Room) s m ([.ref (ad (24 + 5 * j)), .int (nI k), .int (bI d)]).toArray below meth c s.heap [] 0 0 (MQ below (va_Qv (fun S' => S' = xO S j (newO (va_up (S.2.1 j).1 (S.2.1 j).2.2.2.2.1 k) (va_up (S.2.1 j).2.1 (S.2.1 j).2.2.2.2.1 d) ((S.2.1 j).2.2.2.2.1 + 1) (S.2.1 j).2.2.1 (S.2.1 j).2.2.2.1)) (PX dC dI ad) (AX ad)) ([.ref (ad (24 + 5 * j)), .int (nI k), .int (bI d)]).toArray s 0 0 (AX ad)) (F0 m 0 ls [])
  refine lv_aload_n hx hb dX1_append_0 rfl (lv_at hl 0 rfl) ?_
  refine lv_iload_n hx hb dX1_append_1 rfl (lv_at hl 1 rfl) ?_
  refine lv_iload_n hx hb dX1_append_2 rfl (lv_at hl 2 rfl) ?_
  refine kx_cv (va_runV (As := [.int (nI k), .int (bI d)]) (rest := []) ⟨hx, hb, hml, hown, hts⟩ (m_X1_addStep l dC dI ad S j k d hj (by omega)) (cwV 2 hts gX1_append_X1_addStep rfl rfl rfl hdX1_addStep_2 ⟨Nat.le_of_ble_eq_true rfl, Nat.le_of_ble_eq_true rfl⟩) (hX.preOrd hj) rfl rfl hl.1 rfl (lv_room (Nat.le_of_ble_eq_true rfl)) dX1_append_3 ⟨Nat.le_of_ble_eq_true rfl, Nat.le_of_ble_eq_true rfl⟩) hX (fun _ h => h) (fun S_ H locs hw hX => ?_)
  subst hw
  refine lv_aload_n hx hb dX1_append_6 rfl (lv_at hl 0 rfl) ?_
  refine kx_cv (va_runV (As := []) (rest := []) ⟨hx, hb, hml, hown, hts⟩ (m_X1_settle l dC dI ad (xO S j (va_up ((S.2.1 j).1) ((S.2.1 j).2.2.2.2.1) k, va_up ((S.2.1 j).2.1) ((S.2.1 j).2.2.2.2.1) d, (S.2.1 j).2.2.1, (S.2.1 j).2.2.2.1, (S.2.1 j).2.2.2.2.1 + 1, (S.2.1 j).2.2.2.2.2)) j hj (by rw [xO_ord]; exact stepOK_up ho hn hk)) (cwV 0 hts gX1_append_X1_settle rfl rfl rfl hdX1_settle_0 ⟨Nat.le_of_ble_eq_true rfl, Nat.le_of_ble_eq_true rfl⟩) (hX.preOrd hj) rfl rfl hl.1 rfl (lv_room (Nat.le_of_ble_eq_true rfl)) dX1_append_7 ⟨Nat.le_of_ble_eq_true rfl, Nat.le_of_ble_eq_true rfl⟩) hX (fun _ h => h) (fun S_ H locs hw hX => ?_)
  rw [xO_ord, xO_xO] at hw
  subst hw
  exact W.vret hx hb hr (fun t9 ht9 hW9 => ⟨⟨(xO S j (va_up ((S.2.1 j).1) ((S.2.1 j).2.2.2.2.1) k, va_up ((S.2.1 j).2.1) ((S.2.1 j).2.2.2.2.1) d, ovl (codeOf (va_up ((S.2.1 j).1) ((S.2.1 j).2.2.2.2.1) k) (va_up ((S.2.1 j).2.1) ((S.2.1 j).2.2.2.2.1) d) ((S.2.1 j).2.2.2.2.1 + 1)) ((S.2.1 j).2.2.1) 16, ovl (rankC (codeOf (va_up ((S.2.1 j).1) ((S.2.1 j).2.2.2.2.1) k) (va_up ((S.2.1 j).2.1) ((S.2.1 j).2.2.2.2.1) d) ((S.2.1 j).2.2.2.2.1 + 1))) ((S.2.1 j).2.2.2.1) 16, (S.2.1 j).2.2.2.2.1 + 1, classC (codeOf (va_up ((S.2.1 j).1) ((S.2.1 j).2.2.2.2.1) k) (va_up ((S.2.1 j).2.1) ((S.2.1 j).2.2.2.2.1) d) ((S.2.1 j).2.2.2.2.1 + 1)))), rfl, rfl, hX.P ht9 hW9⟩, hX.2.2.2.F ht9⟩) hX.2.2.2.2.2 dX1_append_10
set_option maxHeartbeats 4000000 in
set_option maxRecDepth 100000 in
theorem m_X1_empty (l : Launch) (dC : Nat → ClassId) (dI : Nat → Nat → Nat) (ad : Nat → Nat) (S : XS) (j : Nat) (hj : j < 6) (ho : stepOK (S.2.1 j)) : Met l yX1_empty wsX1_empty ({ frames := 3, cells := 0, slots := 0, locals := 69 } : Room) (va_Pc [.ref (ad (24 + 5 * j))] (PX dC dI ad S)) (va_Qv (fun S' => S' = xO S j (newO (S.2.1 j).1 (S.2.1 j).2.1 0 (S.2.1 j).2.2.1 (S.2.1 j).2.2.2.1)) (PX dC dI ad) (AX ad)) 0 0 (AX ad) := by
  refine Met.ofW (cc := cX1_empty) (maxL := 1) (ret := none) pl_X1 rfl ?_
  intro p e s m args below meth c s₁ B hml hv
  obtain ⟨rfl, hPX⟩ := hv
  have hx := B.exec
  have hb := B.bytes
  have hr := B.returns
  have hts := atoms_spec (ws := wsX1_empty) B.pre
  have hown : s.vm.findClass RX1 = some m.cls := findClass_of_methodNamed B.named
  have hlocks := B.notSynchronized
  have hin1 : ∀ w ∈ u_ws RX1 TX1 6, w ∈ wsX1_empty := tu 1324 (by decide +kernel) rfl
  have hX := WX.of hPX
  have hl := lv_entry ([.ref (ad (24 + 5 * j))]) (n := 1) (Nat.le_of_ble_eq_true rfl)
  rw [lg_entry_eq]
  generalize (lg_sl ([.ref (ad (24 + 5 * j))]) ++ List.replicate (1 - (lg_sl ([.ref (ad (24 + 5 * j))])).length) Slot.unset).toArray = ls at hl ⊢
  have hl : lv_has ls 1 [(0, .ref (ad (24 + 5 * j)))] := hl
  show W p l e ({ frames := 3, cells := 0, slots := 0, locals := 69 } : Room) s m ([.ref (ad (24 + 5 * j))]).toArray below meth c s.heap [] 0 0 (MQ below (va_Qv (fun S' => S' = xO S j (newO (S.2.1 j).1 (S.2.1 j).2.1 0 (S.2.1 j).2.2.1 (S.2.1 j).2.2.2.1)) (PX dC dI ad) (AX ad)) ([.ref (ad (24 + 5 * j))]).toArray s 0 0 (AX ad)) (F0 m 0 ls [])
  refine lv_aload_n hx hb dX1_empty_0 rfl (lv_at hl 0 rfl) ?_
  refine lv_iconst (v := nI 0) hx hb dX1_empty_1 (by decide) ?_
  refine ko_pn (S' := (xO S j ((S.2.1 j).1, (S.2.1 j).2.1, (S.2.1 j).2.2.1, (S.2.1 j).2.2.2.1, 0, (S.2.1 j).2.2.2.2.2))) hx hb hts hin1 hown hX hj rfl (hts (.fieldLink RX1 26 "Orderlattice$Order" "many" "I") (tm 37 (by decide +kernel) rfl)) dX1_empty_2 (fun H locs hX => ?_)
  refine lv_aload_n hx hb dX1_empty_5 rfl (lv_at hl 0 rfl) ?_
  refine kx_cv (va_runV (As := []) (rest := []) ⟨hx, hb, hml, hown, hts⟩ (m_X1_settle l dC dI ad (xO S j ((S.2.1 j).1, (S.2.1 j).2.1, (S.2.1 j).2.2.1, (S.2.1 j).2.2.2.1, 0, (S.2.1 j).2.2.2.2.2)) j hj (by rw [xO_ord]; exact ⟨Nat.zero_le _, ho.2⟩)) (cwV 0 hts gX1_empty_X1_settle rfl rfl rfl hdX1_settle_0 ⟨Nat.le_of_ble_eq_true rfl, Nat.le_of_ble_eq_true rfl⟩) (hX.preOrd hj) rfl rfl hl.1 rfl (lv_room (Nat.le_of_ble_eq_true rfl)) dX1_empty_6 ⟨Nat.le_of_ble_eq_true rfl, Nat.le_of_ble_eq_true rfl⟩) hX (fun _ h => h) (fun S_ H locs hw hX => ?_)
  rw [xO_ord, xO_xO] at hw
  subst hw
  exact W.vret hx hb hr (fun t9 ht9 hW9 => ⟨⟨(xO S j ((S.2.1 j).1, (S.2.1 j).2.1, ovl (codeOf ((S.2.1 j).1) ((S.2.1 j).2.1) 0) ((S.2.1 j).2.2.1) 16, ovl (rankC (codeOf ((S.2.1 j).1) ((S.2.1 j).2.1) 0)) ((S.2.1 j).2.2.2.1) 16, 0, classC (codeOf ((S.2.1 j).1) ((S.2.1 j).2.1) 0))), rfl, rfl, hX.P ht9 hW9⟩, hX.2.2.2.F ht9⟩) hX.2.2.2.2.2 dX1_empty_9
set_option maxHeartbeats 4000000 in
set_option maxRecDepth 100000 in
theorem m_X1_removeLast (l : Launch) (dC : Nat → ClassId) (dI : Nat → Nat → Nat) (ad : Nat → Nat) (S : XS) (j : Nat) (hj : j < 6) (ho : stepOK (S.2.1 j)) (hn : 0 < (S.2.1 j).2.2.2.2.1) : Met l yX1_removeLast wsX1_removeLast ({ frames := 3, cells := 0, slots := 0, locals := 69 } : Room) (va_Pc [.ref (ad (24 + 5 * j))] (PX dC dI ad S)) (va_Qv (fun S' => S' = xO S j (newO (S.2.1 j).1 (S.2.1 j).2.1 ((S.2.1 j).2.2.2.2.1 - 1) (S.2.1 j).2.2.1 (S.2.1 j).2.2.2.1)) (PX dC dI ad) (AX ad)) 0 0 (AX ad) := by
  refine Met.ofW (cc := cX1_removeLast) (maxL := 1) (ret := none) pl_X1 rfl ?_
  intro p e s m args below meth c s₁ B hml hv
  obtain ⟨rfl, hPX⟩ := hv
  have hx := B.exec
  have hb := B.bytes
  have hr := B.returns
  have hts := atoms_spec (ws := wsX1_removeLast) B.pre
  have hown : s.vm.findClass RX1 = some m.cls := findClass_of_methodNamed B.named
  have hlocks := B.notSynchronized
  have hin1 : ∀ w ∈ u_ws RX1 TX1 6, w ∈ wsX1_removeLast := tu 1324 (by decide +kernel) rfl
  have hX := WX.of hPX
  have hl := lv_entry ([.ref (ad (24 + 5 * j))]) (n := 1) (Nat.le_of_ble_eq_true rfl)
  rw [lg_entry_eq]
  generalize (lg_sl ([.ref (ad (24 + 5 * j))]) ++ List.replicate (1 - (lg_sl ([.ref (ad (24 + 5 * j))])).length) Slot.unset).toArray = ls at hl ⊢
  have hl : lv_has ls 1 [(0, .ref (ad (24 + 5 * j)))] := hl
  show W p l e ({ frames := 3, cells := 0, slots := 0, locals := 69 } : Room) s m ([.ref (ad (24 + 5 * j))]).toArray below meth c s.heap [] 0 0 (MQ below (va_Qv (fun S' => S' = xO S j (newO (S.2.1 j).1 (S.2.1 j).2.1 ((S.2.1 j).2.2.2.2.1 - 1) (S.2.1 j).2.2.1 (S.2.1 j).2.2.2.1)) (PX dC dI ad) (AX ad)) ([.ref (ad (24 + 5 * j))]).toArray s 0 0 (AX ad)) (F0 m 0 ls [])
  have hn9 := ho.1
  refine lv_aload_n hx hb dX1_removeLast_0 rfl (lv_at hl 0 rfl) ?_
  refine ko_gn (n := (S.2.1 j).2.2.2.2.1) hx hb hts hin1 hown hX hj rfl (hts (.fieldLink RX1 26 "Orderlattice$Order" "many" "I") (tm 37 (by decide +kernel) rfl)) dX1_removeLast_1 ?_
  refine kn_if_le (tgt := 21) hx hb (by omega) dX1_removeLast_4 (by decide) (fun c1 => absurd c1 (by omega)) (fun c1 => ?_)
  refine lv_aload_n hx hb dX1_removeLast_7 rfl (lv_at hl 0 rfl) ?_
  refine lv_dup hx hb dX1_removeLast_8 rfl ?_
  refine ko_gn (n := (S.2.1 j).2.2.2.2.1) hx hb hts hin1 hown hX hj rfl (hts (.fieldLink RX1 26 "Orderlattice$Order" "many" "I") (tm 37 (by decide +kernel) rfl)) dX1_removeLast_9 ?_
  refine lv_iconst (v := nI 1) hx hb dX1_removeLast_12 (by decide) ?_
  refine kn_isub hx hb (by omega) dX1_removeLast_13 ?_
  refine ko_pn (S' := (xO S j ((S.2.1 j).1, (S.2.1 j).2.1, (S.2.1 j).2.2.1, (S.2.1 j).2.2.2.1, ((S.2.1 j).2.2.2.2.1) - 1, (S.2.1 j).2.2.2.2.2))) hx hb hts hin1 hown hX hj rfl (hts (.fieldLink RX1 26 "Orderlattice$Order" "many" "I") (tm 37 (by decide +kernel) rfl)) dX1_removeLast_14 (fun H locs hX => ?_)
  refine lv_aload_n hx hb dX1_removeLast_17 rfl (lv_at hl 0 rfl) ?_
  refine kx_cv (va_runV (As := []) (rest := []) ⟨hx, hb, hml, hown, hts⟩ (m_X1_settle l dC dI ad (xO S j ((S.2.1 j).1, (S.2.1 j).2.1, (S.2.1 j).2.2.1, (S.2.1 j).2.2.2.1, ((S.2.1 j).2.2.2.2.1) - 1, (S.2.1 j).2.2.2.2.2)) j hj (by rw [xO_ord]; exact ⟨Nat.le_trans (Nat.sub_le _ _) ho.1, ho.2⟩)) (cwV 0 hts gX1_removeLast_X1_settle rfl rfl rfl hdX1_settle_0 ⟨Nat.le_of_ble_eq_true rfl, Nat.le_of_ble_eq_true rfl⟩) (hX.preOrd hj) rfl rfl hl.1 rfl (lv_room (Nat.le_of_ble_eq_true rfl)) dX1_removeLast_18 ⟨Nat.le_of_ble_eq_true rfl, Nat.le_of_ble_eq_true rfl⟩) hX (fun _ h => h) (fun S_ H locs hw hX => ?_)
  rw [xO_ord, xO_xO] at hw
  subst hw
  exact W.vret hx hb hr (fun t9 ht9 hW9 => ⟨⟨(xO S j ((S.2.1 j).1, (S.2.1 j).2.1, ovl (codeOf ((S.2.1 j).1) ((S.2.1 j).2.1) (((S.2.1 j).2.2.2.2.1) - 1)) ((S.2.1 j).2.2.1) 16, ovl (rankC (codeOf ((S.2.1 j).1) ((S.2.1 j).2.1) (((S.2.1 j).2.2.2.2.1) - 1))) ((S.2.1 j).2.2.2.1) 16, ((S.2.1 j).2.2.2.2.1) - 1, classC (codeOf ((S.2.1 j).1) ((S.2.1 j).2.1) (((S.2.1 j).2.2.2.2.1) - 1)))), rfl, rfl, hX.P ht9 hW9⟩, hX.2.2.2.F ht9⟩) hX.2.2.2.2.2 dX1_removeLast_21
set_option maxHeartbeats 4000000 in
set_option maxRecDepth 100000 in
theorem m_X1_downSteps (l : Launch) (dC : Nat → ClassId) (dI : Nat → Nat → Nat) (ad : Nat → Nat) (S : XS) (j : Nat) (hj : j < 6) (ho : stepOK (S.2.1 j)) : Met l yX1_downSteps wsX1_downSteps ({ frames := 1, cells := 0, slots := 0, locals := 21 } : Room) (va_Pc [.ref (ad (24 + 5 * j))] (PX dC dI ad S)) (vp_Si (fun r => r = nI (cntB (S.2.1 j).2.1 (S.2.1 j).2.2.2.2.1))) 0 0 (fun _ => False) := by
  refine Met.ofW (cc := cX1_downSteps) (maxL := 3) (ret := (some .int)) pl_X1 rfl ?_
  intro p e s m args below meth c s₁ B hml hv
  obtain ⟨rfl, hPX⟩ := hv
  have hx := B.exec
  have hb := B.bytes
  have hr := B.returns
  have hts := atoms_spec (ws := wsX1_downSteps) B.pre
  have hown : s.vm.findClass RX1 = some m.cls := findClass_of_methodNamed B.named
  have hlocks := B.notSynchronized
  have hin1 : ∀ w ∈ u_ws RX1 TX1 6, w ∈ wsX1_downSteps := tu 1324 (by decide +kernel) rfl
  have hX := WX.of hPX
  have hl := lv_entry ([.ref (ad (24 + 5 * j))]) (n := 3) (Nat.le_of_ble_eq_true rfl)
  rw [lg_entry_eq]
  generalize (lg_sl ([.ref (ad (24 + 5 * j))]) ++ List.replicate (3 - (lg_sl ([.ref (ad (24 + 5 * j))])).length) Slot.unset).toArray = ls at hl ⊢
  have hl : lv_has ls 3 [(0, .ref (ad (24 + 5 * j)))] := hl
  show W p l e ({ frames := 1, cells := 0, slots := 0, locals := 21 } : Room) s m ([.ref (ad (24 + 5 * j))]).toArray below meth c s.heap [] 0 0 (MQ below (vp_Si (fun r => r = nI (cntB (S.2.1 j).2.1 (S.2.1 j).2.2.2.2.1))) ([.ref (ad (24 + 5 * j))]).toArray s 0 0 (fun _ => False)) (F0 m 0 ls [])
  have hn := ho.1
  refine lv_iconst (v := nI 0) hx hb dX1_downSteps_0 (by decide) ?_
  refine lv_istore_n (lv' := [(1, .int (nI 0)), (0, .ref (ad (24 + 5 * j)))]) hx hb dX1_downSteps_1 rfl hl (by decide) rfl (fun ls hl => ?_)
  refine lv_iconst (v := nI 0) hx hb dX1_downSteps_2 (by decide) ?_
  refine lv_istore_n (lv' := [(2, .int (nI 0)), (1, .int (nI 0)), (0, .ref (ad (24 + 5 * j)))]) hx hb dX1_downSteps_3 rfl hl (by decide) rfl (fun ls hl => ?_)
  have loop4 : ∀ (fuel : Nat) (q k : Nat) (hk : k ≤ (S.2.1 j).2.2.2.2.1) (hq : q = cntB (S.2.1 j).2.1 k), (S.2.1 j).2.2.2.2.1 - k < fuel → ∀ ls : Array Slot, lv_has ls 3 [(0, .ref (ad (24 + 5 * j))), (1, .int (nI q)), (2, .int (nI k))] → W p l e ({ frames := 1, cells := 0, slots := 0, locals := 21 } : Room) s m ([.ref (ad (24 + 5 * j))]).toArray below meth c s.heap [] 0 0 (MQ below (vp_Si (fun r => r = nI (cntB (S.2.1 j).2.1 (S.2.1 j).2.2.2.2.1))) ([.ref (ad (24 + 5 * j))]).toArray s 0 0 (fun _ => False)) (F0 m 4 ls []) := by
    intro fuel
    induction fuel with
    | zero => intro q k hk hq hf; exact absurd hf (Nat.not_lt_zero _)
    | succ fuel ih4 =>
      intro q k hk hq hf ls hl
      refine lv_iload_n hx hb dX1_downSteps_4 rfl (lv_at hl 2 rfl) ?_
      refine lv_aload_n hx hb dX1_downSteps_5 rfl (lv_at hl 0 rfl) ?_
      refine ko_gn (n := (S.2.1 j).2.2.2.2.1) hx hb hts hin1 hown hX hj rfl (hts (.fieldLink RX1 26 "Orderlattice$Order" "many" "I") (tm 37 (by decide +kernel) rfl)) dX1_downSteps_6 ?_
      refine kn_icmp_ge (tgt := 29) hx hb (by omega) (by omega) dX1_downSteps_9 (by decide) (fun c1 => ?_) (fun c1 => ?_)
      · skip
        refine lv_iload_n hx hb dX1_downSteps_29 rfl (lv_at hl 1 rfl) ?_
        exact W.iret (v := nI q) hx hb hr (fun t9 ht9 hW9 => ⟨_, rfl, (by rw [hq, show k = (S.2.1 j).2.2.2.2.1 by omega]), ht9⟩) (fun _ h => nomatch h) dX1_downSteps_30
      · skip
        refine lv_aload_n hx hb dX1_downSteps_12 rfl (lv_at hl 0 rfl) ?_
        refine lv_iload_n hx hb dX1_downSteps_13 rfl (lv_at hl 2 rfl) ?_
        refine kx_cr (v := bI (((S.2.1 j).2.1) k)) (va_runV (As := [.int (nI k)]) (rest := []) ⟨hx, hb, hml, hown, hts⟩ (m_X1_isDownOn l dC dI ad S j k hj (by omega)) (cwV 1 hts gX1_downSteps_X1_isDownOn rfl rfl rfl hdX1_isDownOn_1 ⟨Nat.le_of_ble_eq_true rfl, Nat.le_of_ble_eq_true rfl⟩) (hX.preOrd hj) rfl rfl hl.1 rfl (lv_room (Nat.le_of_ble_eq_true rfl)) dX1_downSteps_14 ⟨Nat.le_of_ble_eq_true rfl, Nat.le_of_ble_eq_true rfl⟩) (fun _ h => h) ?_
        refine kb_if_eq (tgt := 23) hx hb dX1_downSteps_17 (by decide) (fun c2 => ?_) (fun c2 => ?_)
        · skip
          have hc := c2
          refine lv_iinc (v := nI (k + 1)) (lv' := [(2, .int (nI (k + 1))), (0, .ref (ad (24 + 5 * j))), (1, .int (nI q))]) hx hb dX1_downSteps_23 hl (k := 2) rfl (nI_1 k) (by decide) rfl (fun ls hl => ?_)
          refine lv_goto (tgt := 4) hx hb dX1_downSteps_26 (by decide) ?_
          exact ih4  q (k + 1) (by omega) (by rw [cntB_f hc, hq]) (by omega) _ (lv_sub hl [1, 2, 0] rfl)
        · skip
          have hc := c2
          refine lv_iinc (v := nI (q + 1)) (lv' := [(1, .int (nI (q + 1))), (0, .ref (ad (24 + 5 * j))), (2, .int (nI k))]) hx hb dX1_downSteps_20 hl (k := 1) rfl (nI_1 q) (by decide) rfl (fun ls hl => ?_)
          refine lv_iinc (v := nI (k + 1)) (lv' := [(2, .int (nI (k + 1))), (1, .int (nI (q + 1))), (0, .ref (ad (24 + 5 * j)))]) hx hb dX1_downSteps_23 hl (k := 2) rfl (nI_1 k) (by decide) rfl (fun ls hl => ?_)
          refine lv_goto (tgt := 4) hx hb dX1_downSteps_26 (by decide) ?_
          exact ih4  (q + 1) (k + 1) (by omega) (by rw [cntB_t hc, hq]) (by omega) _ (lv_sub hl [2, 1, 0] rfl)
  exact loop4 ((S.2.1 j).2.2.2.2.1 + 1) 0 0 (by omega) rfl (by omega) _ (lv_sub hl [2, 1, 0] rfl)
set_option maxHeartbeats 4000000 in
set_option maxRecDepth 100000 in
theorem m_X1_reverse (l : Launch) (dC : Nat → ClassId) (dI : Nat → Nat → Nat) (ad : Nat → Nat) (S : XS) (j : Nat) (hj : j < 6) (ho : stepOK (S.2.1 j)) : Met l yX1_reverse wsX1_reverse ({ frames := 3, cells := 0, slots := 0, locals := 69 } : Room) (va_Pc [.ref (ad (24 + 5 * j))] (PX dC dI ad S)) (va_Qv (fun S' => S' = xO S j (newO (S.2.1 j).1 (ovl (fun k => !(S.2.1 j).2.1 k) (S.2.1 j).2.1 (S.2.1 j).2.2.2.2.1) (S.2.1 j).2.2.2.2.1 (S.2.1 j).2.2.1 (S.2.1 j).2.2.2.1)) (PX dC dI ad) (AX ad)) 0 0 (AX ad) := by
  refine Met.ofW (cc := cX1_reverse) (maxL := 2) (ret := none) pl_X1 rfl ?_
  intro p e s m args below meth c s₁ B hml hv
  obtain ⟨rfl, hPX⟩ := hv
  have hx := B.exec
  have hb := B.bytes
  have hr := B.returns
  have hts := atoms_spec (ws := wsX1_reverse) B.pre
  have hown : s.vm.findClass RX1 = some m.cls := findClass_of_methodNamed B.named
  have hlocks := B.notSynchronized
  have hin1 : ∀ w ∈ u_ws RX1 TX1 6, w ∈ wsX1_reverse := tu 1324 (by decide +kernel) rfl
  have hX := WX.of hPX
  have hl := lv_entry ([.ref (ad (24 + 5 * j))]) (n := 2) (Nat.le_of_ble_eq_true rfl)
  rw [lg_entry_eq]
  generalize (lg_sl ([.ref (ad (24 + 5 * j))]) ++ List.replicate (2 - (lg_sl ([.ref (ad (24 + 5 * j))])).length) Slot.unset).toArray = ls at hl ⊢
  have hl : lv_has ls 2 [(0, .ref (ad (24 + 5 * j)))] := hl
  show W p l e ({ frames := 3, cells := 0, slots := 0, locals := 69 } : Room) s m ([.ref (ad (24 + 5 * j))]).toArray below meth c s.heap [] 0 0 (MQ below (va_Qv (fun S' => S' = xO S j (newO (S.2.1 j).1 (ovl (fun k => !(S.2.1 j).2.1 k) (S.2.1 j).2.1 (S.2.1 j).2.2.2.2.1) (S.2.1 j).2.2.2.2.1 (S.2.1 j).2.2.1 (S.2.1 j).2.2.2.1)) (PX dC dI ad) (AX ad)) ([.ref (ad (24 + 5 * j))]).toArray s 0 0 (AX ad)) (F0 m 0 ls [])
  have hn := ho.1
  refine lv_iconst (v := nI 0) hx hb dX1_reverse_0 (by decide) ?_
  refine lv_istore_n (lv' := [(1, .int (nI 0)), (0, .ref (ad (24 + 5 * j)))]) hx hb dX1_reverse_1 rfl hl (by decide) rfl (fun ls hl => ?_)
  have loop2 : ∀ (fuel : Nat) (a : Nat) (ha : a ≤ (S.2.1 j).2.2.2.2.1) (H : Heap) (locs : List Loc), (S.2.1 j).2.2.2.2.1 - a < fuel → WX dC dI ad (xO S j ((S.2.1 j).1, ovl (fun k => !(S.2.1 j).2.1 k) (S.2.1 j).2.1 a, (S.2.1 j).2.2.1, (S.2.1 j).2.2.2.1, (S.2.1 j).2.2.2.2.1, (S.2.1 j).2.2.2.2.2)) (AX ad) s H locs → ∀ ls : Array Slot, lv_has ls 2 [(0, .ref (ad (24 + 5 * j))), (1, .int (nI a))] → W p l e ({ frames := 3, cells := 0, slots := 0, locals := 69 } : Room) s m ([.ref (ad (24 + 5 * j))]).toArray below meth c H locs 0 0 (MQ below (va_Qv (fun S' => S' = xO S j (newO (S.2.1 j).1 (ovl (fun k => !(S.2.1 j).2.1 k) (S.2.1 j).2.1 (S.2.1 j).2.2.2.2.1) (S.2.1 j).2.2.2.2.1 (S.2.1 j).2.2.1 (S.2.1 j).2.2.2.1)) (PX dC dI ad) (AX ad)) ([.ref (ad (24 + 5 * j))]).toArray s 0 0 (AX ad)) (F0 m 2 ls []) := by
    intro fuel
    induction fuel with
    | zero => intro a ha H locs hf; exact absurd hf (Nat.not_lt_zero _)
    | succ fuel ih2 =>
      intro a ha H locs hf hX ls hl
      refine lv_iload_n hx hb dX1_reverse_2 rfl (lv_at hl 1 rfl) ?_
      refine lv_aload_n hx hb dX1_reverse_3 rfl (lv_at hl 0 rfl) ?_
      refine ko_gn (n := (S.2.1 j).2.2.2.2.1) hx hb hts hin1 hown hX hj (by rw [xO_ord]) (hts (.fieldLink RX1 26 "Orderlattice$Order" "many" "I") (tm 37 (by decide +kernel) rfl)) dX1_reverse_4 ?_
      refine kn_icmp_ge (tgt := 45) hx hb (by omega) (by omega) dX1_reverse_7 (by decide) (fun c1 => ?_) (fun c1 => ?_)
      · skip
        refine lv_aload_n hx hb dX1_reverse_45 rfl (lv_at hl 0 rfl) ?_
        refine kx_cv (va_runV (As := []) (rest := []) ⟨hx, hb, hml, hown, hts⟩ (m_X1_settle l dC dI ad (xO S j ((S.2.1 j).1, ovl (fun k => !(S.2.1 j).2.1 k) (S.2.1 j).2.1 a, (S.2.1 j).2.2.1, (S.2.1 j).2.2.2.1, (S.2.1 j).2.2.2.2.1, (S.2.1 j).2.2.2.2.2)) j hj (by rw [xO_ord]; exact ho)) (cwV 0 hts gX1_reverse_X1_settle rfl rfl rfl hdX1_settle_0 ⟨Nat.le_of_ble_eq_true rfl, Nat.le_of_ble_eq_true rfl⟩) (hX.preOrd hj) rfl rfl hl.1 rfl (lv_room (Nat.le_of_ble_eq_true rfl)) dX1_reverse_46 ⟨Nat.le_of_ble_eq_true rfl, Nat.le_of_ble_eq_true rfl⟩) hX (fun _ h => h) (fun S_ H locs hw hX => ?_)
        rw [xO_ord, xO_xO] at hw
        dsimp only at hw
        rw [show a = (S.2.1 j).2.2.2.2.1 by omega] at hw
        subst hw
        exact W.vret hx hb hr (fun t9 ht9 hW9 => ⟨⟨(xO S j ((S.2.1 j).1, ovl (fun k => !(S.2.1 j).2.1 k) (S.2.1 j).2.1 (S.2.1 j).2.2.2.2.1, ovl (codeOf ((S.2.1 j).1) (ovl (fun k => !(S.2.1 j).2.1 k) (S.2.1 j).2.1 (S.2.1 j).2.2.2.2.1) ((S.2.1 j).2.2.2.2.1)) ((S.2.1 j).2.2.1) 16, ovl (rankC (codeOf ((S.2.1 j).1) (ovl (fun k => !(S.2.1 j).2.1 k) (S.2.1 j).2.1 (S.2.1 j).2.2.2.2.1) ((S.2.1 j).2.2.2.2.1))) ((S.2.1 j).2.2.2.1) 16, (S.2.1 j).2.2.2.2.1, classC (codeOf ((S.2.1 j).1) (ovl (fun k => !(S.2.1 j).2.1 k) (S.2.1 j).2.1 (S.2.1 j).2.2.2.2.1) ((S.2.1 j).2.2.2.2.1)))), rfl, rfl, hX.P ht9 hW9⟩, hX.2.2.2.F ht9⟩) hX.2.2.2.2.2 dX1_reverse_49
      · skip
        refine lv_iload_n hx hb dX1_reverse_10 rfl (lv_at hl 1 rfl) ?_
        refine lv_aload_n hx hb dX1_reverse_11 rfl (lv_at hl 0 rfl) ?_
        refine ko_gd hx hb hts hin1 hown hX hj (hts (.fieldLink RX1 15 "Orderlattice$Order" "downs" "[Z") (tm 33 (by decide +kernel) rfl)) dX1_reverse_12 ?_
        refine ko_nd hx hb hX hj dX1_reverse_15 ?_
        refine kn_icmp_ge (tgt := 45) hx hb (by omega) (by omega) dX1_reverse_16 (by decide) (fun c2 => absurd c2 (by omega)) (fun c2 => ?_)
        refine lv_aload_n hx hb dX1_reverse_19 rfl (lv_at hl 0 rfl) ?_
        refine ko_gd hx hb hts hin1 hown hX hj (hts (.fieldLink RX1 15 "Orderlattice$Order" "downs" "[Z") (tm 33 (by decide +kernel) rfl)) dX1_reverse_20 ?_
        refine lv_iload_n hx hb dX1_reverse_23 rfl (lv_at hl 1 rfl) ?_
        refine lv_aload_n hx hb dX1_reverse_24 rfl (lv_at hl 0 rfl) ?_
        refine ko_gd hx hb hts hin1 hown hX hj (hts (.fieldLink RX1 15 "Orderlattice$Order" "downs" "[Z") (tm 33 (by decide +kernel) rfl)) dX1_reverse_25 ?_
        refine lv_iload_n hx hb dX1_reverse_28 rfl (lv_at hl 1 rfl) ?_
        refine ko_ld (z := (ovl (fun k => !(S.2.1 j).2.1 k) (S.2.1 j).2.1 a) a) hx hb hX hj (by omega) (by rw [xO_ord]) dX1_reverse_29 ?_
        refine kb_if_ne (tgt := 37) hx hb dX1_reverse_30 (by decide) (fun c3 => ?_) (fun c3 => ?_)
        · skip
          have hc := c3
          refine lv_iconst (v := bI false) hx hb dX1_reverse_37 (by decide) ?_
          refine ko_sd (S' := (xO S j ((S.2.1 j).1, va_up (ovl (fun k => !(S.2.1 j).2.1 k) (S.2.1 j).2.1 a) a false, (S.2.1 j).2.2.1, (S.2.1 j).2.2.2.1, (S.2.1 j).2.2.2.2.1, (S.2.1 j).2.2.2.2.2))) hx hb hX hj (by omega) (by rw [xO_ord, xO_xO]) dX1_reverse_38 (fun H locs hX => ?_)
          refine lv_iinc (v := nI (a + 1)) (lv' := [(1, .int (nI (a + 1))), (0, .ref (ad (24 + 5 * j)))]) hx hb dX1_reverse_39 hl (k := 1) rfl (nI_1 a) (by decide) rfl (fun ls hl => ?_)
          refine lv_goto (tgt := 2) hx hb dX1_reverse_42 (by decide) ?_
          exact ih2  (a + 1) (by omega) _ _ (by omega) (WX.eqS (by rw [← ovl_up]; rw [ovl_out (Nat.le_refl a)] at hc; rw [hc]; rfl) hX) _ (lv_sub hl [1, 0] rfl)
        · skip
          have hc := c3
          refine lv_iconst (v := bI true) hx hb dX1_reverse_33 (by decide) ?_
          refine lv_goto (tgt := 38) hx hb dX1_reverse_34 (by decide) ?_
          refine ko_sd (S' := (xO S j ((S.2.1 j).1, va_up (ovl (fun k => !(S.2.1 j).2.1 k) (S.2.1 j).2.1 a) a true, (S.2.1 j).2.2.1, (S.2.1 j).2.2.2.1, (S.2.1 j).2.2.2.2.1, (S.2.1 j).2.2.2.2.2))) hx hb hX hj (by omega) (by rw [xO_ord, xO_xO]) dX1_reverse_38 (fun H locs hX => ?_)
          refine lv_iinc (v := nI (a + 1)) (lv' := [(1, .int (nI (a + 1))), (0, .ref (ad (24 + 5 * j)))]) hx hb dX1_reverse_39 hl (k := 1) rfl (nI_1 a) (by decide) rfl (fun ls hl => ?_)
          refine lv_goto (tgt := 2) hx hb dX1_reverse_42 (by decide) ?_
          exact ih2  (a + 1) (by omega) _ _ (by omega) (WX.eqS (by rw [← ovl_up]; rw [ovl_out (Nat.le_refl a)] at hc; rw [hc]; rfl) hX) _ (lv_sub hl [1, 0] rfl)
  exact loop2 ((S.2.1 j).2.2.2.2.1 - 0 + 1) 0 (by omega) _ _ (by omega) (WX.eqS (by rw [ovl_0]; exact (xO_self S j).symm) hX) _ (lv_sub hl [1, 0] rfl)
set_option maxHeartbeats 4000000 in
set_option maxRecDepth 100000 in
theorem m_X1_becomeCopyOf (l : Launch) (dC : Nat → ClassId) (dI : Nat → Nat → Nat) (ad : Nat → Nat) (S : XS) (j t : Nat) (hj : j < 6) (ht : t < 6) (ho : stepOK (S.2.1 j)) (ho2 : stepOK (S.2.1 t)) : Met l yX1_becomeCopyOf wsX1_becomeCopyOf ({ frames := 3, cells := 0, slots := 0, locals := 69 } : Room) (va_Pc [.ref (ad (24 + 5 * j)), .ref (ad (24 + 5 * t))] (PX dC dI ad S)) (va_Qv (fun S' => S' = xO S j (newO (apn (S.2.1 j).1 (S.2.1 t).1 0 (S.2.1 t).2.2.2.2.1) (apn (S.2.1 j).2.1 (S.2.1 t).2.1 0 (S.2.1 t).2.2.2.2.1) (S.2.1 t).2.2.2.2.1 (S.2.1 j).2.2.1 (S.2.1 j).2.2.2.1)) (PX dC dI ad) (AX ad)) 0 0 (AX ad) := by
  refine Met.ofW (cc := cX1_becomeCopyOf) (maxL := 3) (ret := none) pl_X1 rfl ?_
  intro p e s m args below meth c s₁ B hml hv
  obtain ⟨rfl, hPX⟩ := hv
  have hx := B.exec
  have hb := B.bytes
  have hr := B.returns
  have hts := atoms_spec (ws := wsX1_becomeCopyOf) B.pre
  have hown : s.vm.findClass RX1 = some m.cls := findClass_of_methodNamed B.named
  have hlocks := B.notSynchronized
  have hin1 : ∀ w ∈ u_ws RX1 TX1 6, w ∈ wsX1_becomeCopyOf := tu 1324 (by decide +kernel) rfl
  have hX := WX.of hPX
  have hl := lv_entry ([.ref (ad (24 + 5 * j)), .ref (ad (24 + 5 * t))]) (n := 3) (Nat.le_of_ble_eq_true rfl)
  rw [lg_entry_eq]
  generalize (lg_sl ([.ref (ad (24 + 5 * j)), .ref (ad (24 + 5 * t))]) ++ List.replicate (3 - (lg_sl ([.ref (ad (24 + 5 * j)), .ref (ad (24 + 5 * t))])).length) Slot.unset).toArray = ls at hl ⊢
  have hl : lv_has ls 3 [(0, .ref (ad (24 + 5 * j))), (1, .ref (ad (24 + 5 * t)))] := hl
  show W p l e ({ frames := 3, cells := 0, slots := 0, locals := 69 } : Room) s m ([.ref (ad (24 + 5 * j)), .ref (ad (24 + 5 * t))]).toArray below meth c s.heap [] 0 0 (MQ below (va_Qv (fun S' => S' = xO S j (newO (apn (S.2.1 j).1 (S.2.1 t).1 0 (S.2.1 t).2.2.2.2.1) (apn (S.2.1 j).2.1 (S.2.1 t).2.1 0 (S.2.1 t).2.2.2.2.1) (S.2.1 t).2.2.2.2.1 (S.2.1 j).2.2.1 (S.2.1 j).2.2.2.1)) (PX dC dI ad) (AX ad)) ([.ref (ad (24 + 5 * j)), .ref (ad (24 + 5 * t))]).toArray s 0 0 (AX ad)) (F0 m 0 ls [])
  have hn := ho2.1
  refine lv_aload_n hx hb dX1_becomeCopyOf_0 rfl (lv_at hl 1 rfl) ?_
  refine kx_cr (v := nI ((S.2.1 t).2.2.2.2.1)) (va_runV (As := []) (rest := []) ⟨hx, hb, hml, hown, hts⟩ (m_X1_length l dC dI ad S t  ht) (cwV 0 hts gX1_becomeCopyOf_X1_length rfl rfl rfl hdX1_length_0 ⟨Nat.le_of_ble_eq_true rfl, Nat.le_of_ble_eq_true rfl⟩) (hX.preOrd ht) rfl rfl hl.1 rfl (lv_room (Nat.le_of_ble_eq_true rfl)) dX1_becomeCopyOf_1 ⟨Nat.le_of_ble_eq_true rfl, Nat.le_of_ble_eq_true rfl⟩) (fun _ h => h) ?_
  refine lv_istore_n (lv' := [(2, .int (nI ((S.2.1 t).2.2.2.2.1))), (0, .ref (ad (24 + 5 * j))), (1, .ref (ad (24 + 5 * t)))]) hx hb dX1_becomeCopyOf_4 rfl hl (by decide) rfl (fun ls hl => ?_)
  refine lv_aload_n hx hb dX1_becomeCopyOf_5 rfl (lv_at hl 1 rfl) ?_
  refine lv_iconst (v := nI 0) hx hb dX1_becomeCopyOf_6 (by decide) ?_
  refine ko_pn (S' := (xO S j ((S.2.1 j).1, (S.2.1 j).2.1, (S.2.1 j).2.2.1, (S.2.1 j).2.2.2.1, 0, (S.2.1 j).2.2.2.2.2))) hx hb hts hin1 hown hX hj rfl (hts (.fieldLink RX1 26 "Orderlattice$Order" "many" "I") (tm 37 (by decide +kernel) rfl)) dX1_becomeCopyOf_7 (fun H locs hX => ?_)
  refine lv_aload_n hx hb dX1_becomeCopyOf_10 rfl (lv_at hl 1 rfl) ?_
  refine lv_aload_n hx hb dX1_becomeCopyOf_11 rfl (lv_at hl 2 rfl) ?_
  refine lv_iload_n hx hb dX1_becomeCopyOf_12 rfl (lv_at hl 0 rfl) ?_
  refine kx_cv (va_runV (As := [.ref (ad (24 + 5 * t)), .int (nI ((S.2.1 t).2.2.2.2.1))]) (rest := []) ⟨hx, hb, hml, hown, hts⟩ (m_X1_addSteps l dC dI ad (xO S j ((S.2.1 j).1, (S.2.1 j).2.1, (S.2.1 j).2.2.1, (S.2.1 j).2.2.2.1, 0, (S.2.1 j).2.2.2.2.2)) j t ((S.2.1 t).2.2.2.2.1) hj ht (by omega) (by rw [xO_ord]; dsimp only; omega) (fun _ => by rw [xO_ord])) (cwV 2 hts gX1_becomeCopyOf_X1_addSteps rfl rfl rfl hdX1_addSteps_2 ⟨Nat.le_of_ble_eq_true rfl, Nat.le_of_ble_eq_true rfl⟩) (hX.preOrd hj) rfl rfl hl.1 rfl (lv_room (Nat.le_of_ble_eq_true rfl)) dX1_becomeCopyOf_13 ⟨Nat.le_of_ble_eq_true rfl, Nat.le_of_ble_eq_true rfl⟩) hX (fun _ h => h) (fun S_ H locs hw hX => ?_)
  rw [xO_ord, xO_xO] at hw
  dsimp only at hw
  rw [xO_src1, xO_src2, Nat.zero_add] at hw
  subst hw
  refine lv_aload_n hx hb dX1_becomeCopyOf_16 rfl (lv_at hl 1 rfl) ?_
  refine kx_cv (va_runV (As := []) (rest := []) ⟨hx, hb, hml, hown, hts⟩ (m_X1_settle l dC dI ad (xO S j (apn ((S.2.1 j).1) ((S.2.1 t).1) 0 ((S.2.1 t).2.2.2.2.1), apn ((S.2.1 j).2.1) ((S.2.1 t).2.1) 0 ((S.2.1 t).2.2.2.2.1), (S.2.1 j).2.2.1, (S.2.1 j).2.2.2.1, (S.2.1 t).2.2.2.2.1, (S.2.1 j).2.2.2.2.2)) j hj (by rw [xO_ord]; exact stepOK_apn0 ho ho2)) (cwV 0 hts gX1_becomeCopyOf_X1_settle rfl rfl rfl hdX1_settle_0 ⟨Nat.le_of_ble_eq_true rfl, Nat.le_of_ble_eq_true rfl⟩) (hX.preOrd hj) rfl rfl hl.1 rfl (lv_room (Nat.le_of_ble_eq_true rfl)) dX1_becomeCopyOf_17 ⟨Nat.le_of_ble_eq_true rfl, Nat.le_of_ble_eq_true rfl⟩) hX (fun _ h => h) (fun S_ H locs hw hX => ?_)
  rw [xO_ord, xO_xO] at hw
  subst hw
  exact W.vret hx hb hr (fun t9 ht9 hW9 => ⟨⟨(xO S j (apn ((S.2.1 j).1) ((S.2.1 t).1) 0 ((S.2.1 t).2.2.2.2.1), apn ((S.2.1 j).2.1) ((S.2.1 t).2.1) 0 ((S.2.1 t).2.2.2.2.1), ovl (codeOf (apn ((S.2.1 j).1) ((S.2.1 t).1) 0 ((S.2.1 t).2.2.2.2.1)) (apn ((S.2.1 j).2.1) ((S.2.1 t).2.1) 0 ((S.2.1 t).2.2.2.2.1)) ((S.2.1 t).2.2.2.2.1)) ((S.2.1 j).2.2.1) 16, ovl (rankC (codeOf (apn ((S.2.1 j).1) ((S.2.1 t).1) 0 ((S.2.1 t).2.2.2.2.1)) (apn ((S.2.1 j).2.1) ((S.2.1 t).2.1) 0 ((S.2.1 t).2.2.2.2.1)) ((S.2.1 t).2.2.2.2.1))) ((S.2.1 j).2.2.2.1) 16, (S.2.1 t).2.2.2.2.1, classC (codeOf (apn ((S.2.1 j).1) ((S.2.1 t).1) 0 ((S.2.1 t).2.2.2.2.1)) (apn ((S.2.1 j).2.1) ((S.2.1 t).2.1) 0 ((S.2.1 t).2.2.2.2.1)) ((S.2.1 t).2.2.2.2.1)))), rfl, rfl, hX.P ht9 hW9⟩, hX.2.2.2.F ht9⟩) hX.2.2.2.2.2 dX1_becomeCopyOf_20
set_option maxHeartbeats 4000000 in
set_option maxRecDepth 100000 in
theorem m_X1_becomeProductOf (l : Launch) (dC : Nat → ClassId) (dI : Nat → Nat → Nat) (ad : Nat → Nat) (S : XS) (j i t : Nat) (hj : j < 6) (hi : i < 6) (ht : t < 6) (ho : stepOK (S.2.1 j)) (ho2 : stepOK (S.2.1 i)) (ho3 : stepOK (S.2.1 t)) (hij : i ≠ j) (htj : t ≠ j) (hnn : (S.2.1 i).2.2.2.2.1 + (S.2.1 t).2.2.2.2.1 ≤ 10) : Met l yX1_becomeProductOf wsX1_becomeProductOf ({ frames := 3, cells := 0, slots := 0, locals := 69 } : Room) (va_Pc [.ref (ad (24 + 5 * j)), .ref (ad (24 + 5 * i)), .ref (ad (24 + 5 * t))] (PX dC dI ad S)) (va_Qv (fun S' => S' = xO S j (newO (apn (apn ((S.2.1 j).1) ((S.2.1 i).1) 0 ((S.2.1 i).2.2.2.2.1)) (S.2.1 t).1 (S.2.1 i).2.2.2.2.1 (S.2.1 t).2.2.2.2.1) (apn (apn ((S.2.1 j).2.1) ((S.2.1 i).2.1) 0 ((S.2.1 i).2.2.2.2.1)) (S.2.1 t).2.1 (S.2.1 i).2.2.2.2.1 (S.2.1 t).2.2.2.2.1) ((S.2.1 i).2.2.2.2.1 + (S.2.1 t).2.2.2.2.1) (S.2.1 j).2.2.1 (S.2.1 j).2.2.2.1)) (PX dC dI ad) (AX ad)) 0 0 (AX ad) := by
  refine Met.ofW (cc := cX1_becomeProductOf) (maxL := 3) (ret := none) pl_X1 rfl ?_
  intro p e s m args below meth c s₁ B hml hv
  obtain ⟨rfl, hPX⟩ := hv
  have hx := B.exec
  have hb := B.bytes
  have hr := B.returns
  have hts := atoms_spec (ws := wsX1_becomeProductOf) B.pre
  have hown : s.vm.findClass RX1 = some m.cls := findClass_of_methodNamed B.named
  have hlocks := B.notSynchronized
  have hin1 : ∀ w ∈ u_ws RX1 TX1 6, w ∈ wsX1_becomeProductOf := tu 1324 (by decide +kernel) rfl
  have hX := WX.of hPX
  have hl := lv_entry ([.ref (ad (24 + 5 * j)), .ref (ad (24 + 5 * i)), .ref (ad (24 + 5 * t))]) (n := 3) (Nat.le_of_ble_eq_true rfl)
  rw [lg_entry_eq]
  generalize (lg_sl ([.ref (ad (24 + 5 * j)), .ref (ad (24 + 5 * i)), .ref (ad (24 + 5 * t))]) ++ List.replicate (3 - (lg_sl ([.ref (ad (24 + 5 * j)), .ref (ad (24 + 5 * i)), .ref (ad (24 + 5 * t))])).length) Slot.unset).toArray = ls at hl ⊢
  have hl : lv_has ls 3 [(0, .ref (ad (24 + 5 * j))), (1, .ref (ad (24 + 5 * i))), (2, .ref (ad (24 + 5 * t)))] := hl
  show W p l e ({ frames := 3, cells := 0, slots := 0, locals := 69 } : Room) s m ([.ref (ad (24 + 5 * j)), .ref (ad (24 + 5 * i)), .ref (ad (24 + 5 * t))]).toArray below meth c s.heap [] 0 0 (MQ below (va_Qv (fun S' => S' = xO S j (newO (apn (apn ((S.2.1 j).1) ((S.2.1 i).1) 0 ((S.2.1 i).2.2.2.2.1)) (S.2.1 t).1 (S.2.1 i).2.2.2.2.1 (S.2.1 t).2.2.2.2.1) (apn (apn ((S.2.1 j).2.1) ((S.2.1 i).2.1) 0 ((S.2.1 i).2.2.2.2.1)) (S.2.1 t).2.1 (S.2.1 i).2.2.2.2.1 (S.2.1 t).2.2.2.2.1) ((S.2.1 i).2.2.2.2.1 + (S.2.1 t).2.2.2.2.1) (S.2.1 j).2.2.1 (S.2.1 j).2.2.2.1)) (PX dC dI ad) (AX ad)) ([.ref (ad (24 + 5 * j)), .ref (ad (24 + 5 * i)), .ref (ad (24 + 5 * t))]).toArray s 0 0 (AX ad)) (F0 m 0 ls [])
  refine lv_aload_n hx hb dX1_becomeProductOf_0 rfl (lv_at hl 0 rfl) ?_
  refine lv_iconst (v := nI 0) hx hb dX1_becomeProductOf_1 (by decide) ?_
  refine ko_pn (S' := (xO S j ((S.2.1 j).1, (S.2.1 j).2.1, (S.2.1 j).2.2.1, (S.2.1 j).2.2.2.1, 0, (S.2.1 j).2.2.2.2.2))) hx hb hts hin1 hown hX hj rfl (hts (.fieldLink RX1 26 "Orderlattice$Order" "many" "I") (tm 37 (by decide +kernel) rfl)) dX1_becomeProductOf_2 (fun H locs hX => ?_)
  refine lv_aload_n hx hb dX1_becomeProductOf_5 rfl (lv_at hl 0 rfl) ?_
  refine lv_aload_n hx hb dX1_becomeProductOf_6 rfl (lv_at hl 1 rfl) ?_
  refine lv_aload_n hx hb dX1_becomeProductOf_7 rfl (lv_at hl 1 rfl) ?_
  refine kx_cr (v := nI ((S.2.1 i).2.2.2.2.1)) (va_runV (As := []) (rest := [.ref (ad (24 + 5 * i)), .ref (ad (24 + 5 * j))]) ⟨hx, hb, hml, hown, hts⟩ (m_X1_length l dC dI ad (xO S j ((S.2.1 j).1, (S.2.1 j).2.1, (S.2.1 j).2.2.1, (S.2.1 j).2.2.2.1, 0, (S.2.1 j).2.2.2.2.2)) i  hi) (cwV 0 hts gX1_becomeProductOf_X1_length rfl rfl rfl hdX1_length_0 ⟨Nat.le_of_ble_eq_true rfl, Nat.le_of_ble_eq_true rfl⟩) (hX.preOrd hi) rfl rfl hl.1 rfl (lv_room (Nat.le_of_ble_eq_true rfl)) dX1_becomeProductOf_8 ⟨Nat.le_of_ble_eq_true rfl, Nat.le_of_ble_eq_true rfl⟩) (fun _ h => by rw [h, xO_ne _ _ hij]) ?_
  refine kx_cv (va_runV (As := [.ref (ad (24 + 5 * i)), .int (nI ((S.2.1 i).2.2.2.2.1))]) (rest := []) ⟨hx, hb, hml, hown, hts⟩ (m_X1_addSteps l dC dI ad (xO S j ((S.2.1 j).1, (S.2.1 j).2.1, (S.2.1 j).2.2.1, (S.2.1 j).2.2.2.1, 0, (S.2.1 j).2.2.2.2.2)) j i ((S.2.1 i).2.2.2.2.1) hj hi (by omega) (by rw [xO_ord]; dsimp only; omega) (fun h => absurd h hij)) (cwV 2 hts gX1_becomeProductOf_X1_addSteps rfl rfl rfl hdX1_addSteps_2 ⟨Nat.le_of_ble_eq_true rfl, Nat.le_of_ble_eq_true rfl⟩) (hX.preOrd hj) rfl rfl hl.1 rfl (lv_room (Nat.le_of_ble_eq_true rfl)) dX1_becomeProductOf_11 ⟨Nat.le_of_ble_eq_true rfl, Nat.le_of_ble_eq_true rfl⟩) hX (fun _ h => h) (fun S_ H locs hw hX => ?_)
  rw [xO_ord, xO_xO] at hw
  dsimp only at hw
  rw [xO_ne _ _ hij, Nat.zero_add] at hw
  subst hw
  refine lv_aload_n hx hb dX1_becomeProductOf_14 rfl (lv_at hl 0 rfl) ?_
  refine lv_aload_n hx hb dX1_becomeProductOf_15 rfl (lv_at hl 2 rfl) ?_
  refine lv_aload_n hx hb dX1_becomeProductOf_16 rfl (lv_at hl 2 rfl) ?_
  refine kx_cr (v := nI ((S.2.1 t).2.2.2.2.1)) (va_runV (As := []) (rest := [.ref (ad (24 + 5 * t)), .ref (ad (24 + 5 * j))]) ⟨hx, hb, hml, hown, hts⟩ (m_X1_length l dC dI ad (xO S j (apn ((S.2.1 j).1) ((S.2.1 i).1) 0 ((S.2.1 i).2.2.2.2.1), apn ((S.2.1 j).2.1) ((S.2.1 i).2.1) 0 ((S.2.1 i).2.2.2.2.1), (S.2.1 j).2.2.1, (S.2.1 j).2.2.2.1, (S.2.1 i).2.2.2.2.1, (S.2.1 j).2.2.2.2.2)) t  ht) (cwV 0 hts gX1_becomeProductOf_X1_length rfl rfl rfl hdX1_length_0 ⟨Nat.le_of_ble_eq_true rfl, Nat.le_of_ble_eq_true rfl⟩) (hX.preOrd ht) rfl rfl hl.1 rfl (lv_room (Nat.le_of_ble_eq_true rfl)) dX1_becomeProductOf_17 ⟨Nat.le_of_ble_eq_true rfl, Nat.le_of_ble_eq_true rfl⟩) (fun _ h => by rw [h, xO_ne _ _ htj]) ?_
  refine kx_cv (va_runV (As := [.ref (ad (24 + 5 * t)), .int (nI ((S.2.1 t).2.2.2.2.1))]) (rest := []) ⟨hx, hb, hml, hown, hts⟩ (m_X1_addSteps l dC dI ad (xO S j (apn ((S.2.1 j).1) ((S.2.1 i).1) 0 ((S.2.1 i).2.2.2.2.1), apn ((S.2.1 j).2.1) ((S.2.1 i).2.1) 0 ((S.2.1 i).2.2.2.2.1), (S.2.1 j).2.2.1, (S.2.1 j).2.2.2.1, (S.2.1 i).2.2.2.2.1, (S.2.1 j).2.2.2.2.2)) j t ((S.2.1 t).2.2.2.2.1) hj ht (by omega) (by rw [xO_ord]; dsimp only; omega) (fun h => absurd h htj)) (cwV 2 hts gX1_becomeProductOf_X1_addSteps rfl rfl rfl hdX1_addSteps_2 ⟨Nat.le_of_ble_eq_true rfl, Nat.le_of_ble_eq_true rfl⟩) (hX.preOrd hj) rfl rfl hl.1 rfl (lv_room (Nat.le_of_ble_eq_true rfl)) dX1_becomeProductOf_20 ⟨Nat.le_of_ble_eq_true rfl, Nat.le_of_ble_eq_true rfl⟩) hX (fun _ h => h) (fun S_ H locs hw hX => ?_)
  rw [xO_ord, xO_xO] at hw
  dsimp only at hw
  rw [xO_ne _ _ htj] at hw
  subst hw
  refine lv_aload_n hx hb dX1_becomeProductOf_23 rfl (lv_at hl 0 rfl) ?_
  refine kx_cv (va_runV (As := []) (rest := []) ⟨hx, hb, hml, hown, hts⟩ (m_X1_settle l dC dI ad (xO S j (apn (apn ((S.2.1 j).1) ((S.2.1 i).1) 0 ((S.2.1 i).2.2.2.2.1)) ((S.2.1 t).1) ((S.2.1 i).2.2.2.2.1) ((S.2.1 t).2.2.2.2.1), apn (apn ((S.2.1 j).2.1) ((S.2.1 i).2.1) 0 ((S.2.1 i).2.2.2.2.1)) ((S.2.1 t).2.1) ((S.2.1 i).2.2.2.2.1) ((S.2.1 t).2.2.2.2.1), (S.2.1 j).2.2.1, (S.2.1 j).2.2.2.1, (S.2.1 i).2.2.2.2.1 + (S.2.1 t).2.2.2.2.1, (S.2.1 j).2.2.2.2.2)) j hj (by rw [xO_ord]; exact stepOK_apn2 ho ho2 ho3 hnn)) (cwV 0 hts gX1_becomeProductOf_X1_settle rfl rfl rfl hdX1_settle_0 ⟨Nat.le_of_ble_eq_true rfl, Nat.le_of_ble_eq_true rfl⟩) (hX.preOrd hj) rfl rfl hl.1 rfl (lv_room (Nat.le_of_ble_eq_true rfl)) dX1_becomeProductOf_24 ⟨Nat.le_of_ble_eq_true rfl, Nat.le_of_ble_eq_true rfl⟩) hX (fun _ h => h) (fun S_ H locs hw hX => ?_)
  rw [xO_ord, xO_xO] at hw
  subst hw
  exact W.vret hx hb hr (fun t9 ht9 hW9 => ⟨⟨(xO S j (apn (apn ((S.2.1 j).1) ((S.2.1 i).1) 0 ((S.2.1 i).2.2.2.2.1)) ((S.2.1 t).1) ((S.2.1 i).2.2.2.2.1) ((S.2.1 t).2.2.2.2.1), apn (apn ((S.2.1 j).2.1) ((S.2.1 i).2.1) 0 ((S.2.1 i).2.2.2.2.1)) ((S.2.1 t).2.1) ((S.2.1 i).2.2.2.2.1) ((S.2.1 t).2.2.2.2.1), ovl (codeOf (apn (apn ((S.2.1 j).1) ((S.2.1 i).1) 0 ((S.2.1 i).2.2.2.2.1)) ((S.2.1 t).1) ((S.2.1 i).2.2.2.2.1) ((S.2.1 t).2.2.2.2.1)) (apn (apn ((S.2.1 j).2.1) ((S.2.1 i).2.1) 0 ((S.2.1 i).2.2.2.2.1)) ((S.2.1 t).2.1) ((S.2.1 i).2.2.2.2.1) ((S.2.1 t).2.2.2.2.1)) ((S.2.1 i).2.2.2.2.1 + (S.2.1 t).2.2.2.2.1)) ((S.2.1 j).2.2.1) 16, ovl (rankC (codeOf (apn (apn ((S.2.1 j).1) ((S.2.1 i).1) 0 ((S.2.1 i).2.2.2.2.1)) ((S.2.1 t).1) ((S.2.1 i).2.2.2.2.1) ((S.2.1 t).2.2.2.2.1)) (apn (apn ((S.2.1 j).2.1) ((S.2.1 i).2.1) 0 ((S.2.1 i).2.2.2.2.1)) ((S.2.1 t).2.1) ((S.2.1 i).2.2.2.2.1) ((S.2.1 t).2.2.2.2.1)) ((S.2.1 i).2.2.2.2.1 + (S.2.1 t).2.2.2.2.1))) ((S.2.1 j).2.2.2.1) 16, (S.2.1 i).2.2.2.2.1 + (S.2.1 t).2.2.2.2.1, classC (codeOf (apn (apn ((S.2.1 j).1) ((S.2.1 i).1) 0 ((S.2.1 i).2.2.2.2.1)) ((S.2.1 t).1) ((S.2.1 i).2.2.2.2.1) ((S.2.1 t).2.2.2.2.1)) (apn (apn ((S.2.1 j).2.1) ((S.2.1 i).2.1) 0 ((S.2.1 i).2.2.2.2.1)) ((S.2.1 t).2.1) ((S.2.1 i).2.2.2.2.1) ((S.2.1 t).2.2.2.2.1)) ((S.2.1 i).2.2.2.2.1 + (S.2.1 t).2.2.2.2.1)))), rfl, rfl, hX.P ht9 hW9⟩, hX.2.2.2.F ht9⟩) hX.2.2.2.2.2 dX1_becomeProductOf_27
