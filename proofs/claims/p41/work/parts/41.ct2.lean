set_option maxHeartbeats 4000000 in
set_option maxRecDepth 100000 in
theorem m_X2_init (l : Launch) (dC : Nat → ClassId) (dI : Nat → Nat → Nat) (z : Nat) (G : va_W) (k r : Nat) (hG : G[k]? = some (r, .inr (4, [.null, .null, .int (nI 0)]))) : Met l yX2_init wsX2_init ({ frames := 1, cells := 2, slots := 32, locals := 20 } : Room) (va_Pc [.ref r] (PC dC dI z G)) (va_Qv (fun _ : Nat × Nat => True) (fun u t => PC dC dI z (G.set k (r, .inr (4, [.ref u.1, .ref u.2, .int (nI 0)])) ++ [(u.1, .inl (dC 20, 16, .inl (fun _ => nI 0))), (u.2, .inl (dC 20, 16, .inl (fun _ => nI 0)))]) t) (zB z)) 2 32 (zB z) := by
  refine ofWF (cc := cX2_init) (maxL := 1) (ret := none) (by decide +kernel) rfl ?_
  intro p e s m args below meth c s₁ B hml hv
  obtain ⟨rfl, hPC⟩ := hv
  have hx := B.exec
  have hb := B.bytes
  have hr := B.returns
  have hts := atoms_spec (ws := wsX2_init) B.pre
  have hown : s.vm.findClass RX2 = some m.cls := findClass_of_methodNamed B.named
  have hlocks := B.notSynchronized
  have hin2 : meth.name = "<init>" := (name_of_methodNamed B.named B.method).1
  have hinX2 : ∀ w ∈ u_ws RX2 TX2 3, w ∈ wsX2_init := by decide +kernel
  have hk : k < G.length := (List.getElem?_eq_some_iff.mp hG).1
  have hC : WC dC dI z (G.set k (r, .inr (4, [.null, .null, .int (nI 0)])) ++ []) s s.heap [] := (WC.of hPC).eqG (by rw [set_same hG, List.append_nil])
  have hl := lv_entry ([.ref r]) (n := 1) (Nat.le_of_ble_eq_true rfl)
  rw [lg_entry_eq]
  generalize (lg_sl ([.ref r]) ++ List.replicate (1 - (lg_sl ([.ref r])).length) Slot.unset).toArray = ls at hl ⊢
  have hl : lv_has ls 1 [(0, .ref r)] := hl
  show W p l e ({ frames := 1, cells := 2, slots := 32, locals := 20 } : Room) s m ([.ref r]).toArray below meth c s.heap [] 0 0 (MQ below (va_Qv (fun _ : Nat × Nat => True) (fun u t => PC dC dI z (G.set k (r, .inr (4, [.ref u.1, .ref u.2, .int (nI 0)])) ++ [(u.1, .inl (dC 20, 16, .inl (fun _ => nI 0))), (u.2, .inl (dC 20, 16, .inl (fun _ => nI 0)))]) t) (zB z)) [.ref r].toArray s 2 32 (zB z)) (F0 m 0 ls [])
  refine lv_aload_n hx hb dX2_init_0 rfl (lv_at hl 0 rfl) ?_
  refine W.objInit hx hb hown (hts (.methodLink RX2 3 objectInit) (by decide +kernel)) (hts (.instanceMethod objectInit) (by decide +kernel)) (hts (.code objectInit ⟨#[0xb1]⟩ 1 none) (by decide +kernel)) (g := F0 m 1 ls [.ref r]) rfl (by rw [hml]; exact hl.1) rfl dX2_init_1 (Nat.le_of_ble_eq_true rfl) (Nat.le_of_ble_eq_true rfl) ?_
  show W p l e _ s m _ below meth c _ _ _ _ _ (F0 m 4 ls [])
  refine lv_aload_n hx hb dX2_init_4 rfl (lv_at hl 0 rfl) ?_
  refine lv_bipush (v := nI 16) hx hb dX2_init_5 (by decide) ?_
  refine kc_newI hx hb (hts (.arrayClass .int) (by decide +kernel)) hC (by omega) (Nat.le_of_ble_eq_true rfl) (Nat.le_of_ble_eq_true rfl) dX2_init_7 (fun q1 H hC => ?_)
  replace hC : WC dC dI z (G.set k (r, .inr (4, [.null, .null, .int (nI 0)])) ++ [(q1, .inl (dC 20, 16, .inl (fun _ => nI 0)))]) s H _ := hC.eqG (by rw [List.append_assoc]; rfl)
  refine va_putF (D := (dC, dI)) (ci := 4) (C := RX2) (T := TX2) (N := 3) (fs := [.null, .null, .int (nI 0)]) hx hb hts hinX2 tyX2 tyX2_ok nmX2 hown hC.2.1 hC.1 hC.2.2.1 hC.2.2.2.1 k (cs_k hk) rfl 0 (by decide) (hts (.fieldLink RX2 11 "Orderlattice$Row" "values" "[I") (by decide +kernel)) (fun _ h => h) rfl hin2 rfl rfl rfl rfl (Nat.le_of_ble_eq_true rfl) dX2_init_9 (fun H locs h1 h2 h3 => ?_)
  replace hC : WC dC dI z (G.set k (r, .inr (4, [.ref q1, .null, .int (nI 0)])) ++ [(q1, .inl (dC 20, 16, .inl (fun _ => nI 0)))]) s H locs := (hC.to h1 h2 h3).eqG (by rw [cs_kset hk]; rfl)
  refine lv_aload_n hx hb dX2_init_12 rfl (lv_at hl 0 rfl) ?_
  refine lv_bipush (v := nI 16) hx hb dX2_init_13 (by decide) ?_
  refine kc_newI hx hb (hts (.arrayClass .int) (by decide +kernel)) hC (by omega) (Nat.le_of_ble_eq_true rfl) (Nat.le_of_ble_eq_true rfl) dX2_init_15 (fun q2 H hC => ?_)
  replace hC : WC dC dI z (G.set k (r, .inr (4, [.ref q1, .null, .int (nI 0)])) ++ [(q1, .inl (dC 20, 16, .inl (fun _ => nI 0))), (q2, .inl (dC 20, 16, .inl (fun _ => nI 0)))]) s H _ := hC.eqG (by rw [List.append_assoc]; rfl)
  refine va_putF (D := (dC, dI)) (ci := 4) (C := RX2) (T := TX2) (N := 3) (fs := [.ref q1, .null, .int (nI 0)]) hx hb hts hinX2 tyX2 tyX2_ok nmX2 hown hC.2.1 hC.1 hC.2.2.1 hC.2.2.2.1 k (cs_k hk) rfl 1 (by decide) (hts (.fieldLink RX2 15 "Orderlattice$Row" "marks" "[I") (by decide +kernel)) (fun _ h => h) rfl hin2 rfl rfl rfl rfl (Nat.le_of_ble_eq_true rfl) dX2_init_17 (fun H locs h1 h2 h3 => ?_)
  replace hC : WC dC dI z (G.set k (r, .inr (4, [.ref q1, .ref q2, .int (nI 0)])) ++ [(q1, .inl (dC 20, 16, .inl (fun _ => nI 0))), (q2, .inl (dC 20, 16, .inl (fun _ => nI 0)))]) s H locs := (hC.to h1 h2 h3).eqG (by rw [cs_kset hk]; rfl)
  refine lv_aload_n hx hb dX2_init_20 rfl (lv_at hl 0 rfl) ?_
  refine lv_iconst (v := nI 0) hx hb dX2_init_21 (by decide) ?_
  refine va_put (D := (dC, dI)) (ci := 4) (C := RX2) (T := TX2) (N := 3) (fs := [.ref q1, .ref q2, .int (nI 0)]) hx hb hts hinX2 tyX2 tyX2_ok nmX2 hown hC.2.1 hC.1 hC.2.2.1 hC.2.2.2.1 k (cs_k hk) rfl 2 (by decide) (hts (.fieldLink RX2 18 "Orderlattice$Row" "many" "I") (by decide +kernel)) (fun _ h => h) rfl rfl rfl rfl (Nat.le_of_ble_eq_true rfl) dX2_init_22 (fun H locs h1 h2 h3 => ?_)
  replace hC : WC dC dI z (G.set k (r, .inr (4, [.ref q1, .ref q2, .int (nI 0)])) ++ [(q1, .inl (dC 20, 16, .inl (fun _ => nI 0))), (q2, .inl (dC 20, 16, .inl (fun _ => nI 0)))]) s H locs := (hC.to h1 h2 h3).eqG (by rw [cs_kset hk]; rfl)
  exact W.widen (k := 2) (n := 32) (by simp) (by simp) (W.vret hx hb hr (fun t9 ht9 hW9 => ⟨⟨(q1, q2), rfl, trivial, hC.P ht9 hW9⟩, hC.F ht9⟩) hC.L dX2_init_25)
set_option maxHeartbeats 4000000 in
set_option maxRecDepth 100000 in
theorem m_X1_init (l : Launch) (dC : Nat → ClassId) (dI : Nat → Nat → Nat) (z : Nat) (G : va_W) (k r : Nat) (hG : G[k]? = some (r, .inr (3, [.null, .null, .null, .null, .int (nI 0), .int (nI 0)]))) : Met l yX1_init wsX1_init ({ frames := 1, cells := 4, slots := 52, locals := 20 } : Room) (va_Pc [.ref r] (PC dC dI z G)) (va_Qv (fun _ : Nat × Nat × Nat × Nat => True) (fun u t => PC dC dI z (G.set k (r, .inr (3, [.ref u.1, .ref u.2.1, .ref u.2.2.1, .ref u.2.2.2, .int (nI 0), .int (nI 1)])) ++ [(u.1, .inl (dC 20, 10, .inl (fun _ => nI 0))), (u.2.1, .inl (dC 21, 10, .inl (fun _ => bI false))), (u.2.2.1, .inl (dC 22, 16, .inr (.inl (fun _ => lN 0)))), (u.2.2.2, .inl (dC 20, 16, .inl (fun _ => nI 0)))]) t) (zB z)) 4 52 (zB z) := by
  refine ofWF (cc := cX1_init) (maxL := 1) (ret := none) (by decide +kernel) rfl ?_
  intro p e s m args below meth c s₁ B hml hv
  obtain ⟨rfl, hPC⟩ := hv
  have hx := B.exec
  have hb := B.bytes
  have hr := B.returns
  have hts := atoms_spec (ws := wsX1_init) B.pre
  have hown : s.vm.findClass RX1 = some m.cls := findClass_of_methodNamed B.named
  have hlocks := B.notSynchronized
  have hin2 : meth.name = "<init>" := (name_of_methodNamed B.named B.method).1
  have hinX1 : ∀ w ∈ u_ws RX1 TX1 6, w ∈ wsX1_init := by decide +kernel
  have hk : k < G.length := (List.getElem?_eq_some_iff.mp hG).1
  have hC : WC dC dI z (G.set k (r, .inr (3, [.null, .null, .null, .null, .int (nI 0), .int (nI 0)])) ++ []) s s.heap [] := (WC.of hPC).eqG (by rw [set_same hG, List.append_nil])
  have hl := lv_entry ([.ref r]) (n := 1) (Nat.le_of_ble_eq_true rfl)
  rw [lg_entry_eq]
  generalize (lg_sl ([.ref r]) ++ List.replicate (1 - (lg_sl ([.ref r])).length) Slot.unset).toArray = ls at hl ⊢
  have hl : lv_has ls 1 [(0, .ref r)] := hl
  show W p l e ({ frames := 1, cells := 4, slots := 52, locals := 20 } : Room) s m ([.ref r]).toArray below meth c s.heap [] 0 0 (MQ below (va_Qv (fun _ : Nat × Nat × Nat × Nat => True) (fun u t => PC dC dI z (G.set k (r, .inr (3, [.ref u.1, .ref u.2.1, .ref u.2.2.1, .ref u.2.2.2, .int (nI 0), .int (nI 1)])) ++ [(u.1, .inl (dC 20, 10, .inl (fun _ => nI 0))), (u.2.1, .inl (dC 21, 10, .inl (fun _ => bI false))), (u.2.2.1, .inl (dC 22, 16, .inr (.inl (fun _ => lN 0)))), (u.2.2.2, .inl (dC 20, 16, .inl (fun _ => nI 0)))]) t) (zB z)) [.ref r].toArray s 4 52 (zB z)) (F0 m 0 ls [])
  refine lv_aload_n hx hb dX1_init_0 rfl (lv_at hl 0 rfl) ?_
  refine W.objInit hx hb hown (hts (.methodLink RX1 3 objectInit) (by decide +kernel)) (hts (.instanceMethod objectInit) (by decide +kernel)) (hts (.code objectInit ⟨#[0xb1]⟩ 1 none) (by decide +kernel)) (g := F0 m 1 ls [.ref r]) rfl (by rw [hml]; exact hl.1) rfl dX1_init_1 (Nat.le_of_ble_eq_true rfl) (Nat.le_of_ble_eq_true rfl) ?_
  show W p l e _ s m _ below meth c _ _ _ _ _ (F0 m 4 ls [])
  refine lv_aload_n hx hb dX1_init_4 rfl (lv_at hl 0 rfl) ?_
  refine lv_bipush (v := nI 10) hx hb dX1_init_5 (by decide) ?_
  refine kc_newI hx hb (hts (.arrayClass .int) (by decide +kernel)) hC (by omega) (Nat.le_of_ble_eq_true rfl) (Nat.le_of_ble_eq_true rfl) dX1_init_7 (fun q1 H hC => ?_)
  replace hC : WC dC dI z (G.set k (r, .inr (3, [.null, .null, .null, .null, .int (nI 0), .int (nI 0)])) ++ [(q1, .inl (dC 20, 10, .inl (fun _ => nI 0)))]) s H _ := hC.eqG (by rw [List.append_assoc]; rfl)
  refine va_putF (D := (dC, dI)) (ci := 3) (C := RX1) (T := TX1) (N := 6) (fs := [.null, .null, .null, .null, .int (nI 0), .int (nI 0)]) hx hb hts hinX1 tyX1 tyX1_ok nmX1 hown hC.2.1 hC.1 hC.2.2.1 hC.2.2.2.1 k (cs_k hk) rfl 0 (by decide) (hts (.fieldLink RX1 11 "Orderlattice$Order" "keys" "[I") (by decide +kernel)) (fun _ h => h) rfl hin2 rfl rfl rfl rfl (Nat.le_of_ble_eq_true rfl) dX1_init_9 (fun H locs h1 h2 h3 => ?_)
  replace hC : WC dC dI z (G.set k (r, .inr (3, [.ref q1, .null, .null, .null, .int (nI 0), .int (nI 0)])) ++ [(q1, .inl (dC 20, 10, .inl (fun _ => nI 0)))]) s H locs := (hC.to h1 h2 h3).eqG (by rw [cs_kset hk]; rfl)
  refine lv_aload_n hx hb dX1_init_12 rfl (lv_at hl 0 rfl) ?_
  refine lv_bipush (v := nI 10) hx hb dX1_init_13 (by decide) ?_
  refine kc_newZ hx hb (hts (.arrayClass .boolean) (by decide +kernel)) hC (by omega) (Nat.le_of_ble_eq_true rfl) (Nat.le_of_ble_eq_true rfl) dX1_init_15 (fun q2 H hC => ?_)
  replace hC : WC dC dI z (G.set k (r, .inr (3, [.ref q1, .null, .null, .null, .int (nI 0), .int (nI 0)])) ++ [(q1, .inl (dC 20, 10, .inl (fun _ => nI 0))), (q2, .inl (dC 21, 10, .inl (fun _ => bI false)))]) s H _ := hC.eqG (by rw [List.append_assoc]; rfl)
  refine va_putF (D := (dC, dI)) (ci := 3) (C := RX1) (T := TX1) (N := 6) (fs := [.ref q1, .null, .null, .null, .int (nI 0), .int (nI 0)]) hx hb hts hinX1 tyX1 tyX1_ok nmX1 hown hC.2.1 hC.1 hC.2.2.1 hC.2.2.2.1 k (cs_k hk) rfl 1 (by decide) (hts (.fieldLink RX1 15 "Orderlattice$Order" "downs" "[Z") (by decide +kernel)) (fun _ h => h) rfl hin2 rfl rfl rfl rfl (Nat.le_of_ble_eq_true rfl) dX1_init_17 (fun H locs h1 h2 h3 => ?_)
  replace hC : WC dC dI z (G.set k (r, .inr (3, [.ref q1, .ref q2, .null, .null, .int (nI 0), .int (nI 0)])) ++ [(q1, .inl (dC 20, 10, .inl (fun _ => nI 0))), (q2, .inl (dC 21, 10, .inl (fun _ => bI false)))]) s H locs := (hC.to h1 h2 h3).eqG (by rw [cs_kset hk]; rfl)
  refine lv_aload_n hx hb dX1_init_20 rfl (lv_at hl 0 rfl) ?_
  refine lv_bipush (v := nI 16) hx hb dX1_init_21 (by decide) ?_
  refine kc_newJ hx hb (hts (.arrayClass .long) (by decide +kernel)) hC (by omega) (Nat.le_of_ble_eq_true rfl) (Nat.le_of_ble_eq_true rfl) dX1_init_23 (fun q3 H hC => ?_)
  replace hC : WC dC dI z (G.set k (r, .inr (3, [.ref q1, .ref q2, .null, .null, .int (nI 0), .int (nI 0)])) ++ [(q1, .inl (dC 20, 10, .inl (fun _ => nI 0))), (q2, .inl (dC 21, 10, .inl (fun _ => bI false))), (q3, .inl (dC 22, 16, .inr (.inl (fun _ => lN 0))))]) s H _ := hC.eqG (by rw [List.append_assoc]; rfl)
  refine va_putF (D := (dC, dI)) (ci := 3) (C := RX1) (T := TX1) (N := 6) (fs := [.ref q1, .ref q2, .null, .null, .int (nI 0), .int (nI 0)]) hx hb hts hinX1 tyX1 tyX1_ok nmX1 hown hC.2.1 hC.1 hC.2.2.1 hC.2.2.2.1 k (cs_k hk) rfl 2 (by decide) (hts (.fieldLink RX1 19 "Orderlattice$Order" "codes" "[J") (by decide +kernel)) (fun _ h => h) rfl hin2 rfl rfl rfl rfl (Nat.le_of_ble_eq_true rfl) dX1_init_25 (fun H locs h1 h2 h3 => ?_)
  replace hC : WC dC dI z (G.set k (r, .inr (3, [.ref q1, .ref q2, .ref q3, .null, .int (nI 0), .int (nI 0)])) ++ [(q1, .inl (dC 20, 10, .inl (fun _ => nI 0))), (q2, .inl (dC 21, 10, .inl (fun _ => bI false))), (q3, .inl (dC 22, 16, .inr (.inl (fun _ => lN 0))))]) s H locs := (hC.to h1 h2 h3).eqG (by rw [cs_kset hk]; rfl)
  refine lv_aload_n hx hb dX1_init_28 rfl (lv_at hl 0 rfl) ?_
  refine lv_bipush (v := nI 16) hx hb dX1_init_29 (by decide) ?_
  refine kc_newI hx hb (hts (.arrayClass .int) (by decide +kernel)) hC (by omega) (Nat.le_of_ble_eq_true rfl) (Nat.le_of_ble_eq_true rfl) dX1_init_31 (fun q4 H hC => ?_)
  replace hC : WC dC dI z (G.set k (r, .inr (3, [.ref q1, .ref q2, .ref q3, .null, .int (nI 0), .int (nI 0)])) ++ [(q1, .inl (dC 20, 10, .inl (fun _ => nI 0))), (q2, .inl (dC 21, 10, .inl (fun _ => bI false))), (q3, .inl (dC 22, 16, .inr (.inl (fun _ => lN 0)))), (q4, .inl (dC 20, 16, .inl (fun _ => nI 0)))]) s H _ := hC.eqG (by rw [List.append_assoc]; rfl)
  refine va_putF (D := (dC, dI)) (ci := 3) (C := RX1) (T := TX1) (N := 6) (fs := [.ref q1, .ref q2, .ref q3, .null, .int (nI 0), .int (nI 0)]) hx hb hts hinX1 tyX1 tyX1_ok nmX1 hown hC.2.1 hC.1 hC.2.2.1 hC.2.2.2.1 k (cs_k hk) rfl 3 (by decide) (hts (.fieldLink RX1 23 "Orderlattice$Order" "ranks" "[I") (by decide +kernel)) (fun _ h => h) rfl hin2 rfl rfl rfl rfl (Nat.le_of_ble_eq_true rfl) dX1_init_33 (fun H locs h1 h2 h3 => ?_)
  replace hC : WC dC dI z (G.set k (r, .inr (3, [.ref q1, .ref q2, .ref q3, .ref q4, .int (nI 0), .int (nI 0)])) ++ [(q1, .inl (dC 20, 10, .inl (fun _ => nI 0))), (q2, .inl (dC 21, 10, .inl (fun _ => bI false))), (q3, .inl (dC 22, 16, .inr (.inl (fun _ => lN 0)))), (q4, .inl (dC 20, 16, .inl (fun _ => nI 0)))]) s H locs := (hC.to h1 h2 h3).eqG (by rw [cs_kset hk]; rfl)
  refine lv_aload_n hx hb dX1_init_36 rfl (lv_at hl 0 rfl) ?_
  refine lv_iconst (v := nI 0) hx hb dX1_init_37 (by decide) ?_
  refine va_put (D := (dC, dI)) (ci := 3) (C := RX1) (T := TX1) (N := 6) (fs := [.ref q1, .ref q2, .ref q3, .ref q4, .int (nI 0), .int (nI 0)]) hx hb hts hinX1 tyX1 tyX1_ok nmX1 hown hC.2.1 hC.1 hC.2.2.1 hC.2.2.2.1 k (cs_k hk) rfl 4 (by decide) (hts (.fieldLink RX1 26 "Orderlattice$Order" "many" "I") (by decide +kernel)) (fun _ h => h) rfl rfl rfl rfl (Nat.le_of_ble_eq_true rfl) dX1_init_38 (fun H locs h1 h2 h3 => ?_)
  replace hC : WC dC dI z (G.set k (r, .inr (3, [.ref q1, .ref q2, .ref q3, .ref q4, .int (nI 0), .int (nI 0)])) ++ [(q1, .inl (dC 20, 10, .inl (fun _ => nI 0))), (q2, .inl (dC 21, 10, .inl (fun _ => bI false))), (q3, .inl (dC 22, 16, .inr (.inl (fun _ => lN 0)))), (q4, .inl (dC 20, 16, .inl (fun _ => nI 0)))]) s H locs := (hC.to h1 h2 h3).eqG (by rw [cs_kset hk]; rfl)
  refine lv_aload_n hx hb dX1_init_41 rfl (lv_at hl 0 rfl) ?_
  refine lv_iconst (v := nI 1) hx hb dX1_init_42 (by decide) ?_
  refine va_put (D := (dC, dI)) (ci := 3) (C := RX1) (T := TX1) (N := 6) (fs := [.ref q1, .ref q2, .ref q3, .ref q4, .int (nI 0), .int (nI 0)]) hx hb hts hinX1 tyX1 tyX1_ok nmX1 hown hC.2.1 hC.1 hC.2.2.1 hC.2.2.2.1 k (cs_k hk) rfl 5 (by decide) (hts (.fieldLink RX1 30 "Orderlattice$Order" "classes" "I") (by decide +kernel)) (fun _ h => h) rfl rfl rfl rfl (Nat.le_of_ble_eq_true rfl) dX1_init_43 (fun H locs h1 h2 h3 => ?_)
  replace hC : WC dC dI z (G.set k (r, .inr (3, [.ref q1, .ref q2, .ref q3, .ref q4, .int (nI 0), .int (nI 1)])) ++ [(q1, .inl (dC 20, 10, .inl (fun _ => nI 0))), (q2, .inl (dC 21, 10, .inl (fun _ => bI false))), (q3, .inl (dC 22, 16, .inr (.inl (fun _ => lN 0)))), (q4, .inl (dC 20, 16, .inl (fun _ => nI 0)))]) s H locs := (hC.to h1 h2 h3).eqG (by rw [cs_kset hk]; rfl)
  exact W.widen (k := 4) (n := 52) (by simp) (by simp) (W.vret hx hb hr (fun t9 ht9 hW9 => ⟨⟨(q1, q2, q3, q4), rfl, trivial, hC.P ht9 hW9⟩, hC.F ht9⟩) hC.L dX1_init_46)
set_option maxHeartbeats 4000000 in
set_option maxRecDepth 100000 in
theorem m_X3_init (l : Launch) (dC : Nat → ClassId) (dI : Nat → Nat → Nat) (z : Nat) (G : va_W) (k r : Nat) (hG : G[k]? = some (r, .inr (5, [.null]))) : Met l yX3_init wsX3_init ({ frames := 2, cells := 3, slots := 35, locals := 40 } : Room) (va_Pc [.ref r] (PC dC dI z G)) (va_Qv (fun _ : Nat × Nat × Nat => True) (fun u t => PC dC dI z (G.set k (r, .inr (5, [.ref u.1])) ++ [(u.1, .inr (4, [.ref u.2.1, .ref u.2.2, .int (nI 0)])), (u.2.1, .inl (dC 20, 16, .inl (fun _ => nI 0))), (u.2.2, .inl (dC 20, 16, .inl (fun _ => nI 0)))]) t) (zB z)) 3 35 (zB z) := by
  refine ofWF (cc := cX3_init) (maxL := 1) (ret := none) (by decide +kernel) rfl ?_
  intro p e s m args below meth c s₁ B hml hv
  obtain ⟨rfl, hPC⟩ := hv
  have hx := B.exec
  have hb := B.bytes
  have hr := B.returns
  have hts := atoms_spec (ws := wsX3_init) B.pre
  have hown : s.vm.findClass RX3 = some m.cls := findClass_of_methodNamed B.named
  have hlocks := B.notSynchronized
  have hin2 : meth.name = "<init>" := (name_of_methodNamed B.named B.method).1
  have hinX3 : ∀ w ∈ u_ws RX3 TX3 1, w ∈ wsX3_init := by decide +kernel
  have hk : k < G.length := (List.getElem?_eq_some_iff.mp hG).1
  have hC : WC dC dI z (G.set k (r, .inr (5, [.null])) ++ []) s s.heap [] := (WC.of hPC).eqG (by rw [set_same hG, List.append_nil])
  have hl := lv_entry ([.ref r]) (n := 1) (Nat.le_of_ble_eq_true rfl)
  rw [lg_entry_eq]
  generalize (lg_sl ([.ref r]) ++ List.replicate (1 - (lg_sl ([.ref r])).length) Slot.unset).toArray = ls at hl ⊢
  have hl : lv_has ls 1 [(0, .ref r)] := hl
  show W p l e ({ frames := 2, cells := 3, slots := 35, locals := 40 } : Room) s m ([.ref r]).toArray below meth c s.heap [] 0 0 (MQ below (va_Qv (fun _ : Nat × Nat × Nat => True) (fun u t => PC dC dI z (G.set k (r, .inr (5, [.ref u.1])) ++ [(u.1, .inr (4, [.ref u.2.1, .ref u.2.2, .int (nI 0)])), (u.2.1, .inl (dC 20, 16, .inl (fun _ => nI 0))), (u.2.2, .inl (dC 20, 16, .inl (fun _ => nI 0)))]) t) (zB z)) [.ref r].toArray s 3 35 (zB z)) (F0 m 0 ls [])
  refine lv_aload_n hx hb dX3_init_0 rfl (lv_at hl 0 rfl) ?_
  refine W.objInit hx hb hown (hts (.methodLink RX3 1 objectInit) (by decide +kernel)) (hts (.instanceMethod objectInit) (by decide +kernel)) (hts (.code objectInit ⟨#[0xb1]⟩ 1 none) (by decide +kernel)) (g := F0 m 1 ls [.ref r]) rfl (by rw [hml]; exact hl.1) rfl dX3_init_1 (Nat.le_of_ble_eq_true rfl) (Nat.le_of_ble_eq_true rfl) ?_
  show W p l e _ s m _ below meth c _ _ _ _ _ (F0 m 4 ls [])
  refine lv_aload_n hx hb dX3_init_4 rfl (lv_at hl 0 rfl) ?_
  refine va_new (D := (dC, dI)) (ci := 4) (C := RX2) (T := TX2) (N := 3) (fs := [.null, .null, .int (nI 0)]) hx hb hts (by decide +kernel : ∀ w ∈ u_ws RX2 TX2 3, w ∈ wsX3_init) tyX2 tyX2_ok hown (hts (.classLink RX3 7 RX2) (by decide +kernel)) (hts (.instantiable RX2 3) (by decide +kernel)) (hts (.initialized RX2) (by decide +kernel)) hC.2.1 hC.1 hC.2.2.1 hC.2.2.2.1 (fun q hq => Nat.le_trans hC.2.2.2.2.1 hq) rfl (fun j hj => by rcases (show j = 0 ∨ j = 1 ∨ j = 2 by omega) with rfl | rfl | rfl <;> rfl) (Nat.le_of_ble_eq_true rfl) (Nat.le_of_ble_eq_true rfl) dX3_init_5 (fun q1 H h1 h2 h3 => ?_)
  replace hC : WC dC dI z (G.set k (r, .inr (5, [.null])) ++ [(q1, .inr (4, [.null, .null, .int (nI 0)]))]) s H _ := (hC.to h1 h2 h3).eqG (by rw [List.append_assoc]; rfl)
  refine lv_dup hx hb dX3_init_8 rfl ?_
  refine kc_v (va_runIN (As := []) (rest := [.ref q1, .ref r]) ⟨hx, hb, hml, hown, hts⟩ (m_X2_init l dC dI z (G.set k (r, .inr (5, [.null])) ++ [(q1, .inr (4, [.null, .null, .int (nI 0)]))]) ((G.set k (r, .inr (5, [.null]))).length + 0) q1 ((cs_get (L := (G.set k (r, .inr (5, [.null])))) (M := [(q1, .inr (4, [.null, .null, .int (nI 0)]))]) (j := 0)).trans rfl)) ⟨va_cnB 0 hts gX3_init_X2_init_n9 rfl rfl rfl hC.2.2.2.2.2.2.2.2.2.2.2.2 (hts (.initialized RX2) (by decide +kernel)) (by decide +kernel) ⟨Nat.le_of_ble_eq_true rfl, Nat.le_of_ble_eq_true rfl⟩, rfl, hts (.instanceMethod yX2_init) (by decide +kernel)⟩ hC.preS rfl rfl hl.1 rfl (lv_room (Nat.le_of_ble_eq_true rfl)) dX3_init_9 ⟨Nat.le_of_ble_eq_true rfl, Nat.le_of_ble_eq_true rfl⟩) hC (fun u2 H locs _ hC => ?_)
  replace hC : WC dC dI z (G.set k (r, .inr (5, [.null])) ++ [(q1, .inr (4, [.ref u2.1, .ref u2.2, .int (nI 0)])), (u2.1, .inl (dC 20, 16, .inl (fun _ => nI 0))), (u2.2, .inl (dC 20, 16, .inl (fun _ => nI 0)))]) s H locs := hC.eqG (by rw [cs_set, List.append_assoc]; rfl)
  refine va_putF (D := (dC, dI)) (ci := 5) (C := RX3) (T := TX3) (N := 1) (fs := [.null]) hx hb hts hinX3 tyX3 tyX3_ok nmX3 hown hC.2.1 hC.1 hC.2.2.1 hC.2.2.2.1 k (cs_k hk) rfl 0 (by decide) (hts (.fieldLink RX3 10 "Orderlattice$Sorter" "gathered" "LOrderlattice$Row;") (by decide +kernel)) (fun _ h => h) rfl hin2 rfl rfl rfl rfl (Nat.le_of_ble_eq_true rfl) dX3_init_12 (fun H locs h1 h2 h3 => ?_)
  replace hC : WC dC dI z (G.set k (r, .inr (5, [.ref q1])) ++ [(q1, .inr (4, [.ref u2.1, .ref u2.2, .int (nI 0)])), (u2.1, .inl (dC 20, 16, .inl (fun _ => nI 0))), (u2.2, .inl (dC 20, 16, .inl (fun _ => nI 0)))]) s H locs := (hC.to h1 h2 h3).eqG (by rw [cs_kset hk]; rfl)
  exact W.widen (k := 3) (n := 35) (by simp) (by simp) (W.vret hx hb hr (fun t9 ht9 hW9 => ⟨⟨(q1, u2), rfl, trivial, hC.P ht9 hW9⟩, hC.F ht9⟩) hC.L dX3_init_15)
