section
set_option maxHeartbeats 4000000 in
set_option maxRecDepth 100000 in
theorem t_X4_put_1 (l : Launch) (hst : l.stackTraces = false) (dC : Nat → ClassId) (dI : Nat → Nat → Nat) (ad : Nat → Nat) (S : XS) (x9 : Int32) (y1 : Int32) (hb9 : x9 < 0 ∨ nI 3 ≤ x9) : vx_Met l yX4_put wsX4_put ({ frames := 8, cells := 1, slots := 6, locals := 123 } : Room) (va_Pc [.ref (ad 57), .int x9, .int y1] (PXZ dC dI ad S)) (fun _ _ _ _ => False) (XQ dC dI ad S IX) 1 6 (fun _ => False) := by
  refine vx_ofW (cc := cX4_put) (maxL := 4) (ret := (some .int)) (by decide) rfl ?_
  intro p e s m args below meth c s₁ B hml hex hv
  obtain ⟨rfl, hPZ⟩ := hv
  have hPX := hPZ.1
  have hx := B.exec
  have hb := B.bytes
  have hr := B.returns
  have hts := atoms_spec (ws := wsX4_put) B.pre
  have hown : s.vm.findClass RX4 = some m.cls := findClass_of_methodNamed B.named
  have hlocks := B.notSynchronized
  have hX := WX.of hPX
  have hl := lv_entry ([.ref (ad 57), .int x9, .int y1]) (n := 4) (Nat.le_of_ble_eq_true rfl)
  rw [lg_entry_eq]
  generalize (lg_sl ([.ref (ad 57), .int x9, .int y1]) ++ List.replicate (4 - (lg_sl ([.ref (ad 57), .int x9, .int y1])).length) Slot.unset).toArray = ls at hl ⊢
  have hl : lv_has ls 4 [(0, .ref (ad 57)), (1, .int x9), (2, .int y1)] := hl
  show W p l e ({ frames := 8, cells := 1, slots := 6, locals := 123 } : Room) s m ([.ref (ad 57), .int x9, .int y1]).toArray below meth c s.heap [] 0 0 (vx_MQ below (fun _ _ _ _ => False) (XQ dC dI ad S IX) ([.ref (ad 57), .int x9, .int y1]).toArray s 1 6 (fun _ => False)) (F0 m 0 ls [])
  refine lv_aload_n hx hb dX4_put_0 rfl (lv_at hl 0 rfl) ?_
  refine lv_iload_n hx hb dX4_put_1 rfl (lv_at hl 1 rfl) ?_
  exact kx_pass (vx_runV (As := [.int x9]) (rest := []) ⟨hx, hb, hml, hown, hts⟩ (t_X4_rowAt l hst dC dI ad S x9 hb9) (cwV 1 hts gX4_put_X4_rowAt rfl rfl rfl hdX4_rowAt_1 ⟨Nat.le_of_ble_eq_true rfl, Nat.le_of_ble_eq_true rfl⟩) (hPZ.preX) rfl rfl hl.1 rfl (lv_room (Nat.le_of_ble_eq_true rfl)) dX4_put_2 ⟨Nat.le_of_ble_eq_true rfl, Nat.le_of_ble_eq_true rfl⟩) hPX hex hlocks
set_option maxHeartbeats 4000000 in
set_option maxRecDepth 100000 in
theorem t_X4_put_2 (l : Launch) (hst : l.stackTraces = false) (dC : Nat → ClassId) (dI : Nat → Nat → Nat) (ad : Nat → Nat) (S : XS) (i : Nat) (x9 : Int32) (hi : i < 3) (hb9 : x9 < 0 ∨ nI 15 < x9) : vx_Met l yX4_put wsX4_put ({ frames := 8, cells := 1, slots := 6, locals := 123 } : Room) (va_Pc [.ref (ad 57), .int (nI i), .int x9] (PXZ dC dI ad S)) (fun _ _ _ _ => False) (XQ dC dI ad S IA) 1 6 (fun _ => False) := by
  refine vx_ofW (cc := cX4_put) (maxL := 4) (ret := (some .int)) (by decide) rfl ?_
  intro p e s m args below meth c s₁ B hml hex hv
  obtain ⟨rfl, hPZ⟩ := hv
  have hPX := hPZ.1
  have hx := B.exec
  have hb := B.bytes
  have hr := B.returns
  have hts := atoms_spec (ws := wsX4_put) B.pre
  have hown : s.vm.findClass RX4 = some m.cls := findClass_of_methodNamed B.named
  have hlocks := B.notSynchronized
  have hX := WX.of hPX
  have hl := lv_entry ([.ref (ad 57), .int (nI i), .int x9]) (n := 4) (Nat.le_of_ble_eq_true rfl)
  rw [lg_entry_eq]
  generalize (lg_sl ([.ref (ad 57), .int (nI i), .int x9]) ++ List.replicate (4 - (lg_sl ([.ref (ad 57), .int (nI i), .int x9])).length) Slot.unset).toArray = ls at hl ⊢
  have hl : lv_has ls 4 [(0, .ref (ad 57)), (1, .int (nI i)), (2, .int x9)] := hl
  show W p l e ({ frames := 8, cells := 1, slots := 6, locals := 123 } : Room) s m ([.ref (ad 57), .int (nI i), .int x9]).toArray below meth c s.heap [] 0 0 (vx_MQ below (fun _ _ _ _ => False) (XQ dC dI ad S IA) ([.ref (ad 57), .int (nI i), .int x9]).toArray s 1 6 (fun _ => False)) (F0 m 0 ls [])
  refine lv_aload_n hx hb dX4_put_0 rfl (lv_at hl 0 rfl) ?_
  refine lv_iload_n hx hb dX4_put_1 rfl (lv_at hl 1 rfl) ?_
  refine va_csr (va_Run.run (va_runV (As := [.int (nI i)]) (rest := []) ⟨hx, hb, hml, hown, hts⟩ (m_X4_rowAt l dC dI ad S i (by omega)) (cwV 1 hts gX4_put_X4_rowAt rfl rfl rfl hdX4_rowAt_1 ⟨Nat.le_of_ble_eq_true rfl, Nat.le_of_ble_eq_true rfl⟩) (hX.preTop 57 6 (by decide) (by decide) rfl rfl) rfl rfl hl.1 rfl (lv_room (Nat.le_of_ble_eq_true rfl)) dX4_put_2 ⟨Nat.le_of_ble_eq_true rfl, Nat.le_of_ble_eq_true rfl⟩)) (fun k_ hk_ => ?_)
  rw [hk_]
  refine lv_astore_n (lv' := [(3, .ref (ad (3 * i))), (0, .ref (ad 57)), (1, .int (nI i)), (2, .int x9)]) hx hb dX4_put_5 rfl hl (by decide) rfl (fun ls hl => ?_)
  refine lv_iload_n hx hb dX4_put_6 rfl (lv_at hl 3 rfl) ?_
  exact kx_pass (vx_runS (As := [.int x9]) (rest := []) ⟨hx, hb, hml, hown, hts⟩ (t_X4_demandValue l hst dC dI ad S x9 hb9) (va_cwS 1 hts gX4_put_X4_demandValue rfl rfl rfl hdX4_demandValue_1.2 ⟨Nat.le_of_ble_eq_true rfl, Nat.le_of_ble_eq_true rfl⟩) hPZ.preS rfl rfl hl.1 rfl (lv_room (Nat.le_of_ble_eq_true rfl)) dX4_put_7 ⟨Nat.le_of_ble_eq_true rfl, Nat.le_of_ble_eq_true rfl⟩) hPX hex hlocks
set_option maxHeartbeats 4000000 in
set_option maxRecDepth 100000 in
theorem t_X4_putAt_1 (l : Launch) (hst : l.stackTraces = false) (dC : Nat → ClassId) (dI : Nat → Nat → Nat) (ad : Nat → Nat) (S : XS) (x9 : Int32) (y1 : Int32) (y2 : Int32) (hb9 : x9 < 0 ∨ nI 3 ≤ x9) : vx_Met l yX4_putAt wsX4_putAt ({ frames := 8, cells := 1, slots := 6, locals := 123 } : Room) (va_Pc [.ref (ad 57), .int x9, .int y1, .int y2] (PXZ dC dI ad S)) (fun _ _ _ _ => False) (XQ dC dI ad S IX) 1 6 (fun _ => False) := by
  refine vx_ofW (cc := cX4_putAt) (maxL := 5) (ret := (some .int)) (by decide) rfl ?_
  intro p e s m args below meth c s₁ B hml hex hv
  obtain ⟨rfl, hPZ⟩ := hv
  have hPX := hPZ.1
  have hx := B.exec
  have hb := B.bytes
  have hr := B.returns
  have hts := atoms_spec (ws := wsX4_putAt) B.pre
  have hown : s.vm.findClass RX4 = some m.cls := findClass_of_methodNamed B.named
  have hlocks := B.notSynchronized
  have hX := WX.of hPX
  have hl := lv_entry ([.ref (ad 57), .int x9, .int y1, .int y2]) (n := 5) (Nat.le_of_ble_eq_true rfl)
  rw [lg_entry_eq]
  generalize (lg_sl ([.ref (ad 57), .int x9, .int y1, .int y2]) ++ List.replicate (5 - (lg_sl ([.ref (ad 57), .int x9, .int y1, .int y2])).length) Slot.unset).toArray = ls at hl ⊢
  have hl : lv_has ls 5 [(0, .ref (ad 57)), (1, .int x9), (2, .int y1), (3, .int y2)] := hl
  show W p l e ({ frames := 8, cells := 1, slots := 6, locals := 123 } : Room) s m ([.ref (ad 57), .int x9, .int y1, .int y2]).toArray below meth c s.heap [] 0 0 (vx_MQ below (fun _ _ _ _ => False) (XQ dC dI ad S IX) ([.ref (ad 57), .int x9, .int y1, .int y2]).toArray s 1 6 (fun _ => False)) (F0 m 0 ls [])
  refine lv_aload_n hx hb dX4_putAt_0 rfl (lv_at hl 0 rfl) ?_
  refine lv_iload_n hx hb dX4_putAt_1 rfl (lv_at hl 1 rfl) ?_
  exact kx_pass (vx_runV (As := [.int x9]) (rest := []) ⟨hx, hb, hml, hown, hts⟩ (t_X4_rowAt l hst dC dI ad S x9 hb9) (cwV 1 hts gX4_putAt_X4_rowAt rfl rfl rfl hdX4_rowAt_1 ⟨Nat.le_of_ble_eq_true rfl, Nat.le_of_ble_eq_true rfl⟩) (hPZ.preX) rfl rfl hl.1 rfl (lv_room (Nat.le_of_ble_eq_true rfl)) dX4_putAt_2 ⟨Nat.le_of_ble_eq_true rfl, Nat.le_of_ble_eq_true rfl⟩) hPX hex hlocks
set_option maxHeartbeats 4000000 in
set_option maxRecDepth 100000 in
theorem t_X4_putAt_2 (l : Launch) (hst : l.stackTraces = false) (dC : Nat → ClassId) (dI : Nat → Nat → Nat) (ad : Nat → Nat) (S : XS) (i : Nat) (x9 : Int32) (y2 : Int32) (hi : i < 3) (hn : (S.1 i).2.2 ≤ 16) (hb9 : x9 < 0 ∨ nI (S.1 i).2.2 < x9) : vx_Met l yX4_putAt wsX4_putAt ({ frames := 8, cells := 1, slots := 6, locals := 123 } : Room) (va_Pc [.ref (ad 57), .int (nI i), .int x9, .int y2] (PXZ dC dI ad S)) (fun _ _ _ _ => False) (XQ dC dI ad S IX) 1 6 (fun _ => False) := by
  refine vx_ofW (cc := cX4_putAt) (maxL := 5) (ret := (some .int)) (by decide) rfl ?_
  intro p e s m args below meth c s₁ B hml hex hv
  obtain ⟨rfl, hPZ⟩ := hv
  have hPX := hPZ.1
  have hx := B.exec
  have hb := B.bytes
  have hr := B.returns
  have hts := atoms_spec (ws := wsX4_putAt) B.pre
  have hown : s.vm.findClass RX4 = some m.cls := findClass_of_methodNamed B.named
  have hlocks := B.notSynchronized
  have hX := WX.of hPX
  have hl := lv_entry ([.ref (ad 57), .int (nI i), .int x9, .int y2]) (n := 5) (Nat.le_of_ble_eq_true rfl)
  rw [lg_entry_eq]
  generalize (lg_sl ([.ref (ad 57), .int (nI i), .int x9, .int y2]) ++ List.replicate (5 - (lg_sl ([.ref (ad 57), .int (nI i), .int x9, .int y2])).length) Slot.unset).toArray = ls at hl ⊢
  have hl : lv_has ls 5 [(0, .ref (ad 57)), (1, .int (nI i)), (2, .int x9), (3, .int y2)] := hl
  show W p l e ({ frames := 8, cells := 1, slots := 6, locals := 123 } : Room) s m ([.ref (ad 57), .int (nI i), .int x9, .int y2]).toArray below meth c s.heap [] 0 0 (vx_MQ below (fun _ _ _ _ => False) (XQ dC dI ad S IX) ([.ref (ad 57), .int (nI i), .int x9, .int y2]).toArray s 1 6 (fun _ => False)) (F0 m 0 ls [])
  refine lv_aload_n hx hb dX4_putAt_0 rfl (lv_at hl 0 rfl) ?_
  refine lv_iload_n hx hb dX4_putAt_1 rfl (lv_at hl 1 rfl) ?_
  refine va_csr (va_Run.run (va_runV (As := [.int (nI i)]) (rest := []) ⟨hx, hb, hml, hown, hts⟩ (m_X4_rowAt l dC dI ad S i (by omega)) (cwV 1 hts gX4_putAt_X4_rowAt rfl rfl rfl hdX4_rowAt_1 ⟨Nat.le_of_ble_eq_true rfl, Nat.le_of_ble_eq_true rfl⟩) (hX.preTop 57 6 (by decide) (by decide) rfl rfl) rfl rfl hl.1 rfl (lv_room (Nat.le_of_ble_eq_true rfl)) dX4_putAt_2 ⟨Nat.le_of_ble_eq_true rfl, Nat.le_of_ble_eq_true rfl⟩)) (fun k_ hk_ => ?_)
  rw [hk_]
  refine lv_astore (lv' := [(4, .ref (ad (3 * i))), (0, .ref (ad 57)), (1, .int (nI i)), (2, .int x9), (3, .int y2)]) hx hb dX4_putAt_5 hl (by decide) rfl (fun ls hl => ?_)
  refine lv_aload hx hb dX4_putAt_7 (lv_at hl 0 rfl) ?_
  refine lv_iload_n hx hb dX4_putAt_9 rfl (lv_at hl 3 rfl) ?_
  exact kx_pass (vx_runS (As := [.ref (ad (3 * i)), .int x9]) (rest := []) ⟨hx, hb, hml, hown, hts⟩ (t_X4_demandGap l hst dC dI ad S i x9 (by omega) (by omega) hb9) (va_cwS 2 hts gX4_putAt_X4_demandGap rfl rfl rfl hdX4_demandGap_2.2 ⟨Nat.le_of_ble_eq_true rfl, Nat.le_of_ble_eq_true rfl⟩) hPZ.preS rfl rfl hl.1 rfl (lv_room (Nat.le_of_ble_eq_true rfl)) dX4_putAt_10 ⟨Nat.le_of_ble_eq_true rfl, Nat.le_of_ble_eq_true rfl⟩) hPX hex hlocks
set_option maxHeartbeats 4000000 in
set_option maxRecDepth 100000 in
theorem t_X4_putAt_3 (l : Launch) (hst : l.stackTraces = false) (dC : Nat → ClassId) (dI : Nat → Nat → Nat) (ad : Nat → Nat) (S : XS) (i : Nat) (q : Nat) (x9 : Int32) (hi : i < 3) (hq : q ≤ (S.1 i).2.2) (hn : (S.1 i).2.2 ≤ 16) (hb9 : x9 < 0 ∨ nI 15 < x9) : vx_Met l yX4_putAt wsX4_putAt ({ frames := 8, cells := 1, slots := 6, locals := 123 } : Room) (va_Pc [.ref (ad 57), .int (nI i), .int (nI q), .int x9] (PXZ dC dI ad S)) (fun _ _ _ _ => False) (XQ dC dI ad S IA) 1 6 (fun _ => False) := by
  refine vx_ofW (cc := cX4_putAt) (maxL := 5) (ret := (some .int)) (by decide) rfl ?_
  intro p e s m args below meth c s₁ B hml hex hv
  obtain ⟨rfl, hPZ⟩ := hv
  have hPX := hPZ.1
  have hx := B.exec
  have hb := B.bytes
  have hr := B.returns
  have hts := atoms_spec (ws := wsX4_putAt) B.pre
  have hown : s.vm.findClass RX4 = some m.cls := findClass_of_methodNamed B.named
  have hlocks := B.notSynchronized
  have hX := WX.of hPX
  have hl := lv_entry ([.ref (ad 57), .int (nI i), .int (nI q), .int x9]) (n := 5) (Nat.le_of_ble_eq_true rfl)
  rw [lg_entry_eq]
  generalize (lg_sl ([.ref (ad 57), .int (nI i), .int (nI q), .int x9]) ++ List.replicate (5 - (lg_sl ([.ref (ad 57), .int (nI i), .int (nI q), .int x9])).length) Slot.unset).toArray = ls at hl ⊢
  have hl : lv_has ls 5 [(0, .ref (ad 57)), (1, .int (nI i)), (2, .int (nI q)), (3, .int x9)] := hl
  show W p l e ({ frames := 8, cells := 1, slots := 6, locals := 123 } : Room) s m ([.ref (ad 57), .int (nI i), .int (nI q), .int x9]).toArray below meth c s.heap [] 0 0 (vx_MQ below (fun _ _ _ _ => False) (XQ dC dI ad S IA) ([.ref (ad 57), .int (nI i), .int (nI q), .int x9]).toArray s 1 6 (fun _ => False)) (F0 m 0 ls [])
  refine lv_aload_n hx hb dX4_putAt_0 rfl (lv_at hl 0 rfl) ?_
  refine lv_iload_n hx hb dX4_putAt_1 rfl (lv_at hl 1 rfl) ?_
  refine va_csr (va_Run.run (va_runV (As := [.int (nI i)]) (rest := []) ⟨hx, hb, hml, hown, hts⟩ (m_X4_rowAt l dC dI ad S i (by omega)) (cwV 1 hts gX4_putAt_X4_rowAt rfl rfl rfl hdX4_rowAt_1 ⟨Nat.le_of_ble_eq_true rfl, Nat.le_of_ble_eq_true rfl⟩) (hX.preTop 57 6 (by decide) (by decide) rfl rfl) rfl rfl hl.1 rfl (lv_room (Nat.le_of_ble_eq_true rfl)) dX4_putAt_2 ⟨Nat.le_of_ble_eq_true rfl, Nat.le_of_ble_eq_true rfl⟩)) (fun k_ hk_ => ?_)
  rw [hk_]
  refine lv_astore (lv' := [(4, .ref (ad (3 * i))), (0, .ref (ad 57)), (1, .int (nI i)), (2, .int (nI q)), (3, .int x9)]) hx hb dX4_putAt_5 hl (by decide) rfl (fun ls hl => ?_)
  refine lv_aload hx hb dX4_putAt_7 (lv_at hl 0 rfl) ?_
  refine lv_iload_n hx hb dX4_putAt_9 rfl (lv_at hl 3 rfl) ?_
  refine va_csv (va_Run.run (va_runS (As := [.ref (ad (3 * i)), .int (nI q)]) (rest := []) ⟨hx, hb, hml, hown, hts⟩ (m_X4_demandGap l dC dI ad S i q (by omega) (by omega) (by omega)) (va_cwS 2 hts gX4_putAt_X4_demandGap rfl rfl rfl hdX4_demandGap_2.2 ⟨Nat.le_of_ble_eq_true rfl, Nat.le_of_ble_eq_true rfl⟩) hX.preS rfl rfl hl.1 rfl (lv_room (Nat.le_of_ble_eq_true rfl)) dX4_putAt_10 ⟨Nat.le_of_ble_eq_true rfl, Nat.le_of_ble_eq_true rfl⟩)) (fun _ => ?_)
  refine lv_iload_n hx hb dX4_putAt_13 rfl (lv_at hl 4 rfl) ?_
  exact kx_pass (vx_runS (As := [.int x9]) (rest := []) ⟨hx, hb, hml, hown, hts⟩ (t_X4_demandValue l hst dC dI ad S x9 hb9) (va_cwS 1 hts gX4_putAt_X4_demandValue rfl rfl rfl hdX4_demandValue_1.2 ⟨Nat.le_of_ble_eq_true rfl, Nat.le_of_ble_eq_true rfl⟩) hPZ.preS rfl rfl hl.1 rfl (lv_room (Nat.le_of_ble_eq_true rfl)) dX4_putAt_14 ⟨Nat.le_of_ble_eq_true rfl, Nat.le_of_ble_eq_true rfl⟩) hPX hex hlocks
set_option maxHeartbeats 4000000 in
set_option maxRecDepth 100000 in
theorem t_X4_fill_1 (l : Launch) (hst : l.stackTraces = false) (dC : Nat → ClassId) (dI : Nat → Nat → Nat) (ad : Nat → Nat) (S : XS) (x9 : Int32) (y1 : Int32) (y2 : Int32) (y3 : Int32) (hb9 : x9 < 0 ∨ nI 3 ≤ x9) : vx_Met l yX4_fill wsX4_fill ({ frames := 8, cells := 1, slots := 6, locals := 123 } : Room) (va_Pc [.ref (ad 57), .int x9, .int y1, .int y2, .int y3] (PXZ dC dI ad S)) (fun _ _ _ _ => False) (XQ dC dI ad S IX) 1 6 (fun _ => False) := by
  refine vx_ofW (cc := cX4_fill) (maxL := 7) (ret := (some .int)) (by decide) rfl ?_
  intro p e s m args below meth c s₁ B hml hex hv
  obtain ⟨rfl, hPZ⟩ := hv
  have hPX := hPZ.1
  have hx := B.exec
  have hb := B.bytes
  have hr := B.returns
  have hts := atoms_spec (ws := wsX4_fill) B.pre
  have hown : s.vm.findClass RX4 = some m.cls := findClass_of_methodNamed B.named
  have hlocks := B.notSynchronized
  have hX := WX.of hPX
  have hl := lv_entry ([.ref (ad 57), .int x9, .int y1, .int y2, .int y3]) (n := 7) (Nat.le_of_ble_eq_true rfl)
  rw [lg_entry_eq]
  generalize (lg_sl ([.ref (ad 57), .int x9, .int y1, .int y2, .int y3]) ++ List.replicate (7 - (lg_sl ([.ref (ad 57), .int x9, .int y1, .int y2, .int y3])).length) Slot.unset).toArray = ls at hl ⊢
  have hl : lv_has ls 7 [(0, .ref (ad 57)), (1, .int x9), (2, .int y1), (3, .int y2), (4, .int y3)] := hl
  show W p l e ({ frames := 8, cells := 1, slots := 6, locals := 123 } : Room) s m ([.ref (ad 57), .int x9, .int y1, .int y2, .int y3]).toArray below meth c s.heap [] 0 0 (vx_MQ below (fun _ _ _ _ => False) (XQ dC dI ad S IX) ([.ref (ad 57), .int x9, .int y1, .int y2, .int y3]).toArray s 1 6 (fun _ => False)) (F0 m 0 ls [])
  refine lv_aload_n hx hb dX4_fill_0 rfl (lv_at hl 0 rfl) ?_
  refine lv_iload_n hx hb dX4_fill_1 rfl (lv_at hl 1 rfl) ?_
  exact kx_pass (vx_runV (As := [.int x9]) (rest := []) ⟨hx, hb, hml, hown, hts⟩ (t_X4_rowAt l hst dC dI ad S x9 hb9) (cwV 1 hts gX4_fill_X4_rowAt rfl rfl rfl hdX4_rowAt_1 ⟨Nat.le_of_ble_eq_true rfl, Nat.le_of_ble_eq_true rfl⟩) (hPZ.preX) rfl rfl hl.1 rfl (lv_room (Nat.le_of_ble_eq_true rfl)) dX4_fill_2 ⟨Nat.le_of_ble_eq_true rfl, Nat.le_of_ble_eq_true rfl⟩) hPX hex hlocks
set_option maxHeartbeats 4000000 in
set_option maxRecDepth 100000 in
theorem t_X4_fill_2 (l : Launch) (hst : l.stackTraces = false) (dC : Nat → ClassId) (dI : Nat → Nat → Nat) (ad : Nat → Nat) (S : XS) (i : Nat) (x9 : Int32) (y2 : Int32) (y3 : Int32) (hi : i < 3) (hb9 : x9 < 0 ∨ nI 12 < x9) : vx_Met l yX4_fill wsX4_fill ({ frames := 8, cells := 1, slots := 6, locals := 123 } : Room) (va_Pc [.ref (ad 57), .int (nI i), .int x9, .int y2, .int y3] (PXZ dC dI ad S)) (fun _ _ _ _ => False) (XQ dC dI ad S IA) 1 6 (fun _ => False) := by
  refine vx_ofW (cc := cX4_fill) (maxL := 7) (ret := (some .int)) (by decide) rfl ?_
  intro p e s m args below meth c s₁ B hml hex hv
  obtain ⟨rfl, hPZ⟩ := hv
  have hPX := hPZ.1
  have hx := B.exec
  have hb := B.bytes
  have hr := B.returns
  have hts := atoms_spec (ws := wsX4_fill) B.pre
  have hown : s.vm.findClass RX4 = some m.cls := findClass_of_methodNamed B.named
  have hlocks := B.notSynchronized
  have hX := WX.of hPX
  have hl := lv_entry ([.ref (ad 57), .int (nI i), .int x9, .int y2, .int y3]) (n := 7) (Nat.le_of_ble_eq_true rfl)
  rw [lg_entry_eq]
  generalize (lg_sl ([.ref (ad 57), .int (nI i), .int x9, .int y2, .int y3]) ++ List.replicate (7 - (lg_sl ([.ref (ad 57), .int (nI i), .int x9, .int y2, .int y3])).length) Slot.unset).toArray = ls at hl ⊢
  have hl : lv_has ls 7 [(0, .ref (ad 57)), (1, .int (nI i)), (2, .int x9), (3, .int y2), (4, .int y3)] := hl
  show W p l e ({ frames := 8, cells := 1, slots := 6, locals := 123 } : Room) s m ([.ref (ad 57), .int (nI i), .int x9, .int y2, .int y3]).toArray below meth c s.heap [] 0 0 (vx_MQ below (fun _ _ _ _ => False) (XQ dC dI ad S IA) ([.ref (ad 57), .int (nI i), .int x9, .int y2, .int y3]).toArray s 1 6 (fun _ => False)) (F0 m 0 ls [])
  refine lv_aload_n hx hb dX4_fill_0 rfl (lv_at hl 0 rfl) ?_
  refine lv_iload_n hx hb dX4_fill_1 rfl (lv_at hl 1 rfl) ?_
  refine va_csr (va_Run.run (va_runV (As := [.int (nI i)]) (rest := []) ⟨hx, hb, hml, hown, hts⟩ (m_X4_rowAt l dC dI ad S i (by omega)) (cwV 1 hts gX4_fill_X4_rowAt rfl rfl rfl hdX4_rowAt_1 ⟨Nat.le_of_ble_eq_true rfl, Nat.le_of_ble_eq_true rfl⟩) (hX.preTop 57 6 (by decide) (by decide) rfl rfl) rfl rfl hl.1 rfl (lv_room (Nat.le_of_ble_eq_true rfl)) dX4_fill_2 ⟨Nat.le_of_ble_eq_true rfl, Nat.le_of_ble_eq_true rfl⟩)) (fun k_ hk_ => ?_)
  rw [hk_]
  refine lv_astore (lv' := [(5, .ref (ad (3 * i))), (0, .ref (ad 57)), (1, .int (nI i)), (2, .int x9), (3, .int y2), (4, .int y3)]) hx hb dX4_fill_5 hl (by decide) rfl (fun ls hl => ?_)
  refine lv_iload_n hx hb dX4_fill_7 rfl (lv_at hl 3 rfl) ?_
  refine lv_bipush (v := nI 12) hx hb dX4_fill_8 (by decide) ?_
  exact kx_pass (vx_runS (As := [.int x9, .int (nI 12)]) (rest := []) ⟨hx, hb, hml, hown, hts⟩ (t_X4_demandWithin l hst dC dI ad S x9 12 (by omega) hb9) (va_cwS 2 hts gX4_fill_X4_demandWithin rfl rfl rfl hdX4_demandWithin_2.2 ⟨Nat.le_of_ble_eq_true rfl, Nat.le_of_ble_eq_true rfl⟩) hPZ.preS rfl rfl hl.1 rfl (lv_room (Nat.le_of_ble_eq_true rfl)) dX4_fill_10 ⟨Nat.le_of_ble_eq_true rfl, Nat.le_of_ble_eq_true rfl⟩) hPX hex hlocks
set_option maxHeartbeats 4000000 in
set_option maxRecDepth 100000 in
theorem t_X4_fill_3 (l : Launch) (hst : l.stackTraces = false) (dC : Nat → ClassId) (dI : Nat → Nat → Nat) (ad : Nat → Nat) (S : XS) (i : Nat) (k : Nat) (x9 : Int32) (y3 : Int32) (hi : i < 3) (hk : k ≤ 12) (hb9 : x9 < 0 ∨ nI 99 < x9) : vx_Met l yX4_fill wsX4_fill ({ frames := 8, cells := 1, slots := 6, locals := 123 } : Room) (va_Pc [.ref (ad 57), .int (nI i), .int (nI k), .int x9, .int y3] (PXZ dC dI ad S)) (fun _ _ _ _ => False) (XQ dC dI ad S IA) 1 6 (fun _ => False) := by
  refine vx_ofW (cc := cX4_fill) (maxL := 7) (ret := (some .int)) (by decide) rfl ?_
  intro p e s m args below meth c s₁ B hml hex hv
  obtain ⟨rfl, hPZ⟩ := hv
  have hPX := hPZ.1
  have hx := B.exec
  have hb := B.bytes
  have hr := B.returns
  have hts := atoms_spec (ws := wsX4_fill) B.pre
  have hown : s.vm.findClass RX4 = some m.cls := findClass_of_methodNamed B.named
  have hlocks := B.notSynchronized
  have hX := WX.of hPX
  have hl := lv_entry ([.ref (ad 57), .int (nI i), .int (nI k), .int x9, .int y3]) (n := 7) (Nat.le_of_ble_eq_true rfl)
  rw [lg_entry_eq]
  generalize (lg_sl ([.ref (ad 57), .int (nI i), .int (nI k), .int x9, .int y3]) ++ List.replicate (7 - (lg_sl ([.ref (ad 57), .int (nI i), .int (nI k), .int x9, .int y3])).length) Slot.unset).toArray = ls at hl ⊢
  have hl : lv_has ls 7 [(0, .ref (ad 57)), (1, .int (nI i)), (2, .int (nI k)), (3, .int x9), (4, .int y3)] := hl
  show W p l e ({ frames := 8, cells := 1, slots := 6, locals := 123 } : Room) s m ([.ref (ad 57), .int (nI i), .int (nI k), .int x9, .int y3]).toArray below meth c s.heap [] 0 0 (vx_MQ below (fun _ _ _ _ => False) (XQ dC dI ad S IA) ([.ref (ad 57), .int (nI i), .int (nI k), .int x9, .int y3]).toArray s 1 6 (fun _ => False)) (F0 m 0 ls [])
  refine lv_aload_n hx hb dX4_fill_0 rfl (lv_at hl 0 rfl) ?_
  refine lv_iload_n hx hb dX4_fill_1 rfl (lv_at hl 1 rfl) ?_
  refine va_csr (va_Run.run (va_runV (As := [.int (nI i)]) (rest := []) ⟨hx, hb, hml, hown, hts⟩ (m_X4_rowAt l dC dI ad S i (by omega)) (cwV 1 hts gX4_fill_X4_rowAt rfl rfl rfl hdX4_rowAt_1 ⟨Nat.le_of_ble_eq_true rfl, Nat.le_of_ble_eq_true rfl⟩) (hX.preTop 57 6 (by decide) (by decide) rfl rfl) rfl rfl hl.1 rfl (lv_room (Nat.le_of_ble_eq_true rfl)) dX4_fill_2 ⟨Nat.le_of_ble_eq_true rfl, Nat.le_of_ble_eq_true rfl⟩)) (fun k_ hk_ => ?_)
  rw [hk_]
  refine lv_astore (lv' := [(5, .ref (ad (3 * i))), (0, .ref (ad 57)), (1, .int (nI i)), (2, .int (nI k)), (3, .int x9), (4, .int y3)]) hx hb dX4_fill_5 hl (by decide) rfl (fun ls hl => ?_)
  refine lv_iload_n hx hb dX4_fill_7 rfl (lv_at hl 3 rfl) ?_
  refine lv_bipush (v := nI 12) hx hb dX4_fill_8 (by decide) ?_
  refine va_csv (va_Run.run (va_runS (As := [.int (nI k), .int (nI 12)]) (rest := []) ⟨hx, hb, hml, hown, hts⟩ (m_X4_demandWithin l dC dI ad S k 12 (by omega) (by omega)) (va_cwS 2 hts gX4_fill_X4_demandWithin rfl rfl rfl hdX4_demandWithin_2.2 ⟨Nat.le_of_ble_eq_true rfl, Nat.le_of_ble_eq_true rfl⟩) hX.preS rfl rfl hl.1 rfl (lv_room (Nat.le_of_ble_eq_true rfl)) dX4_fill_10 ⟨Nat.le_of_ble_eq_true rfl, Nat.le_of_ble_eq_true rfl⟩)) (fun _ => ?_)
  refine lv_iload_n hx hb dX4_fill_13 rfl (lv_at hl 4 rfl) ?_
  refine lv_bipush (v := nI 99) hx hb dX4_fill_14 (by decide) ?_
  exact kx_pass (vx_runS (As := [.int x9, .int (nI 99)]) (rest := []) ⟨hx, hb, hml, hown, hts⟩ (t_X4_demandWithin l hst dC dI ad S x9 99 (by omega) hb9) (va_cwS 2 hts gX4_fill_X4_demandWithin rfl rfl rfl hdX4_demandWithin_2.2 ⟨Nat.le_of_ble_eq_true rfl, Nat.le_of_ble_eq_true rfl⟩) hPZ.preS rfl rfl hl.1 rfl (lv_room (Nat.le_of_ble_eq_true rfl)) dX4_fill_16 ⟨Nat.le_of_ble_eq_true rfl, Nat.le_of_ble_eq_true rfl⟩) hPX hex hlocks
set_option maxHeartbeats 4000000 in
set_option maxRecDepth 100000 in
theorem t_X4_fill_4 (l : Launch) (hst : l.stackTraces = false) (dC : Nat → ClassId) (dI : Nat → Nat → Nat) (ad : Nat → Nat) (S : XS) (i : Nat) (k : Nat) (k2 : Nat) (x9 : Int32) (hi : i < 3) (hk : k ≤ 12) (hk2 : k2 ≤ 99) (hb9 : x9 < 0 ∨ nI 99 < x9) : vx_Met l yX4_fill wsX4_fill ({ frames := 8, cells := 1, slots := 6, locals := 123 } : Room) (va_Pc [.ref (ad 57), .int (nI i), .int (nI k), .int (nI k2), .int x9] (PXZ dC dI ad S)) (fun _ _ _ _ => False) (XQ dC dI ad S IA) 1 6 (fun _ => False) := by
  refine vx_ofW (cc := cX4_fill) (maxL := 7) (ret := (some .int)) (by decide) rfl ?_
  intro p e s m args below meth c s₁ B hml hex hv
  obtain ⟨rfl, hPZ⟩ := hv
  have hPX := hPZ.1
  have hx := B.exec
  have hb := B.bytes
  have hr := B.returns
  have hts := atoms_spec (ws := wsX4_fill) B.pre
  have hown : s.vm.findClass RX4 = some m.cls := findClass_of_methodNamed B.named
  have hlocks := B.notSynchronized
  have hX := WX.of hPX
  have hl := lv_entry ([.ref (ad 57), .int (nI i), .int (nI k), .int (nI k2), .int x9]) (n := 7) (Nat.le_of_ble_eq_true rfl)
  rw [lg_entry_eq]
  generalize (lg_sl ([.ref (ad 57), .int (nI i), .int (nI k), .int (nI k2), .int x9]) ++ List.replicate (7 - (lg_sl ([.ref (ad 57), .int (nI i), .int (nI k), .int (nI k2), .int x9])).length) Slot.unset).toArray = ls at hl ⊢
  have hl : lv_has ls 7 [(0, .ref (ad 57)), (1, .int (nI i)), (2, .int (nI k)), (3, .int (nI k2)), (4, .int x9)] := hl
  show W p l e ({ frames := 8, cells := 1, slots := 6, locals := 123 } : Room) s m ([.ref (ad 57), .int (nI i), .int (nI k), .int (nI k2), .int x9]).toArray below meth c s.heap [] 0 0 (vx_MQ below (fun _ _ _ _ => False) (XQ dC dI ad S IA) ([.ref (ad 57), .int (nI i), .int (nI k), .int (nI k2), .int x9]).toArray s 1 6 (fun _ => False)) (F0 m 0 ls [])
  refine lv_aload_n hx hb dX4_fill_0 rfl (lv_at hl 0 rfl) ?_
  refine lv_iload_n hx hb dX4_fill_1 rfl (lv_at hl 1 rfl) ?_
  refine va_csr (va_Run.run (va_runV (As := [.int (nI i)]) (rest := []) ⟨hx, hb, hml, hown, hts⟩ (m_X4_rowAt l dC dI ad S i (by omega)) (cwV 1 hts gX4_fill_X4_rowAt rfl rfl rfl hdX4_rowAt_1 ⟨Nat.le_of_ble_eq_true rfl, Nat.le_of_ble_eq_true rfl⟩) (hX.preTop 57 6 (by decide) (by decide) rfl rfl) rfl rfl hl.1 rfl (lv_room (Nat.le_of_ble_eq_true rfl)) dX4_fill_2 ⟨Nat.le_of_ble_eq_true rfl, Nat.le_of_ble_eq_true rfl⟩)) (fun k_ hk_ => ?_)
  rw [hk_]
  refine lv_astore (lv' := [(5, .ref (ad (3 * i))), (0, .ref (ad 57)), (1, .int (nI i)), (2, .int (nI k)), (3, .int (nI k2)), (4, .int x9)]) hx hb dX4_fill_5 hl (by decide) rfl (fun ls hl => ?_)
  refine lv_iload_n hx hb dX4_fill_7 rfl (lv_at hl 3 rfl) ?_
  refine lv_bipush (v := nI 12) hx hb dX4_fill_8 (by decide) ?_
  refine va_csv (va_Run.run (va_runS (As := [.int (nI k), .int (nI 12)]) (rest := []) ⟨hx, hb, hml, hown, hts⟩ (m_X4_demandWithin l dC dI ad S k 12 (by omega) (by omega)) (va_cwS 2 hts gX4_fill_X4_demandWithin rfl rfl rfl hdX4_demandWithin_2.2 ⟨Nat.le_of_ble_eq_true rfl, Nat.le_of_ble_eq_true rfl⟩) hX.preS rfl rfl hl.1 rfl (lv_room (Nat.le_of_ble_eq_true rfl)) dX4_fill_10 ⟨Nat.le_of_ble_eq_true rfl, Nat.le_of_ble_eq_true rfl⟩)) (fun _ => ?_)
  refine lv_iload_n hx hb dX4_fill_13 rfl (lv_at hl 4 rfl) ?_
  refine lv_bipush (v := nI 99) hx hb dX4_fill_14 (by decide) ?_
  refine va_csv (va_Run.run (va_runS (As := [.int (nI k2), .int (nI 99)]) (rest := []) ⟨hx, hb, hml, hown, hts⟩ (m_X4_demandWithin l dC dI ad S k2 99 (by omega) (by omega)) (va_cwS 2 hts gX4_fill_X4_demandWithin rfl rfl rfl hdX4_demandWithin_2.2 ⟨Nat.le_of_ble_eq_true rfl, Nat.le_of_ble_eq_true rfl⟩) hX.preS rfl rfl hl.1 rfl (lv_room (Nat.le_of_ble_eq_true rfl)) dX4_fill_16 ⟨Nat.le_of_ble_eq_true rfl, Nat.le_of_ble_eq_true rfl⟩)) (fun _ => ?_)
  refine lv_iload hx hb dX4_fill_19 (lv_at hl 5 rfl) ?_
  refine lv_bipush (v := nI 99) hx hb dX4_fill_21 (by decide) ?_
  exact kx_pass (vx_runS (As := [.int x9, .int (nI 99)]) (rest := []) ⟨hx, hb, hml, hown, hts⟩ (t_X4_demandWithin l hst dC dI ad S x9 99 (by omega) hb9) (va_cwS 2 hts gX4_fill_X4_demandWithin rfl rfl rfl hdX4_demandWithin_2.2 ⟨Nat.le_of_ble_eq_true rfl, Nat.le_of_ble_eq_true rfl⟩) hPZ.preS rfl rfl hl.1 rfl (lv_room (Nat.le_of_ble_eq_true rfl)) dX4_fill_23 ⟨Nat.le_of_ble_eq_true rfl, Nat.le_of_ble_eq_true rfl⟩) hPX hex hlocks
set_option maxHeartbeats 4000000 in
set_option maxRecDepth 100000 in
theorem t_X4_drop_1 (l : Launch) (hst : l.stackTraces = false) (dC : Nat → ClassId) (dI : Nat → Nat → Nat) (ad : Nat → Nat) (S : XS) (x9 : Int32) (y1 : Int32) (hb9 : x9 < 0 ∨ nI 3 ≤ x9) : vx_Met l yX4_drop wsX4_drop ({ frames := 8, cells := 1, slots := 6, locals := 123 } : Room) (va_Pc [.ref (ad 57), .int x9, .int y1] (PXZ dC dI ad S)) (fun _ _ _ _ => False) (XQ dC dI ad S IX) 1 6 (fun _ => False) := by
  refine vx_ofW (cc := cX4_drop) (maxL := 5) (ret := (some .int)) (by decide) rfl ?_
  intro p e s m args below meth c s₁ B hml hex hv
  obtain ⟨rfl, hPZ⟩ := hv
  have hPX := hPZ.1
  have hx := B.exec
  have hb := B.bytes
  have hr := B.returns
  have hts := atoms_spec (ws := wsX4_drop) B.pre
  have hown : s.vm.findClass RX4 = some m.cls := findClass_of_methodNamed B.named
  have hlocks := B.notSynchronized
  have hX := WX.of hPX
  have hl := lv_entry ([.ref (ad 57), .int x9, .int y1]) (n := 5) (Nat.le_of_ble_eq_true rfl)
  rw [lg_entry_eq]
  generalize (lg_sl ([.ref (ad 57), .int x9, .int y1]) ++ List.replicate (5 - (lg_sl ([.ref (ad 57), .int x9, .int y1])).length) Slot.unset).toArray = ls at hl ⊢
  have hl : lv_has ls 5 [(0, .ref (ad 57)), (1, .int x9), (2, .int y1)] := hl
  show W p l e ({ frames := 8, cells := 1, slots := 6, locals := 123 } : Room) s m ([.ref (ad 57), .int x9, .int y1]).toArray below meth c s.heap [] 0 0 (vx_MQ below (fun _ _ _ _ => False) (XQ dC dI ad S IX) ([.ref (ad 57), .int x9, .int y1]).toArray s 1 6 (fun _ => False)) (F0 m 0 ls [])
  refine lv_aload_n hx hb dX4_drop_0 rfl (lv_at hl 0 rfl) ?_
  refine lv_iload_n hx hb dX4_drop_1 rfl (lv_at hl 1 rfl) ?_
  exact kx_pass (vx_runV (As := [.int x9]) (rest := []) ⟨hx, hb, hml, hown, hts⟩ (t_X4_rowAt l hst dC dI ad S x9 hb9) (cwV 1 hts gX4_drop_X4_rowAt rfl rfl rfl hdX4_rowAt_1 ⟨Nat.le_of_ble_eq_true rfl, Nat.le_of_ble_eq_true rfl⟩) (hPZ.preX) rfl rfl hl.1 rfl (lv_room (Nat.le_of_ble_eq_true rfl)) dX4_drop_2 ⟨Nat.le_of_ble_eq_true rfl, Nat.le_of_ble_eq_true rfl⟩) hPX hex hlocks
set_option maxHeartbeats 4000000 in
set_option maxRecDepth 100000 in
theorem t_X4_drop_2 (l : Launch) (hst : l.stackTraces = false) (dC : Nat → ClassId) (dI : Nat → Nat → Nat) (ad : Nat → Nat) (S : XS) (i : Nat) (x9 : Int32) (hi : i < 3) (hn : (S.1 i).2.2 ≤ 16) (hb9 : x9 < 0 ∨ nI (S.1 i).2.2 ≤ x9) : vx_Met l yX4_drop wsX4_drop ({ frames := 8, cells := 1, slots := 6, locals := 123 } : Room) (va_Pc [.ref (ad 57), .int (nI i), .int x9] (PXZ dC dI ad S)) (fun _ _ _ _ => False) (XQ dC dI ad S IX) 1 6 (fun _ => False) := by
  refine vx_ofW (cc := cX4_drop) (maxL := 5) (ret := (some .int)) (by decide) rfl ?_
  intro p e s m args below meth c s₁ B hml hex hv
  obtain ⟨rfl, hPZ⟩ := hv
  have hPX := hPZ.1
  have hx := B.exec
  have hb := B.bytes
  have hr := B.returns
  have hts := atoms_spec (ws := wsX4_drop) B.pre
  have hown : s.vm.findClass RX4 = some m.cls := findClass_of_methodNamed B.named
  have hlocks := B.notSynchronized
  have hX := WX.of hPX
  have hl := lv_entry ([.ref (ad 57), .int (nI i), .int x9]) (n := 5) (Nat.le_of_ble_eq_true rfl)
  rw [lg_entry_eq]
  generalize (lg_sl ([.ref (ad 57), .int (nI i), .int x9]) ++ List.replicate (5 - (lg_sl ([.ref (ad 57), .int (nI i), .int x9])).length) Slot.unset).toArray = ls at hl ⊢
  have hl : lv_has ls 5 [(0, .ref (ad 57)), (1, .int (nI i)), (2, .int x9)] := hl
  show W p l e ({ frames := 8, cells := 1, slots := 6, locals := 123 } : Room) s m ([.ref (ad 57), .int (nI i), .int x9]).toArray below meth c s.heap [] 0 0 (vx_MQ below (fun _ _ _ _ => False) (XQ dC dI ad S IX) ([.ref (ad 57), .int (nI i), .int x9]).toArray s 1 6 (fun _ => False)) (F0 m 0 ls [])
  refine lv_aload_n hx hb dX4_drop_0 rfl (lv_at hl 0 rfl) ?_
  refine lv_iload_n hx hb dX4_drop_1 rfl (lv_at hl 1 rfl) ?_
  refine va_csr (va_Run.run (va_runV (As := [.int (nI i)]) (rest := []) ⟨hx, hb, hml, hown, hts⟩ (m_X4_rowAt l dC dI ad S i (by omega)) (cwV 1 hts gX4_drop_X4_rowAt rfl rfl rfl hdX4_rowAt_1 ⟨Nat.le_of_ble_eq_true rfl, Nat.le_of_ble_eq_true rfl⟩) (hX.preTop 57 6 (by decide) (by decide) rfl rfl) rfl rfl hl.1 rfl (lv_room (Nat.le_of_ble_eq_true rfl)) dX4_drop_2 ⟨Nat.le_of_ble_eq_true rfl, Nat.le_of_ble_eq_true rfl⟩)) (fun k_ hk_ => ?_)
  rw [hk_]
  refine lv_astore_n (lv' := [(3, .ref (ad (3 * i))), (0, .ref (ad 57)), (1, .int (nI i)), (2, .int x9)]) hx hb dX4_drop_5 rfl hl (by decide) rfl (fun ls hl => ?_)
  refine lv_aload_n hx hb dX4_drop_6 rfl (lv_at hl 0 rfl) ?_
  refine lv_iload_n hx hb dX4_drop_7 rfl (lv_at hl 3 rfl) ?_
  exact kx_pass (vx_runS (As := [.ref (ad (3 * i)), .int x9]) (rest := []) ⟨hx, hb, hml, hown, hts⟩ (t_X4_demandPlace l hst dC dI ad S i x9 (by omega) (by omega) hb9) (va_cwS 2 hts gX4_drop_X4_demandPlace rfl rfl rfl hdX4_demandPlace_2.2 ⟨Nat.le_of_ble_eq_true rfl, Nat.le_of_ble_eq_true rfl⟩) hPZ.preS rfl rfl hl.1 rfl (lv_room (Nat.le_of_ble_eq_true rfl)) dX4_drop_8 ⟨Nat.le_of_ble_eq_true rfl, Nat.le_of_ble_eq_true rfl⟩) hPX hex hlocks
set_option maxHeartbeats 4000000 in
set_option maxRecDepth 100000 in
theorem t_X4_clear_1 (l : Launch) (hst : l.stackTraces = false) (dC : Nat → ClassId) (dI : Nat → Nat → Nat) (ad : Nat → Nat) (S : XS) (x9 : Int32) (hb9 : x9 < 0 ∨ nI 3 ≤ x9) : vx_Met l yX4_clear wsX4_clear ({ frames := 8, cells := 1, slots := 6, locals := 123 } : Room) (va_Pc [.ref (ad 57), .int x9] (PXZ dC dI ad S)) (fun _ _ _ _ => False) (XQ dC dI ad S IX) 1 6 (fun _ => False) := by
  refine vx_ofW (cc := cX4_clear) (maxL := 4) (ret := (some .int)) (by decide) rfl ?_
  intro p e s m args below meth c s₁ B hml hex hv
  obtain ⟨rfl, hPZ⟩ := hv
  have hPX := hPZ.1
  have hx := B.exec
  have hb := B.bytes
  have hr := B.returns
  have hts := atoms_spec (ws := wsX4_clear) B.pre
  have hown : s.vm.findClass RX4 = some m.cls := findClass_of_methodNamed B.named
  have hlocks := B.notSynchronized
  have hX := WX.of hPX
  have hl := lv_entry ([.ref (ad 57), .int x9]) (n := 4) (Nat.le_of_ble_eq_true rfl)
  rw [lg_entry_eq]
  generalize (lg_sl ([.ref (ad 57), .int x9]) ++ List.replicate (4 - (lg_sl ([.ref (ad 57), .int x9])).length) Slot.unset).toArray = ls at hl ⊢
  have hl : lv_has ls 4 [(0, .ref (ad 57)), (1, .int x9)] := hl
  show W p l e ({ frames := 8, cells := 1, slots := 6, locals := 123 } : Room) s m ([.ref (ad 57), .int x9]).toArray below meth c s.heap [] 0 0 (vx_MQ below (fun _ _ _ _ => False) (XQ dC dI ad S IX) ([.ref (ad 57), .int x9]).toArray s 1 6 (fun _ => False)) (F0 m 0 ls [])
  refine lv_aload_n hx hb dX4_clear_0 rfl (lv_at hl 0 rfl) ?_
  refine lv_iload_n hx hb dX4_clear_1 rfl (lv_at hl 1 rfl) ?_
  exact kx_pass (vx_runV (As := [.int x9]) (rest := []) ⟨hx, hb, hml, hown, hts⟩ (t_X4_rowAt l hst dC dI ad S x9 hb9) (cwV 1 hts gX4_clear_X4_rowAt rfl rfl rfl hdX4_rowAt_1 ⟨Nat.le_of_ble_eq_true rfl, Nat.le_of_ble_eq_true rfl⟩) (hPZ.preX) rfl rfl hl.1 rfl (lv_room (Nat.le_of_ble_eq_true rfl)) dX4_clear_2 ⟨Nat.le_of_ble_eq_true rfl, Nat.le_of_ble_eq_true rfl⟩) hPX hex hlocks
set_option maxHeartbeats 4000000 in
set_option maxRecDepth 100000 in
theorem t_X4_copyRow_1 (l : Launch) (hst : l.stackTraces = false) (dC : Nat → ClassId) (dI : Nat → Nat → Nat) (ad : Nat → Nat) (S : XS) (x9 : Int32) (y1 : Int32) (hb9 : x9 < 0 ∨ nI 3 ≤ x9) : vx_Met l yX4_copyRow wsX4_copyRow ({ frames := 8, cells := 1, slots := 6, locals := 123 } : Room) (va_Pc [.ref (ad 57), .int x9, .int y1] (PXZ dC dI ad S)) (fun _ _ _ _ => False) (XQ dC dI ad S IX) 1 6 (fun _ => False) := by
  refine vx_ofW (cc := cX4_copyRow) (maxL := 5) (ret := (some .int)) (by decide) rfl ?_
  intro p e s m args below meth c s₁ B hml hex hv
  obtain ⟨rfl, hPZ⟩ := hv
  have hPX := hPZ.1
  have hx := B.exec
  have hb := B.bytes
  have hr := B.returns
  have hts := atoms_spec (ws := wsX4_copyRow) B.pre
  have hown : s.vm.findClass RX4 = some m.cls := findClass_of_methodNamed B.named
  have hlocks := B.notSynchronized
  have hX := WX.of hPX
  have hl := lv_entry ([.ref (ad 57), .int x9, .int y1]) (n := 5) (Nat.le_of_ble_eq_true rfl)
  rw [lg_entry_eq]
  generalize (lg_sl ([.ref (ad 57), .int x9, .int y1]) ++ List.replicate (5 - (lg_sl ([.ref (ad 57), .int x9, .int y1])).length) Slot.unset).toArray = ls at hl ⊢
  have hl : lv_has ls 5 [(0, .ref (ad 57)), (1, .int x9), (2, .int y1)] := hl
  show W p l e ({ frames := 8, cells := 1, slots := 6, locals := 123 } : Room) s m ([.ref (ad 57), .int x9, .int y1]).toArray below meth c s.heap [] 0 0 (vx_MQ below (fun _ _ _ _ => False) (XQ dC dI ad S IX) ([.ref (ad 57), .int x9, .int y1]).toArray s 1 6 (fun _ => False)) (F0 m 0 ls [])
  refine lv_aload_n hx hb dX4_copyRow_0 rfl (lv_at hl 0 rfl) ?_
  refine lv_iload_n hx hb dX4_copyRow_1 rfl (lv_at hl 1 rfl) ?_
  exact kx_pass (vx_runV (As := [.int x9]) (rest := []) ⟨hx, hb, hml, hown, hts⟩ (t_X4_rowAt l hst dC dI ad S x9 hb9) (cwV 1 hts gX4_copyRow_X4_rowAt rfl rfl rfl hdX4_rowAt_1 ⟨Nat.le_of_ble_eq_true rfl, Nat.le_of_ble_eq_true rfl⟩) (hPZ.preX) rfl rfl hl.1 rfl (lv_room (Nat.le_of_ble_eq_true rfl)) dX4_copyRow_2 ⟨Nat.le_of_ble_eq_true rfl, Nat.le_of_ble_eq_true rfl⟩) hPX hex hlocks
set_option maxHeartbeats 4000000 in
set_option maxRecDepth 100000 in
theorem t_X4_copyRow_2 (l : Launch) (hst : l.stackTraces = false) (dC : Nat → ClassId) (dI : Nat → Nat → Nat) (ad : Nat → Nat) (S : XS) (i : Nat) (x9 : Int32) (hi : i < 3) (hb9 : x9 < 0 ∨ nI 3 ≤ x9) : vx_Met l yX4_copyRow wsX4_copyRow ({ frames := 8, cells := 1, slots := 6, locals := 123 } : Room) (va_Pc [.ref (ad 57), .int (nI i), .int x9] (PXZ dC dI ad S)) (fun _ _ _ _ => False) (XQ dC dI ad S IX) 1 6 (fun _ => False) := by
  refine vx_ofW (cc := cX4_copyRow) (maxL := 5) (ret := (some .int)) (by decide) rfl ?_
  intro p e s m args below meth c s₁ B hml hex hv
  obtain ⟨rfl, hPZ⟩ := hv
  have hPX := hPZ.1
  have hx := B.exec
  have hb := B.bytes
  have hr := B.returns
  have hts := atoms_spec (ws := wsX4_copyRow) B.pre
  have hown : s.vm.findClass RX4 = some m.cls := findClass_of_methodNamed B.named
  have hlocks := B.notSynchronized
  have hX := WX.of hPX
  have hl := lv_entry ([.ref (ad 57), .int (nI i), .int x9]) (n := 5) (Nat.le_of_ble_eq_true rfl)
  rw [lg_entry_eq]
  generalize (lg_sl ([.ref (ad 57), .int (nI i), .int x9]) ++ List.replicate (5 - (lg_sl ([.ref (ad 57), .int (nI i), .int x9])).length) Slot.unset).toArray = ls at hl ⊢
  have hl : lv_has ls 5 [(0, .ref (ad 57)), (1, .int (nI i)), (2, .int x9)] := hl
  show W p l e ({ frames := 8, cells := 1, slots := 6, locals := 123 } : Room) s m ([.ref (ad 57), .int (nI i), .int x9]).toArray below meth c s.heap [] 0 0 (vx_MQ below (fun _ _ _ _ => False) (XQ dC dI ad S IX) ([.ref (ad 57), .int (nI i), .int x9]).toArray s 1 6 (fun _ => False)) (F0 m 0 ls [])
  refine lv_aload_n hx hb dX4_copyRow_0 rfl (lv_at hl 0 rfl) ?_
  refine lv_iload_n hx hb dX4_copyRow_1 rfl (lv_at hl 1 rfl) ?_
  refine va_csr (va_Run.run (va_runV (As := [.int (nI i)]) (rest := []) ⟨hx, hb, hml, hown, hts⟩ (m_X4_rowAt l dC dI ad S i (by omega)) (cwV 1 hts gX4_copyRow_X4_rowAt rfl rfl rfl hdX4_rowAt_1 ⟨Nat.le_of_ble_eq_true rfl, Nat.le_of_ble_eq_true rfl⟩) (hX.preTop 57 6 (by decide) (by decide) rfl rfl) rfl rfl hl.1 rfl (lv_room (Nat.le_of_ble_eq_true rfl)) dX4_copyRow_2 ⟨Nat.le_of_ble_eq_true rfl, Nat.le_of_ble_eq_true rfl⟩)) (fun k_ hk_ => ?_)
  rw [hk_]
  refine lv_astore_n (lv' := [(3, .ref (ad (3 * i))), (0, .ref (ad 57)), (1, .int (nI i)), (2, .int x9)]) hx hb dX4_copyRow_5 rfl hl (by decide) rfl (fun ls hl => ?_)
  refine lv_aload_n hx hb dX4_copyRow_6 rfl (lv_at hl 1 rfl) ?_
  refine lv_iload_n hx hb dX4_copyRow_7 rfl (lv_at hl 3 rfl) ?_
  exact kx_pass (vx_runV (As := [.int x9]) (rest := []) ⟨hx, hb, hml, hown, hts⟩ (t_X4_rowAt l hst dC dI ad S x9 hb9) (cwV 1 hts gX4_copyRow_X4_rowAt rfl rfl rfl hdX4_rowAt_1 ⟨Nat.le_of_ble_eq_true rfl, Nat.le_of_ble_eq_true rfl⟩) (hPZ.preX) rfl rfl hl.1 rfl (lv_room (Nat.le_of_ble_eq_true rfl)) dX4_copyRow_8 ⟨Nat.le_of_ble_eq_true rfl, Nat.le_of_ble_eq_true rfl⟩) hPX hex hlocks
set_option maxHeartbeats 4000000 in
set_option maxRecDepth 100000 in
theorem t_X4_turnRow_1 (l : Launch) (hst : l.stackTraces = false) (dC : Nat → ClassId) (dI : Nat → Nat → Nat) (ad : Nat → Nat) (S : XS) (x9 : Int32) (hb9 : x9 < 0 ∨ nI 3 ≤ x9) : vx_Met l yX4_turnRow wsX4_turnRow ({ frames := 8, cells := 1, slots := 6, locals := 123 } : Room) (va_Pc [.ref (ad 57), .int x9] (PXZ dC dI ad S)) (fun _ _ _ _ => False) (XQ dC dI ad S IX) 1 6 (fun _ => False) := by
  refine vx_ofW (cc := cX4_turnRow) (maxL := 3) (ret := (some .int)) (by decide) rfl ?_
  intro p e s m args below meth c s₁ B hml hex hv
  obtain ⟨rfl, hPZ⟩ := hv
  have hPX := hPZ.1
  have hx := B.exec
  have hb := B.bytes
  have hr := B.returns
  have hts := atoms_spec (ws := wsX4_turnRow) B.pre
  have hown : s.vm.findClass RX4 = some m.cls := findClass_of_methodNamed B.named
  have hlocks := B.notSynchronized
  have hX := WX.of hPX
  have hl := lv_entry ([.ref (ad 57), .int x9]) (n := 3) (Nat.le_of_ble_eq_true rfl)
  rw [lg_entry_eq]
  generalize (lg_sl ([.ref (ad 57), .int x9]) ++ List.replicate (3 - (lg_sl ([.ref (ad 57), .int x9])).length) Slot.unset).toArray = ls at hl ⊢
  have hl : lv_has ls 3 [(0, .ref (ad 57)), (1, .int x9)] := hl
  show W p l e ({ frames := 8, cells := 1, slots := 6, locals := 123 } : Room) s m ([.ref (ad 57), .int x9]).toArray below meth c s.heap [] 0 0 (vx_MQ below (fun _ _ _ _ => False) (XQ dC dI ad S IX) ([.ref (ad 57), .int x9]).toArray s 1 6 (fun _ => False)) (F0 m 0 ls [])
  refine lv_aload_n hx hb dX4_turnRow_0 rfl (lv_at hl 0 rfl) ?_
  refine lv_iload_n hx hb dX4_turnRow_1 rfl (lv_at hl 1 rfl) ?_
  exact kx_pass (vx_runV (As := [.int x9]) (rest := []) ⟨hx, hb, hml, hown, hts⟩ (t_X4_rowAt l hst dC dI ad S x9 hb9) (cwV 1 hts gX4_turnRow_X4_rowAt rfl rfl rfl hdX4_rowAt_1 ⟨Nat.le_of_ble_eq_true rfl, Nat.le_of_ble_eq_true rfl⟩) (hPZ.preX) rfl rfl hl.1 rfl (lv_room (Nat.le_of_ble_eq_true rfl)) dX4_turnRow_2 ⟨Nat.le_of_ble_eq_true rfl, Nat.le_of_ble_eq_true rfl⟩) hPX hex hlocks
set_option maxHeartbeats 4000000 in
set_option maxRecDepth 100000 in
theorem t_X4_wheel_1 (l : Launch) (hst : l.stackTraces = false) (dC : Nat → ClassId) (dI : Nat → Nat → Nat) (ad : Nat → Nat) (S : XS) (x9 : Int32) (y1 : Int32) (hb9 : x9 < 0 ∨ nI 3 ≤ x9) : vx_Met l yX4_wheel wsX4_wheel ({ frames := 8, cells := 1, slots := 6, locals := 123 } : Room) (va_Pc [.ref (ad 57), .int x9, .int y1] (PXZ dC dI ad S)) (fun _ _ _ _ => False) (XQ dC dI ad S IX) 1 6 (fun _ => False) := by
  refine vx_ofW (cc := cX4_wheel) (maxL := 7) (ret := (some .int)) (by decide) rfl ?_
  intro p e s m args below meth c s₁ B hml hex hv
  obtain ⟨rfl, hPZ⟩ := hv
  have hPX := hPZ.1
  have hx := B.exec
  have hb := B.bytes
  have hr := B.returns
  have hts := atoms_spec (ws := wsX4_wheel) B.pre
  have hown : s.vm.findClass RX4 = some m.cls := findClass_of_methodNamed B.named
  have hlocks := B.notSynchronized
  have hin4 : ∀ w ∈ u_ws RX4 TX4 9, w ∈ wsX4_wheel := tu 1328 (by decide +kernel) rfl
  have hX := WX.of hPX
  have hl := lv_entry ([.ref (ad 57), .int x9, .int y1]) (n := 7) (Nat.le_of_ble_eq_true rfl)
  rw [lg_entry_eq]
  generalize (lg_sl ([.ref (ad 57), .int x9, .int y1]) ++ List.replicate (7 - (lg_sl ([.ref (ad 57), .int x9, .int y1])).length) Slot.unset).toArray = ls at hl ⊢
  have hl : lv_has ls 7 [(0, .ref (ad 57)), (1, .int x9), (2, .int y1)] := hl
  show W p l e ({ frames := 8, cells := 1, slots := 6, locals := 123 } : Room) s m ([.ref (ad 57), .int x9, .int y1]).toArray below meth c s.heap [] 0 0 (vx_MQ below (fun _ _ _ _ => False) (XQ dC dI ad S IX) ([.ref (ad 57), .int x9, .int y1]).toArray s 1 6 (fun _ => False)) (F0 m 0 ls [])
  refine lv_aload_n hx hb dX4_wheel_0 rfl (lv_at hl 0 rfl) ?_
  refine lv_iload_n hx hb dX4_wheel_1 rfl (lv_at hl 1 rfl) ?_
  exact kx_pass (vx_runV (As := [.int x9]) (rest := []) ⟨hx, hb, hml, hown, hts⟩ (t_X4_rowAt l hst dC dI ad S x9 hb9) (cwV 1 hts gX4_wheel_X4_rowAt rfl rfl rfl hdX4_rowAt_1 ⟨Nat.le_of_ble_eq_true rfl, Nat.le_of_ble_eq_true rfl⟩) (hPZ.preX) rfl rfl hl.1 rfl (lv_room (Nat.le_of_ble_eq_true rfl)) dX4_wheel_2 ⟨Nat.le_of_ble_eq_true rfl, Nat.le_of_ble_eq_true rfl⟩) hPX hex hlocks
set_option maxHeartbeats 4000000 in
set_option maxRecDepth 100000 in
theorem t_X4_swap_1 (l : Launch) (hst : l.stackTraces = false) (dC : Nat → ClassId) (dI : Nat → Nat → Nat) (ad : Nat → Nat) (S : XS) (x9 : Int32) (y1 : Int32) (y2 : Int32) (hb9 : x9 < 0 ∨ nI 3 ≤ x9) : vx_Met l yX4_swap wsX4_swap ({ frames := 8, cells := 1, slots := 6, locals := 123 } : Room) (va_Pc [.ref (ad 57), .int x9, .int y1, .int y2] (PXZ dC dI ad S)) (fun _ _ _ _ => False) (XQ dC dI ad S IX) 1 6 (fun _ => False) := by
  refine vx_ofW (cc := cX4_swap) (maxL := 5) (ret := (some .int)) (by decide) rfl ?_
  intro p e s m args below meth c s₁ B hml hex hv
  obtain ⟨rfl, hPZ⟩ := hv
  have hPX := hPZ.1
  have hx := B.exec
  have hb := B.bytes
  have hr := B.returns
  have hts := atoms_spec (ws := wsX4_swap) B.pre
  have hown : s.vm.findClass RX4 = some m.cls := findClass_of_methodNamed B.named
  have hlocks := B.notSynchronized
  have hX := WX.of hPX
  have hl := lv_entry ([.ref (ad 57), .int x9, .int y1, .int y2]) (n := 5) (Nat.le_of_ble_eq_true rfl)
  rw [lg_entry_eq]
  generalize (lg_sl ([.ref (ad 57), .int x9, .int y1, .int y2]) ++ List.replicate (5 - (lg_sl ([.ref (ad 57), .int x9, .int y1, .int y2])).length) Slot.unset).toArray = ls at hl ⊢
  have hl : lv_has ls 5 [(0, .ref (ad 57)), (1, .int x9), (2, .int y1), (3, .int y2)] := hl
  show W p l e ({ frames := 8, cells := 1, slots := 6, locals := 123 } : Room) s m ([.ref (ad 57), .int x9, .int y1, .int y2]).toArray below meth c s.heap [] 0 0 (vx_MQ below (fun _ _ _ _ => False) (XQ dC dI ad S IX) ([.ref (ad 57), .int x9, .int y1, .int y2]).toArray s 1 6 (fun _ => False)) (F0 m 0 ls [])
  refine lv_aload_n hx hb dX4_swap_0 rfl (lv_at hl 0 rfl) ?_
  refine lv_iload_n hx hb dX4_swap_1 rfl (lv_at hl 1 rfl) ?_
  exact kx_pass (vx_runV (As := [.int x9]) (rest := []) ⟨hx, hb, hml, hown, hts⟩ (t_X4_rowAt l hst dC dI ad S x9 hb9) (cwV 1 hts gX4_swap_X4_rowAt rfl rfl rfl hdX4_rowAt_1 ⟨Nat.le_of_ble_eq_true rfl, Nat.le_of_ble_eq_true rfl⟩) (hPZ.preX) rfl rfl hl.1 rfl (lv_room (Nat.le_of_ble_eq_true rfl)) dX4_swap_2 ⟨Nat.le_of_ble_eq_true rfl, Nat.le_of_ble_eq_true rfl⟩) hPX hex hlocks
set_option maxHeartbeats 4000000 in
set_option maxRecDepth 100000 in
theorem t_X4_swap_2 (l : Launch) (hst : l.stackTraces = false) (dC : Nat → ClassId) (dI : Nat → Nat → Nat) (ad : Nat → Nat) (S : XS) (i : Nat) (x9 : Int32) (y2 : Int32) (hi : i < 3) (hn : (S.1 i).2.2 ≤ 16) (hb9 : x9 < 0 ∨ nI (S.1 i).2.2 ≤ x9) : vx_Met l yX4_swap wsX4_swap ({ frames := 8, cells := 1, slots := 6, locals := 123 } : Room) (va_Pc [.ref (ad 57), .int (nI i), .int x9, .int y2] (PXZ dC dI ad S)) (fun _ _ _ _ => False) (XQ dC dI ad S IX) 1 6 (fun _ => False) := by
  refine vx_ofW (cc := cX4_swap) (maxL := 5) (ret := (some .int)) (by decide) rfl ?_
  intro p e s m args below meth c s₁ B hml hex hv
  obtain ⟨rfl, hPZ⟩ := hv
  have hPX := hPZ.1
  have hx := B.exec
  have hb := B.bytes
  have hr := B.returns
  have hts := atoms_spec (ws := wsX4_swap) B.pre
  have hown : s.vm.findClass RX4 = some m.cls := findClass_of_methodNamed B.named
  have hlocks := B.notSynchronized
  have hX := WX.of hPX
  have hl := lv_entry ([.ref (ad 57), .int (nI i), .int x9, .int y2]) (n := 5) (Nat.le_of_ble_eq_true rfl)
  rw [lg_entry_eq]
  generalize (lg_sl ([.ref (ad 57), .int (nI i), .int x9, .int y2]) ++ List.replicate (5 - (lg_sl ([.ref (ad 57), .int (nI i), .int x9, .int y2])).length) Slot.unset).toArray = ls at hl ⊢
  have hl : lv_has ls 5 [(0, .ref (ad 57)), (1, .int (nI i)), (2, .int x9), (3, .int y2)] := hl
  show W p l e ({ frames := 8, cells := 1, slots := 6, locals := 123 } : Room) s m ([.ref (ad 57), .int (nI i), .int x9, .int y2]).toArray below meth c s.heap [] 0 0 (vx_MQ below (fun _ _ _ _ => False) (XQ dC dI ad S IX) ([.ref (ad 57), .int (nI i), .int x9, .int y2]).toArray s 1 6 (fun _ => False)) (F0 m 0 ls [])
  refine lv_aload_n hx hb dX4_swap_0 rfl (lv_at hl 0 rfl) ?_
  refine lv_iload_n hx hb dX4_swap_1 rfl (lv_at hl 1 rfl) ?_
  refine va_csr (va_Run.run (va_runV (As := [.int (nI i)]) (rest := []) ⟨hx, hb, hml, hown, hts⟩ (m_X4_rowAt l dC dI ad S i (by omega)) (cwV 1 hts gX4_swap_X4_rowAt rfl rfl rfl hdX4_rowAt_1 ⟨Nat.le_of_ble_eq_true rfl, Nat.le_of_ble_eq_true rfl⟩) (hX.preTop 57 6 (by decide) (by decide) rfl rfl) rfl rfl hl.1 rfl (lv_room (Nat.le_of_ble_eq_true rfl)) dX4_swap_2 ⟨Nat.le_of_ble_eq_true rfl, Nat.le_of_ble_eq_true rfl⟩)) (fun k_ hk_ => ?_)
  rw [hk_]
  refine lv_astore (lv' := [(4, .ref (ad (3 * i))), (0, .ref (ad 57)), (1, .int (nI i)), (2, .int x9), (3, .int y2)]) hx hb dX4_swap_5 hl (by decide) rfl (fun ls hl => ?_)
  refine lv_aload hx hb dX4_swap_7 (lv_at hl 0 rfl) ?_
  refine lv_iload_n hx hb dX4_swap_9 rfl (lv_at hl 3 rfl) ?_
  exact kx_pass (vx_runS (As := [.ref (ad (3 * i)), .int x9]) (rest := []) ⟨hx, hb, hml, hown, hts⟩ (t_X4_demandPlace l hst dC dI ad S i x9 (by omega) (by omega) hb9) (va_cwS 2 hts gX4_swap_X4_demandPlace rfl rfl rfl hdX4_demandPlace_2.2 ⟨Nat.le_of_ble_eq_true rfl, Nat.le_of_ble_eq_true rfl⟩) hPZ.preS rfl rfl hl.1 rfl (lv_room (Nat.le_of_ble_eq_true rfl)) dX4_swap_10 ⟨Nat.le_of_ble_eq_true rfl, Nat.le_of_ble_eq_true rfl⟩) hPX hex hlocks
set_option maxHeartbeats 4000000 in
set_option maxRecDepth 100000 in
theorem t_X4_swap_3 (l : Launch) (hst : l.stackTraces = false) (dC : Nat → ClassId) (dI : Nat → Nat → Nat) (ad : Nat → Nat) (S : XS) (i : Nat) (q : Nat) (x9 : Int32) (hi : i < 3) (hq : q < (S.1 i).2.2) (hn : (S.1 i).2.2 ≤ 16) (hb9 : x9 < 0 ∨ nI (S.1 i).2.2 ≤ x9) : vx_Met l yX4_swap wsX4_swap ({ frames := 8, cells := 1, slots := 6, locals := 123 } : Room) (va_Pc [.ref (ad 57), .int (nI i), .int (nI q), .int x9] (PXZ dC dI ad S)) (fun _ _ _ _ => False) (XQ dC dI ad S IX) 1 6 (fun _ => False) := by
  refine vx_ofW (cc := cX4_swap) (maxL := 5) (ret := (some .int)) (by decide) rfl ?_
  intro p e s m args below meth c s₁ B hml hex hv
  obtain ⟨rfl, hPZ⟩ := hv
  have hPX := hPZ.1
  have hx := B.exec
  have hb := B.bytes
  have hr := B.returns
  have hts := atoms_spec (ws := wsX4_swap) B.pre
  have hown : s.vm.findClass RX4 = some m.cls := findClass_of_methodNamed B.named
  have hlocks := B.notSynchronized
  have hX := WX.of hPX
  have hl := lv_entry ([.ref (ad 57), .int (nI i), .int (nI q), .int x9]) (n := 5) (Nat.le_of_ble_eq_true rfl)
  rw [lg_entry_eq]
  generalize (lg_sl ([.ref (ad 57), .int (nI i), .int (nI q), .int x9]) ++ List.replicate (5 - (lg_sl ([.ref (ad 57), .int (nI i), .int (nI q), .int x9])).length) Slot.unset).toArray = ls at hl ⊢
  have hl : lv_has ls 5 [(0, .ref (ad 57)), (1, .int (nI i)), (2, .int (nI q)), (3, .int x9)] := hl
  show W p l e ({ frames := 8, cells := 1, slots := 6, locals := 123 } : Room) s m ([.ref (ad 57), .int (nI i), .int (nI q), .int x9]).toArray below meth c s.heap [] 0 0 (vx_MQ below (fun _ _ _ _ => False) (XQ dC dI ad S IX) ([.ref (ad 57), .int (nI i), .int (nI q), .int x9]).toArray s 1 6 (fun _ => False)) (F0 m 0 ls [])
  refine lv_aload_n hx hb dX4_swap_0 rfl (lv_at hl 0 rfl) ?_
  refine lv_iload_n hx hb dX4_swap_1 rfl (lv_at hl 1 rfl) ?_
  refine va_csr (va_Run.run (va_runV (As := [.int (nI i)]) (rest := []) ⟨hx, hb, hml, hown, hts⟩ (m_X4_rowAt l dC dI ad S i (by omega)) (cwV 1 hts gX4_swap_X4_rowAt rfl rfl rfl hdX4_rowAt_1 ⟨Nat.le_of_ble_eq_true rfl, Nat.le_of_ble_eq_true rfl⟩) (hX.preTop 57 6 (by decide) (by decide) rfl rfl) rfl rfl hl.1 rfl (lv_room (Nat.le_of_ble_eq_true rfl)) dX4_swap_2 ⟨Nat.le_of_ble_eq_true rfl, Nat.le_of_ble_eq_true rfl⟩)) (fun k_ hk_ => ?_)
  rw [hk_]
  refine lv_astore (lv' := [(4, .ref (ad (3 * i))), (0, .ref (ad 57)), (1, .int (nI i)), (2, .int (nI q)), (3, .int x9)]) hx hb dX4_swap_5 hl (by decide) rfl (fun ls hl => ?_)
  refine lv_aload hx hb dX4_swap_7 (lv_at hl 0 rfl) ?_
  refine lv_iload_n hx hb dX4_swap_9 rfl (lv_at hl 3 rfl) ?_
  refine va_csv (va_Run.run (va_runS (As := [.ref (ad (3 * i)), .int (nI q)]) (rest := []) ⟨hx, hb, hml, hown, hts⟩ (m_X4_demandPlace l dC dI ad S i q (by omega) (by omega) (by omega)) (va_cwS 2 hts gX4_swap_X4_demandPlace rfl rfl rfl hdX4_demandPlace_2.2 ⟨Nat.le_of_ble_eq_true rfl, Nat.le_of_ble_eq_true rfl⟩) hX.preS rfl rfl hl.1 rfl (lv_room (Nat.le_of_ble_eq_true rfl)) dX4_swap_10 ⟨Nat.le_of_ble_eq_true rfl, Nat.le_of_ble_eq_true rfl⟩)) (fun _ => ?_)
  refine lv_aload hx hb dX4_swap_13 (lv_at hl 0 rfl) ?_
  refine lv_iload_n hx hb dX4_swap_15 rfl (lv_at hl 4 rfl) ?_
  exact kx_pass (vx_runS (As := [.ref (ad (3 * i)), .int x9]) (rest := []) ⟨hx, hb, hml, hown, hts⟩ (t_X4_demandPlace l hst dC dI ad S i x9 (by omega) (by omega) hb9) (va_cwS 2 hts gX4_swap_X4_demandPlace rfl rfl rfl hdX4_demandPlace_2.2 ⟨Nat.le_of_ble_eq_true rfl, Nat.le_of_ble_eq_true rfl⟩) hPZ.preS rfl rfl hl.1 rfl (lv_room (Nat.le_of_ble_eq_true rfl)) dX4_swap_16 ⟨Nat.le_of_ble_eq_true rfl, Nat.le_of_ble_eq_true rfl⟩) hPX hex hlocks
set_option maxHeartbeats 4000000 in
set_option maxRecDepth 100000 in
theorem t_X4_sort_1 (l : Launch) (hst : l.stackTraces = false) (dC : Nat → ClassId) (dI : Nat → Nat → Nat) (ad : Nat → Nat) (S : XS) (x9 : Int32) (y1 : Int32) (y2 : Int32) (hb9 : x9 < 0 ∨ nI 3 ≤ x9) : vx_Met l yX4_sort wsX4_sort ({ frames := 8, cells := 1, slots := 6, locals := 123 } : Room) (va_Pc [.ref (ad 57), .int x9, .int y1, .int y2] (PXZ dC dI ad S)) (fun _ _ _ _ => False) (XQ dC dI ad S IX) 1 6 (fun _ => False) := by
  refine vx_ofW (cc := cX4_sort) (maxL := 6) (ret := (some .int)) (by decide) rfl ?_
  intro p e s m args below meth c s₁ B hml hex hv
  obtain ⟨rfl, hPZ⟩ := hv
  have hPX := hPZ.1
  have hx := B.exec
  have hb := B.bytes
  have hr := B.returns
  have hts := atoms_spec (ws := wsX4_sort) B.pre
  have hown : s.vm.findClass RX4 = some m.cls := findClass_of_methodNamed B.named
  have hlocks := B.notSynchronized
  have hin4 : ∀ w ∈ u_ws RX4 TX4 9, w ∈ wsX4_sort := tu 1328 (by decide +kernel) rfl
  have hX := WX.of hPX
  have hl := lv_entry ([.ref (ad 57), .int x9, .int y1, .int y2]) (n := 6) (Nat.le_of_ble_eq_true rfl)
  rw [lg_entry_eq]
  generalize (lg_sl ([.ref (ad 57), .int x9, .int y1, .int y2]) ++ List.replicate (6 - (lg_sl ([.ref (ad 57), .int x9, .int y1, .int y2])).length) Slot.unset).toArray = ls at hl ⊢
  have hl : lv_has ls 6 [(0, .ref (ad 57)), (1, .int x9), (2, .int y1), (3, .int y2)] := hl
  show W p l e ({ frames := 8, cells := 1, slots := 6, locals := 123 } : Room) s m ([.ref (ad 57), .int x9, .int y1, .int y2]).toArray below meth c s.heap [] 0 0 (vx_MQ below (fun _ _ _ _ => False) (XQ dC dI ad S IX) ([.ref (ad 57), .int x9, .int y1, .int y2]).toArray s 1 6 (fun _ => False)) (F0 m 0 ls [])
  refine lv_aload_n hx hb dX4_sort_0 rfl (lv_at hl 0 rfl) ?_
  refine lv_iload_n hx hb dX4_sort_1 rfl (lv_at hl 1 rfl) ?_
  exact kx_pass (vx_runV (As := [.int x9]) (rest := []) ⟨hx, hb, hml, hown, hts⟩ (t_X4_rowAt l hst dC dI ad S x9 hb9) (cwV 1 hts gX4_sort_X4_rowAt rfl rfl rfl hdX4_rowAt_1 ⟨Nat.le_of_ble_eq_true rfl, Nat.le_of_ble_eq_true rfl⟩) (hPZ.preX) rfl rfl hl.1 rfl (lv_room (Nat.le_of_ble_eq_true rfl)) dX4_sort_2 ⟨Nat.le_of_ble_eq_true rfl, Nat.le_of_ble_eq_true rfl⟩) hPX hex hlocks
set_option maxHeartbeats 4000000 in
set_option maxRecDepth 100000 in
theorem t_X4_sort_2 (l : Launch) (hst : l.stackTraces = false) (dC : Nat → ClassId) (dI : Nat → Nat → Nat) (ad : Nat → Nat) (S : XS) (i : Nat) (x9 : Int32) (y2 : Int32) (hi : i < 3) (hb9 : x9 < 0 ∨ nI 4 ≤ x9) : vx_Met l yX4_sort wsX4_sort ({ frames := 8, cells := 1, slots := 6, locals := 123 } : Room) (va_Pc [.ref (ad 57), .int (nI i), .int x9, .int y2] (PXZ dC dI ad S)) (fun _ _ _ _ => False) (XQ dC dI ad S IX) 1 6 (fun _ => False) := by
  refine vx_ofW (cc := cX4_sort) (maxL := 6) (ret := (some .int)) (by decide) rfl ?_
  intro p e s m args below meth c s₁ B hml hex hv
  obtain ⟨rfl, hPZ⟩ := hv
  have hPX := hPZ.1
  have hx := B.exec
  have hb := B.bytes
  have hr := B.returns
  have hts := atoms_spec (ws := wsX4_sort) B.pre
  have hown : s.vm.findClass RX4 = some m.cls := findClass_of_methodNamed B.named
  have hlocks := B.notSynchronized
  have hin4 : ∀ w ∈ u_ws RX4 TX4 9, w ∈ wsX4_sort := tu 1328 (by decide +kernel) rfl
  have hX := WX.of hPX
  have hl := lv_entry ([.ref (ad 57), .int (nI i), .int x9, .int y2]) (n := 6) (Nat.le_of_ble_eq_true rfl)
  rw [lg_entry_eq]
  generalize (lg_sl ([.ref (ad 57), .int (nI i), .int x9, .int y2]) ++ List.replicate (6 - (lg_sl ([.ref (ad 57), .int (nI i), .int x9, .int y2])).length) Slot.unset).toArray = ls at hl ⊢
  have hl : lv_has ls 6 [(0, .ref (ad 57)), (1, .int (nI i)), (2, .int x9), (3, .int y2)] := hl
  show W p l e ({ frames := 8, cells := 1, slots := 6, locals := 123 } : Room) s m ([.ref (ad 57), .int (nI i), .int x9, .int y2]).toArray below meth c s.heap [] 0 0 (vx_MQ below (fun _ _ _ _ => False) (XQ dC dI ad S IX) ([.ref (ad 57), .int (nI i), .int x9, .int y2]).toArray s 1 6 (fun _ => False)) (F0 m 0 ls [])
  refine lv_aload_n hx hb dX4_sort_0 rfl (lv_at hl 0 rfl) ?_
  refine lv_iload_n hx hb dX4_sort_1 rfl (lv_at hl 1 rfl) ?_
  refine va_csr (va_Run.run (va_runV (As := [.int (nI i)]) (rest := []) ⟨hx, hb, hml, hown, hts⟩ (m_X4_rowAt l dC dI ad S i (by omega)) (cwV 1 hts gX4_sort_X4_rowAt rfl rfl rfl hdX4_rowAt_1 ⟨Nat.le_of_ble_eq_true rfl, Nat.le_of_ble_eq_true rfl⟩) (hX.preTop 57 6 (by decide) (by decide) rfl rfl) rfl rfl hl.1 rfl (lv_room (Nat.le_of_ble_eq_true rfl)) dX4_sort_2 ⟨Nat.le_of_ble_eq_true rfl, Nat.le_of_ble_eq_true rfl⟩)) (fun k_ hk_ => ?_)
  rw [hk_]
  refine lv_astore (lv' := [(4, .ref (ad (3 * i))), (0, .ref (ad 57)), (1, .int (nI i)), (2, .int x9), (3, .int y2)]) hx hb dX4_sort_5 hl (by decide) rfl (fun ls hl => ?_)
  refine lv_aload_n hx hb dX4_sort_7 rfl (lv_at hl 1 rfl) ?_
  refine lv_iload_n hx hb dX4_sort_8 rfl (lv_at hl 3 rfl) ?_
  exact kx_pass (vx_runV (As := [.int x9]) (rest := []) ⟨hx, hb, hml, hown, hts⟩ (t_X4_orderAt l hst dC dI ad S x9 hb9) (cwV 1 hts gX4_sort_X4_orderAt rfl rfl rfl hdX4_orderAt_1 ⟨Nat.le_of_ble_eq_true rfl, Nat.le_of_ble_eq_true rfl⟩) (hPZ.preX) rfl rfl hl.1 rfl (lv_room (Nat.le_of_ble_eq_true rfl)) dX4_sort_9 ⟨Nat.le_of_ble_eq_true rfl, Nat.le_of_ble_eq_true rfl⟩) hPX hex hlocks
set_option maxHeartbeats 4000000 in
set_option maxRecDepth 100000 in
theorem t_X4_sort_3 (l : Launch) (hst : l.stackTraces = false) (dC : Nat → ClassId) (dI : Nat → Nat → Nat) (ad : Nat → Nat) (S : XS) (i : Nat) (j : Nat) (x9 : Int32) (hi : i < 3) (hj : j < 4) (hb9 : x9 < 0 ∨ nI 2 < x9) : vx_Met l yX4_sort wsX4_sort ({ frames := 8, cells := 1, slots := 6, locals := 123 } : Room) (va_Pc [.ref (ad 57), .int (nI i), .int (nI j), .int x9] (PXZ dC dI ad S)) (fun _ _ _ _ => False) (XQ dC dI ad S IA) 1 6 (fun _ => False) := by
  refine vx_ofW (cc := cX4_sort) (maxL := 6) (ret := (some .int)) (by decide) rfl ?_
  intro p e s m args below meth c s₁ B hml hex hv
  obtain ⟨rfl, hPZ⟩ := hv
  have hPX := hPZ.1
  have hx := B.exec
  have hb := B.bytes
  have hr := B.returns
  have hts := atoms_spec (ws := wsX4_sort) B.pre
  have hown : s.vm.findClass RX4 = some m.cls := findClass_of_methodNamed B.named
  have hlocks := B.notSynchronized
  have hin4 : ∀ w ∈ u_ws RX4 TX4 9, w ∈ wsX4_sort := tu 1328 (by decide +kernel) rfl
  have hX := WX.of hPX
  have hl := lv_entry ([.ref (ad 57), .int (nI i), .int (nI j), .int x9]) (n := 6) (Nat.le_of_ble_eq_true rfl)
  rw [lg_entry_eq]
  generalize (lg_sl ([.ref (ad 57), .int (nI i), .int (nI j), .int x9]) ++ List.replicate (6 - (lg_sl ([.ref (ad 57), .int (nI i), .int (nI j), .int x9])).length) Slot.unset).toArray = ls at hl ⊢
  have hl : lv_has ls 6 [(0, .ref (ad 57)), (1, .int (nI i)), (2, .int (nI j)), (3, .int x9)] := hl
  show W p l e ({ frames := 8, cells := 1, slots := 6, locals := 123 } : Room) s m ([.ref (ad 57), .int (nI i), .int (nI j), .int x9]).toArray below meth c s.heap [] 0 0 (vx_MQ below (fun _ _ _ _ => False) (XQ dC dI ad S IA) ([.ref (ad 57), .int (nI i), .int (nI j), .int x9]).toArray s 1 6 (fun _ => False)) (F0 m 0 ls [])
  refine lv_aload_n hx hb dX4_sort_0 rfl (lv_at hl 0 rfl) ?_
  refine lv_iload_n hx hb dX4_sort_1 rfl (lv_at hl 1 rfl) ?_
  refine va_csr (va_Run.run (va_runV (As := [.int (nI i)]) (rest := []) ⟨hx, hb, hml, hown, hts⟩ (m_X4_rowAt l dC dI ad S i (by omega)) (cwV 1 hts gX4_sort_X4_rowAt rfl rfl rfl hdX4_rowAt_1 ⟨Nat.le_of_ble_eq_true rfl, Nat.le_of_ble_eq_true rfl⟩) (hX.preTop 57 6 (by decide) (by decide) rfl rfl) rfl rfl hl.1 rfl (lv_room (Nat.le_of_ble_eq_true rfl)) dX4_sort_2 ⟨Nat.le_of_ble_eq_true rfl, Nat.le_of_ble_eq_true rfl⟩)) (fun k_ hk_ => ?_)
  rw [hk_]
  refine lv_astore (lv' := [(4, .ref (ad (3 * i))), (0, .ref (ad 57)), (1, .int (nI i)), (2, .int (nI j)), (3, .int x9)]) hx hb dX4_sort_5 hl (by decide) rfl (fun ls hl => ?_)
  refine lv_aload_n hx hb dX4_sort_7 rfl (lv_at hl 1 rfl) ?_
  refine lv_iload_n hx hb dX4_sort_8 rfl (lv_at hl 3 rfl) ?_
  refine va_csr (va_Run.run (va_runV (As := [.int (nI j)]) (rest := []) ⟨hx, hb, hml, hown, hts⟩ (m_X4_orderAt l dC dI ad S j (by omega)) (cwV 1 hts gX4_sort_X4_orderAt rfl rfl rfl hdX4_orderAt_1 ⟨Nat.le_of_ble_eq_true rfl, Nat.le_of_ble_eq_true rfl⟩) (hX.preTop 57 6 (by decide) (by decide) rfl rfl) rfl rfl hl.1 rfl (lv_room (Nat.le_of_ble_eq_true rfl)) dX4_sort_9 ⟨Nat.le_of_ble_eq_true rfl, Nat.le_of_ble_eq_true rfl⟩)) (fun k_ hk_ => ?_)
  rw [hk_]
  refine lv_astore (lv' := [(5, .ref (ad (24 + 5 * j))), (4, .ref (ad (3 * i))), (0, .ref (ad 57)), (1, .int (nI i)), (2, .int (nI j)), (3, .int x9)]) hx hb dX4_sort_12 hl (by decide) rfl (fun ls hl => ?_)
  refine lv_iload_n hx hb dX4_sort_14 rfl (lv_at hl 5 rfl) ?_
  refine lv_iconst (v := nI 2) hx hb dX4_sort_15 (by decide) ?_
  exact kx_pass (vx_runS (As := [.int x9, .int (nI 2)]) (rest := []) ⟨hx, hb, hml, hown, hts⟩ (t_X4_demandWithin l hst dC dI ad S x9 2 (by omega) hb9) (va_cwS 2 hts gX4_sort_X4_demandWithin rfl rfl rfl hdX4_demandWithin_2.2 ⟨Nat.le_of_ble_eq_true rfl, Nat.le_of_ble_eq_true rfl⟩) hPZ.preS rfl rfl hl.1 rfl (lv_room (Nat.le_of_ble_eq_true rfl)) dX4_sort_16 ⟨Nat.le_of_ble_eq_true rfl, Nat.le_of_ble_eq_true rfl⟩) hPX hex hlocks
set_option maxHeartbeats 4000000 in
set_option maxRecDepth 100000 in
theorem t_X4_sortPart_1 (l : Launch) (hst : l.stackTraces = false) (dC : Nat → ClassId) (dI : Nat → Nat → Nat) (ad : Nat → Nat) (S : XS) (x9 : Int32) (y1 : Int32) (y2 : Int32) (y3 : Int32) (hb9 : x9 < 0 ∨ nI 3 ≤ x9) : vx_Met l yX4_sortPart wsX4_sortPart ({ frames := 8, cells := 1, slots := 6, locals := 123 } : Room) (va_Pc [.ref (ad 57), .int x9, .int y1, .int y2, .int y3] (PXZ dC dI ad S)) (fun _ _ _ _ => False) (XQ dC dI ad S IX) 1 6 (fun _ => False) := by
  refine vx_ofW (cc := cX4_sortPart) (maxL := 7) (ret := (some .int)) (by decide) rfl ?_
  intro p e s m args below meth c s₁ B hml hex hv
  obtain ⟨rfl, hPZ⟩ := hv
  have hPX := hPZ.1
  have hx := B.exec
  have hb := B.bytes
  have hr := B.returns
  have hts := atoms_spec (ws := wsX4_sortPart) B.pre
  have hown : s.vm.findClass RX4 = some m.cls := findClass_of_methodNamed B.named
  have hlocks := B.notSynchronized
  have hin4 : ∀ w ∈ u_ws RX4 TX4 9, w ∈ wsX4_sortPart := tu 1328 (by decide +kernel) rfl
  have hX := WX.of hPX
  have hl := lv_entry ([.ref (ad 57), .int x9, .int y1, .int y2, .int y3]) (n := 7) (Nat.le_of_ble_eq_true rfl)
  rw [lg_entry_eq]
  generalize (lg_sl ([.ref (ad 57), .int x9, .int y1, .int y2, .int y3]) ++ List.replicate (7 - (lg_sl ([.ref (ad 57), .int x9, .int y1, .int y2, .int y3])).length) Slot.unset).toArray = ls at hl ⊢
  have hl : lv_has ls 7 [(0, .ref (ad 57)), (1, .int x9), (2, .int y1), (3, .int y2), (4, .int y3)] := hl
  show W p l e ({ frames := 8, cells := 1, slots := 6, locals := 123 } : Room) s m ([.ref (ad 57), .int x9, .int y1, .int y2, .int y3]).toArray below meth c s.heap [] 0 0 (vx_MQ below (fun _ _ _ _ => False) (XQ dC dI ad S IX) ([.ref (ad 57), .int x9, .int y1, .int y2, .int y3]).toArray s 1 6 (fun _ => False)) (F0 m 0 ls [])
  refine lv_aload_n hx hb dX4_sortPart_0 rfl (lv_at hl 0 rfl) ?_
  refine lv_iload_n hx hb dX4_sortPart_1 rfl (lv_at hl 1 rfl) ?_
  exact kx_pass (vx_runV (As := [.int x9]) (rest := []) ⟨hx, hb, hml, hown, hts⟩ (t_X4_rowAt l hst dC dI ad S x9 hb9) (cwV 1 hts gX4_sortPart_X4_rowAt rfl rfl rfl hdX4_rowAt_1 ⟨Nat.le_of_ble_eq_true rfl, Nat.le_of_ble_eq_true rfl⟩) (hPZ.preX) rfl rfl hl.1 rfl (lv_room (Nat.le_of_ble_eq_true rfl)) dX4_sortPart_2 ⟨Nat.le_of_ble_eq_true rfl, Nat.le_of_ble_eq_true rfl⟩) hPX hex hlocks
set_option maxHeartbeats 4000000 in
set_option maxRecDepth 100000 in
theorem t_X4_sortPart_2 (l : Launch) (hst : l.stackTraces = false) (dC : Nat → ClassId) (dI : Nat → Nat → Nat) (ad : Nat → Nat) (S : XS) (i : Nat) (x9 : Int32) (y2 : Int32) (y3 : Int32) (hi : i < 3) (hb9 : x9 < 0 ∨ nI 4 ≤ x9) : vx_Met l yX4_sortPart wsX4_sortPart ({ frames := 8, cells := 1, slots := 6, locals := 123 } : Room) (va_Pc [.ref (ad 57), .int (nI i), .int x9, .int y2, .int y3] (PXZ dC dI ad S)) (fun _ _ _ _ => False) (XQ dC dI ad S IX) 1 6 (fun _ => False) := by
  refine vx_ofW (cc := cX4_sortPart) (maxL := 7) (ret := (some .int)) (by decide) rfl ?_
  intro p e s m args below meth c s₁ B hml hex hv
  obtain ⟨rfl, hPZ⟩ := hv
  have hPX := hPZ.1
  have hx := B.exec
  have hb := B.bytes
  have hr := B.returns
  have hts := atoms_spec (ws := wsX4_sortPart) B.pre
  have hown : s.vm.findClass RX4 = some m.cls := findClass_of_methodNamed B.named
  have hlocks := B.notSynchronized
  have hin4 : ∀ w ∈ u_ws RX4 TX4 9, w ∈ wsX4_sortPart := tu 1328 (by decide +kernel) rfl
  have hX := WX.of hPX
  have hl := lv_entry ([.ref (ad 57), .int (nI i), .int x9, .int y2, .int y3]) (n := 7) (Nat.le_of_ble_eq_true rfl)
  rw [lg_entry_eq]
  generalize (lg_sl ([.ref (ad 57), .int (nI i), .int x9, .int y2, .int y3]) ++ List.replicate (7 - (lg_sl ([.ref (ad 57), .int (nI i), .int x9, .int y2, .int y3])).length) Slot.unset).toArray = ls at hl ⊢
  have hl : lv_has ls 7 [(0, .ref (ad 57)), (1, .int (nI i)), (2, .int x9), (3, .int y2), (4, .int y3)] := hl
  show W p l e ({ frames := 8, cells := 1, slots := 6, locals := 123 } : Room) s m ([.ref (ad 57), .int (nI i), .int x9, .int y2, .int y3]).toArray below meth c s.heap [] 0 0 (vx_MQ below (fun _ _ _ _ => False) (XQ dC dI ad S IX) ([.ref (ad 57), .int (nI i), .int x9, .int y2, .int y3]).toArray s 1 6 (fun _ => False)) (F0 m 0 ls [])
  refine lv_aload_n hx hb dX4_sortPart_0 rfl (lv_at hl 0 rfl) ?_
  refine lv_iload_n hx hb dX4_sortPart_1 rfl (lv_at hl 1 rfl) ?_
  refine va_csr (va_Run.run (va_runV (As := [.int (nI i)]) (rest := []) ⟨hx, hb, hml, hown, hts⟩ (m_X4_rowAt l dC dI ad S i (by omega)) (cwV 1 hts gX4_sortPart_X4_rowAt rfl rfl rfl hdX4_rowAt_1 ⟨Nat.le_of_ble_eq_true rfl, Nat.le_of_ble_eq_true rfl⟩) (hX.preTop 57 6 (by decide) (by decide) rfl rfl) rfl rfl hl.1 rfl (lv_room (Nat.le_of_ble_eq_true rfl)) dX4_sortPart_2 ⟨Nat.le_of_ble_eq_true rfl, Nat.le_of_ble_eq_true rfl⟩)) (fun k_ hk_ => ?_)
  rw [hk_]
  refine lv_astore (lv' := [(5, .ref (ad (3 * i))), (0, .ref (ad 57)), (1, .int (nI i)), (2, .int x9), (3, .int y2), (4, .int y3)]) hx hb dX4_sortPart_5 hl (by decide) rfl (fun ls hl => ?_)
  refine lv_aload_n hx hb dX4_sortPart_7 rfl (lv_at hl 1 rfl) ?_
  refine lv_iload_n hx hb dX4_sortPart_8 rfl (lv_at hl 3 rfl) ?_
  exact kx_pass (vx_runV (As := [.int x9]) (rest := []) ⟨hx, hb, hml, hown, hts⟩ (t_X4_orderAt l hst dC dI ad S x9 hb9) (cwV 1 hts gX4_sortPart_X4_orderAt rfl rfl rfl hdX4_orderAt_1 ⟨Nat.le_of_ble_eq_true rfl, Nat.le_of_ble_eq_true rfl⟩) (hPZ.preX) rfl rfl hl.1 rfl (lv_room (Nat.le_of_ble_eq_true rfl)) dX4_sortPart_9 ⟨Nat.le_of_ble_eq_true rfl, Nat.le_of_ble_eq_true rfl⟩) hPX hex hlocks
set_option maxHeartbeats 4000000 in
set_option maxRecDepth 100000 in
theorem t_X4_sortPart_3 (l : Launch) (hst : l.stackTraces = false) (dC : Nat → ClassId) (dI : Nat → Nat → Nat) (ad : Nat → Nat) (S : XS) (i : Nat) (j : Nat) (x9 : Int32) (y3 : Int32) (hi : i < 3) (hj : j < 4) (hn : (S.1 i).2.2 ≤ 16) (hb9 : x9 < 0 ∨ nI (S.1 i).2.2 < x9) : vx_Met l yX4_sortPart wsX4_sortPart ({ frames := 8, cells := 1, slots := 6, locals := 123 } : Room) (va_Pc [.ref (ad 57), .int (nI i), .int (nI j), .int x9, .int y3] (PXZ dC dI ad S)) (fun _ _ _ _ => False) (XQ dC dI ad S IX) 1 6 (fun _ => False) := by
  refine vx_ofW (cc := cX4_sortPart) (maxL := 7) (ret := (some .int)) (by decide) rfl ?_
  intro p e s m args below meth c s₁ B hml hex hv
  obtain ⟨rfl, hPZ⟩ := hv
  have hPX := hPZ.1
  have hx := B.exec
  have hb := B.bytes
  have hr := B.returns
  have hts := atoms_spec (ws := wsX4_sortPart) B.pre
  have hown : s.vm.findClass RX4 = some m.cls := findClass_of_methodNamed B.named
  have hlocks := B.notSynchronized
  have hin4 : ∀ w ∈ u_ws RX4 TX4 9, w ∈ wsX4_sortPart := tu 1328 (by decide +kernel) rfl
  have hX := WX.of hPX
  have hl := lv_entry ([.ref (ad 57), .int (nI i), .int (nI j), .int x9, .int y3]) (n := 7) (Nat.le_of_ble_eq_true rfl)
  rw [lg_entry_eq]
  generalize (lg_sl ([.ref (ad 57), .int (nI i), .int (nI j), .int x9, .int y3]) ++ List.replicate (7 - (lg_sl ([.ref (ad 57), .int (nI i), .int (nI j), .int x9, .int y3])).length) Slot.unset).toArray = ls at hl ⊢
  have hl : lv_has ls 7 [(0, .ref (ad 57)), (1, .int (nI i)), (2, .int (nI j)), (3, .int x9), (4, .int y3)] := hl
  show W p l e ({ frames := 8, cells := 1, slots := 6, locals := 123 } : Room) s m ([.ref (ad 57), .int (nI i), .int (nI j), .int x9, .int y3]).toArray below meth c s.heap [] 0 0 (vx_MQ below (fun _ _ _ _ => False) (XQ dC dI ad S IX) ([.ref (ad 57), .int (nI i), .int (nI j), .int x9, .int y3]).toArray s 1 6 (fun _ => False)) (F0 m 0 ls [])
  refine lv_aload_n hx hb dX4_sortPart_0 rfl (lv_at hl 0 rfl) ?_
  refine lv_iload_n hx hb dX4_sortPart_1 rfl (lv_at hl 1 rfl) ?_
  refine va_csr (va_Run.run (va_runV (As := [.int (nI i)]) (rest := []) ⟨hx, hb, hml, hown, hts⟩ (m_X4_rowAt l dC dI ad S i (by omega)) (cwV 1 hts gX4_sortPart_X4_rowAt rfl rfl rfl hdX4_rowAt_1 ⟨Nat.le_of_ble_eq_true rfl, Nat.le_of_ble_eq_true rfl⟩) (hX.preTop 57 6 (by decide) (by decide) rfl rfl) rfl rfl hl.1 rfl (lv_room (Nat.le_of_ble_eq_true rfl)) dX4_sortPart_2 ⟨Nat.le_of_ble_eq_true rfl, Nat.le_of_ble_eq_true rfl⟩)) (fun k_ hk_ => ?_)
  rw [hk_]
  refine lv_astore (lv' := [(5, .ref (ad (3 * i))), (0, .ref (ad 57)), (1, .int (nI i)), (2, .int (nI j)), (3, .int x9), (4, .int y3)]) hx hb dX4_sortPart_5 hl (by decide) rfl (fun ls hl => ?_)
  refine lv_aload_n hx hb dX4_sortPart_7 rfl (lv_at hl 1 rfl) ?_
  refine lv_iload_n hx hb dX4_sortPart_8 rfl (lv_at hl 3 rfl) ?_
  refine va_csr (va_Run.run (va_runV (As := [.int (nI j)]) (rest := []) ⟨hx, hb, hml, hown, hts⟩ (m_X4_orderAt l dC dI ad S j (by omega)) (cwV 1 hts gX4_sortPart_X4_orderAt rfl rfl rfl hdX4_orderAt_1 ⟨Nat.le_of_ble_eq_true rfl, Nat.le_of_ble_eq_true rfl⟩) (hX.preTop 57 6 (by decide) (by decide) rfl rfl) rfl rfl hl.1 rfl (lv_room (Nat.le_of_ble_eq_true rfl)) dX4_sortPart_9 ⟨Nat.le_of_ble_eq_true rfl, Nat.le_of_ble_eq_true rfl⟩)) (fun k_ hk_ => ?_)
  rw [hk_]
  refine lv_astore (lv' := [(6, .ref (ad (24 + 5 * j))), (5, .ref (ad (3 * i))), (0, .ref (ad 57)), (1, .int (nI i)), (2, .int (nI j)), (3, .int x9), (4, .int y3)]) hx hb dX4_sortPart_12 hl (by decide) rfl (fun ls hl => ?_)
  refine lv_aload hx hb dX4_sortPart_14 (lv_at hl 1 rfl) ?_
  refine lv_iload_n hx hb dX4_sortPart_16 rfl (lv_at hl 5 rfl) ?_
  exact kx_pass (vx_runS (As := [.ref (ad (3 * i)), .int x9]) (rest := []) ⟨hx, hb, hml, hown, hts⟩ (t_X4_demandGap l hst dC dI ad S i x9 (by omega) (by omega) hb9) (va_cwS 2 hts gX4_sortPart_X4_demandGap rfl rfl rfl hdX4_demandGap_2.2 ⟨Nat.le_of_ble_eq_true rfl, Nat.le_of_ble_eq_true rfl⟩) hPZ.preS rfl rfl hl.1 rfl (lv_room (Nat.le_of_ble_eq_true rfl)) dX4_sortPart_17 ⟨Nat.le_of_ble_eq_true rfl, Nat.le_of_ble_eq_true rfl⟩) hPX hex hlocks
set_option maxHeartbeats 4000000 in
set_option maxRecDepth 100000 in
theorem t_X4_sortPart_4 (l : Launch) (hst : l.stackTraces = false) (dC : Nat → ClassId) (dI : Nat → Nat → Nat) (ad : Nat → Nat) (S : XS) (i : Nat) (j : Nat) (q : Nat) (x9 : Int32) (hi : i < 3) (hj : j < 4) (hq : q ≤ (S.1 i).2.2) (hn : (S.1 i).2.2 ≤ 16) (hb9 : x9 < 0 ∨ nI (S.1 i).2.2 < x9) : vx_Met l yX4_sortPart wsX4_sortPart ({ frames := 8, cells := 1, slots := 6, locals := 123 } : Room) (va_Pc [.ref (ad 57), .int (nI i), .int (nI j), .int (nI q), .int x9] (PXZ dC dI ad S)) (fun _ _ _ _ => False) (XQ dC dI ad S IX) 1 6 (fun _ => False) := by
  refine vx_ofW (cc := cX4_sortPart) (maxL := 7) (ret := (some .int)) (by decide) rfl ?_
  intro p e s m args below meth c s₁ B hml hex hv
  obtain ⟨rfl, hPZ⟩ := hv
  have hPX := hPZ.1
  have hx := B.exec
  have hb := B.bytes
  have hr := B.returns
  have hts := atoms_spec (ws := wsX4_sortPart) B.pre
  have hown : s.vm.findClass RX4 = some m.cls := findClass_of_methodNamed B.named
  have hlocks := B.notSynchronized
  have hin4 : ∀ w ∈ u_ws RX4 TX4 9, w ∈ wsX4_sortPart := tu 1328 (by decide +kernel) rfl
  have hX := WX.of hPX
  have hl := lv_entry ([.ref (ad 57), .int (nI i), .int (nI j), .int (nI q), .int x9]) (n := 7) (Nat.le_of_ble_eq_true rfl)
  rw [lg_entry_eq]
  generalize (lg_sl ([.ref (ad 57), .int (nI i), .int (nI j), .int (nI q), .int x9]) ++ List.replicate (7 - (lg_sl ([.ref (ad 57), .int (nI i), .int (nI j), .int (nI q), .int x9])).length) Slot.unset).toArray = ls at hl ⊢
  have hl : lv_has ls 7 [(0, .ref (ad 57)), (1, .int (nI i)), (2, .int (nI j)), (3, .int (nI q)), (4, .int x9)] := hl
  show W p l e ({ frames := 8, cells := 1, slots := 6, locals := 123 } : Room) s m ([.ref (ad 57), .int (nI i), .int (nI j), .int (nI q), .int x9]).toArray below meth c s.heap [] 0 0 (vx_MQ below (fun _ _ _ _ => False) (XQ dC dI ad S IX) ([.ref (ad 57), .int (nI i), .int (nI j), .int (nI q), .int x9]).toArray s 1 6 (fun _ => False)) (F0 m 0 ls [])
  refine lv_aload_n hx hb dX4_sortPart_0 rfl (lv_at hl 0 rfl) ?_
  refine lv_iload_n hx hb dX4_sortPart_1 rfl (lv_at hl 1 rfl) ?_
  refine va_csr (va_Run.run (va_runV (As := [.int (nI i)]) (rest := []) ⟨hx, hb, hml, hown, hts⟩ (m_X4_rowAt l dC dI ad S i (by omega)) (cwV 1 hts gX4_sortPart_X4_rowAt rfl rfl rfl hdX4_rowAt_1 ⟨Nat.le_of_ble_eq_true rfl, Nat.le_of_ble_eq_true rfl⟩) (hX.preTop 57 6 (by decide) (by decide) rfl rfl) rfl rfl hl.1 rfl (lv_room (Nat.le_of_ble_eq_true rfl)) dX4_sortPart_2 ⟨Nat.le_of_ble_eq_true rfl, Nat.le_of_ble_eq_true rfl⟩)) (fun k_ hk_ => ?_)
  rw [hk_]
  refine lv_astore (lv' := [(5, .ref (ad (3 * i))), (0, .ref (ad 57)), (1, .int (nI i)), (2, .int (nI j)), (3, .int (nI q)), (4, .int x9)]) hx hb dX4_sortPart_5 hl (by decide) rfl (fun ls hl => ?_)
  refine lv_aload_n hx hb dX4_sortPart_7 rfl (lv_at hl 1 rfl) ?_
  refine lv_iload_n hx hb dX4_sortPart_8 rfl (lv_at hl 3 rfl) ?_
  refine va_csr (va_Run.run (va_runV (As := [.int (nI j)]) (rest := []) ⟨hx, hb, hml, hown, hts⟩ (m_X4_orderAt l dC dI ad S j (by omega)) (cwV 1 hts gX4_sortPart_X4_orderAt rfl rfl rfl hdX4_orderAt_1 ⟨Nat.le_of_ble_eq_true rfl, Nat.le_of_ble_eq_true rfl⟩) (hX.preTop 57 6 (by decide) (by decide) rfl rfl) rfl rfl hl.1 rfl (lv_room (Nat.le_of_ble_eq_true rfl)) dX4_sortPart_9 ⟨Nat.le_of_ble_eq_true rfl, Nat.le_of_ble_eq_true rfl⟩)) (fun k_ hk_ => ?_)
  rw [hk_]
  refine lv_astore (lv' := [(6, .ref (ad (24 + 5 * j))), (5, .ref (ad (3 * i))), (0, .ref (ad 57)), (1, .int (nI i)), (2, .int (nI j)), (3, .int (nI q)), (4, .int x9)]) hx hb dX4_sortPart_12 hl (by decide) rfl (fun ls hl => ?_)
  refine lv_aload hx hb dX4_sortPart_14 (lv_at hl 1 rfl) ?_
  refine lv_iload_n hx hb dX4_sortPart_16 rfl (lv_at hl 5 rfl) ?_
  refine va_csv (va_Run.run (va_runS (As := [.ref (ad (3 * i)), .int (nI q)]) (rest := []) ⟨hx, hb, hml, hown, hts⟩ (m_X4_demandGap l dC dI ad S i q (by omega) (by omega) (by omega)) (va_cwS 2 hts gX4_sortPart_X4_demandGap rfl rfl rfl hdX4_demandGap_2.2 ⟨Nat.le_of_ble_eq_true rfl, Nat.le_of_ble_eq_true rfl⟩) hX.preS rfl rfl hl.1 rfl (lv_room (Nat.le_of_ble_eq_true rfl)) dX4_sortPart_17 ⟨Nat.le_of_ble_eq_true rfl, Nat.le_of_ble_eq_true rfl⟩)) (fun _ => ?_)
  refine lv_aload hx hb dX4_sortPart_20 (lv_at hl 1 rfl) ?_
  refine lv_iload hx hb dX4_sortPart_22 (lv_at hl 6 rfl) ?_
  exact kx_pass (vx_runS (As := [.ref (ad (3 * i)), .int x9]) (rest := []) ⟨hx, hb, hml, hown, hts⟩ (t_X4_demandGap l hst dC dI ad S i x9 (by omega) (by omega) hb9) (va_cwS 2 hts gX4_sortPart_X4_demandGap rfl rfl rfl hdX4_demandGap_2.2 ⟨Nat.le_of_ble_eq_true rfl, Nat.le_of_ble_eq_true rfl⟩) hPZ.preS rfl rfl hl.1 rfl (lv_room (Nat.le_of_ble_eq_true rfl)) dX4_sortPart_24 ⟨Nat.le_of_ble_eq_true rfl, Nat.le_of_ble_eq_true rfl⟩) hPX hex hlocks
set_option maxHeartbeats 4000000 in
set_option maxRecDepth 100000 in
theorem t_X4_isSorted_1 (l : Launch) (hst : l.stackTraces = false) (dC : Nat → ClassId) (dI : Nat → Nat → Nat) (ad : Nat → Nat) (S : XS) (x9 : Int32) (y1 : Int32) (hb9 : x9 < 0 ∨ nI 3 ≤ x9) : vx_Met l yX4_isSorted wsX4_isSorted ({ frames := 8, cells := 1, slots := 6, locals := 123 } : Room) (va_Pc [.ref (ad 57), .int x9, .int y1] (PXZ dC dI ad S)) (fun _ _ _ _ => False) (XQ dC dI ad S IX) 1 6 (fun _ => False) := by
  refine vx_ofW (cc := cX4_isSorted) (maxL := 4) (ret := (some .boolean)) (by decide) rfl ?_
  intro p e s m args below meth c s₁ B hml hex hv
  obtain ⟨rfl, hPZ⟩ := hv
  have hPX := hPZ.1
  have hx := B.exec
  have hb := B.bytes
  have hr := B.returns
  have hts := atoms_spec (ws := wsX4_isSorted) B.pre
  have hown : s.vm.findClass RX4 = some m.cls := findClass_of_methodNamed B.named
  have hlocks := B.notSynchronized
  have hX := WX.of hPX
  have hl := lv_entry ([.ref (ad 57), .int x9, .int y1]) (n := 4) (Nat.le_of_ble_eq_true rfl)
  rw [lg_entry_eq]
  generalize (lg_sl ([.ref (ad 57), .int x9, .int y1]) ++ List.replicate (4 - (lg_sl ([.ref (ad 57), .int x9, .int y1])).length) Slot.unset).toArray = ls at hl ⊢
  have hl : lv_has ls 4 [(0, .ref (ad 57)), (1, .int x9), (2, .int y1)] := hl
  show W p l e ({ frames := 8, cells := 1, slots := 6, locals := 123 } : Room) s m ([.ref (ad 57), .int x9, .int y1]).toArray below meth c s.heap [] 0 0 (vx_MQ below (fun _ _ _ _ => False) (XQ dC dI ad S IX) ([.ref (ad 57), .int x9, .int y1]).toArray s 1 6 (fun _ => False)) (F0 m 0 ls [])
  refine lv_aload_n hx hb dX4_isSorted_0 rfl (lv_at hl 0 rfl) ?_
  refine lv_iload_n hx hb dX4_isSorted_1 rfl (lv_at hl 1 rfl) ?_
  exact kx_pass (vx_runV (As := [.int x9]) (rest := []) ⟨hx, hb, hml, hown, hts⟩ (t_X4_rowAt l hst dC dI ad S x9 hb9) (cwV 1 hts gX4_isSorted_X4_rowAt rfl rfl rfl hdX4_rowAt_1 ⟨Nat.le_of_ble_eq_true rfl, Nat.le_of_ble_eq_true rfl⟩) (hPZ.preX) rfl rfl hl.1 rfl (lv_room (Nat.le_of_ble_eq_true rfl)) dX4_isSorted_2 ⟨Nat.le_of_ble_eq_true rfl, Nat.le_of_ble_eq_true rfl⟩) hPX hex hlocks
set_option maxHeartbeats 4000000 in
set_option maxRecDepth 100000 in
theorem t_X4_isSorted_2 (l : Launch) (hst : l.stackTraces = false) (dC : Nat → ClassId) (dI : Nat → Nat → Nat) (ad : Nat → Nat) (S : XS) (i : Nat) (x9 : Int32) (hi : i < 3) (hb9 : x9 < 0 ∨ nI 4 ≤ x9) : vx_Met l yX4_isSorted wsX4_isSorted ({ frames := 8, cells := 1, slots := 6, locals := 123 } : Room) (va_Pc [.ref (ad 57), .int (nI i), .int x9] (PXZ dC dI ad S)) (fun _ _ _ _ => False) (XQ dC dI ad S IX) 1 6 (fun _ => False) := by
  refine vx_ofW (cc := cX4_isSorted) (maxL := 4) (ret := (some .boolean)) (by decide) rfl ?_
  intro p e s m args below meth c s₁ B hml hex hv
  obtain ⟨rfl, hPZ⟩ := hv
  have hPX := hPZ.1
  have hx := B.exec
  have hb := B.bytes
  have hr := B.returns
  have hts := atoms_spec (ws := wsX4_isSorted) B.pre
  have hown : s.vm.findClass RX4 = some m.cls := findClass_of_methodNamed B.named
  have hlocks := B.notSynchronized
  have hX := WX.of hPX
  have hl := lv_entry ([.ref (ad 57), .int (nI i), .int x9]) (n := 4) (Nat.le_of_ble_eq_true rfl)
  rw [lg_entry_eq]
  generalize (lg_sl ([.ref (ad 57), .int (nI i), .int x9]) ++ List.replicate (4 - (lg_sl ([.ref (ad 57), .int (nI i), .int x9])).length) Slot.unset).toArray = ls at hl ⊢
  have hl : lv_has ls 4 [(0, .ref (ad 57)), (1, .int (nI i)), (2, .int x9)] := hl
  show W p l e ({ frames := 8, cells := 1, slots := 6, locals := 123 } : Room) s m ([.ref (ad 57), .int (nI i), .int x9]).toArray below meth c s.heap [] 0 0 (vx_MQ below (fun _ _ _ _ => False) (XQ dC dI ad S IX) ([.ref (ad 57), .int (nI i), .int x9]).toArray s 1 6 (fun _ => False)) (F0 m 0 ls [])
  refine lv_aload_n hx hb dX4_isSorted_0 rfl (lv_at hl 0 rfl) ?_
  refine lv_iload_n hx hb dX4_isSorted_1 rfl (lv_at hl 1 rfl) ?_
  refine va_csr (va_Run.run (va_runV (As := [.int (nI i)]) (rest := []) ⟨hx, hb, hml, hown, hts⟩ (m_X4_rowAt l dC dI ad S i (by omega)) (cwV 1 hts gX4_isSorted_X4_rowAt rfl rfl rfl hdX4_rowAt_1 ⟨Nat.le_of_ble_eq_true rfl, Nat.le_of_ble_eq_true rfl⟩) (hX.preTop 57 6 (by decide) (by decide) rfl rfl) rfl rfl hl.1 rfl (lv_room (Nat.le_of_ble_eq_true rfl)) dX4_isSorted_2 ⟨Nat.le_of_ble_eq_true rfl, Nat.le_of_ble_eq_true rfl⟩)) (fun k_ hk_ => ?_)
  rw [hk_]
  refine lv_astore_n (lv' := [(3, .ref (ad (3 * i))), (0, .ref (ad 57)), (1, .int (nI i)), (2, .int x9)]) hx hb dX4_isSorted_5 rfl hl (by decide) rfl (fun ls hl => ?_)
  refine lv_aload_n hx hb dX4_isSorted_6 rfl (lv_at hl 0 rfl) ?_
  refine lv_aload_n hx hb dX4_isSorted_7 rfl (lv_at hl 1 rfl) ?_
  refine lv_iload_n hx hb dX4_isSorted_8 rfl (lv_at hl 3 rfl) ?_
  exact kx_pass (vx_runV (As := [.int x9]) (rest := [.ref (ad (3 * i))]) ⟨hx, hb, hml, hown, hts⟩ (t_X4_orderAt l hst dC dI ad S x9 hb9) (cwV 1 hts gX4_isSorted_X4_orderAt rfl rfl rfl hdX4_orderAt_1 ⟨Nat.le_of_ble_eq_true rfl, Nat.le_of_ble_eq_true rfl⟩) (hPZ.preX) rfl rfl hl.1 rfl (lv_room (Nat.le_of_ble_eq_true rfl)) dX4_isSorted_9 ⟨Nat.le_of_ble_eq_true rfl, Nat.le_of_ble_eq_true rfl⟩) hPX hex hlocks
set_option maxHeartbeats 4000000 in
set_option maxRecDepth 100000 in
theorem t_X4_size_1 (l : Launch) (hst : l.stackTraces = false) (dC : Nat → ClassId) (dI : Nat → Nat → Nat) (ad : Nat → Nat) (S : XS) (x9 : Int32) (hb9 : x9 < 0 ∨ nI 3 ≤ x9) : vx_Met l yX4_size wsX4_size ({ frames := 8, cells := 1, slots := 6, locals := 123 } : Room) (va_Pc [.ref (ad 57), .int x9] (PXZ dC dI ad S)) (fun _ _ _ _ => False) (XQ dC dI ad S IX) 1 6 (fun _ => False) := by
  refine vx_ofW (cc := cX4_size) (maxL := 2) (ret := (some .int)) (by decide) rfl ?_
  intro p e s m args below meth c s₁ B hml hex hv
  obtain ⟨rfl, hPZ⟩ := hv
  have hPX := hPZ.1
  have hx := B.exec
  have hb := B.bytes
  have hr := B.returns
  have hts := atoms_spec (ws := wsX4_size) B.pre
  have hown : s.vm.findClass RX4 = some m.cls := findClass_of_methodNamed B.named
  have hlocks := B.notSynchronized
  have hX := WX.of hPX
  have hl := lv_entry ([.ref (ad 57), .int x9]) (n := 2) (Nat.le_of_ble_eq_true rfl)
  rw [lg_entry_eq]
  generalize (lg_sl ([.ref (ad 57), .int x9]) ++ List.replicate (2 - (lg_sl ([.ref (ad 57), .int x9])).length) Slot.unset).toArray = ls at hl ⊢
  have hl : lv_has ls 2 [(0, .ref (ad 57)), (1, .int x9)] := hl
  show W p l e ({ frames := 8, cells := 1, slots := 6, locals := 123 } : Room) s m ([.ref (ad 57), .int x9]).toArray below meth c s.heap [] 0 0 (vx_MQ below (fun _ _ _ _ => False) (XQ dC dI ad S IX) ([.ref (ad 57), .int x9]).toArray s 1 6 (fun _ => False)) (F0 m 0 ls [])
  refine lv_aload_n hx hb dX4_size_0 rfl (lv_at hl 0 rfl) ?_
  refine lv_iload_n hx hb dX4_size_1 rfl (lv_at hl 1 rfl) ?_
  exact kx_pass (vx_runV (As := [.int x9]) (rest := []) ⟨hx, hb, hml, hown, hts⟩ (t_X4_rowAt l hst dC dI ad S x9 hb9) (cwV 1 hts gX4_size_X4_rowAt rfl rfl rfl hdX4_rowAt_1 ⟨Nat.le_of_ble_eq_true rfl, Nat.le_of_ble_eq_true rfl⟩) (hPZ.preX) rfl rfl hl.1 rfl (lv_room (Nat.le_of_ble_eq_true rfl)) dX4_size_2 ⟨Nat.le_of_ble_eq_true rfl, Nat.le_of_ble_eq_true rfl⟩) hPX hex hlocks
set_option maxHeartbeats 4000000 in
set_option maxRecDepth 100000 in
theorem t_X4_valueAt_1 (l : Launch) (hst : l.stackTraces = false) (dC : Nat → ClassId) (dI : Nat → Nat → Nat) (ad : Nat → Nat) (S : XS) (x9 : Int32) (y1 : Int32) (hb9 : x9 < 0 ∨ nI 3 ≤ x9) : vx_Met l yX4_valueAt wsX4_valueAt ({ frames := 8, cells := 1, slots := 6, locals := 123 } : Room) (va_Pc [.ref (ad 57), .int x9, .int y1] (PXZ dC dI ad S)) (fun _ _ _ _ => False) (XQ dC dI ad S IX) 1 6 (fun _ => False) := by
  refine vx_ofW (cc := cX4_valueAt) (maxL := 4) (ret := (some .int)) (by decide) rfl ?_
  intro p e s m args below meth c s₁ B hml hex hv
  obtain ⟨rfl, hPZ⟩ := hv
  have hPX := hPZ.1
  have hx := B.exec
  have hb := B.bytes
  have hr := B.returns
  have hts := atoms_spec (ws := wsX4_valueAt) B.pre
  have hown : s.vm.findClass RX4 = some m.cls := findClass_of_methodNamed B.named
  have hlocks := B.notSynchronized
  have hX := WX.of hPX
  have hl := lv_entry ([.ref (ad 57), .int x9, .int y1]) (n := 4) (Nat.le_of_ble_eq_true rfl)
  rw [lg_entry_eq]
  generalize (lg_sl ([.ref (ad 57), .int x9, .int y1]) ++ List.replicate (4 - (lg_sl ([.ref (ad 57), .int x9, .int y1])).length) Slot.unset).toArray = ls at hl ⊢
  have hl : lv_has ls 4 [(0, .ref (ad 57)), (1, .int x9), (2, .int y1)] := hl
  show W p l e ({ frames := 8, cells := 1, slots := 6, locals := 123 } : Room) s m ([.ref (ad 57), .int x9, .int y1]).toArray below meth c s.heap [] 0 0 (vx_MQ below (fun _ _ _ _ => False) (XQ dC dI ad S IX) ([.ref (ad 57), .int x9, .int y1]).toArray s 1 6 (fun _ => False)) (F0 m 0 ls [])
  refine lv_aload_n hx hb dX4_valueAt_0 rfl (lv_at hl 0 rfl) ?_
  refine lv_iload_n hx hb dX4_valueAt_1 rfl (lv_at hl 1 rfl) ?_
  exact kx_pass (vx_runV (As := [.int x9]) (rest := []) ⟨hx, hb, hml, hown, hts⟩ (t_X4_rowAt l hst dC dI ad S x9 hb9) (cwV 1 hts gX4_valueAt_X4_rowAt rfl rfl rfl hdX4_rowAt_1 ⟨Nat.le_of_ble_eq_true rfl, Nat.le_of_ble_eq_true rfl⟩) (hPZ.preX) rfl rfl hl.1 rfl (lv_room (Nat.le_of_ble_eq_true rfl)) dX4_valueAt_2 ⟨Nat.le_of_ble_eq_true rfl, Nat.le_of_ble_eq_true rfl⟩) hPX hex hlocks
set_option maxHeartbeats 4000000 in
set_option maxRecDepth 100000 in
theorem t_X4_valueAt_2 (l : Launch) (hst : l.stackTraces = false) (dC : Nat → ClassId) (dI : Nat → Nat → Nat) (ad : Nat → Nat) (S : XS) (i : Nat) (x9 : Int32) (hi : i < 3) (hn : (S.1 i).2.2 ≤ 16) (hb9 : x9 < 0 ∨ nI (S.1 i).2.2 ≤ x9) : vx_Met l yX4_valueAt wsX4_valueAt ({ frames := 8, cells := 1, slots := 6, locals := 123 } : Room) (va_Pc [.ref (ad 57), .int (nI i), .int x9] (PXZ dC dI ad S)) (fun _ _ _ _ => False) (XQ dC dI ad S IX) 1 6 (fun _ => False) := by
  refine vx_ofW (cc := cX4_valueAt) (maxL := 4) (ret := (some .int)) (by decide) rfl ?_
  intro p e s m args below meth c s₁ B hml hex hv
  obtain ⟨rfl, hPZ⟩ := hv
  have hPX := hPZ.1
  have hx := B.exec
  have hb := B.bytes
  have hr := B.returns
  have hts := atoms_spec (ws := wsX4_valueAt) B.pre
  have hown : s.vm.findClass RX4 = some m.cls := findClass_of_methodNamed B.named
  have hlocks := B.notSynchronized
  have hX := WX.of hPX
  have hl := lv_entry ([.ref (ad 57), .int (nI i), .int x9]) (n := 4) (Nat.le_of_ble_eq_true rfl)
  rw [lg_entry_eq]
  generalize (lg_sl ([.ref (ad 57), .int (nI i), .int x9]) ++ List.replicate (4 - (lg_sl ([.ref (ad 57), .int (nI i), .int x9])).length) Slot.unset).toArray = ls at hl ⊢
  have hl : lv_has ls 4 [(0, .ref (ad 57)), (1, .int (nI i)), (2, .int x9)] := hl
  show W p l e ({ frames := 8, cells := 1, slots := 6, locals := 123 } : Room) s m ([.ref (ad 57), .int (nI i), .int x9]).toArray below meth c s.heap [] 0 0 (vx_MQ below (fun _ _ _ _ => False) (XQ dC dI ad S IX) ([.ref (ad 57), .int (nI i), .int x9]).toArray s 1 6 (fun _ => False)) (F0 m 0 ls [])
  refine lv_aload_n hx hb dX4_valueAt_0 rfl (lv_at hl 0 rfl) ?_
  refine lv_iload_n hx hb dX4_valueAt_1 rfl (lv_at hl 1 rfl) ?_
  refine va_csr (va_Run.run (va_runV (As := [.int (nI i)]) (rest := []) ⟨hx, hb, hml, hown, hts⟩ (m_X4_rowAt l dC dI ad S i (by omega)) (cwV 1 hts gX4_valueAt_X4_rowAt rfl rfl rfl hdX4_rowAt_1 ⟨Nat.le_of_ble_eq_true rfl, Nat.le_of_ble_eq_true rfl⟩) (hX.preTop 57 6 (by decide) (by decide) rfl rfl) rfl rfl hl.1 rfl (lv_room (Nat.le_of_ble_eq_true rfl)) dX4_valueAt_2 ⟨Nat.le_of_ble_eq_true rfl, Nat.le_of_ble_eq_true rfl⟩)) (fun k_ hk_ => ?_)
  rw [hk_]
  refine lv_astore_n (lv' := [(3, .ref (ad (3 * i))), (0, .ref (ad 57)), (1, .int (nI i)), (2, .int x9)]) hx hb dX4_valueAt_5 rfl hl (by decide) rfl (fun ls hl => ?_)
  refine lv_aload_n hx hb dX4_valueAt_6 rfl (lv_at hl 0 rfl) ?_
  refine lv_iload_n hx hb dX4_valueAt_7 rfl (lv_at hl 3 rfl) ?_
  exact kx_pass (vx_runS (As := [.ref (ad (3 * i)), .int x9]) (rest := []) ⟨hx, hb, hml, hown, hts⟩ (t_X4_demandPlace l hst dC dI ad S i x9 (by omega) (by omega) hb9) (va_cwS 2 hts gX4_valueAt_X4_demandPlace rfl rfl rfl hdX4_demandPlace_2.2 ⟨Nat.le_of_ble_eq_true rfl, Nat.le_of_ble_eq_true rfl⟩) hPZ.preS rfl rfl hl.1 rfl (lv_room (Nat.le_of_ble_eq_true rfl)) dX4_valueAt_8 ⟨Nat.le_of_ble_eq_true rfl, Nat.le_of_ble_eq_true rfl⟩) hPX hex hlocks
set_option maxHeartbeats 4000000 in
set_option maxRecDepth 100000 in
theorem t_X4_markAt_1 (l : Launch) (hst : l.stackTraces = false) (dC : Nat → ClassId) (dI : Nat → Nat → Nat) (ad : Nat → Nat) (S : XS) (x9 : Int32) (y1 : Int32) (hb9 : x9 < 0 ∨ nI 3 ≤ x9) : vx_Met l yX4_markAt wsX4_markAt ({ frames := 8, cells := 1, slots := 6, locals := 123 } : Room) (va_Pc [.ref (ad 57), .int x9, .int y1] (PXZ dC dI ad S)) (fun _ _ _ _ => False) (XQ dC dI ad S IX) 1 6 (fun _ => False) := by
  refine vx_ofW (cc := cX4_markAt) (maxL := 4) (ret := (some .int)) (by decide) rfl ?_
  intro p e s m args below meth c s₁ B hml hex hv
  obtain ⟨rfl, hPZ⟩ := hv
  have hPX := hPZ.1
  have hx := B.exec
  have hb := B.bytes
  have hr := B.returns
  have hts := atoms_spec (ws := wsX4_markAt) B.pre
  have hown : s.vm.findClass RX4 = some m.cls := findClass_of_methodNamed B.named
  have hlocks := B.notSynchronized
  have hX := WX.of hPX
  have hl := lv_entry ([.ref (ad 57), .int x9, .int y1]) (n := 4) (Nat.le_of_ble_eq_true rfl)
  rw [lg_entry_eq]
  generalize (lg_sl ([.ref (ad 57), .int x9, .int y1]) ++ List.replicate (4 - (lg_sl ([.ref (ad 57), .int x9, .int y1])).length) Slot.unset).toArray = ls at hl ⊢
  have hl : lv_has ls 4 [(0, .ref (ad 57)), (1, .int x9), (2, .int y1)] := hl
  show W p l e ({ frames := 8, cells := 1, slots := 6, locals := 123 } : Room) s m ([.ref (ad 57), .int x9, .int y1]).toArray below meth c s.heap [] 0 0 (vx_MQ below (fun _ _ _ _ => False) (XQ dC dI ad S IX) ([.ref (ad 57), .int x9, .int y1]).toArray s 1 6 (fun _ => False)) (F0 m 0 ls [])
  refine lv_aload_n hx hb dX4_markAt_0 rfl (lv_at hl 0 rfl) ?_
  refine lv_iload_n hx hb dX4_markAt_1 rfl (lv_at hl 1 rfl) ?_
  exact kx_pass (vx_runV (As := [.int x9]) (rest := []) ⟨hx, hb, hml, hown, hts⟩ (t_X4_rowAt l hst dC dI ad S x9 hb9) (cwV 1 hts gX4_markAt_X4_rowAt rfl rfl rfl hdX4_rowAt_1 ⟨Nat.le_of_ble_eq_true rfl, Nat.le_of_ble_eq_true rfl⟩) (hPZ.preX) rfl rfl hl.1 rfl (lv_room (Nat.le_of_ble_eq_true rfl)) dX4_markAt_2 ⟨Nat.le_of_ble_eq_true rfl, Nat.le_of_ble_eq_true rfl⟩) hPX hex hlocks
set_option maxHeartbeats 4000000 in
set_option maxRecDepth 100000 in
theorem t_X4_markAt_2 (l : Launch) (hst : l.stackTraces = false) (dC : Nat → ClassId) (dI : Nat → Nat → Nat) (ad : Nat → Nat) (S : XS) (i : Nat) (x9 : Int32) (hi : i < 3) (hn : (S.1 i).2.2 ≤ 16) (hb9 : x9 < 0 ∨ nI (S.1 i).2.2 ≤ x9) : vx_Met l yX4_markAt wsX4_markAt ({ frames := 8, cells := 1, slots := 6, locals := 123 } : Room) (va_Pc [.ref (ad 57), .int (nI i), .int x9] (PXZ dC dI ad S)) (fun _ _ _ _ => False) (XQ dC dI ad S IX) 1 6 (fun _ => False) := by
  refine vx_ofW (cc := cX4_markAt) (maxL := 4) (ret := (some .int)) (by decide) rfl ?_
  intro p e s m args below meth c s₁ B hml hex hv
  obtain ⟨rfl, hPZ⟩ := hv
  have hPX := hPZ.1
  have hx := B.exec
  have hb := B.bytes
  have hr := B.returns
  have hts := atoms_spec (ws := wsX4_markAt) B.pre
  have hown : s.vm.findClass RX4 = some m.cls := findClass_of_methodNamed B.named
  have hlocks := B.notSynchronized
  have hX := WX.of hPX
  have hl := lv_entry ([.ref (ad 57), .int (nI i), .int x9]) (n := 4) (Nat.le_of_ble_eq_true rfl)
  rw [lg_entry_eq]
  generalize (lg_sl ([.ref (ad 57), .int (nI i), .int x9]) ++ List.replicate (4 - (lg_sl ([.ref (ad 57), .int (nI i), .int x9])).length) Slot.unset).toArray = ls at hl ⊢
  have hl : lv_has ls 4 [(0, .ref (ad 57)), (1, .int (nI i)), (2, .int x9)] := hl
  show W p l e ({ frames := 8, cells := 1, slots := 6, locals := 123 } : Room) s m ([.ref (ad 57), .int (nI i), .int x9]).toArray below meth c s.heap [] 0 0 (vx_MQ below (fun _ _ _ _ => False) (XQ dC dI ad S IX) ([.ref (ad 57), .int (nI i), .int x9]).toArray s 1 6 (fun _ => False)) (F0 m 0 ls [])
  refine lv_aload_n hx hb dX4_markAt_0 rfl (lv_at hl 0 rfl) ?_
  refine lv_iload_n hx hb dX4_markAt_1 rfl (lv_at hl 1 rfl) ?_
  refine va_csr (va_Run.run (va_runV (As := [.int (nI i)]) (rest := []) ⟨hx, hb, hml, hown, hts⟩ (m_X4_rowAt l dC dI ad S i (by omega)) (cwV 1 hts gX4_markAt_X4_rowAt rfl rfl rfl hdX4_rowAt_1 ⟨Nat.le_of_ble_eq_true rfl, Nat.le_of_ble_eq_true rfl⟩) (hX.preTop 57 6 (by decide) (by decide) rfl rfl) rfl rfl hl.1 rfl (lv_room (Nat.le_of_ble_eq_true rfl)) dX4_markAt_2 ⟨Nat.le_of_ble_eq_true rfl, Nat.le_of_ble_eq_true rfl⟩)) (fun k_ hk_ => ?_)
  rw [hk_]
  refine lv_astore_n (lv' := [(3, .ref (ad (3 * i))), (0, .ref (ad 57)), (1, .int (nI i)), (2, .int x9)]) hx hb dX4_markAt_5 rfl hl (by decide) rfl (fun ls hl => ?_)
  refine lv_aload_n hx hb dX4_markAt_6 rfl (lv_at hl 0 rfl) ?_
  refine lv_iload_n hx hb dX4_markAt_7 rfl (lv_at hl 3 rfl) ?_
  exact kx_pass (vx_runS (As := [.ref (ad (3 * i)), .int x9]) (rest := []) ⟨hx, hb, hml, hown, hts⟩ (t_X4_demandPlace l hst dC dI ad S i x9 (by omega) (by omega) hb9) (va_cwS 2 hts gX4_markAt_X4_demandPlace rfl rfl rfl hdX4_demandPlace_2.2 ⟨Nat.le_of_ble_eq_true rfl, Nat.le_of_ble_eq_true rfl⟩) hPZ.preS rfl rfl hl.1 rfl (lv_room (Nat.le_of_ble_eq_true rfl)) dX4_markAt_8 ⟨Nat.le_of_ble_eq_true rfl, Nat.le_of_ble_eq_true rfl⟩) hPX hex hlocks
set_option maxHeartbeats 4000000 in
set_option maxRecDepth 100000 in
theorem t_X4_text_1 (l : Launch) (hst : l.stackTraces = false) (dC : Nat → ClassId) (dI : Nat → Nat → Nat) (ad : Nat → Nat) (S : XS) (x9 : Int32) (hb9 : x9 < 0 ∨ nI 3 ≤ x9) : vx_Met l yX4_text wsX4_text ({ frames := 8, cells := 1, slots := 6, locals := 123 } : Room) (va_Pc [.ref (ad 57), .int x9] (PXZ dC dI ad S)) (fun _ _ _ _ => False) (XQ dC dI ad S IX) 1 6 (fun _ => False) := by
  refine vx_ofW (cc := cX4_text) (maxL := 2) (ret := (some (.object "java/lang/String"))) (by decide) rfl ?_
  intro p e s m args below meth c s₁ B hml hex hv
  obtain ⟨rfl, hPZ⟩ := hv
  have hPX := hPZ.1
  have hx := B.exec
  have hb := B.bytes
  have hr := B.returns
  have hts := atoms_spec (ws := wsX4_text) B.pre
  have hown : s.vm.findClass RX4 = some m.cls := findClass_of_methodNamed B.named
  have hlocks := B.notSynchronized
  have hX := WX.of hPX
  have hl := lv_entry ([.ref (ad 57), .int x9]) (n := 2) (Nat.le_of_ble_eq_true rfl)
  rw [lg_entry_eq]
  generalize (lg_sl ([.ref (ad 57), .int x9]) ++ List.replicate (2 - (lg_sl ([.ref (ad 57), .int x9])).length) Slot.unset).toArray = ls at hl ⊢
  have hl : lv_has ls 2 [(0, .ref (ad 57)), (1, .int x9)] := hl
  show W p l e ({ frames := 8, cells := 1, slots := 6, locals := 123 } : Room) s m ([.ref (ad 57), .int x9]).toArray below meth c s.heap [] 0 0 (vx_MQ below (fun _ _ _ _ => False) (XQ dC dI ad S IX) ([.ref (ad 57), .int x9]).toArray s 1 6 (fun _ => False)) (F0 m 0 ls [])
  refine lv_aload_n hx hb dX4_text_0 rfl (lv_at hl 0 rfl) ?_
  refine lv_iload_n hx hb dX4_text_1 rfl (lv_at hl 1 rfl) ?_
  exact kx_pass (vx_runV (As := [.int x9]) (rest := []) ⟨hx, hb, hml, hown, hts⟩ (t_X4_rowAt l hst dC dI ad S x9 hb9) (cwV 1 hts gX4_text_X4_rowAt rfl rfl rfl hdX4_rowAt_1 ⟨Nat.le_of_ble_eq_true rfl, Nat.le_of_ble_eq_true rfl⟩) (hPZ.preX) rfl rfl hl.1 rfl (lv_room (Nat.le_of_ble_eq_true rfl)) dX4_text_2 ⟨Nat.le_of_ble_eq_true rfl, Nat.le_of_ble_eq_true rfl⟩) hPX hex hlocks
set_option maxHeartbeats 4000000 in
set_option maxRecDepth 100000 in
theorem t_X4_extreme_1 (l : Launch) (hst : l.stackTraces = false) (dC : Nat → ClassId) (dI : Nat → Nat → Nat) (ad : Nat → Nat) (S : XS) (x9 : Int32) (y1 : Int32) (z : Bool) (hb9 : x9 < 0 ∨ nI 3 ≤ x9) : vx_Met l yX4_extreme wsX4_extreme ({ frames := 8, cells := 1, slots := 6, locals := 123 } : Room) (va_Pc [.ref (ad 57), .int x9, .int y1, .int (bI z)] (PXZ dC dI ad S)) (fun _ _ _ _ => False) (XQ dC dI ad S IX) 1 6 (fun _ => False) := by
  refine vx_ofW (cc := cX4_extreme) (maxL := 7) (ret := (some .int)) (by decide) rfl ?_
  intro p e s m args below meth c s₁ B hml hex hv
  obtain ⟨rfl, hPZ⟩ := hv
  have hPX := hPZ.1
  have hx := B.exec
  have hb := B.bytes
  have hr := B.returns
  have hts := atoms_spec (ws := wsX4_extreme) B.pre
  have hown : s.vm.findClass RX4 = some m.cls := findClass_of_methodNamed B.named
  have hlocks := B.notSynchronized
  have hX := WX.of hPX
  have hl := lv_entry ([.ref (ad 57), .int x9, .int y1, .int (bI z)]) (n := 7) (Nat.le_of_ble_eq_true rfl)
  rw [lg_entry_eq]
  generalize (lg_sl ([.ref (ad 57), .int x9, .int y1, .int (bI z)]) ++ List.replicate (7 - (lg_sl ([.ref (ad 57), .int x9, .int y1, .int (bI z)])).length) Slot.unset).toArray = ls at hl ⊢
  have hl : lv_has ls 7 [(0, .ref (ad 57)), (1, .int x9), (2, .int y1), (3, .int (bI z))] := hl
  show W p l e ({ frames := 8, cells := 1, slots := 6, locals := 123 } : Room) s m ([.ref (ad 57), .int x9, .int y1, .int (bI z)]).toArray below meth c s.heap [] 0 0 (vx_MQ below (fun _ _ _ _ => False) (XQ dC dI ad S IX) ([.ref (ad 57), .int x9, .int y1, .int (bI z)]).toArray s 1 6 (fun _ => False)) (F0 m 0 ls [])
  refine lv_aload_n hx hb dX4_extreme_0 rfl (lv_at hl 0 rfl) ?_
  refine lv_iload_n hx hb dX4_extreme_1 rfl (lv_at hl 1 rfl) ?_
  exact kx_pass (vx_runV (As := [.int x9]) (rest := []) ⟨hx, hb, hml, hown, hts⟩ (t_X4_rowAt l hst dC dI ad S x9 hb9) (cwV 1 hts gX4_extreme_X4_rowAt rfl rfl rfl hdX4_rowAt_1 ⟨Nat.le_of_ble_eq_true rfl, Nat.le_of_ble_eq_true rfl⟩) (hPZ.preX) rfl rfl hl.1 rfl (lv_room (Nat.le_of_ble_eq_true rfl)) dX4_extreme_2 ⟨Nat.le_of_ble_eq_true rfl, Nat.le_of_ble_eq_true rfl⟩) hPX hex hlocks
set_option maxHeartbeats 4000000 in
set_option maxRecDepth 100000 in
theorem t_X4_extreme_2 (l : Launch) (hst : l.stackTraces = false) (dC : Nat → ClassId) (dI : Nat → Nat → Nat) (ad : Nat → Nat) (S : XS) (i : Nat) (x9 : Int32) (z : Bool) (hi : i < 3) (hb9 : x9 < 0 ∨ nI 4 ≤ x9) : vx_Met l yX4_extreme wsX4_extreme ({ frames := 8, cells := 1, slots := 6, locals := 123 } : Room) (va_Pc [.ref (ad 57), .int (nI i), .int x9, .int (bI z)] (PXZ dC dI ad S)) (fun _ _ _ _ => False) (XQ dC dI ad S IX) 1 6 (fun _ => False) := by
  refine vx_ofW (cc := cX4_extreme) (maxL := 7) (ret := (some .int)) (by decide) rfl ?_
  intro p e s m args below meth c s₁ B hml hex hv
  obtain ⟨rfl, hPZ⟩ := hv
  have hPX := hPZ.1
  have hx := B.exec
  have hb := B.bytes
  have hr := B.returns
  have hts := atoms_spec (ws := wsX4_extreme) B.pre
  have hown : s.vm.findClass RX4 = some m.cls := findClass_of_methodNamed B.named
  have hlocks := B.notSynchronized
  have hX := WX.of hPX
  have hl := lv_entry ([.ref (ad 57), .int (nI i), .int x9, .int (bI z)]) (n := 7) (Nat.le_of_ble_eq_true rfl)
  rw [lg_entry_eq]
  generalize (lg_sl ([.ref (ad 57), .int (nI i), .int x9, .int (bI z)]) ++ List.replicate (7 - (lg_sl ([.ref (ad 57), .int (nI i), .int x9, .int (bI z)])).length) Slot.unset).toArray = ls at hl ⊢
  have hl : lv_has ls 7 [(0, .ref (ad 57)), (1, .int (nI i)), (2, .int x9), (3, .int (bI z))] := hl
  show W p l e ({ frames := 8, cells := 1, slots := 6, locals := 123 } : Room) s m ([.ref (ad 57), .int (nI i), .int x9, .int (bI z)]).toArray below meth c s.heap [] 0 0 (vx_MQ below (fun _ _ _ _ => False) (XQ dC dI ad S IX) ([.ref (ad 57), .int (nI i), .int x9, .int (bI z)]).toArray s 1 6 (fun _ => False)) (F0 m 0 ls [])
  refine lv_aload_n hx hb dX4_extreme_0 rfl (lv_at hl 0 rfl) ?_
  refine lv_iload_n hx hb dX4_extreme_1 rfl (lv_at hl 1 rfl) ?_
  refine va_csr (va_Run.run (va_runV (As := [.int (nI i)]) (rest := []) ⟨hx, hb, hml, hown, hts⟩ (m_X4_rowAt l dC dI ad S i (by omega)) (cwV 1 hts gX4_extreme_X4_rowAt rfl rfl rfl hdX4_rowAt_1 ⟨Nat.le_of_ble_eq_true rfl, Nat.le_of_ble_eq_true rfl⟩) (hX.preTop 57 6 (by decide) (by decide) rfl rfl) rfl rfl hl.1 rfl (lv_room (Nat.le_of_ble_eq_true rfl)) dX4_extreme_2 ⟨Nat.le_of_ble_eq_true rfl, Nat.le_of_ble_eq_true rfl⟩)) (fun k_ hk_ => ?_)
  rw [hk_]
  refine lv_astore (lv' := [(4, .ref (ad (3 * i))), (0, .ref (ad 57)), (1, .int (nI i)), (2, .int x9), (3, .int (bI z))]) hx hb dX4_extreme_5 hl (by decide) rfl (fun ls hl => ?_)
  refine lv_aload_n hx hb dX4_extreme_7 rfl (lv_at hl 1 rfl) ?_
  refine lv_iload_n hx hb dX4_extreme_8 rfl (lv_at hl 3 rfl) ?_
  exact kx_pass (vx_runV (As := [.int x9]) (rest := []) ⟨hx, hb, hml, hown, hts⟩ (t_X4_orderAt l hst dC dI ad S x9 hb9) (cwV 1 hts gX4_extreme_X4_orderAt rfl rfl rfl hdX4_orderAt_1 ⟨Nat.le_of_ble_eq_true rfl, Nat.le_of_ble_eq_true rfl⟩) (hPZ.preX) rfl rfl hl.1 rfl (lv_room (Nat.le_of_ble_eq_true rfl)) dX4_extreme_9 ⟨Nat.le_of_ble_eq_true rfl, Nat.le_of_ble_eq_true rfl⟩) hPX hex hlocks
set_option maxHeartbeats 4000000 in
set_option maxRecDepth 100000 in
theorem t_X4_search_1 (l : Launch) (hst : l.stackTraces = false) (dC : Nat → ClassId) (dI : Nat → Nat → Nat) (ad : Nat → Nat) (S : XS) (x9 : Int32) (y1 : Int32) (y2 : Int32) (hb9 : x9 < 0 ∨ nI 3 ≤ x9) : vx_Met l yX4_search wsX4_search ({ frames := 8, cells := 1, slots := 6, locals := 123 } : Room) (va_Pc [.ref (ad 57), .int x9, .int y1, .int y2] (PXZ dC dI ad S)) (fun _ _ _ _ => False) (XQ dC dI ad S IX) 1 6 (fun _ => False) := by
  refine vx_ofW (cc := cX4_search) (maxL := 6) (ret := (some .int)) (by decide) rfl ?_
  intro p e s m args below meth c s₁ B hml hex hv
  obtain ⟨rfl, hPZ⟩ := hv
  have hPX := hPZ.1
  have hx := B.exec
  have hb := B.bytes
  have hr := B.returns
  have hts := atoms_spec (ws := wsX4_search) B.pre
  have hown : s.vm.findClass RX4 = some m.cls := findClass_of_methodNamed B.named
  have hlocks := B.notSynchronized
  have hX := WX.of hPX
  have hl := lv_entry ([.ref (ad 57), .int x9, .int y1, .int y2]) (n := 6) (Nat.le_of_ble_eq_true rfl)
  rw [lg_entry_eq]
  generalize (lg_sl ([.ref (ad 57), .int x9, .int y1, .int y2]) ++ List.replicate (6 - (lg_sl ([.ref (ad 57), .int x9, .int y1, .int y2])).length) Slot.unset).toArray = ls at hl ⊢
  have hl : lv_has ls 6 [(0, .ref (ad 57)), (1, .int x9), (2, .int y1), (3, .int y2)] := hl
  show W p l e ({ frames := 8, cells := 1, slots := 6, locals := 123 } : Room) s m ([.ref (ad 57), .int x9, .int y1, .int y2]).toArray below meth c s.heap [] 0 0 (vx_MQ below (fun _ _ _ _ => False) (XQ dC dI ad S IX) ([.ref (ad 57), .int x9, .int y1, .int y2]).toArray s 1 6 (fun _ => False)) (F0 m 0 ls [])
  refine lv_aload_n hx hb dX4_search_0 rfl (lv_at hl 0 rfl) ?_
  refine lv_iload_n hx hb dX4_search_1 rfl (lv_at hl 1 rfl) ?_
  exact kx_pass (vx_runV (As := [.int x9]) (rest := []) ⟨hx, hb, hml, hown, hts⟩ (t_X4_rowAt l hst dC dI ad S x9 hb9) (cwV 1 hts gX4_search_X4_rowAt rfl rfl rfl hdX4_rowAt_1 ⟨Nat.le_of_ble_eq_true rfl, Nat.le_of_ble_eq_true rfl⟩) (hPZ.preX) rfl rfl hl.1 rfl (lv_room (Nat.le_of_ble_eq_true rfl)) dX4_search_2 ⟨Nat.le_of_ble_eq_true rfl, Nat.le_of_ble_eq_true rfl⟩) hPX hex hlocks
set_option maxHeartbeats 4000000 in
set_option maxRecDepth 100000 in
theorem t_X4_search_2 (l : Launch) (hst : l.stackTraces = false) (dC : Nat → ClassId) (dI : Nat → Nat → Nat) (ad : Nat → Nat) (S : XS) (i : Nat) (x9 : Int32) (y2 : Int32) (hi : i < 3) (hb9 : x9 < 0 ∨ nI 4 ≤ x9) : vx_Met l yX4_search wsX4_search ({ frames := 8, cells := 1, slots := 6, locals := 123 } : Room) (va_Pc [.ref (ad 57), .int (nI i), .int x9, .int y2] (PXZ dC dI ad S)) (fun _ _ _ _ => False) (XQ dC dI ad S IX) 1 6 (fun _ => False) := by
  refine vx_ofW (cc := cX4_search) (maxL := 6) (ret := (some .int)) (by decide) rfl ?_
  intro p e s m args below meth c s₁ B hml hex hv
  obtain ⟨rfl, hPZ⟩ := hv
  have hPX := hPZ.1
  have hx := B.exec
  have hb := B.bytes
  have hr := B.returns
  have hts := atoms_spec (ws := wsX4_search) B.pre
  have hown : s.vm.findClass RX4 = some m.cls := findClass_of_methodNamed B.named
  have hlocks := B.notSynchronized
  have hX := WX.of hPX
  have hl := lv_entry ([.ref (ad 57), .int (nI i), .int x9, .int y2]) (n := 6) (Nat.le_of_ble_eq_true rfl)
  rw [lg_entry_eq]
  generalize (lg_sl ([.ref (ad 57), .int (nI i), .int x9, .int y2]) ++ List.replicate (6 - (lg_sl ([.ref (ad 57), .int (nI i), .int x9, .int y2])).length) Slot.unset).toArray = ls at hl ⊢
  have hl : lv_has ls 6 [(0, .ref (ad 57)), (1, .int (nI i)), (2, .int x9), (3, .int y2)] := hl
  show W p l e ({ frames := 8, cells := 1, slots := 6, locals := 123 } : Room) s m ([.ref (ad 57), .int (nI i), .int x9, .int y2]).toArray below meth c s.heap [] 0 0 (vx_MQ below (fun _ _ _ _ => False) (XQ dC dI ad S IX) ([.ref (ad 57), .int (nI i), .int x9, .int y2]).toArray s 1 6 (fun _ => False)) (F0 m 0 ls [])
  refine lv_aload_n hx hb dX4_search_0 rfl (lv_at hl 0 rfl) ?_
  refine lv_iload_n hx hb dX4_search_1 rfl (lv_at hl 1 rfl) ?_
  refine va_csr (va_Run.run (va_runV (As := [.int (nI i)]) (rest := []) ⟨hx, hb, hml, hown, hts⟩ (m_X4_rowAt l dC dI ad S i (by omega)) (cwV 1 hts gX4_search_X4_rowAt rfl rfl rfl hdX4_rowAt_1 ⟨Nat.le_of_ble_eq_true rfl, Nat.le_of_ble_eq_true rfl⟩) (hX.preTop 57 6 (by decide) (by decide) rfl rfl) rfl rfl hl.1 rfl (lv_room (Nat.le_of_ble_eq_true rfl)) dX4_search_2 ⟨Nat.le_of_ble_eq_true rfl, Nat.le_of_ble_eq_true rfl⟩)) (fun k_ hk_ => ?_)
  rw [hk_]
  refine lv_astore (lv' := [(4, .ref (ad (3 * i))), (0, .ref (ad 57)), (1, .int (nI i)), (2, .int x9), (3, .int y2)]) hx hb dX4_search_5 hl (by decide) rfl (fun ls hl => ?_)
  refine lv_aload_n hx hb dX4_search_7 rfl (lv_at hl 1 rfl) ?_
  refine lv_iload_n hx hb dX4_search_8 rfl (lv_at hl 3 rfl) ?_
  exact kx_pass (vx_runV (As := [.int x9]) (rest := []) ⟨hx, hb, hml, hown, hts⟩ (t_X4_orderAt l hst dC dI ad S x9 hb9) (cwV 1 hts gX4_search_X4_orderAt rfl rfl rfl hdX4_orderAt_1 ⟨Nat.le_of_ble_eq_true rfl, Nat.le_of_ble_eq_true rfl⟩) (hPZ.preX) rfl rfl hl.1 rfl (lv_room (Nat.le_of_ble_eq_true rfl)) dX4_search_9 ⟨Nat.le_of_ble_eq_true rfl, Nat.le_of_ble_eq_true rfl⟩) hPX hex hlocks
set_option maxHeartbeats 4000000 in
set_option maxRecDepth 100000 in
theorem t_X4_search_3 (l : Launch) (hst : l.stackTraces = false) (dC : Nat → ClassId) (dI : Nat → Nat → Nat) (ad : Nat → Nat) (S : XS) (i : Nat) (j : Nat) (x9 : Int32) (hi : i < 3) (hj : j < 4) (hb9 : x9 < 0 ∨ nI 15 < x9) : vx_Met l yX4_search wsX4_search ({ frames := 8, cells := 1, slots := 6, locals := 123 } : Room) (va_Pc [.ref (ad 57), .int (nI i), .int (nI j), .int x9] (PXZ dC dI ad S)) (fun _ _ _ _ => False) (XQ dC dI ad S IA) 1 6 (fun _ => False) := by
  refine vx_ofW (cc := cX4_search) (maxL := 6) (ret := (some .int)) (by decide) rfl ?_
  intro p e s m args below meth c s₁ B hml hex hv
  obtain ⟨rfl, hPZ⟩ := hv
  have hPX := hPZ.1
  have hx := B.exec
  have hb := B.bytes
  have hr := B.returns
  have hts := atoms_spec (ws := wsX4_search) B.pre
  have hown : s.vm.findClass RX4 = some m.cls := findClass_of_methodNamed B.named
  have hlocks := B.notSynchronized
  have hX := WX.of hPX
  have hl := lv_entry ([.ref (ad 57), .int (nI i), .int (nI j), .int x9]) (n := 6) (Nat.le_of_ble_eq_true rfl)
  rw [lg_entry_eq]
  generalize (lg_sl ([.ref (ad 57), .int (nI i), .int (nI j), .int x9]) ++ List.replicate (6 - (lg_sl ([.ref (ad 57), .int (nI i), .int (nI j), .int x9])).length) Slot.unset).toArray = ls at hl ⊢
  have hl : lv_has ls 6 [(0, .ref (ad 57)), (1, .int (nI i)), (2, .int (nI j)), (3, .int x9)] := hl
  show W p l e ({ frames := 8, cells := 1, slots := 6, locals := 123 } : Room) s m ([.ref (ad 57), .int (nI i), .int (nI j), .int x9]).toArray below meth c s.heap [] 0 0 (vx_MQ below (fun _ _ _ _ => False) (XQ dC dI ad S IA) ([.ref (ad 57), .int (nI i), .int (nI j), .int x9]).toArray s 1 6 (fun _ => False)) (F0 m 0 ls [])
  refine lv_aload_n hx hb dX4_search_0 rfl (lv_at hl 0 rfl) ?_
  refine lv_iload_n hx hb dX4_search_1 rfl (lv_at hl 1 rfl) ?_
  refine va_csr (va_Run.run (va_runV (As := [.int (nI i)]) (rest := []) ⟨hx, hb, hml, hown, hts⟩ (m_X4_rowAt l dC dI ad S i (by omega)) (cwV 1 hts gX4_search_X4_rowAt rfl rfl rfl hdX4_rowAt_1 ⟨Nat.le_of_ble_eq_true rfl, Nat.le_of_ble_eq_true rfl⟩) (hX.preTop 57 6 (by decide) (by decide) rfl rfl) rfl rfl hl.1 rfl (lv_room (Nat.le_of_ble_eq_true rfl)) dX4_search_2 ⟨Nat.le_of_ble_eq_true rfl, Nat.le_of_ble_eq_true rfl⟩)) (fun k_ hk_ => ?_)
  rw [hk_]
  refine lv_astore (lv' := [(4, .ref (ad (3 * i))), (0, .ref (ad 57)), (1, .int (nI i)), (2, .int (nI j)), (3, .int x9)]) hx hb dX4_search_5 hl (by decide) rfl (fun ls hl => ?_)
  refine lv_aload_n hx hb dX4_search_7 rfl (lv_at hl 1 rfl) ?_
  refine lv_iload_n hx hb dX4_search_8 rfl (lv_at hl 3 rfl) ?_
  refine va_csr (va_Run.run (va_runV (As := [.int (nI j)]) (rest := []) ⟨hx, hb, hml, hown, hts⟩ (m_X4_orderAt l dC dI ad S j (by omega)) (cwV 1 hts gX4_search_X4_orderAt rfl rfl rfl hdX4_orderAt_1 ⟨Nat.le_of_ble_eq_true rfl, Nat.le_of_ble_eq_true rfl⟩) (hX.preTop 57 6 (by decide) (by decide) rfl rfl) rfl rfl hl.1 rfl (lv_room (Nat.le_of_ble_eq_true rfl)) dX4_search_9 ⟨Nat.le_of_ble_eq_true rfl, Nat.le_of_ble_eq_true rfl⟩)) (fun k_ hk_ => ?_)
  rw [hk_]
  refine lv_astore (lv' := [(5, .ref (ad (24 + 5 * j))), (4, .ref (ad (3 * i))), (0, .ref (ad 57)), (1, .int (nI i)), (2, .int (nI j)), (3, .int x9)]) hx hb dX4_search_12 hl (by decide) rfl (fun ls hl => ?_)
  refine lv_iload_n hx hb dX4_search_14 rfl (lv_at hl 5 rfl) ?_
  exact kx_pass (vx_runS (As := [.int x9]) (rest := []) ⟨hx, hb, hml, hown, hts⟩ (t_X4_demandValue l hst dC dI ad S x9 hb9) (va_cwS 1 hts gX4_search_X4_demandValue rfl rfl rfl hdX4_demandValue_1.2 ⟨Nat.le_of_ble_eq_true rfl, Nat.le_of_ble_eq_true rfl⟩) hPZ.preS rfl rfl hl.1 rfl (lv_room (Nat.le_of_ble_eq_true rfl)) dX4_search_15 ⟨Nat.le_of_ble_eq_true rfl, Nat.le_of_ble_eq_true rfl⟩) hPX hex hlocks
set_option maxHeartbeats 4000000 in
set_option maxRecDepth 100000 in
theorem t_X4_near_1 (l : Launch) (hst : l.stackTraces = false) (dC : Nat → ClassId) (dI : Nat → Nat → Nat) (ad : Nat → Nat) (S : XS) (x9 : Int32) (y1 : Int32) (y2 : Int32) (y3 : Int32) (hb9 : x9 < 0 ∨ nI 3 ≤ x9) : vx_Met l yX4_near wsX4_near ({ frames := 8, cells := 1, slots := 6, locals := 123 } : Room) (va_Pc [.ref (ad 57), .int x9, .int y1, .int y2, .int y3] (PXZ dC dI ad S)) (fun _ _ _ _ => False) (XQ dC dI ad S IX) 1 6 (fun _ => False) := by
  refine vx_ofW (cc := cX4_near) (maxL := 8) (ret := (some .int)) (by decide) rfl ?_
  intro p e s m args below meth c s₁ B hml hex hv
  obtain ⟨rfl, hPZ⟩ := hv
  have hPX := hPZ.1
  have hx := B.exec
  have hb := B.bytes
  have hr := B.returns
  have hts := atoms_spec (ws := wsX4_near) B.pre
  have hown : s.vm.findClass RX4 = some m.cls := findClass_of_methodNamed B.named
  have hlocks := B.notSynchronized
  have hX := WX.of hPX
  have hl := lv_entry ([.ref (ad 57), .int x9, .int y1, .int y2, .int y3]) (n := 8) (Nat.le_of_ble_eq_true rfl)
  rw [lg_entry_eq]
  generalize (lg_sl ([.ref (ad 57), .int x9, .int y1, .int y2, .int y3]) ++ List.replicate (8 - (lg_sl ([.ref (ad 57), .int x9, .int y1, .int y2, .int y3])).length) Slot.unset).toArray = ls at hl ⊢
  have hl : lv_has ls 8 [(0, .ref (ad 57)), (1, .int x9), (2, .int y1), (3, .int y2), (4, .int y3)] := hl
  show W p l e ({ frames := 8, cells := 1, slots := 6, locals := 123 } : Room) s m ([.ref (ad 57), .int x9, .int y1, .int y2, .int y3]).toArray below meth c s.heap [] 0 0 (vx_MQ below (fun _ _ _ _ => False) (XQ dC dI ad S IX) ([.ref (ad 57), .int x9, .int y1, .int y2, .int y3]).toArray s 1 6 (fun _ => False)) (F0 m 0 ls [])
  refine lv_aload_n hx hb dX4_near_0 rfl (lv_at hl 0 rfl) ?_
  refine lv_iload_n hx hb dX4_near_1 rfl (lv_at hl 1 rfl) ?_
  exact kx_pass (vx_runV (As := [.int x9]) (rest := []) ⟨hx, hb, hml, hown, hts⟩ (t_X4_rowAt l hst dC dI ad S x9 hb9) (cwV 1 hts gX4_near_X4_rowAt rfl rfl rfl hdX4_rowAt_1 ⟨Nat.le_of_ble_eq_true rfl, Nat.le_of_ble_eq_true rfl⟩) (hPZ.preX) rfl rfl hl.1 rfl (lv_room (Nat.le_of_ble_eq_true rfl)) dX4_near_2 ⟨Nat.le_of_ble_eq_true rfl, Nat.le_of_ble_eq_true rfl⟩) hPX hex hlocks
set_option maxHeartbeats 4000000 in
set_option maxRecDepth 100000 in
theorem t_X4_near_2 (l : Launch) (hst : l.stackTraces = false) (dC : Nat → ClassId) (dI : Nat → Nat → Nat) (ad : Nat → Nat) (S : XS) (i : Nat) (x9 : Int32) (y2 : Int32) (y3 : Int32) (hi : i < 3) (hb9 : x9 < 0 ∨ nI 4 ≤ x9) : vx_Met l yX4_near wsX4_near ({ frames := 8, cells := 1, slots := 6, locals := 123 } : Room) (va_Pc [.ref (ad 57), .int (nI i), .int x9, .int y2, .int y3] (PXZ dC dI ad S)) (fun _ _ _ _ => False) (XQ dC dI ad S IX) 1 6 (fun _ => False) := by
  refine vx_ofW (cc := cX4_near) (maxL := 8) (ret := (some .int)) (by decide) rfl ?_
  intro p e s m args below meth c s₁ B hml hex hv
  obtain ⟨rfl, hPZ⟩ := hv
  have hPX := hPZ.1
  have hx := B.exec
  have hb := B.bytes
  have hr := B.returns
  have hts := atoms_spec (ws := wsX4_near) B.pre
  have hown : s.vm.findClass RX4 = some m.cls := findClass_of_methodNamed B.named
  have hlocks := B.notSynchronized
  have hX := WX.of hPX
  have hl := lv_entry ([.ref (ad 57), .int (nI i), .int x9, .int y2, .int y3]) (n := 8) (Nat.le_of_ble_eq_true rfl)
  rw [lg_entry_eq]
  generalize (lg_sl ([.ref (ad 57), .int (nI i), .int x9, .int y2, .int y3]) ++ List.replicate (8 - (lg_sl ([.ref (ad 57), .int (nI i), .int x9, .int y2, .int y3])).length) Slot.unset).toArray = ls at hl ⊢
  have hl : lv_has ls 8 [(0, .ref (ad 57)), (1, .int (nI i)), (2, .int x9), (3, .int y2), (4, .int y3)] := hl
  show W p l e ({ frames := 8, cells := 1, slots := 6, locals := 123 } : Room) s m ([.ref (ad 57), .int (nI i), .int x9, .int y2, .int y3]).toArray below meth c s.heap [] 0 0 (vx_MQ below (fun _ _ _ _ => False) (XQ dC dI ad S IX) ([.ref (ad 57), .int (nI i), .int x9, .int y2, .int y3]).toArray s 1 6 (fun _ => False)) (F0 m 0 ls [])
  refine lv_aload_n hx hb dX4_near_0 rfl (lv_at hl 0 rfl) ?_
  refine lv_iload_n hx hb dX4_near_1 rfl (lv_at hl 1 rfl) ?_
  refine va_csr (va_Run.run (va_runV (As := [.int (nI i)]) (rest := []) ⟨hx, hb, hml, hown, hts⟩ (m_X4_rowAt l dC dI ad S i (by omega)) (cwV 1 hts gX4_near_X4_rowAt rfl rfl rfl hdX4_rowAt_1 ⟨Nat.le_of_ble_eq_true rfl, Nat.le_of_ble_eq_true rfl⟩) (hX.preTop 57 6 (by decide) (by decide) rfl rfl) rfl rfl hl.1 rfl (lv_room (Nat.le_of_ble_eq_true rfl)) dX4_near_2 ⟨Nat.le_of_ble_eq_true rfl, Nat.le_of_ble_eq_true rfl⟩)) (fun k_ hk_ => ?_)
  rw [hk_]
  refine lv_astore (lv' := [(5, .ref (ad (3 * i))), (0, .ref (ad 57)), (1, .int (nI i)), (2, .int x9), (3, .int y2), (4, .int y3)]) hx hb dX4_near_5 hl (by decide) rfl (fun ls hl => ?_)
  refine lv_aload_n hx hb dX4_near_7 rfl (lv_at hl 1 rfl) ?_
  refine lv_iload_n hx hb dX4_near_8 rfl (lv_at hl 3 rfl) ?_
  exact kx_pass (vx_runV (As := [.int x9]) (rest := []) ⟨hx, hb, hml, hown, hts⟩ (t_X4_orderAt l hst dC dI ad S x9 hb9) (cwV 1 hts gX4_near_X4_orderAt rfl rfl rfl hdX4_orderAt_1 ⟨Nat.le_of_ble_eq_true rfl, Nat.le_of_ble_eq_true rfl⟩) (hPZ.preX) rfl rfl hl.1 rfl (lv_room (Nat.le_of_ble_eq_true rfl)) dX4_near_9 ⟨Nat.le_of_ble_eq_true rfl, Nat.le_of_ble_eq_true rfl⟩) hPX hex hlocks
set_option maxHeartbeats 4000000 in
set_option maxRecDepth 100000 in
theorem t_X4_near_3 (l : Launch) (hst : l.stackTraces = false) (dC : Nat → ClassId) (dI : Nat → Nat → Nat) (ad : Nat → Nat) (S : XS) (i : Nat) (j : Nat) (x9 : Int32) (y3 : Int32) (hi : i < 3) (hj : j < 4) (hb9 : x9 < 0 ∨ nI 15 < x9) : vx_Met l yX4_near wsX4_near ({ frames := 8, cells := 1, slots := 6, locals := 123 } : Room) (va_Pc [.ref (ad 57), .int (nI i), .int (nI j), .int x9, .int y3] (PXZ dC dI ad S)) (fun _ _ _ _ => False) (XQ dC dI ad S IA) 1 6 (fun _ => False) := by
  refine vx_ofW (cc := cX4_near) (maxL := 8) (ret := (some .int)) (by decide) rfl ?_
  intro p e s m args below meth c s₁ B hml hex hv
  obtain ⟨rfl, hPZ⟩ := hv
  have hPX := hPZ.1
  have hx := B.exec
  have hb := B.bytes
  have hr := B.returns
  have hts := atoms_spec (ws := wsX4_near) B.pre
  have hown : s.vm.findClass RX4 = some m.cls := findClass_of_methodNamed B.named
  have hlocks := B.notSynchronized
  have hX := WX.of hPX
  have hl := lv_entry ([.ref (ad 57), .int (nI i), .int (nI j), .int x9, .int y3]) (n := 8) (Nat.le_of_ble_eq_true rfl)
  rw [lg_entry_eq]
  generalize (lg_sl ([.ref (ad 57), .int (nI i), .int (nI j), .int x9, .int y3]) ++ List.replicate (8 - (lg_sl ([.ref (ad 57), .int (nI i), .int (nI j), .int x9, .int y3])).length) Slot.unset).toArray = ls at hl ⊢
  have hl : lv_has ls 8 [(0, .ref (ad 57)), (1, .int (nI i)), (2, .int (nI j)), (3, .int x9), (4, .int y3)] := hl
  show W p l e ({ frames := 8, cells := 1, slots := 6, locals := 123 } : Room) s m ([.ref (ad 57), .int (nI i), .int (nI j), .int x9, .int y3]).toArray below meth c s.heap [] 0 0 (vx_MQ below (fun _ _ _ _ => False) (XQ dC dI ad S IA) ([.ref (ad 57), .int (nI i), .int (nI j), .int x9, .int y3]).toArray s 1 6 (fun _ => False)) (F0 m 0 ls [])
  refine lv_aload_n hx hb dX4_near_0 rfl (lv_at hl 0 rfl) ?_
  refine lv_iload_n hx hb dX4_near_1 rfl (lv_at hl 1 rfl) ?_
  refine va_csr (va_Run.run (va_runV (As := [.int (nI i)]) (rest := []) ⟨hx, hb, hml, hown, hts⟩ (m_X4_rowAt l dC dI ad S i (by omega)) (cwV 1 hts gX4_near_X4_rowAt rfl rfl rfl hdX4_rowAt_1 ⟨Nat.le_of_ble_eq_true rfl, Nat.le_of_ble_eq_true rfl⟩) (hX.preTop 57 6 (by decide) (by decide) rfl rfl) rfl rfl hl.1 rfl (lv_room (Nat.le_of_ble_eq_true rfl)) dX4_near_2 ⟨Nat.le_of_ble_eq_true rfl, Nat.le_of_ble_eq_true rfl⟩)) (fun k_ hk_ => ?_)
  rw [hk_]
  refine lv_astore (lv' := [(5, .ref (ad (3 * i))), (0, .ref (ad 57)), (1, .int (nI i)), (2, .int (nI j)), (3, .int x9), (4, .int y3)]) hx hb dX4_near_5 hl (by decide) rfl (fun ls hl => ?_)
  refine lv_aload_n hx hb dX4_near_7 rfl (lv_at hl 1 rfl) ?_
  refine lv_iload_n hx hb dX4_near_8 rfl (lv_at hl 3 rfl) ?_
  refine va_csr (va_Run.run (va_runV (As := [.int (nI j)]) (rest := []) ⟨hx, hb, hml, hown, hts⟩ (m_X4_orderAt l dC dI ad S j (by omega)) (cwV 1 hts gX4_near_X4_orderAt rfl rfl rfl hdX4_orderAt_1 ⟨Nat.le_of_ble_eq_true rfl, Nat.le_of_ble_eq_true rfl⟩) (hX.preTop 57 6 (by decide) (by decide) rfl rfl) rfl rfl hl.1 rfl (lv_room (Nat.le_of_ble_eq_true rfl)) dX4_near_9 ⟨Nat.le_of_ble_eq_true rfl, Nat.le_of_ble_eq_true rfl⟩)) (fun k_ hk_ => ?_)
  rw [hk_]
  refine lv_astore (lv' := [(6, .ref (ad (24 + 5 * j))), (5, .ref (ad (3 * i))), (0, .ref (ad 57)), (1, .int (nI i)), (2, .int (nI j)), (3, .int x9), (4, .int y3)]) hx hb dX4_near_12 hl (by decide) rfl (fun ls hl => ?_)
  refine lv_iload_n hx hb dX4_near_14 rfl (lv_at hl 5 rfl) ?_
  exact kx_pass (vx_runS (As := [.int x9]) (rest := []) ⟨hx, hb, hml, hown, hts⟩ (t_X4_demandValue l hst dC dI ad S x9 hb9) (va_cwS 1 hts gX4_near_X4_demandValue rfl rfl rfl hdX4_demandValue_1.2 ⟨Nat.le_of_ble_eq_true rfl, Nat.le_of_ble_eq_true rfl⟩) hPZ.preS rfl rfl hl.1 rfl (lv_room (Nat.le_of_ble_eq_true rfl)) dX4_near_15 ⟨Nat.le_of_ble_eq_true rfl, Nat.le_of_ble_eq_true rfl⟩) hPX hex hlocks
set_option maxHeartbeats 4000000 in
set_option maxRecDepth 100000 in
theorem t_X4_near_4 (l : Launch) (hst : l.stackTraces = false) (dC : Nat → ClassId) (dI : Nat → Nat → Nat) (ad : Nat → Nat) (S : XS) (i : Nat) (j : Nat) (v : Nat) (x9 : Int32) (hi : i < 3) (hj : j < 4) (hv : v < 16) (hb9 : x9 < 0 ∨ nI 3 < x9) : vx_Met l yX4_near wsX4_near ({ frames := 8, cells := 1, slots := 6, locals := 123 } : Room) (va_Pc [.ref (ad 57), .int (nI i), .int (nI j), .int (nI v), .int x9] (PXZ dC dI ad S)) (fun _ _ _ _ => False) (XQ dC dI ad S IA) 1 6 (fun _ => False) := by
  refine vx_ofW (cc := cX4_near) (maxL := 8) (ret := (some .int)) (by decide) rfl ?_
  intro p e s m args below meth c s₁ B hml hex hv
  obtain ⟨rfl, hPZ⟩ := hv
  have hPX := hPZ.1
  have hx := B.exec
  have hb := B.bytes
  have hr := B.returns
  have hts := atoms_spec (ws := wsX4_near) B.pre
  have hown : s.vm.findClass RX4 = some m.cls := findClass_of_methodNamed B.named
  have hlocks := B.notSynchronized
  have hX := WX.of hPX
  have hl := lv_entry ([.ref (ad 57), .int (nI i), .int (nI j), .int (nI v), .int x9]) (n := 8) (Nat.le_of_ble_eq_true rfl)
  rw [lg_entry_eq]
  generalize (lg_sl ([.ref (ad 57), .int (nI i), .int (nI j), .int (nI v), .int x9]) ++ List.replicate (8 - (lg_sl ([.ref (ad 57), .int (nI i), .int (nI j), .int (nI v), .int x9])).length) Slot.unset).toArray = ls at hl ⊢
  have hl : lv_has ls 8 [(0, .ref (ad 57)), (1, .int (nI i)), (2, .int (nI j)), (3, .int (nI v)), (4, .int x9)] := hl
  show W p l e ({ frames := 8, cells := 1, slots := 6, locals := 123 } : Room) s m ([.ref (ad 57), .int (nI i), .int (nI j), .int (nI v), .int x9]).toArray below meth c s.heap [] 0 0 (vx_MQ below (fun _ _ _ _ => False) (XQ dC dI ad S IA) ([.ref (ad 57), .int (nI i), .int (nI j), .int (nI v), .int x9]).toArray s 1 6 (fun _ => False)) (F0 m 0 ls [])
  refine lv_aload_n hx hb dX4_near_0 rfl (lv_at hl 0 rfl) ?_
  refine lv_iload_n hx hb dX4_near_1 rfl (lv_at hl 1 rfl) ?_
  refine va_csr (va_Run.run (va_runV (As := [.int (nI i)]) (rest := []) ⟨hx, hb, hml, hown, hts⟩ (m_X4_rowAt l dC dI ad S i (by omega)) (cwV 1 hts gX4_near_X4_rowAt rfl rfl rfl hdX4_rowAt_1 ⟨Nat.le_of_ble_eq_true rfl, Nat.le_of_ble_eq_true rfl⟩) (hX.preTop 57 6 (by decide) (by decide) rfl rfl) rfl rfl hl.1 rfl (lv_room (Nat.le_of_ble_eq_true rfl)) dX4_near_2 ⟨Nat.le_of_ble_eq_true rfl, Nat.le_of_ble_eq_true rfl⟩)) (fun k_ hk_ => ?_)
  rw [hk_]
  refine lv_astore (lv' := [(5, .ref (ad (3 * i))), (0, .ref (ad 57)), (1, .int (nI i)), (2, .int (nI j)), (3, .int (nI v)), (4, .int x9)]) hx hb dX4_near_5 hl (by decide) rfl (fun ls hl => ?_)
  refine lv_aload_n hx hb dX4_near_7 rfl (lv_at hl 1 rfl) ?_
  refine lv_iload_n hx hb dX4_near_8 rfl (lv_at hl 3 rfl) ?_
  refine va_csr (va_Run.run (va_runV (As := [.int (nI j)]) (rest := []) ⟨hx, hb, hml, hown, hts⟩ (m_X4_orderAt l dC dI ad S j (by omega)) (cwV 1 hts gX4_near_X4_orderAt rfl rfl rfl hdX4_orderAt_1 ⟨Nat.le_of_ble_eq_true rfl, Nat.le_of_ble_eq_true rfl⟩) (hX.preTop 57 6 (by decide) (by decide) rfl rfl) rfl rfl hl.1 rfl (lv_room (Nat.le_of_ble_eq_true rfl)) dX4_near_9 ⟨Nat.le_of_ble_eq_true rfl, Nat.le_of_ble_eq_true rfl⟩)) (fun k_ hk_ => ?_)
  rw [hk_]
  refine lv_astore (lv' := [(6, .ref (ad (24 + 5 * j))), (5, .ref (ad (3 * i))), (0, .ref (ad 57)), (1, .int (nI i)), (2, .int (nI j)), (3, .int (nI v)), (4, .int x9)]) hx hb dX4_near_12 hl (by decide) rfl (fun ls hl => ?_)
  refine lv_iload_n hx hb dX4_near_14 rfl (lv_at hl 5 rfl) ?_
  refine va_csv (va_Run.run (va_runS (As := [.int (nI v)]) (rest := []) ⟨hx, hb, hml, hown, hts⟩ (m_X4_demandValue l dC dI ad S v (by omega)) (va_cwS 1 hts gX4_near_X4_demandValue rfl rfl rfl hdX4_demandValue_1.2 ⟨Nat.le_of_ble_eq_true rfl, Nat.le_of_ble_eq_true rfl⟩) hX.preS rfl rfl hl.1 rfl (lv_room (Nat.le_of_ble_eq_true rfl)) dX4_near_15 ⟨Nat.le_of_ble_eq_true rfl, Nat.le_of_ble_eq_true rfl⟩)) (fun _ => ?_)
  refine lv_iload hx hb dX4_near_18 (lv_at hl 6 rfl) ?_
  refine lv_iconst (v := nI 3) hx hb dX4_near_20 (by decide) ?_
  exact kx_pass (vx_runS (As := [.int x9, .int (nI 3)]) (rest := []) ⟨hx, hb, hml, hown, hts⟩ (t_X4_demandWithin l hst dC dI ad S x9 3 (by omega) hb9) (va_cwS 2 hts gX4_near_X4_demandWithin rfl rfl rfl hdX4_demandWithin_2.2 ⟨Nat.le_of_ble_eq_true rfl, Nat.le_of_ble_eq_true rfl⟩) hPZ.preS rfl rfl hl.1 rfl (lv_room (Nat.le_of_ble_eq_true rfl)) dX4_near_21 ⟨Nat.le_of_ble_eq_true rfl, Nat.le_of_ble_eq_true rfl⟩) hPX hex hlocks
set_option maxHeartbeats 4000000 in
set_option maxRecDepth 100000 in
theorem t_X4_kinds_1 (l : Launch) (hst : l.stackTraces = false) (dC : Nat → ClassId) (dI : Nat → Nat → Nat) (ad : Nat → Nat) (S : XS) (x9 : Int32) (y1 : Int32) (hb9 : x9 < 0 ∨ nI 3 ≤ x9) : vx_Met l yX4_kinds wsX4_kinds ({ frames := 8, cells := 1, slots := 6, locals := 123 } : Room) (va_Pc [.ref (ad 57), .int x9, .int y1] (PXZ dC dI ad S)) (fun _ _ _ _ => False) (XQ dC dI ad S IX) 1 6 (fun _ => False) := by
  refine vx_ofW (cc := cX4_kinds) (maxL := 4) (ret := (some .int)) (by decide) rfl ?_
  intro p e s m args below meth c s₁ B hml hex hv
  obtain ⟨rfl, hPZ⟩ := hv
  have hPX := hPZ.1
  have hx := B.exec
  have hb := B.bytes
  have hr := B.returns
  have hts := atoms_spec (ws := wsX4_kinds) B.pre
  have hown : s.vm.findClass RX4 = some m.cls := findClass_of_methodNamed B.named
  have hlocks := B.notSynchronized
  have hX := WX.of hPX
  have hl := lv_entry ([.ref (ad 57), .int x9, .int y1]) (n := 4) (Nat.le_of_ble_eq_true rfl)
  rw [lg_entry_eq]
  generalize (lg_sl ([.ref (ad 57), .int x9, .int y1]) ++ List.replicate (4 - (lg_sl ([.ref (ad 57), .int x9, .int y1])).length) Slot.unset).toArray = ls at hl ⊢
  have hl : lv_has ls 4 [(0, .ref (ad 57)), (1, .int x9), (2, .int y1)] := hl
  show W p l e ({ frames := 8, cells := 1, slots := 6, locals := 123 } : Room) s m ([.ref (ad 57), .int x9, .int y1]).toArray below meth c s.heap [] 0 0 (vx_MQ below (fun _ _ _ _ => False) (XQ dC dI ad S IX) ([.ref (ad 57), .int x9, .int y1]).toArray s 1 6 (fun _ => False)) (F0 m 0 ls [])
  refine lv_aload_n hx hb dX4_kinds_0 rfl (lv_at hl 0 rfl) ?_
  refine lv_iload_n hx hb dX4_kinds_1 rfl (lv_at hl 1 rfl) ?_
  exact kx_pass (vx_runV (As := [.int x9]) (rest := []) ⟨hx, hb, hml, hown, hts⟩ (t_X4_rowAt l hst dC dI ad S x9 hb9) (cwV 1 hts gX4_kinds_X4_rowAt rfl rfl rfl hdX4_rowAt_1 ⟨Nat.le_of_ble_eq_true rfl, Nat.le_of_ble_eq_true rfl⟩) (hPZ.preX) rfl rfl hl.1 rfl (lv_room (Nat.le_of_ble_eq_true rfl)) dX4_kinds_2 ⟨Nat.le_of_ble_eq_true rfl, Nat.le_of_ble_eq_true rfl⟩) hPX hex hlocks
set_option maxHeartbeats 4000000 in
set_option maxRecDepth 100000 in
theorem t_X4_kinds_2 (l : Launch) (hst : l.stackTraces = false) (dC : Nat → ClassId) (dI : Nat → Nat → Nat) (ad : Nat → Nat) (S : XS) (i : Nat) (x9 : Int32) (hi : i < 3) (hb9 : x9 < 0 ∨ nI 4 ≤ x9) : vx_Met l yX4_kinds wsX4_kinds ({ frames := 8, cells := 1, slots := 6, locals := 123 } : Room) (va_Pc [.ref (ad 57), .int (nI i), .int x9] (PXZ dC dI ad S)) (fun _ _ _ _ => False) (XQ dC dI ad S IX) 1 6 (fun _ => False) := by
  refine vx_ofW (cc := cX4_kinds) (maxL := 4) (ret := (some .int)) (by decide) rfl ?_
  intro p e s m args below meth c s₁ B hml hex hv
  obtain ⟨rfl, hPZ⟩ := hv
  have hPX := hPZ.1
  have hx := B.exec
  have hb := B.bytes
  have hr := B.returns
  have hts := atoms_spec (ws := wsX4_kinds) B.pre
  have hown : s.vm.findClass RX4 = some m.cls := findClass_of_methodNamed B.named
  have hlocks := B.notSynchronized
  have hX := WX.of hPX
  have hl := lv_entry ([.ref (ad 57), .int (nI i), .int x9]) (n := 4) (Nat.le_of_ble_eq_true rfl)
  rw [lg_entry_eq]
  generalize (lg_sl ([.ref (ad 57), .int (nI i), .int x9]) ++ List.replicate (4 - (lg_sl ([.ref (ad 57), .int (nI i), .int x9])).length) Slot.unset).toArray = ls at hl ⊢
  have hl : lv_has ls 4 [(0, .ref (ad 57)), (1, .int (nI i)), (2, .int x9)] := hl
  show W p l e ({ frames := 8, cells := 1, slots := 6, locals := 123 } : Room) s m ([.ref (ad 57), .int (nI i), .int x9]).toArray below meth c s.heap [] 0 0 (vx_MQ below (fun _ _ _ _ => False) (XQ dC dI ad S IX) ([.ref (ad 57), .int (nI i), .int x9]).toArray s 1 6 (fun _ => False)) (F0 m 0 ls [])
  refine lv_aload_n hx hb dX4_kinds_0 rfl (lv_at hl 0 rfl) ?_
  refine lv_iload_n hx hb dX4_kinds_1 rfl (lv_at hl 1 rfl) ?_
  refine va_csr (va_Run.run (va_runV (As := [.int (nI i)]) (rest := []) ⟨hx, hb, hml, hown, hts⟩ (m_X4_rowAt l dC dI ad S i (by omega)) (cwV 1 hts gX4_kinds_X4_rowAt rfl rfl rfl hdX4_rowAt_1 ⟨Nat.le_of_ble_eq_true rfl, Nat.le_of_ble_eq_true rfl⟩) (hX.preTop 57 6 (by decide) (by decide) rfl rfl) rfl rfl hl.1 rfl (lv_room (Nat.le_of_ble_eq_true rfl)) dX4_kinds_2 ⟨Nat.le_of_ble_eq_true rfl, Nat.le_of_ble_eq_true rfl⟩)) (fun k_ hk_ => ?_)
  rw [hk_]
  refine lv_astore_n (lv' := [(3, .ref (ad (3 * i))), (0, .ref (ad 57)), (1, .int (nI i)), (2, .int x9)]) hx hb dX4_kinds_5 rfl hl (by decide) rfl (fun ls hl => ?_)
  refine lv_aload_n hx hb dX4_kinds_6 rfl (lv_at hl 0 rfl) ?_
  refine lv_aload_n hx hb dX4_kinds_7 rfl (lv_at hl 1 rfl) ?_
  refine lv_iload_n hx hb dX4_kinds_8 rfl (lv_at hl 3 rfl) ?_
  exact kx_pass (vx_runV (As := [.int x9]) (rest := [.ref (ad (3 * i))]) ⟨hx, hb, hml, hown, hts⟩ (t_X4_orderAt l hst dC dI ad S x9 hb9) (cwV 1 hts gX4_kinds_X4_orderAt rfl rfl rfl hdX4_orderAt_1 ⟨Nat.le_of_ble_eq_true rfl, Nat.le_of_ble_eq_true rfl⟩) (hPZ.preX) rfl rfl hl.1 rfl (lv_room (Nat.le_of_ble_eq_true rfl)) dX4_kinds_9 ⟨Nat.le_of_ble_eq_true rfl, Nat.le_of_ble_eq_true rfl⟩) hPX hex hlocks
set_option maxHeartbeats 4000000 in
set_option maxRecDepth 100000 in
theorem t_X4_ahead_1 (l : Launch) (hst : l.stackTraces = false) (dC : Nat → ClassId) (dI : Nat → Nat → Nat) (ad : Nat → Nat) (S : XS) (x9 : Int32) (y1 : Int32) (y2 : Int32) (hb9 : x9 < 0 ∨ nI 3 ≤ x9) : vx_Met l yX4_ahead wsX4_ahead ({ frames := 8, cells := 1, slots := 6, locals := 123 } : Room) (va_Pc [.ref (ad 57), .int x9, .int y1, .int y2] (PXZ dC dI ad S)) (fun _ _ _ _ => False) (XQ dC dI ad S IX) 1 6 (fun _ => False) := by
  refine vx_ofW (cc := cX4_ahead) (maxL := 6) (ret := (some .int)) (by decide) rfl ?_
  intro p e s m args below meth c s₁ B hml hex hv
  obtain ⟨rfl, hPZ⟩ := hv
  have hPX := hPZ.1
  have hx := B.exec
  have hb := B.bytes
  have hr := B.returns
  have hts := atoms_spec (ws := wsX4_ahead) B.pre
  have hown : s.vm.findClass RX4 = some m.cls := findClass_of_methodNamed B.named
  have hlocks := B.notSynchronized
  have hX := WX.of hPX
  have hl := lv_entry ([.ref (ad 57), .int x9, .int y1, .int y2]) (n := 6) (Nat.le_of_ble_eq_true rfl)
  rw [lg_entry_eq]
  generalize (lg_sl ([.ref (ad 57), .int x9, .int y1, .int y2]) ++ List.replicate (6 - (lg_sl ([.ref (ad 57), .int x9, .int y1, .int y2])).length) Slot.unset).toArray = ls at hl ⊢
  have hl : lv_has ls 6 [(0, .ref (ad 57)), (1, .int x9), (2, .int y1), (3, .int y2)] := hl
  show W p l e ({ frames := 8, cells := 1, slots := 6, locals := 123 } : Room) s m ([.ref (ad 57), .int x9, .int y1, .int y2]).toArray below meth c s.heap [] 0 0 (vx_MQ below (fun _ _ _ _ => False) (XQ dC dI ad S IX) ([.ref (ad 57), .int x9, .int y1, .int y2]).toArray s 1 6 (fun _ => False)) (F0 m 0 ls [])
  refine lv_aload_n hx hb dX4_ahead_0 rfl (lv_at hl 0 rfl) ?_
  refine lv_iload_n hx hb dX4_ahead_1 rfl (lv_at hl 1 rfl) ?_
  exact kx_pass (vx_runV (As := [.int x9]) (rest := []) ⟨hx, hb, hml, hown, hts⟩ (t_X4_rowAt l hst dC dI ad S x9 hb9) (cwV 1 hts gX4_ahead_X4_rowAt rfl rfl rfl hdX4_rowAt_1 ⟨Nat.le_of_ble_eq_true rfl, Nat.le_of_ble_eq_true rfl⟩) (hPZ.preX) rfl rfl hl.1 rfl (lv_room (Nat.le_of_ble_eq_true rfl)) dX4_ahead_2 ⟨Nat.le_of_ble_eq_true rfl, Nat.le_of_ble_eq_true rfl⟩) hPX hex hlocks
set_option maxHeartbeats 4000000 in
set_option maxRecDepth 100000 in
theorem t_X4_ahead_2 (l : Launch) (hst : l.stackTraces = false) (dC : Nat → ClassId) (dI : Nat → Nat → Nat) (ad : Nat → Nat) (S : XS) (i : Nat) (x9 : Int32) (y2 : Int32) (hi : i < 3) (hb9 : x9 < 0 ∨ nI 4 ≤ x9) : vx_Met l yX4_ahead wsX4_ahead ({ frames := 8, cells := 1, slots := 6, locals := 123 } : Room) (va_Pc [.ref (ad 57), .int (nI i), .int x9, .int y2] (PXZ dC dI ad S)) (fun _ _ _ _ => False) (XQ dC dI ad S IX) 1 6 (fun _ => False) := by
  refine vx_ofW (cc := cX4_ahead) (maxL := 6) (ret := (some .int)) (by decide) rfl ?_
  intro p e s m args below meth c s₁ B hml hex hv
  obtain ⟨rfl, hPZ⟩ := hv
  have hPX := hPZ.1
  have hx := B.exec
  have hb := B.bytes
  have hr := B.returns
  have hts := atoms_spec (ws := wsX4_ahead) B.pre
  have hown : s.vm.findClass RX4 = some m.cls := findClass_of_methodNamed B.named
  have hlocks := B.notSynchronized
  have hX := WX.of hPX
  have hl := lv_entry ([.ref (ad 57), .int (nI i), .int x9, .int y2]) (n := 6) (Nat.le_of_ble_eq_true rfl)
  rw [lg_entry_eq]
  generalize (lg_sl ([.ref (ad 57), .int (nI i), .int x9, .int y2]) ++ List.replicate (6 - (lg_sl ([.ref (ad 57), .int (nI i), .int x9, .int y2])).length) Slot.unset).toArray = ls at hl ⊢
  have hl : lv_has ls 6 [(0, .ref (ad 57)), (1, .int (nI i)), (2, .int x9), (3, .int y2)] := hl
  show W p l e ({ frames := 8, cells := 1, slots := 6, locals := 123 } : Room) s m ([.ref (ad 57), .int (nI i), .int x9, .int y2]).toArray below meth c s.heap [] 0 0 (vx_MQ below (fun _ _ _ _ => False) (XQ dC dI ad S IX) ([.ref (ad 57), .int (nI i), .int x9, .int y2]).toArray s 1 6 (fun _ => False)) (F0 m 0 ls [])
  refine lv_aload_n hx hb dX4_ahead_0 rfl (lv_at hl 0 rfl) ?_
  refine lv_iload_n hx hb dX4_ahead_1 rfl (lv_at hl 1 rfl) ?_
  refine va_csr (va_Run.run (va_runV (As := [.int (nI i)]) (rest := []) ⟨hx, hb, hml, hown, hts⟩ (m_X4_rowAt l dC dI ad S i (by omega)) (cwV 1 hts gX4_ahead_X4_rowAt rfl rfl rfl hdX4_rowAt_1 ⟨Nat.le_of_ble_eq_true rfl, Nat.le_of_ble_eq_true rfl⟩) (hX.preTop 57 6 (by decide) (by decide) rfl rfl) rfl rfl hl.1 rfl (lv_room (Nat.le_of_ble_eq_true rfl)) dX4_ahead_2 ⟨Nat.le_of_ble_eq_true rfl, Nat.le_of_ble_eq_true rfl⟩)) (fun k_ hk_ => ?_)
  rw [hk_]
  refine lv_astore (lv' := [(4, .ref (ad (3 * i))), (0, .ref (ad 57)), (1, .int (nI i)), (2, .int x9), (3, .int y2)]) hx hb dX4_ahead_5 hl (by decide) rfl (fun ls hl => ?_)
  refine lv_aload_n hx hb dX4_ahead_7 rfl (lv_at hl 1 rfl) ?_
  refine lv_iload_n hx hb dX4_ahead_8 rfl (lv_at hl 3 rfl) ?_
  exact kx_pass (vx_runV (As := [.int x9]) (rest := []) ⟨hx, hb, hml, hown, hts⟩ (t_X4_orderAt l hst dC dI ad S x9 hb9) (cwV 1 hts gX4_ahead_X4_orderAt rfl rfl rfl hdX4_orderAt_1 ⟨Nat.le_of_ble_eq_true rfl, Nat.le_of_ble_eq_true rfl⟩) (hPZ.preX) rfl rfl hl.1 rfl (lv_room (Nat.le_of_ble_eq_true rfl)) dX4_ahead_9 ⟨Nat.le_of_ble_eq_true rfl, Nat.le_of_ble_eq_true rfl⟩) hPX hex hlocks
set_option maxHeartbeats 4000000 in
set_option maxRecDepth 100000 in
theorem t_X4_ahead_3 (l : Launch) (hst : l.stackTraces = false) (dC : Nat → ClassId) (dI : Nat → Nat → Nat) (ad : Nat → Nat) (S : XS) (i : Nat) (j : Nat) (x9 : Int32) (hi : i < 3) (hj : j < 4) (hb9 : x9 < 0 ∨ nI 15 < x9) : vx_Met l yX4_ahead wsX4_ahead ({ frames := 8, cells := 1, slots := 6, locals := 123 } : Room) (va_Pc [.ref (ad 57), .int (nI i), .int (nI j), .int x9] (PXZ dC dI ad S)) (fun _ _ _ _ => False) (XQ dC dI ad S IA) 1 6 (fun _ => False) := by
  refine vx_ofW (cc := cX4_ahead) (maxL := 6) (ret := (some .int)) (by decide) rfl ?_
  intro p e s m args below meth c s₁ B hml hex hv
  obtain ⟨rfl, hPZ⟩ := hv
  have hPX := hPZ.1
  have hx := B.exec
  have hb := B.bytes
  have hr := B.returns
  have hts := atoms_spec (ws := wsX4_ahead) B.pre
  have hown : s.vm.findClass RX4 = some m.cls := findClass_of_methodNamed B.named
  have hlocks := B.notSynchronized
  have hX := WX.of hPX
  have hl := lv_entry ([.ref (ad 57), .int (nI i), .int (nI j), .int x9]) (n := 6) (Nat.le_of_ble_eq_true rfl)
  rw [lg_entry_eq]
  generalize (lg_sl ([.ref (ad 57), .int (nI i), .int (nI j), .int x9]) ++ List.replicate (6 - (lg_sl ([.ref (ad 57), .int (nI i), .int (nI j), .int x9])).length) Slot.unset).toArray = ls at hl ⊢
  have hl : lv_has ls 6 [(0, .ref (ad 57)), (1, .int (nI i)), (2, .int (nI j)), (3, .int x9)] := hl
  show W p l e ({ frames := 8, cells := 1, slots := 6, locals := 123 } : Room) s m ([.ref (ad 57), .int (nI i), .int (nI j), .int x9]).toArray below meth c s.heap [] 0 0 (vx_MQ below (fun _ _ _ _ => False) (XQ dC dI ad S IA) ([.ref (ad 57), .int (nI i), .int (nI j), .int x9]).toArray s 1 6 (fun _ => False)) (F0 m 0 ls [])
  refine lv_aload_n hx hb dX4_ahead_0 rfl (lv_at hl 0 rfl) ?_
  refine lv_iload_n hx hb dX4_ahead_1 rfl (lv_at hl 1 rfl) ?_
  refine va_csr (va_Run.run (va_runV (As := [.int (nI i)]) (rest := []) ⟨hx, hb, hml, hown, hts⟩ (m_X4_rowAt l dC dI ad S i (by omega)) (cwV 1 hts gX4_ahead_X4_rowAt rfl rfl rfl hdX4_rowAt_1 ⟨Nat.le_of_ble_eq_true rfl, Nat.le_of_ble_eq_true rfl⟩) (hX.preTop 57 6 (by decide) (by decide) rfl rfl) rfl rfl hl.1 rfl (lv_room (Nat.le_of_ble_eq_true rfl)) dX4_ahead_2 ⟨Nat.le_of_ble_eq_true rfl, Nat.le_of_ble_eq_true rfl⟩)) (fun k_ hk_ => ?_)
  rw [hk_]
  refine lv_astore (lv' := [(4, .ref (ad (3 * i))), (0, .ref (ad 57)), (1, .int (nI i)), (2, .int (nI j)), (3, .int x9)]) hx hb dX4_ahead_5 hl (by decide) rfl (fun ls hl => ?_)
  refine lv_aload_n hx hb dX4_ahead_7 rfl (lv_at hl 1 rfl) ?_
  refine lv_iload_n hx hb dX4_ahead_8 rfl (lv_at hl 3 rfl) ?_
  refine va_csr (va_Run.run (va_runV (As := [.int (nI j)]) (rest := []) ⟨hx, hb, hml, hown, hts⟩ (m_X4_orderAt l dC dI ad S j (by omega)) (cwV 1 hts gX4_ahead_X4_orderAt rfl rfl rfl hdX4_orderAt_1 ⟨Nat.le_of_ble_eq_true rfl, Nat.le_of_ble_eq_true rfl⟩) (hX.preTop 57 6 (by decide) (by decide) rfl rfl) rfl rfl hl.1 rfl (lv_room (Nat.le_of_ble_eq_true rfl)) dX4_ahead_9 ⟨Nat.le_of_ble_eq_true rfl, Nat.le_of_ble_eq_true rfl⟩)) (fun k_ hk_ => ?_)
  rw [hk_]
  refine lv_astore (lv' := [(5, .ref (ad (24 + 5 * j))), (4, .ref (ad (3 * i))), (0, .ref (ad 57)), (1, .int (nI i)), (2, .int (nI j)), (3, .int x9)]) hx hb dX4_ahead_12 hl (by decide) rfl (fun ls hl => ?_)
  refine lv_iload_n hx hb dX4_ahead_14 rfl (lv_at hl 5 rfl) ?_
  exact kx_pass (vx_runS (As := [.int x9]) (rest := []) ⟨hx, hb, hml, hown, hts⟩ (t_X4_demandValue l hst dC dI ad S x9 hb9) (va_cwS 1 hts gX4_ahead_X4_demandValue rfl rfl rfl hdX4_demandValue_1.2 ⟨Nat.le_of_ble_eq_true rfl, Nat.le_of_ble_eq_true rfl⟩) hPZ.preS rfl rfl hl.1 rfl (lv_room (Nat.le_of_ble_eq_true rfl)) dX4_ahead_15 ⟨Nat.le_of_ble_eq_true rfl, Nat.le_of_ble_eq_true rfl⟩) hPX hex hlocks
set_option maxHeartbeats 4000000 in
set_option maxRecDepth 100000 in
theorem t_X4_groups_1 (l : Launch) (hst : l.stackTraces = false) (dC : Nat → ClassId) (dI : Nat → Nat → Nat) (ad : Nat → Nat) (S : XS) (x9 : Int32) (y1 : Int32) (hb9 : x9 < 0 ∨ nI 3 ≤ x9) : vx_Met l yX4_groups wsX4_groups ({ frames := 8, cells := 1, slots := 6, locals := 123 } : Room) (va_Pc [.ref (ad 57), .int x9, .int y1] (PXZ dC dI ad S)) (fun _ _ _ _ => False) (XQ dC dI ad S IX) 1 6 (fun _ => False) := by
  refine vx_ofW (cc := cX4_groups) (maxL := 4) (ret := (some (.object "java/lang/String"))) (by decide) rfl ?_
  intro p e s m args below meth c s₁ B hml hex hv
  obtain ⟨rfl, hPZ⟩ := hv
  have hPX := hPZ.1
  have hx := B.exec
  have hb := B.bytes
  have hr := B.returns
  have hts := atoms_spec (ws := wsX4_groups) B.pre
  have hown : s.vm.findClass RX4 = some m.cls := findClass_of_methodNamed B.named
  have hlocks := B.notSynchronized
  have hX := WX.of hPX
  have hl := lv_entry ([.ref (ad 57), .int x9, .int y1]) (n := 4) (Nat.le_of_ble_eq_true rfl)
  rw [lg_entry_eq]
  generalize (lg_sl ([.ref (ad 57), .int x9, .int y1]) ++ List.replicate (4 - (lg_sl ([.ref (ad 57), .int x9, .int y1])).length) Slot.unset).toArray = ls at hl ⊢
  have hl : lv_has ls 4 [(0, .ref (ad 57)), (1, .int x9), (2, .int y1)] := hl
  show W p l e ({ frames := 8, cells := 1, slots := 6, locals := 123 } : Room) s m ([.ref (ad 57), .int x9, .int y1]).toArray below meth c s.heap [] 0 0 (vx_MQ below (fun _ _ _ _ => False) (XQ dC dI ad S IX) ([.ref (ad 57), .int x9, .int y1]).toArray s 1 6 (fun _ => False)) (F0 m 0 ls [])
  refine lv_aload_n hx hb dX4_groups_0 rfl (lv_at hl 0 rfl) ?_
  refine lv_iload_n hx hb dX4_groups_1 rfl (lv_at hl 1 rfl) ?_
  exact kx_pass (vx_runV (As := [.int x9]) (rest := []) ⟨hx, hb, hml, hown, hts⟩ (t_X4_rowAt l hst dC dI ad S x9 hb9) (cwV 1 hts gX4_groups_X4_rowAt rfl rfl rfl hdX4_rowAt_1 ⟨Nat.le_of_ble_eq_true rfl, Nat.le_of_ble_eq_true rfl⟩) (hPZ.preX) rfl rfl hl.1 rfl (lv_room (Nat.le_of_ble_eq_true rfl)) dX4_groups_2 ⟨Nat.le_of_ble_eq_true rfl, Nat.le_of_ble_eq_true rfl⟩) hPX hex hlocks
set_option maxHeartbeats 4000000 in
set_option maxRecDepth 100000 in
theorem t_X4_groups_2 (l : Launch) (hst : l.stackTraces = false) (dC : Nat → ClassId) (dI : Nat → Nat → Nat) (ad : Nat → Nat) (S : XS) (i : Nat) (x9 : Int32) (hi : i < 3) (hb9 : x9 < 0 ∨ nI 4 ≤ x9) : vx_Met l yX4_groups wsX4_groups ({ frames := 8, cells := 1, slots := 6, locals := 123 } : Room) (va_Pc [.ref (ad 57), .int (nI i), .int x9] (PXZ dC dI ad S)) (fun _ _ _ _ => False) (XQ dC dI ad S IX) 1 6 (fun _ => False) := by
  refine vx_ofW (cc := cX4_groups) (maxL := 4) (ret := (some (.object "java/lang/String"))) (by decide) rfl ?_
  intro p e s m args below meth c s₁ B hml hex hv
  obtain ⟨rfl, hPZ⟩ := hv
  have hPX := hPZ.1
  have hx := B.exec
  have hb := B.bytes
  have hr := B.returns
  have hts := atoms_spec (ws := wsX4_groups) B.pre
  have hown : s.vm.findClass RX4 = some m.cls := findClass_of_methodNamed B.named
  have hlocks := B.notSynchronized
  have hX := WX.of hPX
  have hl := lv_entry ([.ref (ad 57), .int (nI i), .int x9]) (n := 4) (Nat.le_of_ble_eq_true rfl)
  rw [lg_entry_eq]
  generalize (lg_sl ([.ref (ad 57), .int (nI i), .int x9]) ++ List.replicate (4 - (lg_sl ([.ref (ad 57), .int (nI i), .int x9])).length) Slot.unset).toArray = ls at hl ⊢
  have hl : lv_has ls 4 [(0, .ref (ad 57)), (1, .int (nI i)), (2, .int x9)] := hl
  show W p l e ({ frames := 8, cells := 1, slots := 6, locals := 123 } : Room) s m ([.ref (ad 57), .int (nI i), .int x9]).toArray below meth c s.heap [] 0 0 (vx_MQ below (fun _ _ _ _ => False) (XQ dC dI ad S IX) ([.ref (ad 57), .int (nI i), .int x9]).toArray s 1 6 (fun _ => False)) (F0 m 0 ls [])
  refine lv_aload_n hx hb dX4_groups_0 rfl (lv_at hl 0 rfl) ?_
  refine lv_iload_n hx hb dX4_groups_1 rfl (lv_at hl 1 rfl) ?_
  refine va_csr (va_Run.run (va_runV (As := [.int (nI i)]) (rest := []) ⟨hx, hb, hml, hown, hts⟩ (m_X4_rowAt l dC dI ad S i (by omega)) (cwV 1 hts gX4_groups_X4_rowAt rfl rfl rfl hdX4_rowAt_1 ⟨Nat.le_of_ble_eq_true rfl, Nat.le_of_ble_eq_true rfl⟩) (hX.preTop 57 6 (by decide) (by decide) rfl rfl) rfl rfl hl.1 rfl (lv_room (Nat.le_of_ble_eq_true rfl)) dX4_groups_2 ⟨Nat.le_of_ble_eq_true rfl, Nat.le_of_ble_eq_true rfl⟩)) (fun k_ hk_ => ?_)
  rw [hk_]
  refine lv_astore_n (lv' := [(3, .ref (ad (3 * i))), (0, .ref (ad 57)), (1, .int (nI i)), (2, .int x9)]) hx hb dX4_groups_5 rfl hl (by decide) rfl (fun ls hl => ?_)
  refine lv_aload_n hx hb dX4_groups_6 rfl (lv_at hl 0 rfl) ?_
  refine lv_aload_n hx hb dX4_groups_7 rfl (lv_at hl 1 rfl) ?_
  refine lv_iload_n hx hb dX4_groups_8 rfl (lv_at hl 3 rfl) ?_
  exact kx_pass (vx_runV (As := [.int x9]) (rest := [.ref (ad (3 * i))]) ⟨hx, hb, hml, hown, hts⟩ (t_X4_orderAt l hst dC dI ad S x9 hb9) (cwV 1 hts gX4_groups_X4_orderAt rfl rfl rfl hdX4_orderAt_1 ⟨Nat.le_of_ble_eq_true rfl, Nat.le_of_ble_eq_true rfl⟩) (hPZ.preX) rfl rfl hl.1 rfl (lv_room (Nat.le_of_ble_eq_true rfl)) dX4_groups_9 ⟨Nat.le_of_ble_eq_true rfl, Nat.le_of_ble_eq_true rfl⟩) hPX hex hlocks
set_option maxHeartbeats 4000000 in
set_option maxRecDepth 100000 in
theorem t_X4_ranks_1 (l : Launch) (hst : l.stackTraces = false) (dC : Nat → ClassId) (dI : Nat → Nat → Nat) (ad : Nat → Nat) (S : XS) (x9 : Int32) (y1 : Int32) (z : Bool) (hb9 : x9 < 0 ∨ nI 3 ≤ x9) : vx_Met l yX4_ranks wsX4_ranks ({ frames := 8, cells := 1, slots := 6, locals := 123 } : Room) (va_Pc [.ref (ad 57), .int x9, .int y1, .int (bI z)] (PXZ dC dI ad S)) (fun _ _ _ _ => False) (XQ dC dI ad S IX) 1 6 (fun _ => False) := by
  refine vx_ofW (cc := cX4_ranks) (maxL := 9) (ret := (some (.object "java/lang/String"))) (by decide) rfl ?_
  intro p e s m args below meth c s₁ B hml hex hv
  obtain ⟨rfl, hPZ⟩ := hv
  have hPX := hPZ.1
  have hx := B.exec
  have hb := B.bytes
  have hr := B.returns
  have hts := atoms_spec (ws := wsX4_ranks) B.pre
  have hown : s.vm.findClass RX4 = some m.cls := findClass_of_methodNamed B.named
  have hlocks := B.notSynchronized
  have hin4 : ∀ w ∈ u_ws RX4 TX4 9, w ∈ wsX4_ranks := tu 1328 (by decide +kernel) rfl
  have hX := WX.of hPX
  have hl := lv_entry ([.ref (ad 57), .int x9, .int y1, .int (bI z)]) (n := 9) (Nat.le_of_ble_eq_true rfl)
  rw [lg_entry_eq]
  generalize (lg_sl ([.ref (ad 57), .int x9, .int y1, .int (bI z)]) ++ List.replicate (9 - (lg_sl ([.ref (ad 57), .int x9, .int y1, .int (bI z)])).length) Slot.unset).toArray = ls at hl ⊢
  have hl : lv_has ls 9 [(0, .ref (ad 57)), (1, .int x9), (2, .int y1), (3, .int (bI z))] := hl
  show W p l e ({ frames := 8, cells := 1, slots := 6, locals := 123 } : Room) s m ([.ref (ad 57), .int x9, .int y1, .int (bI z)]).toArray below meth c s.heap [] 0 0 (vx_MQ below (fun _ _ _ _ => False) (XQ dC dI ad S IX) ([.ref (ad 57), .int x9, .int y1, .int (bI z)]).toArray s 1 6 (fun _ => False)) (F0 m 0 ls [])
  refine lv_aload_n hx hb dX4_ranks_0 rfl (lv_at hl 0 rfl) ?_
  refine lv_iload_n hx hb dX4_ranks_1 rfl (lv_at hl 1 rfl) ?_
  exact kx_pass (vx_runV (As := [.int x9]) (rest := []) ⟨hx, hb, hml, hown, hts⟩ (t_X4_rowAt l hst dC dI ad S x9 hb9) (cwV 1 hts gX4_ranks_X4_rowAt rfl rfl rfl hdX4_rowAt_1 ⟨Nat.le_of_ble_eq_true rfl, Nat.le_of_ble_eq_true rfl⟩) (hPZ.preX) rfl rfl hl.1 rfl (lv_room (Nat.le_of_ble_eq_true rfl)) dX4_ranks_2 ⟨Nat.le_of_ble_eq_true rfl, Nat.le_of_ble_eq_true rfl⟩) hPX hex hlocks
set_option maxHeartbeats 4000000 in
set_option maxRecDepth 100000 in
theorem t_X4_ranks_2 (l : Launch) (hst : l.stackTraces = false) (dC : Nat → ClassId) (dI : Nat → Nat → Nat) (ad : Nat → Nat) (S : XS) (i : Nat) (x9 : Int32) (z : Bool) (hi : i < 3) (hb9 : x9 < 0 ∨ nI 4 ≤ x9) : vx_Met l yX4_ranks wsX4_ranks ({ frames := 8, cells := 1, slots := 6, locals := 123 } : Room) (va_Pc [.ref (ad 57), .int (nI i), .int x9, .int (bI z)] (PXZ dC dI ad S)) (fun _ _ _ _ => False) (XQ dC dI ad S IX) 1 6 (fun _ => False) := by
  refine vx_ofW (cc := cX4_ranks) (maxL := 9) (ret := (some (.object "java/lang/String"))) (by decide) rfl ?_
  intro p e s m args below meth c s₁ B hml hex hv
  obtain ⟨rfl, hPZ⟩ := hv
  have hPX := hPZ.1
  have hx := B.exec
  have hb := B.bytes
  have hr := B.returns
  have hts := atoms_spec (ws := wsX4_ranks) B.pre
  have hown : s.vm.findClass RX4 = some m.cls := findClass_of_methodNamed B.named
  have hlocks := B.notSynchronized
  have hin4 : ∀ w ∈ u_ws RX4 TX4 9, w ∈ wsX4_ranks := tu 1328 (by decide +kernel) rfl
  have hX := WX.of hPX
  have hl := lv_entry ([.ref (ad 57), .int (nI i), .int x9, .int (bI z)]) (n := 9) (Nat.le_of_ble_eq_true rfl)
  rw [lg_entry_eq]
  generalize (lg_sl ([.ref (ad 57), .int (nI i), .int x9, .int (bI z)]) ++ List.replicate (9 - (lg_sl ([.ref (ad 57), .int (nI i), .int x9, .int (bI z)])).length) Slot.unset).toArray = ls at hl ⊢
  have hl : lv_has ls 9 [(0, .ref (ad 57)), (1, .int (nI i)), (2, .int x9), (3, .int (bI z))] := hl
  show W p l e ({ frames := 8, cells := 1, slots := 6, locals := 123 } : Room) s m ([.ref (ad 57), .int (nI i), .int x9, .int (bI z)]).toArray below meth c s.heap [] 0 0 (vx_MQ below (fun _ _ _ _ => False) (XQ dC dI ad S IX) ([.ref (ad 57), .int (nI i), .int x9, .int (bI z)]).toArray s 1 6 (fun _ => False)) (F0 m 0 ls [])
  refine lv_aload_n hx hb dX4_ranks_0 rfl (lv_at hl 0 rfl) ?_
  refine lv_iload_n hx hb dX4_ranks_1 rfl (lv_at hl 1 rfl) ?_
  refine va_csr (va_Run.run (va_runV (As := [.int (nI i)]) (rest := []) ⟨hx, hb, hml, hown, hts⟩ (m_X4_rowAt l dC dI ad S i (by omega)) (cwV 1 hts gX4_ranks_X4_rowAt rfl rfl rfl hdX4_rowAt_1 ⟨Nat.le_of_ble_eq_true rfl, Nat.le_of_ble_eq_true rfl⟩) (hX.preTop 57 6 (by decide) (by decide) rfl rfl) rfl rfl hl.1 rfl (lv_room (Nat.le_of_ble_eq_true rfl)) dX4_ranks_2 ⟨Nat.le_of_ble_eq_true rfl, Nat.le_of_ble_eq_true rfl⟩)) (fun k_ hk_ => ?_)
  rw [hk_]
  refine lv_astore (lv' := [(4, .ref (ad (3 * i))), (0, .ref (ad 57)), (1, .int (nI i)), (2, .int x9), (3, .int (bI z))]) hx hb dX4_ranks_5 hl (by decide) rfl (fun ls hl => ?_)
  refine lv_aload_n hx hb dX4_ranks_7 rfl (lv_at hl 1 rfl) ?_
  refine lv_iload_n hx hb dX4_ranks_8 rfl (lv_at hl 3 rfl) ?_
  exact kx_pass (vx_runV (As := [.int x9]) (rest := []) ⟨hx, hb, hml, hown, hts⟩ (t_X4_orderAt l hst dC dI ad S x9 hb9) (cwV 1 hts gX4_ranks_X4_orderAt rfl rfl rfl hdX4_orderAt_1 ⟨Nat.le_of_ble_eq_true rfl, Nat.le_of_ble_eq_true rfl⟩) (hPZ.preX) rfl rfl hl.1 rfl (lv_room (Nat.le_of_ble_eq_true rfl)) dX4_ranks_9 ⟨Nat.le_of_ble_eq_true rfl, Nat.le_of_ble_eq_true rfl⟩) hPX hex hlocks
set_option maxHeartbeats 4000000 in
set_option maxRecDepth 100000 in
theorem t_X4_step_1 (l : Launch) (hst : l.stackTraces = false) (dC : Nat → ClassId) (dI : Nat → Nat → Nat) (ad : Nat → Nat) (S : XS) (x9 : Int32) (y1 : Int32) (z : Bool) (hb9 : x9 < 0 ∨ nI 4 ≤ x9) : vx_Met l yX4_step wsX4_step ({ frames := 8, cells := 1, slots := 6, locals := 123 } : Room) (va_Pc [.ref (ad 57), .int x9, .int y1, .int (bI z)] (PXZ dC dI ad S)) (fun _ _ _ _ => False) (XQ dC dI ad S IX) 1 6 (fun _ => False) := by
  refine vx_ofW (cc := cX4_step) (maxL := 5) (ret := (some .int)) (by decide) rfl ?_
  intro p e s m args below meth c s₁ B hml hex hv
  obtain ⟨rfl, hPZ⟩ := hv
  have hPX := hPZ.1
  have hx := B.exec
  have hb := B.bytes
  have hr := B.returns
  have hts := atoms_spec (ws := wsX4_step) B.pre
  have hown : s.vm.findClass RX4 = some m.cls := findClass_of_methodNamed B.named
  have hlocks := B.notSynchronized
  have hX := WX.of hPX
  have hl := lv_entry ([.ref (ad 57), .int x9, .int y1, .int (bI z)]) (n := 5) (Nat.le_of_ble_eq_true rfl)
  rw [lg_entry_eq]
  generalize (lg_sl ([.ref (ad 57), .int x9, .int y1, .int (bI z)]) ++ List.replicate (5 - (lg_sl ([.ref (ad 57), .int x9, .int y1, .int (bI z)])).length) Slot.unset).toArray = ls at hl ⊢
  have hl : lv_has ls 5 [(0, .ref (ad 57)), (1, .int x9), (2, .int y1), (3, .int (bI z))] := hl
  show W p l e ({ frames := 8, cells := 1, slots := 6, locals := 123 } : Room) s m ([.ref (ad 57), .int x9, .int y1, .int (bI z)]).toArray below meth c s.heap [] 0 0 (vx_MQ below (fun _ _ _ _ => False) (XQ dC dI ad S IX) ([.ref (ad 57), .int x9, .int y1, .int (bI z)]).toArray s 1 6 (fun _ => False)) (F0 m 0 ls [])
  refine lv_aload_n hx hb dX4_step_0 rfl (lv_at hl 0 rfl) ?_
  refine lv_iload_n hx hb dX4_step_1 rfl (lv_at hl 1 rfl) ?_
  exact kx_pass (vx_runV (As := [.int x9]) (rest := []) ⟨hx, hb, hml, hown, hts⟩ (t_X4_orderAt l hst dC dI ad S x9 hb9) (cwV 1 hts gX4_step_X4_orderAt rfl rfl rfl hdX4_orderAt_1 ⟨Nat.le_of_ble_eq_true rfl, Nat.le_of_ble_eq_true rfl⟩) (hPZ.preX) rfl rfl hl.1 rfl (lv_room (Nat.le_of_ble_eq_true rfl)) dX4_step_2 ⟨Nat.le_of_ble_eq_true rfl, Nat.le_of_ble_eq_true rfl⟩) hPX hex hlocks
set_option maxHeartbeats 4000000 in
set_option maxRecDepth 100000 in
theorem t_X4_step_2 (l : Launch) (hst : l.stackTraces = false) (dC : Nat → ClassId) (dI : Nat → Nat → Nat) (ad : Nat → Nat) (S : XS) (j : Nat) (x9 : Int32) (z : Bool) (hj : j < 4) (hb9 : x9 < 0 ∨ nI 7 < x9) : vx_Met l yX4_step wsX4_step ({ frames := 8, cells := 1, slots := 6, locals := 123 } : Room) (va_Pc [.ref (ad 57), .int (nI j), .int x9, .int (bI z)] (PXZ dC dI ad S)) (fun _ _ _ _ => False) (XQ dC dI ad S IA) 1 6 (fun _ => False) := by
  refine vx_ofW (cc := cX4_step) (maxL := 5) (ret := (some .int)) (by decide) rfl ?_
  intro p e s m args below meth c s₁ B hml hex hv
  obtain ⟨rfl, hPZ⟩ := hv
  have hPX := hPZ.1
  have hx := B.exec
  have hb := B.bytes
  have hr := B.returns
  have hts := atoms_spec (ws := wsX4_step) B.pre
  have hown : s.vm.findClass RX4 = some m.cls := findClass_of_methodNamed B.named
  have hlocks := B.notSynchronized
  have hX := WX.of hPX
  have hl := lv_entry ([.ref (ad 57), .int (nI j), .int x9, .int (bI z)]) (n := 5) (Nat.le_of_ble_eq_true rfl)
  rw [lg_entry_eq]
  generalize (lg_sl ([.ref (ad 57), .int (nI j), .int x9, .int (bI z)]) ++ List.replicate (5 - (lg_sl ([.ref (ad 57), .int (nI j), .int x9, .int (bI z)])).length) Slot.unset).toArray = ls at hl ⊢
  have hl : lv_has ls 5 [(0, .ref (ad 57)), (1, .int (nI j)), (2, .int x9), (3, .int (bI z))] := hl
  show W p l e ({ frames := 8, cells := 1, slots := 6, locals := 123 } : Room) s m ([.ref (ad 57), .int (nI j), .int x9, .int (bI z)]).toArray below meth c s.heap [] 0 0 (vx_MQ below (fun _ _ _ _ => False) (XQ dC dI ad S IA) ([.ref (ad 57), .int (nI j), .int x9, .int (bI z)]).toArray s 1 6 (fun _ => False)) (F0 m 0 ls [])
  refine lv_aload_n hx hb dX4_step_0 rfl (lv_at hl 0 rfl) ?_
  refine lv_iload_n hx hb dX4_step_1 rfl (lv_at hl 1 rfl) ?_
  refine va_csr (va_Run.run (va_runV (As := [.int (nI j)]) (rest := []) ⟨hx, hb, hml, hown, hts⟩ (m_X4_orderAt l dC dI ad S j (by omega)) (cwV 1 hts gX4_step_X4_orderAt rfl rfl rfl hdX4_orderAt_1 ⟨Nat.le_of_ble_eq_true rfl, Nat.le_of_ble_eq_true rfl⟩) (hX.preTop 57 6 (by decide) (by decide) rfl rfl) rfl rfl hl.1 rfl (lv_room (Nat.le_of_ble_eq_true rfl)) dX4_step_2 ⟨Nat.le_of_ble_eq_true rfl, Nat.le_of_ble_eq_true rfl⟩)) (fun k_ hk_ => ?_)
  rw [hk_]
  refine lv_astore (lv' := [(4, .ref (ad (24 + 5 * j))), (0, .ref (ad 57)), (1, .int (nI j)), (2, .int x9), (3, .int (bI z))]) hx hb dX4_step_5 hl (by decide) rfl (fun ls hl => ?_)
  refine lv_iload_n hx hb dX4_step_7 rfl (lv_at hl 3 rfl) ?_
  refine lv_bipush (v := nI 7) hx hb dX4_step_8 (by decide) ?_
  exact kx_pass (vx_runS (As := [.int x9, .int (nI 7)]) (rest := []) ⟨hx, hb, hml, hown, hts⟩ (t_X4_demandWithin l hst dC dI ad S x9 7 (by omega) hb9) (va_cwS 2 hts gX4_step_X4_demandWithin rfl rfl rfl hdX4_demandWithin_2.2 ⟨Nat.le_of_ble_eq_true rfl, Nat.le_of_ble_eq_true rfl⟩) hPZ.preS rfl rfl hl.1 rfl (lv_room (Nat.le_of_ble_eq_true rfl)) dX4_step_10 ⟨Nat.le_of_ble_eq_true rfl, Nat.le_of_ble_eq_true rfl⟩) hPX hex hlocks
set_option maxHeartbeats 4000000 in
set_option maxRecDepth 100000 in
theorem t_X4_unstep_1 (l : Launch) (hst : l.stackTraces = false) (dC : Nat → ClassId) (dI : Nat → Nat → Nat) (ad : Nat → Nat) (S : XS) (x9 : Int32) (hb9 : x9 < 0 ∨ nI 4 ≤ x9) : vx_Met l yX4_unstep wsX4_unstep ({ frames := 8, cells := 1, slots := 6, locals := 123 } : Room) (va_Pc [.ref (ad 57), .int x9] (PXZ dC dI ad S)) (fun _ _ _ _ => False) (XQ dC dI ad S IX) 1 6 (fun _ => False) := by
  refine vx_ofW (cc := cX4_unstep) (maxL := 4) (ret := (some .int)) (by decide) rfl ?_
  intro p e s m args below meth c s₁ B hml hex hv
  obtain ⟨rfl, hPZ⟩ := hv
  have hPX := hPZ.1
  have hx := B.exec
  have hb := B.bytes
  have hr := B.returns
  have hts := atoms_spec (ws := wsX4_unstep) B.pre
  have hown : s.vm.findClass RX4 = some m.cls := findClass_of_methodNamed B.named
  have hlocks := B.notSynchronized
  have hX := WX.of hPX
  have hl := lv_entry ([.ref (ad 57), .int x9]) (n := 4) (Nat.le_of_ble_eq_true rfl)
  rw [lg_entry_eq]
  generalize (lg_sl ([.ref (ad 57), .int x9]) ++ List.replicate (4 - (lg_sl ([.ref (ad 57), .int x9])).length) Slot.unset).toArray = ls at hl ⊢
  have hl : lv_has ls 4 [(0, .ref (ad 57)), (1, .int x9)] := hl
  show W p l e ({ frames := 8, cells := 1, slots := 6, locals := 123 } : Room) s m ([.ref (ad 57), .int x9]).toArray below meth c s.heap [] 0 0 (vx_MQ below (fun _ _ _ _ => False) (XQ dC dI ad S IX) ([.ref (ad 57), .int x9]).toArray s 1 6 (fun _ => False)) (F0 m 0 ls [])
  refine lv_aload_n hx hb dX4_unstep_0 rfl (lv_at hl 0 rfl) ?_
  refine lv_iload_n hx hb dX4_unstep_1 rfl (lv_at hl 1 rfl) ?_
  exact kx_pass (vx_runV (As := [.int x9]) (rest := []) ⟨hx, hb, hml, hown, hts⟩ (t_X4_orderAt l hst dC dI ad S x9 hb9) (cwV 1 hts gX4_unstep_X4_orderAt rfl rfl rfl hdX4_orderAt_1 ⟨Nat.le_of_ble_eq_true rfl, Nat.le_of_ble_eq_true rfl⟩) (hPZ.preX) rfl rfl hl.1 rfl (lv_room (Nat.le_of_ble_eq_true rfl)) dX4_unstep_2 ⟨Nat.le_of_ble_eq_true rfl, Nat.le_of_ble_eq_true rfl⟩) hPX hex hlocks
set_option maxHeartbeats 4000000 in
set_option maxRecDepth 100000 in
theorem t_X4_wipe_1 (l : Launch) (hst : l.stackTraces = false) (dC : Nat → ClassId) (dI : Nat → Nat → Nat) (ad : Nat → Nat) (S : XS) (x9 : Int32) (hb9 : x9 < 0 ∨ nI 4 ≤ x9) : vx_Met l yX4_wipe wsX4_wipe ({ frames := 8, cells := 1, slots := 6, locals := 123 } : Room) (va_Pc [.ref (ad 57), .int x9] (PXZ dC dI ad S)) (fun _ _ _ _ => False) (XQ dC dI ad S IX) 1 6 (fun _ => False) := by
  refine vx_ofW (cc := cX4_wipe) (maxL := 4) (ret := (some .int)) (by decide) rfl ?_
  intro p e s m args below meth c s₁ B hml hex hv
  obtain ⟨rfl, hPZ⟩ := hv
  have hPX := hPZ.1
  have hx := B.exec
  have hb := B.bytes
  have hr := B.returns
  have hts := atoms_spec (ws := wsX4_wipe) B.pre
  have hown : s.vm.findClass RX4 = some m.cls := findClass_of_methodNamed B.named
  have hlocks := B.notSynchronized
  have hX := WX.of hPX
  have hl := lv_entry ([.ref (ad 57), .int x9]) (n := 4) (Nat.le_of_ble_eq_true rfl)
  rw [lg_entry_eq]
  generalize (lg_sl ([.ref (ad 57), .int x9]) ++ List.replicate (4 - (lg_sl ([.ref (ad 57), .int x9])).length) Slot.unset).toArray = ls at hl ⊢
  have hl : lv_has ls 4 [(0, .ref (ad 57)), (1, .int x9)] := hl
  show W p l e ({ frames := 8, cells := 1, slots := 6, locals := 123 } : Room) s m ([.ref (ad 57), .int x9]).toArray below meth c s.heap [] 0 0 (vx_MQ below (fun _ _ _ _ => False) (XQ dC dI ad S IX) ([.ref (ad 57), .int x9]).toArray s 1 6 (fun _ => False)) (F0 m 0 ls [])
  refine lv_aload_n hx hb dX4_wipe_0 rfl (lv_at hl 0 rfl) ?_
  refine lv_iload_n hx hb dX4_wipe_1 rfl (lv_at hl 1 rfl) ?_
  exact kx_pass (vx_runV (As := [.int x9]) (rest := []) ⟨hx, hb, hml, hown, hts⟩ (t_X4_orderAt l hst dC dI ad S x9 hb9) (cwV 1 hts gX4_wipe_X4_orderAt rfl rfl rfl hdX4_orderAt_1 ⟨Nat.le_of_ble_eq_true rfl, Nat.le_of_ble_eq_true rfl⟩) (hPZ.preX) rfl rfl hl.1 rfl (lv_room (Nat.le_of_ble_eq_true rfl)) dX4_wipe_2 ⟨Nat.le_of_ble_eq_true rfl, Nat.le_of_ble_eq_true rfl⟩) hPX hex hlocks
set_option maxHeartbeats 4000000 in
set_option maxRecDepth 100000 in
theorem t_X4_copyOrder_1 (l : Launch) (hst : l.stackTraces = false) (dC : Nat → ClassId) (dI : Nat → Nat → Nat) (ad : Nat → Nat) (S : XS) (x9 : Int32) (y1 : Int32) (hb9 : x9 < 0 ∨ nI 4 ≤ x9) : vx_Met l yX4_copyOrder wsX4_copyOrder ({ frames := 8, cells := 1, slots := 6, locals := 123 } : Room) (va_Pc [.ref (ad 57), .int x9, .int y1] (PXZ dC dI ad S)) (fun _ _ _ _ => False) (XQ dC dI ad S IX) 1 6 (fun _ => False) := by
  refine vx_ofW (cc := cX4_copyOrder) (maxL := 5) (ret := (some .int)) (by decide) rfl ?_
  intro p e s m args below meth c s₁ B hml hex hv
  obtain ⟨rfl, hPZ⟩ := hv
  have hPX := hPZ.1
  have hx := B.exec
  have hb := B.bytes
  have hr := B.returns
  have hts := atoms_spec (ws := wsX4_copyOrder) B.pre
  have hown : s.vm.findClass RX4 = some m.cls := findClass_of_methodNamed B.named
  have hlocks := B.notSynchronized
  have hX := WX.of hPX
  have hl := lv_entry ([.ref (ad 57), .int x9, .int y1]) (n := 5) (Nat.le_of_ble_eq_true rfl)
  rw [lg_entry_eq]
  generalize (lg_sl ([.ref (ad 57), .int x9, .int y1]) ++ List.replicate (5 - (lg_sl ([.ref (ad 57), .int x9, .int y1])).length) Slot.unset).toArray = ls at hl ⊢
  have hl : lv_has ls 5 [(0, .ref (ad 57)), (1, .int x9), (2, .int y1)] := hl
  show W p l e ({ frames := 8, cells := 1, slots := 6, locals := 123 } : Room) s m ([.ref (ad 57), .int x9, .int y1]).toArray below meth c s.heap [] 0 0 (vx_MQ below (fun _ _ _ _ => False) (XQ dC dI ad S IX) ([.ref (ad 57), .int x9, .int y1]).toArray s 1 6 (fun _ => False)) (F0 m 0 ls [])
  refine lv_aload_n hx hb dX4_copyOrder_0 rfl (lv_at hl 0 rfl) ?_
  refine lv_iload_n hx hb dX4_copyOrder_1 rfl (lv_at hl 1 rfl) ?_
  exact kx_pass (vx_runV (As := [.int x9]) (rest := []) ⟨hx, hb, hml, hown, hts⟩ (t_X4_orderAt l hst dC dI ad S x9 hb9) (cwV 1 hts gX4_copyOrder_X4_orderAt rfl rfl rfl hdX4_orderAt_1 ⟨Nat.le_of_ble_eq_true rfl, Nat.le_of_ble_eq_true rfl⟩) (hPZ.preX) rfl rfl hl.1 rfl (lv_room (Nat.le_of_ble_eq_true rfl)) dX4_copyOrder_2 ⟨Nat.le_of_ble_eq_true rfl, Nat.le_of_ble_eq_true rfl⟩) hPX hex hlocks
set_option maxHeartbeats 4000000 in
set_option maxRecDepth 100000 in
theorem t_X4_copyOrder_2 (l : Launch) (hst : l.stackTraces = false) (dC : Nat → ClassId) (dI : Nat → Nat → Nat) (ad : Nat → Nat) (S : XS) (j : Nat) (x9 : Int32) (hj : j < 4) (hb9 : x9 < 0 ∨ nI 4 ≤ x9) : vx_Met l yX4_copyOrder wsX4_copyOrder ({ frames := 8, cells := 1, slots := 6, locals := 123 } : Room) (va_Pc [.ref (ad 57), .int (nI j), .int x9] (PXZ dC dI ad S)) (fun _ _ _ _ => False) (XQ dC dI ad S IX) 1 6 (fun _ => False) := by
  refine vx_ofW (cc := cX4_copyOrder) (maxL := 5) (ret := (some .int)) (by decide) rfl ?_
  intro p e s m args below meth c s₁ B hml hex hv
  obtain ⟨rfl, hPZ⟩ := hv
  have hPX := hPZ.1
  have hx := B.exec
  have hb := B.bytes
  have hr := B.returns
  have hts := atoms_spec (ws := wsX4_copyOrder) B.pre
  have hown : s.vm.findClass RX4 = some m.cls := findClass_of_methodNamed B.named
  have hlocks := B.notSynchronized
  have hX := WX.of hPX
  have hl := lv_entry ([.ref (ad 57), .int (nI j), .int x9]) (n := 5) (Nat.le_of_ble_eq_true rfl)
  rw [lg_entry_eq]
  generalize (lg_sl ([.ref (ad 57), .int (nI j), .int x9]) ++ List.replicate (5 - (lg_sl ([.ref (ad 57), .int (nI j), .int x9])).length) Slot.unset).toArray = ls at hl ⊢
  have hl : lv_has ls 5 [(0, .ref (ad 57)), (1, .int (nI j)), (2, .int x9)] := hl
  show W p l e ({ frames := 8, cells := 1, slots := 6, locals := 123 } : Room) s m ([.ref (ad 57), .int (nI j), .int x9]).toArray below meth c s.heap [] 0 0 (vx_MQ below (fun _ _ _ _ => False) (XQ dC dI ad S IX) ([.ref (ad 57), .int (nI j), .int x9]).toArray s 1 6 (fun _ => False)) (F0 m 0 ls [])
  refine lv_aload_n hx hb dX4_copyOrder_0 rfl (lv_at hl 0 rfl) ?_
  refine lv_iload_n hx hb dX4_copyOrder_1 rfl (lv_at hl 1 rfl) ?_
  refine va_csr (va_Run.run (va_runV (As := [.int (nI j)]) (rest := []) ⟨hx, hb, hml, hown, hts⟩ (m_X4_orderAt l dC dI ad S j (by omega)) (cwV 1 hts gX4_copyOrder_X4_orderAt rfl rfl rfl hdX4_orderAt_1 ⟨Nat.le_of_ble_eq_true rfl, Nat.le_of_ble_eq_true rfl⟩) (hX.preTop 57 6 (by decide) (by decide) rfl rfl) rfl rfl hl.1 rfl (lv_room (Nat.le_of_ble_eq_true rfl)) dX4_copyOrder_2 ⟨Nat.le_of_ble_eq_true rfl, Nat.le_of_ble_eq_true rfl⟩)) (fun k_ hk_ => ?_)
  rw [hk_]
  refine lv_astore_n (lv' := [(3, .ref (ad (24 + 5 * j))), (0, .ref (ad 57)), (1, .int (nI j)), (2, .int x9)]) hx hb dX4_copyOrder_5 rfl hl (by decide) rfl (fun ls hl => ?_)
  refine lv_aload_n hx hb dX4_copyOrder_6 rfl (lv_at hl 1 rfl) ?_
  refine lv_iload_n hx hb dX4_copyOrder_7 rfl (lv_at hl 3 rfl) ?_
  exact kx_pass (vx_runV (As := [.int x9]) (rest := []) ⟨hx, hb, hml, hown, hts⟩ (t_X4_orderAt l hst dC dI ad S x9 hb9) (cwV 1 hts gX4_copyOrder_X4_orderAt rfl rfl rfl hdX4_orderAt_1 ⟨Nat.le_of_ble_eq_true rfl, Nat.le_of_ble_eq_true rfl⟩) (hPZ.preX) rfl rfl hl.1 rfl (lv_room (Nat.le_of_ble_eq_true rfl)) dX4_copyOrder_8 ⟨Nat.le_of_ble_eq_true rfl, Nat.le_of_ble_eq_true rfl⟩) hPX hex hlocks
set_option maxHeartbeats 4000000 in
set_option maxRecDepth 100000 in
theorem t_X4_turn_1 (l : Launch) (hst : l.stackTraces = false) (dC : Nat → ClassId) (dI : Nat → Nat → Nat) (ad : Nat → Nat) (S : XS) (x9 : Int32) (hb9 : x9 < 0 ∨ nI 4 ≤ x9) : vx_Met l yX4_turn wsX4_turn ({ frames := 8, cells := 1, slots := 6, locals := 123 } : Room) (va_Pc [.ref (ad 57), .int x9] (PXZ dC dI ad S)) (fun _ _ _ _ => False) (XQ dC dI ad S IX) 1 6 (fun _ => False) := by
  refine vx_ofW (cc := cX4_turn) (maxL := 3) (ret := (some .int)) (by decide) rfl ?_
  intro p e s m args below meth c s₁ B hml hex hv
  obtain ⟨rfl, hPZ⟩ := hv
  have hPX := hPZ.1
  have hx := B.exec
  have hb := B.bytes
  have hr := B.returns
  have hts := atoms_spec (ws := wsX4_turn) B.pre
  have hown : s.vm.findClass RX4 = some m.cls := findClass_of_methodNamed B.named
  have hlocks := B.notSynchronized
  have hX := WX.of hPX
  have hl := lv_entry ([.ref (ad 57), .int x9]) (n := 3) (Nat.le_of_ble_eq_true rfl)
  rw [lg_entry_eq]
  generalize (lg_sl ([.ref (ad 57), .int x9]) ++ List.replicate (3 - (lg_sl ([.ref (ad 57), .int x9])).length) Slot.unset).toArray = ls at hl ⊢
  have hl : lv_has ls 3 [(0, .ref (ad 57)), (1, .int x9)] := hl
  show W p l e ({ frames := 8, cells := 1, slots := 6, locals := 123 } : Room) s m ([.ref (ad 57), .int x9]).toArray below meth c s.heap [] 0 0 (vx_MQ below (fun _ _ _ _ => False) (XQ dC dI ad S IX) ([.ref (ad 57), .int x9]).toArray s 1 6 (fun _ => False)) (F0 m 0 ls [])
  refine lv_aload_n hx hb dX4_turn_0 rfl (lv_at hl 0 rfl) ?_
  refine lv_iload_n hx hb dX4_turn_1 rfl (lv_at hl 1 rfl) ?_
  exact kx_pass (vx_runV (As := [.int x9]) (rest := []) ⟨hx, hb, hml, hown, hts⟩ (t_X4_orderAt l hst dC dI ad S x9 hb9) (cwV 1 hts gX4_turn_X4_orderAt rfl rfl rfl hdX4_orderAt_1 ⟨Nat.le_of_ble_eq_true rfl, Nat.le_of_ble_eq_true rfl⟩) (hPZ.preX) rfl rfl hl.1 rfl (lv_room (Nat.le_of_ble_eq_true rfl)) dX4_turn_2 ⟨Nat.le_of_ble_eq_true rfl, Nat.le_of_ble_eq_true rfl⟩) hPX hex hlocks
set_option maxHeartbeats 4000000 in
set_option maxRecDepth 100000 in
theorem t_X4_product_1 (l : Launch) (hst : l.stackTraces = false) (dC : Nat → ClassId) (dI : Nat → Nat → Nat) (ad : Nat → Nat) (S : XS) (x9 : Int32) (y1 : Int32) (y2 : Int32) (hb9 : x9 < 0 ∨ nI 4 ≤ x9) : vx_Met l yX4_product wsX4_product ({ frames := 8, cells := 1, slots := 6, locals := 123 } : Room) (va_Pc [.ref (ad 57), .int x9, .int y1, .int y2] (PXZ dC dI ad S)) (fun _ _ _ _ => False) (XQ dC dI ad S IX) 1 6 (fun _ => False) := by
  refine vx_ofW (cc := cX4_product) (maxL := 7) (ret := (some .int)) (by decide) rfl ?_
  intro p e s m args below meth c s₁ B hml hex hv
  obtain ⟨rfl, hPZ⟩ := hv
  have hPX := hPZ.1
  have hx := B.exec
  have hb := B.bytes
  have hr := B.returns
  have hts := atoms_spec (ws := wsX4_product) B.pre
  have hown : s.vm.findClass RX4 = some m.cls := findClass_of_methodNamed B.named
  have hlocks := B.notSynchronized
  have hin4 : ∀ w ∈ u_ws RX4 TX4 9, w ∈ wsX4_product := tu 1328 (by decide +kernel) rfl
  have hX := WX.of hPX
  have hl := lv_entry ([.ref (ad 57), .int x9, .int y1, .int y2]) (n := 7) (Nat.le_of_ble_eq_true rfl)
  rw [lg_entry_eq]
  generalize (lg_sl ([.ref (ad 57), .int x9, .int y1, .int y2]) ++ List.replicate (7 - (lg_sl ([.ref (ad 57), .int x9, .int y1, .int y2])).length) Slot.unset).toArray = ls at hl ⊢
  have hl : lv_has ls 7 [(0, .ref (ad 57)), (1, .int x9), (2, .int y1), (3, .int y2)] := hl
  show W p l e ({ frames := 8, cells := 1, slots := 6, locals := 123 } : Room) s m ([.ref (ad 57), .int x9, .int y1, .int y2]).toArray below meth c s.heap [] 0 0 (vx_MQ below (fun _ _ _ _ => False) (XQ dC dI ad S IX) ([.ref (ad 57), .int x9, .int y1, .int y2]).toArray s 1 6 (fun _ => False)) (F0 m 0 ls [])
  refine lv_aload_n hx hb dX4_product_0 rfl (lv_at hl 0 rfl) ?_
  refine lv_iload_n hx hb dX4_product_1 rfl (lv_at hl 1 rfl) ?_
  exact kx_pass (vx_runV (As := [.int x9]) (rest := []) ⟨hx, hb, hml, hown, hts⟩ (t_X4_orderAt l hst dC dI ad S x9 hb9) (cwV 1 hts gX4_product_X4_orderAt rfl rfl rfl hdX4_orderAt_1 ⟨Nat.le_of_ble_eq_true rfl, Nat.le_of_ble_eq_true rfl⟩) (hPZ.preX) rfl rfl hl.1 rfl (lv_room (Nat.le_of_ble_eq_true rfl)) dX4_product_2 ⟨Nat.le_of_ble_eq_true rfl, Nat.le_of_ble_eq_true rfl⟩) hPX hex hlocks
set_option maxHeartbeats 4000000 in
set_option maxRecDepth 100000 in
theorem t_X4_product_2 (l : Launch) (hst : l.stackTraces = false) (dC : Nat → ClassId) (dI : Nat → Nat → Nat) (ad : Nat → Nat) (S : XS) (j : Nat) (x9 : Int32) (y2 : Int32) (hj : j < 4) (hb9 : x9 < 0 ∨ nI 4 ≤ x9) : vx_Met l yX4_product wsX4_product ({ frames := 8, cells := 1, slots := 6, locals := 123 } : Room) (va_Pc [.ref (ad 57), .int (nI j), .int x9, .int y2] (PXZ dC dI ad S)) (fun _ _ _ _ => False) (XQ dC dI ad S IX) 1 6 (fun _ => False) := by
  refine vx_ofW (cc := cX4_product) (maxL := 7) (ret := (some .int)) (by decide) rfl ?_
  intro p e s m args below meth c s₁ B hml hex hv
  obtain ⟨rfl, hPZ⟩ := hv
  have hPX := hPZ.1
  have hx := B.exec
  have hb := B.bytes
  have hr := B.returns
  have hts := atoms_spec (ws := wsX4_product) B.pre
  have hown : s.vm.findClass RX4 = some m.cls := findClass_of_methodNamed B.named
  have hlocks := B.notSynchronized
  have hin4 : ∀ w ∈ u_ws RX4 TX4 9, w ∈ wsX4_product := tu 1328 (by decide +kernel) rfl
  have hX := WX.of hPX
  have hl := lv_entry ([.ref (ad 57), .int (nI j), .int x9, .int y2]) (n := 7) (Nat.le_of_ble_eq_true rfl)
  rw [lg_entry_eq]
  generalize (lg_sl ([.ref (ad 57), .int (nI j), .int x9, .int y2]) ++ List.replicate (7 - (lg_sl ([.ref (ad 57), .int (nI j), .int x9, .int y2])).length) Slot.unset).toArray = ls at hl ⊢
  have hl : lv_has ls 7 [(0, .ref (ad 57)), (1, .int (nI j)), (2, .int x9), (3, .int y2)] := hl
  show W p l e ({ frames := 8, cells := 1, slots := 6, locals := 123 } : Room) s m ([.ref (ad 57), .int (nI j), .int x9, .int y2]).toArray below meth c s.heap [] 0 0 (vx_MQ below (fun _ _ _ _ => False) (XQ dC dI ad S IX) ([.ref (ad 57), .int (nI j), .int x9, .int y2]).toArray s 1 6 (fun _ => False)) (F0 m 0 ls [])
  refine lv_aload_n hx hb dX4_product_0 rfl (lv_at hl 0 rfl) ?_
  refine lv_iload_n hx hb dX4_product_1 rfl (lv_at hl 1 rfl) ?_
  refine va_csr (va_Run.run (va_runV (As := [.int (nI j)]) (rest := []) ⟨hx, hb, hml, hown, hts⟩ (m_X4_orderAt l dC dI ad S j (by omega)) (cwV 1 hts gX4_product_X4_orderAt rfl rfl rfl hdX4_orderAt_1 ⟨Nat.le_of_ble_eq_true rfl, Nat.le_of_ble_eq_true rfl⟩) (hX.preTop 57 6 (by decide) (by decide) rfl rfl) rfl rfl hl.1 rfl (lv_room (Nat.le_of_ble_eq_true rfl)) dX4_product_2 ⟨Nat.le_of_ble_eq_true rfl, Nat.le_of_ble_eq_true rfl⟩)) (fun k_ hk_ => ?_)
  rw [hk_]
  refine lv_astore (lv' := [(4, .ref (ad (24 + 5 * j))), (0, .ref (ad 57)), (1, .int (nI j)), (2, .int x9), (3, .int y2)]) hx hb dX4_product_5 hl (by decide) rfl (fun ls hl => ?_)
  refine lv_aload_n hx hb dX4_product_7 rfl (lv_at hl 1 rfl) ?_
  refine lv_iload_n hx hb dX4_product_8 rfl (lv_at hl 3 rfl) ?_
  exact kx_pass (vx_runV (As := [.int x9]) (rest := []) ⟨hx, hb, hml, hown, hts⟩ (t_X4_orderAt l hst dC dI ad S x9 hb9) (cwV 1 hts gX4_product_X4_orderAt rfl rfl rfl hdX4_orderAt_1 ⟨Nat.le_of_ble_eq_true rfl, Nat.le_of_ble_eq_true rfl⟩) (hPZ.preX) rfl rfl hl.1 rfl (lv_room (Nat.le_of_ble_eq_true rfl)) dX4_product_9 ⟨Nat.le_of_ble_eq_true rfl, Nat.le_of_ble_eq_true rfl⟩) hPX hex hlocks
set_option maxHeartbeats 4000000 in
set_option maxRecDepth 100000 in
theorem t_X4_product_3 (l : Launch) (hst : l.stackTraces = false) (dC : Nat → ClassId) (dI : Nat → Nat → Nat) (ad : Nat → Nat) (S : XS) (j : Nat) (j2 : Nat) (x9 : Int32) (hj : j < 4) (hj2 : j2 < 4) (hb9 : x9 < 0 ∨ nI 4 ≤ x9) : vx_Met l yX4_product wsX4_product ({ frames := 8, cells := 1, slots := 6, locals := 123 } : Room) (va_Pc [.ref (ad 57), .int (nI j), .int (nI j2), .int x9] (PXZ dC dI ad S)) (fun _ _ _ _ => False) (XQ dC dI ad S IX) 1 6 (fun _ => False) := by
  refine vx_ofW (cc := cX4_product) (maxL := 7) (ret := (some .int)) (by decide) rfl ?_
  intro p e s m args below meth c s₁ B hml hex hv
  obtain ⟨rfl, hPZ⟩ := hv
  have hPX := hPZ.1
  have hx := B.exec
  have hb := B.bytes
  have hr := B.returns
  have hts := atoms_spec (ws := wsX4_product) B.pre
  have hown : s.vm.findClass RX4 = some m.cls := findClass_of_methodNamed B.named
  have hlocks := B.notSynchronized
  have hin4 : ∀ w ∈ u_ws RX4 TX4 9, w ∈ wsX4_product := tu 1328 (by decide +kernel) rfl
  have hX := WX.of hPX
  have hl := lv_entry ([.ref (ad 57), .int (nI j), .int (nI j2), .int x9]) (n := 7) (Nat.le_of_ble_eq_true rfl)
  rw [lg_entry_eq]
  generalize (lg_sl ([.ref (ad 57), .int (nI j), .int (nI j2), .int x9]) ++ List.replicate (7 - (lg_sl ([.ref (ad 57), .int (nI j), .int (nI j2), .int x9])).length) Slot.unset).toArray = ls at hl ⊢
  have hl : lv_has ls 7 [(0, .ref (ad 57)), (1, .int (nI j)), (2, .int (nI j2)), (3, .int x9)] := hl
  show W p l e ({ frames := 8, cells := 1, slots := 6, locals := 123 } : Room) s m ([.ref (ad 57), .int (nI j), .int (nI j2), .int x9]).toArray below meth c s.heap [] 0 0 (vx_MQ below (fun _ _ _ _ => False) (XQ dC dI ad S IX) ([.ref (ad 57), .int (nI j), .int (nI j2), .int x9]).toArray s 1 6 (fun _ => False)) (F0 m 0 ls [])
  refine lv_aload_n hx hb dX4_product_0 rfl (lv_at hl 0 rfl) ?_
  refine lv_iload_n hx hb dX4_product_1 rfl (lv_at hl 1 rfl) ?_
  refine va_csr (va_Run.run (va_runV (As := [.int (nI j)]) (rest := []) ⟨hx, hb, hml, hown, hts⟩ (m_X4_orderAt l dC dI ad S j (by omega)) (cwV 1 hts gX4_product_X4_orderAt rfl rfl rfl hdX4_orderAt_1 ⟨Nat.le_of_ble_eq_true rfl, Nat.le_of_ble_eq_true rfl⟩) (hX.preTop 57 6 (by decide) (by decide) rfl rfl) rfl rfl hl.1 rfl (lv_room (Nat.le_of_ble_eq_true rfl)) dX4_product_2 ⟨Nat.le_of_ble_eq_true rfl, Nat.le_of_ble_eq_true rfl⟩)) (fun k_ hk_ => ?_)
  rw [hk_]
  refine lv_astore (lv' := [(4, .ref (ad (24 + 5 * j))), (0, .ref (ad 57)), (1, .int (nI j)), (2, .int (nI j2)), (3, .int x9)]) hx hb dX4_product_5 hl (by decide) rfl (fun ls hl => ?_)
  refine lv_aload_n hx hb dX4_product_7 rfl (lv_at hl 1 rfl) ?_
  refine lv_iload_n hx hb dX4_product_8 rfl (lv_at hl 3 rfl) ?_
  refine va_csr (va_Run.run (va_runV (As := [.int (nI j2)]) (rest := []) ⟨hx, hb, hml, hown, hts⟩ (m_X4_orderAt l dC dI ad S j2 (by omega)) (cwV 1 hts gX4_product_X4_orderAt rfl rfl rfl hdX4_orderAt_1 ⟨Nat.le_of_ble_eq_true rfl, Nat.le_of_ble_eq_true rfl⟩) (hX.preTop 57 6 (by decide) (by decide) rfl rfl) rfl rfl hl.1 rfl (lv_room (Nat.le_of_ble_eq_true rfl)) dX4_product_9 ⟨Nat.le_of_ble_eq_true rfl, Nat.le_of_ble_eq_true rfl⟩)) (fun k_ hk_ => ?_)
  rw [hk_]
  refine lv_astore (lv' := [(5, .ref (ad (24 + 5 * j2))), (4, .ref (ad (24 + 5 * j))), (0, .ref (ad 57)), (1, .int (nI j)), (2, .int (nI j2)), (3, .int x9)]) hx hb dX4_product_12 hl (by decide) rfl (fun ls hl => ?_)
  refine lv_aload_n hx hb dX4_product_14 rfl (lv_at hl 2 rfl) ?_
  refine lv_iload_n hx hb dX4_product_15 rfl (lv_at hl 5 rfl) ?_
  exact kx_pass (vx_runV (As := [.int x9]) (rest := []) ⟨hx, hb, hml, hown, hts⟩ (t_X4_orderAt l hst dC dI ad S x9 hb9) (cwV 1 hts gX4_product_X4_orderAt rfl rfl rfl hdX4_orderAt_1 ⟨Nat.le_of_ble_eq_true rfl, Nat.le_of_ble_eq_true rfl⟩) (hPZ.preX) rfl rfl hl.1 rfl (lv_room (Nat.le_of_ble_eq_true rfl)) dX4_product_16 ⟨Nat.le_of_ble_eq_true rfl, Nat.le_of_ble_eq_true rfl⟩) hPX hex hlocks
set_option maxHeartbeats 4000000 in
set_option maxRecDepth 100000 in
theorem t_X4_tellApart_1 (l : Launch) (hst : l.stackTraces = false) (dC : Nat → ClassId) (dI : Nat → Nat → Nat) (ad : Nat → Nat) (S : XS) (x9 : Int32) (y1 : Int32) (y2 : Int32) (hb9 : x9 < 0 ∨ nI 4 ≤ x9) : vx_Met l yX4_tellApart wsX4_tellApart ({ frames := 8, cells := 1, slots := 6, locals := 123 } : Room) (va_Pc [.ref (ad 57), .int x9, .int y1, .int y2] (PXZ dC dI ad S)) (fun _ _ _ _ => False) (XQ dC dI ad S IX) 1 6 (fun _ => False) := by
  refine vx_ofW (cc := cX4_tellApart) (maxL := 6) (ret := (some .int)) (by decide) rfl ?_
  intro p e s m args below meth c s₁ B hml hex hv
  obtain ⟨rfl, hPZ⟩ := hv
  have hPX := hPZ.1
  have hx := B.exec
  have hb := B.bytes
  have hr := B.returns
  have hts := atoms_spec (ws := wsX4_tellApart) B.pre
  have hown : s.vm.findClass RX4 = some m.cls := findClass_of_methodNamed B.named
  have hlocks := B.notSynchronized
  have hX := WX.of hPX
  have hl := lv_entry ([.ref (ad 57), .int x9, .int y1, .int y2]) (n := 6) (Nat.le_of_ble_eq_true rfl)
  rw [lg_entry_eq]
  generalize (lg_sl ([.ref (ad 57), .int x9, .int y1, .int y2]) ++ List.replicate (6 - (lg_sl ([.ref (ad 57), .int x9, .int y1, .int y2])).length) Slot.unset).toArray = ls at hl ⊢
  have hl : lv_has ls 6 [(0, .ref (ad 57)), (1, .int x9), (2, .int y1), (3, .int y2)] := hl
  show W p l e ({ frames := 8, cells := 1, slots := 6, locals := 123 } : Room) s m ([.ref (ad 57), .int x9, .int y1, .int y2]).toArray below meth c s.heap [] 0 0 (vx_MQ below (fun _ _ _ _ => False) (XQ dC dI ad S IX) ([.ref (ad 57), .int x9, .int y1, .int y2]).toArray s 1 6 (fun _ => False)) (F0 m 0 ls [])
  refine lv_aload_n hx hb dX4_tellApart_0 rfl (lv_at hl 0 rfl) ?_
  refine lv_iload_n hx hb dX4_tellApart_1 rfl (lv_at hl 1 rfl) ?_
  exact kx_pass (vx_runV (As := [.int x9]) (rest := []) ⟨hx, hb, hml, hown, hts⟩ (t_X4_orderAt l hst dC dI ad S x9 hb9) (cwV 1 hts gX4_tellApart_X4_orderAt rfl rfl rfl hdX4_orderAt_1 ⟨Nat.le_of_ble_eq_true rfl, Nat.le_of_ble_eq_true rfl⟩) (hPZ.preX) rfl rfl hl.1 rfl (lv_room (Nat.le_of_ble_eq_true rfl)) dX4_tellApart_2 ⟨Nat.le_of_ble_eq_true rfl, Nat.le_of_ble_eq_true rfl⟩) hPX hex hlocks
set_option maxHeartbeats 4000000 in
set_option maxRecDepth 100000 in
theorem t_X4_tellApart_2 (l : Launch) (hst : l.stackTraces = false) (dC : Nat → ClassId) (dI : Nat → Nat → Nat) (ad : Nat → Nat) (S : XS) (j : Nat) (x9 : Int32) (y2 : Int32) (hj : j < 4) (hb9 : x9 < 0 ∨ nI 15 < x9) : vx_Met l yX4_tellApart wsX4_tellApart ({ frames := 8, cells := 1, slots := 6, locals := 123 } : Room) (va_Pc [.ref (ad 57), .int (nI j), .int x9, .int y2] (PXZ dC dI ad S)) (fun _ _ _ _ => False) (XQ dC dI ad S IA) 1 6 (fun _ => False) := by
  refine vx_ofW (cc := cX4_tellApart) (maxL := 6) (ret := (some .int)) (by decide) rfl ?_
  intro p e s m args below meth c s₁ B hml hex hv
  obtain ⟨rfl, hPZ⟩ := hv
  have hPX := hPZ.1
  have hx := B.exec
  have hb := B.bytes
  have hr := B.returns
  have hts := atoms_spec (ws := wsX4_tellApart) B.pre
  have hown : s.vm.findClass RX4 = some m.cls := findClass_of_methodNamed B.named
  have hlocks := B.notSynchronized
  have hX := WX.of hPX
  have hl := lv_entry ([.ref (ad 57), .int (nI j), .int x9, .int y2]) (n := 6) (Nat.le_of_ble_eq_true rfl)
  rw [lg_entry_eq]
  generalize (lg_sl ([.ref (ad 57), .int (nI j), .int x9, .int y2]) ++ List.replicate (6 - (lg_sl ([.ref (ad 57), .int (nI j), .int x9, .int y2])).length) Slot.unset).toArray = ls at hl ⊢
  have hl : lv_has ls 6 [(0, .ref (ad 57)), (1, .int (nI j)), (2, .int x9), (3, .int y2)] := hl
  show W p l e ({ frames := 8, cells := 1, slots := 6, locals := 123 } : Room) s m ([.ref (ad 57), .int (nI j), .int x9, .int y2]).toArray below meth c s.heap [] 0 0 (vx_MQ below (fun _ _ _ _ => False) (XQ dC dI ad S IA) ([.ref (ad 57), .int (nI j), .int x9, .int y2]).toArray s 1 6 (fun _ => False)) (F0 m 0 ls [])
  refine lv_aload_n hx hb dX4_tellApart_0 rfl (lv_at hl 0 rfl) ?_
  refine lv_iload_n hx hb dX4_tellApart_1 rfl (lv_at hl 1 rfl) ?_
  refine va_csr (va_Run.run (va_runV (As := [.int (nI j)]) (rest := []) ⟨hx, hb, hml, hown, hts⟩ (m_X4_orderAt l dC dI ad S j (by omega)) (cwV 1 hts gX4_tellApart_X4_orderAt rfl rfl rfl hdX4_orderAt_1 ⟨Nat.le_of_ble_eq_true rfl, Nat.le_of_ble_eq_true rfl⟩) (hX.preTop 57 6 (by decide) (by decide) rfl rfl) rfl rfl hl.1 rfl (lv_room (Nat.le_of_ble_eq_true rfl)) dX4_tellApart_2 ⟨Nat.le_of_ble_eq_true rfl, Nat.le_of_ble_eq_true rfl⟩)) (fun k_ hk_ => ?_)
  rw [hk_]
  refine lv_astore (lv' := [(4, .ref (ad (24 + 5 * j))), (0, .ref (ad 57)), (1, .int (nI j)), (2, .int x9), (3, .int y2)]) hx hb dX4_tellApart_5 hl (by decide) rfl (fun ls hl => ?_)
  refine lv_iload_n hx hb dX4_tellApart_7 rfl (lv_at hl 3 rfl) ?_
  exact kx_pass (vx_runS (As := [.int x9]) (rest := []) ⟨hx, hb, hml, hown, hts⟩ (t_X4_demandValue l hst dC dI ad S x9 hb9) (va_cwS 1 hts gX4_tellApart_X4_demandValue rfl rfl rfl hdX4_demandValue_1.2 ⟨Nat.le_of_ble_eq_true rfl, Nat.le_of_ble_eq_true rfl⟩) hPZ.preS rfl rfl hl.1 rfl (lv_room (Nat.le_of_ble_eq_true rfl)) dX4_tellApart_8 ⟨Nat.le_of_ble_eq_true rfl, Nat.le_of_ble_eq_true rfl⟩) hPX hex hlocks
set_option maxHeartbeats 4000000 in
set_option maxRecDepth 100000 in
theorem t_X4_tellApart_3 (l : Launch) (hst : l.stackTraces = false) (dC : Nat → ClassId) (dI : Nat → Nat → Nat) (ad : Nat → Nat) (S : XS) (j : Nat) (v : Nat) (x9 : Int32) (hj : j < 4) (hv : v < 16) (hb9 : x9 < 0 ∨ nI 15 < x9) : vx_Met l yX4_tellApart wsX4_tellApart ({ frames := 8, cells := 1, slots := 6, locals := 123 } : Room) (va_Pc [.ref (ad 57), .int (nI j), .int (nI v), .int x9] (PXZ dC dI ad S)) (fun _ _ _ _ => False) (XQ dC dI ad S IA) 1 6 (fun _ => False) := by
  refine vx_ofW (cc := cX4_tellApart) (maxL := 6) (ret := (some .int)) (by decide) rfl ?_
  intro p e s m args below meth c s₁ B hml hex hv
  obtain ⟨rfl, hPZ⟩ := hv
  have hPX := hPZ.1
  have hx := B.exec
  have hb := B.bytes
  have hr := B.returns
  have hts := atoms_spec (ws := wsX4_tellApart) B.pre
  have hown : s.vm.findClass RX4 = some m.cls := findClass_of_methodNamed B.named
  have hlocks := B.notSynchronized
  have hX := WX.of hPX
  have hl := lv_entry ([.ref (ad 57), .int (nI j), .int (nI v), .int x9]) (n := 6) (Nat.le_of_ble_eq_true rfl)
  rw [lg_entry_eq]
  generalize (lg_sl ([.ref (ad 57), .int (nI j), .int (nI v), .int x9]) ++ List.replicate (6 - (lg_sl ([.ref (ad 57), .int (nI j), .int (nI v), .int x9])).length) Slot.unset).toArray = ls at hl ⊢
  have hl : lv_has ls 6 [(0, .ref (ad 57)), (1, .int (nI j)), (2, .int (nI v)), (3, .int x9)] := hl
  show W p l e ({ frames := 8, cells := 1, slots := 6, locals := 123 } : Room) s m ([.ref (ad 57), .int (nI j), .int (nI v), .int x9]).toArray below meth c s.heap [] 0 0 (vx_MQ below (fun _ _ _ _ => False) (XQ dC dI ad S IA) ([.ref (ad 57), .int (nI j), .int (nI v), .int x9]).toArray s 1 6 (fun _ => False)) (F0 m 0 ls [])
  refine lv_aload_n hx hb dX4_tellApart_0 rfl (lv_at hl 0 rfl) ?_
  refine lv_iload_n hx hb dX4_tellApart_1 rfl (lv_at hl 1 rfl) ?_
  refine va_csr (va_Run.run (va_runV (As := [.int (nI j)]) (rest := []) ⟨hx, hb, hml, hown, hts⟩ (m_X4_orderAt l dC dI ad S j (by omega)) (cwV 1 hts gX4_tellApart_X4_orderAt rfl rfl rfl hdX4_orderAt_1 ⟨Nat.le_of_ble_eq_true rfl, Nat.le_of_ble_eq_true rfl⟩) (hX.preTop 57 6 (by decide) (by decide) rfl rfl) rfl rfl hl.1 rfl (lv_room (Nat.le_of_ble_eq_true rfl)) dX4_tellApart_2 ⟨Nat.le_of_ble_eq_true rfl, Nat.le_of_ble_eq_true rfl⟩)) (fun k_ hk_ => ?_)
  rw [hk_]
  refine lv_astore (lv' := [(4, .ref (ad (24 + 5 * j))), (0, .ref (ad 57)), (1, .int (nI j)), (2, .int (nI v)), (3, .int x9)]) hx hb dX4_tellApart_5 hl (by decide) rfl (fun ls hl => ?_)
  refine lv_iload_n hx hb dX4_tellApart_7 rfl (lv_at hl 3 rfl) ?_
  refine va_csv (va_Run.run (va_runS (As := [.int (nI v)]) (rest := []) ⟨hx, hb, hml, hown, hts⟩ (m_X4_demandValue l dC dI ad S v (by omega)) (va_cwS 1 hts gX4_tellApart_X4_demandValue rfl rfl rfl hdX4_demandValue_1.2 ⟨Nat.le_of_ble_eq_true rfl, Nat.le_of_ble_eq_true rfl⟩) hX.preS rfl rfl hl.1 rfl (lv_room (Nat.le_of_ble_eq_true rfl)) dX4_tellApart_8 ⟨Nat.le_of_ble_eq_true rfl, Nat.le_of_ble_eq_true rfl⟩)) (fun _ => ?_)
  refine lv_iload_n hx hb dX4_tellApart_11 rfl (lv_at hl 4 rfl) ?_
  exact kx_pass (vx_runS (As := [.int x9]) (rest := []) ⟨hx, hb, hml, hown, hts⟩ (t_X4_demandValue l hst dC dI ad S x9 hb9) (va_cwS 1 hts gX4_tellApart_X4_demandValue rfl rfl rfl hdX4_demandValue_1.2 ⟨Nat.le_of_ble_eq_true rfl, Nat.le_of_ble_eq_true rfl⟩) hPZ.preS rfl rfl hl.1 rfl (lv_room (Nat.le_of_ble_eq_true rfl)) dX4_tellApart_12 ⟨Nat.le_of_ble_eq_true rfl, Nat.le_of_ble_eq_true rfl⟩) hPX hex hlocks
set_option maxHeartbeats 4000000 in
set_option maxRecDepth 100000 in
theorem t_X4_orderText_1 (l : Launch) (hst : l.stackTraces = false) (dC : Nat → ClassId) (dI : Nat → Nat → Nat) (ad : Nat → Nat) (S : XS) (x9 : Int32) (hb9 : x9 < 0 ∨ nI 4 ≤ x9) : vx_Met l yX4_orderText wsX4_orderText ({ frames := 8, cells := 1, slots := 6, locals := 123 } : Room) (va_Pc [.ref (ad 57), .int x9] (PXZ dC dI ad S)) (fun _ _ _ _ => False) (XQ dC dI ad S IX) 1 6 (fun _ => False) := by
  refine vx_ofW (cc := cX4_orderText) (maxL := 2) (ret := (some (.object "java/lang/String"))) (by decide) rfl ?_
  intro p e s m args below meth c s₁ B hml hex hv
  obtain ⟨rfl, hPZ⟩ := hv
  have hPX := hPZ.1
  have hx := B.exec
  have hb := B.bytes
  have hr := B.returns
  have hts := atoms_spec (ws := wsX4_orderText) B.pre
  have hown : s.vm.findClass RX4 = some m.cls := findClass_of_methodNamed B.named
  have hlocks := B.notSynchronized
  have hX := WX.of hPX
  have hl := lv_entry ([.ref (ad 57), .int x9]) (n := 2) (Nat.le_of_ble_eq_true rfl)
  rw [lg_entry_eq]
  generalize (lg_sl ([.ref (ad 57), .int x9]) ++ List.replicate (2 - (lg_sl ([.ref (ad 57), .int x9])).length) Slot.unset).toArray = ls at hl ⊢
  have hl : lv_has ls 2 [(0, .ref (ad 57)), (1, .int x9)] := hl
  show W p l e ({ frames := 8, cells := 1, slots := 6, locals := 123 } : Room) s m ([.ref (ad 57), .int x9]).toArray below meth c s.heap [] 0 0 (vx_MQ below (fun _ _ _ _ => False) (XQ dC dI ad S IX) ([.ref (ad 57), .int x9]).toArray s 1 6 (fun _ => False)) (F0 m 0 ls [])
  refine lv_aload_n hx hb dX4_orderText_0 rfl (lv_at hl 0 rfl) ?_
  refine lv_iload_n hx hb dX4_orderText_1 rfl (lv_at hl 1 rfl) ?_
  exact kx_pass (vx_runV (As := [.int x9]) (rest := []) ⟨hx, hb, hml, hown, hts⟩ (t_X4_orderAt l hst dC dI ad S x9 hb9) (cwV 1 hts gX4_orderText_X4_orderAt rfl rfl rfl hdX4_orderAt_1 ⟨Nat.le_of_ble_eq_true rfl, Nat.le_of_ble_eq_true rfl⟩) (hPZ.preX) rfl rfl hl.1 rfl (lv_room (Nat.le_of_ble_eq_true rfl)) dX4_orderText_2 ⟨Nat.le_of_ble_eq_true rfl, Nat.le_of_ble_eq_true rfl⟩) hPX hex hlocks
set_option maxHeartbeats 4000000 in
set_option maxRecDepth 100000 in
theorem t_X4_compare_1 (l : Launch) (hst : l.stackTraces = false) (dC : Nat → ClassId) (dI : Nat → Nat → Nat) (ad : Nat → Nat) (S : XS) (x9 : Int32) (y1 : Int32) (y2 : Int32) (hb9 : x9 < 0 ∨ nI 4 ≤ x9) : vx_Met l yX4_compare wsX4_compare ({ frames := 8, cells := 1, slots := 6, locals := 123 } : Room) (va_Pc [.ref (ad 57), .int x9, .int y1, .int y2] (PXZ dC dI ad S)) (fun _ _ _ _ => False) (XQ dC dI ad S IX) 1 6 (fun _ => False) := by
  refine vx_ofW (cc := cX4_compare) (maxL := 5) (ret := (some .int)) (by decide) rfl ?_
  intro p e s m args below meth c s₁ B hml hex hv
  obtain ⟨rfl, hPZ⟩ := hv
  have hPX := hPZ.1
  have hx := B.exec
  have hb := B.bytes
  have hr := B.returns
  have hts := atoms_spec (ws := wsX4_compare) B.pre
  have hown : s.vm.findClass RX4 = some m.cls := findClass_of_methodNamed B.named
  have hlocks := B.notSynchronized
  have hX := WX.of hPX
  have hl := lv_entry ([.ref (ad 57), .int x9, .int y1, .int y2]) (n := 5) (Nat.le_of_ble_eq_true rfl)
  rw [lg_entry_eq]
  generalize (lg_sl ([.ref (ad 57), .int x9, .int y1, .int y2]) ++ List.replicate (5 - (lg_sl ([.ref (ad 57), .int x9, .int y1, .int y2])).length) Slot.unset).toArray = ls at hl ⊢
  have hl : lv_has ls 5 [(0, .ref (ad 57)), (1, .int x9), (2, .int y1), (3, .int y2)] := hl
  show W p l e ({ frames := 8, cells := 1, slots := 6, locals := 123 } : Room) s m ([.ref (ad 57), .int x9, .int y1, .int y2]).toArray below meth c s.heap [] 0 0 (vx_MQ below (fun _ _ _ _ => False) (XQ dC dI ad S IX) ([.ref (ad 57), .int x9, .int y1, .int y2]).toArray s 1 6 (fun _ => False)) (F0 m 0 ls [])
  refine lv_aload_n hx hb dX4_compare_0 rfl (lv_at hl 0 rfl) ?_
  refine lv_iload_n hx hb dX4_compare_1 rfl (lv_at hl 1 rfl) ?_
  exact kx_pass (vx_runV (As := [.int x9]) (rest := []) ⟨hx, hb, hml, hown, hts⟩ (t_X4_orderAt l hst dC dI ad S x9 hb9) (cwV 1 hts gX4_compare_X4_orderAt rfl rfl rfl hdX4_orderAt_1 ⟨Nat.le_of_ble_eq_true rfl, Nat.le_of_ble_eq_true rfl⟩) (hPZ.preX) rfl rfl hl.1 rfl (lv_room (Nat.le_of_ble_eq_true rfl)) dX4_compare_2 ⟨Nat.le_of_ble_eq_true rfl, Nat.le_of_ble_eq_true rfl⟩) hPX hex hlocks
set_option maxHeartbeats 4000000 in
set_option maxRecDepth 100000 in
theorem t_X4_compare_2 (l : Launch) (hst : l.stackTraces = false) (dC : Nat → ClassId) (dI : Nat → Nat → Nat) (ad : Nat → Nat) (S : XS) (j : Nat) (x9 : Int32) (y2 : Int32) (hj : j < 4) (hb9 : x9 < 0 ∨ nI 15 < x9) : vx_Met l yX4_compare wsX4_compare ({ frames := 8, cells := 1, slots := 6, locals := 123 } : Room) (va_Pc [.ref (ad 57), .int (nI j), .int x9, .int y2] (PXZ dC dI ad S)) (fun _ _ _ _ => False) (XQ dC dI ad S IA) 1 6 (fun _ => False) := by
  refine vx_ofW (cc := cX4_compare) (maxL := 5) (ret := (some .int)) (by decide) rfl ?_
  intro p e s m args below meth c s₁ B hml hex hv
  obtain ⟨rfl, hPZ⟩ := hv
  have hPX := hPZ.1
  have hx := B.exec
  have hb := B.bytes
  have hr := B.returns
  have hts := atoms_spec (ws := wsX4_compare) B.pre
  have hown : s.vm.findClass RX4 = some m.cls := findClass_of_methodNamed B.named
  have hlocks := B.notSynchronized
  have hX := WX.of hPX
  have hl := lv_entry ([.ref (ad 57), .int (nI j), .int x9, .int y2]) (n := 5) (Nat.le_of_ble_eq_true rfl)
  rw [lg_entry_eq]
  generalize (lg_sl ([.ref (ad 57), .int (nI j), .int x9, .int y2]) ++ List.replicate (5 - (lg_sl ([.ref (ad 57), .int (nI j), .int x9, .int y2])).length) Slot.unset).toArray = ls at hl ⊢
  have hl : lv_has ls 5 [(0, .ref (ad 57)), (1, .int (nI j)), (2, .int x9), (3, .int y2)] := hl
  show W p l e ({ frames := 8, cells := 1, slots := 6, locals := 123 } : Room) s m ([.ref (ad 57), .int (nI j), .int x9, .int y2]).toArray below meth c s.heap [] 0 0 (vx_MQ below (fun _ _ _ _ => False) (XQ dC dI ad S IA) ([.ref (ad 57), .int (nI j), .int x9, .int y2]).toArray s 1 6 (fun _ => False)) (F0 m 0 ls [])
  refine lv_aload_n hx hb dX4_compare_0 rfl (lv_at hl 0 rfl) ?_
  refine lv_iload_n hx hb dX4_compare_1 rfl (lv_at hl 1 rfl) ?_
  refine va_csr (va_Run.run (va_runV (As := [.int (nI j)]) (rest := []) ⟨hx, hb, hml, hown, hts⟩ (m_X4_orderAt l dC dI ad S j (by omega)) (cwV 1 hts gX4_compare_X4_orderAt rfl rfl rfl hdX4_orderAt_1 ⟨Nat.le_of_ble_eq_true rfl, Nat.le_of_ble_eq_true rfl⟩) (hX.preTop 57 6 (by decide) (by decide) rfl rfl) rfl rfl hl.1 rfl (lv_room (Nat.le_of_ble_eq_true rfl)) dX4_compare_2 ⟨Nat.le_of_ble_eq_true rfl, Nat.le_of_ble_eq_true rfl⟩)) (fun k_ hk_ => ?_)
  rw [hk_]
  refine lv_astore (lv' := [(4, .ref (ad (24 + 5 * j))), (0, .ref (ad 57)), (1, .int (nI j)), (2, .int x9), (3, .int y2)]) hx hb dX4_compare_5 hl (by decide) rfl (fun ls hl => ?_)
  refine lv_iload_n hx hb dX4_compare_7 rfl (lv_at hl 3 rfl) ?_
  exact kx_pass (vx_runS (As := [.int x9]) (rest := []) ⟨hx, hb, hml, hown, hts⟩ (t_X4_demandValue l hst dC dI ad S x9 hb9) (va_cwS 1 hts gX4_compare_X4_demandValue rfl rfl rfl hdX4_demandValue_1.2 ⟨Nat.le_of_ble_eq_true rfl, Nat.le_of_ble_eq_true rfl⟩) hPZ.preS rfl rfl hl.1 rfl (lv_room (Nat.le_of_ble_eq_true rfl)) dX4_compare_8 ⟨Nat.le_of_ble_eq_true rfl, Nat.le_of_ble_eq_true rfl⟩) hPX hex hlocks
set_option maxHeartbeats 4000000 in
set_option maxRecDepth 100000 in
theorem t_X4_compare_3 (l : Launch) (hst : l.stackTraces = false) (dC : Nat → ClassId) (dI : Nat → Nat → Nat) (ad : Nat → Nat) (S : XS) (j : Nat) (v : Nat) (x9 : Int32) (hj : j < 4) (hv : v < 16) (hb9 : x9 < 0 ∨ nI 15 < x9) : vx_Met l yX4_compare wsX4_compare ({ frames := 8, cells := 1, slots := 6, locals := 123 } : Room) (va_Pc [.ref (ad 57), .int (nI j), .int (nI v), .int x9] (PXZ dC dI ad S)) (fun _ _ _ _ => False) (XQ dC dI ad S IA) 1 6 (fun _ => False) := by
  refine vx_ofW (cc := cX4_compare) (maxL := 5) (ret := (some .int)) (by decide) rfl ?_
  intro p e s m args below meth c s₁ B hml hex hv
  obtain ⟨rfl, hPZ⟩ := hv
  have hPX := hPZ.1
  have hx := B.exec
  have hb := B.bytes
  have hr := B.returns
  have hts := atoms_spec (ws := wsX4_compare) B.pre
  have hown : s.vm.findClass RX4 = some m.cls := findClass_of_methodNamed B.named
  have hlocks := B.notSynchronized
  have hX := WX.of hPX
  have hl := lv_entry ([.ref (ad 57), .int (nI j), .int (nI v), .int x9]) (n := 5) (Nat.le_of_ble_eq_true rfl)
  rw [lg_entry_eq]
  generalize (lg_sl ([.ref (ad 57), .int (nI j), .int (nI v), .int x9]) ++ List.replicate (5 - (lg_sl ([.ref (ad 57), .int (nI j), .int (nI v), .int x9])).length) Slot.unset).toArray = ls at hl ⊢
  have hl : lv_has ls 5 [(0, .ref (ad 57)), (1, .int (nI j)), (2, .int (nI v)), (3, .int x9)] := hl
  show W p l e ({ frames := 8, cells := 1, slots := 6, locals := 123 } : Room) s m ([.ref (ad 57), .int (nI j), .int (nI v), .int x9]).toArray below meth c s.heap [] 0 0 (vx_MQ below (fun _ _ _ _ => False) (XQ dC dI ad S IA) ([.ref (ad 57), .int (nI j), .int (nI v), .int x9]).toArray s 1 6 (fun _ => False)) (F0 m 0 ls [])
  refine lv_aload_n hx hb dX4_compare_0 rfl (lv_at hl 0 rfl) ?_
  refine lv_iload_n hx hb dX4_compare_1 rfl (lv_at hl 1 rfl) ?_
  refine va_csr (va_Run.run (va_runV (As := [.int (nI j)]) (rest := []) ⟨hx, hb, hml, hown, hts⟩ (m_X4_orderAt l dC dI ad S j (by omega)) (cwV 1 hts gX4_compare_X4_orderAt rfl rfl rfl hdX4_orderAt_1 ⟨Nat.le_of_ble_eq_true rfl, Nat.le_of_ble_eq_true rfl⟩) (hX.preTop 57 6 (by decide) (by decide) rfl rfl) rfl rfl hl.1 rfl (lv_room (Nat.le_of_ble_eq_true rfl)) dX4_compare_2 ⟨Nat.le_of_ble_eq_true rfl, Nat.le_of_ble_eq_true rfl⟩)) (fun k_ hk_ => ?_)
  rw [hk_]
  refine lv_astore (lv' := [(4, .ref (ad (24 + 5 * j))), (0, .ref (ad 57)), (1, .int (nI j)), (2, .int (nI v)), (3, .int x9)]) hx hb dX4_compare_5 hl (by decide) rfl (fun ls hl => ?_)
  refine lv_iload_n hx hb dX4_compare_7 rfl (lv_at hl 3 rfl) ?_
  refine va_csv (va_Run.run (va_runS (As := [.int (nI v)]) (rest := []) ⟨hx, hb, hml, hown, hts⟩ (m_X4_demandValue l dC dI ad S v (by omega)) (va_cwS 1 hts gX4_compare_X4_demandValue rfl rfl rfl hdX4_demandValue_1.2 ⟨Nat.le_of_ble_eq_true rfl, Nat.le_of_ble_eq_true rfl⟩) hX.preS rfl rfl hl.1 rfl (lv_room (Nat.le_of_ble_eq_true rfl)) dX4_compare_8 ⟨Nat.le_of_ble_eq_true rfl, Nat.le_of_ble_eq_true rfl⟩)) (fun _ => ?_)
  refine lv_iload_n hx hb dX4_compare_11 rfl (lv_at hl 4 rfl) ?_
  exact kx_pass (vx_runS (As := [.int x9]) (rest := []) ⟨hx, hb, hml, hown, hts⟩ (t_X4_demandValue l hst dC dI ad S x9 hb9) (va_cwS 1 hts gX4_compare_X4_demandValue rfl rfl rfl hdX4_demandValue_1.2 ⟨Nat.le_of_ble_eq_true rfl, Nat.le_of_ble_eq_true rfl⟩) hPZ.preS rfl rfl hl.1 rfl (lv_room (Nat.le_of_ble_eq_true rfl)) dX4_compare_12 ⟨Nat.le_of_ble_eq_true rfl, Nat.le_of_ble_eq_true rfl⟩) hPX hex hlocks
set_option maxHeartbeats 4000000 in
set_option maxRecDepth 100000 in
theorem t_X4_both_1 (l : Launch) (hst : l.stackTraces = false) (dC : Nat → ClassId) (dI : Nat → Nat → Nat) (ad : Nat → Nat) (S : XS) (x9 : Int32) (y1 : Int32) (y2 : Int32) (y3 : Int32) (hb9 : x9 < 0 ∨ nI 4 ≤ x9) : vx_Met l yX4_both wsX4_both ({ frames := 8, cells := 1, slots := 6, locals := 123 } : Room) (va_Pc [.ref (ad 57), .int x9, .int y1, .int y2, .int y3] (PXZ dC dI ad S)) (fun _ _ _ _ => False) (XQ dC dI ad S IX) 1 6 (fun _ => False) := by
  refine vx_ofW (cc := cX4_both) (maxL := 7) (ret := (some .int)) (by decide) rfl ?_
  intro p e s m args below meth c s₁ B hml hex hv
  obtain ⟨rfl, hPZ⟩ := hv
  have hPX := hPZ.1
  have hx := B.exec
  have hb := B.bytes
  have hr := B.returns
  have hts := atoms_spec (ws := wsX4_both) B.pre
  have hown : s.vm.findClass RX4 = some m.cls := findClass_of_methodNamed B.named
  have hlocks := B.notSynchronized
  have hX := WX.of hPX
  have hl := lv_entry ([.ref (ad 57), .int x9, .int y1, .int y2, .int y3]) (n := 7) (Nat.le_of_ble_eq_true rfl)
  rw [lg_entry_eq]
  generalize (lg_sl ([.ref (ad 57), .int x9, .int y1, .int y2, .int y3]) ++ List.replicate (7 - (lg_sl ([.ref (ad 57), .int x9, .int y1, .int y2, .int y3])).length) Slot.unset).toArray = ls at hl ⊢
  have hl : lv_has ls 7 [(0, .ref (ad 57)), (1, .int x9), (2, .int y1), (3, .int y2), (4, .int y3)] := hl
  show W p l e ({ frames := 8, cells := 1, slots := 6, locals := 123 } : Room) s m ([.ref (ad 57), .int x9, .int y1, .int y2, .int y3]).toArray below meth c s.heap [] 0 0 (vx_MQ below (fun _ _ _ _ => False) (XQ dC dI ad S IX) ([.ref (ad 57), .int x9, .int y1, .int y2, .int y3]).toArray s 1 6 (fun _ => False)) (F0 m 0 ls [])
  refine lv_aload_n hx hb dX4_both_0 rfl (lv_at hl 0 rfl) ?_
  refine lv_iload_n hx hb dX4_both_1 rfl (lv_at hl 1 rfl) ?_
  exact kx_pass (vx_runV (As := [.int x9]) (rest := []) ⟨hx, hb, hml, hown, hts⟩ (t_X4_orderAt l hst dC dI ad S x9 hb9) (cwV 1 hts gX4_both_X4_orderAt rfl rfl rfl hdX4_orderAt_1 ⟨Nat.le_of_ble_eq_true rfl, Nat.le_of_ble_eq_true rfl⟩) (hPZ.preX) rfl rfl hl.1 rfl (lv_room (Nat.le_of_ble_eq_true rfl)) dX4_both_2 ⟨Nat.le_of_ble_eq_true rfl, Nat.le_of_ble_eq_true rfl⟩) hPX hex hlocks
set_option maxHeartbeats 4000000 in
set_option maxRecDepth 100000 in
theorem t_X4_both_2 (l : Launch) (hst : l.stackTraces = false) (dC : Nat → ClassId) (dI : Nat → Nat → Nat) (ad : Nat → Nat) (S : XS) (j : Nat) (x9 : Int32) (y2 : Int32) (y3 : Int32) (hj : j < 4) (hb9 : x9 < 0 ∨ nI 4 ≤ x9) : vx_Met l yX4_both wsX4_both ({ frames := 8, cells := 1, slots := 6, locals := 123 } : Room) (va_Pc [.ref (ad 57), .int (nI j), .int x9, .int y2, .int y3] (PXZ dC dI ad S)) (fun _ _ _ _ => False) (XQ dC dI ad S IX) 1 6 (fun _ => False) := by
  refine vx_ofW (cc := cX4_both) (maxL := 7) (ret := (some .int)) (by decide) rfl ?_
  intro p e s m args below meth c s₁ B hml hex hv
  obtain ⟨rfl, hPZ⟩ := hv
  have hPX := hPZ.1
  have hx := B.exec
  have hb := B.bytes
  have hr := B.returns
  have hts := atoms_spec (ws := wsX4_both) B.pre
  have hown : s.vm.findClass RX4 = some m.cls := findClass_of_methodNamed B.named
  have hlocks := B.notSynchronized
  have hX := WX.of hPX
  have hl := lv_entry ([.ref (ad 57), .int (nI j), .int x9, .int y2, .int y3]) (n := 7) (Nat.le_of_ble_eq_true rfl)
  rw [lg_entry_eq]
  generalize (lg_sl ([.ref (ad 57), .int (nI j), .int x9, .int y2, .int y3]) ++ List.replicate (7 - (lg_sl ([.ref (ad 57), .int (nI j), .int x9, .int y2, .int y3])).length) Slot.unset).toArray = ls at hl ⊢
  have hl : lv_has ls 7 [(0, .ref (ad 57)), (1, .int (nI j)), (2, .int x9), (3, .int y2), (4, .int y3)] := hl
  show W p l e ({ frames := 8, cells := 1, slots := 6, locals := 123 } : Room) s m ([.ref (ad 57), .int (nI j), .int x9, .int y2, .int y3]).toArray below meth c s.heap [] 0 0 (vx_MQ below (fun _ _ _ _ => False) (XQ dC dI ad S IX) ([.ref (ad 57), .int (nI j), .int x9, .int y2, .int y3]).toArray s 1 6 (fun _ => False)) (F0 m 0 ls [])
  refine lv_aload_n hx hb dX4_both_0 rfl (lv_at hl 0 rfl) ?_
  refine lv_iload_n hx hb dX4_both_1 rfl (lv_at hl 1 rfl) ?_
  refine va_csr (va_Run.run (va_runV (As := [.int (nI j)]) (rest := []) ⟨hx, hb, hml, hown, hts⟩ (m_X4_orderAt l dC dI ad S j (by omega)) (cwV 1 hts gX4_both_X4_orderAt rfl rfl rfl hdX4_orderAt_1 ⟨Nat.le_of_ble_eq_true rfl, Nat.le_of_ble_eq_true rfl⟩) (hX.preTop 57 6 (by decide) (by decide) rfl rfl) rfl rfl hl.1 rfl (lv_room (Nat.le_of_ble_eq_true rfl)) dX4_both_2 ⟨Nat.le_of_ble_eq_true rfl, Nat.le_of_ble_eq_true rfl⟩)) (fun k_ hk_ => ?_)
  rw [hk_]
  refine lv_astore (lv' := [(5, .ref (ad (24 + 5 * j))), (0, .ref (ad 57)), (1, .int (nI j)), (2, .int x9), (3, .int y2), (4, .int y3)]) hx hb dX4_both_5 hl (by decide) rfl (fun ls hl => ?_)
  refine lv_aload_n hx hb dX4_both_7 rfl (lv_at hl 1 rfl) ?_
  refine lv_iload_n hx hb dX4_both_8 rfl (lv_at hl 3 rfl) ?_
  exact kx_pass (vx_runV (As := [.int x9]) (rest := []) ⟨hx, hb, hml, hown, hts⟩ (t_X4_orderAt l hst dC dI ad S x9 hb9) (cwV 1 hts gX4_both_X4_orderAt rfl rfl rfl hdX4_orderAt_1 ⟨Nat.le_of_ble_eq_true rfl, Nat.le_of_ble_eq_true rfl⟩) (hPZ.preX) rfl rfl hl.1 rfl (lv_room (Nat.le_of_ble_eq_true rfl)) dX4_both_9 ⟨Nat.le_of_ble_eq_true rfl, Nat.le_of_ble_eq_true rfl⟩) hPX hex hlocks
set_option maxHeartbeats 4000000 in
set_option maxRecDepth 100000 in
theorem t_X4_both_3 (l : Launch) (hst : l.stackTraces = false) (dC : Nat → ClassId) (dI : Nat → Nat → Nat) (ad : Nat → Nat) (S : XS) (j : Nat) (j2 : Nat) (x9 : Int32) (y3 : Int32) (hj : j < 4) (hj2 : j2 < 4) (hb9 : x9 < 0 ∨ nI 15 < x9) : vx_Met l yX4_both wsX4_both ({ frames := 8, cells := 1, slots := 6, locals := 123 } : Room) (va_Pc [.ref (ad 57), .int (nI j), .int (nI j2), .int x9, .int y3] (PXZ dC dI ad S)) (fun _ _ _ _ => False) (XQ dC dI ad S IA) 1 6 (fun _ => False) := by
  refine vx_ofW (cc := cX4_both) (maxL := 7) (ret := (some .int)) (by decide) rfl ?_
  intro p e s m args below meth c s₁ B hml hex hv
  obtain ⟨rfl, hPZ⟩ := hv
  have hPX := hPZ.1
  have hx := B.exec
  have hb := B.bytes
  have hr := B.returns
  have hts := atoms_spec (ws := wsX4_both) B.pre
  have hown : s.vm.findClass RX4 = some m.cls := findClass_of_methodNamed B.named
  have hlocks := B.notSynchronized
  have hX := WX.of hPX
  have hl := lv_entry ([.ref (ad 57), .int (nI j), .int (nI j2), .int x9, .int y3]) (n := 7) (Nat.le_of_ble_eq_true rfl)
  rw [lg_entry_eq]
  generalize (lg_sl ([.ref (ad 57), .int (nI j), .int (nI j2), .int x9, .int y3]) ++ List.replicate (7 - (lg_sl ([.ref (ad 57), .int (nI j), .int (nI j2), .int x9, .int y3])).length) Slot.unset).toArray = ls at hl ⊢
  have hl : lv_has ls 7 [(0, .ref (ad 57)), (1, .int (nI j)), (2, .int (nI j2)), (3, .int x9), (4, .int y3)] := hl
  show W p l e ({ frames := 8, cells := 1, slots := 6, locals := 123 } : Room) s m ([.ref (ad 57), .int (nI j), .int (nI j2), .int x9, .int y3]).toArray below meth c s.heap [] 0 0 (vx_MQ below (fun _ _ _ _ => False) (XQ dC dI ad S IA) ([.ref (ad 57), .int (nI j), .int (nI j2), .int x9, .int y3]).toArray s 1 6 (fun _ => False)) (F0 m 0 ls [])
  refine lv_aload_n hx hb dX4_both_0 rfl (lv_at hl 0 rfl) ?_
  refine lv_iload_n hx hb dX4_both_1 rfl (lv_at hl 1 rfl) ?_
  refine va_csr (va_Run.run (va_runV (As := [.int (nI j)]) (rest := []) ⟨hx, hb, hml, hown, hts⟩ (m_X4_orderAt l dC dI ad S j (by omega)) (cwV 1 hts gX4_both_X4_orderAt rfl rfl rfl hdX4_orderAt_1 ⟨Nat.le_of_ble_eq_true rfl, Nat.le_of_ble_eq_true rfl⟩) (hX.preTop 57 6 (by decide) (by decide) rfl rfl) rfl rfl hl.1 rfl (lv_room (Nat.le_of_ble_eq_true rfl)) dX4_both_2 ⟨Nat.le_of_ble_eq_true rfl, Nat.le_of_ble_eq_true rfl⟩)) (fun k_ hk_ => ?_)
  rw [hk_]
  refine lv_astore (lv' := [(5, .ref (ad (24 + 5 * j))), (0, .ref (ad 57)), (1, .int (nI j)), (2, .int (nI j2)), (3, .int x9), (4, .int y3)]) hx hb dX4_both_5 hl (by decide) rfl (fun ls hl => ?_)
  refine lv_aload_n hx hb dX4_both_7 rfl (lv_at hl 1 rfl) ?_
  refine lv_iload_n hx hb dX4_both_8 rfl (lv_at hl 3 rfl) ?_
  refine va_csr (va_Run.run (va_runV (As := [.int (nI j2)]) (rest := []) ⟨hx, hb, hml, hown, hts⟩ (m_X4_orderAt l dC dI ad S j2 (by omega)) (cwV 1 hts gX4_both_X4_orderAt rfl rfl rfl hdX4_orderAt_1 ⟨Nat.le_of_ble_eq_true rfl, Nat.le_of_ble_eq_true rfl⟩) (hX.preTop 57 6 (by decide) (by decide) rfl rfl) rfl rfl hl.1 rfl (lv_room (Nat.le_of_ble_eq_true rfl)) dX4_both_9 ⟨Nat.le_of_ble_eq_true rfl, Nat.le_of_ble_eq_true rfl⟩)) (fun k_ hk_ => ?_)
  rw [hk_]
  refine lv_astore (lv' := [(6, .ref (ad (24 + 5 * j2))), (5, .ref (ad (24 + 5 * j))), (0, .ref (ad 57)), (1, .int (nI j)), (2, .int (nI j2)), (3, .int x9), (4, .int y3)]) hx hb dX4_both_12 hl (by decide) rfl (fun ls hl => ?_)
  refine lv_iload_n hx hb dX4_both_14 rfl (lv_at hl 5 rfl) ?_
  exact kx_pass (vx_runS (As := [.int x9]) (rest := []) ⟨hx, hb, hml, hown, hts⟩ (t_X4_demandValue l hst dC dI ad S x9 hb9) (va_cwS 1 hts gX4_both_X4_demandValue rfl rfl rfl hdX4_demandValue_1.2 ⟨Nat.le_of_ble_eq_true rfl, Nat.le_of_ble_eq_true rfl⟩) hPZ.preS rfl rfl hl.1 rfl (lv_room (Nat.le_of_ble_eq_true rfl)) dX4_both_15 ⟨Nat.le_of_ble_eq_true rfl, Nat.le_of_ble_eq_true rfl⟩) hPX hex hlocks
set_option maxHeartbeats 4000000 in
set_option maxRecDepth 100000 in
theorem t_X4_both_4 (l : Launch) (hst : l.stackTraces = false) (dC : Nat → ClassId) (dI : Nat → Nat → Nat) (ad : Nat → Nat) (S : XS) (j : Nat) (j2 : Nat) (v : Nat) (x9 : Int32) (hj : j < 4) (hj2 : j2 < 4) (hv : v < 16) (hb9 : x9 < 0 ∨ nI 15 < x9) : vx_Met l yX4_both wsX4_both ({ frames := 8, cells := 1, slots := 6, locals := 123 } : Room) (va_Pc [.ref (ad 57), .int (nI j), .int (nI j2), .int (nI v), .int x9] (PXZ dC dI ad S)) (fun _ _ _ _ => False) (XQ dC dI ad S IA) 1 6 (fun _ => False) := by
  refine vx_ofW (cc := cX4_both) (maxL := 7) (ret := (some .int)) (by decide) rfl ?_
  intro p e s m args below meth c s₁ B hml hex hv
  obtain ⟨rfl, hPZ⟩ := hv
  have hPX := hPZ.1
  have hx := B.exec
  have hb := B.bytes
  have hr := B.returns
  have hts := atoms_spec (ws := wsX4_both) B.pre
  have hown : s.vm.findClass RX4 = some m.cls := findClass_of_methodNamed B.named
  have hlocks := B.notSynchronized
  have hX := WX.of hPX
  have hl := lv_entry ([.ref (ad 57), .int (nI j), .int (nI j2), .int (nI v), .int x9]) (n := 7) (Nat.le_of_ble_eq_true rfl)
  rw [lg_entry_eq]
  generalize (lg_sl ([.ref (ad 57), .int (nI j), .int (nI j2), .int (nI v), .int x9]) ++ List.replicate (7 - (lg_sl ([.ref (ad 57), .int (nI j), .int (nI j2), .int (nI v), .int x9])).length) Slot.unset).toArray = ls at hl ⊢
  have hl : lv_has ls 7 [(0, .ref (ad 57)), (1, .int (nI j)), (2, .int (nI j2)), (3, .int (nI v)), (4, .int x9)] := hl
  show W p l e ({ frames := 8, cells := 1, slots := 6, locals := 123 } : Room) s m ([.ref (ad 57), .int (nI j), .int (nI j2), .int (nI v), .int x9]).toArray below meth c s.heap [] 0 0 (vx_MQ below (fun _ _ _ _ => False) (XQ dC dI ad S IA) ([.ref (ad 57), .int (nI j), .int (nI j2), .int (nI v), .int x9]).toArray s 1 6 (fun _ => False)) (F0 m 0 ls [])
  refine lv_aload_n hx hb dX4_both_0 rfl (lv_at hl 0 rfl) ?_
  refine lv_iload_n hx hb dX4_both_1 rfl (lv_at hl 1 rfl) ?_
  refine va_csr (va_Run.run (va_runV (As := [.int (nI j)]) (rest := []) ⟨hx, hb, hml, hown, hts⟩ (m_X4_orderAt l dC dI ad S j (by omega)) (cwV 1 hts gX4_both_X4_orderAt rfl rfl rfl hdX4_orderAt_1 ⟨Nat.le_of_ble_eq_true rfl, Nat.le_of_ble_eq_true rfl⟩) (hX.preTop 57 6 (by decide) (by decide) rfl rfl) rfl rfl hl.1 rfl (lv_room (Nat.le_of_ble_eq_true rfl)) dX4_both_2 ⟨Nat.le_of_ble_eq_true rfl, Nat.le_of_ble_eq_true rfl⟩)) (fun k_ hk_ => ?_)
  rw [hk_]
  refine lv_astore (lv' := [(5, .ref (ad (24 + 5 * j))), (0, .ref (ad 57)), (1, .int (nI j)), (2, .int (nI j2)), (3, .int (nI v)), (4, .int x9)]) hx hb dX4_both_5 hl (by decide) rfl (fun ls hl => ?_)
  refine lv_aload_n hx hb dX4_both_7 rfl (lv_at hl 1 rfl) ?_
  refine lv_iload_n hx hb dX4_both_8 rfl (lv_at hl 3 rfl) ?_
  refine va_csr (va_Run.run (va_runV (As := [.int (nI j2)]) (rest := []) ⟨hx, hb, hml, hown, hts⟩ (m_X4_orderAt l dC dI ad S j2 (by omega)) (cwV 1 hts gX4_both_X4_orderAt rfl rfl rfl hdX4_orderAt_1 ⟨Nat.le_of_ble_eq_true rfl, Nat.le_of_ble_eq_true rfl⟩) (hX.preTop 57 6 (by decide) (by decide) rfl rfl) rfl rfl hl.1 rfl (lv_room (Nat.le_of_ble_eq_true rfl)) dX4_both_9 ⟨Nat.le_of_ble_eq_true rfl, Nat.le_of_ble_eq_true rfl⟩)) (fun k_ hk_ => ?_)
  rw [hk_]
  refine lv_astore (lv' := [(6, .ref (ad (24 + 5 * j2))), (5, .ref (ad (24 + 5 * j))), (0, .ref (ad 57)), (1, .int (nI j)), (2, .int (nI j2)), (3, .int (nI v)), (4, .int x9)]) hx hb dX4_both_12 hl (by decide) rfl (fun ls hl => ?_)
  refine lv_iload_n hx hb dX4_both_14 rfl (lv_at hl 5 rfl) ?_
  refine va_csv (va_Run.run (va_runS (As := [.int (nI v)]) (rest := []) ⟨hx, hb, hml, hown, hts⟩ (m_X4_demandValue l dC dI ad S v (by omega)) (va_cwS 1 hts gX4_both_X4_demandValue rfl rfl rfl hdX4_demandValue_1.2 ⟨Nat.le_of_ble_eq_true rfl, Nat.le_of_ble_eq_true rfl⟩) hX.preS rfl rfl hl.1 rfl (lv_room (Nat.le_of_ble_eq_true rfl)) dX4_both_15 ⟨Nat.le_of_ble_eq_true rfl, Nat.le_of_ble_eq_true rfl⟩)) (fun _ => ?_)
  refine lv_iload hx hb dX4_both_18 (lv_at hl 6 rfl) ?_
  exact kx_pass (vx_runS (As := [.int x9]) (rest := []) ⟨hx, hb, hml, hown, hts⟩ (t_X4_demandValue l hst dC dI ad S x9 hb9) (va_cwS 1 hts gX4_both_X4_demandValue rfl rfl rfl hdX4_demandValue_1.2 ⟨Nat.le_of_ble_eq_true rfl, Nat.le_of_ble_eq_true rfl⟩) hPZ.preS rfl rfl hl.1 rfl (lv_room (Nat.le_of_ble_eq_true rfl)) dX4_both_20 ⟨Nat.le_of_ble_eq_true rfl, Nat.le_of_ble_eq_true rfl⟩) hPX hex hlocks
set_option maxHeartbeats 4000000 in
set_option maxRecDepth 100000 in
theorem t_X4_refines_1 (l : Launch) (hst : l.stackTraces = false) (dC : Nat → ClassId) (dI : Nat → Nat → Nat) (ad : Nat → Nat) (S : XS) (x9 : Int32) (y1 : Int32) (hb9 : x9 < 0 ∨ nI 4 ≤ x9) : vx_Met l yX4_refines wsX4_refines ({ frames := 8, cells := 1, slots := 6, locals := 123 } : Room) (va_Pc [.ref (ad 57), .int x9, .int y1] (PXZ dC dI ad S)) (fun _ _ _ _ => False) (XQ dC dI ad S IX) 1 6 (fun _ => False) := by
  refine vx_ofW (cc := cX4_refines) (maxL := 4) (ret := (some .boolean)) (by decide) rfl ?_
  intro p e s m args below meth c s₁ B hml hex hv
  obtain ⟨rfl, hPZ⟩ := hv
  have hPX := hPZ.1
  have hx := B.exec
  have hb := B.bytes
  have hr := B.returns
  have hts := atoms_spec (ws := wsX4_refines) B.pre
  have hown : s.vm.findClass RX4 = some m.cls := findClass_of_methodNamed B.named
  have hlocks := B.notSynchronized
  have hX := WX.of hPX
  have hl := lv_entry ([.ref (ad 57), .int x9, .int y1]) (n := 4) (Nat.le_of_ble_eq_true rfl)
  rw [lg_entry_eq]
  generalize (lg_sl ([.ref (ad 57), .int x9, .int y1]) ++ List.replicate (4 - (lg_sl ([.ref (ad 57), .int x9, .int y1])).length) Slot.unset).toArray = ls at hl ⊢
  have hl : lv_has ls 4 [(0, .ref (ad 57)), (1, .int x9), (2, .int y1)] := hl
  show W p l e ({ frames := 8, cells := 1, slots := 6, locals := 123 } : Room) s m ([.ref (ad 57), .int x9, .int y1]).toArray below meth c s.heap [] 0 0 (vx_MQ below (fun _ _ _ _ => False) (XQ dC dI ad S IX) ([.ref (ad 57), .int x9, .int y1]).toArray s 1 6 (fun _ => False)) (F0 m 0 ls [])
  refine lv_aload_n hx hb dX4_refines_0 rfl (lv_at hl 0 rfl) ?_
  refine lv_iload_n hx hb dX4_refines_1 rfl (lv_at hl 1 rfl) ?_
  exact kx_pass (vx_runV (As := [.int x9]) (rest := []) ⟨hx, hb, hml, hown, hts⟩ (t_X4_orderAt l hst dC dI ad S x9 hb9) (cwV 1 hts gX4_refines_X4_orderAt rfl rfl rfl hdX4_orderAt_1 ⟨Nat.le_of_ble_eq_true rfl, Nat.le_of_ble_eq_true rfl⟩) (hPZ.preX) rfl rfl hl.1 rfl (lv_room (Nat.le_of_ble_eq_true rfl)) dX4_refines_2 ⟨Nat.le_of_ble_eq_true rfl, Nat.le_of_ble_eq_true rfl⟩) hPX hex hlocks
set_option maxHeartbeats 4000000 in
set_option maxRecDepth 100000 in
theorem t_X4_refines_2 (l : Launch) (hst : l.stackTraces = false) (dC : Nat → ClassId) (dI : Nat → Nat → Nat) (ad : Nat → Nat) (S : XS) (j : Nat) (x9 : Int32) (hj : j < 4) (hb9 : x9 < 0 ∨ nI 4 ≤ x9) : vx_Met l yX4_refines wsX4_refines ({ frames := 8, cells := 1, slots := 6, locals := 123 } : Room) (va_Pc [.ref (ad 57), .int (nI j), .int x9] (PXZ dC dI ad S)) (fun _ _ _ _ => False) (XQ dC dI ad S IX) 1 6 (fun _ => False) := by
  refine vx_ofW (cc := cX4_refines) (maxL := 4) (ret := (some .boolean)) (by decide) rfl ?_
  intro p e s m args below meth c s₁ B hml hex hv
  obtain ⟨rfl, hPZ⟩ := hv
  have hPX := hPZ.1
  have hx := B.exec
  have hb := B.bytes
  have hr := B.returns
  have hts := atoms_spec (ws := wsX4_refines) B.pre
  have hown : s.vm.findClass RX4 = some m.cls := findClass_of_methodNamed B.named
  have hlocks := B.notSynchronized
  have hX := WX.of hPX
  have hl := lv_entry ([.ref (ad 57), .int (nI j), .int x9]) (n := 4) (Nat.le_of_ble_eq_true rfl)
  rw [lg_entry_eq]
  generalize (lg_sl ([.ref (ad 57), .int (nI j), .int x9]) ++ List.replicate (4 - (lg_sl ([.ref (ad 57), .int (nI j), .int x9])).length) Slot.unset).toArray = ls at hl ⊢
  have hl : lv_has ls 4 [(0, .ref (ad 57)), (1, .int (nI j)), (2, .int x9)] := hl
  show W p l e ({ frames := 8, cells := 1, slots := 6, locals := 123 } : Room) s m ([.ref (ad 57), .int (nI j), .int x9]).toArray below meth c s.heap [] 0 0 (vx_MQ below (fun _ _ _ _ => False) (XQ dC dI ad S IX) ([.ref (ad 57), .int (nI j), .int x9]).toArray s 1 6 (fun _ => False)) (F0 m 0 ls [])
  refine lv_aload_n hx hb dX4_refines_0 rfl (lv_at hl 0 rfl) ?_
  refine lv_iload_n hx hb dX4_refines_1 rfl (lv_at hl 1 rfl) ?_
  refine va_csr (va_Run.run (va_runV (As := [.int (nI j)]) (rest := []) ⟨hx, hb, hml, hown, hts⟩ (m_X4_orderAt l dC dI ad S j (by omega)) (cwV 1 hts gX4_refines_X4_orderAt rfl rfl rfl hdX4_orderAt_1 ⟨Nat.le_of_ble_eq_true rfl, Nat.le_of_ble_eq_true rfl⟩) (hX.preTop 57 6 (by decide) (by decide) rfl rfl) rfl rfl hl.1 rfl (lv_room (Nat.le_of_ble_eq_true rfl)) dX4_refines_2 ⟨Nat.le_of_ble_eq_true rfl, Nat.le_of_ble_eq_true rfl⟩)) (fun k_ hk_ => ?_)
  rw [hk_]
  refine lv_astore_n (lv' := [(3, .ref (ad (24 + 5 * j))), (0, .ref (ad 57)), (1, .int (nI j)), (2, .int x9)]) hx hb dX4_refines_5 rfl hl (by decide) rfl (fun ls hl => ?_)
  refine lv_aload_n hx hb dX4_refines_6 rfl (lv_at hl 0 rfl) ?_
  refine lv_aload_n hx hb dX4_refines_7 rfl (lv_at hl 1 rfl) ?_
  refine lv_iload_n hx hb dX4_refines_8 rfl (lv_at hl 3 rfl) ?_
  exact kx_pass (vx_runV (As := [.int x9]) (rest := [.ref (ad (24 + 5 * j))]) ⟨hx, hb, hml, hown, hts⟩ (t_X4_orderAt l hst dC dI ad S x9 hb9) (cwV 1 hts gX4_refines_X4_orderAt rfl rfl rfl hdX4_orderAt_1 ⟨Nat.le_of_ble_eq_true rfl, Nat.le_of_ble_eq_true rfl⟩) (hPZ.preX) rfl rfl hl.1 rfl (lv_room (Nat.le_of_ble_eq_true rfl)) dX4_refines_9 ⟨Nat.le_of_ble_eq_true rfl, Nat.le_of_ble_eq_true rfl⟩) hPX hex hlocks
set_option maxHeartbeats 4000000 in
set_option maxRecDepth 100000 in
theorem t_X4_areSame_1 (l : Launch) (hst : l.stackTraces = false) (dC : Nat → ClassId) (dI : Nat → Nat → Nat) (ad : Nat → Nat) (S : XS) (x9 : Int32) (y1 : Int32) (hb9 : x9 < 0 ∨ nI 4 ≤ x9) : vx_Met l yX4_areSame wsX4_areSame ({ frames := 8, cells := 1, slots := 6, locals := 123 } : Room) (va_Pc [.ref (ad 57), .int x9, .int y1] (PXZ dC dI ad S)) (fun _ _ _ _ => False) (XQ dC dI ad S IX) 1 6 (fun _ => False) := by
  refine vx_ofW (cc := cX4_areSame) (maxL := 4) (ret := (some .boolean)) (by decide) rfl ?_
  intro p e s m args below meth c s₁ B hml hex hv
  obtain ⟨rfl, hPZ⟩ := hv
  have hPX := hPZ.1
  have hx := B.exec
  have hb := B.bytes
  have hr := B.returns
  have hts := atoms_spec (ws := wsX4_areSame) B.pre
  have hown : s.vm.findClass RX4 = some m.cls := findClass_of_methodNamed B.named
  have hlocks := B.notSynchronized
  have hX := WX.of hPX
  have hl := lv_entry ([.ref (ad 57), .int x9, .int y1]) (n := 4) (Nat.le_of_ble_eq_true rfl)
  rw [lg_entry_eq]
  generalize (lg_sl ([.ref (ad 57), .int x9, .int y1]) ++ List.replicate (4 - (lg_sl ([.ref (ad 57), .int x9, .int y1])).length) Slot.unset).toArray = ls at hl ⊢
  have hl : lv_has ls 4 [(0, .ref (ad 57)), (1, .int x9), (2, .int y1)] := hl
  show W p l e ({ frames := 8, cells := 1, slots := 6, locals := 123 } : Room) s m ([.ref (ad 57), .int x9, .int y1]).toArray below meth c s.heap [] 0 0 (vx_MQ below (fun _ _ _ _ => False) (XQ dC dI ad S IX) ([.ref (ad 57), .int x9, .int y1]).toArray s 1 6 (fun _ => False)) (F0 m 0 ls [])
  refine lv_aload_n hx hb dX4_areSame_0 rfl (lv_at hl 0 rfl) ?_
  refine lv_iload_n hx hb dX4_areSame_1 rfl (lv_at hl 1 rfl) ?_
  exact kx_pass (vx_runV (As := [.int x9]) (rest := []) ⟨hx, hb, hml, hown, hts⟩ (t_X4_orderAt l hst dC dI ad S x9 hb9) (cwV 1 hts gX4_areSame_X4_orderAt rfl rfl rfl hdX4_orderAt_1 ⟨Nat.le_of_ble_eq_true rfl, Nat.le_of_ble_eq_true rfl⟩) (hPZ.preX) rfl rfl hl.1 rfl (lv_room (Nat.le_of_ble_eq_true rfl)) dX4_areSame_2 ⟨Nat.le_of_ble_eq_true rfl, Nat.le_of_ble_eq_true rfl⟩) hPX hex hlocks
set_option maxHeartbeats 4000000 in
set_option maxRecDepth 100000 in
theorem t_X4_areSame_2 (l : Launch) (hst : l.stackTraces = false) (dC : Nat → ClassId) (dI : Nat → Nat → Nat) (ad : Nat → Nat) (S : XS) (j : Nat) (x9 : Int32) (hj : j < 4) (hb9 : x9 < 0 ∨ nI 4 ≤ x9) : vx_Met l yX4_areSame wsX4_areSame ({ frames := 8, cells := 1, slots := 6, locals := 123 } : Room) (va_Pc [.ref (ad 57), .int (nI j), .int x9] (PXZ dC dI ad S)) (fun _ _ _ _ => False) (XQ dC dI ad S IX) 1 6 (fun _ => False) := by
  refine vx_ofW (cc := cX4_areSame) (maxL := 4) (ret := (some .boolean)) (by decide) rfl ?_
  intro p e s m args below meth c s₁ B hml hex hv
  obtain ⟨rfl, hPZ⟩ := hv
  have hPX := hPZ.1
  have hx := B.exec
  have hb := B.bytes
  have hr := B.returns
  have hts := atoms_spec (ws := wsX4_areSame) B.pre
  have hown : s.vm.findClass RX4 = some m.cls := findClass_of_methodNamed B.named
  have hlocks := B.notSynchronized
  have hX := WX.of hPX
  have hl := lv_entry ([.ref (ad 57), .int (nI j), .int x9]) (n := 4) (Nat.le_of_ble_eq_true rfl)
  rw [lg_entry_eq]
  generalize (lg_sl ([.ref (ad 57), .int (nI j), .int x9]) ++ List.replicate (4 - (lg_sl ([.ref (ad 57), .int (nI j), .int x9])).length) Slot.unset).toArray = ls at hl ⊢
  have hl : lv_has ls 4 [(0, .ref (ad 57)), (1, .int (nI j)), (2, .int x9)] := hl
  show W p l e ({ frames := 8, cells := 1, slots := 6, locals := 123 } : Room) s m ([.ref (ad 57), .int (nI j), .int x9]).toArray below meth c s.heap [] 0 0 (vx_MQ below (fun _ _ _ _ => False) (XQ dC dI ad S IX) ([.ref (ad 57), .int (nI j), .int x9]).toArray s 1 6 (fun _ => False)) (F0 m 0 ls [])
  refine lv_aload_n hx hb dX4_areSame_0 rfl (lv_at hl 0 rfl) ?_
  refine lv_iload_n hx hb dX4_areSame_1 rfl (lv_at hl 1 rfl) ?_
  refine va_csr (va_Run.run (va_runV (As := [.int (nI j)]) (rest := []) ⟨hx, hb, hml, hown, hts⟩ (m_X4_orderAt l dC dI ad S j (by omega)) (cwV 1 hts gX4_areSame_X4_orderAt rfl rfl rfl hdX4_orderAt_1 ⟨Nat.le_of_ble_eq_true rfl, Nat.le_of_ble_eq_true rfl⟩) (hX.preTop 57 6 (by decide) (by decide) rfl rfl) rfl rfl hl.1 rfl (lv_room (Nat.le_of_ble_eq_true rfl)) dX4_areSame_2 ⟨Nat.le_of_ble_eq_true rfl, Nat.le_of_ble_eq_true rfl⟩)) (fun k_ hk_ => ?_)
  rw [hk_]
  refine lv_astore_n (lv' := [(3, .ref (ad (24 + 5 * j))), (0, .ref (ad 57)), (1, .int (nI j)), (2, .int x9)]) hx hb dX4_areSame_5 rfl hl (by decide) rfl (fun ls hl => ?_)
  refine lv_aload_n hx hb dX4_areSame_6 rfl (lv_at hl 0 rfl) ?_
  refine lv_aload_n hx hb dX4_areSame_7 rfl (lv_at hl 1 rfl) ?_
  refine lv_iload_n hx hb dX4_areSame_8 rfl (lv_at hl 3 rfl) ?_
  exact kx_pass (vx_runV (As := [.int x9]) (rest := [.ref (ad (24 + 5 * j))]) ⟨hx, hb, hml, hown, hts⟩ (t_X4_orderAt l hst dC dI ad S x9 hb9) (cwV 1 hts gX4_areSame_X4_orderAt rfl rfl rfl hdX4_orderAt_1 ⟨Nat.le_of_ble_eq_true rfl, Nat.le_of_ble_eq_true rfl⟩) (hPZ.preX) rfl rfl hl.1 rfl (lv_room (Nat.le_of_ble_eq_true rfl)) dX4_areSame_9 ⟨Nat.le_of_ble_eq_true rfl, Nat.le_of_ble_eq_true rfl⟩) hPX hex hlocks
set_option maxHeartbeats 4000000 in
set_option maxRecDepth 100000 in
theorem t_X4_apart_1 (l : Launch) (hst : l.stackTraces = false) (dC : Nat → ClassId) (dI : Nat → Nat → Nat) (ad : Nat → Nat) (S : XS) (x9 : Int32) (y1 : Int32) (hb9 : x9 < 0 ∨ nI 4 ≤ x9) : vx_Met l yX4_apart wsX4_apart ({ frames := 8, cells := 1, slots := 6, locals := 123 } : Room) (va_Pc [.ref (ad 57), .int x9, .int y1] (PXZ dC dI ad S)) (fun _ _ _ _ => False) (XQ dC dI ad S IX) 1 6 (fun _ => False) := by
  refine vx_ofW (cc := cX4_apart) (maxL := 4) (ret := (some .int)) (by decide) rfl ?_
  intro p e s m args below meth c s₁ B hml hex hv
  obtain ⟨rfl, hPZ⟩ := hv
  have hPX := hPZ.1
  have hx := B.exec
  have hb := B.bytes
  have hr := B.returns
  have hts := atoms_spec (ws := wsX4_apart) B.pre
  have hown : s.vm.findClass RX4 = some m.cls := findClass_of_methodNamed B.named
  have hlocks := B.notSynchronized
  have hX := WX.of hPX
  have hl := lv_entry ([.ref (ad 57), .int x9, .int y1]) (n := 4) (Nat.le_of_ble_eq_true rfl)
  rw [lg_entry_eq]
  generalize (lg_sl ([.ref (ad 57), .int x9, .int y1]) ++ List.replicate (4 - (lg_sl ([.ref (ad 57), .int x9, .int y1])).length) Slot.unset).toArray = ls at hl ⊢
  have hl : lv_has ls 4 [(0, .ref (ad 57)), (1, .int x9), (2, .int y1)] := hl
  show W p l e ({ frames := 8, cells := 1, slots := 6, locals := 123 } : Room) s m ([.ref (ad 57), .int x9, .int y1]).toArray below meth c s.heap [] 0 0 (vx_MQ below (fun _ _ _ _ => False) (XQ dC dI ad S IX) ([.ref (ad 57), .int x9, .int y1]).toArray s 1 6 (fun _ => False)) (F0 m 0 ls [])
  refine lv_aload_n hx hb dX4_apart_0 rfl (lv_at hl 0 rfl) ?_
  refine lv_iload_n hx hb dX4_apart_1 rfl (lv_at hl 1 rfl) ?_
  exact kx_pass (vx_runV (As := [.int x9]) (rest := []) ⟨hx, hb, hml, hown, hts⟩ (t_X4_orderAt l hst dC dI ad S x9 hb9) (cwV 1 hts gX4_apart_X4_orderAt rfl rfl rfl hdX4_orderAt_1 ⟨Nat.le_of_ble_eq_true rfl, Nat.le_of_ble_eq_true rfl⟩) (hPZ.preX) rfl rfl hl.1 rfl (lv_room (Nat.le_of_ble_eq_true rfl)) dX4_apart_2 ⟨Nat.le_of_ble_eq_true rfl, Nat.le_of_ble_eq_true rfl⟩) hPX hex hlocks
set_option maxHeartbeats 4000000 in
set_option maxRecDepth 100000 in
theorem t_X4_apart_2 (l : Launch) (hst : l.stackTraces = false) (dC : Nat → ClassId) (dI : Nat → Nat → Nat) (ad : Nat → Nat) (S : XS) (j : Nat) (x9 : Int32) (hj : j < 4) (hb9 : x9 < 0 ∨ nI 4 ≤ x9) : vx_Met l yX4_apart wsX4_apart ({ frames := 8, cells := 1, slots := 6, locals := 123 } : Room) (va_Pc [.ref (ad 57), .int (nI j), .int x9] (PXZ dC dI ad S)) (fun _ _ _ _ => False) (XQ dC dI ad S IX) 1 6 (fun _ => False) := by
  refine vx_ofW (cc := cX4_apart) (maxL := 4) (ret := (some .int)) (by decide) rfl ?_
  intro p e s m args below meth c s₁ B hml hex hv
  obtain ⟨rfl, hPZ⟩ := hv
  have hPX := hPZ.1
  have hx := B.exec
  have hb := B.bytes
  have hr := B.returns
  have hts := atoms_spec (ws := wsX4_apart) B.pre
  have hown : s.vm.findClass RX4 = some m.cls := findClass_of_methodNamed B.named
  have hlocks := B.notSynchronized
  have hX := WX.of hPX
  have hl := lv_entry ([.ref (ad 57), .int (nI j), .int x9]) (n := 4) (Nat.le_of_ble_eq_true rfl)
  rw [lg_entry_eq]
  generalize (lg_sl ([.ref (ad 57), .int (nI j), .int x9]) ++ List.replicate (4 - (lg_sl ([.ref (ad 57), .int (nI j), .int x9])).length) Slot.unset).toArray = ls at hl ⊢
  have hl : lv_has ls 4 [(0, .ref (ad 57)), (1, .int (nI j)), (2, .int x9)] := hl
  show W p l e ({ frames := 8, cells := 1, slots := 6, locals := 123 } : Room) s m ([.ref (ad 57), .int (nI j), .int x9]).toArray below meth c s.heap [] 0 0 (vx_MQ below (fun _ _ _ _ => False) (XQ dC dI ad S IX) ([.ref (ad 57), .int (nI j), .int x9]).toArray s 1 6 (fun _ => False)) (F0 m 0 ls [])
  refine lv_aload_n hx hb dX4_apart_0 rfl (lv_at hl 0 rfl) ?_
  refine lv_iload_n hx hb dX4_apart_1 rfl (lv_at hl 1 rfl) ?_
  refine va_csr (va_Run.run (va_runV (As := [.int (nI j)]) (rest := []) ⟨hx, hb, hml, hown, hts⟩ (m_X4_orderAt l dC dI ad S j (by omega)) (cwV 1 hts gX4_apart_X4_orderAt rfl rfl rfl hdX4_orderAt_1 ⟨Nat.le_of_ble_eq_true rfl, Nat.le_of_ble_eq_true rfl⟩) (hX.preTop 57 6 (by decide) (by decide) rfl rfl) rfl rfl hl.1 rfl (lv_room (Nat.le_of_ble_eq_true rfl)) dX4_apart_2 ⟨Nat.le_of_ble_eq_true rfl, Nat.le_of_ble_eq_true rfl⟩)) (fun k_ hk_ => ?_)
  rw [hk_]
  refine lv_astore_n (lv' := [(3, .ref (ad (24 + 5 * j))), (0, .ref (ad 57)), (1, .int (nI j)), (2, .int x9)]) hx hb dX4_apart_5 rfl hl (by decide) rfl (fun ls hl => ?_)
  refine lv_aload_n hx hb dX4_apart_6 rfl (lv_at hl 0 rfl) ?_
  refine lv_aload_n hx hb dX4_apart_7 rfl (lv_at hl 1 rfl) ?_
  refine lv_iload_n hx hb dX4_apart_8 rfl (lv_at hl 3 rfl) ?_
  exact kx_pass (vx_runV (As := [.int x9]) (rest := [.ref (ad (24 + 5 * j))]) ⟨hx, hb, hml, hown, hts⟩ (t_X4_orderAt l hst dC dI ad S x9 hb9) (cwV 1 hts gX4_apart_X4_orderAt rfl rfl rfl hdX4_orderAt_1 ⟨Nat.le_of_ble_eq_true rfl, Nat.le_of_ble_eq_true rfl⟩) (hPZ.preX) rfl rfl hl.1 rfl (lv_room (Nat.le_of_ble_eq_true rfl)) dX4_apart_9 ⟨Nat.le_of_ble_eq_true rfl, Nat.le_of_ble_eq_true rfl⟩) hPX hex hlocks
set_option maxHeartbeats 4000000 in
set_option maxRecDepth 100000 in
theorem t_X4_classes_1 (l : Launch) (hst : l.stackTraces = false) (dC : Nat → ClassId) (dI : Nat → Nat → Nat) (ad : Nat → Nat) (S : XS) (x9 : Int32) (hb9 : x9 < 0 ∨ nI 4 ≤ x9) : vx_Met l yX4_classes wsX4_classes ({ frames := 8, cells := 1, slots := 6, locals := 123 } : Room) (va_Pc [.ref (ad 57), .int x9] (PXZ dC dI ad S)) (fun _ _ _ _ => False) (XQ dC dI ad S IX) 1 6 (fun _ => False) := by
  refine vx_ofW (cc := cX4_classes) (maxL := 2) (ret := (some .int)) (by decide) rfl ?_
  intro p e s m args below meth c s₁ B hml hex hv
  obtain ⟨rfl, hPZ⟩ := hv
  have hPX := hPZ.1
  have hx := B.exec
  have hb := B.bytes
  have hr := B.returns
  have hts := atoms_spec (ws := wsX4_classes) B.pre
  have hown : s.vm.findClass RX4 = some m.cls := findClass_of_methodNamed B.named
  have hlocks := B.notSynchronized
  have hX := WX.of hPX
  have hl := lv_entry ([.ref (ad 57), .int x9]) (n := 2) (Nat.le_of_ble_eq_true rfl)
  rw [lg_entry_eq]
  generalize (lg_sl ([.ref (ad 57), .int x9]) ++ List.replicate (2 - (lg_sl ([.ref (ad 57), .int x9])).length) Slot.unset).toArray = ls at hl ⊢
  have hl : lv_has ls 2 [(0, .ref (ad 57)), (1, .int x9)] := hl
  show W p l e ({ frames := 8, cells := 1, slots := 6, locals := 123 } : Room) s m ([.ref (ad 57), .int x9]).toArray below meth c s.heap [] 0 0 (vx_MQ below (fun _ _ _ _ => False) (XQ dC dI ad S IX) ([.ref (ad 57), .int x9]).toArray s 1 6 (fun _ => False)) (F0 m 0 ls [])
  refine lv_aload_n hx hb dX4_classes_0 rfl (lv_at hl 0 rfl) ?_
  refine lv_iload_n hx hb dX4_classes_1 rfl (lv_at hl 1 rfl) ?_
  exact kx_pass (vx_runV (As := [.int x9]) (rest := []) ⟨hx, hb, hml, hown, hts⟩ (t_X4_orderAt l hst dC dI ad S x9 hb9) (cwV 1 hts gX4_classes_X4_orderAt rfl rfl rfl hdX4_orderAt_1 ⟨Nat.le_of_ble_eq_true rfl, Nat.le_of_ble_eq_true rfl⟩) (hPZ.preX) rfl rfl hl.1 rfl (lv_room (Nat.le_of_ble_eq_true rfl)) dX4_classes_2 ⟨Nat.le_of_ble_eq_true rfl, Nat.le_of_ble_eq_true rfl⟩) hPX hex hlocks
set_option maxHeartbeats 4000000 in
set_option maxRecDepth 100000 in
theorem t_X4_rank_1 (l : Launch) (hst : l.stackTraces = false) (dC : Nat → ClassId) (dI : Nat → Nat → Nat) (ad : Nat → Nat) (S : XS) (x9 : Int32) (y1 : Int32) (hb9 : x9 < 0 ∨ nI 4 ≤ x9) : vx_Met l yX4_rank wsX4_rank ({ frames := 8, cells := 1, slots := 6, locals := 123 } : Room) (va_Pc [.ref (ad 57), .int x9, .int y1] (PXZ dC dI ad S)) (fun _ _ _ _ => False) (XQ dC dI ad S IX) 1 6 (fun _ => False) := by
  refine vx_ofW (cc := cX4_rank) (maxL := 4) (ret := (some .int)) (by decide) rfl ?_
  intro p e s m args below meth c s₁ B hml hex hv
  obtain ⟨rfl, hPZ⟩ := hv
  have hPX := hPZ.1
  have hx := B.exec
  have hb := B.bytes
  have hr := B.returns
  have hts := atoms_spec (ws := wsX4_rank) B.pre
  have hown : s.vm.findClass RX4 = some m.cls := findClass_of_methodNamed B.named
  have hlocks := B.notSynchronized
  have hX := WX.of hPX
  have hl := lv_entry ([.ref (ad 57), .int x9, .int y1]) (n := 4) (Nat.le_of_ble_eq_true rfl)
  rw [lg_entry_eq]
  generalize (lg_sl ([.ref (ad 57), .int x9, .int y1]) ++ List.replicate (4 - (lg_sl ([.ref (ad 57), .int x9, .int y1])).length) Slot.unset).toArray = ls at hl ⊢
  have hl : lv_has ls 4 [(0, .ref (ad 57)), (1, .int x9), (2, .int y1)] := hl
  show W p l e ({ frames := 8, cells := 1, slots := 6, locals := 123 } : Room) s m ([.ref (ad 57), .int x9, .int y1]).toArray below meth c s.heap [] 0 0 (vx_MQ below (fun _ _ _ _ => False) (XQ dC dI ad S IX) ([.ref (ad 57), .int x9, .int y1]).toArray s 1 6 (fun _ => False)) (F0 m 0 ls [])
  refine lv_aload_n hx hb dX4_rank_0 rfl (lv_at hl 0 rfl) ?_
  refine lv_iload_n hx hb dX4_rank_1 rfl (lv_at hl 1 rfl) ?_
  exact kx_pass (vx_runV (As := [.int x9]) (rest := []) ⟨hx, hb, hml, hown, hts⟩ (t_X4_orderAt l hst dC dI ad S x9 hb9) (cwV 1 hts gX4_rank_X4_orderAt rfl rfl rfl hdX4_orderAt_1 ⟨Nat.le_of_ble_eq_true rfl, Nat.le_of_ble_eq_true rfl⟩) (hPZ.preX) rfl rfl hl.1 rfl (lv_room (Nat.le_of_ble_eq_true rfl)) dX4_rank_2 ⟨Nat.le_of_ble_eq_true rfl, Nat.le_of_ble_eq_true rfl⟩) hPX hex hlocks
set_option maxHeartbeats 4000000 in
set_option maxRecDepth 100000 in
theorem t_X4_rank_2 (l : Launch) (hst : l.stackTraces = false) (dC : Nat → ClassId) (dI : Nat → Nat → Nat) (ad : Nat → Nat) (S : XS) (j : Nat) (x9 : Int32) (hj : j < 4) (hb9 : x9 < 0 ∨ nI 15 < x9) : vx_Met l yX4_rank wsX4_rank ({ frames := 8, cells := 1, slots := 6, locals := 123 } : Room) (va_Pc [.ref (ad 57), .int (nI j), .int x9] (PXZ dC dI ad S)) (fun _ _ _ _ => False) (XQ dC dI ad S IA) 1 6 (fun _ => False) := by
  refine vx_ofW (cc := cX4_rank) (maxL := 4) (ret := (some .int)) (by decide) rfl ?_
  intro p e s m args below meth c s₁ B hml hex hv
  obtain ⟨rfl, hPZ⟩ := hv
  have hPX := hPZ.1
  have hx := B.exec
  have hb := B.bytes
  have hr := B.returns
  have hts := atoms_spec (ws := wsX4_rank) B.pre
  have hown : s.vm.findClass RX4 = some m.cls := findClass_of_methodNamed B.named
  have hlocks := B.notSynchronized
  have hX := WX.of hPX
  have hl := lv_entry ([.ref (ad 57), .int (nI j), .int x9]) (n := 4) (Nat.le_of_ble_eq_true rfl)
  rw [lg_entry_eq]
  generalize (lg_sl ([.ref (ad 57), .int (nI j), .int x9]) ++ List.replicate (4 - (lg_sl ([.ref (ad 57), .int (nI j), .int x9])).length) Slot.unset).toArray = ls at hl ⊢
  have hl : lv_has ls 4 [(0, .ref (ad 57)), (1, .int (nI j)), (2, .int x9)] := hl
  show W p l e ({ frames := 8, cells := 1, slots := 6, locals := 123 } : Room) s m ([.ref (ad 57), .int (nI j), .int x9]).toArray below meth c s.heap [] 0 0 (vx_MQ below (fun _ _ _ _ => False) (XQ dC dI ad S IA) ([.ref (ad 57), .int (nI j), .int x9]).toArray s 1 6 (fun _ => False)) (F0 m 0 ls [])
  refine lv_aload_n hx hb dX4_rank_0 rfl (lv_at hl 0 rfl) ?_
  refine lv_iload_n hx hb dX4_rank_1 rfl (lv_at hl 1 rfl) ?_
  refine va_csr (va_Run.run (va_runV (As := [.int (nI j)]) (rest := []) ⟨hx, hb, hml, hown, hts⟩ (m_X4_orderAt l dC dI ad S j (by omega)) (cwV 1 hts gX4_rank_X4_orderAt rfl rfl rfl hdX4_orderAt_1 ⟨Nat.le_of_ble_eq_true rfl, Nat.le_of_ble_eq_true rfl⟩) (hX.preTop 57 6 (by decide) (by decide) rfl rfl) rfl rfl hl.1 rfl (lv_room (Nat.le_of_ble_eq_true rfl)) dX4_rank_2 ⟨Nat.le_of_ble_eq_true rfl, Nat.le_of_ble_eq_true rfl⟩)) (fun k_ hk_ => ?_)
  rw [hk_]
  refine lv_astore_n (lv' := [(3, .ref (ad (24 + 5 * j))), (0, .ref (ad 57)), (1, .int (nI j)), (2, .int x9)]) hx hb dX4_rank_5 rfl hl (by decide) rfl (fun ls hl => ?_)
  refine lv_iload_n hx hb dX4_rank_6 rfl (lv_at hl 3 rfl) ?_
  exact kx_pass (vx_runS (As := [.int x9]) (rest := []) ⟨hx, hb, hml, hown, hts⟩ (t_X4_demandValue l hst dC dI ad S x9 hb9) (va_cwS 1 hts gX4_rank_X4_demandValue rfl rfl rfl hdX4_demandValue_1.2 ⟨Nat.le_of_ble_eq_true rfl, Nat.le_of_ble_eq_true rfl⟩) hPZ.preS rfl rfl hl.1 rfl (lv_room (Nat.le_of_ble_eq_true rfl)) dX4_rank_7 ⟨Nat.le_of_ble_eq_true rfl, Nat.le_of_ble_eq_true rfl⟩) hPX hex hlocks
set_option maxHeartbeats 4000000 in
set_option maxRecDepth 100000 in
theorem t_X4_keyOf_1 (l : Launch) (hst : l.stackTraces = false) (dC : Nat → ClassId) (dI : Nat → Nat → Nat) (ad : Nat → Nat) (S : XS) (x9 : Int32) (y1 : Int32) (hb9 : x9 < 0 ∨ nI 7 < x9) : vx_Met l yX4_keyOf wsX4_keyOf ({ frames := 8, cells := 1, slots := 6, locals := 123 } : Room) (va_Pc [.ref (ad 57), .int x9, .int y1] (PXZ dC dI ad S)) (fun _ _ _ _ => False) (XQ dC dI ad S IA) 1 6 (fun _ => False) := by
  refine vx_ofW (cc := cX4_keyOf) (maxL := 3) (ret := (some .int)) (by decide) rfl ?_
  intro p e s m args below meth c s₁ B hml hex hv
  obtain ⟨rfl, hPZ⟩ := hv
  have hPX := hPZ.1
  have hx := B.exec
  have hb := B.bytes
  have hr := B.returns
  have hts := atoms_spec (ws := wsX4_keyOf) B.pre
  have hown : s.vm.findClass RX4 = some m.cls := findClass_of_methodNamed B.named
  have hlocks := B.notSynchronized
  have hX := WX.of hPX
  have hl := lv_entry ([.ref (ad 57), .int x9, .int y1]) (n := 3) (Nat.le_of_ble_eq_true rfl)
  rw [lg_entry_eq]
  generalize (lg_sl ([.ref (ad 57), .int x9, .int y1]) ++ List.replicate (3 - (lg_sl ([.ref (ad 57), .int x9, .int y1])).length) Slot.unset).toArray = ls at hl ⊢
  have hl : lv_has ls 3 [(0, .ref (ad 57)), (1, .int x9), (2, .int y1)] := hl
  show W p l e ({ frames := 8, cells := 1, slots := 6, locals := 123 } : Room) s m ([.ref (ad 57), .int x9, .int y1]).toArray below meth c s.heap [] 0 0 (vx_MQ below (fun _ _ _ _ => False) (XQ dC dI ad S IA) ([.ref (ad 57), .int x9, .int y1]).toArray s 1 6 (fun _ => False)) (F0 m 0 ls [])
  refine lv_iload_n hx hb dX4_keyOf_0 rfl (lv_at hl 1 rfl) ?_
  refine lv_bipush (v := nI 7) hx hb dX4_keyOf_1 (by decide) ?_
  exact kx_pass (vx_runS (As := [.int x9, .int (nI 7)]) (rest := []) ⟨hx, hb, hml, hown, hts⟩ (t_X4_demandWithin l hst dC dI ad S x9 7 (by omega) hb9) (va_cwS 2 hts gX4_keyOf_X4_demandWithin rfl rfl rfl hdX4_demandWithin_2.2 ⟨Nat.le_of_ble_eq_true rfl, Nat.le_of_ble_eq_true rfl⟩) hPZ.preS rfl rfl hl.1 rfl (lv_room (Nat.le_of_ble_eq_true rfl)) dX4_keyOf_3 ⟨Nat.le_of_ble_eq_true rfl, Nat.le_of_ble_eq_true rfl⟩) hPX hex hlocks
set_option maxHeartbeats 4000000 in
set_option maxRecDepth 100000 in
theorem t_X4_keyOf_2 (l : Launch) (hst : l.stackTraces = false) (dC : Nat → ClassId) (dI : Nat → Nat → Nat) (ad : Nat → Nat) (S : XS) (k : Nat) (x9 : Int32) (hk : k ≤ 7) (hb9 : x9 < 0 ∨ nI 15 < x9) : vx_Met l yX4_keyOf wsX4_keyOf ({ frames := 8, cells := 1, slots := 6, locals := 123 } : Room) (va_Pc [.ref (ad 57), .int (nI k), .int x9] (PXZ dC dI ad S)) (fun _ _ _ _ => False) (XQ dC dI ad S IA) 1 6 (fun _ => False) := by
  refine vx_ofW (cc := cX4_keyOf) (maxL := 3) (ret := (some .int)) (by decide) rfl ?_
  intro p e s m args below meth c s₁ B hml hex hv
  obtain ⟨rfl, hPZ⟩ := hv
  have hPX := hPZ.1
  have hx := B.exec
  have hb := B.bytes
  have hr := B.returns
  have hts := atoms_spec (ws := wsX4_keyOf) B.pre
  have hown : s.vm.findClass RX4 = some m.cls := findClass_of_methodNamed B.named
  have hlocks := B.notSynchronized
  have hX := WX.of hPX
  have hl := lv_entry ([.ref (ad 57), .int (nI k), .int x9]) (n := 3) (Nat.le_of_ble_eq_true rfl)
  rw [lg_entry_eq]
  generalize (lg_sl ([.ref (ad 57), .int (nI k), .int x9]) ++ List.replicate (3 - (lg_sl ([.ref (ad 57), .int (nI k), .int x9])).length) Slot.unset).toArray = ls at hl ⊢
  have hl : lv_has ls 3 [(0, .ref (ad 57)), (1, .int (nI k)), (2, .int x9)] := hl
  show W p l e ({ frames := 8, cells := 1, slots := 6, locals := 123 } : Room) s m ([.ref (ad 57), .int (nI k), .int x9]).toArray below meth c s.heap [] 0 0 (vx_MQ below (fun _ _ _ _ => False) (XQ dC dI ad S IA) ([.ref (ad 57), .int (nI k), .int x9]).toArray s 1 6 (fun _ => False)) (F0 m 0 ls [])
  refine lv_iload_n hx hb dX4_keyOf_0 rfl (lv_at hl 1 rfl) ?_
  refine lv_bipush (v := nI 7) hx hb dX4_keyOf_1 (by decide) ?_
  refine va_csv (va_Run.run (va_runS (As := [.int (nI k), .int (nI 7)]) (rest := []) ⟨hx, hb, hml, hown, hts⟩ (m_X4_demandWithin l dC dI ad S k 7 (by omega) (by omega)) (va_cwS 2 hts gX4_keyOf_X4_demandWithin rfl rfl rfl hdX4_demandWithin_2.2 ⟨Nat.le_of_ble_eq_true rfl, Nat.le_of_ble_eq_true rfl⟩) hX.preS rfl rfl hl.1 rfl (lv_room (Nat.le_of_ble_eq_true rfl)) dX4_keyOf_3 ⟨Nat.le_of_ble_eq_true rfl, Nat.le_of_ble_eq_true rfl⟩)) (fun _ => ?_)
  refine lv_iload_n hx hb dX4_keyOf_6 rfl (lv_at hl 2 rfl) ?_
  exact kx_pass (vx_runS (As := [.int x9]) (rest := []) ⟨hx, hb, hml, hown, hts⟩ (t_X4_demandValue l hst dC dI ad S x9 hb9) (va_cwS 1 hts gX4_keyOf_X4_demandValue rfl rfl rfl hdX4_demandValue_1.2 ⟨Nat.le_of_ble_eq_true rfl, Nat.le_of_ble_eq_true rfl⟩) hPZ.preS rfl rfl hl.1 rfl (lv_room (Nat.le_of_ble_eq_true rfl)) dX4_keyOf_7 ⟨Nat.le_of_ble_eq_true rfl, Nat.le_of_ble_eq_true rfl⟩) hPX hex hlocks
set_option maxHeartbeats 4000000 in
set_option maxRecDepth 100000 in
theorem t_X4_house_1 (l : Launch) (hst : l.stackTraces = false) (dC : Nat → ClassId) (dI : Nat → Nat → Nat) (ad : Nat → Nat) (S : XS) (x9 : Int32) (hb9 : x9 < 0 ∨ nI 4 < x9) : vx_Met l yX4_house wsX4_house ({ frames := 8, cells := 1, slots := 6, locals := 123 } : Room) (va_Pc [.ref (ad 57), .int x9] (PXZ dC dI ad S)) (fun _ _ _ _ => False) (XQ dC dI ad S IA) 1 6 (fun _ => False) := by
  refine vx_ofW (cc := cX4_house) (maxL := 2) (ret := (some .int)) (by decide) rfl ?_
  intro p e s m args below meth c s₁ B hml hex hv
  obtain ⟨rfl, hPZ⟩ := hv
  have hPX := hPZ.1
  have hx := B.exec
  have hb := B.bytes
  have hr := B.returns
  have hts := atoms_spec (ws := wsX4_house) B.pre
  have hown : s.vm.findClass RX4 = some m.cls := findClass_of_methodNamed B.named
  have hlocks := B.notSynchronized
  have hX := WX.of hPX
  have hl := lv_entry ([.ref (ad 57), .int x9]) (n := 2) (Nat.le_of_ble_eq_true rfl)
  rw [lg_entry_eq]
  generalize (lg_sl ([.ref (ad 57), .int x9]) ++ List.replicate (2 - (lg_sl ([.ref (ad 57), .int x9])).length) Slot.unset).toArray = ls at hl ⊢
  have hl : lv_has ls 2 [(0, .ref (ad 57)), (1, .int x9)] := hl
  show W p l e ({ frames := 8, cells := 1, slots := 6, locals := 123 } : Room) s m ([.ref (ad 57), .int x9]).toArray below meth c s.heap [] 0 0 (vx_MQ below (fun _ _ _ _ => False) (XQ dC dI ad S IA) ([.ref (ad 57), .int x9]).toArray s 1 6 (fun _ => False)) (F0 m 0 ls [])
  refine lv_iload_n hx hb dX4_house_0 rfl (lv_at hl 1 rfl) ?_
  refine lv_iconst (v := nI 4) hx hb dX4_house_1 (by decide) ?_
  exact kx_pass (vx_runS (As := [.int x9, .int (nI 4)]) (rest := []) ⟨hx, hb, hml, hown, hts⟩ (t_X4_demandWithin l hst dC dI ad S x9 4 (by omega) hb9) (va_cwS 2 hts gX4_house_X4_demandWithin rfl rfl rfl hdX4_demandWithin_2.2 ⟨Nat.le_of_ble_eq_true rfl, Nat.le_of_ble_eq_true rfl⟩) hPZ.preS rfl rfl hl.1 rfl (lv_room (Nat.le_of_ble_eq_true rfl)) dX4_house_2 ⟨Nat.le_of_ble_eq_true rfl, Nat.le_of_ble_eq_true rfl⟩) hPX hex hlocks
set_option maxHeartbeats 4000000 in
set_option maxRecDepth 100000 in
theorem t_X4_sortPart_5 (l : Launch) (hst : l.stackTraces = false) (dC : Nat → ClassId) (dI : Nat → Nat → Nat) (ad : Nat → Nat) (S : XS) (i : Nat) (j : Nat) (q : Nat) (q2 : Nat) (hi : i < 3) (hj : j < 4) (hq : q ≤ (S.1 i).2.2) (hq2 : q2 ≤ (S.1 i).2.2) (hn : (S.1 i).2.2 ≤ 16) (hlt : q2 < q) : vx_Met l yX4_sortPart wsX4_sortPart ({ frames := 8, cells := 1, slots := 6, locals := 123 } : Room) (va_Pc [.ref (ad 57), .int (nI i), .int (nI j), .int (nI q), .int (nI q2)] (PXZ dC dI ad S)) (fun _ _ _ _ => False) (XQ dC dI ad S IA) 1 6 (fun _ => False) := by
  refine vx_ofW (cc := cX4_sortPart) (maxL := 7) (ret := (some .int)) (by decide) rfl ?_
  intro p e s m args below meth c s₁ B hml hex hv
  obtain ⟨rfl, hPZ⟩ := hv
  have hPX := hPZ.1
  have hx := B.exec
  have hb := B.bytes
  have hr := B.returns
  have hts := atoms_spec (ws := wsX4_sortPart) B.pre
  have hown : s.vm.findClass RX4 = some m.cls := findClass_of_methodNamed B.named
  have hlocks := B.notSynchronized
  have hin4 : ∀ w ∈ u_ws RX4 TX4 9, w ∈ wsX4_sortPart := tu 1328 (by decide +kernel) rfl
  have hat_in : ∀ w ∈ (vx_atS RX4 140 IA xNames).filter goodWord, w ∈ wsX4_sortPart := by decide +kernel
  have hX := WX.of hPX
  have hl := lv_entry ([.ref (ad 57), .int (nI i), .int (nI j), .int (nI q), .int (nI q2)]) (n := 7) (Nat.le_of_ble_eq_true rfl)
  rw [lg_entry_eq]
  generalize (lg_sl ([.ref (ad 57), .int (nI i), .int (nI j), .int (nI q), .int (nI q2)]) ++ List.replicate (7 - (lg_sl ([.ref (ad 57), .int (nI i), .int (nI j), .int (nI q), .int (nI q2)])).length) Slot.unset).toArray = ls at hl ⊢
  have hl : lv_has ls 7 [(0, .ref (ad 57)), (1, .int (nI i)), (2, .int (nI j)), (3, .int (nI q)), (4, .int (nI q2))] := hl
  show W p l e ({ frames := 8, cells := 1, slots := 6, locals := 123 } : Room) s m ([.ref (ad 57), .int (nI i), .int (nI j), .int (nI q), .int (nI q2)]).toArray below meth c s.heap [] 0 0 (vx_MQ below (fun _ _ _ _ => False) (XQ dC dI ad S IA) ([.ref (ad 57), .int (nI i), .int (nI j), .int (nI q), .int (nI q2)]).toArray s 1 6 (fun _ => False)) (F0 m 0 ls [])
  refine lv_aload_n hx hb dX4_sortPart_0 rfl (lv_at hl 0 rfl) ?_
  refine lv_iload_n hx hb dX4_sortPart_1 rfl (lv_at hl 1 rfl) ?_
  refine va_csr (va_Run.run (va_runV (As := [.int (nI i)]) (rest := []) ⟨hx, hb, hml, hown, hts⟩ (m_X4_rowAt l dC dI ad S i (by omega)) (cwV 1 hts gX4_sortPart_X4_rowAt rfl rfl rfl hdX4_rowAt_1 ⟨Nat.le_of_ble_eq_true rfl, Nat.le_of_ble_eq_true rfl⟩) (hX.preTop 57 6 (by decide) (by decide) rfl rfl) rfl rfl hl.1 rfl (lv_room (Nat.le_of_ble_eq_true rfl)) dX4_sortPart_2 ⟨Nat.le_of_ble_eq_true rfl, Nat.le_of_ble_eq_true rfl⟩)) (fun k_ hk_ => ?_)
  rw [hk_]
  refine lv_astore (lv' := [(5, .ref (ad (3 * i))), (0, .ref (ad 57)), (1, .int (nI i)), (2, .int (nI j)), (3, .int (nI q)), (4, .int (nI q2))]) hx hb dX4_sortPart_5 hl (by decide) rfl (fun ls hl => ?_)
  refine lv_aload_n hx hb dX4_sortPart_7 rfl (lv_at hl 1 rfl) ?_
  refine lv_iload_n hx hb dX4_sortPart_8 rfl (lv_at hl 3 rfl) ?_
  refine va_csr (va_Run.run (va_runV (As := [.int (nI j)]) (rest := []) ⟨hx, hb, hml, hown, hts⟩ (m_X4_orderAt l dC dI ad S j (by omega)) (cwV 1 hts gX4_sortPart_X4_orderAt rfl rfl rfl hdX4_orderAt_1 ⟨Nat.le_of_ble_eq_true rfl, Nat.le_of_ble_eq_true rfl⟩) (hX.preTop 57 6 (by decide) (by decide) rfl rfl) rfl rfl hl.1 rfl (lv_room (Nat.le_of_ble_eq_true rfl)) dX4_sortPart_9 ⟨Nat.le_of_ble_eq_true rfl, Nat.le_of_ble_eq_true rfl⟩)) (fun k_ hk_ => ?_)
  rw [hk_]
  refine lv_astore (lv' := [(6, .ref (ad (24 + 5 * j))), (5, .ref (ad (3 * i))), (0, .ref (ad 57)), (1, .int (nI i)), (2, .int (nI j)), (3, .int (nI q)), (4, .int (nI q2))]) hx hb dX4_sortPart_12 hl (by decide) rfl (fun ls hl => ?_)
  refine lv_aload hx hb dX4_sortPart_14 (lv_at hl 1 rfl) ?_
  refine lv_iload_n hx hb dX4_sortPart_16 rfl (lv_at hl 5 rfl) ?_
  refine va_csv (va_Run.run (va_runS (As := [.ref (ad (3 * i)), .int (nI q)]) (rest := []) ⟨hx, hb, hml, hown, hts⟩ (m_X4_demandGap l dC dI ad S i q (by omega) (by omega) (by omega)) (va_cwS 2 hts gX4_sortPart_X4_demandGap rfl rfl rfl hdX4_demandGap_2.2 ⟨Nat.le_of_ble_eq_true rfl, Nat.le_of_ble_eq_true rfl⟩) hX.preS rfl rfl hl.1 rfl (lv_room (Nat.le_of_ble_eq_true rfl)) dX4_sortPart_17 ⟨Nat.le_of_ble_eq_true rfl, Nat.le_of_ble_eq_true rfl⟩)) (fun _ => ?_)
  refine lv_aload hx hb dX4_sortPart_20 (lv_at hl 1 rfl) ?_
  refine lv_iload hx hb dX4_sortPart_22 (lv_at hl 6 rfl) ?_
  refine va_csv (va_Run.run (va_runS (As := [.ref (ad (3 * i)), .int (nI q2)]) (rest := []) ⟨hx, hb, hml, hown, hts⟩ (m_X4_demandGap l dC dI ad S i q2 (by omega) (by omega) (by omega)) (va_cwS 2 hts gX4_sortPart_X4_demandGap rfl rfl rfl hdX4_demandGap_2.2 ⟨Nat.le_of_ble_eq_true rfl, Nat.le_of_ble_eq_true rfl⟩) hX.preS rfl rfl hl.1 rfl (lv_room (Nat.le_of_ble_eq_true rfl)) dX4_sortPart_24 ⟨Nat.le_of_ble_eq_true rfl, Nat.le_of_ble_eq_true rfl⟩)) (fun _ => ?_)
  refine lv_iload_n hx hb dX4_sortPart_27 rfl (lv_at hl 5 rfl) ?_
  refine lv_iload hx hb dX4_sortPart_28 (lv_at hl 6 rfl) ?_
  refine kn_icmp_le (tgt := 43) hx hb (by omega) (by omega) dX4_sortPart_30 (by decide) (fun k_1 => absurd k_1 (by omega)) (fun k_1 => ?_)
  exact kx_throw1 hx hb hst hown xFitA xFitN (hts (.classLink RX4 136 IA) (tm 485 (by decide +kernel) rfl)) (hts (.initialized IA) (tm 486 (by decide +kernel) rfl)) (hPZ.2.1.2.2 (138, "from is above to") (by decide)) (vx_hat (fun w hw => hts w (hat_in w hw)) xBadA_ok hPZ.2.1.badA) xGoodA hPZ.2.2 hPX (by rw [hml]; exact hl.1) dX4_sortPart_33 dX4_sortPart_36 dX4_sortPart_37 dX4_sortPart_39 dX4_sortPart_42 hex (by decide) (by decide) (by decide) (by decide) hlocks
end
section
/-! the object's inner methods -/
def bothI (a b c d : Nat) : Int32 := if a ≠ b ∧ cmpI a b = -cmpI c d then nI 2 else if a ≠ b then cmpI a b else cmpI c d
theorem both_2 {a b c d : Nat} (h : a ≠ b) (h2 : cmpI a b = -cmpI c d) : nI 2 = bothI a b c d := (if_pos ⟨h, h2⟩).symm
theorem both_x {a b c d : Nat} (h : a ≠ b) (h2 : ¬ (a ≠ b ∧ cmpI a b = -cmpI c d)) : cmpI a b = bothI a b c d := by rw [bothI, if_neg h2, if_pos h]
theorem both_y {a b c d : Nat} (h : a = b) : cmpI c d = bothI a b c d := by rw [bothI, if_neg (fun z => z.1 h), if_neg (fun z => z h)]
def sumN (f : Nat → Nat) : Nat → Nat
  | 0 => 0
  | n + 1 => sumN f n + f n
def apartR (c d : Nat → Nat) (a : Nat) : Nat := cntB (fun y => decide (a < y) && decide (bothI (c a) (c y) (d a) (d y) = nI 2)) 16
def apartN (c d : Nat → Nat) : Nat := sumN (apartR c d) 16
def countX (S : XS) (k : Nat) : Nat := match k with
  | 0 => sumN (fun k => (S.1 k).2.2) 3
  | 1 => sumN (fun k => (S.2.1 k).2.2.2.2.1) 4
  | 2 => S.2.2.1
  | 3 => S.2.2.2.1
  | _ => S.2.2.2.2
def refT (S : XS) : XS := xN S (S.2.2.1, S.2.2.2.1 + 1, S.2.2.2.2)
def placeT (S : XS) (i q v : Nat) : XS := xR (xN S (S.2.2.1 + 1, S.2.2.2.1, S.2.2.2.2)) i (va_up (shr (S.1 i).1 (S.1 i).2.2 q) q v, va_up (shr (S.1 i).2.1 (S.1 i).2.2 q) q S.2.2.1, (S.1 i).2.2 + 1)
/-- of the keys of p the one with the fewest: how few, and which -/
def coarse (cl : Nat → Nat) (p : Nat → Bool) : Nat → Nat × Nat
  | 0 => (17, 0)
  | n + 1 => if p n = true ∧ cl n < (coarse cl p n).1 then (cl n, n) else coarse cl p n
def coarseC (o : OrdS) (k : Nat) : Nat := classC (codeOf (va_up o.1 o.2.2.2.2.1 k) (va_up o.2.1 o.2.2.2.2.1 false) (o.2.2.2.2.1 + 1))
def keyApart (v u k : Nat) : Bool := decide (numK k v ≠ numK k u)
theorem keyApart_no {v u k : Nat} (h : numK k v = numK k u) : keyApart v u k = false := decide_eq_false (fun z => z h)
theorem keyApart_yes {v u k : Nat} (h : numK k v ≠ numK k u) : keyApart v u k = true := decide_eq_true h
theorem coarse_no {cl : Nat → Nat} {p : Nat → Bool} {n : Nat} {x : Nat × Nat} (h : p n = false ∨ ¬ cl n < (coarse cl p n).1) (hx : x = coarse cl p n) : x = coarse cl p (n + 1) := by
  rw [coarse, if_neg, hx]
  intro z
  rcases h with h | h
  · rw [h] at z; exact absurd z.1 (by decide)
  · exact h z.2
theorem coarse_new {cl : Nat → Nat} {p : Nat → Bool} {n : Nat} {x : Nat × Nat} (h : p n = true) (h2 : cl n < (coarse cl p n).1) (_ : x = coarse cl p n) : (cl n, n) = coarse cl p (n + 1) := by
  rw [coarse, if_pos ⟨h, h2⟩]
theorem coarse_le (cl : Nat → Nat) (p : Nat → Bool) : ∀ n, (coarse cl p n).1 ≤ 17
  | 0 => Nat.le_refl _
  | n + 1 => by
    have ih := coarse_le cl p n
    rw [coarse]
    split
    · rename_i h; have := h.2; show cl n ≤ 17; omega
    · exact ih
theorem classC_cong {c d : Nat → Nat} (h : ∀ v, v < 16 → c v = d v) : classC c = classC d := by
  refine cntB_cong (fun k hk => ?_)
  unfold headB
  congr 1
  apply propext
  exact ⟨fun q a ha => by rw [← h a (by omega), ← h k hk]; exact q a ha, fun q a ha => by rw [h a (by omega), h k hk]; exact q a ha⟩
theorem coarse_eq {o : OrdS} {K0 : Nat → Nat} {D0 : Nat → Bool} (k : Nat) : classC (codeOf (va_up (apn K0 o.1 0 o.2.2.2.2.1) o.2.2.2.2.1 k) (va_up (apn D0 o.2.1 0 o.2.2.2.2.1) o.2.2.2.2.1 false) (o.2.2.2.2.1 + 1)) = coarseC o k := by
  refine classC_cong (fun v _ => codeOf_cong (fun q hq => ?_))
  unfold va_up
  by_cases e : q = o.2.2.2.2.1
  · rw [if_pos e, if_pos e, if_pos e, if_pos e]; exact ⟨rfl, rfl⟩
  · rw [if_neg e, if_neg e, if_neg e, if_neg e]
    unfold apn
    rw [if_pos (by omega), if_pos (by omega), Nat.sub_zero]
    exact ⟨rfl, rfl⟩
set_option maxHeartbeats 4000000 in
set_option maxRecDepth 100000 in
theorem m_X4_comparedByBoth (l : Launch) (dC : Nat → ClassId) (dI : Nat → Nat → Nat) (ad : Nat → Nat) (S : XS) (j t v u : Nat) (hj : j < 6) (ht : t < 6) (ho : ordOK (S.2.1 j)) (ho2 : ordOK (S.2.1 t)) (hv : v < 16) (hu : u < 16) : Met l yX4_comparedByBoth wsX4_comparedByBoth ({ frames := 1, cells := 0, slots := 0, locals := 26 } : Room) (va_Pc [.ref (ad (24 + 5 * j)), .ref (ad (24 + 5 * t)), .int (nI v), .int (nI u)] (PX dC dI ad S)) (vp_Si (fun r => r = bothI ((S.2.1 j).2.2.1 v) ((S.2.1 j).2.2.1 u) ((S.2.1 t).2.2.1 v) ((S.2.1 t).2.2.1 u))) 0 0 (fun _ => False) := by
  refine Met.ofW (cc := cX4_comparedByBoth) (maxL := 6) (ret := (some .int)) pl_X4 rfl ?_
  intro p e s m args below meth c s₁ B hml hv
  obtain ⟨rfl, hPX⟩ := hv
  have hx := B.exec
  have hb := B.bytes
  have hr := B.returns
  have hts := atoms_spec (ws := wsX4_comparedByBoth) B.pre
  have hown : s.vm.findClass RX4 = some m.cls := findClass_of_methodNamed B.named
  have hlocks := B.notSynchronized
  have hX := WX.of hPX
  have hl := lv_entry ([.ref (ad (24 + 5 * j)), .ref (ad (24 + 5 * t)), .int (nI v), .int (nI u)]) (n := 6) (Nat.le_of_ble_eq_true rfl)
  rw [lg_entry_eq]
  generalize (lg_sl ([.ref (ad (24 + 5 * j)), .ref (ad (24 + 5 * t)), .int (nI v), .int (nI u)]) ++ List.replicate (6 - (lg_sl ([.ref (ad (24 + 5 * j)), .ref (ad (24 + 5 * t)), .int (nI v), .int (nI u)])).length) Slot.unset).toArray = ls at hl ⊢
  have hl : lv_has ls 6 [(0, .ref (ad (24 + 5 * j))), (1, .ref (ad (24 + 5 * t))), (2, .int (nI v)), (3, .int (nI u))] := hl
  show W p l e ({ frames := 1, cells := 0, slots := 0, locals := 26 } : Room) s m ([.ref (ad (24 + 5 * j)), .ref (ad (24 + 5 * t)), .int (nI v), .int (nI u)]).toArray below meth c s.heap [] 0 0 (MQ below (vp_Si (fun r => r = bothI ((S.2.1 j).2.2.1 v) ((S.2.1 j).2.2.1 u) ((S.2.1 t).2.2.1 v) ((S.2.1 t).2.2.1 u))) ([.ref (ad (24 + 5 * j)), .ref (ad (24 + 5 * t)), .int (nI v), .int (nI u)]).toArray s 0 0 (fun _ => False)) (F0 m 0 ls [])
  have hI : (∀ i, i < 0 → rowOK (S.1 i)) ∧ ∀ k, k = j ∨ k = t → ordOK (S.2.1 k) := ⟨fun _ h => absurd h (Nat.not_lt_zero _), fun k h => by rcases h with rfl | rfl <;> assumption⟩
  refine lv_aload_n hx hb dX4_comparedByBoth_0 rfl (lv_at hl 0 rfl) ?_
  refine lv_iload_n hx hb dX4_comparedByBoth_1 rfl (lv_at hl 2 rfl) ?_
  refine lv_iload_n hx hb dX4_comparedByBoth_2 rfl (lv_at hl 3 rfl) ?_
  refine kx_cr (v := cmpI ((S.2.1 j).2.2.1 v) ((S.2.1 j).2.2.1 u)) (va_runV (As := [.int (nI v), .int (nI u)]) (rest := []) ⟨hx, hb, hml, hown, hts⟩ (m_X1_compared l dC dI ad S j v u (by omega) (hI.2 j (by omega)) (by omega) (by omega)) (cwV 2 hts gX4_comparedByBoth_X1_compared rfl rfl rfl hdX1_compared_2 ⟨Nat.le_of_ble_eq_true rfl, Nat.le_of_ble_eq_true rfl⟩) (hX.preOrd (by omega)) rfl rfl hl.1 rfl (lv_room (Nat.le_of_ble_eq_true rfl)) dX4_comparedByBoth_3 ⟨Nat.le_of_ble_eq_true rfl, Nat.le_of_ble_eq_true rfl⟩) (fun _ h => h) ?_
  refine lv_istore (lv' := [(4, .int (cmpI ((S.2.1 j).2.2.1 v) ((S.2.1 j).2.2.1 u))), (0, .ref (ad (24 + 5 * j))), (1, .ref (ad (24 + 5 * t))), (2, .int (nI v)), (3, .int (nI u))]) hx hb dX4_comparedByBoth_6 hl (by decide) rfl (fun ls hl => ?_)
  refine lv_aload_n hx hb dX4_comparedByBoth_8 rfl (lv_at hl 2 rfl) ?_
  refine lv_iload_n hx hb dX4_comparedByBoth_9 rfl (lv_at hl 3 rfl) ?_
  refine lv_iload_n hx hb dX4_comparedByBoth_10 rfl (lv_at hl 4 rfl) ?_
  refine kx_cr (v := cmpI ((S.2.1 t).2.2.1 v) ((S.2.1 t).2.2.1 u)) (va_runV (As := [.int (nI v), .int (nI u)]) (rest := []) ⟨hx, hb, hml, hown, hts⟩ (m_X1_compared l dC dI ad S t v u (by omega) (hI.2 t (by omega)) (by omega) (by omega)) (cwV 2 hts gX4_comparedByBoth_X1_compared rfl rfl rfl hdX1_compared_2 ⟨Nat.le_of_ble_eq_true rfl, Nat.le_of_ble_eq_true rfl⟩) (hX.preOrd (by omega)) rfl rfl hl.1 rfl (lv_room (Nat.le_of_ble_eq_true rfl)) dX4_comparedByBoth_11 ⟨Nat.le_of_ble_eq_true rfl, Nat.le_of_ble_eq_true rfl⟩) (fun _ h => h) ?_
  refine lv_istore (lv' := [(5, .int (cmpI ((S.2.1 t).2.2.1 v) ((S.2.1 t).2.2.1 u))), (4, .int (cmpI ((S.2.1 j).2.2.1 v) ((S.2.1 j).2.2.1 u))), (0, .ref (ad (24 + 5 * j))), (1, .ref (ad (24 + 5 * t))), (2, .int (nI v)), (3, .int (nI u))]) hx hb dX4_comparedByBoth_14 hl (by decide) rfl (fun ls hl => ?_)
  refine lv_iload hx hb dX4_comparedByBoth_16 (lv_at hl 1 rfl) ?_
  refine kc_if_eq (tgt := 31) hx hb dX4_comparedByBoth_18 (by decide) (fun k_1 => ?_) (fun k_1 => ?_)
  · skip
    have h1 := k_1
    refine lv_iload hx hb dX4_comparedByBoth_31 (lv_at hl 1 rfl) ?_
    refine kc_if_eq (tgt := 41) hx hb dX4_comparedByBoth_33 (by decide) (fun k_2 => ?_) (fun k_2 => ?_)
    · skip
      have h3 := k_2
      refine lv_iload hx hb dX4_comparedByBoth_41 (lv_at hl 0 rfl) ?_
      exact W.iret (v := cmpI ((S.2.1 t).2.2.1 v) ((S.2.1 t).2.2.1 u)) hx hb hr (fun t9 ht9 hW9 => ⟨_, rfl, (both_y h3), ht9⟩) (fun _ h => nomatch h) dX4_comparedByBoth_43
    · skip
      have h3 := k_2
      refine lv_iload hx hb dX4_comparedByBoth_36 (lv_at hl 1 rfl) ?_
      refine lv_goto (tgt := 43) hx hb dX4_comparedByBoth_38 (by decide) ?_
      exact W.iret (v := cmpI ((S.2.1 j).2.2.1 v) ((S.2.1 j).2.2.1 u)) hx hb hr (fun t9 ht9 hW9 => ⟨_, rfl, (both_x (by omega) (fun z => z.1 h1)), ht9⟩) (fun _ h => nomatch h) dX4_comparedByBoth_43
  · skip
    have h1 := k_1
    refine lv_iload hx hb dX4_comparedByBoth_21 (lv_at hl 1 rfl) ?_
    refine lv_iload hx hb dX4_comparedByBoth_23 (lv_at hl 0 rfl) ?_
    refine lv_ineg hx hb dX4_comparedByBoth_25 ?_
    refine lv_icmp_ne (tgt := 31) hx hb dX4_comparedByBoth_26 (by decide) (fun k_3 => ?_) (fun k_3 => ?_)
    · skip
      have h2 := k_3
      refine lv_iload hx hb dX4_comparedByBoth_31 (lv_at hl 1 rfl) ?_
      refine kc_if_eq (tgt := 41) hx hb dX4_comparedByBoth_33 (by decide) (fun k_4 => ?_) (fun k_4 => ?_)
      · skip
        have h3 := k_4
        refine lv_iload hx hb dX4_comparedByBoth_41 (lv_at hl 0 rfl) ?_
        exact W.iret (v := cmpI ((S.2.1 t).2.2.1 v) ((S.2.1 t).2.2.1 u)) hx hb hr (fun t9 ht9 hW9 => ⟨_, rfl, (both_y h3), ht9⟩) (fun _ h => nomatch h) dX4_comparedByBoth_43
      · skip
        have h3 := k_4
        refine lv_iload hx hb dX4_comparedByBoth_36 (lv_at hl 1 rfl) ?_
        refine lv_goto (tgt := 43) hx hb dX4_comparedByBoth_38 (by decide) ?_
        exact W.iret (v := cmpI ((S.2.1 j).2.2.1 v) ((S.2.1 j).2.2.1 u)) hx hb hr (fun t9 ht9 hW9 => ⟨_, rfl, (both_x (by omega) (fun z => h2 z.2)), ht9⟩) (fun _ h => nomatch h) dX4_comparedByBoth_43
    · skip
      have h2 := k_3
      refine lv_iconst (v := nI 2) hx hb dX4_comparedByBoth_29 (by decide) ?_
      exact W.iret (v := nI 2) hx hb hr (fun t9 ht9 hW9 => ⟨_, rfl, (both_2 h1 h2), ht9⟩) (fun _ h => nomatch h) dX4_comparedByBoth_30
set_option maxHeartbeats 4000000 in
set_option maxRecDepth 100000 in
theorem m_X4_pairsApart (l : Launch) (dC : Nat → ClassId) (dI : Nat → Nat → Nat) (ad : Nat → Nat) (S : XS) (j t : Nat) (hj : j < 6) (ht : t < 6) (ho : ordOK (S.2.1 j)) (ho2 : ordOK (S.2.1 t)) : Met l yX4_pairsApart wsX4_pairsApart ({ frames := 2, cells := 0, slots := 0, locals := 51 } : Room) (va_Pc [.ref (ad (24 + 5 * j)), .ref (ad (24 + 5 * t))] (PX dC dI ad S)) (vp_Si (fun r => r = nI (apartN (S.2.1 j).2.2.1 (S.2.1 t).2.2.1))) 0 0 (fun _ => False) := by
  refine Met.ofW (cc := cX4_pairsApart) (maxL := 5) (ret := (some .int)) pl_X4 rfl ?_
  intro p e s m args below meth c s₁ B hml hv
  obtain ⟨rfl, hPX⟩ := hv
  have hx := B.exec
  have hb := B.bytes
  have hr := B.returns
  have hts := atoms_spec (ws := wsX4_pairsApart) B.pre
  have hown : s.vm.findClass RX4 = some m.cls := findClass_of_methodNamed B.named
  have hlocks := B.notSynchronized
  have hX := WX.of hPX
  have hl := lv_entry ([.ref (ad (24 + 5 * j)), .ref (ad (24 + 5 * t))]) (n := 5) (Nat.le_of_ble_eq_true rfl)
  rw [lg_entry_eq]
  generalize (lg_sl ([.ref (ad (24 + 5 * j)), .ref (ad (24 + 5 * t))]) ++ List.replicate (5 - (lg_sl ([.ref (ad (24 + 5 * j)), .ref (ad (24 + 5 * t))])).length) Slot.unset).toArray = ls at hl ⊢
  have hl : lv_has ls 5 [(0, .ref (ad (24 + 5 * j))), (1, .ref (ad (24 + 5 * t)))] := hl
  show W p l e ({ frames := 2, cells := 0, slots := 0, locals := 51 } : Room) s m ([.ref (ad (24 + 5 * j)), .ref (ad (24 + 5 * t))]).toArray below meth c s.heap [] 0 0 (MQ below (vp_Si (fun r => r = nI (apartN (S.2.1 j).2.2.1 (S.2.1 t).2.2.1))) ([.ref (ad (24 + 5 * j)), .ref (ad (24 + 5 * t))]).toArray s 0 0 (fun _ => False)) (F0 m 0 ls [])
  have hI : (∀ i, i < 0 → rowOK (S.1 i)) ∧ ∀ k, k = j ∨ k = t → ordOK (S.2.1 k) := ⟨fun _ h => absurd h (Nat.not_lt_zero _), fun k h => by rcases h with rfl | rfl <;> assumption⟩
  refine lv_iconst (v := nI 0) hx hb dX4_pairsApart_0 (by decide) ?_
  refine lv_istore_n (lv' := [(2, .int (nI 0)), (0, .ref (ad (24 + 5 * j))), (1, .ref (ad (24 + 5 * t)))]) hx hb dX4_pairsApart_1 rfl hl (by decide) rfl (fun ls hl => ?_)
  refine lv_iconst (v := nI 0) hx hb dX4_pairsApart_2 (by decide) ?_
  refine lv_istore_n (lv' := [(3, .int (nI 0)), (2, .int (nI 0)), (0, .ref (ad (24 + 5 * j))), (1, .ref (ad (24 + 5 * t)))]) hx hb dX4_pairsApart_3 rfl hl (by decide) rfl (fun ls hl => ?_)
  have loop4 : ∀ (fuel : Nat) (q a : Nat) (ha : a ≤ 16) (hq : q = sumN (apartR (S.2.1 j).2.2.1 (S.2.1 t).2.2.1) a), 16 - a < fuel → ∀ ls : Array Slot, lv_has ls 5 [(0, .ref (ad (24 + 5 * j))), (1, .ref (ad (24 + 5 * t))), (2, .int (nI q)), (3, .int (nI a))] → W p l e ({ frames := 2, cells := 0, slots := 0, locals := 51 } : Room) s m ([.ref (ad (24 + 5 * j)), .ref (ad (24 + 5 * t))]).toArray below meth c s.heap [] 0 0 (MQ below (vp_Si (fun r => r = nI (apartN (S.2.1 j).2.2.1 (S.2.1 t).2.2.1))) ([.ref (ad (24 + 5 * j)), .ref (ad (24 + 5 * t))]).toArray s 0 0 (fun _ => False)) (F0 m 4 ls []) := by
    intro fuel
    induction fuel with
    | zero => intro q a ha hq hf; exact absurd hf (Nat.not_lt_zero _)
    | succ fuel ih4 =>
      intro q a ha hq hf ls hl
      refine lv_iload_n hx hb dX4_pairsApart_4 rfl (lv_at hl 3 rfl) ?_
      refine lv_bipush (v := nI 16) hx hb dX4_pairsApart_5 (by decide) ?_
      refine kn_icmp_ge (tgt := 49) hx hb (by omega) (by omega) dX4_pairsApart_7 (by decide) (fun k_1 => ?_) (fun k_1 => ?_)
      · skip
        refine lv_iload_n hx hb dX4_pairsApart_49 rfl (lv_at hl 2 rfl) ?_
        exact W.iret (v := nI q) hx hb hr (fun t9 ht9 hW9 => ⟨_, rfl, (by rw [hq, show a = 16 by omega]; rfl), ht9⟩) (fun _ h => nomatch h) dX4_pairsApart_50
      · skip
        refine lv_iload_n hx hb dX4_pairsApart_10 rfl (lv_at hl 3 rfl) ?_
        refine lv_iconst (v := nI 1) hx hb dX4_pairsApart_11 (by decide) ?_
        refine kn_iadd hx hb dX4_pairsApart_12 ?_
        refine lv_istore (lv' := [(4, .int (nI (a + 1))), (0, .ref (ad (24 + 5 * j))), (1, .ref (ad (24 + 5 * t))), (2, .int (nI q)), (3, .int (nI a))]) hx hb dX4_pairsApart_13 hl (by decide) rfl (fun ls hl => ?_)
        have loop15 : ∀ (fuel : Nat) (x b : Nat) (hb3 : a < b ∧ b ≤ 16) (hp : x = sumN (apartR (S.2.1 j).2.2.1 (S.2.1 t).2.2.1) a + cntB (fun y => decide (a < y) && decide (bothI ((S.2.1 j).2.2.1 a) ((S.2.1 j).2.2.1 y) ((S.2.1 t).2.2.1 a) ((S.2.1 t).2.2.1 y) = nI 2)) b), 16 - b < fuel → ∀ ls : Array Slot, lv_has ls 5 [(0, .ref (ad (24 + 5 * j))), (1, .ref (ad (24 + 5 * t))), (2, .int (nI x)), (3, .int (nI a)), (4, .int (nI b))] → W p l e ({ frames := 2, cells := 0, slots := 0, locals := 51 } : Room) s m ([.ref (ad (24 + 5 * j)), .ref (ad (24 + 5 * t))]).toArray below meth c s.heap [] 0 0 (MQ below (vp_Si (fun r => r = nI (apartN (S.2.1 j).2.2.1 (S.2.1 t).2.2.1))) ([.ref (ad (24 + 5 * j)), .ref (ad (24 + 5 * t))]).toArray s 0 0 (fun _ => False)) (F0 m 15 ls []) := by
          intro fuel
          induction fuel with
          | zero => intro x b hb3 hp hf; exact absurd hf (Nat.not_lt_zero _)
          | succ fuel ih15 =>
            intro x b hb3 hp hf ls hl
            refine lv_iload hx hb dX4_pairsApart_15 (lv_at hl 4 rfl) ?_
            refine lv_bipush (v := nI 16) hx hb dX4_pairsApart_17 (by decide) ?_
            refine kn_icmp_ge (tgt := 43) hx hb (by omega) (by omega) dX4_pairsApart_19 (by decide) (fun k_2 => ?_) (fun k_2 => ?_)
            · skip
              refine lv_iinc (v := nI (a + 1)) (lv' := [(3, .int (nI (a + 1))), (0, .ref (ad (24 + 5 * j))), (1, .ref (ad (24 + 5 * t))), (2, .int (nI x)), (4, .int (nI b))]) hx hb dX4_pairsApart_43 hl (k := 3) rfl (nI_1 a) (by decide) rfl (fun ls hl => ?_)
              refine lv_goto (tgt := 4) hx hb dX4_pairsApart_46 (by decide) ?_
              exact ih4  x (a + 1) (by omega) (by rw [hp, show b = 16 by omega]; rfl) (by omega) _ (lv_sub hl [1, 2, 3, 0] rfl)
            · skip
              refine lv_aload_n hx hb dX4_pairsApart_22 rfl (lv_at hl 0 rfl) ?_
              refine lv_aload_n hx hb dX4_pairsApart_23 rfl (lv_at hl 1 rfl) ?_
              refine lv_iload_n hx hb dX4_pairsApart_24 rfl (lv_at hl 3 rfl) ?_
              refine lv_iload hx hb dX4_pairsApart_25 (lv_at hl 4 rfl) ?_
              refine kx_cr (v := (bothI ((S.2.1 j).2.2.1 a) ((S.2.1 j).2.2.1 b) ((S.2.1 t).2.2.1 a) ((S.2.1 t).2.2.1 b))) (va_runS (As := [.ref (ad (24 + 5 * j)), .ref (ad (24 + 5 * t)), .int (nI a), .int (nI b)]) (rest := []) ⟨hx, hb, hml, hown, hts⟩ (m_X4_comparedByBoth l dC dI ad S j t a b (by omega) (by omega) (hI.2 j (by omega)) (hI.2 t (by omega)) (by omega) (by omega)) (va_cwS 4 hts gX4_pairsApart_X4_comparedByBoth rfl rfl rfl hdX4_comparedByBoth_4.2 ⟨Nat.le_of_ble_eq_true rfl, Nat.le_of_ble_eq_true rfl⟩) hX.preS rfl rfl hl.1 rfl (lv_room (Nat.le_of_ble_eq_true rfl)) dX4_pairsApart_27 ⟨Nat.le_of_ble_eq_true rfl, Nat.le_of_ble_eq_true rfl⟩) (fun _ h => h) ?_
              refine lv_iconst (v := nI 2) hx hb dX4_pairsApart_30 (by decide) ?_
              refine lv_icmp_ne (tgt := 37) hx hb dX4_pairsApart_31 (by decide) (fun k_3 => ?_) (fun k_3 => ?_)
              · skip
                have hc := k_3
                refine lv_iinc (v := nI (b + 1)) (lv' := [(4, .int (nI (b + 1))), (0, .ref (ad (24 + 5 * j))), (1, .ref (ad (24 + 5 * t))), (2, .int (nI x)), (3, .int (nI a))]) hx hb dX4_pairsApart_37 hl (k := 4) rfl (nI_1 b) (by decide) rfl (fun ls hl => ?_)
                refine lv_goto (tgt := 15) hx hb dX4_pairsApart_40 (by decide) ?_
                exact ih15  x (b + 1) (by omega) (by rw [hp, cntB_f (by rw [decide_eq_false hc, Bool.and_false])]) (by omega) _ (lv_sub hl [1, 2, 3, 4, 0] rfl)
              · skip
                have hc := k_3
                refine lv_iinc (v := nI (x + 1)) (lv' := [(2, .int (nI (x + 1))), (0, .ref (ad (24 + 5 * j))), (1, .ref (ad (24 + 5 * t))), (3, .int (nI a)), (4, .int (nI b))]) hx hb dX4_pairsApart_34 hl (k := 2) rfl (nI_1 x) (by decide) rfl (fun ls hl => ?_)
                refine lv_iinc (v := nI (b + 1)) (lv' := [(4, .int (nI (b + 1))), (2, .int (nI (x + 1))), (0, .ref (ad (24 + 5 * j))), (1, .ref (ad (24 + 5 * t))), (3, .int (nI a))]) hx hb dX4_pairsApart_37 hl (k := 4) rfl (nI_1 b) (by decide) rfl (fun ls hl => ?_)
                refine lv_goto (tgt := 15) hx hb dX4_pairsApart_40 (by decide) ?_
                exact ih15  (x + 1) (b + 1) (by omega) (by rw [hp, cntB_t (by rw [decide_eq_true hc, decide_eq_true hb3.1]; rfl), Nat.add_assoc]) (by omega) _ (lv_sub hl [2, 3, 1, 4, 0] rfl)
        exact loop15 (16 + 1) q (a + 1) (by omega) (by rw [hq, cntB_none (n := a + 1) (fun y hy => by rw [decide_eq_false (by omega)]; rfl)]; rfl) (by omega) _ (lv_sub hl [1, 2, 3, 4, 0] rfl)
  exact loop4 (16 + 1) 0 0 (by omega) rfl (by omega) _ (lv_sub hl [2, 3, 1, 0] rfl)
set_option maxHeartbeats 4000000 in
set_option maxRecDepth 100000 in
theorem m_X4_thingsInAll (l : Launch) (dC : Nat → ClassId) (dI : Nat → Nat → Nat) (ad : Nat → Nat) (S : XS) (hI : InvX S) : Met l yX4_thingsInAll wsX4_thingsInAll ({ frames := 1, cells := 0, slots := 0, locals := 22 } : Room) (va_Pc [.ref (ad 57)] (PX dC dI ad S)) (vp_Si (fun r => r = nI (sumN (fun k => (S.1 k).2.2) 3))) 0 0 (fun _ => False) := by
  refine Met.ofW (cc := cX4_thingsInAll) (maxL := 3) (ret := (some .int)) pl_X4 rfl ?_
  intro p e s m args below meth c s₁ B hml hv
  obtain ⟨rfl, hPX⟩ := hv
  have hx := B.exec
  have hb := B.bytes
  have hr := B.returns
  have hts := atoms_spec (ws := wsX4_thingsInAll) B.pre
  have hown : s.vm.findClass RX4 = some m.cls := findClass_of_methodNamed B.named
  have hlocks := B.notSynchronized
  have hX := WX.of hPX
  have hl := lv_entry ([.ref (ad 57)]) (n := 3) (Nat.le_of_ble_eq_true rfl)
  rw [lg_entry_eq]
  generalize (lg_sl ([.ref (ad 57)]) ++ List.replicate (3 - (lg_sl ([.ref (ad 57)])).length) Slot.unset).toArray = ls at hl ⊢
  have hl : lv_has ls 3 [(0, .ref (ad 57))] := hl
  show W p l e ({ frames := 1, cells := 0, slots := 0, locals := 22 } : Room) s m ([.ref (ad 57)]).toArray below meth c s.heap [] 0 0 (MQ below (vp_Si (fun r => r = nI (sumN (fun k => (S.1 k).2.2) 3))) ([.ref (ad 57)]).toArray s 0 0 (fun _ => False)) (F0 m 0 ls [])
  refine lv_iconst (v := nI 0) hx hb dX4_thingsInAll_0 (by decide) ?_
  refine lv_istore_n (lv' := [(1, .int (nI 0)), (0, .ref (ad 57))]) hx hb dX4_thingsInAll_1 rfl hl (by decide) rfl (fun ls hl => ?_)
  refine lv_iconst (v := nI 0) hx hb dX4_thingsInAll_2 (by decide) ?_
  refine lv_istore_n (lv' := [(2, .int (nI 0)), (1, .int (nI 0)), (0, .ref (ad 57))]) hx hb dX4_thingsInAll_3 rfl hl (by decide) rfl (fun ls hl => ?_)
  have loop4 : ∀ (fuel : Nat) (q a : Nat) (ha : a ≤ 3) (hq : q = sumN (fun k => (S.1 k).2.2) a), 3 - a < fuel → ∀ ls : Array Slot, lv_has ls 3 [(0, .ref (ad 57)), (1, .int (nI q)), (2, .int (nI a))] → W p l e ({ frames := 1, cells := 0, slots := 0, locals := 22 } : Room) s m ([.ref (ad 57)]).toArray below meth c s.heap [] 0 0 (MQ below (vp_Si (fun r => r = nI (sumN (fun k => (S.1 k).2.2) 3))) ([.ref (ad 57)]).toArray s 0 0 (fun _ => False)) (F0 m 4 ls []) := by
    intro fuel
    induction fuel with
    | zero => intro q a ha hq hf; exact absurd hf (Nat.not_lt_zero _)
    | succ fuel ih4 =>
      intro q a ha hq hf ls hl
      refine lv_iload_n hx hb dX4_thingsInAll_4 rfl (lv_at hl 2 rfl) ?_
      refine lv_iconst (v := nI 3) hx hb dX4_thingsInAll_5 (by decide) ?_
      refine kn_icmp_ge (tgt := 26) hx hb (by omega) (by omega) dX4_thingsInAll_6 (by decide) (fun k_1 => ?_) (fun k_1 => ?_)
      · skip
        refine lv_iload_n hx hb dX4_thingsInAll_26 rfl (lv_at hl 1 rfl) ?_
        exact W.iret (v := nI q) hx hb hr (fun t9 ht9 hW9 => ⟨_, rfl, (by rw [hq, show a = 3 by omega]), ht9⟩) (fun _ h => nomatch h) dX4_thingsInAll_27
      · skip
        refine lv_iload_n hx hb dX4_thingsInAll_9 rfl (lv_at hl 1 rfl) ?_
        refine lv_aload_n hx hb dX4_thingsInAll_10 rfl (lv_at hl 0 rfl) ?_
        refine lv_iload_n hx hb dX4_thingsInAll_11 rfl (lv_at hl 2 rfl) ?_
        refine va_csr (va_Run.run (va_runV (As := [.int (nI a)]) (rest := [.int (nI q)]) ⟨hx, hb, hml, hown, hts⟩ (m_X4_rowAt l dC dI ad S a (by omega)) (cwV 1 hts gX4_thingsInAll_X4_rowAt rfl rfl rfl hdX4_rowAt_1 ⟨Nat.le_of_ble_eq_true rfl, Nat.le_of_ble_eq_true rfl⟩) (hX.preTop 57 6 (by decide) (by decide) rfl rfl) rfl rfl hl.1 rfl (lv_room (Nat.le_of_ble_eq_true rfl)) dX4_thingsInAll_12 ⟨Nat.le_of_ble_eq_true rfl, Nat.le_of_ble_eq_true rfl⟩)) (fun k_ hk_ => ?_)
        rw [hk_]
        refine kx_cr (v := nI ((S.1 a).2.2)) (va_runV (As := []) (rest := [.int (nI q)]) ⟨hx, hb, hml, hown, hts⟩ (m_X2_length l dC dI ad S a (by omega)) (cwV 0 hts gX4_thingsInAll_X2_length rfl rfl rfl hdX2_length_0 ⟨Nat.le_of_ble_eq_true rfl, Nat.le_of_ble_eq_true rfl⟩) (hX.preRow (by omega)) rfl rfl hl.1 rfl (lv_room (Nat.le_of_ble_eq_true rfl)) dX4_thingsInAll_15 ⟨Nat.le_of_ble_eq_true rfl, Nat.le_of_ble_eq_true rfl⟩) (fun _ h => h) ?_
        refine kn_iadd hx hb dX4_thingsInAll_18 ?_
        refine lv_istore_n (lv' := [(1, .int (nI (q + ((S.1 a).2.2)))), (0, .ref (ad 57)), (2, .int (nI a))]) hx hb dX4_thingsInAll_19 rfl hl (by decide) rfl (fun ls hl => ?_)
        refine lv_iinc (v := nI (a + 1)) (lv' := [(2, .int (nI (a + 1))), (1, .int (nI (q + ((S.1 a).2.2)))), (0, .ref (ad 57))]) hx hb dX4_thingsInAll_20 hl (k := 2) rfl (nI_1 a) (by decide) rfl (fun ls hl => ?_)
        refine lv_goto (tgt := 4) hx hb dX4_thingsInAll_23 (by decide) ?_
        exact ih4  (q + ((S.1 a).2.2)) (a + 1) (by omega) (by rw [hq]; rfl) (by omega) _ (lv_sub hl [2, 1, 0] rfl)
  exact loop4 (16 + 1) 0 0 (by omega) rfl (by omega) _ (lv_sub hl [2, 1, 0] rfl)
set_option maxHeartbeats 4000000 in
set_option maxRecDepth 100000 in
theorem m_X4_stepsInAll (l : Launch) (dC : Nat → ClassId) (dI : Nat → Nat → Nat) (ad : Nat → Nat) (S : XS) (hI : InvX S) : Met l yX4_stepsInAll wsX4_stepsInAll ({ frames := 1, cells := 0, slots := 0, locals := 22 } : Room) (va_Pc [.ref (ad 57)] (PX dC dI ad S)) (vp_Si (fun r => r = nI (sumN (fun k => (S.2.1 k).2.2.2.2.1) 4))) 0 0 (fun _ => False) := by
  refine Met.ofW (cc := cX4_stepsInAll) (maxL := 3) (ret := (some .int)) pl_X4 rfl ?_
  intro p e s m args below meth c s₁ B hml hv
  obtain ⟨rfl, hPX⟩ := hv
  have hx := B.exec
  have hb := B.bytes
  have hr := B.returns
  have hts := atoms_spec (ws := wsX4_stepsInAll) B.pre
  have hown : s.vm.findClass RX4 = some m.cls := findClass_of_methodNamed B.named
  have hlocks := B.notSynchronized
  have hX := WX.of hPX
  have hl := lv_entry ([.ref (ad 57)]) (n := 3) (Nat.le_of_ble_eq_true rfl)
  rw [lg_entry_eq]
  generalize (lg_sl ([.ref (ad 57)]) ++ List.replicate (3 - (lg_sl ([.ref (ad 57)])).length) Slot.unset).toArray = ls at hl ⊢
  have hl : lv_has ls 3 [(0, .ref (ad 57))] := hl
  show W p l e ({ frames := 1, cells := 0, slots := 0, locals := 22 } : Room) s m ([.ref (ad 57)]).toArray below meth c s.heap [] 0 0 (MQ below (vp_Si (fun r => r = nI (sumN (fun k => (S.2.1 k).2.2.2.2.1) 4))) ([.ref (ad 57)]).toArray s 0 0 (fun _ => False)) (F0 m 0 ls [])
  refine lv_iconst (v := nI 0) hx hb dX4_stepsInAll_0 (by decide) ?_
  refine lv_istore_n (lv' := [(1, .int (nI 0)), (0, .ref (ad 57))]) hx hb dX4_stepsInAll_1 rfl hl (by decide) rfl (fun ls hl => ?_)
  refine lv_iconst (v := nI 0) hx hb dX4_stepsInAll_2 (by decide) ?_
  refine lv_istore_n (lv' := [(2, .int (nI 0)), (1, .int (nI 0)), (0, .ref (ad 57))]) hx hb dX4_stepsInAll_3 rfl hl (by decide) rfl (fun ls hl => ?_)
  have loop4 : ∀ (fuel : Nat) (q a : Nat) (ha : a ≤ 4) (hq : q = sumN (fun k => (S.2.1 k).2.2.2.2.1) a), 4 - a < fuel → ∀ ls : Array Slot, lv_has ls 3 [(0, .ref (ad 57)), (1, .int (nI q)), (2, .int (nI a))] → W p l e ({ frames := 1, cells := 0, slots := 0, locals := 22 } : Room) s m ([.ref (ad 57)]).toArray below meth c s.heap [] 0 0 (MQ below (vp_Si (fun r => r = nI (sumN (fun k => (S.2.1 k).2.2.2.2.1) 4))) ([.ref (ad 57)]).toArray s 0 0 (fun _ => False)) (F0 m 4 ls []) := by
    intro fuel
    induction fuel with
    | zero => intro q a ha hq hf; exact absurd hf (Nat.not_lt_zero _)
    | succ fuel ih4 =>
      intro q a ha hq hf ls hl
      refine lv_iload_n hx hb dX4_stepsInAll_4 rfl (lv_at hl 2 rfl) ?_
      refine lv_iconst (v := nI 4) hx hb dX4_stepsInAll_5 (by decide) ?_
      refine kn_icmp_ge (tgt := 26) hx hb (by omega) (by omega) dX4_stepsInAll_6 (by decide) (fun k_1 => ?_) (fun k_1 => ?_)
      · skip
        refine lv_iload_n hx hb dX4_stepsInAll_26 rfl (lv_at hl 1 rfl) ?_
        exact W.iret (v := nI q) hx hb hr (fun t9 ht9 hW9 => ⟨_, rfl, (by rw [hq, show a = 4 by omega]), ht9⟩) (fun _ h => nomatch h) dX4_stepsInAll_27
      · skip
        refine lv_iload_n hx hb dX4_stepsInAll_9 rfl (lv_at hl 1 rfl) ?_
        refine lv_aload_n hx hb dX4_stepsInAll_10 rfl (lv_at hl 0 rfl) ?_
        refine lv_iload_n hx hb dX4_stepsInAll_11 rfl (lv_at hl 2 rfl) ?_
        refine va_csr (va_Run.run (va_runV (As := [.int (nI a)]) (rest := [.int (nI q)]) ⟨hx, hb, hml, hown, hts⟩ (m_X4_orderAt l dC dI ad S a (by omega)) (cwV 1 hts gX4_stepsInAll_X4_orderAt rfl rfl rfl hdX4_orderAt_1 ⟨Nat.le_of_ble_eq_true rfl, Nat.le_of_ble_eq_true rfl⟩) (hX.preTop 57 6 (by decide) (by decide) rfl rfl) rfl rfl hl.1 rfl (lv_room (Nat.le_of_ble_eq_true rfl)) dX4_stepsInAll_12 ⟨Nat.le_of_ble_eq_true rfl, Nat.le_of_ble_eq_true rfl⟩)) (fun k_ hk_ => ?_)
        rw [hk_]
        refine kx_cr (v := nI ((S.2.1 a).2.2.2.2.1)) (va_runV (As := []) (rest := [.int (nI q)]) ⟨hx, hb, hml, hown, hts⟩ (m_X1_length l dC dI ad S a  (by omega)) (cwV 0 hts gX4_stepsInAll_X1_length rfl rfl rfl hdX1_length_0 ⟨Nat.le_of_ble_eq_true rfl, Nat.le_of_ble_eq_true rfl⟩) (hX.preOrd (by omega)) rfl rfl hl.1 rfl (lv_room (Nat.le_of_ble_eq_true rfl)) dX4_stepsInAll_15 ⟨Nat.le_of_ble_eq_true rfl, Nat.le_of_ble_eq_true rfl⟩) (fun _ h => h) ?_
        refine kn_iadd hx hb dX4_stepsInAll_18 ?_
        refine lv_istore_n (lv' := [(1, .int (nI (q + ((S.2.1 a).2.2.2.2.1)))), (0, .ref (ad 57)), (2, .int (nI a))]) hx hb dX4_stepsInAll_19 rfl hl (by decide) rfl (fun ls hl => ?_)
        refine lv_iinc (v := nI (a + 1)) (lv' := [(2, .int (nI (a + 1))), (1, .int (nI (q + ((S.2.1 a).2.2.2.2.1)))), (0, .ref (ad 57))]) hx hb dX4_stepsInAll_20 hl (k := 2) rfl (nI_1 a) (by decide) rfl (fun ls hl => ?_)
        refine lv_goto (tgt := 4) hx hb dX4_stepsInAll_23 (by decide) ?_
        exact ih4  (q + ((S.2.1 a).2.2.2.2.1)) (a + 1) (by omega) (by rw [hq]; rfl) (by omega) _ (lv_sub hl [2, 1, 0] rfl)
  exact loop4 (16 + 1) 0 0 (by omega) rfl (by omega) _ (lv_sub hl [2, 1, 0] rfl)
set_option maxHeartbeats 4000000 in
set_option maxRecDepth 100000 in
theorem m_X4_count (l : Launch) (dC : Nat → ClassId) (dI : Nat → Nat → Nat) (ad : Nat → Nat) (S : XS) (k : Nat) (hk : k < 5) (hI : InvX S) : Met l yX4_count wsX4_count ({ frames := 2, cells := 0, slots := 0, locals := 44 } : Room) (va_Pc [.ref (ad 57), .int (nI k)] (PX dC dI ad S)) (vp_Si (fun r => r = nI (countX S k))) 0 0 (fun _ => False) := by
  refine Met.ofW (cc := cX4_count) (maxL := 2) (ret := (some .int)) pl_X4 rfl ?_
  intro p e s m args below meth c s₁ B hml hv
  obtain ⟨rfl, hPX⟩ := hv
  have hx := B.exec
  have hb := B.bytes
  have hr := B.returns
  have hts := atoms_spec (ws := wsX4_count) B.pre
  have hown : s.vm.findClass RX4 = some m.cls := findClass_of_methodNamed B.named
  have hlocks := B.notSynchronized
  have hin4 : ∀ w ∈ u_ws RX4 TX4 9, w ∈ wsX4_count := tu 1328 (by decide +kernel) rfl
  have hX := WX.of hPX
  have hl := lv_entry ([.ref (ad 57), .int (nI k)]) (n := 2) (Nat.le_of_ble_eq_true rfl)
  rw [lg_entry_eq]
  generalize (lg_sl ([.ref (ad 57), .int (nI k)]) ++ List.replicate (2 - (lg_sl ([.ref (ad 57), .int (nI k)])).length) Slot.unset).toArray = ls at hl ⊢
  have hl : lv_has ls 2 [(0, .ref (ad 57)), (1, .int (nI k))] := hl
  show W p l e ({ frames := 2, cells := 0, slots := 0, locals := 44 } : Room) s m ([.ref (ad 57), .int (nI k)]).toArray below meth c s.heap [] 0 0 (MQ below (vp_Si (fun r => r = nI (countX S k))) ([.ref (ad 57), .int (nI k)]).toArray s 0 0 (fun _ => False)) (F0 m 0 ls [])
  rcases (show k = 0 ∨ k = 1 ∨ k = 2 ∨ k = 3 ∨ k = 4 by omega) with rfl | rfl | rfl | rfl | rfl
  · skip
    have hl : lv_has ls 2 [(0, .ref (ad 57)), (1, .int (nI 0))] := hl
    refine lv_iload_n hx hb dX4_count_0 rfl (lv_at hl 1 rfl) ?_
    refine lv_tableIn (x := nI 0) (off := 31) (tgt := 32) hx hb dX4_count_1 (by decide) (by decide) (by decide) (by decide) ?_
    refine lv_aload_n hx hb dX4_count_32 rfl (lv_at hl 0 rfl) ?_
    refine kx_cr (v := nI (sumN (fun k => (S.1 k).2.2) 3)) (va_runV (As := []) (rest := []) ⟨hx, hb, hml, hown, hts⟩ (m_X4_thingsInAll l dC dI ad S hI) (cwV 0 hts gX4_count_X4_thingsInAll rfl rfl rfl hdX4_thingsInAll_0 ⟨Nat.le_of_ble_eq_true rfl, Nat.le_of_ble_eq_true rfl⟩) (hX.preTop 57 6 (by decide) (by decide) rfl rfl) rfl rfl hl.1 rfl (lv_room (Nat.le_of_ble_eq_true rfl)) dX4_count_33 ⟨Nat.le_of_ble_eq_true rfl, Nat.le_of_ble_eq_true rfl⟩) (fun _ h => h) ?_
    exact W.iret (v := nI (sumN (fun k => (S.1 k).2.2) 3)) hx hb hr (fun t9 ht9 hW9 => ⟨_, rfl, rfl, ht9⟩) (fun _ h => nomatch h) dX4_count_36
  · skip
    have hl : lv_has ls 2 [(0, .ref (ad 57)), (1, .int (nI 1))] := hl
    refine lv_iload_n hx hb dX4_count_0 rfl (lv_at hl 1 rfl) ?_
    refine lv_tableIn (x := nI 1) (off := 36) (tgt := 37) hx hb dX4_count_1 (by decide) (by decide) (by decide) (by decide) ?_
    refine lv_aload_n hx hb dX4_count_37 rfl (lv_at hl 0 rfl) ?_
    refine kx_cr (v := nI (sumN (fun k => (S.2.1 k).2.2.2.2.1) 4)) (va_runV (As := []) (rest := []) ⟨hx, hb, hml, hown, hts⟩ (m_X4_stepsInAll l dC dI ad S hI) (cwV 0 hts gX4_count_X4_stepsInAll rfl rfl rfl hdX4_stepsInAll_0 ⟨Nat.le_of_ble_eq_true rfl, Nat.le_of_ble_eq_true rfl⟩) (hX.preTop 57 6 (by decide) (by decide) rfl rfl) rfl rfl hl.1 rfl (lv_room (Nat.le_of_ble_eq_true rfl)) dX4_count_38 ⟨Nat.le_of_ble_eq_true rfl, Nat.le_of_ble_eq_true rfl⟩) (fun _ h => h) ?_
    exact W.iret (v := nI (sumN (fun k => (S.2.1 k).2.2.2.2.1) 4)) hx hb hr (fun t9 ht9 hW9 => ⟨_, rfl, rfl, ht9⟩) (fun _ h => nomatch h) dX4_count_41
  · skip
    have hl : lv_has ls 2 [(0, .ref (ad 57)), (1, .int (nI 2))] := hl
    refine lv_iload_n hx hb dX4_count_0 rfl (lv_at hl 1 rfl) ?_
    refine lv_tableIn (x := nI 2) (off := 41) (tgt := 42) hx hb dX4_count_1 (by decide) (by decide) (by decide) (by decide) ?_
    refine lv_aload_n hx hb dX4_count_42 rfl (lv_at hl 0 rfl) ?_
    refine kx_gput (n := S.2.2.1) hx hb hts hin4 hown hX rfl (hts (.fieldLink RX4 45 "Orderlattice" "marksGiven" "I") (tm 455 (by decide +kernel) rfl)) dX4_count_43 ?_
    exact W.iret (v := nI S.2.2.1) hx hb hr (fun t9 ht9 hW9 => ⟨_, rfl, rfl, ht9⟩) (fun _ h => nomatch h) dX4_count_46
  · skip
    have hl : lv_has ls 2 [(0, .ref (ad 57)), (1, .int (nI 3))] := hl
    refine lv_iload_n hx hb dX4_count_0 rfl (lv_at hl 1 rfl) ?_
    refine lv_tableIn (x := nI 3) (off := 46) (tgt := 47) hx hb dX4_count_1 (by decide) (by decide) (by decide) (by decide) ?_
    refine lv_aload_n hx hb dX4_count_47 rfl (lv_at hl 0 rfl) ?_
    refine kx_gref (n := S.2.2.2.1) hx hb hts hin4 hown hX rfl (hts (.fieldLink RX4 49 "Orderlattice" "refusals" "I") (tm 456 (by decide +kernel) rfl)) dX4_count_48 ?_
    exact W.iret (v := nI S.2.2.2.1) hx hb hr (fun t9 ht9 hW9 => ⟨_, rfl, rfl, ht9⟩) (fun _ h => nomatch h) dX4_count_51
  · skip
    have hl : lv_has ls 2 [(0, .ref (ad 57)), (1, .int (nI 4))] := hl
    refine lv_iload_n hx hb dX4_count_0 rfl (lv_at hl 1 rfl) ?_
    refine lv_tableOut (x := nI 4) (tgt := 52) hx hb dX4_count_1 (by decide) (by decide) ?_
    refine lv_aload_n hx hb dX4_count_52 rfl (lv_at hl 0 rfl) ?_
    refine kx_gkno (n := S.2.2.2.2) hx hb hts hin4 hown hX rfl (hts (.fieldLink RX4 52 "Orderlattice" "knocks" "I") (tm 457 (by decide +kernel) rfl)) dX4_count_53 ?_
    exact W.iret (v := nI S.2.2.2.2) hx hb hr (fun t9 ht9 hW9 => ⟨_, rfl, rfl, ht9⟩) (fun _ h => nomatch h) dX4_count_56
set_option maxHeartbeats 4000000 in
set_option maxRecDepth 100000 in
theorem m_X4_placeNew (l : Launch) (dC : Nat → ClassId) (dI : Nat → Nat → Nat) (ad : Nat → Nat) (S : XS) (i q v : Nat) (hi : i < 3) (hI : InvX S) (hq : q ≤ (S.1 i).2.2) : Met l yX4_placeNew wsX4_placeNew ({ frames := 2, cells := 0, slots := 0, locals := 47 } : Room) (va_Pc [.ref (ad 57), .ref (ad (3 * i)), .int (nI q), .int (nI v)] (PX dC dI ad S)) (va_Qi (fun r S' => ((S.1 i).2.2 < 12 ∧ r = nI S.2.2.1 ∧ S' = placeT S i q v) ∨ (12 ≤ (S.1 i).2.2 ∧ r = -9 ∧ S' = refT S)) (PX dC dI ad) (AX ad)) 0 0 (AX ad) := by
  refine Met.ofW (cc := cX4_placeNew) (maxL := 5) (ret := (some .int)) pl_X4 rfl ?_
  intro p e s m args below meth c s₁ B hml hv
  obtain ⟨rfl, hPX⟩ := hv
  have hx := B.exec
  have hb := B.bytes
  have hr := B.returns
  have hts := atoms_spec (ws := wsX4_placeNew) B.pre
  have hown : s.vm.findClass RX4 = some m.cls := findClass_of_methodNamed B.named
  have hlocks := B.notSynchronized
  have hX := WX.of hPX
  have hl := lv_entry ([.ref (ad 57), .ref (ad (3 * i)), .int (nI q), .int (nI v)]) (n := 5) (Nat.le_of_ble_eq_true rfl)
  rw [lg_entry_eq]
  generalize (lg_sl ([.ref (ad 57), .ref (ad (3 * i)), .int (nI q), .int (nI v)]) ++ List.replicate (5 - (lg_sl ([.ref (ad 57), .ref (ad (3 * i)), .int (nI q), .int (nI v)])).length) Slot.unset).toArray = ls at hl ⊢
  have hl : lv_has ls 5 [(0, .ref (ad 57)), (1, .ref (ad (3 * i))), (2, .int (nI q)), (3, .int (nI v))] := hl
  show W p l e ({ frames := 2, cells := 0, slots := 0, locals := 47 } : Room) s m ([.ref (ad 57), .ref (ad (3 * i)), .int (nI q), .int (nI v)]).toArray below meth c s.heap [] 0 0 (MQ below (va_Qi (fun r S' => ((S.1 i).2.2 < 12 ∧ r = nI S.2.2.1 ∧ S' = placeT S i q v) ∨ (12 ≤ (S.1 i).2.2 ∧ r = -9 ∧ S' = refT S)) (PX dC dI ad) (AX ad)) ([.ref (ad 57), .ref (ad (3 * i)), .int (nI q), .int (nI v)]).toArray s 0 0 (AX ad)) (F0 m 0 ls [])
  have hn := (hI.1 i (by omega)).1
  refine lv_aload_n hx hb dX4_placeNew_0 rfl (lv_at hl 1 rfl) ?_
  refine kx_cr (v := nI ((S.1 i).2.2)) (va_runV (As := []) (rest := []) ⟨hx, hb, hml, hown, hts⟩ (m_X2_length l dC dI ad S i (by omega)) (cwV 0 hts gX4_placeNew_X2_length rfl rfl rfl hdX2_length_0 ⟨Nat.le_of_ble_eq_true rfl, Nat.le_of_ble_eq_true rfl⟩) (hX.preRow (by omega)) rfl rfl hl.1 rfl (lv_room (Nat.le_of_ble_eq_true rfl)) dX4_placeNew_1 ⟨Nat.le_of_ble_eq_true rfl, Nat.le_of_ble_eq_true rfl⟩) (fun _ h => h) ?_
  refine lv_bipush (v := nI 12) hx hb dX4_placeNew_4 (by decide) ?_
  refine kn_icmp_lt (tgt := 14) hx hb (by omega) (by omega) dX4_placeNew_6 (by decide) (fun k_1 => ?_) (fun k_1 => ?_)
  · skip
    have hc := k_1
    refine lv_aload_n hx hb dX4_placeNew_14 rfl (lv_at hl 0 rfl) ?_
    refine kx_ci (va_runV (As := []) (rest := []) ⟨hx, hb, hml, hown, hts⟩ (m_X4_nextMark l dC dI ad S) (cwV 0 hts gX4_placeNew_X4_nextMark rfl rfl rfl hdX4_nextMark_0 ⟨Nat.le_of_ble_eq_true rfl, Nat.le_of_ble_eq_true rfl⟩) (hX.preTop 57 6 (by decide) (by decide) rfl rfl) rfl rfl hl.1 rfl (lv_room (Nat.le_of_ble_eq_true rfl)) dX4_placeNew_15 ⟨Nat.le_of_ble_eq_true rfl, Nat.le_of_ble_eq_true rfl⟩) hX (fun _ h => h) (fun r_ S_ H locs hw hX => ?_)
    obtain ⟨rfl, rfl⟩ := hw
    refine lv_istore (lv' := [(4, .int (nI S.2.2.1)), (0, .ref (ad 57)), (1, .ref (ad (3 * i))), (2, .int (nI q)), (3, .int (nI v))]) hx hb dX4_placeNew_18 hl (by decide) rfl (fun ls hl => ?_)
    refine lv_aload_n hx hb dX4_placeNew_20 rfl (lv_at hl 2 rfl) ?_
    refine lv_iload_n hx hb dX4_placeNew_21 rfl (lv_at hl 3 rfl) ?_
    refine lv_iload_n hx hb dX4_placeNew_22 rfl (lv_at hl 4 rfl) ?_
    refine lv_iload hx hb dX4_placeNew_23 (lv_at hl 0 rfl) ?_
    refine kx_cv (va_runV (As := [.int (nI q), .int (nI v), .int (nI S.2.2.1)]) (rest := []) ⟨hx, hb, hml, hown, hts⟩ (m_X2_insert l dC dI ad (xN S (S.2.2.1 + 1, S.2.2.2.1, S.2.2.2.2)) i q v S.2.2.1 (by omega) (show (S.1 i).2.2 < 16 by omega) hq) (cwV 3 hts gX4_placeNew_X2_insert rfl rfl rfl hdX2_insert_3 ⟨Nat.le_of_ble_eq_true rfl, Nat.le_of_ble_eq_true rfl⟩) (hX.preRow (by omega)) rfl rfl hl.1 rfl (lv_room (Nat.le_of_ble_eq_true rfl)) dX4_placeNew_25 ⟨Nat.le_of_ble_eq_true rfl, Nat.le_of_ble_eq_true rfl⟩) hX (fun _ h => h) (fun S_ H locs hw hX => ?_)
    subst hw
    refine lv_iload hx hb dX4_placeNew_28 (lv_at hl 0 rfl) ?_
    exact W.iret (v := nI S.2.2.1) hx hb hr (fun t9 ht9 hW9 => ⟨⟨_, (xR (xN S (S.2.2.1 + 1, S.2.2.2.1, S.2.2.2.2)) i (va_up (shr ((S.1 i).1) ((S.1 i).2.2) q) q v, va_up (shr ((S.1 i).2.1) ((S.1 i).2.2) q) q S.2.2.1, (S.1 i).2.2 + 1)), rfl, (Or.inl ⟨hc, rfl, rfl⟩), hX.P ht9 hW9⟩, hX.2.2.2.F ht9⟩) hX.2.2.2.2.2 dX4_placeNew_30
  · skip
    have hc := k_1
    refine lv_aload_n hx hb dX4_placeNew_9 rfl (lv_at hl 0 rfl) ?_
    refine kx_ci (va_runV (As := []) (rest := []) ⟨hx, hb, hml, hown, hts⟩ (m_X4_refuse l dC dI ad S) (cwV 0 hts gX4_placeNew_X4_refuse rfl rfl rfl hdX4_refuse_0 ⟨Nat.le_of_ble_eq_true rfl, Nat.le_of_ble_eq_true rfl⟩) (hX.preTop 57 6 (by decide) (by decide) rfl rfl) rfl rfl hl.1 rfl (lv_room (Nat.le_of_ble_eq_true rfl)) dX4_placeNew_10 ⟨Nat.le_of_ble_eq_true rfl, Nat.le_of_ble_eq_true rfl⟩) hX (fun _ h => h) (fun r_ S_ H locs hw hX => ?_)
    obtain ⟨rfl, rfl⟩ := hw
    exact W.iret (v := (-9)) hx hb hr (fun t9 ht9 hW9 => ⟨⟨_, (xN S (S.2.2.1, S.2.2.2.1 + 1, S.2.2.2.2)), rfl, (Or.inr ⟨hc, rfl, rfl⟩), hX.P ht9 hW9⟩, hX.2.2.2.F ht9⟩) hX.2.2.2.2.2 dX4_placeNew_13
set_option maxHeartbeats 4000000 in
set_option maxRecDepth 100000 in
theorem m_X4_coarsestKey (l : Launch) (dC : Nat → ClassId) (dI : Nat → Nat → Nat) (ad : Nat → Nat) (S : XS) (j v u : Nat) (hj : j < 4) (hn : (S.2.1 j).2.2.2.2.1 < 10) (hv : v < 16) (hu : u < 16) (hI : InvX S) : Met l yX4_coarsestKey wsX4_coarsestKey ({ frames := 4, cells := 0, slots := 0, locals := 91 } : Room) (va_Pc [.ref (ad 57), .ref (ad (24 + 5 * j)), .int (nI v), .int (nI u)] (PX dC dI ad S)) (va_Qi (fun r S' => r = nI (coarse (coarseC (S.2.1 j)) (keyApart v u) 8).2 ∧ ∃ o4, ordOK o4 ∧ S' = xO S 4 o4) (PX dC dI ad) (AX ad)) 0 0 (AX ad) := by
  refine Met.ofW (cc := cX4_coarsestKey) (maxL := 7) (ret := (some .int)) pl_X4 rfl ?_
  intro p e s m args below meth c s₁ B hml hv
  obtain ⟨rfl, hPX⟩ := hv
  have hx := B.exec
  have hb := B.bytes
  have hr := B.returns
  have hts := atoms_spec (ws := wsX4_coarsestKey) B.pre
  have hown : s.vm.findClass RX4 = some m.cls := findClass_of_methodNamed B.named
  have hlocks := B.notSynchronized
  have hin4 : ∀ w ∈ u_ws RX4 TX4 9, w ∈ wsX4_coarsestKey := tu 1328 (by decide +kernel) rfl
  have hX := WX.of hPX
  have hl := lv_entry ([.ref (ad 57), .ref (ad (24 + 5 * j)), .int (nI v), .int (nI u)]) (n := 7) (Nat.le_of_ble_eq_true rfl)
  rw [lg_entry_eq]
  generalize (lg_sl ([.ref (ad 57), .ref (ad (24 + 5 * j)), .int (nI v), .int (nI u)]) ++ List.replicate (7 - (lg_sl ([.ref (ad 57), .ref (ad (24 + 5 * j)), .int (nI v), .int (nI u)])).length) Slot.unset).toArray = ls at hl ⊢
  have hl : lv_has ls 7 [(0, .ref (ad 57)), (1, .ref (ad (24 + 5 * j))), (2, .int (nI v)), (3, .int (nI u))] := hl
  show W p l e ({ frames := 4, cells := 0, slots := 0, locals := 91 } : Room) s m ([.ref (ad 57), .ref (ad (24 + 5 * j)), .int (nI v), .int (nI u)]).toArray below meth c s.heap [] 0 0 (MQ below (va_Qi (fun r S' => r = nI (coarse (coarseC (S.2.1 j)) (keyApart v u) 8).2 ∧ ∃ o4, ordOK o4 ∧ S' = xO S 4 o4) (PX dC dI ad) (AX ad)) ([.ref (ad 57), .ref (ad (24 + 5 * j)), .int (nI v), .int (nI u)]).toArray s 0 0 (AX ad)) (F0 m 0 ls [])
  refine lv_iconst (v := nI 0) hx hb dX4_coarsestKey_0 (by decide) ?_
  refine lv_istore (lv' := [(4, .int (nI 0)), (0, .ref (ad 57)), (1, .ref (ad (24 + 5 * j))), (2, .int (nI v)), (3, .int (nI u))]) hx hb dX4_coarsestKey_1 hl (by decide) rfl (fun ls hl => ?_)
  refine lv_bipush (v := nI 17) hx hb dX4_coarsestKey_3 (by decide) ?_
  refine lv_istore (lv' := [(5, .int (nI 17)), (4, .int (nI 0)), (0, .ref (ad 57)), (1, .ref (ad (24 + 5 * j))), (2, .int (nI v)), (3, .int (nI u))]) hx hb dX4_coarsestKey_5 hl (by decide) rfl (fun ls hl => ?_)
  refine lv_iconst (v := nI 0) hx hb dX4_coarsestKey_7 (by decide) ?_
  refine lv_istore (lv' := [(6, .int (nI 0)), (5, .int (nI 17)), (4, .int (nI 0)), (0, .ref (ad 57)), (1, .ref (ad (24 + 5 * j))), (2, .int (nI v)), (3, .int (nI u))]) hx hb dX4_coarsestKey_8 hl (by decide) rfl (fun ls hl => ?_)
  have loop10 : ∀ (fuel : Nat) (o4 : OrdS) (bb fw k : Nat) (ho4 : ordOK o4) (hk : k ≤ 8) (hq : (fw, bb) = coarse (coarseC (S.2.1 j)) (keyApart v u) k) (H : Heap) (locs : List Loc), 8 - k < fuel → WX dC dI ad (xO S 4 (o4.1, o4.2.1, o4.2.2.1, o4.2.2.2.1, o4.2.2.2.2.1, o4.2.2.2.2.2)) (AX ad) s H locs → ∀ ls : Array Slot, lv_has ls 7 [(0, .ref (ad 57)), (1, .ref (ad (24 + 5 * j))), (2, .int (nI v)), (3, .int (nI u)), (4, .int (nI bb)), (5, .int (nI fw)), (6, .int (nI k))] → W p l e ({ frames := 4, cells := 0, slots := 0, locals := 91 } : Room) s m ([.ref (ad 57), .ref (ad (24 + 5 * j)), .int (nI v), .int (nI u)]).toArray below meth c H locs 0 0 (MQ below (va_Qi (fun r S' => r = nI (coarse (coarseC (S.2.1 j)) (keyApart v u) 8).2 ∧ ∃ o4, ordOK o4 ∧ S' = xO S 4 o4) (PX dC dI ad) (AX ad)) ([.ref (ad 57), .ref (ad (24 + 5 * j)), .int (nI v), .int (nI u)]).toArray s 0 0 (AX ad)) (F0 m 10 ls []) := by
    intro fuel
    induction fuel with
    | zero => intro o4 bb fw k ho4 hk hq H locs hf; exact absurd hf (Nat.not_lt_zero _)
    | succ fuel ih10 =>
      intro o4 bb fw k ho4 hk hq H locs hf hX ls hl
      refine lv_iload hx hb dX4_coarsestKey_10 (lv_at hl 6 rfl) ?_
      refine lv_bipush (v := nI 8) hx hb dX4_coarsestKey_12 (by decide) ?_
      refine kn_icmp_ge (tgt := 81) hx hb (by omega) (by omega) dX4_coarsestKey_14 (by decide) (fun k_1 => ?_) (fun k_1 => ?_)
      · skip
        refine lv_iload hx hb dX4_coarsestKey_81 (lv_at hl 4 rfl) ?_
        exact W.iret (v := nI bb) hx hb hr (fun t9 ht9 hW9 => ⟨⟨_, (xO S 4 (o4.1, o4.2.1, o4.2.2.1, o4.2.2.2.1, o4.2.2.2.2.1, o4.2.2.2.2.2)), rfl, ⟨by rw [← show k = 8 by omega, ← hq], o4, ho4, rfl⟩, hX.P ht9 hW9⟩, hX.2.2.2.F ht9⟩) hX.2.2.2.2.2 dX4_coarsestKey_83
      · skip
        refine lv_iload hx hb dX4_coarsestKey_17 (lv_at hl 6 rfl) ?_
        refine lv_iload_n hx hb dX4_coarsestKey_19 rfl (lv_at hl 2 rfl) ?_
        refine kx_cr (v := nI (numK k v)) (va_runS (As := [.int (nI k), .int (nI v)]) (rest := []) ⟨hx, hb, hml, hown, hts⟩ (m_X1_numberBy l dC dI ad (xO S 4 (o4.1, o4.2.1, o4.2.2.1, o4.2.2.2.1, o4.2.2.2.2.1, o4.2.2.2.2.2)) k v (by omega) (by omega)) (va_cwS 2 hts gX4_coarsestKey_X1_numberBy rfl rfl rfl hdX1_numberBy_2.2 ⟨Nat.le_of_ble_eq_true rfl, Nat.le_of_ble_eq_true rfl⟩) hX.preS rfl rfl hl.1 rfl (lv_room (Nat.le_of_ble_eq_true rfl)) dX4_coarsestKey_20 ⟨Nat.le_of_ble_eq_true rfl, Nat.le_of_ble_eq_true rfl⟩) (fun _ h => h) ?_
        refine lv_iload hx hb dX4_coarsestKey_23 (lv_at hl 6 rfl) ?_
        refine lv_iload_n hx hb dX4_coarsestKey_25 rfl (lv_at hl 3 rfl) ?_
        refine kx_cr (v := nI (numK k u)) (va_runS (As := [.int (nI k), .int (nI u)]) (rest := [.int (nI (numK k v))]) ⟨hx, hb, hml, hown, hts⟩ (m_X1_numberBy l dC dI ad (xO S 4 (o4.1, o4.2.1, o4.2.2.1, o4.2.2.2.1, o4.2.2.2.2.1, o4.2.2.2.2.2)) k u (by omega) (by omega)) (va_cwS 2 hts gX4_coarsestKey_X1_numberBy rfl rfl rfl hdX1_numberBy_2.2 ⟨Nat.le_of_ble_eq_true rfl, Nat.le_of_ble_eq_true rfl⟩) hX.preS rfl rfl hl.1 rfl (lv_room (Nat.le_of_ble_eq_true rfl)) dX4_coarsestKey_26 ⟨Nat.le_of_ble_eq_true rfl, Nat.le_of_ble_eq_true rfl⟩) (fun _ h => h) ?_
        have h1 := numK_lt (k := k) hv
        have h2 := numK_lt (k := k) hu
        refine kn_icmp_eq (tgt := 75) hx hb (by omega) (by omega) dX4_coarsestKey_29 (by decide) (fun k_2 => ?_) (fun k_2 => ?_)
        · skip
          have h3 := k_2
          refine lv_iinc (v := nI (k + 1)) (lv' := [(6, .int (nI (k + 1))), (0, .ref (ad 57)), (1, .ref (ad (24 + 5 * j))), (2, .int (nI v)), (3, .int (nI u)), (4, .int (nI bb)), (5, .int (nI fw))]) hx hb dX4_coarsestKey_75 hl (k := 6) rfl (nI_1 k) (by decide) rfl (fun ls hl => ?_)
          refine lv_goto (tgt := 10) hx hb dX4_coarsestKey_78 (by decide) ?_
          exact ih10  o4 bb fw (k + 1) ho4 (by omega) (coarse_no (Or.inl (keyApart_no h3)) hq) _ _ (by omega) hX _ (lv_sub hl [1, 2, 3, 4, 5, 6, 0] rfl)
        · skip
          have h3 := k_2
          refine lv_aload_n hx hb dX4_coarsestKey_32 rfl (lv_at hl 0 rfl) ?_
          refine kx_gspareOrder hx hb hts hin4 hown hX (hts (.fieldLink RX4 41 "Orderlattice" "spareOrder" "LOrderlattice$Order;") (tm 454 (by decide +kernel) rfl)) dX4_coarsestKey_33 ?_
          refine lv_aload_n hx hb dX4_coarsestKey_36 rfl (lv_at hl 1 rfl) ?_
          refine kx_cv (va_runV (As := [.ref (ad (24 + 5 * j))]) (rest := []) ⟨hx, hb, hml, hown, hts⟩ (m_X1_becomeCopyOf l dC dI ad (xO S 4 (o4.1, o4.2.1, o4.2.2.1, o4.2.2.2.1, o4.2.2.2.2.1, o4.2.2.2.2.2)) 4 j (by omega) (by omega) (by rw [xO_ord]; exact ho4.1) (by rw [xO_ne _ _ (show j ≠ 4 by omega)]; exact (hI.2 j (by omega)).1)) (cwV 1 hts gX4_coarsestKey_X1_becomeCopyOf rfl rfl rfl hdX1_becomeCopyOf_1 ⟨Nat.le_of_ble_eq_true rfl, Nat.le_of_ble_eq_true rfl⟩) (hX.preOrd (by omega)) rfl rfl hl.1 rfl (lv_room (Nat.le_of_ble_eq_true rfl)) dX4_coarsestKey_37 ⟨Nat.le_of_ble_eq_true rfl, Nat.le_of_ble_eq_true rfl⟩) hX (fun _ h => h) (fun S_ H locs hw hX => ?_)
          rw [xO_ord, xO_xO] at hw
          rw [xO_ne _ _ (show j ≠ 4 by omega)] at hw
          subst hw
          refine lv_aload_n hx hb dX4_coarsestKey_40 rfl (lv_at hl 0 rfl) ?_
          refine kx_gspareOrder hx hb hts hin4 hown hX (hts (.fieldLink RX4 41 "Orderlattice" "spareOrder" "LOrderlattice$Order;") (tm 454 (by decide +kernel) rfl)) dX4_coarsestKey_41 ?_
          refine lv_iload hx hb dX4_coarsestKey_44 (lv_at hl 6 rfl) ?_
          refine lv_iconst (v := bI false) hx hb dX4_coarsestKey_46 (by decide) ?_
          refine kx_cv (va_runV (As := [.int (nI k), .int (bI false)]) (rest := []) ⟨hx, hb, hml, hown, hts⟩ (m_X1_append l dC dI ad (xO S 4 (apn o4.1 ((S.2.1 j).1) 0 ((S.2.1 j).2.2.2.2.1), apn o4.2.1 ((S.2.1 j).2.1) 0 ((S.2.1 j).2.2.2.2.1), ovl (codeOf (apn o4.1 ((S.2.1 j).1) 0 ((S.2.1 j).2.2.2.2.1)) (apn o4.2.1 ((S.2.1 j).2.1) 0 ((S.2.1 j).2.2.2.2.1)) ((S.2.1 j).2.2.2.2.1)) o4.2.2.1 16, ovl (rankC (codeOf (apn o4.1 ((S.2.1 j).1) 0 ((S.2.1 j).2.2.2.2.1)) (apn o4.2.1 ((S.2.1 j).2.1) 0 ((S.2.1 j).2.2.2.2.1)) ((S.2.1 j).2.2.2.2.1))) o4.2.2.2.1 16, (S.2.1 j).2.2.2.2.1, classC (codeOf (apn o4.1 ((S.2.1 j).1) 0 ((S.2.1 j).2.2.2.2.1)) (apn o4.2.1 ((S.2.1 j).2.1) 0 ((S.2.1 j).2.2.2.2.1)) ((S.2.1 j).2.2.2.2.1)))) 4 k false (by omega) (by rw [xO_ord]; exact stepOK_apn0 (o := o4) ho4.1 (hI.2 j (by omega)).1) (by rw [xO_ord]; exact hn) (by omega)) (cwV 2 hts gX4_coarsestKey_X1_append rfl rfl rfl hdX1_append_2 ⟨Nat.le_of_ble_eq_true rfl, Nat.le_of_ble_eq_true rfl⟩) (hX.preOrd (by omega)) rfl rfl hl.1 rfl (lv_room (Nat.le_of_ble_eq_true rfl)) dX4_coarsestKey_47 ⟨Nat.le_of_ble_eq_true rfl, Nat.le_of_ble_eq_true rfl⟩) hX (fun _ h => h) (fun S_ H locs hw hX => ?_)
          rw [xO_ord, xO_xO] at hw
          subst hw
          refine lv_aload_n hx hb dX4_coarsestKey_50 rfl (lv_at hl 0 rfl) ?_
          refine kx_gspareOrder hx hb hts hin4 hown hX (hts (.fieldLink RX4 41 "Orderlattice" "spareOrder" "LOrderlattice$Order;") (tm 454 (by decide +kernel) rfl)) dX4_coarsestKey_51 ?_
          refine kx_cr (v := nI (classC (codeOf (va_up (apn o4.1 ((S.2.1 j).1) 0 ((S.2.1 j).2.2.2.2.1)) ((S.2.1 j).2.2.2.2.1) k) (va_up (apn o4.2.1 ((S.2.1 j).2.1) 0 ((S.2.1 j).2.2.2.2.1)) ((S.2.1 j).2.2.2.2.1) false) ((S.2.1 j).2.2.2.2.1 + 1)))) (va_runV (As := []) (rest := []) ⟨hx, hb, hml, hown, hts⟩ (m_X1_classCount l dC dI ad (xO S 4 (va_up (apn o4.1 ((S.2.1 j).1) 0 ((S.2.1 j).2.2.2.2.1)) ((S.2.1 j).2.2.2.2.1) k, va_up (apn o4.2.1 ((S.2.1 j).2.1) 0 ((S.2.1 j).2.2.2.2.1)) ((S.2.1 j).2.2.2.2.1) false, ovl (codeOf (va_up (apn o4.1 ((S.2.1 j).1) 0 ((S.2.1 j).2.2.2.2.1)) ((S.2.1 j).2.2.2.2.1) k) (va_up (apn o4.2.1 ((S.2.1 j).2.1) 0 ((S.2.1 j).2.2.2.2.1)) ((S.2.1 j).2.2.2.2.1) false) ((S.2.1 j).2.2.2.2.1 + 1)) (ovl (codeOf (apn o4.1 ((S.2.1 j).1) 0 ((S.2.1 j).2.2.2.2.1)) (apn o4.2.1 ((S.2.1 j).2.1) 0 ((S.2.1 j).2.2.2.2.1)) ((S.2.1 j).2.2.2.2.1)) o4.2.2.1 16) 16, ovl (rankC (codeOf (va_up (apn o4.1 ((S.2.1 j).1) 0 ((S.2.1 j).2.2.2.2.1)) ((S.2.1 j).2.2.2.2.1) k) (va_up (apn o4.2.1 ((S.2.1 j).2.1) 0 ((S.2.1 j).2.2.2.2.1)) ((S.2.1 j).2.2.2.2.1) false) ((S.2.1 j).2.2.2.2.1 + 1))) (ovl (rankC (codeOf (apn o4.1 ((S.2.1 j).1) 0 ((S.2.1 j).2.2.2.2.1)) (apn o4.2.1 ((S.2.1 j).2.1) 0 ((S.2.1 j).2.2.2.2.1)) ((S.2.1 j).2.2.2.2.1))) o4.2.2.2.1 16) 16, (S.2.1 j).2.2.2.2.1 + 1, classC (codeOf (va_up (apn o4.1 ((S.2.1 j).1) 0 ((S.2.1 j).2.2.2.2.1)) ((S.2.1 j).2.2.2.2.1) k) (va_up (apn o4.2.1 ((S.2.1 j).2.1) 0 ((S.2.1 j).2.2.2.2.1)) ((S.2.1 j).2.2.2.2.1) false) ((S.2.1 j).2.2.2.2.1 + 1)))) 4  (by omega)) (cwV 0 hts gX4_coarsestKey_X1_classCount rfl rfl rfl hdX1_classCount_0 ⟨Nat.le_of_ble_eq_true rfl, Nat.le_of_ble_eq_true rfl⟩) (hX.preOrd (by omega)) rfl rfl hl.1 rfl (lv_room (Nat.le_of_ble_eq_true rfl)) dX4_coarsestKey_54 ⟨Nat.le_of_ble_eq_true rfl, Nat.le_of_ble_eq_true rfl⟩) (fun _ h => by rw [h, xO_ord]) ?_
          refine lv_iload hx hb dX4_coarsestKey_57 (lv_at hl 5 rfl) ?_
          have hcc := classC_le (codeOf (va_up (apn o4.1 (S.2.1 j).1 0 (S.2.1 j).2.2.2.2.1) (S.2.1 j).2.2.2.2.1 k) (va_up (apn o4.2.1 (S.2.1 j).2.1 0 (S.2.1 j).2.2.2.2.1) (S.2.1 j).2.2.2.2.1 false) ((S.2.1 j).2.2.2.2.1 + 1))
          have hce := coarse_eq (o := S.2.1 j) (K0 := o4.1) (D0 := o4.2.1) k
          have hfw : fw ≤ 17 := by rw [show fw = (coarse (coarseC (S.2.1 j)) (keyApart v u) k).1 from congrArg Prod.fst hq]; exact coarse_le _ _ _
          refine kn_icmp_ge (tgt := 75) hx hb (by omega) (by omega) dX4_coarsestKey_59 (by decide) (fun k_3 => ?_) (fun k_3 => ?_)
          · skip
            have h4 := k_3
            refine lv_iinc (v := nI (k + 1)) (lv' := [(6, .int (nI (k + 1))), (0, .ref (ad 57)), (1, .ref (ad (24 + 5 * j))), (2, .int (nI v)), (3, .int (nI u)), (4, .int (nI bb)), (5, .int (nI fw))]) hx hb dX4_coarsestKey_75 hl (k := 6) rfl (nI_1 k) (by decide) rfl (fun ls hl => ?_)
            refine lv_goto (tgt := 10) hx hb dX4_coarsestKey_78 (by decide) ?_
            exact ih10  (va_up (apn o4.1 ((S.2.1 j).1) 0 ((S.2.1 j).2.2.2.2.1)) ((S.2.1 j).2.2.2.2.1) k, va_up (apn o4.2.1 ((S.2.1 j).2.1) 0 ((S.2.1 j).2.2.2.2.1)) ((S.2.1 j).2.2.2.2.1) false, ovl (codeOf (va_up (apn o4.1 ((S.2.1 j).1) 0 ((S.2.1 j).2.2.2.2.1)) ((S.2.1 j).2.2.2.2.1) k) (va_up (apn o4.2.1 ((S.2.1 j).2.1) 0 ((S.2.1 j).2.2.2.2.1)) ((S.2.1 j).2.2.2.2.1) false) ((S.2.1 j).2.2.2.2.1 + 1)) (ovl (codeOf (apn o4.1 ((S.2.1 j).1) 0 ((S.2.1 j).2.2.2.2.1)) (apn o4.2.1 ((S.2.1 j).2.1) 0 ((S.2.1 j).2.2.2.2.1)) ((S.2.1 j).2.2.2.2.1)) o4.2.2.1 16) 16, ovl (rankC (codeOf (va_up (apn o4.1 ((S.2.1 j).1) 0 ((S.2.1 j).2.2.2.2.1)) ((S.2.1 j).2.2.2.2.1) k) (va_up (apn o4.2.1 ((S.2.1 j).2.1) 0 ((S.2.1 j).2.2.2.2.1)) ((S.2.1 j).2.2.2.2.1) false) ((S.2.1 j).2.2.2.2.1 + 1))) (ovl (rankC (codeOf (apn o4.1 ((S.2.1 j).1) 0 ((S.2.1 j).2.2.2.2.1)) (apn o4.2.1 ((S.2.1 j).2.1) 0 ((S.2.1 j).2.2.2.2.1)) ((S.2.1 j).2.2.2.2.1))) o4.2.2.2.1 16) 16, (S.2.1 j).2.2.2.2.1 + 1, classC (codeOf (va_up (apn o4.1 ((S.2.1 j).1) 0 ((S.2.1 j).2.2.2.2.1)) ((S.2.1 j).2.2.2.2.1) k) (va_up (apn o4.2.1 ((S.2.1 j).2.1) 0 ((S.2.1 j).2.2.2.2.1)) ((S.2.1 j).2.2.2.2.1) false) ((S.2.1 j).2.2.2.2.1 + 1))) bb fw (k + 1) (newO_ok (stepOK_up (o := (apn o4.1 (S.2.1 j).1 0 (S.2.1 j).2.2.2.2.1, fun _ => false, fun _ => 0, fun _ => 0, (S.2.1 j).2.2.2.2.1, 0)) (D := fun _ => false) (c := fun _ => 0) (r := fun _ => 0) (cl := 0) (stepOK_apn0 (o := o4) ho4.1 (hI.2 j (by omega)).1) hn (by omega))) (by omega) (coarse_no (Or.inr (by rw [← hce]; have := congrArg Prod.fst hq; omega)) hq) _ _ (by omega) hX _ (lv_sub hl [1, 2, 3, 4, 5, 6, 0] rfl)
          · skip
            have h4 := k_3
            refine lv_aload_n hx hb dX4_coarsestKey_62 rfl (lv_at hl 0 rfl) ?_
            refine kx_gspareOrder hx hb hts hin4 hown hX (hts (.fieldLink RX4 41 "Orderlattice" "spareOrder" "LOrderlattice$Order;") (tm 454 (by decide +kernel) rfl)) dX4_coarsestKey_63 ?_
            refine kx_cr (v := nI (classC (codeOf (va_up (apn o4.1 ((S.2.1 j).1) 0 ((S.2.1 j).2.2.2.2.1)) ((S.2.1 j).2.2.2.2.1) k) (va_up (apn o4.2.1 ((S.2.1 j).2.1) 0 ((S.2.1 j).2.2.2.2.1)) ((S.2.1 j).2.2.2.2.1) false) ((S.2.1 j).2.2.2.2.1 + 1)))) (va_runV (As := []) (rest := []) ⟨hx, hb, hml, hown, hts⟩ (m_X1_classCount l dC dI ad (xO S 4 (va_up (apn o4.1 ((S.2.1 j).1) 0 ((S.2.1 j).2.2.2.2.1)) ((S.2.1 j).2.2.2.2.1) k, va_up (apn o4.2.1 ((S.2.1 j).2.1) 0 ((S.2.1 j).2.2.2.2.1)) ((S.2.1 j).2.2.2.2.1) false, ovl (codeOf (va_up (apn o4.1 ((S.2.1 j).1) 0 ((S.2.1 j).2.2.2.2.1)) ((S.2.1 j).2.2.2.2.1) k) (va_up (apn o4.2.1 ((S.2.1 j).2.1) 0 ((S.2.1 j).2.2.2.2.1)) ((S.2.1 j).2.2.2.2.1) false) ((S.2.1 j).2.2.2.2.1 + 1)) (ovl (codeOf (apn o4.1 ((S.2.1 j).1) 0 ((S.2.1 j).2.2.2.2.1)) (apn o4.2.1 ((S.2.1 j).2.1) 0 ((S.2.1 j).2.2.2.2.1)) ((S.2.1 j).2.2.2.2.1)) o4.2.2.1 16) 16, ovl (rankC (codeOf (va_up (apn o4.1 ((S.2.1 j).1) 0 ((S.2.1 j).2.2.2.2.1)) ((S.2.1 j).2.2.2.2.1) k) (va_up (apn o4.2.1 ((S.2.1 j).2.1) 0 ((S.2.1 j).2.2.2.2.1)) ((S.2.1 j).2.2.2.2.1) false) ((S.2.1 j).2.2.2.2.1 + 1))) (ovl (rankC (codeOf (apn o4.1 ((S.2.1 j).1) 0 ((S.2.1 j).2.2.2.2.1)) (apn o4.2.1 ((S.2.1 j).2.1) 0 ((S.2.1 j).2.2.2.2.1)) ((S.2.1 j).2.2.2.2.1))) o4.2.2.2.1 16) 16, (S.2.1 j).2.2.2.2.1 + 1, classC (codeOf (va_up (apn o4.1 ((S.2.1 j).1) 0 ((S.2.1 j).2.2.2.2.1)) ((S.2.1 j).2.2.2.2.1) k) (va_up (apn o4.2.1 ((S.2.1 j).2.1) 0 ((S.2.1 j).2.2.2.2.1)) ((S.2.1 j).2.2.2.2.1) false) ((S.2.1 j).2.2.2.2.1 + 1)))) 4  (by omega)) (cwV 0 hts gX4_coarsestKey_X1_classCount rfl rfl rfl hdX1_classCount_0 ⟨Nat.le_of_ble_eq_true rfl, Nat.le_of_ble_eq_true rfl⟩) (hX.preOrd (by omega)) rfl rfl hl.1 rfl (lv_room (Nat.le_of_ble_eq_true rfl)) dX4_coarsestKey_66 ⟨Nat.le_of_ble_eq_true rfl, Nat.le_of_ble_eq_true rfl⟩) (fun _ h => by rw [h, xO_ord]) ?_
            refine lv_istore (lv' := [(5, .int (nI (classC (codeOf (va_up (apn o4.1 ((S.2.1 j).1) 0 ((S.2.1 j).2.2.2.2.1)) ((S.2.1 j).2.2.2.2.1) k) (va_up (apn o4.2.1 ((S.2.1 j).2.1) 0 ((S.2.1 j).2.2.2.2.1)) ((S.2.1 j).2.2.2.2.1) false) ((S.2.1 j).2.2.2.2.1 + 1))))), (0, .ref (ad 57)), (1, .ref (ad (24 + 5 * j))), (2, .int (nI v)), (3, .int (nI u)), (4, .int (nI bb)), (6, .int (nI k))]) hx hb dX4_coarsestKey_69 hl (by decide) rfl (fun ls hl => ?_)
            refine lv_iload hx hb dX4_coarsestKey_71 (lv_at hl 6 rfl) ?_
            refine lv_istore (lv' := [(4, .int (nI k)), (5, .int (nI (classC (codeOf (va_up (apn o4.1 ((S.2.1 j).1) 0 ((S.2.1 j).2.2.2.2.1)) ((S.2.1 j).2.2.2.2.1) k) (va_up (apn o4.2.1 ((S.2.1 j).2.1) 0 ((S.2.1 j).2.2.2.2.1)) ((S.2.1 j).2.2.2.2.1) false) ((S.2.1 j).2.2.2.2.1 + 1))))), (0, .ref (ad 57)), (1, .ref (ad (24 + 5 * j))), (2, .int (nI v)), (3, .int (nI u)), (6, .int (nI k))]) hx hb dX4_coarsestKey_73 hl (by decide) rfl (fun ls hl => ?_)
            refine lv_iinc (v := nI (k + 1)) (lv' := [(6, .int (nI (k + 1))), (4, .int (nI k)), (5, .int (nI (classC (codeOf (va_up (apn o4.1 ((S.2.1 j).1) 0 ((S.2.1 j).2.2.2.2.1)) ((S.2.1 j).2.2.2.2.1) k) (va_up (apn o4.2.1 ((S.2.1 j).2.1) 0 ((S.2.1 j).2.2.2.2.1)) ((S.2.1 j).2.2.2.2.1) false) ((S.2.1 j).2.2.2.2.1 + 1))))), (0, .ref (ad 57)), (1, .ref (ad (24 + 5 * j))), (2, .int (nI v)), (3, .int (nI u))]) hx hb dX4_coarsestKey_75 hl (k := 6) rfl (nI_1 k) (by decide) rfl (fun ls hl => ?_)
            refine lv_goto (tgt := 10) hx hb dX4_coarsestKey_78 (by decide) ?_
            exact ih10  (va_up (apn o4.1 ((S.2.1 j).1) 0 ((S.2.1 j).2.2.2.2.1)) ((S.2.1 j).2.2.2.2.1) k, va_up (apn o4.2.1 ((S.2.1 j).2.1) 0 ((S.2.1 j).2.2.2.2.1)) ((S.2.1 j).2.2.2.2.1) false, ovl (codeOf (va_up (apn o4.1 ((S.2.1 j).1) 0 ((S.2.1 j).2.2.2.2.1)) ((S.2.1 j).2.2.2.2.1) k) (va_up (apn o4.2.1 ((S.2.1 j).2.1) 0 ((S.2.1 j).2.2.2.2.1)) ((S.2.1 j).2.2.2.2.1) false) ((S.2.1 j).2.2.2.2.1 + 1)) (ovl (codeOf (apn o4.1 ((S.2.1 j).1) 0 ((S.2.1 j).2.2.2.2.1)) (apn o4.2.1 ((S.2.1 j).2.1) 0 ((S.2.1 j).2.2.2.2.1)) ((S.2.1 j).2.2.2.2.1)) o4.2.2.1 16) 16, ovl (rankC (codeOf (va_up (apn o4.1 ((S.2.1 j).1) 0 ((S.2.1 j).2.2.2.2.1)) ((S.2.1 j).2.2.2.2.1) k) (va_up (apn o4.2.1 ((S.2.1 j).2.1) 0 ((S.2.1 j).2.2.2.2.1)) ((S.2.1 j).2.2.2.2.1) false) ((S.2.1 j).2.2.2.2.1 + 1))) (ovl (rankC (codeOf (apn o4.1 ((S.2.1 j).1) 0 ((S.2.1 j).2.2.2.2.1)) (apn o4.2.1 ((S.2.1 j).2.1) 0 ((S.2.1 j).2.2.2.2.1)) ((S.2.1 j).2.2.2.2.1))) o4.2.2.2.1 16) 16, (S.2.1 j).2.2.2.2.1 + 1, classC (codeOf (va_up (apn o4.1 ((S.2.1 j).1) 0 ((S.2.1 j).2.2.2.2.1)) ((S.2.1 j).2.2.2.2.1) k) (va_up (apn o4.2.1 ((S.2.1 j).2.1) 0 ((S.2.1 j).2.2.2.2.1)) ((S.2.1 j).2.2.2.2.1) false) ((S.2.1 j).2.2.2.2.1 + 1))) k (classC (codeOf (va_up (apn o4.1 ((S.2.1 j).1) 0 ((S.2.1 j).2.2.2.2.1)) ((S.2.1 j).2.2.2.2.1) k) (va_up (apn o4.2.1 ((S.2.1 j).2.1) 0 ((S.2.1 j).2.2.2.2.1)) ((S.2.1 j).2.2.2.2.1) false) ((S.2.1 j).2.2.2.2.1 + 1))) (k + 1) (newO_ok (stepOK_up (o := (apn o4.1 (S.2.1 j).1 0 (S.2.1 j).2.2.2.2.1, fun _ => false, fun _ => 0, fun _ => 0, (S.2.1 j).2.2.2.2.1, 0)) (D := fun _ => false) (c := fun _ => 0) (r := fun _ => 0) (cl := 0) (stepOK_apn0 (o := o4) ho4.1 (hI.2 j (by omega)).1) hn (by omega))) (by omega) (by rw [hce]; exact coarse_new (keyApart_yes h3) (by rw [← hce]; have := congrArg Prod.fst hq; omega) hq) _ _ (by omega) hX _ (lv_sub hl [3, 4, 5, 6, 1, 2, 0] rfl)
  exact loop10 (8 + 1) (S.2.1 4) 0 17 0 (hI.2 4 (by omega)) (by omega) rfl _ _ (by omega) (WX.eqS (xO_self S 4).symm hX) _ (lv_sub hl [3, 4, 5, 6, 2, 1, 0] rfl)
end
