theorem ix_no {x9 : Int32} {n : Int32} (h : x9 < 0 ∨ n ≤ x9) (h1 : ¬ x9 < 0) : ¬ x9 < n := fun h2 => h.elim h1 (fun h3 => by
  rw [Int32.lt_iff_toInt_lt] at h2
  rw [Int32.le_iff_toInt_le] at h3
  omega)
theorem ix_no2 {x9 : Int32} {n : Int32} (h : x9 < 0 ∨ n < x9) (h1 : ¬ x9 < 0) : ¬ x9 ≤ n := fun h2 => h.elim h1 (fun h3 => by
  rw [Int32.le_iff_toInt_le] at h2
  rw [Int32.lt_iff_toInt_lt] at h3
  omega)
set_option maxHeartbeats 4000000 in
set_option maxRecDepth 100000 in
theorem m_X4_rowAt (l : Launch) (dC : Nat → ClassId) (dI : Nat → Nat → Nat) (ad : Nat → Nat) (S : XS) (i : Nat) (hi : i < 3) : Met l yX4_rowAt wsX4_rowAt ({ frames := 0, cells := 0, slots := 0, locals := 0 } : Room) (va_Pc [.ref (ad 57), .int (nI i)] (PX dC dI ad S)) (va_Sr (fun k => k = i) (fun k => .ref (ad (3 * k)))) 0 0 (fun _ => False) := by
  refine Met.ofW (cc := cX4_rowAt) (maxL := 3) (ret := (some (.object "Orderlattice$Row"))) pl_X4 rfl ?_
  intro p e s m args below meth c s₁ B hml hv
  obtain ⟨rfl, hPX⟩ := hv
  have hx := B.exec
  have hb := B.bytes
  have hr := B.returns
  have hts := atoms_spec (ws := wsX4_rowAt) B.pre
  have hown : s.vm.findClass RX4 = some m.cls := findClass_of_methodNamed B.named
  have hlocks := B.notSynchronized
  have hin4 : ∀ w ∈ u_ws RX4 TX4 9, w ∈ wsX4_rowAt := tu 1328 (by decide +kernel) rfl
  have hX := WX.of hPX
  have hl := lv_entry ([.ref (ad 57), .int (nI i)]) (n := 3) (Nat.le_of_ble_eq_true rfl)
  rw [lg_entry_eq]
  generalize (lg_sl ([.ref (ad 57), .int (nI i)]) ++ List.replicate (3 - (lg_sl ([.ref (ad 57), .int (nI i)])).length) Slot.unset).toArray = ls at hl ⊢
  have hl : lv_has ls 3 [(0, .ref (ad 57)), (1, .int (nI i))] := hl
  show W p l e ({ frames := 0, cells := 0, slots := 0, locals := 0 } : Room) s m ([.ref (ad 57), .int (nI i)]).toArray below meth c s.heap [] 0 0 (MQ below (va_Sr (fun k => k = i) (fun k => .ref (ad (3 * k)))) ([.ref (ad 57), .int (nI i)]).toArray s 0 0 (fun _ => False)) (F0 m 0 ls [])
  refine lv_iload_n hx hb dX4_rowAt_0 rfl (lv_at hl 1 rfl) ?_
  refine kn_if_lt (tgt := 13) hx hb (by omega) dX4_rowAt_1 (by decide) ?_
  refine lv_iload_n hx hb dX4_rowAt_4 rfl (lv_at hl 1 rfl) ?_
  refine lv_aload_n hx hb dX4_rowAt_5 rfl (lv_at hl 0 rfl) ?_
  refine kx_grows hx hb hts hin4 hown hX (hts (.fieldLink RX4 11 "Orderlattice" "rows" "[LOrderlattice$Row;") (tm 445 (by decide +kernel) rfl)) dX4_rowAt_6 ?_
  refine kx_nrows hx hb hX  dX4_rowAt_9 ?_
  refine kn_icmp_lt (tgt := 17) hx hb (by omega) (by omega) dX4_rowAt_10 (by decide) (fun k_2 => ?_) (fun k_2 => absurd k_2 (by omega))
  refine lv_aload_n hx hb dX4_rowAt_17 rfl (lv_at hl 0 rfl) ?_
  refine kx_grows hx hb hts hin4 hown hX (hts (.fieldLink RX4 11 "Orderlattice" "rows" "[LOrderlattice$Row;") (tm 445 (by decide +kernel) rfl)) dX4_rowAt_18 ?_
  refine lv_iload_n hx hb dX4_rowAt_21 rfl (lv_at hl 1 rfl) ?_
  refine kx_lrow hx hb hX (by omega) dX4_rowAt_22 ?_
  refine lv_astore_n (lv' := [(2, .ref (ad (3 * i))), (0, .ref (ad 57)), (1, .int (nI i))]) hx hb dX4_rowAt_23 rfl hl (by decide) rfl (fun ls hl => ?_)
  refine lv_aload_n hx hb dX4_rowAt_24 rfl (lv_at hl 0 rfl) ?_
  refine lv_ifnonnull (tgt := 39) hx hb dX4_rowAt_25 (by decide) ?_
  refine lv_aload_n hx hb dX4_rowAt_39 rfl (lv_at hl 0 rfl) ?_
  exact W.aret (v := .ref (ad (3 * i))) hx hb hr (Or.inl ⟨_, rfl⟩) (Or.inr ⟨_, rfl⟩) (fun t9 ht9 hW9 => ⟨_, rfl, rfl, ht9⟩) (fun _ h => nomatch h) dX4_rowAt_40
set_option maxHeartbeats 4000000 in
set_option maxRecDepth 100000 in
theorem m_X4_orderAt (l : Launch) (dC : Nat → ClassId) (dI : Nat → Nat → Nat) (ad : Nat → Nat) (S : XS) (i : Nat) (hi : i < 4) : Met l yX4_orderAt wsX4_orderAt ({ frames := 0, cells := 0, slots := 0, locals := 0 } : Room) (va_Pc [.ref (ad 57), .int (nI i)] (PX dC dI ad S)) (va_Sr (fun k => k = i) (fun k => .ref (ad (24 + 5 * k)))) 0 0 (fun _ => False) := by
  refine Met.ofW (cc := cX4_orderAt) (maxL := 3) (ret := (some (.object "Orderlattice$Order"))) pl_X4 rfl ?_
  intro p e s m args below meth c s₁ B hml hv
  obtain ⟨rfl, hPX⟩ := hv
  have hx := B.exec
  have hb := B.bytes
  have hr := B.returns
  have hts := atoms_spec (ws := wsX4_orderAt) B.pre
  have hown : s.vm.findClass RX4 = some m.cls := findClass_of_methodNamed B.named
  have hlocks := B.notSynchronized
  have hin4 : ∀ w ∈ u_ws RX4 TX4 9, w ∈ wsX4_orderAt := tu 1328 (by decide +kernel) rfl
  have hX := WX.of hPX
  have hl := lv_entry ([.ref (ad 57), .int (nI i)]) (n := 3) (Nat.le_of_ble_eq_true rfl)
  rw [lg_entry_eq]
  generalize (lg_sl ([.ref (ad 57), .int (nI i)]) ++ List.replicate (3 - (lg_sl ([.ref (ad 57), .int (nI i)])).length) Slot.unset).toArray = ls at hl ⊢
  have hl : lv_has ls 3 [(0, .ref (ad 57)), (1, .int (nI i))] := hl
  show W p l e ({ frames := 0, cells := 0, slots := 0, locals := 0 } : Room) s m ([.ref (ad 57), .int (nI i)]).toArray below meth c s.heap [] 0 0 (MQ below (va_Sr (fun k => k = i) (fun k => .ref (ad (24 + 5 * k)))) ([.ref (ad 57), .int (nI i)]).toArray s 0 0 (fun _ => False)) (F0 m 0 ls [])
  refine lv_iload_n hx hb dX4_orderAt_0 rfl (lv_at hl 1 rfl) ?_
  refine kn_if_lt (tgt := 13) hx hb (by omega) dX4_orderAt_1 (by decide) ?_
  refine lv_iload_n hx hb dX4_orderAt_4 rfl (lv_at hl 1 rfl) ?_
  refine lv_aload_n hx hb dX4_orderAt_5 rfl (lv_at hl 0 rfl) ?_
  refine kx_gorders hx hb hts hin4 hown hX (hts (.fieldLink RX4 17 "Orderlattice" "orders" "[LOrderlattice$Order;") (tm 447 (by decide +kernel) rfl)) dX4_orderAt_6 ?_
  refine kx_norders hx hb hX  dX4_orderAt_9 ?_
  refine kn_icmp_lt (tgt := 17) hx hb (by omega) (by omega) dX4_orderAt_10 (by decide) (fun k_2 => ?_) (fun k_2 => absurd k_2 (by omega))
  refine lv_aload_n hx hb dX4_orderAt_17 rfl (lv_at hl 0 rfl) ?_
  refine kx_gorders hx hb hts hin4 hown hX (hts (.fieldLink RX4 17 "Orderlattice" "orders" "[LOrderlattice$Order;") (tm 447 (by decide +kernel) rfl)) dX4_orderAt_18 ?_
  refine lv_iload_n hx hb dX4_orderAt_21 rfl (lv_at hl 1 rfl) ?_
  refine kx_lord hx hb hX (by omega) dX4_orderAt_22 ?_
  refine lv_astore_n (lv' := [(2, .ref (ad (24 + 5 * i))), (0, .ref (ad 57)), (1, .int (nI i))]) hx hb dX4_orderAt_23 rfl hl (by decide) rfl (fun ls hl => ?_)
  refine lv_aload_n hx hb dX4_orderAt_24 rfl (lv_at hl 0 rfl) ?_
  refine lv_ifnonnull (tgt := 39) hx hb dX4_orderAt_25 (by decide) ?_
  refine lv_aload_n hx hb dX4_orderAt_39 rfl (lv_at hl 0 rfl) ?_
  exact W.aret (v := .ref (ad (24 + 5 * i))) hx hb hr (Or.inl ⟨_, rfl⟩) (Or.inr ⟨_, rfl⟩) (fun t9 ht9 hW9 => ⟨_, rfl, rfl, ht9⟩) (fun _ h => nomatch h) dX4_orderAt_40
set_option maxHeartbeats 4000000 in
set_option maxRecDepth 100000 in
theorem t_X4_rowAt (l : Launch) (hst : l.stackTraces = false) (dC : Nat → ClassId) (dI : Nat → Nat → Nat) (ad : Nat → Nat) (S : XS) (x9 : Int32) (hb9 : x9 < 0 ∨ nI 3 ≤ x9) : vx_Met l yX4_rowAt wsX4_rowAt ({ frames := 6, cells := 1, slots := 6, locals := 82 } : Room) (va_Pc [.ref (ad 57), .int x9] (PXZ dC dI ad S)) (fun _ _ _ _ => False) (XQ dC dI ad S IX) 1 6 (fun _ => False) := by
  refine vx_ofW (cc := cX4_rowAt) (maxL := 3) (ret := (some (.object "Orderlattice$Row"))) (by decide) rfl ?_
  intro p e s m args below meth c s₁ B hml hex hv
  obtain ⟨rfl, hPZ⟩ := hv
  have hPX := hPZ.1
  have hx := B.exec
  have hb := B.bytes
  have hr := B.returns
  have hts := atoms_spec (ws := wsX4_rowAt) B.pre
  have hown : s.vm.findClass RX4 = some m.cls := findClass_of_methodNamed B.named
  have hlocks := B.notSynchronized
  have hin4 : ∀ w ∈ u_ws RX4 TX4 9, w ∈ wsX4_rowAt := tu 1328 (by decide +kernel) rfl
  have hat_in : ∀ w ∈ (vx_atS RX4 306 IX xNames).filter goodWord, w ∈ wsX4_rowAt := by decide +kernel
  have hX := WX.of hPX
  have hl := lv_entry ([.ref (ad 57), .int x9]) (n := 3) (Nat.le_of_ble_eq_true rfl)
  rw [lg_entry_eq]
  generalize (lg_sl ([.ref (ad 57), .int x9]) ++ List.replicate (3 - (lg_sl ([.ref (ad 57), .int x9])).length) Slot.unset).toArray = ls at hl ⊢
  have hl : lv_has ls 3 [(0, .ref (ad 57)), (1, .int x9)] := hl
  show W p l e ({ frames := 6, cells := 1, slots := 6, locals := 82 } : Room) s m ([.ref (ad 57), .int x9]).toArray below meth c s.heap [] 0 0 (vx_MQ below (fun _ _ _ _ => False) (XQ dC dI ad S IX) ([.ref (ad 57), .int x9]).toArray s 1 6 (fun _ => False)) (F0 m 0 ls [])
  refine lv_iload_n hx hb dX4_rowAt_0 rfl (lv_at hl 1 rfl) ?_
  refine lv_if_lt (tgt := 13) hx hb dX4_rowAt_1 (by decide) (fun k_1 => ?_) (fun k_1 => ?_)
  · skip
    refine lv_null hx hb dX4_rowAt_13 ?_
    refine lv_goto (tgt := 23) hx hb dX4_rowAt_14 (by decide) ?_
    refine lv_astore_nN (lv' := [(2, .null), (0, .ref (ad 57)), (1, .int x9)]) hx hb dX4_rowAt_23 rfl hl (by decide) rfl (fun ls hl => ?_)
    refine lv_aload_nN hx hb dX4_rowAt_24 rfl (lv_at hl 0 rfl) ?_
    refine lv_ifnonnullN hx hb dX4_rowAt_25 ?_
    exact kx_throw hx hb hst hown xFitX xFitN (hts (.classLink RX4 302 IX) (tm 477 (by decide +kernel) rfl)) (hts (.initialized IX) (tm 478 (by decide +kernel) rfl)) (hPZ.2.1.2.2 (304, "no such row") (by decide)) (vx_hat (fun w hw => hts w (hat_in w hw)) xBadX_ok hPZ.2.1.badX) xGoodX hPZ.2.2 hPX (by rw [hml]; exact hl.1) dX4_rowAt_28 dX4_rowAt_31 dX4_rowAt_32 dX4_rowAt_35 dX4_rowAt_38 hex (by decide) (by decide) (by decide) (by decide) hlocks
  · skip
    refine lv_iload_n hx hb dX4_rowAt_4 rfl (lv_at hl 1 rfl) ?_
    refine lv_aload_n hx hb dX4_rowAt_5 rfl (lv_at hl 0 rfl) ?_
    refine kx_grows hx hb hts hin4 hown hX (hts (.fieldLink RX4 11 "Orderlattice" "rows" "[LOrderlattice$Row;") (tm 445 (by decide +kernel) rfl)) dX4_rowAt_6 ?_
    refine kx_nrows hx hb hX  dX4_rowAt_9 ?_
    refine lv_icmp_lt (tgt := 17) hx hb dX4_rowAt_10 (by decide) (fun k_2 => absurd k_2 (ix_no hb9 k_1)) (fun k_2 => ?_)
    refine lv_null hx hb dX4_rowAt_13 ?_
    refine lv_goto (tgt := 23) hx hb dX4_rowAt_14 (by decide) ?_
    refine lv_astore_nN (lv' := [(2, .null), (0, .ref (ad 57)), (1, .int x9)]) hx hb dX4_rowAt_23 rfl hl (by decide) rfl (fun ls hl => ?_)
    refine lv_aload_nN hx hb dX4_rowAt_24 rfl (lv_at hl 0 rfl) ?_
    refine lv_ifnonnullN hx hb dX4_rowAt_25 ?_
    exact kx_throw hx hb hst hown xFitX xFitN (hts (.classLink RX4 302 IX) (tm 477 (by decide +kernel) rfl)) (hts (.initialized IX) (tm 478 (by decide +kernel) rfl)) (hPZ.2.1.2.2 (304, "no such row") (by decide)) (vx_hat (fun w hw => hts w (hat_in w hw)) xBadX_ok hPZ.2.1.badX) xGoodX hPZ.2.2 hPX (by rw [hml]; exact hl.1) dX4_rowAt_28 dX4_rowAt_31 dX4_rowAt_32 dX4_rowAt_35 dX4_rowAt_38 hex (by decide) (by decide) (by decide) (by decide) hlocks
set_option maxHeartbeats 4000000 in
set_option maxRecDepth 100000 in
theorem t_X4_orderAt (l : Launch) (hst : l.stackTraces = false) (dC : Nat → ClassId) (dI : Nat → Nat → Nat) (ad : Nat → Nat) (S : XS) (x9 : Int32) (hb9 : x9 < 0 ∨ nI 4 ≤ x9) : vx_Met l yX4_orderAt wsX4_orderAt ({ frames := 6, cells := 1, slots := 6, locals := 82 } : Room) (va_Pc [.ref (ad 57), .int x9] (PXZ dC dI ad S)) (fun _ _ _ _ => False) (XQ dC dI ad S IX) 1 6 (fun _ => False) := by
  refine vx_ofW (cc := cX4_orderAt) (maxL := 3) (ret := (some (.object "Orderlattice$Order"))) (by decide) rfl ?_
  intro p e s m args below meth c s₁ B hml hex hv
  obtain ⟨rfl, hPZ⟩ := hv
  have hPX := hPZ.1
  have hx := B.exec
  have hb := B.bytes
  have hr := B.returns
  have hts := atoms_spec (ws := wsX4_orderAt) B.pre
  have hown : s.vm.findClass RX4 = some m.cls := findClass_of_methodNamed B.named
  have hlocks := B.notSynchronized
  have hin4 : ∀ w ∈ u_ws RX4 TX4 9, w ∈ wsX4_orderAt := tu 1328 (by decide +kernel) rfl
  have hat_in : ∀ w ∈ (vx_atS RX4 306 IX xNames).filter goodWord, w ∈ wsX4_orderAt := by decide +kernel
  have hX := WX.of hPX
  have hl := lv_entry ([.ref (ad 57), .int x9]) (n := 3) (Nat.le_of_ble_eq_true rfl)
  rw [lg_entry_eq]
  generalize (lg_sl ([.ref (ad 57), .int x9]) ++ List.replicate (3 - (lg_sl ([.ref (ad 57), .int x9])).length) Slot.unset).toArray = ls at hl ⊢
  have hl : lv_has ls 3 [(0, .ref (ad 57)), (1, .int x9)] := hl
  show W p l e ({ frames := 6, cells := 1, slots := 6, locals := 82 } : Room) s m ([.ref (ad 57), .int x9]).toArray below meth c s.heap [] 0 0 (vx_MQ below (fun _ _ _ _ => False) (XQ dC dI ad S IX) ([.ref (ad 57), .int x9]).toArray s 1 6 (fun _ => False)) (F0 m 0 ls [])
  refine lv_iload_n hx hb dX4_orderAt_0 rfl (lv_at hl 1 rfl) ?_
  refine lv_if_lt (tgt := 13) hx hb dX4_orderAt_1 (by decide) (fun k_1 => ?_) (fun k_1 => ?_)
  · skip
    refine lv_null hx hb dX4_orderAt_13 ?_
    refine lv_goto (tgt := 23) hx hb dX4_orderAt_14 (by decide) ?_
    refine lv_astore_nN (lv' := [(2, .null), (0, .ref (ad 57)), (1, .int x9)]) hx hb dX4_orderAt_23 rfl hl (by decide) rfl (fun ls hl => ?_)
    refine lv_aload_nN hx hb dX4_orderAt_24 rfl (lv_at hl 0 rfl) ?_
    refine lv_ifnonnullN hx hb dX4_orderAt_25 ?_
    exact kx_throw hx hb hst hown xFitX xFitN (hts (.classLink RX4 302 IX) (tm 477 (by decide +kernel) rfl)) (hts (.initialized IX) (tm 478 (by decide +kernel) rfl)) (hPZ.2.1.2.2 (307, "no such order") (by decide)) (vx_hat (fun w hw => hts w (hat_in w hw)) xBadX_ok hPZ.2.1.badX) xGoodX hPZ.2.2 hPX (by rw [hml]; exact hl.1) dX4_orderAt_28 dX4_orderAt_31 dX4_orderAt_32 dX4_orderAt_35 dX4_orderAt_38 hex (by decide) (by decide) (by decide) (by decide) hlocks
  · skip
    refine lv_iload_n hx hb dX4_orderAt_4 rfl (lv_at hl 1 rfl) ?_
    refine lv_aload_n hx hb dX4_orderAt_5 rfl (lv_at hl 0 rfl) ?_
    refine kx_gorders hx hb hts hin4 hown hX (hts (.fieldLink RX4 17 "Orderlattice" "orders" "[LOrderlattice$Order;") (tm 447 (by decide +kernel) rfl)) dX4_orderAt_6 ?_
    refine kx_norders hx hb hX  dX4_orderAt_9 ?_
    refine lv_icmp_lt (tgt := 17) hx hb dX4_orderAt_10 (by decide) (fun k_2 => absurd k_2 (ix_no hb9 k_1)) (fun k_2 => ?_)
    refine lv_null hx hb dX4_orderAt_13 ?_
    refine lv_goto (tgt := 23) hx hb dX4_orderAt_14 (by decide) ?_
    refine lv_astore_nN (lv' := [(2, .null), (0, .ref (ad 57)), (1, .int x9)]) hx hb dX4_orderAt_23 rfl hl (by decide) rfl (fun ls hl => ?_)
    refine lv_aload_nN hx hb dX4_orderAt_24 rfl (lv_at hl 0 rfl) ?_
    refine lv_ifnonnullN hx hb dX4_orderAt_25 ?_
    exact kx_throw hx hb hst hown xFitX xFitN (hts (.classLink RX4 302 IX) (tm 477 (by decide +kernel) rfl)) (hts (.initialized IX) (tm 478 (by decide +kernel) rfl)) (hPZ.2.1.2.2 (307, "no such order") (by decide)) (vx_hat (fun w hw => hts w (hat_in w hw)) xBadX_ok hPZ.2.1.badX) xGoodX hPZ.2.2 hPX (by rw [hml]; exact hl.1) dX4_orderAt_28 dX4_orderAt_31 dX4_orderAt_32 dX4_orderAt_35 dX4_orderAt_38 hex (by decide) (by decide) (by decide) (by decide) hlocks
set_option maxHeartbeats 4000000 in
set_option maxRecDepth 100000 in
theorem m_X4_demandPlace (l : Launch) (dC : Nat → ClassId) (dI : Nat → Nat → Nat) (ad : Nat → Nat) (S : XS) (i q : Nat) (hi : i < 8) (hn : (S.1 i).2.2 ≤ 16) (hq : q < (S.1 i).2.2) : Met l yX4_demandPlace wsX4_demandPlace ({ frames := 1, cells := 0, slots := 0, locals := 20 } : Room) (va_Pc [.ref (ad (3 * i)), .int (nI q)] (PX dC dI ad S)) (va_Sv (fun _ => True)) 0 0 (fun _ => False) := by
  refine Met.ofW (cc := cX4_demandPlace) (maxL := 2) (ret := none) pl_X4 rfl ?_
  intro p e s m args below meth c s₁ B hml hv
  obtain ⟨rfl, hPX⟩ := hv
  have hx := B.exec
  have hb := B.bytes
  have hr := B.returns
  have hts := atoms_spec (ws := wsX4_demandPlace) B.pre
  have hown : s.vm.findClass RX4 = some m.cls := findClass_of_methodNamed B.named
  have hlocks := B.notSynchronized
  have hX := WX.of hPX
  have hl := lv_entry ([.ref (ad (3 * i)), .int (nI q)]) (n := 2) (Nat.le_of_ble_eq_true rfl)
  rw [lg_entry_eq]
  generalize (lg_sl ([.ref (ad (3 * i)), .int (nI q)]) ++ List.replicate (2 - (lg_sl ([.ref (ad (3 * i)), .int (nI q)])).length) Slot.unset).toArray = ls at hl ⊢
  have hl : lv_has ls 2 [(0, .ref (ad (3 * i))), (1, .int (nI q))] := hl
  show W p l e ({ frames := 1, cells := 0, slots := 0, locals := 20 } : Room) s m ([.ref (ad (3 * i)), .int (nI q)]).toArray below meth c s.heap [] 0 0 (MQ below (va_Sv (fun _ => True)) ([.ref (ad (3 * i)), .int (nI q)]).toArray s 0 0 (fun _ => False)) (F0 m 0 ls [])
  refine lv_iload_n hx hb dX4_demandPlace_0 rfl (lv_at hl 1 rfl) ?_
  refine kn_if_lt (tgt := 12) hx hb (by omega) dX4_demandPlace_1 (by decide) ?_
  refine lv_iload_n hx hb dX4_demandPlace_4 rfl (lv_at hl 1 rfl) ?_
  refine lv_aload_n hx hb dX4_demandPlace_5 rfl (lv_at hl 0 rfl) ?_
  refine kx_cr (v := nI ((S.1 i).2.2)) (va_runV (As := []) (rest := [.int (nI q)]) ⟨hx, hb, hml, hown, hts⟩ (m_X2_length l dC dI ad S i (by omega)) (cwV 0 hts gX4_demandPlace_X2_length rfl rfl rfl hdX2_length_0 ⟨Nat.le_of_ble_eq_true rfl, Nat.le_of_ble_eq_true rfl⟩) (hX.preRow (by omega)) rfl rfl hl.1 rfl (lv_room (Nat.le_of_ble_eq_true rfl)) dX4_demandPlace_6 ⟨Nat.le_of_ble_eq_true rfl, Nat.le_of_ble_eq_true rfl⟩) (fun _ h => h) ?_
  refine kn_icmp_lt (tgt := 23) hx hb (by omega) (by omega) dX4_demandPlace_9 (by decide) (fun k_2 => ?_) (fun k_2 => absurd k_2 (by omega))
  exact W.vret hx hb hr (fun t9 ht9 hW9 => ⟨rfl, trivial, ht9⟩) (fun _ h => nomatch h) dX4_demandPlace_23
set_option maxHeartbeats 4000000 in
set_option maxRecDepth 100000 in
theorem m_X4_demandGap (l : Launch) (dC : Nat → ClassId) (dI : Nat → Nat → Nat) (ad : Nat → Nat) (S : XS) (i q : Nat) (hi : i < 8) (hn : (S.1 i).2.2 ≤ 16) (hq : q ≤ (S.1 i).2.2) : Met l yX4_demandGap wsX4_demandGap ({ frames := 1, cells := 0, slots := 0, locals := 20 } : Room) (va_Pc [.ref (ad (3 * i)), .int (nI q)] (PX dC dI ad S)) (va_Sv (fun _ => True)) 0 0 (fun _ => False) := by
  refine Met.ofW (cc := cX4_demandGap) (maxL := 2) (ret := none) pl_X4 rfl ?_
  intro p e s m args below meth c s₁ B hml hv
  obtain ⟨rfl, hPX⟩ := hv
  have hx := B.exec
  have hb := B.bytes
  have hr := B.returns
  have hts := atoms_spec (ws := wsX4_demandGap) B.pre
  have hown : s.vm.findClass RX4 = some m.cls := findClass_of_methodNamed B.named
  have hlocks := B.notSynchronized
  have hX := WX.of hPX
  have hl := lv_entry ([.ref (ad (3 * i)), .int (nI q)]) (n := 2) (Nat.le_of_ble_eq_true rfl)
  rw [lg_entry_eq]
  generalize (lg_sl ([.ref (ad (3 * i)), .int (nI q)]) ++ List.replicate (2 - (lg_sl ([.ref (ad (3 * i)), .int (nI q)])).length) Slot.unset).toArray = ls at hl ⊢
  have hl : lv_has ls 2 [(0, .ref (ad (3 * i))), (1, .int (nI q))] := hl
  show W p l e ({ frames := 1, cells := 0, slots := 0, locals := 20 } : Room) s m ([.ref (ad (3 * i)), .int (nI q)]).toArray below meth c s.heap [] 0 0 (MQ below (va_Sv (fun _ => True)) ([.ref (ad (3 * i)), .int (nI q)]).toArray s 0 0 (fun _ => False)) (F0 m 0 ls [])
  refine lv_iload_n hx hb dX4_demandGap_0 rfl (lv_at hl 1 rfl) ?_
  refine kn_if_lt (tgt := 12) hx hb (by omega) dX4_demandGap_1 (by decide) ?_
  refine lv_iload_n hx hb dX4_demandGap_4 rfl (lv_at hl 1 rfl) ?_
  refine lv_aload_n hx hb dX4_demandGap_5 rfl (lv_at hl 0 rfl) ?_
  refine kx_cr (v := nI ((S.1 i).2.2)) (va_runV (As := []) (rest := [.int (nI q)]) ⟨hx, hb, hml, hown, hts⟩ (m_X2_length l dC dI ad S i (by omega)) (cwV 0 hts gX4_demandGap_X2_length rfl rfl rfl hdX2_length_0 ⟨Nat.le_of_ble_eq_true rfl, Nat.le_of_ble_eq_true rfl⟩) (hX.preRow (by omega)) rfl rfl hl.1 rfl (lv_room (Nat.le_of_ble_eq_true rfl)) dX4_demandGap_6 ⟨Nat.le_of_ble_eq_true rfl, Nat.le_of_ble_eq_true rfl⟩) (fun _ h => h) ?_
  refine kn_icmp_le (tgt := 23) hx hb (by omega) (by omega) dX4_demandGap_9 (by decide) (fun k_2 => ?_) (fun k_2 => absurd k_2 (by omega))
  exact W.vret hx hb hr (fun t9 ht9 hW9 => ⟨rfl, trivial, ht9⟩) (fun _ h => nomatch h) dX4_demandGap_23
set_option maxHeartbeats 4000000 in
set_option maxRecDepth 100000 in
theorem t_X4_demandPlace (l : Launch) (hst : l.stackTraces = false) (dC : Nat → ClassId) (dI : Nat → Nat → Nat) (ad : Nat → Nat) (S : XS) (i : Nat) (x9 : Int32) (hi : i < 8) (hn : (S.1 i).2.2 ≤ 16) (hb9 : x9 < 0 ∨ nI (S.1 i).2.2 ≤ x9) : vx_Met l yX4_demandPlace wsX4_demandPlace ({ frames := 6, cells := 1, slots := 6, locals := 82 } : Room) (va_Pc [.ref (ad (3 * i)), .int x9] (PXZ dC dI ad S)) (fun _ _ _ _ => False) (XQ dC dI ad S IX) 1 6 (fun _ => False) := by
  refine vx_ofW (cc := cX4_demandPlace) (maxL := 2) (ret := none) (by decide) rfl ?_
  intro p e s m args below meth c s₁ B hml hex hv
  obtain ⟨rfl, hPZ⟩ := hv
  have hPX := hPZ.1
  have hx := B.exec
  have hb := B.bytes
  have hr := B.returns
  have hts := atoms_spec (ws := wsX4_demandPlace) B.pre
  have hown : s.vm.findClass RX4 = some m.cls := findClass_of_methodNamed B.named
  have hlocks := B.notSynchronized
  have hat_in : ∀ w ∈ (vx_atS RX4 306 IX xNames).filter goodWord, w ∈ wsX4_demandPlace := by decide +kernel
  have hX := WX.of hPX
  have hl := lv_entry ([.ref (ad (3 * i)), .int x9]) (n := 2) (Nat.le_of_ble_eq_true rfl)
  rw [lg_entry_eq]
  generalize (lg_sl ([.ref (ad (3 * i)), .int x9]) ++ List.replicate (2 - (lg_sl ([.ref (ad (3 * i)), .int x9])).length) Slot.unset).toArray = ls at hl ⊢
  have hl : lv_has ls 2 [(0, .ref (ad (3 * i))), (1, .int x9)] := hl
  show W p l e ({ frames := 6, cells := 1, slots := 6, locals := 82 } : Room) s m ([.ref (ad (3 * i)), .int x9]).toArray below meth c s.heap [] 0 0 (vx_MQ below (fun _ _ _ _ => False) (XQ dC dI ad S IX) ([.ref (ad (3 * i)), .int x9]).toArray s 1 6 (fun _ => False)) (F0 m 0 ls [])
  refine lv_iload_n hx hb dX4_demandPlace_0 rfl (lv_at hl 1 rfl) ?_
  refine lv_if_lt (tgt := 12) hx hb dX4_demandPlace_1 (by decide) (fun k_1 => ?_) (fun k_1 => ?_)
  · skip
    exact kx_throw hx hb hst hown xFitX xFitN (hts (.classLink RX4 302 IX) (tm 477 (by decide +kernel) rfl)) (hts (.initialized IX) (tm 478 (by decide +kernel) rfl)) (hPZ.2.1.2.2 (309, "no such place") (by decide)) (vx_hat (fun w hw => hts w (hat_in w hw)) xBadX_ok hPZ.2.1.badX) xGoodX hPZ.2.2 hPX (by rw [hml]; exact hl.1) dX4_demandPlace_12 dX4_demandPlace_15 dX4_demandPlace_16 dX4_demandPlace_19 dX4_demandPlace_22 hex (by decide) (by decide) (by decide) (by decide) hlocks
  · skip
    refine lv_iload_n hx hb dX4_demandPlace_4 rfl (lv_at hl 1 rfl) ?_
    refine lv_aload_n hx hb dX4_demandPlace_5 rfl (lv_at hl 0 rfl) ?_
    refine kx_cr (v := nI ((S.1 i).2.2)) (va_runV (As := []) (rest := [.int x9]) ⟨hx, hb, hml, hown, hts⟩ (m_X2_length l dC dI ad S i (by omega)) (cwV 0 hts gX4_demandPlace_X2_length rfl rfl rfl hdX2_length_0 ⟨Nat.le_of_ble_eq_true rfl, Nat.le_of_ble_eq_true rfl⟩) (hX.preRow (by omega)) rfl rfl hl.1 rfl (lv_room (Nat.le_of_ble_eq_true rfl)) dX4_demandPlace_6 ⟨Nat.le_of_ble_eq_true rfl, Nat.le_of_ble_eq_true rfl⟩) (fun _ h => h) ?_
    refine lv_icmp_lt (tgt := 23) hx hb dX4_demandPlace_9 (by decide) (fun k_2 => absurd k_2 (ix_no hb9 k_1)) (fun k_2 => ?_)
    exact kx_throw hx hb hst hown xFitX xFitN (hts (.classLink RX4 302 IX) (tm 477 (by decide +kernel) rfl)) (hts (.initialized IX) (tm 478 (by decide +kernel) rfl)) (hPZ.2.1.2.2 (309, "no such place") (by decide)) (vx_hat (fun w hw => hts w (hat_in w hw)) xBadX_ok hPZ.2.1.badX) xGoodX hPZ.2.2 hPX (by rw [hml]; exact hl.1) dX4_demandPlace_12 dX4_demandPlace_15 dX4_demandPlace_16 dX4_demandPlace_19 dX4_demandPlace_22 hex (by decide) (by decide) (by decide) (by decide) hlocks
set_option maxHeartbeats 4000000 in
set_option maxRecDepth 100000 in
theorem t_X4_demandGap (l : Launch) (hst : l.stackTraces = false) (dC : Nat → ClassId) (dI : Nat → Nat → Nat) (ad : Nat → Nat) (S : XS) (i : Nat) (x9 : Int32) (hi : i < 8) (hn : (S.1 i).2.2 ≤ 16) (hb9 : x9 < 0 ∨ nI (S.1 i).2.2 < x9) : vx_Met l yX4_demandGap wsX4_demandGap ({ frames := 6, cells := 1, slots := 6, locals := 82 } : Room) (va_Pc [.ref (ad (3 * i)), .int x9] (PXZ dC dI ad S)) (fun _ _ _ _ => False) (XQ dC dI ad S IX) 1 6 (fun _ => False) := by
  refine vx_ofW (cc := cX4_demandGap) (maxL := 2) (ret := none) (by decide) rfl ?_
  intro p e s m args below meth c s₁ B hml hex hv
  obtain ⟨rfl, hPZ⟩ := hv
  have hPX := hPZ.1
  have hx := B.exec
  have hb := B.bytes
  have hr := B.returns
  have hts := atoms_spec (ws := wsX4_demandGap) B.pre
  have hown : s.vm.findClass RX4 = some m.cls := findClass_of_methodNamed B.named
  have hlocks := B.notSynchronized
  have hat_in : ∀ w ∈ (vx_atS RX4 306 IX xNames).filter goodWord, w ∈ wsX4_demandGap := by decide +kernel
  have hX := WX.of hPX
  have hl := lv_entry ([.ref (ad (3 * i)), .int x9]) (n := 2) (Nat.le_of_ble_eq_true rfl)
  rw [lg_entry_eq]
  generalize (lg_sl ([.ref (ad (3 * i)), .int x9]) ++ List.replicate (2 - (lg_sl ([.ref (ad (3 * i)), .int x9])).length) Slot.unset).toArray = ls at hl ⊢
  have hl : lv_has ls 2 [(0, .ref (ad (3 * i))), (1, .int x9)] := hl
  show W p l e ({ frames := 6, cells := 1, slots := 6, locals := 82 } : Room) s m ([.ref (ad (3 * i)), .int x9]).toArray below meth c s.heap [] 0 0 (vx_MQ below (fun _ _ _ _ => False) (XQ dC dI ad S IX) ([.ref (ad (3 * i)), .int x9]).toArray s 1 6 (fun _ => False)) (F0 m 0 ls [])
  refine lv_iload_n hx hb dX4_demandGap_0 rfl (lv_at hl 1 rfl) ?_
  refine lv_if_lt (tgt := 12) hx hb dX4_demandGap_1 (by decide) (fun k_1 => ?_) (fun k_1 => ?_)
  · skip
    exact kx_throw hx hb hst hown xFitX xFitN (hts (.classLink RX4 302 IX) (tm 477 (by decide +kernel) rfl)) (hts (.initialized IX) (tm 478 (by decide +kernel) rfl)) (hPZ.2.1.2.2 (309, "no such place") (by decide)) (vx_hat (fun w hw => hts w (hat_in w hw)) xBadX_ok hPZ.2.1.badX) xGoodX hPZ.2.2 hPX (by rw [hml]; exact hl.1) dX4_demandGap_12 dX4_demandGap_15 dX4_demandGap_16 dX4_demandGap_19 dX4_demandGap_22 hex (by decide) (by decide) (by decide) (by decide) hlocks
  · skip
    refine lv_iload_n hx hb dX4_demandGap_4 rfl (lv_at hl 1 rfl) ?_
    refine lv_aload_n hx hb dX4_demandGap_5 rfl (lv_at hl 0 rfl) ?_
    refine kx_cr (v := nI ((S.1 i).2.2)) (va_runV (As := []) (rest := [.int x9]) ⟨hx, hb, hml, hown, hts⟩ (m_X2_length l dC dI ad S i (by omega)) (cwV 0 hts gX4_demandGap_X2_length rfl rfl rfl hdX2_length_0 ⟨Nat.le_of_ble_eq_true rfl, Nat.le_of_ble_eq_true rfl⟩) (hX.preRow (by omega)) rfl rfl hl.1 rfl (lv_room (Nat.le_of_ble_eq_true rfl)) dX4_demandGap_6 ⟨Nat.le_of_ble_eq_true rfl, Nat.le_of_ble_eq_true rfl⟩) (fun _ h => h) ?_
    refine lv_icmp_le (tgt := 23) hx hb dX4_demandGap_9 (by decide) (fun k_2 => absurd k_2 (ix_no2 hb9 k_1)) (fun k_2 => ?_)
    exact kx_throw hx hb hst hown xFitX xFitN (hts (.classLink RX4 302 IX) (tm 477 (by decide +kernel) rfl)) (hts (.initialized IX) (tm 478 (by decide +kernel) rfl)) (hPZ.2.1.2.2 (309, "no such place") (by decide)) (vx_hat (fun w hw => hts w (hat_in w hw)) xBadX_ok hPZ.2.1.badX) xGoodX hPZ.2.2 hPX (by rw [hml]; exact hl.1) dX4_demandGap_12 dX4_demandGap_15 dX4_demandGap_16 dX4_demandGap_19 dX4_demandGap_22 hex (by decide) (by decide) (by decide) (by decide) hlocks
set_option maxHeartbeats 4000000 in
set_option maxRecDepth 100000 in
theorem m_X4_demandWithin (l : Launch) (dC : Nat → ClassId) (dI : Nat → Nat → Nat) (ad : Nat → Nat) (S : XS) (k g : Nat) (hg : g < 1000) (hk : k ≤ g) : Met l yX4_demandWithin wsX4_demandWithin ({ frames := 0, cells := 0, slots := 0, locals := 0 } : Room) (va_Pc [.int (nI k), .int (nI g)] (PX dC dI ad S)) (va_Sv (fun _ => True)) 0 0 (fun _ => False) := by
  refine Met.ofW (cc := cX4_demandWithin) (maxL := 2) (ret := none) pl_X4 rfl ?_
  intro p e s m args below meth c s₁ B hml hv
  obtain ⟨rfl, hPX⟩ := hv
  have hx := B.exec
  have hb := B.bytes
  have hr := B.returns
  have hts := atoms_spec (ws := wsX4_demandWithin) B.pre
  have hown : s.vm.findClass RX4 = some m.cls := findClass_of_methodNamed B.named
  have hlocks := B.notSynchronized
  have hX := WX.of hPX
  have hl := lv_entry ([.int (nI k), .int (nI g)]) (n := 2) (Nat.le_of_ble_eq_true rfl)
  rw [lg_entry_eq]
  generalize (lg_sl ([.int (nI k), .int (nI g)]) ++ List.replicate (2 - (lg_sl ([.int (nI k), .int (nI g)])).length) Slot.unset).toArray = ls at hl ⊢
  have hl : lv_has ls 2 [(0, .int (nI k)), (1, .int (nI g))] := hl
  show W p l e ({ frames := 0, cells := 0, slots := 0, locals := 0 } : Room) s m ([.int (nI k), .int (nI g)]).toArray below meth c s.heap [] 0 0 (MQ below (va_Sv (fun _ => True)) ([.int (nI k), .int (nI g)]).toArray s 0 0 (fun _ => False)) (F0 m 0 ls [])
  refine lv_iload_n hx hb dX4_demandWithin_0 rfl (lv_at hl 0 rfl) ?_
  refine kn_if_lt (tgt := 9) hx hb (by omega) dX4_demandWithin_1 (by decide) ?_
  refine lv_iload_n hx hb dX4_demandWithin_4 rfl (lv_at hl 0 rfl) ?_
  refine lv_iload_n hx hb dX4_demandWithin_5 rfl (lv_at hl 1 rfl) ?_
  refine kn_icmp_le (tgt := 20) hx hb (by omega) (by omega) dX4_demandWithin_6 (by decide) (fun k_2 => ?_) (fun k_2 => absurd k_2 (by omega))
  exact W.vret hx hb hr (fun t9 ht9 hW9 => ⟨rfl, trivial, ht9⟩) (fun _ h => nomatch h) dX4_demandWithin_20
set_option maxHeartbeats 4000000 in
set_option maxRecDepth 100000 in
theorem t_X4_demandWithin (l : Launch) (hst : l.stackTraces = false) (dC : Nat → ClassId) (dI : Nat → Nat → Nat) (ad : Nat → Nat) (S : XS) (x9 : Int32) (g : Nat) (hg : g < 1000) (hb9 : x9 < 0 ∨ nI g < x9) : vx_Met l yX4_demandWithin wsX4_demandWithin ({ frames := 6, cells := 1, slots := 6, locals := 82 } : Room) (va_Pc [.int x9, .int (nI g)] (PXZ dC dI ad S)) (fun _ _ _ _ => False) (XQ dC dI ad S IA) 1 6 (fun _ => False) := by
  refine vx_ofW (cc := cX4_demandWithin) (maxL := 2) (ret := none) (by decide) rfl ?_
  intro p e s m args below meth c s₁ B hml hex hv
  obtain ⟨rfl, hPZ⟩ := hv
  have hPX := hPZ.1
  have hx := B.exec
  have hb := B.bytes
  have hr := B.returns
  have hts := atoms_spec (ws := wsX4_demandWithin) B.pre
  have hown : s.vm.findClass RX4 = some m.cls := findClass_of_methodNamed B.named
  have hlocks := B.notSynchronized
  have hat_in : ∀ w ∈ (vx_atS RX4 140 IA xNames).filter goodWord, w ∈ wsX4_demandWithin := by decide +kernel
  have hX := WX.of hPX
  have hl := lv_entry ([.int x9, .int (nI g)]) (n := 2) (Nat.le_of_ble_eq_true rfl)
  rw [lg_entry_eq]
  generalize (lg_sl ([.int x9, .int (nI g)]) ++ List.replicate (2 - (lg_sl ([.int x9, .int (nI g)])).length) Slot.unset).toArray = ls at hl ⊢
  have hl : lv_has ls 2 [(0, .int x9), (1, .int (nI g))] := hl
  show W p l e ({ frames := 6, cells := 1, slots := 6, locals := 82 } : Room) s m ([.int x9, .int (nI g)]).toArray below meth c s.heap [] 0 0 (vx_MQ below (fun _ _ _ _ => False) (XQ dC dI ad S IA) ([.int x9, .int (nI g)]).toArray s 1 6 (fun _ => False)) (F0 m 0 ls [])
  refine lv_iload_n hx hb dX4_demandWithin_0 rfl (lv_at hl 0 rfl) ?_
  refine lv_if_lt (tgt := 9) hx hb dX4_demandWithin_1 (by decide) (fun k_1 => ?_) (fun k_1 => ?_)
  · skip
    exact kx_throw hx hb hst hown xFitA xFitN (hts (.classLink RX4 136 IA) (tm 485 (by decide +kernel) rfl)) (hts (.initialized IA) (tm 486 (by decide +kernel) rfl)) (hPZ.2.1.2.2 (311, "a number is out of its bounds") (by decide)) (vx_hat (fun w hw => hts w (hat_in w hw)) xBadA_ok hPZ.2.1.badA) xGoodA hPZ.2.2 hPX (by rw [hml]; exact hl.1) dX4_demandWithin_9 dX4_demandWithin_12 dX4_demandWithin_13 dX4_demandWithin_16 dX4_demandWithin_19 hex (by decide) (by decide) (by decide) (by decide) hlocks
  · skip
    refine lv_iload_n hx hb dX4_demandWithin_4 rfl (lv_at hl 0 rfl) ?_
    refine lv_iload_n hx hb dX4_demandWithin_5 rfl (lv_at hl 1 rfl) ?_
    refine lv_icmp_le (tgt := 20) hx hb dX4_demandWithin_6 (by decide) (fun k_2 => absurd k_2 (ix_no2 hb9 k_1)) (fun k_2 => ?_)
    exact kx_throw hx hb hst hown xFitA xFitN (hts (.classLink RX4 136 IA) (tm 485 (by decide +kernel) rfl)) (hts (.initialized IA) (tm 486 (by decide +kernel) rfl)) (hPZ.2.1.2.2 (311, "a number is out of its bounds") (by decide)) (vx_hat (fun w hw => hts w (hat_in w hw)) xBadA_ok hPZ.2.1.badA) xGoodA hPZ.2.2 hPX (by rw [hml]; exact hl.1) dX4_demandWithin_9 dX4_demandWithin_12 dX4_demandWithin_13 dX4_demandWithin_16 dX4_demandWithin_19 hex (by decide) (by decide) (by decide) (by decide) hlocks
set_option maxHeartbeats 4000000 in
set_option maxRecDepth 100000 in
theorem m_X4_demandValue (l : Launch) (dC : Nat → ClassId) (dI : Nat → Nat → Nat) (ad : Nat → Nat) (S : XS) (k : Nat) (hk : k < 16) : Met l yX4_demandValue wsX4_demandValue ({ frames := 1, cells := 0, slots := 0, locals := 21 } : Room) (va_Pc [.int (nI k)] (PX dC dI ad S)) (va_Sv (fun _ => True)) 0 0 (fun _ => False) := by
  refine Met.ofW (cc := cX4_demandValue) (maxL := 1) (ret := none) pl_X4 rfl ?_
  intro p e s m args below meth c s₁ B hml hv
  obtain ⟨rfl, hPX⟩ := hv
  have hx := B.exec
  have hb := B.bytes
  have hr := B.returns
  have hts := atoms_spec (ws := wsX4_demandValue) B.pre
  have hown : s.vm.findClass RX4 = some m.cls := findClass_of_methodNamed B.named
  have hlocks := B.notSynchronized
  have hX := WX.of hPX
  have hl := lv_entry ([.int (nI k)]) (n := 1) (Nat.le_of_ble_eq_true rfl)
  rw [lg_entry_eq]
  generalize (lg_sl ([.int (nI k)]) ++ List.replicate (1 - (lg_sl ([.int (nI k)])).length) Slot.unset).toArray = ls at hl ⊢
  have hl : lv_has ls 1 [(0, .int (nI k))] := hl
  show W p l e ({ frames := 1, cells := 0, slots := 0, locals := 21 } : Room) s m ([.int (nI k)]).toArray below meth c s.heap [] 0 0 (MQ below (va_Sv (fun _ => True)) ([.int (nI k)]).toArray s 0 0 (fun _ => False)) (F0 m 0 ls [])
  refine lv_iload_n hx hb dX4_demandValue_0 rfl (lv_at hl 0 rfl) ?_
  refine lv_bipush (v := nI 15) hx hb dX4_demandValue_1 (by decide) ?_
  refine va_csv (va_Run.run (va_runS (As := [.int (nI k), .int (nI 15)]) (rest := []) ⟨hx, hb, hml, hown, hts⟩ (m_X4_demandWithin l dC dI ad S k 15 (by omega) (by omega)) (va_cwS 2 hts gX4_demandValue_X4_demandWithin rfl rfl rfl hdX4_demandWithin_2.2 ⟨Nat.le_of_ble_eq_true rfl, Nat.le_of_ble_eq_true rfl⟩) hX.preS rfl rfl hl.1 rfl (lv_room (Nat.le_of_ble_eq_true rfl)) dX4_demandValue_3 ⟨Nat.le_of_ble_eq_true rfl, Nat.le_of_ble_eq_true rfl⟩)) (fun _ => ?_)
  exact W.vret hx hb hr (fun t9 ht9 hW9 => ⟨rfl, trivial, ht9⟩) (fun _ h => nomatch h) dX4_demandValue_6
set_option maxHeartbeats 4000000 in
set_option maxRecDepth 100000 in
theorem t_X4_demandValue (l : Launch) (hst : l.stackTraces = false) (dC : Nat → ClassId) (dI : Nat → Nat → Nat) (ad : Nat → Nat) (S : XS) (x9 : Int32) (hb9 : x9 < 0 ∨ nI 15 < x9) : vx_Met l yX4_demandValue wsX4_demandValue ({ frames := 7, cells := 1, slots := 6, locals := 103 } : Room) (va_Pc [.int x9] (PXZ dC dI ad S)) (fun _ _ _ _ => False) (XQ dC dI ad S IA) 1 6 (fun _ => False) := by
  refine vx_ofW (cc := cX4_demandValue) (maxL := 1) (ret := none) (by decide) rfl ?_
  intro p e s m args below meth c s₁ B hml hex hv
  obtain ⟨rfl, hPZ⟩ := hv
  have hPX := hPZ.1
  have hx := B.exec
  have hb := B.bytes
  have hr := B.returns
  have hts := atoms_spec (ws := wsX4_demandValue) B.pre
  have hown : s.vm.findClass RX4 = some m.cls := findClass_of_methodNamed B.named
  have hlocks := B.notSynchronized
  have hX := WX.of hPX
  have hl := lv_entry ([.int x9]) (n := 1) (Nat.le_of_ble_eq_true rfl)
  rw [lg_entry_eq]
  generalize (lg_sl ([.int x9]) ++ List.replicate (1 - (lg_sl ([.int x9])).length) Slot.unset).toArray = ls at hl ⊢
  have hl : lv_has ls 1 [(0, .int x9)] := hl
  show W p l e ({ frames := 7, cells := 1, slots := 6, locals := 103 } : Room) s m ([.int x9]).toArray below meth c s.heap [] 0 0 (vx_MQ below (fun _ _ _ _ => False) (XQ dC dI ad S IA) ([.int x9]).toArray s 1 6 (fun _ => False)) (F0 m 0 ls [])
  refine lv_iload_n hx hb dX4_demandValue_0 rfl (lv_at hl 0 rfl) ?_
  refine lv_bipush (v := nI 15) hx hb dX4_demandValue_1 (by decide) ?_
  exact kx_pass (vx_runS (As := [.int x9, .int (nI 15)]) (rest := []) ⟨hx, hb, hml, hown, hts⟩ (t_X4_demandWithin l hst dC dI ad S x9 15 (by omega) hb9) (va_cwS 2 hts gX4_demandValue_X4_demandWithin rfl rfl rfl hdX4_demandWithin_2.2 ⟨Nat.le_of_ble_eq_true rfl, Nat.le_of_ble_eq_true rfl⟩) hPZ.preS rfl rfl hl.1 rfl (lv_room (Nat.le_of_ble_eq_true rfl)) dX4_demandValue_3 ⟨Nat.le_of_ble_eq_true rfl, Nat.le_of_ble_eq_true rfl⟩) hPX hex hlocks
set_option maxHeartbeats 4000000 in
set_option maxRecDepth 100000 in
theorem m_X4_refuse (l : Launch) (dC : Nat → ClassId) (dI : Nat → Nat → Nat) (ad : Nat → Nat) (S : XS) : Met l yX4_refuse wsX4_refuse ({ frames := 0, cells := 0, slots := 0, locals := 0 } : Room) (va_Pc [.ref (ad 57)] (PX dC dI ad S)) (va_Qi (fun r S' => r = -9 ∧ S' = xN S (S.2.2.1, S.2.2.2.1 + 1, S.2.2.2.2)) (PX dC dI ad) (AX ad)) 0 0 (AX ad) := by
  refine Met.ofW (cc := cX4_refuse) (maxL := 1) (ret := (some .int)) pl_X4 rfl ?_
  intro p e s m args below meth c s₁ B hml hv
  obtain ⟨rfl, hPX⟩ := hv
  have hx := B.exec
  have hb := B.bytes
  have hr := B.returns
  have hts := atoms_spec (ws := wsX4_refuse) B.pre
  have hown : s.vm.findClass RX4 = some m.cls := findClass_of_methodNamed B.named
  have hlocks := B.notSynchronized
  have hin4 : ∀ w ∈ u_ws RX4 TX4 9, w ∈ wsX4_refuse := tu 1328 (by decide +kernel) rfl
  have hX := WX.of hPX
  have hl := lv_entry ([.ref (ad 57)]) (n := 1) (Nat.le_of_ble_eq_true rfl)
  rw [lg_entry_eq]
  generalize (lg_sl ([.ref (ad 57)]) ++ List.replicate (1 - (lg_sl ([.ref (ad 57)])).length) Slot.unset).toArray = ls at hl ⊢
  have hl : lv_has ls 1 [(0, .ref (ad 57))] := hl
  show W p l e ({ frames := 0, cells := 0, slots := 0, locals := 0 } : Room) s m ([.ref (ad 57)]).toArray below meth c s.heap [] 0 0 (MQ below (va_Qi (fun r S' => r = -9 ∧ S' = xN S (S.2.2.1, S.2.2.2.1 + 1, S.2.2.2.2)) (PX dC dI ad) (AX ad)) ([.ref (ad 57)]).toArray s 0 0 (AX ad)) (F0 m 0 ls [])
  refine lv_aload_n hx hb dX4_refuse_0 rfl (lv_at hl 0 rfl) ?_
  refine lv_dup hx hb dX4_refuse_1 rfl ?_
  refine kx_gref (n := S.2.2.2.1) hx hb hts hin4 hown hX rfl (hts (.fieldLink RX4 49 "Orderlattice" "refusals" "I") (tm 456 (by decide +kernel) rfl)) dX4_refuse_2 ?_
  refine lv_iconst (v := nI 1) hx hb dX4_refuse_5 (by decide) ?_
  refine kn_iadd hx hb dX4_refuse_6 ?_
  refine kx_pref (S' := (xN S (S.2.2.1, S.2.2.2.1 + 1, S.2.2.2.2))) hx hb hts hin4 hown hX rfl (hts (.fieldLink RX4 49 "Orderlattice" "refusals" "I") (tm 456 (by decide +kernel) rfl)) dX4_refuse_7 (fun H locs hX => ?_)
  refine lv_bipush (v := (-9)) hx hb dX4_refuse_10 (by decide) ?_
  exact W.iret (v := (-9)) hx hb hr (fun t9 ht9 hW9 => ⟨⟨_, (xN S (S.2.2.1, S.2.2.2.1 + 1, S.2.2.2.2)), rfl, ⟨rfl, rfl⟩, hX.P ht9 hW9⟩, hX.2.2.2.F ht9⟩) hX.2.2.2.2.2 dX4_refuse_12
set_option maxHeartbeats 4000000 in
set_option maxRecDepth 100000 in
theorem m_X4_nextMark (l : Launch) (dC : Nat → ClassId) (dI : Nat → Nat → Nat) (ad : Nat → Nat) (S : XS) : Met l yX4_nextMark wsX4_nextMark ({ frames := 0, cells := 0, slots := 0, locals := 0 } : Room) (va_Pc [.ref (ad 57)] (PX dC dI ad S)) (va_Qi (fun r S' => r = nI S.2.2.1 ∧ S' = xN S (S.2.2.1 + 1, S.2.2.2.1, S.2.2.2.2)) (PX dC dI ad) (AX ad)) 0 0 (AX ad) := by
  refine Met.ofW (cc := cX4_nextMark) (maxL := 2) (ret := (some .int)) pl_X4 rfl ?_
  intro p e s m args below meth c s₁ B hml hv
  obtain ⟨rfl, hPX⟩ := hv
  have hx := B.exec
  have hb := B.bytes
  have hr := B.returns
  have hts := atoms_spec (ws := wsX4_nextMark) B.pre
  have hown : s.vm.findClass RX4 = some m.cls := findClass_of_methodNamed B.named
  have hlocks := B.notSynchronized
  have hin4 : ∀ w ∈ u_ws RX4 TX4 9, w ∈ wsX4_nextMark := tu 1328 (by decide +kernel) rfl
  have hX := WX.of hPX
  have hl := lv_entry ([.ref (ad 57)]) (n := 2) (Nat.le_of_ble_eq_true rfl)
  rw [lg_entry_eq]
  generalize (lg_sl ([.ref (ad 57)]) ++ List.replicate (2 - (lg_sl ([.ref (ad 57)])).length) Slot.unset).toArray = ls at hl ⊢
  have hl : lv_has ls 2 [(0, .ref (ad 57))] := hl
  show W p l e ({ frames := 0, cells := 0, slots := 0, locals := 0 } : Room) s m ([.ref (ad 57)]).toArray below meth c s.heap [] 0 0 (MQ below (va_Qi (fun r S' => r = nI S.2.2.1 ∧ S' = xN S (S.2.2.1 + 1, S.2.2.2.1, S.2.2.2.2)) (PX dC dI ad) (AX ad)) ([.ref (ad 57)]).toArray s 0 0 (AX ad)) (F0 m 0 ls [])
  refine lv_aload_n hx hb dX4_nextMark_0 rfl (lv_at hl 0 rfl) ?_
  refine kx_gput (n := S.2.2.1) hx hb hts hin4 hown hX rfl (hts (.fieldLink RX4 45 "Orderlattice" "marksGiven" "I") (tm 455 (by decide +kernel) rfl)) dX4_nextMark_1 ?_
  refine lv_istore_n (lv' := [(1, .int (nI S.2.2.1)), (0, .ref (ad 57))]) hx hb dX4_nextMark_4 rfl hl (by decide) rfl (fun ls hl => ?_)
  refine lv_aload_n hx hb dX4_nextMark_5 rfl (lv_at hl 1 rfl) ?_
  refine lv_dup hx hb dX4_nextMark_6 rfl ?_
  refine kx_gput (n := S.2.2.1) hx hb hts hin4 hown hX rfl (hts (.fieldLink RX4 45 "Orderlattice" "marksGiven" "I") (tm 455 (by decide +kernel) rfl)) dX4_nextMark_7 ?_
  refine lv_iconst (v := nI 1) hx hb dX4_nextMark_10 (by decide) ?_
  refine kn_iadd hx hb dX4_nextMark_11 ?_
  refine kx_pput (S' := (xN S (S.2.2.1 + 1, S.2.2.2.1, S.2.2.2.2))) hx hb hts hin4 hown hX rfl (hts (.fieldLink RX4 45 "Orderlattice" "marksGiven" "I") (tm 455 (by decide +kernel) rfl)) dX4_nextMark_12 (fun H locs hX => ?_)
  refine lv_iload_n hx hb dX4_nextMark_15 rfl (lv_at hl 0 rfl) ?_
  exact W.iret (v := nI S.2.2.1) hx hb hr (fun t9 ht9 hW9 => ⟨⟨_, (xN S (S.2.2.1 + 1, S.2.2.2.1, S.2.2.2.2)), rfl, ⟨rfl, rfl⟩, hX.P ht9 hW9⟩, hX.2.2.2.F ht9⟩) hX.2.2.2.2.2 dX4_nextMark_16
set_option maxHeartbeats 4000000 in
set_option maxRecDepth 100000 in
theorem m_X4_knock (l : Launch) (dC : Nat → ClassId) (dI : Nat → Nat → Nat) (ad : Nat → Nat) (S : XS) : Met l yX4_knock wsX4_knock ({ frames := 0, cells := 0, slots := 0, locals := 0 } : Room) (va_Pc [.ref (ad 57)] (PX dC dI ad S)) (va_Qi (fun r S' => r = nI (S.2.2.2.2 + 1) ∧ S' = xN S (S.2.2.1, S.2.2.2.1, S.2.2.2.2 + 1)) (PX dC dI ad) (AX ad)) 0 0 (AX ad) := by
  refine Met.ofW (cc := cX4_knock) (maxL := 1) (ret := (some .int)) pl_X4 rfl ?_
  intro p e s m args below meth c s₁ B hml hv
  obtain ⟨rfl, hPX⟩ := hv
  have hx := B.exec
  have hb := B.bytes
  have hr := B.returns
  have hts := atoms_spec (ws := wsX4_knock) B.pre
  have hown : s.vm.findClass RX4 = some m.cls := findClass_of_methodNamed B.named
  have hlocks := B.notSynchronized
  have hin4 : ∀ w ∈ u_ws RX4 TX4 9, w ∈ wsX4_knock := tu 1328 (by decide +kernel) rfl
  have hX := WX.of hPX
  have hl := lv_entry ([.ref (ad 57)]) (n := 1) (Nat.le_of_ble_eq_true rfl)
  rw [lg_entry_eq]
  generalize (lg_sl ([.ref (ad 57)]) ++ List.replicate (1 - (lg_sl ([.ref (ad 57)])).length) Slot.unset).toArray = ls at hl ⊢
  have hl : lv_has ls 1 [(0, .ref (ad 57))] := hl
  show W p l e ({ frames := 0, cells := 0, slots := 0, locals := 0 } : Room) s m ([.ref (ad 57)]).toArray below meth c s.heap [] 0 0 (MQ below (va_Qi (fun r S' => r = nI (S.2.2.2.2 + 1) ∧ S' = xN S (S.2.2.1, S.2.2.2.1, S.2.2.2.2 + 1)) (PX dC dI ad) (AX ad)) ([.ref (ad 57)]).toArray s 0 0 (AX ad)) (F0 m 0 ls [])
  refine lv_aload_n hx hb dX4_knock_0 rfl (lv_at hl 0 rfl) ?_
  refine lv_dup hx hb dX4_knock_1 rfl ?_
  refine kx_gkno (n := S.2.2.2.2) hx hb hts hin4 hown hX rfl (hts (.fieldLink RX4 52 "Orderlattice" "knocks" "I") (tm 457 (by decide +kernel) rfl)) dX4_knock_2 ?_
  refine lv_iconst (v := nI 1) hx hb dX4_knock_5 (by decide) ?_
  refine kn_iadd hx hb dX4_knock_6 ?_
  refine kx_pkno (S' := (xN S (S.2.2.1, S.2.2.2.1, S.2.2.2.2 + 1))) hx hb hts hin4 hown hX rfl (hts (.fieldLink RX4 52 "Orderlattice" "knocks" "I") (tm 457 (by decide +kernel) rfl)) dX4_knock_7 (fun H locs hX => ?_)
  refine lv_aload_n hx hb dX4_knock_10 rfl (lv_at hl 0 rfl) ?_
  refine kx_gkno (n := S.2.2.2.2 + 1) hx hb hts hin4 hown hX rfl (hts (.fieldLink RX4 52 "Orderlattice" "knocks" "I") (tm 457 (by decide +kernel) rfl)) dX4_knock_11 ?_
  exact W.iret (v := nI (S.2.2.2.2 + 1)) hx hb hr (fun t9 ht9 hW9 => ⟨⟨_, (xN S (S.2.2.1, S.2.2.2.1, S.2.2.2.2 + 1)), rfl, ⟨rfl, rfl⟩, hX.P ht9 hW9⟩, hX.2.2.2.F ht9⟩) hX.2.2.2.2.2 dX4_knock_14
