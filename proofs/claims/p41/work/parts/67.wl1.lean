set_option maxHeartbeats 4000000 in
set_option maxRecDepth 100000 in
theorem m_L_put (l : Launch) (hst : l.stackTraces = false) (dC : Nat → ClassId) (dI : Nat → Nat → Nat) (cB : ClassId) (ad : Nat → Nat) (o : Nat) (S : XS) (x0 : Int32) (x1 : Int32) (hI : InvX S) (h5 : ∀ j, j < 4 → (S.2.1 j).2.2.2.2.1 ≤ 5) (hc : S.2.2.1 + 12 < 1000000) : Met l yL_put wsL_put ({ frames := 9, cells := 1, slots := 6, locals := 146 } : Room) (va_Pc [.ref (ad 57), .int x0, .int x1, .ref o] (PW dC dI cB ad o S)) (va_Qi (fun r S1 => LQ S S1) (PO dC dI ad o) (AO ad o)) 1 6 (AO ad o) := by
  refine va_MetW (cc := cL_put) (maxL := 5) (ret := (some .int)) (by decide +kernel) rfl ?_
  intro p e s m args below meth c s₁ B hml hv
  obtain ⟨rfl, hPW⟩ := hv
  have hx := B.exec
  have hb := B.bytes
  have hr := B.returns
  have hts := atoms_spec (ws := wsL_put) B.pre
  have htab := vx_table (x := yL_put) B (hts (.codeWith yL_put cL_put 5 (some .int) [(0, 11, 14, 19), (0, 11, 18, 21)]) (by unfold wsL_put; exact List.mem_cons_self))
  have hown : s.vm.findClass RL = some m.cls := findClass_of_methodNamed B.named
  have hlocks := B.notSynchronized
  have hin5 : ∀ w ∈ u_ws RX5 TX5 2, w ∈ wsL_put := by decide +kernel
  have hX := WX.ofW hPW
  have hO := hPW.2.2.1
  have hno := hPW.2.2.2.1
  have hl := lv_entry ([.ref (ad 57), .int x0, .int x1, .ref o]) (n := 5) (Nat.le_of_ble_eq_true rfl)
  rw [lg_entry_eq]
  generalize (lg_sl ([.ref (ad 57), .int x0, .int x1, .ref o]) ++ List.replicate (5 - (lg_sl ([.ref (ad 57), .int x0, .int x1, .ref o])).length) Slot.unset).toArray = ls at hl ⊢
  have hl : lv_has ls 5 [(0, .ref (ad 57)), (1, .int x0), (2, .int x1), (3, .ref o)] := hl
  show W p l e ({ frames := 9, cells := 1, slots := 6, locals := 146 } : Room) s m ([.ref (ad 57), .int x0, .int x1, .ref o]).toArray below meth c s.heap [] 0 0 (MQ below (va_Qi (fun r S1 => LQ S S1) (PO dC dI ad o) (AO ad o)) ([.ref (ad 57), .int x0, .int x1, .ref o]).toArray s 1 6 (AO ad o)) (F0 m 0 ls [])
  refine lv_aload_n hx hb dL_put_0 rfl (lv_at hl 3 rfl) ?_
  refine lv_aload_n hx hb dL_put_1 rfl (lv_at hl 0 rfl) ?_
  refine lv_iload_n hx hb dL_put_2 rfl (lv_at hl 1 rfl) ?_
  refine lv_iload_n hx hb dL_put_3 rfl (lv_at hl 2 rfl) ?_
  rcases lim_lt 3 (by decide) x0 with ⟨i, hi, rfl⟩ | hb9
  rotate_left
  · skip
    refine kl_throw (vx_runV (As := [.int x0, .int x1]) (rest := [.ref o]) ⟨hx, hb, hml, hown, hts⟩ (t_X4_put_1 l hst dC dI ad S x0 x1 hb9) (cwV 2 hts gL_put_X4_put rfl rfl rfl (by decide +kernel) ⟨Nat.le_of_ble_eq_true rfl, Nat.le_of_ble_eq_true rfl⟩) hPW.1.preX rfl rfl hl.1 rfl (lv_room (Nat.le_of_ble_eq_true rfl)) dL_put_4 ⟨Nat.le_of_ble_eq_true rfl, Nat.le_of_ble_eq_true rfl⟩) hX hO (fun ce q9 H hq1 hq2 hq3 hX hO => ?_)
    refine vx_catch hown [] ⟨0, 11, 14, 19⟩ [⟨0, 11, 18, 21⟩] (htab.trans rfl) (fun _ h => nomatch h) rfl (by decide) (hts (.classLink RL 19 IX) (by decide +kernel)) (va_Nw.use rfl hPW.1.2.1.2.1.1) hq1 hq2 hq3 ?_
    refine lv_astore (lv' := [(4, .ref q9), (0, .ref (ad 57)), (1, .int x0), (2, .int x1), (3, .ref o)]) hx hb dL_put_14 hl (by decide) rfl (fun ls hl => ?_)
    refine lv_iconst (v := nI 1) hx hb dL_put_16 (by decide) ?_
    exact W.widen (k := 1) (n := 6) (by simp) (by simp) (W.iret (v := nI 1) hx hb hr (fun t9 ht9 hW9 => ⟨⟨_, S, rfl, LQ_same hI h5, hX.P ht9 hW9, by rw [ht9]; exact hO⟩, hX.2.2.2.F ht9⟩) hX.2.2.2.2.2 dL_put_17)
  replace hi : i < 3 := by omega
  have hn := (hI.1 i (by omega)).1
  rcases lim_le 15 (by decide) x1 with ⟨v, hv, rfl⟩ | hb9
  rotate_left
  · skip
    refine kl_throw (vx_runV (As := [.int (nI i), .int x1]) (rest := [.ref o]) ⟨hx, hb, hml, hown, hts⟩ (t_X4_put_2 l hst dC dI ad S i x1 hi hb9) (cwV 2 hts gL_put_X4_put rfl rfl rfl (by decide +kernel) ⟨Nat.le_of_ble_eq_true rfl, Nat.le_of_ble_eq_true rfl⟩) hPW.1.preX rfl rfl hl.1 rfl (lv_room (Nat.le_of_ble_eq_true rfl)) dL_put_4 ⟨Nat.le_of_ble_eq_true rfl, Nat.le_of_ble_eq_true rfl⟩) hX hO (fun ce q9 H hq1 hq2 hq3 hX hO => ?_)
    refine vx_catch hown [⟨0, 11, 14, 19⟩] ⟨0, 11, 18, 21⟩ [] (htab.trans rfl) (fun z hz => by rw [List.mem_singleton.mp hz]; exact Or.inr ⟨by decide, IX, hts (.classLink RL 19 IX) (by decide +kernel), hPW.2.2.2.2.1⟩) rfl (by decide) (hts (.classLink RL 21 IA) (by decide +kernel)) (va_Nw.use rfl hPW.1.2.1.2.1.2) hq1 hq2 hq3 ?_
    refine lv_astore (lv' := [(4, .ref q9), (0, .ref (ad 57)), (1, .int (nI i)), (2, .int x1), (3, .ref o)]) hx hb dL_put_18 hl (by decide) rfl (fun ls hl => ?_)
    refine lv_iconst (v := nI 2) hx hb dL_put_20 (by decide) ?_
    exact W.widen (k := 1) (n := 6) (by simp) (by simp) (W.iret (v := nI 2) hx hb hr (fun t9 ht9 hW9 => ⟨⟨_, S, rfl, LQ_same hI h5, hX.P ht9 hW9, by rw [ht9]; exact hO⟩, hX.2.2.2.F ht9⟩) hX.2.2.2.2.2 dL_put_21)
  replace hv : v < 16 := by omega
  refine kl_ci (va_runV (As := [.int (nI i), .int (nI v)]) (rest := [.ref o]) ⟨hx, hb, hml, hown, hts⟩ (m_X4_put l dC dI ad S i v hi hv hI) (cwV 2 hts gL_put_X4_put rfl rfl rfl (by decide +kernel) ⟨Nat.le_of_ble_eq_true rfl, Nat.le_of_ble_eq_true rfl⟩) (hX.preTop 57 6 (by decide) (by decide) rfl rfl) rfl rfl hl.1 rfl (lv_room (Nat.le_of_ble_eq_true rfl)) dL_put_4 ⟨Nat.le_of_ble_eq_true rfl, Nat.le_of_ble_eq_true rfl⟩) hX hO hno (fun r9 S1 H locs hw hX hO => ?_)
  have hLQ : LQ S S1 := LQ_put hI h5 hc hi hv hw
  refine lv_i2l (v := r9.toInt64) hx hb dL_put_7 rfl ?_
  refine kl_put hx hb hts hin5 hown hX hO hno 0 (by decide) (host := "OrderlatticeLaw") (va_Nw.use rfl hPW.2.2.2.2.2.1) (ty := .long) rfl rfl rfl (Or.inl ⟨rfl, _, rfl⟩) dL_put_8 (fun H locs hX hO => ?_)
  refine lv_goto (tgt := 22) hx hb dL_put_11 (by decide) ?_
  refine lv_iconst (v := nI 0) hx hb dL_put_22 (by decide) ?_
  exact W.widen (k := 1) (n := 6) (by simp) (by simp) (W.iret (v := nI 0) hx hb hr (fun t9 ht9 hW9 => ⟨⟨_, S1, rfl, hLQ, hX.P ht9 hW9, by rw [ht9]; exact hO⟩, hX.2.2.2.F ht9⟩) hX.2.2.2.2.2 dL_put_23)
set_option maxHeartbeats 4000000 in
set_option maxRecDepth 100000 in
theorem m_L_isSorted (l : Launch) (hst : l.stackTraces = false) (dC : Nat → ClassId) (dI : Nat → Nat → Nat) (cB : ClassId) (ad : Nat → Nat) (o : Nat) (S : XS) (x0 : Int32) (x1 : Int32) (hI : InvX S) (h5 : ∀ j, j < 4 → (S.2.1 j).2.2.2.2.1 ≤ 5) (hc : S.2.2.1 + 12 < 1000000) : Met l yL_isSorted wsL_isSorted ({ frames := 9, cells := 1, slots := 6, locals := 146 } : Room) (va_Pc [.ref (ad 57), .int x0, .int x1, .ref o] (PW dC dI cB ad o S)) (va_Qi (fun r S1 => LQ S S1) (PO dC dI ad o) (AO ad o)) 1 6 (AO ad o) := by
  refine va_MetW (cc := cL_isSorted) (maxL := 5) (ret := (some .int)) (by decide +kernel) rfl ?_
  intro p e s m args below meth c s₁ B hml hv
  obtain ⟨rfl, hPW⟩ := hv
  have hx := B.exec
  have hb := B.bytes
  have hr := B.returns
  have hts := atoms_spec (ws := wsL_isSorted) B.pre
  have htab := vx_table (x := yL_isSorted) B (hts (.codeWith yL_isSorted cL_isSorted 5 (some .int) [(0, 18, 21, 19)]) (by unfold wsL_isSorted; exact List.mem_cons_self))
  have hown : s.vm.findClass RL = some m.cls := findClass_of_methodNamed B.named
  have hlocks := B.notSynchronized
  have hin5 : ∀ w ∈ u_ws RX5 TX5 2, w ∈ wsL_isSorted := by decide +kernel
  have hX := WX.ofW hPW
  have hO := hPW.2.2.1
  have hno := hPW.2.2.2.1
  have hl := lv_entry ([.ref (ad 57), .int x0, .int x1, .ref o]) (n := 5) (Nat.le_of_ble_eq_true rfl)
  rw [lg_entry_eq]
  generalize (lg_sl ([.ref (ad 57), .int x0, .int x1, .ref o]) ++ List.replicate (5 - (lg_sl ([.ref (ad 57), .int x0, .int x1, .ref o])).length) Slot.unset).toArray = ls at hl ⊢
  have hl : lv_has ls 5 [(0, .ref (ad 57)), (1, .int x0), (2, .int x1), (3, .ref o)] := hl
  show W p l e ({ frames := 9, cells := 1, slots := 6, locals := 146 } : Room) s m ([.ref (ad 57), .int x0, .int x1, .ref o]).toArray below meth c s.heap [] 0 0 (MQ below (va_Qi (fun r S1 => LQ S S1) (PO dC dI ad o) (AO ad o)) ([.ref (ad 57), .int x0, .int x1, .ref o]).toArray s 1 6 (AO ad o)) (F0 m 0 ls [])
  refine lv_aload_n hx hb dL_isSorted_0 rfl (lv_at hl 3 rfl) ?_
  refine lv_aload_n hx hb dL_isSorted_1 rfl (lv_at hl 0 rfl) ?_
  refine lv_iload_n hx hb dL_isSorted_2 rfl (lv_at hl 1 rfl) ?_
  refine lv_iload_n hx hb dL_isSorted_3 rfl (lv_at hl 2 rfl) ?_
  rcases lim_lt 3 (by decide) x0 with ⟨i, hi, rfl⟩ | hb9
  rotate_left
  · skip
    refine kl_throw (vx_runV (As := [.int x0, .int x1]) (rest := [.ref o]) ⟨hx, hb, hml, hown, hts⟩ (t_X4_isSorted_1 l hst dC dI ad S x0 x1 hb9) (cwV 2 hts gL_isSorted_X4_isSorted rfl rfl rfl (by decide +kernel) ⟨Nat.le_of_ble_eq_true rfl, Nat.le_of_ble_eq_true rfl⟩) hPW.1.preX rfl rfl hl.1 rfl (lv_room (Nat.le_of_ble_eq_true rfl)) dL_isSorted_4 ⟨Nat.le_of_ble_eq_true rfl, Nat.le_of_ble_eq_true rfl⟩) hX hO (fun ce q9 H hq1 hq2 hq3 hX hO => ?_)
    refine vx_catch hown [] ⟨0, 18, 21, 19⟩ [] (htab.trans rfl) (fun _ h => nomatch h) rfl (by decide) (hts (.classLink RL 19 IX) (by decide +kernel)) (va_Nw.use rfl hPW.1.2.1.2.1.1) hq1 hq2 hq3 ?_
    refine lv_astore (lv' := [(4, .ref q9), (0, .ref (ad 57)), (1, .int x0), (2, .int x1), (3, .ref o)]) hx hb dL_isSorted_21 hl (by decide) rfl (fun ls hl => ?_)
    refine lv_iconst (v := nI 1) hx hb dL_isSorted_23 (by decide) ?_
    exact W.widen (k := 1) (n := 6) (by simp) (by simp) (W.iret (v := nI 1) hx hb hr (fun t9 ht9 hW9 => ⟨⟨_, S, rfl, LQ_same hI h5, hX.P ht9 hW9, by rw [ht9]; exact hO⟩, hX.2.2.2.F ht9⟩) hX.2.2.2.2.2 dL_isSorted_24)
  replace hi : i < 3 := by omega
  have hn := (hI.1 i (by omega)).1
  rcases lim_lt 4 (by decide) x1 with ⟨j, hj, rfl⟩ | hb9
  rotate_left
  · skip
    refine kl_throw (vx_runV (As := [.int (nI i), .int x1]) (rest := [.ref o]) ⟨hx, hb, hml, hown, hts⟩ (t_X4_isSorted_2 l hst dC dI ad S i x1 hi hb9) (cwV 2 hts gL_isSorted_X4_isSorted rfl rfl rfl (by decide +kernel) ⟨Nat.le_of_ble_eq_true rfl, Nat.le_of_ble_eq_true rfl⟩) hPW.1.preX rfl rfl hl.1 rfl (lv_room (Nat.le_of_ble_eq_true rfl)) dL_isSorted_4 ⟨Nat.le_of_ble_eq_true rfl, Nat.le_of_ble_eq_true rfl⟩) hX hO (fun ce q9 H hq1 hq2 hq3 hX hO => ?_)
    refine vx_catch hown [] ⟨0, 18, 21, 19⟩ [] (htab.trans rfl) (fun _ h => nomatch h) rfl (by decide) (hts (.classLink RL 19 IX) (by decide +kernel)) (va_Nw.use rfl hPW.1.2.1.2.1.1) hq1 hq2 hq3 ?_
    refine lv_astore (lv' := [(4, .ref q9), (0, .ref (ad 57)), (1, .int (nI i)), (2, .int x1), (3, .ref o)]) hx hb dL_isSorted_21 hl (by decide) rfl (fun ls hl => ?_)
    refine lv_iconst (v := nI 1) hx hb dL_isSorted_23 (by decide) ?_
    exact W.widen (k := 1) (n := 6) (by simp) (by simp) (W.iret (v := nI 1) hx hb hr (fun t9 ht9 hW9 => ⟨⟨_, S, rfl, LQ_same hI h5, hX.P ht9 hW9, by rw [ht9]; exact hO⟩, hX.2.2.2.F ht9⟩) hX.2.2.2.2.2 dL_isSorted_24)
  replace hj : j < 4 := by omega
  refine kl_cr (va_runV (As := [.int (nI i), .int (nI j)]) (rest := [.ref o]) ⟨hx, hb, hml, hown, hts⟩ (m_X4_isSorted l dC dI ad S i j hi hj hI) (cwV 2 hts gL_isSorted_X4_isSorted rfl rfl rfl (by decide +kernel) ⟨Nat.le_of_ble_eq_true rfl, Nat.le_of_ble_eq_true rfl⟩) (hX.preTop 57 6 (by decide) (by decide) rfl rfl) rfl rfl hl.1 rfl (lv_room (Nat.le_of_ble_eq_true rfl)) dL_isSorted_4 ⟨Nat.le_of_ble_eq_true rfl, Nat.le_of_ble_eq_true rfl⟩) (fun r9 hw => ?_)
  refine lv_if_eq (tgt := 14) hx hb dL_isSorted_7 (by decide) (fun k_1 => ?_) (fun k_1 => ?_)
  · skip
    refine lv_lconst (v := lN 0) hx hb dL_isSorted_14 (by decide) ?_
    refine kl_put hx hb hts hin5 hown hX hO hno 0 (by decide) (host := "OrderlatticeLaw") (va_Nw.use rfl hPW.2.2.2.2.2.1) (ty := .long) rfl rfl rfl (Or.inl ⟨rfl, _, rfl⟩) dL_isSorted_15 (fun H locs hX hO => ?_)
    refine lv_goto (tgt := 25) hx hb dL_isSorted_18 (by decide) ?_
    refine lv_iconst (v := nI 0) hx hb dL_isSorted_25 (by decide) ?_
    exact W.widen (k := 1) (n := 6) (by simp) (by simp) (W.iret (v := nI 0) hx hb hr (fun t9 ht9 hW9 => ⟨⟨_, S, rfl, LQ_same hI h5, hX.P ht9 hW9, by rw [ht9]; exact hO⟩, hX.2.2.2.F ht9⟩) hX.2.2.2.2.2 dL_isSorted_26)
  · skip
    refine lv_lconst (v := lN 1) hx hb dL_isSorted_10 (by decide) ?_
    refine lv_goto (tgt := 15) hx hb dL_isSorted_11 (by decide) ?_
    refine kl_put hx hb hts hin5 hown hX hO hno 0 (by decide) (host := "OrderlatticeLaw") (va_Nw.use rfl hPW.2.2.2.2.2.1) (ty := .long) rfl rfl rfl (Or.inl ⟨rfl, _, rfl⟩) dL_isSorted_15 (fun H locs hX hO => ?_)
    refine lv_goto (tgt := 25) hx hb dL_isSorted_18 (by decide) ?_
    refine lv_iconst (v := nI 0) hx hb dL_isSorted_25 (by decide) ?_
    exact W.widen (k := 1) (n := 6) (by simp) (by simp) (W.iret (v := nI 0) hx hb hr (fun t9 ht9 hW9 => ⟨⟨_, S, rfl, LQ_same hI h5, hX.P ht9 hW9, by rw [ht9]; exact hO⟩, hX.2.2.2.F ht9⟩) hX.2.2.2.2.2 dL_isSorted_26)
set_option maxHeartbeats 4000000 in
set_option maxRecDepth 100000 in
theorem m_L_text (l : Launch) (hst : l.stackTraces = false) (dC : Nat → ClassId) (dI : Nat → Nat → Nat) (cB : ClassId) (ad : Nat → Nat) (o : Nat) (S : XS) (x0 : Int32) (hI : InvX S) (h5 : ∀ j, j < 4 → (S.2.1 j).2.2.2.2.1 ≤ 5) (hc : S.2.2.1 + 12 < 1000000) : Met l yL_text wsL_text ({ frames := 9, cells := 80, slots := 900, locals := 194 } : Room) (va_Pc [.ref (ad 57), .int x0, .ref o] (PW dC dI cB ad o S)) (va_Qi (fun r S1 => LQ S S1) (PO dC dI ad o) (AO ad o)) 80 900 (AO ad o) := by
  refine va_MetW (cc := cL_text) (maxL := 4) (ret := (some .int)) (by decide +kernel) rfl ?_
  intro p e s m args below meth c s₁ B hml hv
  obtain ⟨rfl, hPW⟩ := hv
  have hx := B.exec
  have hb := B.bytes
  have hr := B.returns
  have hts := atoms_spec (ws := wsL_text) B.pre
  have htab := vx_table (x := yL_text) B (hts (.codeWith yL_text cL_text 4 (some .int) [(0, 9, 12, 19)]) (by unfold wsL_text; exact List.mem_cons_self))
  have hown : s.vm.findClass RL = some m.cls := findClass_of_methodNamed B.named
  have hlocks := B.notSynchronized
  have hin5 : ∀ w ∈ u_ws RX5 TX5 2, w ∈ wsL_text := by decide +kernel
  have hX := WX.ofW hPW
  have hO := hPW.2.2.1
  have hno := hPW.2.2.2.1
  have hl := lv_entry ([.ref (ad 57), .int x0, .ref o]) (n := 4) (Nat.le_of_ble_eq_true rfl)
  rw [lg_entry_eq]
  generalize (lg_sl ([.ref (ad 57), .int x0, .ref o]) ++ List.replicate (4 - (lg_sl ([.ref (ad 57), .int x0, .ref o])).length) Slot.unset).toArray = ls at hl ⊢
  have hl : lv_has ls 4 [(0, .ref (ad 57)), (1, .int x0), (2, .ref o)] := hl
  show W p l e ({ frames := 9, cells := 80, slots := 900, locals := 194 } : Room) s m ([.ref (ad 57), .int x0, .ref o]).toArray below meth c s.heap [] 0 0 (MQ below (va_Qi (fun r S1 => LQ S S1) (PO dC dI ad o) (AO ad o)) ([.ref (ad 57), .int x0, .ref o]).toArray s 80 900 (AO ad o)) (F0 m 0 ls [])
  refine lv_aload_n hx hb dL_text_0 rfl (lv_at hl 2 rfl) ?_
  refine lv_aload_n hx hb dL_text_1 rfl (lv_at hl 0 rfl) ?_
  refine lv_iload_n hx hb dL_text_2 rfl (lv_at hl 1 rfl) ?_
  rcases lim_lt 3 (by decide) x0 with ⟨i, hi, rfl⟩ | hb9
  rotate_left
  · skip
    refine kl_throw (vx_runV (As := [.int x0]) (rest := [.ref o]) ⟨hx, hb, hml, hown, hts⟩ (t_X4_text_1 l hst dC dI ad S x0 hb9) (cwV 1 hts gL_text_X4_text rfl rfl rfl (by decide +kernel) ⟨Nat.le_of_ble_eq_true rfl, Nat.le_of_ble_eq_true rfl⟩) hPW.1.preX rfl rfl hl.1 rfl (lv_room (Nat.le_of_ble_eq_true rfl)) dL_text_3 ⟨Nat.le_of_ble_eq_true rfl, Nat.le_of_ble_eq_true rfl⟩) hX hO (fun ce q9 H hq1 hq2 hq3 hX hO => ?_)
    refine vx_catch hown [] ⟨0, 9, 12, 19⟩ [] (htab.trans rfl) (fun _ h => nomatch h) rfl (by decide) (hts (.classLink RL 19 IX) (by decide +kernel)) (va_Nw.use rfl hPW.1.2.1.2.1.1) hq1 hq2 hq3 ?_
    refine lv_astore_n (lv' := [(3, .ref q9), (0, .ref (ad 57)), (1, .int x0), (2, .ref o)]) hx hb dL_text_12 rfl hl (by decide) rfl (fun ls hl => ?_)
    refine lv_iconst (v := nI 1) hx hb dL_text_13 (by decide) ?_
    exact W.widen (k := 80) (n := 900) (by simp) (by simp) (W.iret (v := nI 1) hx hb hr (fun t9 ht9 hW9 => ⟨⟨_, S, rfl, LQ_same hI h5, hX.P ht9 hW9, by rw [ht9]; exact hO⟩, hX.2.2.2.F ht9⟩) hX.2.2.2.2.2 dL_text_14)
  replace hi : i < 3 := by omega
  have hn := (hI.1 i (by omega)).1
  refine kl_rr (va_runV (As := [.int (nI i)]) (rest := [.ref o]) ⟨hx, hb, hml, hown, hts⟩ (m_X4_text l dC dI cB ad S i hi hI) (cwV 1 hts gL_text_X4_text rfl rfl rfl (by decide +kernel) ⟨Nat.le_of_ble_eq_true rfl, Nat.le_of_ble_eq_true rfl⟩) hPW.preT rfl rfl hl.1 rfl (lv_room (Nat.le_of_ble_eq_true rfl)) dL_text_3 ⟨Nat.le_of_ble_eq_true rfl, Nat.le_of_ble_eq_true rfl⟩) hX hO hno (fun S1 q9 H locs hw hX hO => ?_)
  have hLQ : LQ S S1 := by rw [hw]; exact LQ_same hI h5
  refine kl_put hx hb hts hin5 hown hX hO hno 1 (by decide) (host := "OrderlatticeLaw") (va_Nw.use rfl hPW.2.2.2.2.2.2) (ty := (.object "java/lang/String")) rfl rfl rfl (Or.inr ⟨rfl, _, rfl⟩) dL_text_6 (fun H locs hX hO => ?_)
  refine lv_goto (tgt := 15) hx hb dL_text_9 (by decide) ?_
  refine lv_iconst (v := nI 0) hx hb dL_text_15 (by decide) ?_
  exact W.widen (k := 80) (n := 900) (by simp) (by simp) (W.iret (v := nI 0) hx hb hr (fun t9 ht9 hW9 => ⟨⟨_, S1, rfl, hLQ, hX.P ht9 hW9, by rw [ht9]; exact hO⟩, hX.2.2.2.F ht9⟩) hX.2.2.2.2.2 dL_text_16)
