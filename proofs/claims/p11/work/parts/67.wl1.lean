set_option maxHeartbeats 4000000 in
set_option maxRecDepth 100000 in
theorem m_L_put (l : Launch) (hst : l.stackTraces = false) (dC : Nat → ClassId) (dI : Nat → Nat → Nat) (cB : ClassId) (ad : Nat → Nat) (o : Nat) (S : XS) (x0 : Int32) (x1 : Int32) (hI : InvX S) (h5 : ∀ j, j < 4 → (S.2.1 j).2.2.2.2.1 ≤ 5) (hc : S.2.2.1 + 12 < 1000000) : Met l yL_put wsL_put ({ frames := 9, cells := 1, slots := 6, locals := 146 } : Room) (va_Pc [.ref (ad 57), .int x0, .int x1, .ref o] (PW dC dI cB ad o S)) (va_Qi (fun r (u : XS × Int64) => LQ S u.1 ∧ R_put x0 x1 S r u.1 u.2) (PO2 dC dI ad o) (AO ad o)) 1 6 (AO ad o) := by
  refine va_MetW (cc := cL_put) (maxL := 5) (ret := (some .int)) pl_L rfl ?_
  intro p e s m args below meth c s₁ B hml hv
  obtain ⟨rfl, hPW⟩ := hv
  have hx := B.exec
  have hb := B.bytes
  have hr := B.returns
  have hts := atoms_spec (ws := wsL_put) B.pre
  have htab := vx_table (x := yL_put) B (hts (.codeWith yL_put cL_put 5 (some .int) [(0, 11, 14, 19), (0, 11, 18, 21)]) (by unfold wsL_put; exact List.mem_cons_self))
  have hown : s.vm.findClass RL = some m.cls := findClass_of_methodNamed B.named
  have hlocks := B.notSynchronized
  have hin5 : ∀ w ∈ u_ws RX5 TX5 2, w ∈ wsL_put := tu 1332 (by decide +kernel) rfl
  have hX := WX.ofW hPW
  have hO := hPW.2.2.1
  have hno := hPW.2.2.2.1
  have hl := lv_entry ([.ref (ad 57), .int x0, .int x1, .ref o]) (n := 5) (Nat.le_of_ble_eq_true rfl)
  rw [lg_entry_eq]
  generalize (lg_sl ([.ref (ad 57), .int x0, .int x1, .ref o]) ++ List.replicate (5 - (lg_sl ([.ref (ad 57), .int x0, .int x1, .ref o])).length) Slot.unset).toArray = ls at hl ⊢
  have hl : lv_has ls 5 [(0, .ref (ad 57)), (1, .int x0), (2, .int x1), (3, .ref o)] := hl
  show W p l e ({ frames := 9, cells := 1, slots := 6, locals := 146 } : Room) s m ([.ref (ad 57), .int x0, .int x1, .ref o]).toArray below meth c s.heap [] 0 0 (MQ below (va_Qi (fun r (u : XS × Int64) => LQ S u.1 ∧ R_put x0 x1 S r u.1 u.2) (PO2 dC dI ad o) (AO ad o)) ([.ref (ad 57), .int x0, .int x1, .ref o]).toArray s 1 6 (AO ad o)) (F0 m 0 ls [])
  refine lv_aload_n hx hb dL_put_0 rfl (lv_at hl 3 rfl) ?_
  refine lv_aload_n hx hb dL_put_1 rfl (lv_at hl 0 rfl) ?_
  refine lv_iload_n hx hb dL_put_2 rfl (lv_at hl 1 rfl) ?_
  refine lv_iload_n hx hb dL_put_3 rfl (lv_at hl 2 rfl) ?_
  rcases lim_lt 3 (by decide) x0 with ⟨i, hi, rfl⟩ | hb9
  rotate_left
  · skip
    refine kl_throw (vx_runV (As := [.int x0, .int x1]) (rest := [.ref o]) ⟨hx, hb, hml, hown, hts⟩ (t_X4_put_1 l hst dC dI ad S x0 x1 hb9) (cwV 2 hts gL_put_X4_put rfl rfl rfl hdX4_put_2 ⟨Nat.le_of_ble_eq_true rfl, Nat.le_of_ble_eq_true rfl⟩) hPW.1.preX rfl rfl hl.1 rfl (lv_room (Nat.le_of_ble_eq_true rfl)) dL_put_4 ⟨Nat.le_of_ble_eq_true rfl, Nat.le_of_ble_eq_true rfl⟩) hX hO (fun ce q9 H hce1 hce2 hce3 hX hO => ?_)
    refine vx_catch hown [] ⟨0, 11, 14, 19⟩ [⟨0, 11, 18, 21⟩] (htab.trans rfl) (fun _ h => nomatch h) rfl (by decide) (hts (.classLink RL 19 IX) (tm 830 (by decide +kernel) rfl)) (va_Nw.use rfl hPW.1.2.1.2.1.1) hce1 hce2 hce3 ?_
    refine lv_astore (lv' := [(4, .ref q9), (0, .ref (ad 57)), (1, .int x0), (2, .int x1), (3, .ref o)]) hx hb dL_put_14 hl (by decide) rfl (fun ls hl => ?_)
    refine lv_iconst (v := nI 1) hx hb dL_put_16 (by decide) ?_
    obtain ⟨n9, hN⟩ := hO
    exact W.widen (k := 1) (n := 6) (by simp) (by simp) (W.iret (v := nI 1) hx hb hr (fun t9 ht9 hW9 => ⟨⟨_, (S, n9), rfl, ⟨LQ_same hI h5, (Or.inl ⟨hb9, rfl, rfl⟩)⟩, hX.P ht9 hW9, by rw [ht9]; exact hN⟩, hX.2.2.2.F ht9⟩) hX.2.2.2.2.2 dL_put_17)
  replace hi : i < 3 := by omega
  have hn := (hI.1 i (by omega)).1
  rcases lim_le 15 (by decide) x1 with ⟨v, hv, rfl⟩ | hb9
  rotate_left
  · skip
    refine kl_throw (vx_runV (As := [.int (nI i), .int x1]) (rest := [.ref o]) ⟨hx, hb, hml, hown, hts⟩ (t_X4_put_2 l hst dC dI ad S i x1 hi hb9) (cwV 2 hts gL_put_X4_put rfl rfl rfl hdX4_put_2 ⟨Nat.le_of_ble_eq_true rfl, Nat.le_of_ble_eq_true rfl⟩) hPW.1.preX rfl rfl hl.1 rfl (lv_room (Nat.le_of_ble_eq_true rfl)) dL_put_4 ⟨Nat.le_of_ble_eq_true rfl, Nat.le_of_ble_eq_true rfl⟩) hX hO (fun ce q9 H hce1 hce2 hce3 hX hO => ?_)
    refine vx_catch hown [⟨0, 11, 14, 19⟩] ⟨0, 11, 18, 21⟩ [] (htab.trans rfl) (fun z hz => by rw [List.mem_singleton.mp hz]; exact Or.inr ⟨by decide, IX, hts (.classLink RL 19 IX) (by decide +kernel), hPW.2.2.2.2.1⟩) rfl (by decide) (hts (.classLink RL 21 IA) (tm 831 (by decide +kernel) rfl)) (va_Nw.use rfl hPW.1.2.1.2.1.2) hce1 hce2 hce3 ?_
    refine lv_astore (lv' := [(4, .ref q9), (0, .ref (ad 57)), (1, .int (nI i)), (2, .int x1), (3, .ref o)]) hx hb dL_put_18 hl (by decide) rfl (fun ls hl => ?_)
    refine lv_iconst (v := nI 2) hx hb dL_put_20 (by decide) ?_
    obtain ⟨n9, hN⟩ := hO
    exact W.widen (k := 1) (n := 6) (by simp) (by simp) (W.iret (v := nI 2) hx hb hr (fun t9 ht9 hW9 => ⟨⟨_, (S, n9), rfl, ⟨LQ_same hI h5, (Or.inr (Or.inl ⟨i, hi, rfl, hb9, rfl, rfl⟩))⟩, hX.P ht9 hW9, by rw [ht9]; exact hN⟩, hX.2.2.2.F ht9⟩) hX.2.2.2.2.2 dL_put_21)
  replace hv : v < 16 := by omega
  refine kl_ci (va_runV (As := [.int (nI i), .int (nI v)]) (rest := [.ref o]) ⟨hx, hb, hml, hown, hts⟩ (m_X4_put l dC dI ad S i v hi hv hI) (cwV 2 hts gL_put_X4_put rfl rfl rfl hdX4_put_2 ⟨Nat.le_of_ble_eq_true rfl, Nat.le_of_ble_eq_true rfl⟩) (hX.preTop 57 6 (by decide) (by decide) rfl rfl) rfl rfl hl.1 rfl (lv_room (Nat.le_of_ble_eq_true rfl)) dL_put_4 ⟨Nat.le_of_ble_eq_true rfl, Nat.le_of_ble_eq_true rfl⟩) hX hO hno (fun r9 S1 H locs hw hX hO => ?_)
  have hLQ : LQ S S1 := LQ_put hI h5 hc hi hv hw
  refine lv_i2l (v := r9.toInt64) hx hb dL_put_7 rfl ?_
  refine kl_putn hx hb hts hin5 hown hX hO hno (host := "OrderlatticeLaw") (va_Nw.use rfl hPW.2.2.2.2.2.1) dL_put_8 (fun H locs hX hN => ?_)
  refine lv_goto (tgt := 22) hx hb dL_put_11 (by decide) ?_
  refine lv_iconst (v := nI 0) hx hb dL_put_22 (by decide) ?_
  exact W.widen (k := 1) (n := 6) (by simp) (by simp) (W.iret (v := nI 0) hx hb hr (fun t9 ht9 hW9 => ⟨⟨_, (S1, r9.toInt64), rfl, ⟨hLQ, (Or.inr (Or.inr ⟨i, v, r9, hi, hv, rfl, rfl, rfl, rfl, hw⟩))⟩, hX.P ht9 hW9, by rw [ht9]; exact hN⟩, hX.2.2.2.F ht9⟩) hX.2.2.2.2.2 dL_put_23)
set_option maxHeartbeats 4000000 in
set_option maxRecDepth 100000 in
theorem m_L_putAt (l : Launch) (hst : l.stackTraces = false) (dC : Nat → ClassId) (dI : Nat → Nat → Nat) (cB : ClassId) (ad : Nat → Nat) (o : Nat) (S : XS) (x0 : Int32) (x1 : Int32) (x2 : Int32) (hI : InvX S) (h5 : ∀ j, j < 4 → (S.2.1 j).2.2.2.2.1 ≤ 5) (hc : S.2.2.1 + 12 < 1000000) : Met l yL_putAt wsL_putAt ({ frames := 9, cells := 1, slots := 6, locals := 147 } : Room) (va_Pc [.ref (ad 57), .int x0, .int x1, .int x2, .ref o] (PW dC dI cB ad o S)) (va_Qi (fun r (u : XS × Int64) => LQ S u.1 ∧ R_putAt x0 x1 x2 S r u.1 u.2) (PO2 dC dI ad o) (AO ad o)) 1 6 (AO ad o) := by
  refine va_MetW (cc := cL_putAt) (maxL := 6) (ret := (some .int)) pl_L rfl ?_
  intro p e s m args below meth c s₁ B hml hv
  obtain ⟨rfl, hPW⟩ := hv
  have hx := B.exec
  have hb := B.bytes
  have hr := B.returns
  have hts := atoms_spec (ws := wsL_putAt) B.pre
  have htab := vx_table (x := yL_putAt) B (hts (.codeWith yL_putAt cL_putAt 6 (some .int) [(0, 13, 16, 19), (0, 13, 20, 21)]) (by unfold wsL_putAt; exact List.mem_cons_self))
  have hown : s.vm.findClass RL = some m.cls := findClass_of_methodNamed B.named
  have hlocks := B.notSynchronized
  have hin5 : ∀ w ∈ u_ws RX5 TX5 2, w ∈ wsL_putAt := tu 1332 (by decide +kernel) rfl
  have hX := WX.ofW hPW
  have hO := hPW.2.2.1
  have hno := hPW.2.2.2.1
  have hl := lv_entry ([.ref (ad 57), .int x0, .int x1, .int x2, .ref o]) (n := 6) (Nat.le_of_ble_eq_true rfl)
  rw [lg_entry_eq]
  generalize (lg_sl ([.ref (ad 57), .int x0, .int x1, .int x2, .ref o]) ++ List.replicate (6 - (lg_sl ([.ref (ad 57), .int x0, .int x1, .int x2, .ref o])).length) Slot.unset).toArray = ls at hl ⊢
  have hl : lv_has ls 6 [(0, .ref (ad 57)), (1, .int x0), (2, .int x1), (3, .int x2), (4, .ref o)] := hl
  show W p l e ({ frames := 9, cells := 1, slots := 6, locals := 147 } : Room) s m ([.ref (ad 57), .int x0, .int x1, .int x2, .ref o]).toArray below meth c s.heap [] 0 0 (MQ below (va_Qi (fun r (u : XS × Int64) => LQ S u.1 ∧ R_putAt x0 x1 x2 S r u.1 u.2) (PO2 dC dI ad o) (AO ad o)) ([.ref (ad 57), .int x0, .int x1, .int x2, .ref o]).toArray s 1 6 (AO ad o)) (F0 m 0 ls [])
  refine lv_aload hx hb dL_putAt_0 (lv_at hl 4 rfl) ?_
  refine lv_aload_n hx hb dL_putAt_2 rfl (lv_at hl 0 rfl) ?_
  refine lv_iload_n hx hb dL_putAt_3 rfl (lv_at hl 1 rfl) ?_
  refine lv_iload_n hx hb dL_putAt_4 rfl (lv_at hl 2 rfl) ?_
  refine lv_iload_n hx hb dL_putAt_5 rfl (lv_at hl 3 rfl) ?_
  rcases lim_lt 3 (by decide) x0 with ⟨i, hi, rfl⟩ | hb9
  rotate_left
  · skip
    refine kl_throw (vx_runV (As := [.int x0, .int x1, .int x2]) (rest := [.ref o]) ⟨hx, hb, hml, hown, hts⟩ (t_X4_putAt_1 l hst dC dI ad S x0 x1 x2 hb9) (cwV 3 hts gL_putAt_X4_putAt rfl rfl rfl hdX4_putAt_3 ⟨Nat.le_of_ble_eq_true rfl, Nat.le_of_ble_eq_true rfl⟩) hPW.1.preX rfl rfl hl.1 rfl (lv_room (Nat.le_of_ble_eq_true rfl)) dL_putAt_6 ⟨Nat.le_of_ble_eq_true rfl, Nat.le_of_ble_eq_true rfl⟩) hX hO (fun ce q9 H hce1 hce2 hce3 hX hO => ?_)
    refine vx_catch hown [] ⟨0, 13, 16, 19⟩ [⟨0, 13, 20, 21⟩] (htab.trans rfl) (fun _ h => nomatch h) rfl (by decide) (hts (.classLink RL 19 IX) (tm 830 (by decide +kernel) rfl)) (va_Nw.use rfl hPW.1.2.1.2.1.1) hce1 hce2 hce3 ?_
    refine lv_astore (lv' := [(5, .ref q9), (0, .ref (ad 57)), (1, .int x0), (2, .int x1), (3, .int x2), (4, .ref o)]) hx hb dL_putAt_16 hl (by decide) rfl (fun ls hl => ?_)
    refine lv_iconst (v := nI 1) hx hb dL_putAt_18 (by decide) ?_
    obtain ⟨n9, hN⟩ := hO
    exact W.widen (k := 1) (n := 6) (by simp) (by simp) (W.iret (v := nI 1) hx hb hr (fun t9 ht9 hW9 => ⟨⟨_, (S, n9), rfl, ⟨LQ_same hI h5, (Or.inl ⟨hb9, rfl, rfl⟩)⟩, hX.P ht9 hW9, by rw [ht9]; exact hN⟩, hX.2.2.2.F ht9⟩) hX.2.2.2.2.2 dL_putAt_19)
  replace hi : i < 3 := by omega
  have hn := (hI.1 i (by omega)).1
  rcases lim_le (S.1 i).2.2 (by omega) x1 with ⟨q, hq, rfl⟩ | hb9
  rotate_left
  · skip
    refine kl_throw (vx_runV (As := [.int (nI i), .int x1, .int x2]) (rest := [.ref o]) ⟨hx, hb, hml, hown, hts⟩ (t_X4_putAt_2 l hst dC dI ad S i x1 x2 hi (by omega) hb9) (cwV 3 hts gL_putAt_X4_putAt rfl rfl rfl hdX4_putAt_3 ⟨Nat.le_of_ble_eq_true rfl, Nat.le_of_ble_eq_true rfl⟩) hPW.1.preX rfl rfl hl.1 rfl (lv_room (Nat.le_of_ble_eq_true rfl)) dL_putAt_6 ⟨Nat.le_of_ble_eq_true rfl, Nat.le_of_ble_eq_true rfl⟩) hX hO (fun ce q9 H hce1 hce2 hce3 hX hO => ?_)
    refine vx_catch hown [] ⟨0, 13, 16, 19⟩ [⟨0, 13, 20, 21⟩] (htab.trans rfl) (fun _ h => nomatch h) rfl (by decide) (hts (.classLink RL 19 IX) (tm 830 (by decide +kernel) rfl)) (va_Nw.use rfl hPW.1.2.1.2.1.1) hce1 hce2 hce3 ?_
    refine lv_astore (lv' := [(5, .ref q9), (0, .ref (ad 57)), (1, .int (nI i)), (2, .int x1), (3, .int x2), (4, .ref o)]) hx hb dL_putAt_16 hl (by decide) rfl (fun ls hl => ?_)
    refine lv_iconst (v := nI 1) hx hb dL_putAt_18 (by decide) ?_
    obtain ⟨n9, hN⟩ := hO
    exact W.widen (k := 1) (n := 6) (by simp) (by simp) (W.iret (v := nI 1) hx hb hr (fun t9 ht9 hW9 => ⟨⟨_, (S, n9), rfl, ⟨LQ_same hI h5, (Or.inr (Or.inl ⟨i, hi, rfl, hb9, rfl, rfl⟩))⟩, hX.P ht9 hW9, by rw [ht9]; exact hN⟩, hX.2.2.2.F ht9⟩) hX.2.2.2.2.2 dL_putAt_19)
  replace hq : q ≤ (S.1 i).2.2 := by omega
  rcases lim_le 15 (by decide) x2 with ⟨v, hv, rfl⟩ | hb9
  rotate_left
  · skip
    refine kl_throw (vx_runV (As := [.int (nI i), .int (nI q), .int x2]) (rest := [.ref o]) ⟨hx, hb, hml, hown, hts⟩ (t_X4_putAt_3 l hst dC dI ad S i q x2 hi hq (by omega) hb9) (cwV 3 hts gL_putAt_X4_putAt rfl rfl rfl hdX4_putAt_3 ⟨Nat.le_of_ble_eq_true rfl, Nat.le_of_ble_eq_true rfl⟩) hPW.1.preX rfl rfl hl.1 rfl (lv_room (Nat.le_of_ble_eq_true rfl)) dL_putAt_6 ⟨Nat.le_of_ble_eq_true rfl, Nat.le_of_ble_eq_true rfl⟩) hX hO (fun ce q9 H hce1 hce2 hce3 hX hO => ?_)
    refine vx_catch hown [⟨0, 13, 16, 19⟩] ⟨0, 13, 20, 21⟩ [] (htab.trans rfl) (fun z hz => by rw [List.mem_singleton.mp hz]; exact Or.inr ⟨by decide, IX, hts (.classLink RL 19 IX) (by decide +kernel), hPW.2.2.2.2.1⟩) rfl (by decide) (hts (.classLink RL 21 IA) (tm 831 (by decide +kernel) rfl)) (va_Nw.use rfl hPW.1.2.1.2.1.2) hce1 hce2 hce3 ?_
    refine lv_astore (lv' := [(5, .ref q9), (0, .ref (ad 57)), (1, .int (nI i)), (2, .int (nI q)), (3, .int x2), (4, .ref o)]) hx hb dL_putAt_20 hl (by decide) rfl (fun ls hl => ?_)
    refine lv_iconst (v := nI 2) hx hb dL_putAt_22 (by decide) ?_
    obtain ⟨n9, hN⟩ := hO
    exact W.widen (k := 1) (n := 6) (by simp) (by simp) (W.iret (v := nI 2) hx hb hr (fun t9 ht9 hW9 => ⟨⟨_, (S, n9), rfl, ⟨LQ_same hI h5, (Or.inr (Or.inr (Or.inl ⟨i, q, hi, hq, rfl, rfl, hb9, rfl, rfl⟩)))⟩, hX.P ht9 hW9, by rw [ht9]; exact hN⟩, hX.2.2.2.F ht9⟩) hX.2.2.2.2.2 dL_putAt_23)
  replace hv : v < 16 := by omega
  refine kl_ci (va_runV (As := [.int (nI i), .int (nI q), .int (nI v)]) (rest := [.ref o]) ⟨hx, hb, hml, hown, hts⟩ (m_X4_putAt l dC dI ad S i q v hi hq hv hI) (cwV 3 hts gL_putAt_X4_putAt rfl rfl rfl hdX4_putAt_3 ⟨Nat.le_of_ble_eq_true rfl, Nat.le_of_ble_eq_true rfl⟩) (hX.preTop 57 6 (by decide) (by decide) rfl rfl) rfl rfl hl.1 rfl (lv_room (Nat.le_of_ble_eq_true rfl)) dL_putAt_6 ⟨Nat.le_of_ble_eq_true rfl, Nat.le_of_ble_eq_true rfl⟩) hX hO hno (fun r9 S1 H locs hw hX hO => ?_)
  have hLQ : LQ S S1 := LQ_put hI h5 hc hi hv hw
  refine lv_i2l (v := r9.toInt64) hx hb dL_putAt_9 rfl ?_
  refine kl_putn hx hb hts hin5 hown hX hO hno (host := "OrderlatticeLaw") (va_Nw.use rfl hPW.2.2.2.2.2.1) dL_putAt_10 (fun H locs hX hN => ?_)
  refine lv_goto (tgt := 24) hx hb dL_putAt_13 (by decide) ?_
  refine lv_iconst (v := nI 0) hx hb dL_putAt_24 (by decide) ?_
  exact W.widen (k := 1) (n := 6) (by simp) (by simp) (W.iret (v := nI 0) hx hb hr (fun t9 ht9 hW9 => ⟨⟨_, (S1, r9.toInt64), rfl, ⟨hLQ, (Or.inr (Or.inr (Or.inr ⟨i, q, v, r9, hi, hq, hv, rfl, rfl, rfl, rfl, rfl, hw⟩)))⟩, hX.P ht9 hW9, by rw [ht9]; exact hN⟩, hX.2.2.2.F ht9⟩) hX.2.2.2.2.2 dL_putAt_25)
set_option maxHeartbeats 4000000 in
set_option maxRecDepth 100000 in
theorem m_L_fill (l : Launch) (hst : l.stackTraces = false) (dC : Nat → ClassId) (dI : Nat → Nat → Nat) (cB : ClassId) (ad : Nat → Nat) (o : Nat) (S : XS) (x0 : Int32) (x1 : Int32) (x2 : Int32) (x3 : Int32) (hI : InvX S) (h5 : ∀ j, j < 4 → (S.2.1 j).2.2.2.2.1 ≤ 5) (hc : S.2.2.1 + 12 < 1000000) : Met l yL_fill wsL_fill ({ frames := 9, cells := 1, slots := 6, locals := 149 } : Room) (va_Pc [.ref (ad 57), .int x0, .int x1, .int x2, .int x3, .ref o] (PW dC dI cB ad o S)) (va_Qi (fun r (u : XS × Int64) => LQ S u.1 ∧ R_fill x0 x1 x2 x3 S r u.1 u.2) (PO2 dC dI ad o) (AO ad o)) 1 6 (AO ad o) := by
  refine va_MetW (cc := cL_fill) (maxL := 7) (ret := (some .int)) pl_L rfl ?_
  intro p e s m args below meth c s₁ B hml hv
  obtain ⟨rfl, hPW⟩ := hv
  have hx := B.exec
  have hb := B.bytes
  have hr := B.returns
  have hts := atoms_spec (ws := wsL_fill) B.pre
  have htab := vx_table (x := yL_fill) B (hts (.codeWith yL_fill cL_fill 7 (some .int) [(0, 15, 18, 19), (0, 15, 22, 21)]) (by unfold wsL_fill; exact List.mem_cons_self))
  have hown : s.vm.findClass RL = some m.cls := findClass_of_methodNamed B.named
  have hlocks := B.notSynchronized
  have hin5 : ∀ w ∈ u_ws RX5 TX5 2, w ∈ wsL_fill := tu 1332 (by decide +kernel) rfl
  have hX := WX.ofW hPW
  have hO := hPW.2.2.1
  have hno := hPW.2.2.2.1
  have hl := lv_entry ([.ref (ad 57), .int x0, .int x1, .int x2, .int x3, .ref o]) (n := 7) (Nat.le_of_ble_eq_true rfl)
  rw [lg_entry_eq]
  generalize (lg_sl ([.ref (ad 57), .int x0, .int x1, .int x2, .int x3, .ref o]) ++ List.replicate (7 - (lg_sl ([.ref (ad 57), .int x0, .int x1, .int x2, .int x3, .ref o])).length) Slot.unset).toArray = ls at hl ⊢
  have hl : lv_has ls 7 [(0, .ref (ad 57)), (1, .int x0), (2, .int x1), (3, .int x2), (4, .int x3), (5, .ref o)] := hl
  show W p l e ({ frames := 9, cells := 1, slots := 6, locals := 149 } : Room) s m ([.ref (ad 57), .int x0, .int x1, .int x2, .int x3, .ref o]).toArray below meth c s.heap [] 0 0 (MQ below (va_Qi (fun r (u : XS × Int64) => LQ S u.1 ∧ R_fill x0 x1 x2 x3 S r u.1 u.2) (PO2 dC dI ad o) (AO ad o)) ([.ref (ad 57), .int x0, .int x1, .int x2, .int x3, .ref o]).toArray s 1 6 (AO ad o)) (F0 m 0 ls [])
  refine lv_aload hx hb dL_fill_0 (lv_at hl 5 rfl) ?_
  refine lv_aload_n hx hb dL_fill_2 rfl (lv_at hl 0 rfl) ?_
  refine lv_iload_n hx hb dL_fill_3 rfl (lv_at hl 1 rfl) ?_
  refine lv_iload_n hx hb dL_fill_4 rfl (lv_at hl 2 rfl) ?_
  refine lv_iload_n hx hb dL_fill_5 rfl (lv_at hl 3 rfl) ?_
  refine lv_iload hx hb dL_fill_6 (lv_at hl 4 rfl) ?_
  rcases lim_lt 3 (by decide) x0 with ⟨i, hi, rfl⟩ | hb9
  rotate_left
  · skip
    refine kl_throw (vx_runV (As := [.int x0, .int x1, .int x2, .int x3]) (rest := [.ref o]) ⟨hx, hb, hml, hown, hts⟩ (t_X4_fill_1 l hst dC dI ad S x0 x1 x2 x3 hb9) (cwV 4 hts gL_fill_X4_fill rfl rfl rfl hdX4_fill_4 ⟨Nat.le_of_ble_eq_true rfl, Nat.le_of_ble_eq_true rfl⟩) hPW.1.preX rfl rfl hl.1 rfl (lv_room (Nat.le_of_ble_eq_true rfl)) dL_fill_8 ⟨Nat.le_of_ble_eq_true rfl, Nat.le_of_ble_eq_true rfl⟩) hX hO (fun ce q9 H hce1 hce2 hce3 hX hO => ?_)
    refine vx_catch hown [] ⟨0, 15, 18, 19⟩ [⟨0, 15, 22, 21⟩] (htab.trans rfl) (fun _ h => nomatch h) rfl (by decide) (hts (.classLink RL 19 IX) (tm 830 (by decide +kernel) rfl)) (va_Nw.use rfl hPW.1.2.1.2.1.1) hce1 hce2 hce3 ?_
    refine lv_astore (lv' := [(6, .ref q9), (0, .ref (ad 57)), (1, .int x0), (2, .int x1), (3, .int x2), (4, .int x3), (5, .ref o)]) hx hb dL_fill_18 hl (by decide) rfl (fun ls hl => ?_)
    refine lv_iconst (v := nI 1) hx hb dL_fill_20 (by decide) ?_
    obtain ⟨n9, hN⟩ := hO
    exact W.widen (k := 1) (n := 6) (by simp) (by simp) (W.iret (v := nI 1) hx hb hr (fun t9 ht9 hW9 => ⟨⟨_, (S, n9), rfl, ⟨LQ_same hI h5, (Or.inl ⟨hb9, rfl, rfl⟩)⟩, hX.P ht9 hW9, by rw [ht9]; exact hN⟩, hX.2.2.2.F ht9⟩) hX.2.2.2.2.2 dL_fill_21)
  replace hi : i < 3 := by omega
  have hn := (hI.1 i (by omega)).1
  rcases lim_le 12 (by decide) x1 with ⟨k, hk, rfl⟩ | hb9
  rotate_left
  · skip
    refine kl_throw (vx_runV (As := [.int (nI i), .int x1, .int x2, .int x3]) (rest := [.ref o]) ⟨hx, hb, hml, hown, hts⟩ (t_X4_fill_2 l hst dC dI ad S i x1 x2 x3 hi hb9) (cwV 4 hts gL_fill_X4_fill rfl rfl rfl hdX4_fill_4 ⟨Nat.le_of_ble_eq_true rfl, Nat.le_of_ble_eq_true rfl⟩) hPW.1.preX rfl rfl hl.1 rfl (lv_room (Nat.le_of_ble_eq_true rfl)) dL_fill_8 ⟨Nat.le_of_ble_eq_true rfl, Nat.le_of_ble_eq_true rfl⟩) hX hO (fun ce q9 H hce1 hce2 hce3 hX hO => ?_)
    refine vx_catch hown [⟨0, 15, 18, 19⟩] ⟨0, 15, 22, 21⟩ [] (htab.trans rfl) (fun z hz => by rw [List.mem_singleton.mp hz]; exact Or.inr ⟨by decide, IX, hts (.classLink RL 19 IX) (by decide +kernel), hPW.2.2.2.2.1⟩) rfl (by decide) (hts (.classLink RL 21 IA) (tm 831 (by decide +kernel) rfl)) (va_Nw.use rfl hPW.1.2.1.2.1.2) hce1 hce2 hce3 ?_
    refine lv_astore (lv' := [(6, .ref q9), (0, .ref (ad 57)), (1, .int (nI i)), (2, .int x1), (3, .int x2), (4, .int x3), (5, .ref o)]) hx hb dL_fill_22 hl (by decide) rfl (fun ls hl => ?_)
    refine lv_iconst (v := nI 2) hx hb dL_fill_24 (by decide) ?_
    obtain ⟨n9, hN⟩ := hO
    exact W.widen (k := 1) (n := 6) (by simp) (by simp) (W.iret (v := nI 2) hx hb hr (fun t9 ht9 hW9 => ⟨⟨_, (S, n9), rfl, ⟨LQ_same hI h5, (Or.inr (Or.inl ⟨i, hi, rfl, hb9, rfl, rfl⟩))⟩, hX.P ht9 hW9, by rw [ht9]; exact hN⟩, hX.2.2.2.F ht9⟩) hX.2.2.2.2.2 dL_fill_25)
  replace hk : k ≤ 12 := by omega
  rcases lim_le 99 (by decide) x2 with ⟨k2, hk2, rfl⟩ | hb9
  rotate_left
  · skip
    refine kl_throw (vx_runV (As := [.int (nI i), .int (nI k), .int x2, .int x3]) (rest := [.ref o]) ⟨hx, hb, hml, hown, hts⟩ (t_X4_fill_3 l hst dC dI ad S i k x2 x3 hi hk hb9) (cwV 4 hts gL_fill_X4_fill rfl rfl rfl hdX4_fill_4 ⟨Nat.le_of_ble_eq_true rfl, Nat.le_of_ble_eq_true rfl⟩) hPW.1.preX rfl rfl hl.1 rfl (lv_room (Nat.le_of_ble_eq_true rfl)) dL_fill_8 ⟨Nat.le_of_ble_eq_true rfl, Nat.le_of_ble_eq_true rfl⟩) hX hO (fun ce q9 H hce1 hce2 hce3 hX hO => ?_)
    refine vx_catch hown [⟨0, 15, 18, 19⟩] ⟨0, 15, 22, 21⟩ [] (htab.trans rfl) (fun z hz => by rw [List.mem_singleton.mp hz]; exact Or.inr ⟨by decide, IX, hts (.classLink RL 19 IX) (by decide +kernel), hPW.2.2.2.2.1⟩) rfl (by decide) (hts (.classLink RL 21 IA) (tm 831 (by decide +kernel) rfl)) (va_Nw.use rfl hPW.1.2.1.2.1.2) hce1 hce2 hce3 ?_
    refine lv_astore (lv' := [(6, .ref q9), (0, .ref (ad 57)), (1, .int (nI i)), (2, .int (nI k)), (3, .int x2), (4, .int x3), (5, .ref o)]) hx hb dL_fill_22 hl (by decide) rfl (fun ls hl => ?_)
    refine lv_iconst (v := nI 2) hx hb dL_fill_24 (by decide) ?_
    obtain ⟨n9, hN⟩ := hO
    exact W.widen (k := 1) (n := 6) (by simp) (by simp) (W.iret (v := nI 2) hx hb hr (fun t9 ht9 hW9 => ⟨⟨_, (S, n9), rfl, ⟨LQ_same hI h5, (Or.inr (Or.inr (Or.inl ⟨i, k, hi, hk, rfl, rfl, hb9, rfl, rfl⟩)))⟩, hX.P ht9 hW9, by rw [ht9]; exact hN⟩, hX.2.2.2.F ht9⟩) hX.2.2.2.2.2 dL_fill_25)
  replace hk2 : k2 ≤ 99 := by omega
  rcases lim_le 99 (by decide) x3 with ⟨k3, hk3, rfl⟩ | hb9
  rotate_left
  · skip
    refine kl_throw (vx_runV (As := [.int (nI i), .int (nI k), .int (nI k2), .int x3]) (rest := [.ref o]) ⟨hx, hb, hml, hown, hts⟩ (t_X4_fill_4 l hst dC dI ad S i k k2 x3 hi hk hk2 hb9) (cwV 4 hts gL_fill_X4_fill rfl rfl rfl hdX4_fill_4 ⟨Nat.le_of_ble_eq_true rfl, Nat.le_of_ble_eq_true rfl⟩) hPW.1.preX rfl rfl hl.1 rfl (lv_room (Nat.le_of_ble_eq_true rfl)) dL_fill_8 ⟨Nat.le_of_ble_eq_true rfl, Nat.le_of_ble_eq_true rfl⟩) hX hO (fun ce q9 H hce1 hce2 hce3 hX hO => ?_)
    refine vx_catch hown [⟨0, 15, 18, 19⟩] ⟨0, 15, 22, 21⟩ [] (htab.trans rfl) (fun z hz => by rw [List.mem_singleton.mp hz]; exact Or.inr ⟨by decide, IX, hts (.classLink RL 19 IX) (by decide +kernel), hPW.2.2.2.2.1⟩) rfl (by decide) (hts (.classLink RL 21 IA) (tm 831 (by decide +kernel) rfl)) (va_Nw.use rfl hPW.1.2.1.2.1.2) hce1 hce2 hce3 ?_
    refine lv_astore (lv' := [(6, .ref q9), (0, .ref (ad 57)), (1, .int (nI i)), (2, .int (nI k)), (3, .int (nI k2)), (4, .int x3), (5, .ref o)]) hx hb dL_fill_22 hl (by decide) rfl (fun ls hl => ?_)
    refine lv_iconst (v := nI 2) hx hb dL_fill_24 (by decide) ?_
    obtain ⟨n9, hN⟩ := hO
    exact W.widen (k := 1) (n := 6) (by simp) (by simp) (W.iret (v := nI 2) hx hb hr (fun t9 ht9 hW9 => ⟨⟨_, (S, n9), rfl, ⟨LQ_same hI h5, (Or.inr (Or.inr (Or.inr (Or.inl ⟨i, k, k2, hi, hk, hk2, rfl, rfl, rfl, hb9, rfl, rfl⟩))))⟩, hX.P ht9 hW9, by rw [ht9]; exact hN⟩, hX.2.2.2.F ht9⟩) hX.2.2.2.2.2 dL_fill_25)
  replace hk3 : k3 ≤ 99 := by omega
  refine kl_ci (va_runV (As := [.int (nI i), .int (nI k), .int (nI k2), .int (nI k3)]) (rest := [.ref o]) ⟨hx, hb, hml, hown, hts⟩ (m_X4_fill l dC dI ad S i k k2 k3 hi hk hk2 hk3 hI) (cwV 4 hts gL_fill_X4_fill rfl rfl rfl hdX4_fill_4 ⟨Nat.le_of_ble_eq_true rfl, Nat.le_of_ble_eq_true rfl⟩) (hX.preTop 57 6 (by decide) (by decide) rfl rfl) rfl rfl hl.1 rfl (lv_room (Nat.le_of_ble_eq_true rfl)) dL_fill_8 ⟨Nat.le_of_ble_eq_true rfl, Nat.le_of_ble_eq_true rfl⟩) hX hO hno (fun r9 S1 H locs hw hX hO => ?_)
  have hLQ : LQ S S1 := LQ_fill hI h5 hc hi hk hw
  refine lv_i2l (v := r9.toInt64) hx hb dL_fill_11 rfl ?_
  refine kl_putn hx hb hts hin5 hown hX hO hno (host := "OrderlatticeLaw") (va_Nw.use rfl hPW.2.2.2.2.2.1) dL_fill_12 (fun H locs hX hN => ?_)
  refine lv_goto (tgt := 26) hx hb dL_fill_15 (by decide) ?_
  refine lv_iconst (v := nI 0) hx hb dL_fill_26 (by decide) ?_
  exact W.widen (k := 1) (n := 6) (by simp) (by simp) (W.iret (v := nI 0) hx hb hr (fun t9 ht9 hW9 => ⟨⟨_, (S1, r9.toInt64), rfl, ⟨hLQ, (Or.inr (Or.inr (Or.inr (Or.inr ⟨i, k, k2, k3, r9, hi, hk, hk2, hk3, rfl, rfl, rfl, rfl, rfl, rfl, hw⟩))))⟩, hX.P ht9 hW9, by rw [ht9]; exact hN⟩, hX.2.2.2.F ht9⟩) hX.2.2.2.2.2 dL_fill_27)
set_option maxHeartbeats 4000000 in
set_option maxRecDepth 100000 in
theorem m_L_drop (l : Launch) (hst : l.stackTraces = false) (dC : Nat → ClassId) (dI : Nat → Nat → Nat) (cB : ClassId) (ad : Nat → Nat) (o : Nat) (S : XS) (x0 : Int32) (x1 : Int32) (hI : InvX S) (h5 : ∀ j, j < 4 → (S.2.1 j).2.2.2.2.1 ≤ 5) (hc : S.2.2.1 + 12 < 1000000) : Met l yL_drop wsL_drop ({ frames := 9, cells := 1, slots := 6, locals := 147 } : Room) (va_Pc [.ref (ad 57), .int x0, .int x1, .ref o] (PW dC dI cB ad o S)) (va_Qi (fun r (u : XS × Int64) => LQ S u.1 ∧ R_drop x0 x1 S r u.1 u.2) (PO2 dC dI ad o) (AO ad o)) 1 6 (AO ad o) := by
  refine va_MetW (cc := cL_drop) (maxL := 5) (ret := (some .int)) pl_L rfl ?_
  intro p e s m args below meth c s₁ B hml hv
  obtain ⟨rfl, hPW⟩ := hv
  have hx := B.exec
  have hb := B.bytes
  have hr := B.returns
  have hts := atoms_spec (ws := wsL_drop) B.pre
  have htab := vx_table (x := yL_drop) B (hts (.codeWith yL_drop cL_drop 5 (some .int) [(0, 11, 14, 19)]) (by unfold wsL_drop; exact List.mem_cons_self))
  have hown : s.vm.findClass RL = some m.cls := findClass_of_methodNamed B.named
  have hlocks := B.notSynchronized
  have hin5 : ∀ w ∈ u_ws RX5 TX5 2, w ∈ wsL_drop := tu 1332 (by decide +kernel) rfl
  have hX := WX.ofW hPW
  have hO := hPW.2.2.1
  have hno := hPW.2.2.2.1
  have hl := lv_entry ([.ref (ad 57), .int x0, .int x1, .ref o]) (n := 5) (Nat.le_of_ble_eq_true rfl)
  rw [lg_entry_eq]
  generalize (lg_sl ([.ref (ad 57), .int x0, .int x1, .ref o]) ++ List.replicate (5 - (lg_sl ([.ref (ad 57), .int x0, .int x1, .ref o])).length) Slot.unset).toArray = ls at hl ⊢
  have hl : lv_has ls 5 [(0, .ref (ad 57)), (1, .int x0), (2, .int x1), (3, .ref o)] := hl
  show W p l e ({ frames := 9, cells := 1, slots := 6, locals := 147 } : Room) s m ([.ref (ad 57), .int x0, .int x1, .ref o]).toArray below meth c s.heap [] 0 0 (MQ below (va_Qi (fun r (u : XS × Int64) => LQ S u.1 ∧ R_drop x0 x1 S r u.1 u.2) (PO2 dC dI ad o) (AO ad o)) ([.ref (ad 57), .int x0, .int x1, .ref o]).toArray s 1 6 (AO ad o)) (F0 m 0 ls [])
  refine lv_aload_n hx hb dL_drop_0 rfl (lv_at hl 3 rfl) ?_
  refine lv_aload_n hx hb dL_drop_1 rfl (lv_at hl 0 rfl) ?_
  refine lv_iload_n hx hb dL_drop_2 rfl (lv_at hl 1 rfl) ?_
  refine lv_iload_n hx hb dL_drop_3 rfl (lv_at hl 2 rfl) ?_
  rcases lim_lt 3 (by decide) x0 with ⟨i, hi, rfl⟩ | hb9
  rotate_left
  · skip
    refine kl_throw (vx_runV (As := [.int x0, .int x1]) (rest := [.ref o]) ⟨hx, hb, hml, hown, hts⟩ (t_X4_drop_1 l hst dC dI ad S x0 x1 hb9) (cwV 2 hts gL_drop_X4_drop rfl rfl rfl hdX4_drop_2 ⟨Nat.le_of_ble_eq_true rfl, Nat.le_of_ble_eq_true rfl⟩) hPW.1.preX rfl rfl hl.1 rfl (lv_room (Nat.le_of_ble_eq_true rfl)) dL_drop_4 ⟨Nat.le_of_ble_eq_true rfl, Nat.le_of_ble_eq_true rfl⟩) hX hO (fun ce q9 H hce1 hce2 hce3 hX hO => ?_)
    refine vx_catch hown [] ⟨0, 11, 14, 19⟩ [] (htab.trans rfl) (fun _ h => nomatch h) rfl (by decide) (hts (.classLink RL 19 IX) (tm 830 (by decide +kernel) rfl)) (va_Nw.use rfl hPW.1.2.1.2.1.1) hce1 hce2 hce3 ?_
    refine lv_astore (lv' := [(4, .ref q9), (0, .ref (ad 57)), (1, .int x0), (2, .int x1), (3, .ref o)]) hx hb dL_drop_14 hl (by decide) rfl (fun ls hl => ?_)
    refine lv_iconst (v := nI 1) hx hb dL_drop_16 (by decide) ?_
    obtain ⟨n9, hN⟩ := hO
    exact W.widen (k := 1) (n := 6) (by simp) (by simp) (W.iret (v := nI 1) hx hb hr (fun t9 ht9 hW9 => ⟨⟨_, (S, n9), rfl, ⟨LQ_same hI h5, (Or.inl ⟨hb9, rfl, rfl⟩)⟩, hX.P ht9 hW9, by rw [ht9]; exact hN⟩, hX.2.2.2.F ht9⟩) hX.2.2.2.2.2 dL_drop_17)
  replace hi : i < 3 := by omega
  have hn := (hI.1 i (by omega)).1
  rcases lim_lt (S.1 i).2.2 (by omega) x1 with ⟨q, hq, rfl⟩ | hb9
  rotate_left
  · skip
    refine kl_throw (vx_runV (As := [.int (nI i), .int x1]) (rest := [.ref o]) ⟨hx, hb, hml, hown, hts⟩ (t_X4_drop_2 l hst dC dI ad S i x1 hi (by omega) hb9) (cwV 2 hts gL_drop_X4_drop rfl rfl rfl hdX4_drop_2 ⟨Nat.le_of_ble_eq_true rfl, Nat.le_of_ble_eq_true rfl⟩) hPW.1.preX rfl rfl hl.1 rfl (lv_room (Nat.le_of_ble_eq_true rfl)) dL_drop_4 ⟨Nat.le_of_ble_eq_true rfl, Nat.le_of_ble_eq_true rfl⟩) hX hO (fun ce q9 H hce1 hce2 hce3 hX hO => ?_)
    refine vx_catch hown [] ⟨0, 11, 14, 19⟩ [] (htab.trans rfl) (fun _ h => nomatch h) rfl (by decide) (hts (.classLink RL 19 IX) (tm 830 (by decide +kernel) rfl)) (va_Nw.use rfl hPW.1.2.1.2.1.1) hce1 hce2 hce3 ?_
    refine lv_astore (lv' := [(4, .ref q9), (0, .ref (ad 57)), (1, .int (nI i)), (2, .int x1), (3, .ref o)]) hx hb dL_drop_14 hl (by decide) rfl (fun ls hl => ?_)
    refine lv_iconst (v := nI 1) hx hb dL_drop_16 (by decide) ?_
    obtain ⟨n9, hN⟩ := hO
    exact W.widen (k := 1) (n := 6) (by simp) (by simp) (W.iret (v := nI 1) hx hb hr (fun t9 ht9 hW9 => ⟨⟨_, (S, n9), rfl, ⟨LQ_same hI h5, (Or.inr (Or.inl ⟨i, hi, rfl, hb9, rfl, rfl⟩))⟩, hX.P ht9 hW9, by rw [ht9]; exact hN⟩, hX.2.2.2.F ht9⟩) hX.2.2.2.2.2 dL_drop_17)
  replace hq : q < (S.1 i).2.2 := by omega
  refine kl_ci (va_runV (As := [.int (nI i), .int (nI q)]) (rest := [.ref o]) ⟨hx, hb, hml, hown, hts⟩ (m_X4_drop l dC dI ad S i q hi hq hI) (cwV 2 hts gL_drop_X4_drop rfl rfl rfl hdX4_drop_2 ⟨Nat.le_of_ble_eq_true rfl, Nat.le_of_ble_eq_true rfl⟩) (hX.preTop 57 6 (by decide) (by decide) rfl rfl) rfl rfl hl.1 rfl (lv_room (Nat.le_of_ble_eq_true rfl)) dL_drop_4 ⟨Nat.le_of_ble_eq_true rfl, Nat.le_of_ble_eq_true rfl⟩) hX hO hno (fun r9 S1 H locs hw hX hO => ?_)
  have hLQ : LQ S S1 := by rw [hw.2]; exact LQ_row0 hI h5 (rowOK_rem (hI.1 i (by omega)) hq)
  refine lv_i2l (v := r9.toInt64) hx hb dL_drop_7 rfl ?_
  refine kl_putn hx hb hts hin5 hown hX hO hno (host := "OrderlatticeLaw") (va_Nw.use rfl hPW.2.2.2.2.2.1) dL_drop_8 (fun H locs hX hN => ?_)
  refine lv_goto (tgt := 18) hx hb dL_drop_11 (by decide) ?_
  refine lv_iconst (v := nI 0) hx hb dL_drop_18 (by decide) ?_
  exact W.widen (k := 1) (n := 6) (by simp) (by simp) (W.iret (v := nI 0) hx hb hr (fun t9 ht9 hW9 => ⟨⟨_, (S1, r9.toInt64), rfl, ⟨hLQ, (Or.inr (Or.inr ⟨i, q, r9, hi, hq, rfl, rfl, rfl, rfl, hw⟩))⟩, hX.P ht9 hW9, by rw [ht9]; exact hN⟩, hX.2.2.2.F ht9⟩) hX.2.2.2.2.2 dL_drop_19)
set_option maxHeartbeats 4000000 in
set_option maxRecDepth 100000 in
theorem m_L_clear (l : Launch) (hst : l.stackTraces = false) (dC : Nat → ClassId) (dI : Nat → Nat → Nat) (cB : ClassId) (ad : Nat → Nat) (o : Nat) (S : XS) (x0 : Int32) (hI : InvX S) (h5 : ∀ j, j < 4 → (S.2.1 j).2.2.2.2.1 ≤ 5) (hc : S.2.2.1 + 12 < 1000000) : Met l yL_clear wsL_clear ({ frames := 9, cells := 1, slots := 6, locals := 146 } : Room) (va_Pc [.ref (ad 57), .int x0, .ref o] (PW dC dI cB ad o S)) (va_Qi (fun r (u : XS × Int64) => LQ S u.1 ∧ R_clear x0 S r u.1 u.2) (PO2 dC dI ad o) (AO ad o)) 1 6 (AO ad o) := by
  refine va_MetW (cc := cL_clear) (maxL := 4) (ret := (some .int)) pl_L rfl ?_
  intro p e s m args below meth c s₁ B hml hv
  obtain ⟨rfl, hPW⟩ := hv
  have hx := B.exec
  have hb := B.bytes
  have hr := B.returns
  have hts := atoms_spec (ws := wsL_clear) B.pre
  have htab := vx_table (x := yL_clear) B (hts (.codeWith yL_clear cL_clear 4 (some .int) [(0, 10, 13, 19)]) (by unfold wsL_clear; exact List.mem_cons_self))
  have hown : s.vm.findClass RL = some m.cls := findClass_of_methodNamed B.named
  have hlocks := B.notSynchronized
  have hin5 : ∀ w ∈ u_ws RX5 TX5 2, w ∈ wsL_clear := tu 1332 (by decide +kernel) rfl
  have hX := WX.ofW hPW
  have hO := hPW.2.2.1
  have hno := hPW.2.2.2.1
  have hl := lv_entry ([.ref (ad 57), .int x0, .ref o]) (n := 4) (Nat.le_of_ble_eq_true rfl)
  rw [lg_entry_eq]
  generalize (lg_sl ([.ref (ad 57), .int x0, .ref o]) ++ List.replicate (4 - (lg_sl ([.ref (ad 57), .int x0, .ref o])).length) Slot.unset).toArray = ls at hl ⊢
  have hl : lv_has ls 4 [(0, .ref (ad 57)), (1, .int x0), (2, .ref o)] := hl
  show W p l e ({ frames := 9, cells := 1, slots := 6, locals := 146 } : Room) s m ([.ref (ad 57), .int x0, .ref o]).toArray below meth c s.heap [] 0 0 (MQ below (va_Qi (fun r (u : XS × Int64) => LQ S u.1 ∧ R_clear x0 S r u.1 u.2) (PO2 dC dI ad o) (AO ad o)) ([.ref (ad 57), .int x0, .ref o]).toArray s 1 6 (AO ad o)) (F0 m 0 ls [])
  refine lv_aload_n hx hb dL_clear_0 rfl (lv_at hl 2 rfl) ?_
  refine lv_aload_n hx hb dL_clear_1 rfl (lv_at hl 0 rfl) ?_
  refine lv_iload_n hx hb dL_clear_2 rfl (lv_at hl 1 rfl) ?_
  rcases lim_lt 3 (by decide) x0 with ⟨i, hi, rfl⟩ | hb9
  rotate_left
  · skip
    refine kl_throw (vx_runV (As := [.int x0]) (rest := [.ref o]) ⟨hx, hb, hml, hown, hts⟩ (t_X4_clear_1 l hst dC dI ad S x0 hb9) (cwV 1 hts gL_clear_X4_clear rfl rfl rfl hdX4_clear_1 ⟨Nat.le_of_ble_eq_true rfl, Nat.le_of_ble_eq_true rfl⟩) hPW.1.preX rfl rfl hl.1 rfl (lv_room (Nat.le_of_ble_eq_true rfl)) dL_clear_3 ⟨Nat.le_of_ble_eq_true rfl, Nat.le_of_ble_eq_true rfl⟩) hX hO (fun ce q9 H hce1 hce2 hce3 hX hO => ?_)
    refine vx_catch hown [] ⟨0, 10, 13, 19⟩ [] (htab.trans rfl) (fun _ h => nomatch h) rfl (by decide) (hts (.classLink RL 19 IX) (tm 830 (by decide +kernel) rfl)) (va_Nw.use rfl hPW.1.2.1.2.1.1) hce1 hce2 hce3 ?_
    refine lv_astore_n (lv' := [(3, .ref q9), (0, .ref (ad 57)), (1, .int x0), (2, .ref o)]) hx hb dL_clear_13 rfl hl (by decide) rfl (fun ls hl => ?_)
    refine lv_iconst (v := nI 1) hx hb dL_clear_14 (by decide) ?_
    obtain ⟨n9, hN⟩ := hO
    exact W.widen (k := 1) (n := 6) (by simp) (by simp) (W.iret (v := nI 1) hx hb hr (fun t9 ht9 hW9 => ⟨⟨_, (S, n9), rfl, ⟨LQ_same hI h5, (Or.inl ⟨hb9, rfl, rfl⟩)⟩, hX.P ht9 hW9, by rw [ht9]; exact hN⟩, hX.2.2.2.F ht9⟩) hX.2.2.2.2.2 dL_clear_15)
  replace hi : i < 3 := by omega
  have hn := (hI.1 i (by omega)).1
  refine kl_ci (va_runV (As := [.int (nI i)]) (rest := [.ref o]) ⟨hx, hb, hml, hown, hts⟩ (m_X4_clear l dC dI ad S i hi hI) (cwV 1 hts gL_clear_X4_clear rfl rfl rfl hdX4_clear_1 ⟨Nat.le_of_ble_eq_true rfl, Nat.le_of_ble_eq_true rfl⟩) (hX.preTop 57 6 (by decide) (by decide) rfl rfl) rfl rfl hl.1 rfl (lv_room (Nat.le_of_ble_eq_true rfl)) dL_clear_3 ⟨Nat.le_of_ble_eq_true rfl, Nat.le_of_ble_eq_true rfl⟩) hX hO hno (fun r9 S1 H locs hw hX hO => ?_)
  have hLQ : LQ S S1 := by rw [hw.2]; exact LQ_row0 hI h5 (rowOK_0 (hI.1 i (by omega)))
  refine lv_i2l (v := r9.toInt64) hx hb dL_clear_6 rfl ?_
  refine kl_putn hx hb hts hin5 hown hX hO hno (host := "OrderlatticeLaw") (va_Nw.use rfl hPW.2.2.2.2.2.1) dL_clear_7 (fun H locs hX hN => ?_)
  refine lv_goto (tgt := 16) hx hb dL_clear_10 (by decide) ?_
  refine lv_iconst (v := nI 0) hx hb dL_clear_16 (by decide) ?_
  exact W.widen (k := 1) (n := 6) (by simp) (by simp) (W.iret (v := nI 0) hx hb hr (fun t9 ht9 hW9 => ⟨⟨_, (S1, r9.toInt64), rfl, ⟨hLQ, (Or.inr ⟨i, r9, hi, rfl, rfl, rfl, hw⟩)⟩, hX.P ht9 hW9, by rw [ht9]; exact hN⟩, hX.2.2.2.F ht9⟩) hX.2.2.2.2.2 dL_clear_17)
set_option maxHeartbeats 4000000 in
set_option maxRecDepth 100000 in
theorem m_L_copyRow (l : Launch) (hst : l.stackTraces = false) (dC : Nat → ClassId) (dI : Nat → Nat → Nat) (cB : ClassId) (ad : Nat → Nat) (o : Nat) (S : XS) (x0 : Int32) (x1 : Int32) (hI : InvX S) (h5 : ∀ j, j < 4 → (S.2.1 j).2.2.2.2.1 ≤ 5) (hc : S.2.2.1 + 12 < 1000000) : Met l yL_copyRow wsL_copyRow ({ frames := 9, cells := 1, slots := 6, locals := 147 } : Room) (va_Pc [.ref (ad 57), .int x0, .int x1, .ref o] (PW dC dI cB ad o S)) (va_Qi (fun r (u : XS × Int64) => LQ S u.1 ∧ R_copyRow x0 x1 S r u.1 u.2) (PO2 dC dI ad o) (AO ad o)) 1 6 (AO ad o) := by
  refine va_MetW (cc := cL_copyRow) (maxL := 5) (ret := (some .int)) pl_L rfl ?_
  intro p e s m args below meth c s₁ B hml hv
  obtain ⟨rfl, hPW⟩ := hv
  have hx := B.exec
  have hb := B.bytes
  have hr := B.returns
  have hts := atoms_spec (ws := wsL_copyRow) B.pre
  have htab := vx_table (x := yL_copyRow) B (hts (.codeWith yL_copyRow cL_copyRow 5 (some .int) [(0, 11, 14, 19)]) (by unfold wsL_copyRow; exact List.mem_cons_self))
  have hown : s.vm.findClass RL = some m.cls := findClass_of_methodNamed B.named
  have hlocks := B.notSynchronized
  have hin5 : ∀ w ∈ u_ws RX5 TX5 2, w ∈ wsL_copyRow := tu 1332 (by decide +kernel) rfl
  have hX := WX.ofW hPW
  have hO := hPW.2.2.1
  have hno := hPW.2.2.2.1
  have hl := lv_entry ([.ref (ad 57), .int x0, .int x1, .ref o]) (n := 5) (Nat.le_of_ble_eq_true rfl)
  rw [lg_entry_eq]
  generalize (lg_sl ([.ref (ad 57), .int x0, .int x1, .ref o]) ++ List.replicate (5 - (lg_sl ([.ref (ad 57), .int x0, .int x1, .ref o])).length) Slot.unset).toArray = ls at hl ⊢
  have hl : lv_has ls 5 [(0, .ref (ad 57)), (1, .int x0), (2, .int x1), (3, .ref o)] := hl
  show W p l e ({ frames := 9, cells := 1, slots := 6, locals := 147 } : Room) s m ([.ref (ad 57), .int x0, .int x1, .ref o]).toArray below meth c s.heap [] 0 0 (MQ below (va_Qi (fun r (u : XS × Int64) => LQ S u.1 ∧ R_copyRow x0 x1 S r u.1 u.2) (PO2 dC dI ad o) (AO ad o)) ([.ref (ad 57), .int x0, .int x1, .ref o]).toArray s 1 6 (AO ad o)) (F0 m 0 ls [])
  refine lv_aload_n hx hb dL_copyRow_0 rfl (lv_at hl 3 rfl) ?_
  refine lv_aload_n hx hb dL_copyRow_1 rfl (lv_at hl 0 rfl) ?_
  refine lv_iload_n hx hb dL_copyRow_2 rfl (lv_at hl 1 rfl) ?_
  refine lv_iload_n hx hb dL_copyRow_3 rfl (lv_at hl 2 rfl) ?_
  rcases lim_lt 3 (by decide) x0 with ⟨i, hi, rfl⟩ | hb9
  rotate_left
  · skip
    refine kl_throw (vx_runV (As := [.int x0, .int x1]) (rest := [.ref o]) ⟨hx, hb, hml, hown, hts⟩ (t_X4_copyRow_1 l hst dC dI ad S x0 x1 hb9) (cwV 2 hts gL_copyRow_X4_copyRow rfl rfl rfl hdX4_copyRow_2 ⟨Nat.le_of_ble_eq_true rfl, Nat.le_of_ble_eq_true rfl⟩) hPW.1.preX rfl rfl hl.1 rfl (lv_room (Nat.le_of_ble_eq_true rfl)) dL_copyRow_4 ⟨Nat.le_of_ble_eq_true rfl, Nat.le_of_ble_eq_true rfl⟩) hX hO (fun ce q9 H hce1 hce2 hce3 hX hO => ?_)
    refine vx_catch hown [] ⟨0, 11, 14, 19⟩ [] (htab.trans rfl) (fun _ h => nomatch h) rfl (by decide) (hts (.classLink RL 19 IX) (tm 830 (by decide +kernel) rfl)) (va_Nw.use rfl hPW.1.2.1.2.1.1) hce1 hce2 hce3 ?_
    refine lv_astore (lv' := [(4, .ref q9), (0, .ref (ad 57)), (1, .int x0), (2, .int x1), (3, .ref o)]) hx hb dL_copyRow_14 hl (by decide) rfl (fun ls hl => ?_)
    refine lv_iconst (v := nI 1) hx hb dL_copyRow_16 (by decide) ?_
    obtain ⟨n9, hN⟩ := hO
    exact W.widen (k := 1) (n := 6) (by simp) (by simp) (W.iret (v := nI 1) hx hb hr (fun t9 ht9 hW9 => ⟨⟨_, (S, n9), rfl, ⟨LQ_same hI h5, (Or.inl ⟨hb9, rfl, rfl⟩)⟩, hX.P ht9 hW9, by rw [ht9]; exact hN⟩, hX.2.2.2.F ht9⟩) hX.2.2.2.2.2 dL_copyRow_17)
  replace hi : i < 3 := by omega
  have hn := (hI.1 i (by omega)).1
  rcases lim_lt 3 (by decide) x1 with ⟨i2, hi2, rfl⟩ | hb9
  rotate_left
  · skip
    refine kl_throw (vx_runV (As := [.int (nI i), .int x1]) (rest := [.ref o]) ⟨hx, hb, hml, hown, hts⟩ (t_X4_copyRow_2 l hst dC dI ad S i x1 hi hb9) (cwV 2 hts gL_copyRow_X4_copyRow rfl rfl rfl hdX4_copyRow_2 ⟨Nat.le_of_ble_eq_true rfl, Nat.le_of_ble_eq_true rfl⟩) hPW.1.preX rfl rfl hl.1 rfl (lv_room (Nat.le_of_ble_eq_true rfl)) dL_copyRow_4 ⟨Nat.le_of_ble_eq_true rfl, Nat.le_of_ble_eq_true rfl⟩) hX hO (fun ce q9 H hce1 hce2 hce3 hX hO => ?_)
    refine vx_catch hown [] ⟨0, 11, 14, 19⟩ [] (htab.trans rfl) (fun _ h => nomatch h) rfl (by decide) (hts (.classLink RL 19 IX) (tm 830 (by decide +kernel) rfl)) (va_Nw.use rfl hPW.1.2.1.2.1.1) hce1 hce2 hce3 ?_
    refine lv_astore (lv' := [(4, .ref q9), (0, .ref (ad 57)), (1, .int (nI i)), (2, .int x1), (3, .ref o)]) hx hb dL_copyRow_14 hl (by decide) rfl (fun ls hl => ?_)
    refine lv_iconst (v := nI 1) hx hb dL_copyRow_16 (by decide) ?_
    obtain ⟨n9, hN⟩ := hO
    exact W.widen (k := 1) (n := 6) (by simp) (by simp) (W.iret (v := nI 1) hx hb hr (fun t9 ht9 hW9 => ⟨⟨_, (S, n9), rfl, ⟨LQ_same hI h5, (Or.inr (Or.inl ⟨i, hi, rfl, hb9, rfl, rfl⟩))⟩, hX.P ht9 hW9, by rw [ht9]; exact hN⟩, hX.2.2.2.F ht9⟩) hX.2.2.2.2.2 dL_copyRow_17)
  replace hi2 : i2 < 3 := by omega
  refine kl_ci (va_runV (As := [.int (nI i), .int (nI i2)]) (rest := [.ref o]) ⟨hx, hb, hml, hown, hts⟩ (m_X4_copyRow l dC dI ad S i i2 hi hi2 hI) (cwV 2 hts gL_copyRow_X4_copyRow rfl rfl rfl hdX4_copyRow_2 ⟨Nat.le_of_ble_eq_true rfl, Nat.le_of_ble_eq_true rfl⟩) (hX.preTop 57 6 (by decide) (by decide) rfl rfl) rfl rfl hl.1 rfl (lv_room (Nat.le_of_ble_eq_true rfl)) dL_copyRow_4 ⟨Nat.le_of_ble_eq_true rfl, Nat.le_of_ble_eq_true rfl⟩) hX hO hno (fun r9 S1 H locs hw hX hO => ?_)
  have hLQ : LQ S S1 := by rw [hw.2]; exact LQ_row0 hI h5 (rowOK_ovl (hI.1 i2 (by omega)) (hI.1 i (by omega)))
  refine lv_i2l (v := r9.toInt64) hx hb dL_copyRow_7 rfl ?_
  refine kl_putn hx hb hts hin5 hown hX hO hno (host := "OrderlatticeLaw") (va_Nw.use rfl hPW.2.2.2.2.2.1) dL_copyRow_8 (fun H locs hX hN => ?_)
  refine lv_goto (tgt := 18) hx hb dL_copyRow_11 (by decide) ?_
  refine lv_iconst (v := nI 0) hx hb dL_copyRow_18 (by decide) ?_
  exact W.widen (k := 1) (n := 6) (by simp) (by simp) (W.iret (v := nI 0) hx hb hr (fun t9 ht9 hW9 => ⟨⟨_, (S1, r9.toInt64), rfl, ⟨hLQ, (Or.inr (Or.inr ⟨i, i2, r9, hi, hi2, rfl, rfl, rfl, rfl, hw⟩))⟩, hX.P ht9 hW9, by rw [ht9]; exact hN⟩, hX.2.2.2.F ht9⟩) hX.2.2.2.2.2 dL_copyRow_19)
set_option maxHeartbeats 4000000 in
set_option maxRecDepth 100000 in
theorem m_L_turnRow (l : Launch) (hst : l.stackTraces = false) (dC : Nat → ClassId) (dI : Nat → Nat → Nat) (cB : ClassId) (ad : Nat → Nat) (o : Nat) (S : XS) (x0 : Int32) (hI : InvX S) (h5 : ∀ j, j < 4 → (S.2.1 j).2.2.2.2.1 ≤ 5) (hc : S.2.2.1 + 12 < 1000000) : Met l yL_turnRow wsL_turnRow ({ frames := 9, cells := 1, slots := 6, locals := 145 } : Room) (va_Pc [.ref (ad 57), .int x0, .ref o] (PW dC dI cB ad o S)) (va_Qi (fun r (u : XS × Int64) => LQ S u.1 ∧ R_turnRow x0 S r u.1 u.2) (PO2 dC dI ad o) (AO ad o)) 1 6 (AO ad o) := by
  refine va_MetW (cc := cL_turnRow) (maxL := 4) (ret := (some .int)) pl_L rfl ?_
  intro p e s m args below meth c s₁ B hml hv
  obtain ⟨rfl, hPW⟩ := hv
  have hx := B.exec
  have hb := B.bytes
  have hr := B.returns
  have hts := atoms_spec (ws := wsL_turnRow) B.pre
  have htab := vx_table (x := yL_turnRow) B (hts (.codeWith yL_turnRow cL_turnRow 4 (some .int) [(0, 10, 13, 19)]) (by unfold wsL_turnRow; exact List.mem_cons_self))
  have hown : s.vm.findClass RL = some m.cls := findClass_of_methodNamed B.named
  have hlocks := B.notSynchronized
  have hin5 : ∀ w ∈ u_ws RX5 TX5 2, w ∈ wsL_turnRow := tu 1332 (by decide +kernel) rfl
  have hX := WX.ofW hPW
  have hO := hPW.2.2.1
  have hno := hPW.2.2.2.1
  have hl := lv_entry ([.ref (ad 57), .int x0, .ref o]) (n := 4) (Nat.le_of_ble_eq_true rfl)
  rw [lg_entry_eq]
  generalize (lg_sl ([.ref (ad 57), .int x0, .ref o]) ++ List.replicate (4 - (lg_sl ([.ref (ad 57), .int x0, .ref o])).length) Slot.unset).toArray = ls at hl ⊢
  have hl : lv_has ls 4 [(0, .ref (ad 57)), (1, .int x0), (2, .ref o)] := hl
  show W p l e ({ frames := 9, cells := 1, slots := 6, locals := 145 } : Room) s m ([.ref (ad 57), .int x0, .ref o]).toArray below meth c s.heap [] 0 0 (MQ below (va_Qi (fun r (u : XS × Int64) => LQ S u.1 ∧ R_turnRow x0 S r u.1 u.2) (PO2 dC dI ad o) (AO ad o)) ([.ref (ad 57), .int x0, .ref o]).toArray s 1 6 (AO ad o)) (F0 m 0 ls [])
  refine lv_aload_n hx hb dL_turnRow_0 rfl (lv_at hl 2 rfl) ?_
  refine lv_aload_n hx hb dL_turnRow_1 rfl (lv_at hl 0 rfl) ?_
  refine lv_iload_n hx hb dL_turnRow_2 rfl (lv_at hl 1 rfl) ?_
  rcases lim_lt 3 (by decide) x0 with ⟨i, hi, rfl⟩ | hb9
  rotate_left
  · skip
    refine kl_throw (vx_runV (As := [.int x0]) (rest := [.ref o]) ⟨hx, hb, hml, hown, hts⟩ (t_X4_turnRow_1 l hst dC dI ad S x0 hb9) (cwV 1 hts gL_turnRow_X4_turnRow rfl rfl rfl hdX4_turnRow_1 ⟨Nat.le_of_ble_eq_true rfl, Nat.le_of_ble_eq_true rfl⟩) hPW.1.preX rfl rfl hl.1 rfl (lv_room (Nat.le_of_ble_eq_true rfl)) dL_turnRow_3 ⟨Nat.le_of_ble_eq_true rfl, Nat.le_of_ble_eq_true rfl⟩) hX hO (fun ce q9 H hce1 hce2 hce3 hX hO => ?_)
    refine vx_catch hown [] ⟨0, 10, 13, 19⟩ [] (htab.trans rfl) (fun _ h => nomatch h) rfl (by decide) (hts (.classLink RL 19 IX) (tm 830 (by decide +kernel) rfl)) (va_Nw.use rfl hPW.1.2.1.2.1.1) hce1 hce2 hce3 ?_
    refine lv_astore_n (lv' := [(3, .ref q9), (0, .ref (ad 57)), (1, .int x0), (2, .ref o)]) hx hb dL_turnRow_13 rfl hl (by decide) rfl (fun ls hl => ?_)
    refine lv_iconst (v := nI 1) hx hb dL_turnRow_14 (by decide) ?_
    obtain ⟨n9, hN⟩ := hO
    exact W.widen (k := 1) (n := 6) (by simp) (by simp) (W.iret (v := nI 1) hx hb hr (fun t9 ht9 hW9 => ⟨⟨_, (S, n9), rfl, ⟨LQ_same hI h5, (Or.inl ⟨hb9, rfl, rfl⟩)⟩, hX.P ht9 hW9, by rw [ht9]; exact hN⟩, hX.2.2.2.F ht9⟩) hX.2.2.2.2.2 dL_turnRow_15)
  replace hi : i < 3 := by omega
  have hn := (hI.1 i (by omega)).1
  refine kl_ci (va_runV (As := [.int (nI i)]) (rest := [.ref o]) ⟨hx, hb, hml, hown, hts⟩ (m_X4_turnRow l dC dI ad S i hi hI) (cwV 1 hts gL_turnRow_X4_turnRow rfl rfl rfl hdX4_turnRow_1 ⟨Nat.le_of_ble_eq_true rfl, Nat.le_of_ble_eq_true rfl⟩) (hX.preTop 57 6 (by decide) (by decide) rfl rfl) rfl rfl hl.1 rfl (lv_room (Nat.le_of_ble_eq_true rfl)) dL_turnRow_3 ⟨Nat.le_of_ble_eq_true rfl, Nat.le_of_ble_eq_true rfl⟩) hX hO hno (fun r9 S1 H locs hw hX hO => ?_)
  have hLQ : LQ S S1 := by rw [hw.2]; exact LQ_row0 hI h5 (rowOK_rev (hI.1 i (by omega)))
  refine lv_i2l (v := r9.toInt64) hx hb dL_turnRow_6 rfl ?_
  refine kl_putn hx hb hts hin5 hown hX hO hno (host := "OrderlatticeLaw") (va_Nw.use rfl hPW.2.2.2.2.2.1) dL_turnRow_7 (fun H locs hX hN => ?_)
  refine lv_goto (tgt := 16) hx hb dL_turnRow_10 (by decide) ?_
  refine lv_iconst (v := nI 0) hx hb dL_turnRow_16 (by decide) ?_
  exact W.widen (k := 1) (n := 6) (by simp) (by simp) (W.iret (v := nI 0) hx hb hr (fun t9 ht9 hW9 => ⟨⟨_, (S1, r9.toInt64), rfl, ⟨hLQ, (Or.inr ⟨i, r9, hi, rfl, rfl, rfl, hw⟩)⟩, hX.P ht9 hW9, by rw [ht9]; exact hN⟩, hX.2.2.2.F ht9⟩) hX.2.2.2.2.2 dL_turnRow_17)
set_option maxHeartbeats 4000000 in
set_option maxRecDepth 100000 in
theorem m_L_wheel (l : Launch) (hst : l.stackTraces = false) (dC : Nat → ClassId) (dI : Nat → Nat → Nat) (cB : ClassId) (ad : Nat → Nat) (o : Nat) (S : XS) (x0 : Int32) (x1 : Int32) (hI : InvX S) (h5 : ∀ j, j < 4 → (S.2.1 j).2.2.2.2.1 ≤ 5) (hc : S.2.2.1 + 12 < 1000000) : Met l yL_wheel wsL_wheel ({ frames := 9, cells := 1, slots := 6, locals := 149 } : Room) (va_Pc [.ref (ad 57), .int x0, .int x1, .ref o] (PW dC dI cB ad o S)) (va_Qi (fun r (u : XS × Int64) => LQ S u.1 ∧ R_wheel x0 x1 S r u.1 u.2) (PO2 dC dI ad o) (AO ad o)) 1 6 (AO ad o) := by
  refine va_MetW (cc := cL_wheel) (maxL := 5) (ret := (some .int)) pl_L rfl ?_
  intro p e s m args below meth c s₁ B hml hv
  obtain ⟨rfl, hPW⟩ := hv
  have hx := B.exec
  have hb := B.bytes
  have hr := B.returns
  have hts := atoms_spec (ws := wsL_wheel) B.pre
  have htab := vx_table (x := yL_wheel) B (hts (.codeWith yL_wheel cL_wheel 5 (some .int) [(0, 11, 14, 19)]) (by unfold wsL_wheel; exact List.mem_cons_self))
  have hown : s.vm.findClass RL = some m.cls := findClass_of_methodNamed B.named
  have hlocks := B.notSynchronized
  have hin5 : ∀ w ∈ u_ws RX5 TX5 2, w ∈ wsL_wheel := tu 1332 (by decide +kernel) rfl
  have hX := WX.ofW hPW
  have hO := hPW.2.2.1
  have hno := hPW.2.2.2.1
  have hl := lv_entry ([.ref (ad 57), .int x0, .int x1, .ref o]) (n := 5) (Nat.le_of_ble_eq_true rfl)
  rw [lg_entry_eq]
  generalize (lg_sl ([.ref (ad 57), .int x0, .int x1, .ref o]) ++ List.replicate (5 - (lg_sl ([.ref (ad 57), .int x0, .int x1, .ref o])).length) Slot.unset).toArray = ls at hl ⊢
  have hl : lv_has ls 5 [(0, .ref (ad 57)), (1, .int x0), (2, .int x1), (3, .ref o)] := hl
  show W p l e ({ frames := 9, cells := 1, slots := 6, locals := 149 } : Room) s m ([.ref (ad 57), .int x0, .int x1, .ref o]).toArray below meth c s.heap [] 0 0 (MQ below (va_Qi (fun r (u : XS × Int64) => LQ S u.1 ∧ R_wheel x0 x1 S r u.1 u.2) (PO2 dC dI ad o) (AO ad o)) ([.ref (ad 57), .int x0, .int x1, .ref o]).toArray s 1 6 (AO ad o)) (F0 m 0 ls [])
  refine lv_aload_n hx hb dL_wheel_0 rfl (lv_at hl 3 rfl) ?_
  refine lv_aload_n hx hb dL_wheel_1 rfl (lv_at hl 0 rfl) ?_
  refine lv_iload_n hx hb dL_wheel_2 rfl (lv_at hl 1 rfl) ?_
  refine lv_iload_n hx hb dL_wheel_3 rfl (lv_at hl 2 rfl) ?_
  rcases lim_lt 3 (by decide) x0 with ⟨i, hi, rfl⟩ | hb9
  rotate_left
  · skip
    refine kl_throw (vx_runV (As := [.int x0, .int x1]) (rest := [.ref o]) ⟨hx, hb, hml, hown, hts⟩ (t_X4_wheel_1 l hst dC dI ad S x0 x1 hb9) (cwV 2 hts gL_wheel_X4_wheel rfl rfl rfl hdX4_wheel_2 ⟨Nat.le_of_ble_eq_true rfl, Nat.le_of_ble_eq_true rfl⟩) hPW.1.preX rfl rfl hl.1 rfl (lv_room (Nat.le_of_ble_eq_true rfl)) dL_wheel_4 ⟨Nat.le_of_ble_eq_true rfl, Nat.le_of_ble_eq_true rfl⟩) hX hO (fun ce q9 H hce1 hce2 hce3 hX hO => ?_)
    refine vx_catch hown [] ⟨0, 11, 14, 19⟩ [] (htab.trans rfl) (fun _ h => nomatch h) rfl (by decide) (hts (.classLink RL 19 IX) (tm 830 (by decide +kernel) rfl)) (va_Nw.use rfl hPW.1.2.1.2.1.1) hce1 hce2 hce3 ?_
    refine lv_astore (lv' := [(4, .ref q9), (0, .ref (ad 57)), (1, .int x0), (2, .int x1), (3, .ref o)]) hx hb dL_wheel_14 hl (by decide) rfl (fun ls hl => ?_)
    refine lv_iconst (v := nI 1) hx hb dL_wheel_16 (by decide) ?_
    obtain ⟨n9, hN⟩ := hO
    exact W.widen (k := 1) (n := 6) (by simp) (by simp) (W.iret (v := nI 1) hx hb hr (fun t9 ht9 hW9 => ⟨⟨_, (S, n9), rfl, ⟨LQ_same hI h5, (Or.inl ⟨hb9, rfl, rfl⟩)⟩, hX.P ht9 hW9, by rw [ht9]; exact hN⟩, hX.2.2.2.F ht9⟩) hX.2.2.2.2.2 dL_wheel_17)
  replace hi : i < 3 := by omega
  have hn := (hI.1 i (by omega)).1
  refine kl_ci (va_runV (As := [.int (nI i), .int x1]) (rest := [.ref o]) ⟨hx, hb, hml, hown, hts⟩ (s_X4_wheel l dC dI ad S i x1 hi hI) (cwV 2 hts gL_wheel_X4_wheel rfl rfl rfl hdX4_wheel_2 ⟨Nat.le_of_ble_eq_true rfl, Nat.le_of_ble_eq_true rfl⟩) (hX.preTop 57 6 (by decide) (by decide) rfl rfl) rfl rfl hl.1 rfl (lv_room (Nat.le_of_ble_eq_true rfl)) dL_wheel_4 ⟨Nat.le_of_ble_eq_true rfl, Nat.le_of_ble_eq_true rfl⟩) hX hO hno (fun r9 S1 H locs hw hX hO => ?_)
  have hLQ : LQ S S1 := LQ_wheel hI h5 (hw.imp id (fun h => by obtain ⟨h0, sh, r4, r8, a1, a2, a3, a4, a5, a6, a7, -⟩ := h; exact ⟨h0, _, sh, r4, r8, a1, a2, a3, a4, a5, a6, a7⟩))
  refine lv_i2l (v := r9.toInt64) hx hb dL_wheel_7 rfl ?_
  refine kl_putn hx hb hts hin5 hown hX hO hno (host := "OrderlatticeLaw") (va_Nw.use rfl hPW.2.2.2.2.2.1) dL_wheel_8 (fun H locs hX hN => ?_)
  refine lv_goto (tgt := 18) hx hb dL_wheel_11 (by decide) ?_
  refine lv_iconst (v := nI 0) hx hb dL_wheel_18 (by decide) ?_
  exact W.widen (k := 1) (n := 6) (by simp) (by simp) (W.iret (v := nI 0) hx hb hr (fun t9 ht9 hW9 => ⟨⟨_, (S1, r9.toInt64), rfl, ⟨hLQ, (Or.inr ⟨i, r9, hi, rfl, rfl, rfl, hw⟩)⟩, hX.P ht9 hW9, by rw [ht9]; exact hN⟩, hX.2.2.2.F ht9⟩) hX.2.2.2.2.2 dL_wheel_19)
set_option maxHeartbeats 4000000 in
set_option maxRecDepth 100000 in
theorem m_L_swap (l : Launch) (hst : l.stackTraces = false) (dC : Nat → ClassId) (dI : Nat → Nat → Nat) (cB : ClassId) (ad : Nat → Nat) (o : Nat) (S : XS) (x0 : Int32) (x1 : Int32) (x2 : Int32) (hI : InvX S) (h5 : ∀ j, j < 4 → (S.2.1 j).2.2.2.2.1 ≤ 5) (hc : S.2.2.1 + 12 < 1000000) : Met l yL_swap wsL_swap ({ frames := 9, cells := 1, slots := 6, locals := 147 } : Room) (va_Pc [.ref (ad 57), .int x0, .int x1, .int x2, .ref o] (PW dC dI cB ad o S)) (va_Qi (fun r (u : XS × Int64) => LQ S u.1 ∧ R_swap x0 x1 x2 S r u.1 u.2) (PO2 dC dI ad o) (AO ad o)) 1 6 (AO ad o) := by
  refine va_MetW (cc := cL_swap) (maxL := 6) (ret := (some .int)) pl_L rfl ?_
  intro p e s m args below meth c s₁ B hml hv
  obtain ⟨rfl, hPW⟩ := hv
  have hx := B.exec
  have hb := B.bytes
  have hr := B.returns
  have hts := atoms_spec (ws := wsL_swap) B.pre
  have htab := vx_table (x := yL_swap) B (hts (.codeWith yL_swap cL_swap 6 (some .int) [(0, 13, 16, 19)]) (by unfold wsL_swap; exact List.mem_cons_self))
  have hown : s.vm.findClass RL = some m.cls := findClass_of_methodNamed B.named
  have hlocks := B.notSynchronized
  have hin5 : ∀ w ∈ u_ws RX5 TX5 2, w ∈ wsL_swap := tu 1332 (by decide +kernel) rfl
  have hX := WX.ofW hPW
  have hO := hPW.2.2.1
  have hno := hPW.2.2.2.1
  have hl := lv_entry ([.ref (ad 57), .int x0, .int x1, .int x2, .ref o]) (n := 6) (Nat.le_of_ble_eq_true rfl)
  rw [lg_entry_eq]
  generalize (lg_sl ([.ref (ad 57), .int x0, .int x1, .int x2, .ref o]) ++ List.replicate (6 - (lg_sl ([.ref (ad 57), .int x0, .int x1, .int x2, .ref o])).length) Slot.unset).toArray = ls at hl ⊢
  have hl : lv_has ls 6 [(0, .ref (ad 57)), (1, .int x0), (2, .int x1), (3, .int x2), (4, .ref o)] := hl
  show W p l e ({ frames := 9, cells := 1, slots := 6, locals := 147 } : Room) s m ([.ref (ad 57), .int x0, .int x1, .int x2, .ref o]).toArray below meth c s.heap [] 0 0 (MQ below (va_Qi (fun r (u : XS × Int64) => LQ S u.1 ∧ R_swap x0 x1 x2 S r u.1 u.2) (PO2 dC dI ad o) (AO ad o)) ([.ref (ad 57), .int x0, .int x1, .int x2, .ref o]).toArray s 1 6 (AO ad o)) (F0 m 0 ls [])
  refine lv_aload hx hb dL_swap_0 (lv_at hl 4 rfl) ?_
  refine lv_aload_n hx hb dL_swap_2 rfl (lv_at hl 0 rfl) ?_
  refine lv_iload_n hx hb dL_swap_3 rfl (lv_at hl 1 rfl) ?_
  refine lv_iload_n hx hb dL_swap_4 rfl (lv_at hl 2 rfl) ?_
  refine lv_iload_n hx hb dL_swap_5 rfl (lv_at hl 3 rfl) ?_
  rcases lim_lt 3 (by decide) x0 with ⟨i, hi, rfl⟩ | hb9
  rotate_left
  · skip
    refine kl_throw (vx_runV (As := [.int x0, .int x1, .int x2]) (rest := [.ref o]) ⟨hx, hb, hml, hown, hts⟩ (t_X4_swap_1 l hst dC dI ad S x0 x1 x2 hb9) (cwV 3 hts gL_swap_X4_swap rfl rfl rfl hdX4_swap_3 ⟨Nat.le_of_ble_eq_true rfl, Nat.le_of_ble_eq_true rfl⟩) hPW.1.preX rfl rfl hl.1 rfl (lv_room (Nat.le_of_ble_eq_true rfl)) dL_swap_6 ⟨Nat.le_of_ble_eq_true rfl, Nat.le_of_ble_eq_true rfl⟩) hX hO (fun ce q9 H hce1 hce2 hce3 hX hO => ?_)
    refine vx_catch hown [] ⟨0, 13, 16, 19⟩ [] (htab.trans rfl) (fun _ h => nomatch h) rfl (by decide) (hts (.classLink RL 19 IX) (tm 830 (by decide +kernel) rfl)) (va_Nw.use rfl hPW.1.2.1.2.1.1) hce1 hce2 hce3 ?_
    refine lv_astore (lv' := [(5, .ref q9), (0, .ref (ad 57)), (1, .int x0), (2, .int x1), (3, .int x2), (4, .ref o)]) hx hb dL_swap_16 hl (by decide) rfl (fun ls hl => ?_)
    refine lv_iconst (v := nI 1) hx hb dL_swap_18 (by decide) ?_
    obtain ⟨n9, hN⟩ := hO
    exact W.widen (k := 1) (n := 6) (by simp) (by simp) (W.iret (v := nI 1) hx hb hr (fun t9 ht9 hW9 => ⟨⟨_, (S, n9), rfl, ⟨LQ_same hI h5, (Or.inl ⟨hb9, rfl, rfl⟩)⟩, hX.P ht9 hW9, by rw [ht9]; exact hN⟩, hX.2.2.2.F ht9⟩) hX.2.2.2.2.2 dL_swap_19)
  replace hi : i < 3 := by omega
  have hn := (hI.1 i (by omega)).1
  rcases lim_lt (S.1 i).2.2 (by omega) x1 with ⟨q, hq, rfl⟩ | hb9
  rotate_left
  · skip
    refine kl_throw (vx_runV (As := [.int (nI i), .int x1, .int x2]) (rest := [.ref o]) ⟨hx, hb, hml, hown, hts⟩ (t_X4_swap_2 l hst dC dI ad S i x1 x2 hi (by omega) hb9) (cwV 3 hts gL_swap_X4_swap rfl rfl rfl hdX4_swap_3 ⟨Nat.le_of_ble_eq_true rfl, Nat.le_of_ble_eq_true rfl⟩) hPW.1.preX rfl rfl hl.1 rfl (lv_room (Nat.le_of_ble_eq_true rfl)) dL_swap_6 ⟨Nat.le_of_ble_eq_true rfl, Nat.le_of_ble_eq_true rfl⟩) hX hO (fun ce q9 H hce1 hce2 hce3 hX hO => ?_)
    refine vx_catch hown [] ⟨0, 13, 16, 19⟩ [] (htab.trans rfl) (fun _ h => nomatch h) rfl (by decide) (hts (.classLink RL 19 IX) (tm 830 (by decide +kernel) rfl)) (va_Nw.use rfl hPW.1.2.1.2.1.1) hce1 hce2 hce3 ?_
    refine lv_astore (lv' := [(5, .ref q9), (0, .ref (ad 57)), (1, .int (nI i)), (2, .int x1), (3, .int x2), (4, .ref o)]) hx hb dL_swap_16 hl (by decide) rfl (fun ls hl => ?_)
    refine lv_iconst (v := nI 1) hx hb dL_swap_18 (by decide) ?_
    obtain ⟨n9, hN⟩ := hO
    exact W.widen (k := 1) (n := 6) (by simp) (by simp) (W.iret (v := nI 1) hx hb hr (fun t9 ht9 hW9 => ⟨⟨_, (S, n9), rfl, ⟨LQ_same hI h5, (Or.inr (Or.inl ⟨i, hi, rfl, hb9, rfl, rfl⟩))⟩, hX.P ht9 hW9, by rw [ht9]; exact hN⟩, hX.2.2.2.F ht9⟩) hX.2.2.2.2.2 dL_swap_19)
  replace hq : q < (S.1 i).2.2 := by omega
  rcases lim_lt (S.1 i).2.2 (by omega) x2 with ⟨q2, hq2, rfl⟩ | hb9
  rotate_left
  · skip
    refine kl_throw (vx_runV (As := [.int (nI i), .int (nI q), .int x2]) (rest := [.ref o]) ⟨hx, hb, hml, hown, hts⟩ (t_X4_swap_3 l hst dC dI ad S i q x2 hi hq (by omega) hb9) (cwV 3 hts gL_swap_X4_swap rfl rfl rfl hdX4_swap_3 ⟨Nat.le_of_ble_eq_true rfl, Nat.le_of_ble_eq_true rfl⟩) hPW.1.preX rfl rfl hl.1 rfl (lv_room (Nat.le_of_ble_eq_true rfl)) dL_swap_6 ⟨Nat.le_of_ble_eq_true rfl, Nat.le_of_ble_eq_true rfl⟩) hX hO (fun ce q9 H hce1 hce2 hce3 hX hO => ?_)
    refine vx_catch hown [] ⟨0, 13, 16, 19⟩ [] (htab.trans rfl) (fun _ h => nomatch h) rfl (by decide) (hts (.classLink RL 19 IX) (tm 830 (by decide +kernel) rfl)) (va_Nw.use rfl hPW.1.2.1.2.1.1) hce1 hce2 hce3 ?_
    refine lv_astore (lv' := [(5, .ref q9), (0, .ref (ad 57)), (1, .int (nI i)), (2, .int (nI q)), (3, .int x2), (4, .ref o)]) hx hb dL_swap_16 hl (by decide) rfl (fun ls hl => ?_)
    refine lv_iconst (v := nI 1) hx hb dL_swap_18 (by decide) ?_
    obtain ⟨n9, hN⟩ := hO
    exact W.widen (k := 1) (n := 6) (by simp) (by simp) (W.iret (v := nI 1) hx hb hr (fun t9 ht9 hW9 => ⟨⟨_, (S, n9), rfl, ⟨LQ_same hI h5, (Or.inr (Or.inr (Or.inl ⟨i, q, hi, hq, rfl, rfl, hb9, rfl, rfl⟩)))⟩, hX.P ht9 hW9, by rw [ht9]; exact hN⟩, hX.2.2.2.F ht9⟩) hX.2.2.2.2.2 dL_swap_19)
  replace hq2 : q2 < (S.1 i).2.2 := by omega
  refine kl_ci (va_runV (As := [.int (nI i), .int (nI q), .int (nI q2)]) (rest := [.ref o]) ⟨hx, hb, hml, hown, hts⟩ (m_X4_swap l dC dI ad S i q q2 hi hq hq2 hI) (cwV 3 hts gL_swap_X4_swap rfl rfl rfl hdX4_swap_3 ⟨Nat.le_of_ble_eq_true rfl, Nat.le_of_ble_eq_true rfl⟩) (hX.preTop 57 6 (by decide) (by decide) rfl rfl) rfl rfl hl.1 rfl (lv_room (Nat.le_of_ble_eq_true rfl)) dL_swap_6 ⟨Nat.le_of_ble_eq_true rfl, Nat.le_of_ble_eq_true rfl⟩) hX hO hno (fun r9 S1 H locs hw hX hO => ?_)
  have hLQ : LQ S S1 := by rw [hw.2]; exact LQ_row0 hI h5 (rowOK_xch (hI.1 i (by omega)) (by omega) (by omega))
  refine lv_i2l (v := r9.toInt64) hx hb dL_swap_9 rfl ?_
  refine kl_putn hx hb hts hin5 hown hX hO hno (host := "OrderlatticeLaw") (va_Nw.use rfl hPW.2.2.2.2.2.1) dL_swap_10 (fun H locs hX hN => ?_)
  refine lv_goto (tgt := 20) hx hb dL_swap_13 (by decide) ?_
  refine lv_iconst (v := nI 0) hx hb dL_swap_20 (by decide) ?_
  exact W.widen (k := 1) (n := 6) (by simp) (by simp) (W.iret (v := nI 0) hx hb hr (fun t9 ht9 hW9 => ⟨⟨_, (S1, r9.toInt64), rfl, ⟨hLQ, (Or.inr (Or.inr (Or.inr ⟨i, q, q2, r9, hi, hq, hq2, rfl, rfl, rfl, rfl, rfl, hw⟩)))⟩, hX.P ht9 hW9, by rw [ht9]; exact hN⟩, hX.2.2.2.F ht9⟩) hX.2.2.2.2.2 dL_swap_21)
set_option maxHeartbeats 4000000 in
set_option maxRecDepth 100000 in
theorem m_L_sort (l : Launch) (hst : l.stackTraces = false) (dC : Nat → ClassId) (dI : Nat → Nat → Nat) (cB : ClassId) (ad : Nat → Nat) (o : Nat) (S : XS) (x0 : Int32) (x1 : Int32) (x2 : Int32) (hI : InvX S) (h5 : ∀ j, j < 4 → (S.2.1 j).2.2.2.2.1 ≤ 5) (hc : S.2.2.1 + 12 < 1000000) : Met l yL_sort wsL_sort ({ frames := 9, cells := 1, slots := 6, locals := 148 } : Room) (va_Pc [.ref (ad 57), .int x0, .int x1, .int x2, .ref o] (PW dC dI cB ad o S)) (va_Qi (fun r (u : XS × Int64) => LQ S u.1 ∧ R_sort x0 x1 x2 S r u.1 u.2) (PO2 dC dI ad o) (AO ad o)) 1 6 (AO ad o) := by
  refine va_MetW (cc := cL_sort) (maxL := 6) (ret := (some .int)) pl_L rfl ?_
  intro p e s m args below meth c s₁ B hml hv
  obtain ⟨rfl, hPW⟩ := hv
  have hx := B.exec
  have hb := B.bytes
  have hr := B.returns
  have hts := atoms_spec (ws := wsL_sort) B.pre
  have htab := vx_table (x := yL_sort) B (hts (.codeWith yL_sort cL_sort 6 (some .int) [(0, 13, 16, 19), (0, 13, 20, 21)]) (by unfold wsL_sort; exact List.mem_cons_self))
  have hown : s.vm.findClass RL = some m.cls := findClass_of_methodNamed B.named
  have hlocks := B.notSynchronized
  have hin5 : ∀ w ∈ u_ws RX5 TX5 2, w ∈ wsL_sort := tu 1332 (by decide +kernel) rfl
  have hX := WX.ofW hPW
  have hO := hPW.2.2.1
  have hno := hPW.2.2.2.1
  have hl := lv_entry ([.ref (ad 57), .int x0, .int x1, .int x2, .ref o]) (n := 6) (Nat.le_of_ble_eq_true rfl)
  rw [lg_entry_eq]
  generalize (lg_sl ([.ref (ad 57), .int x0, .int x1, .int x2, .ref o]) ++ List.replicate (6 - (lg_sl ([.ref (ad 57), .int x0, .int x1, .int x2, .ref o])).length) Slot.unset).toArray = ls at hl ⊢
  have hl : lv_has ls 6 [(0, .ref (ad 57)), (1, .int x0), (2, .int x1), (3, .int x2), (4, .ref o)] := hl
  show W p l e ({ frames := 9, cells := 1, slots := 6, locals := 148 } : Room) s m ([.ref (ad 57), .int x0, .int x1, .int x2, .ref o]).toArray below meth c s.heap [] 0 0 (MQ below (va_Qi (fun r (u : XS × Int64) => LQ S u.1 ∧ R_sort x0 x1 x2 S r u.1 u.2) (PO2 dC dI ad o) (AO ad o)) ([.ref (ad 57), .int x0, .int x1, .int x2, .ref o]).toArray s 1 6 (AO ad o)) (F0 m 0 ls [])
  refine lv_aload hx hb dL_sort_0 (lv_at hl 4 rfl) ?_
  refine lv_aload_n hx hb dL_sort_2 rfl (lv_at hl 0 rfl) ?_
  refine lv_iload_n hx hb dL_sort_3 rfl (lv_at hl 1 rfl) ?_
  refine lv_iload_n hx hb dL_sort_4 rfl (lv_at hl 2 rfl) ?_
  refine lv_iload_n hx hb dL_sort_5 rfl (lv_at hl 3 rfl) ?_
  rcases lim_lt 3 (by decide) x0 with ⟨i, hi, rfl⟩ | hb9
  rotate_left
  · skip
    refine kl_throw (vx_runV (As := [.int x0, .int x1, .int x2]) (rest := [.ref o]) ⟨hx, hb, hml, hown, hts⟩ (t_X4_sort_1 l hst dC dI ad S x0 x1 x2 hb9) (cwV 3 hts gL_sort_X4_sort rfl rfl rfl hdX4_sort_3 ⟨Nat.le_of_ble_eq_true rfl, Nat.le_of_ble_eq_true rfl⟩) hPW.1.preX rfl rfl hl.1 rfl (lv_room (Nat.le_of_ble_eq_true rfl)) dL_sort_6 ⟨Nat.le_of_ble_eq_true rfl, Nat.le_of_ble_eq_true rfl⟩) hX hO (fun ce q9 H hce1 hce2 hce3 hX hO => ?_)
    refine vx_catch hown [] ⟨0, 13, 16, 19⟩ [⟨0, 13, 20, 21⟩] (htab.trans rfl) (fun _ h => nomatch h) rfl (by decide) (hts (.classLink RL 19 IX) (tm 830 (by decide +kernel) rfl)) (va_Nw.use rfl hPW.1.2.1.2.1.1) hce1 hce2 hce3 ?_
    refine lv_astore (lv' := [(5, .ref q9), (0, .ref (ad 57)), (1, .int x0), (2, .int x1), (3, .int x2), (4, .ref o)]) hx hb dL_sort_16 hl (by decide) rfl (fun ls hl => ?_)
    refine lv_iconst (v := nI 1) hx hb dL_sort_18 (by decide) ?_
    obtain ⟨n9, hN⟩ := hO
    exact W.widen (k := 1) (n := 6) (by simp) (by simp) (W.iret (v := nI 1) hx hb hr (fun t9 ht9 hW9 => ⟨⟨_, (S, n9), rfl, ⟨LQ_same hI h5, (Or.inl ⟨hb9, rfl, rfl⟩)⟩, hX.P ht9 hW9, by rw [ht9]; exact hN⟩, hX.2.2.2.F ht9⟩) hX.2.2.2.2.2 dL_sort_19)
  replace hi : i < 3 := by omega
  have hn := (hI.1 i (by omega)).1
  rcases lim_lt 4 (by decide) x1 with ⟨j, hj, rfl⟩ | hb9
  rotate_left
  · skip
    refine kl_throw (vx_runV (As := [.int (nI i), .int x1, .int x2]) (rest := [.ref o]) ⟨hx, hb, hml, hown, hts⟩ (t_X4_sort_2 l hst dC dI ad S i x1 x2 hi hb9) (cwV 3 hts gL_sort_X4_sort rfl rfl rfl hdX4_sort_3 ⟨Nat.le_of_ble_eq_true rfl, Nat.le_of_ble_eq_true rfl⟩) hPW.1.preX rfl rfl hl.1 rfl (lv_room (Nat.le_of_ble_eq_true rfl)) dL_sort_6 ⟨Nat.le_of_ble_eq_true rfl, Nat.le_of_ble_eq_true rfl⟩) hX hO (fun ce q9 H hce1 hce2 hce3 hX hO => ?_)
    refine vx_catch hown [] ⟨0, 13, 16, 19⟩ [⟨0, 13, 20, 21⟩] (htab.trans rfl) (fun _ h => nomatch h) rfl (by decide) (hts (.classLink RL 19 IX) (tm 830 (by decide +kernel) rfl)) (va_Nw.use rfl hPW.1.2.1.2.1.1) hce1 hce2 hce3 ?_
    refine lv_astore (lv' := [(5, .ref q9), (0, .ref (ad 57)), (1, .int (nI i)), (2, .int x1), (3, .int x2), (4, .ref o)]) hx hb dL_sort_16 hl (by decide) rfl (fun ls hl => ?_)
    refine lv_iconst (v := nI 1) hx hb dL_sort_18 (by decide) ?_
    obtain ⟨n9, hN⟩ := hO
    exact W.widen (k := 1) (n := 6) (by simp) (by simp) (W.iret (v := nI 1) hx hb hr (fun t9 ht9 hW9 => ⟨⟨_, (S, n9), rfl, ⟨LQ_same hI h5, (Or.inr (Or.inl ⟨i, hi, rfl, hb9, rfl, rfl⟩))⟩, hX.P ht9 hW9, by rw [ht9]; exact hN⟩, hX.2.2.2.F ht9⟩) hX.2.2.2.2.2 dL_sort_19)
  replace hj : j < 4 := by omega
  rcases lim_le 2 (by decide) x2 with ⟨k, hk, rfl⟩ | hb9
  rotate_left
  · skip
    refine kl_throw (vx_runV (As := [.int (nI i), .int (nI j), .int x2]) (rest := [.ref o]) ⟨hx, hb, hml, hown, hts⟩ (t_X4_sort_3 l hst dC dI ad S i j x2 hi hj hb9) (cwV 3 hts gL_sort_X4_sort rfl rfl rfl hdX4_sort_3 ⟨Nat.le_of_ble_eq_true rfl, Nat.le_of_ble_eq_true rfl⟩) hPW.1.preX rfl rfl hl.1 rfl (lv_room (Nat.le_of_ble_eq_true rfl)) dL_sort_6 ⟨Nat.le_of_ble_eq_true rfl, Nat.le_of_ble_eq_true rfl⟩) hX hO (fun ce q9 H hce1 hce2 hce3 hX hO => ?_)
    refine vx_catch hown [⟨0, 13, 16, 19⟩] ⟨0, 13, 20, 21⟩ [] (htab.trans rfl) (fun z hz => by rw [List.mem_singleton.mp hz]; exact Or.inr ⟨by decide, IX, hts (.classLink RL 19 IX) (by decide +kernel), hPW.2.2.2.2.1⟩) rfl (by decide) (hts (.classLink RL 21 IA) (tm 831 (by decide +kernel) rfl)) (va_Nw.use rfl hPW.1.2.1.2.1.2) hce1 hce2 hce3 ?_
    refine lv_astore (lv' := [(5, .ref q9), (0, .ref (ad 57)), (1, .int (nI i)), (2, .int (nI j)), (3, .int x2), (4, .ref o)]) hx hb dL_sort_20 hl (by decide) rfl (fun ls hl => ?_)
    refine lv_iconst (v := nI 2) hx hb dL_sort_22 (by decide) ?_
    obtain ⟨n9, hN⟩ := hO
    exact W.widen (k := 1) (n := 6) (by simp) (by simp) (W.iret (v := nI 2) hx hb hr (fun t9 ht9 hW9 => ⟨⟨_, (S, n9), rfl, ⟨LQ_same hI h5, (Or.inr (Or.inr (Or.inl ⟨i, j, hi, hj, rfl, rfl, hb9, rfl, rfl⟩)))⟩, hX.P ht9 hW9, by rw [ht9]; exact hN⟩, hX.2.2.2.F ht9⟩) hX.2.2.2.2.2 dL_sort_23)
  replace hk : k ≤ 2 := by omega
  refine kl_ci (va_runV (As := [.int (nI i), .int (nI j), .int (nI k)]) (rest := [.ref o]) ⟨hx, hb, hml, hown, hts⟩ (s_X4_sort l dC dI ad S i j k hi hj hk hI) (cwV 3 hts gL_sort_X4_sort rfl rfl rfl hdX4_sort_3 ⟨Nat.le_of_ble_eq_true rfl, Nat.le_of_ble_eq_true rfl⟩) (hX.preTop 57 6 (by decide) (by decide) rfl rfl) rfl rfl hl.1 rfl (lv_room (Nat.le_of_ble_eq_true rfl)) dL_sort_6 ⟨Nat.le_of_ble_eq_true rfl, Nat.le_of_ble_eq_true rfl⟩) hX hO hno (fun r9 S1 H locs hw hX hO => ?_)
  have hLQ : LQ S S1 := LQ_sort hI h5 hw.2.1
  refine lv_i2l (v := r9.toInt64) hx hb dL_sort_9 rfl ?_
  refine kl_putn hx hb hts hin5 hown hX hO hno (host := "OrderlatticeLaw") (va_Nw.use rfl hPW.2.2.2.2.2.1) dL_sort_10 (fun H locs hX hN => ?_)
  refine lv_goto (tgt := 24) hx hb dL_sort_13 (by decide) ?_
  refine lv_iconst (v := nI 0) hx hb dL_sort_24 (by decide) ?_
  exact W.widen (k := 1) (n := 6) (by simp) (by simp) (W.iret (v := nI 0) hx hb hr (fun t9 ht9 hW9 => ⟨⟨_, (S1, r9.toInt64), rfl, ⟨hLQ, (Or.inr (Or.inr (Or.inr ⟨i, j, k, r9, hi, hj, hk, rfl, rfl, rfl, rfl, rfl, hw⟩)))⟩, hX.P ht9 hW9, by rw [ht9]; exact hN⟩, hX.2.2.2.F ht9⟩) hX.2.2.2.2.2 dL_sort_25)
set_option maxHeartbeats 4000000 in
set_option maxRecDepth 100000 in
theorem m_L_sortPart (l : Launch) (hst : l.stackTraces = false) (dC : Nat → ClassId) (dI : Nat → Nat → Nat) (cB : ClassId) (ad : Nat → Nat) (o : Nat) (S : XS) (x0 : Int32) (x1 : Int32) (x2 : Int32) (x3 : Int32) (hI : InvX S) (h5 : ∀ j, j < 4 → (S.2.1 j).2.2.2.2.1 ≤ 5) (hc : S.2.2.1 + 12 < 1000000) : Met l yL_sortPart wsL_sortPart ({ frames := 9, cells := 1, slots := 6, locals := 149 } : Room) (va_Pc [.ref (ad 57), .int x0, .int x1, .int x2, .int x3, .ref o] (PW dC dI cB ad o S)) (va_Qi (fun r (u : XS × Int64) => LQ S u.1 ∧ R_sortPart x0 x1 x2 x3 S r u.1 u.2) (PO2 dC dI ad o) (AO ad o)) 1 6 (AO ad o) := by
  refine va_MetW (cc := cL_sortPart) (maxL := 7) (ret := (some .int)) pl_L rfl ?_
  intro p e s m args below meth c s₁ B hml hv
  obtain ⟨rfl, hPW⟩ := hv
  have hx := B.exec
  have hb := B.bytes
  have hr := B.returns
  have hts := atoms_spec (ws := wsL_sortPart) B.pre
  have htab := vx_table (x := yL_sortPart) B (hts (.codeWith yL_sortPart cL_sortPart 7 (some .int) [(0, 15, 18, 19), (0, 15, 22, 21)]) (by unfold wsL_sortPart; exact List.mem_cons_self))
  have hown : s.vm.findClass RL = some m.cls := findClass_of_methodNamed B.named
  have hlocks := B.notSynchronized
  have hin5 : ∀ w ∈ u_ws RX5 TX5 2, w ∈ wsL_sortPart := tu 1332 (by decide +kernel) rfl
  have hX := WX.ofW hPW
  have hO := hPW.2.2.1
  have hno := hPW.2.2.2.1
  have hl := lv_entry ([.ref (ad 57), .int x0, .int x1, .int x2, .int x3, .ref o]) (n := 7) (Nat.le_of_ble_eq_true rfl)
  rw [lg_entry_eq]
  generalize (lg_sl ([.ref (ad 57), .int x0, .int x1, .int x2, .int x3, .ref o]) ++ List.replicate (7 - (lg_sl ([.ref (ad 57), .int x0, .int x1, .int x2, .int x3, .ref o])).length) Slot.unset).toArray = ls at hl ⊢
  have hl : lv_has ls 7 [(0, .ref (ad 57)), (1, .int x0), (2, .int x1), (3, .int x2), (4, .int x3), (5, .ref o)] := hl
  show W p l e ({ frames := 9, cells := 1, slots := 6, locals := 149 } : Room) s m ([.ref (ad 57), .int x0, .int x1, .int x2, .int x3, .ref o]).toArray below meth c s.heap [] 0 0 (MQ below (va_Qi (fun r (u : XS × Int64) => LQ S u.1 ∧ R_sortPart x0 x1 x2 x3 S r u.1 u.2) (PO2 dC dI ad o) (AO ad o)) ([.ref (ad 57), .int x0, .int x1, .int x2, .int x3, .ref o]).toArray s 1 6 (AO ad o)) (F0 m 0 ls [])
  refine lv_aload hx hb dL_sortPart_0 (lv_at hl 5 rfl) ?_
  refine lv_aload_n hx hb dL_sortPart_2 rfl (lv_at hl 0 rfl) ?_
  refine lv_iload_n hx hb dL_sortPart_3 rfl (lv_at hl 1 rfl) ?_
  refine lv_iload_n hx hb dL_sortPart_4 rfl (lv_at hl 2 rfl) ?_
  refine lv_iload_n hx hb dL_sortPart_5 rfl (lv_at hl 3 rfl) ?_
  refine lv_iload hx hb dL_sortPart_6 (lv_at hl 4 rfl) ?_
  rcases lim_lt 3 (by decide) x0 with ⟨i, hi, rfl⟩ | hb9
  rotate_left
  · skip
    refine kl_throw (vx_runV (As := [.int x0, .int x1, .int x2, .int x3]) (rest := [.ref o]) ⟨hx, hb, hml, hown, hts⟩ (t_X4_sortPart_1 l hst dC dI ad S x0 x1 x2 x3 hb9) (cwV 4 hts gL_sortPart_X4_sortPart rfl rfl rfl hdX4_sortPart_4 ⟨Nat.le_of_ble_eq_true rfl, Nat.le_of_ble_eq_true rfl⟩) hPW.1.preX rfl rfl hl.1 rfl (lv_room (Nat.le_of_ble_eq_true rfl)) dL_sortPart_8 ⟨Nat.le_of_ble_eq_true rfl, Nat.le_of_ble_eq_true rfl⟩) hX hO (fun ce q9 H hce1 hce2 hce3 hX hO => ?_)
    refine vx_catch hown [] ⟨0, 15, 18, 19⟩ [⟨0, 15, 22, 21⟩] (htab.trans rfl) (fun _ h => nomatch h) rfl (by decide) (hts (.classLink RL 19 IX) (tm 830 (by decide +kernel) rfl)) (va_Nw.use rfl hPW.1.2.1.2.1.1) hce1 hce2 hce3 ?_
    refine lv_astore (lv' := [(6, .ref q9), (0, .ref (ad 57)), (1, .int x0), (2, .int x1), (3, .int x2), (4, .int x3), (5, .ref o)]) hx hb dL_sortPart_18 hl (by decide) rfl (fun ls hl => ?_)
    refine lv_iconst (v := nI 1) hx hb dL_sortPart_20 (by decide) ?_
    obtain ⟨n9, hN⟩ := hO
    exact W.widen (k := 1) (n := 6) (by simp) (by simp) (W.iret (v := nI 1) hx hb hr (fun t9 ht9 hW9 => ⟨⟨_, (S, n9), rfl, ⟨LQ_same hI h5, (Or.inl ⟨hb9, rfl, rfl⟩)⟩, hX.P ht9 hW9, by rw [ht9]; exact hN⟩, hX.2.2.2.F ht9⟩) hX.2.2.2.2.2 dL_sortPart_21)
  replace hi : i < 3 := by omega
  have hn := (hI.1 i (by omega)).1
  rcases lim_lt 4 (by decide) x1 with ⟨j, hj, rfl⟩ | hb9
  rotate_left
  · skip
    refine kl_throw (vx_runV (As := [.int (nI i), .int x1, .int x2, .int x3]) (rest := [.ref o]) ⟨hx, hb, hml, hown, hts⟩ (t_X4_sortPart_2 l hst dC dI ad S i x1 x2 x3 hi hb9) (cwV 4 hts gL_sortPart_X4_sortPart rfl rfl rfl hdX4_sortPart_4 ⟨Nat.le_of_ble_eq_true rfl, Nat.le_of_ble_eq_true rfl⟩) hPW.1.preX rfl rfl hl.1 rfl (lv_room (Nat.le_of_ble_eq_true rfl)) dL_sortPart_8 ⟨Nat.le_of_ble_eq_true rfl, Nat.le_of_ble_eq_true rfl⟩) hX hO (fun ce q9 H hce1 hce2 hce3 hX hO => ?_)
    refine vx_catch hown [] ⟨0, 15, 18, 19⟩ [⟨0, 15, 22, 21⟩] (htab.trans rfl) (fun _ h => nomatch h) rfl (by decide) (hts (.classLink RL 19 IX) (tm 830 (by decide +kernel) rfl)) (va_Nw.use rfl hPW.1.2.1.2.1.1) hce1 hce2 hce3 ?_
    refine lv_astore (lv' := [(6, .ref q9), (0, .ref (ad 57)), (1, .int (nI i)), (2, .int x1), (3, .int x2), (4, .int x3), (5, .ref o)]) hx hb dL_sortPart_18 hl (by decide) rfl (fun ls hl => ?_)
    refine lv_iconst (v := nI 1) hx hb dL_sortPart_20 (by decide) ?_
    obtain ⟨n9, hN⟩ := hO
    exact W.widen (k := 1) (n := 6) (by simp) (by simp) (W.iret (v := nI 1) hx hb hr (fun t9 ht9 hW9 => ⟨⟨_, (S, n9), rfl, ⟨LQ_same hI h5, (Or.inr (Or.inl ⟨i, hi, rfl, hb9, rfl, rfl⟩))⟩, hX.P ht9 hW9, by rw [ht9]; exact hN⟩, hX.2.2.2.F ht9⟩) hX.2.2.2.2.2 dL_sortPart_21)
  replace hj : j < 4 := by omega
  rcases lim_le (S.1 i).2.2 (by omega) x2 with ⟨q, hq, rfl⟩ | hb9
  rotate_left
  · skip
    refine kl_throw (vx_runV (As := [.int (nI i), .int (nI j), .int x2, .int x3]) (rest := [.ref o]) ⟨hx, hb, hml, hown, hts⟩ (t_X4_sortPart_3 l hst dC dI ad S i j x2 x3 hi hj (by omega) hb9) (cwV 4 hts gL_sortPart_X4_sortPart rfl rfl rfl hdX4_sortPart_4 ⟨Nat.le_of_ble_eq_true rfl, Nat.le_of_ble_eq_true rfl⟩) hPW.1.preX rfl rfl hl.1 rfl (lv_room (Nat.le_of_ble_eq_true rfl)) dL_sortPart_8 ⟨Nat.le_of_ble_eq_true rfl, Nat.le_of_ble_eq_true rfl⟩) hX hO (fun ce q9 H hce1 hce2 hce3 hX hO => ?_)
    refine vx_catch hown [] ⟨0, 15, 18, 19⟩ [⟨0, 15, 22, 21⟩] (htab.trans rfl) (fun _ h => nomatch h) rfl (by decide) (hts (.classLink RL 19 IX) (tm 830 (by decide +kernel) rfl)) (va_Nw.use rfl hPW.1.2.1.2.1.1) hce1 hce2 hce3 ?_
    refine lv_astore (lv' := [(6, .ref q9), (0, .ref (ad 57)), (1, .int (nI i)), (2, .int (nI j)), (3, .int x2), (4, .int x3), (5, .ref o)]) hx hb dL_sortPart_18 hl (by decide) rfl (fun ls hl => ?_)
    refine lv_iconst (v := nI 1) hx hb dL_sortPart_20 (by decide) ?_
    obtain ⟨n9, hN⟩ := hO
    exact W.widen (k := 1) (n := 6) (by simp) (by simp) (W.iret (v := nI 1) hx hb hr (fun t9 ht9 hW9 => ⟨⟨_, (S, n9), rfl, ⟨LQ_same hI h5, (Or.inr (Or.inr (Or.inl ⟨i, j, hi, hj, rfl, rfl, hb9, rfl, rfl⟩)))⟩, hX.P ht9 hW9, by rw [ht9]; exact hN⟩, hX.2.2.2.F ht9⟩) hX.2.2.2.2.2 dL_sortPart_21)
  replace hq : q ≤ (S.1 i).2.2 := by omega
  rcases lim_le (S.1 i).2.2 (by omega) x3 with ⟨q2, hq2, rfl⟩ | hb9
  rotate_left
  · skip
    refine kl_throw (vx_runV (As := [.int (nI i), .int (nI j), .int (nI q), .int x3]) (rest := [.ref o]) ⟨hx, hb, hml, hown, hts⟩ (t_X4_sortPart_4 l hst dC dI ad S i j q x3 hi hj hq (by omega) hb9) (cwV 4 hts gL_sortPart_X4_sortPart rfl rfl rfl hdX4_sortPart_4 ⟨Nat.le_of_ble_eq_true rfl, Nat.le_of_ble_eq_true rfl⟩) hPW.1.preX rfl rfl hl.1 rfl (lv_room (Nat.le_of_ble_eq_true rfl)) dL_sortPart_8 ⟨Nat.le_of_ble_eq_true rfl, Nat.le_of_ble_eq_true rfl⟩) hX hO (fun ce q9 H hce1 hce2 hce3 hX hO => ?_)
    refine vx_catch hown [] ⟨0, 15, 18, 19⟩ [⟨0, 15, 22, 21⟩] (htab.trans rfl) (fun _ h => nomatch h) rfl (by decide) (hts (.classLink RL 19 IX) (tm 830 (by decide +kernel) rfl)) (va_Nw.use rfl hPW.1.2.1.2.1.1) hce1 hce2 hce3 ?_
    refine lv_astore (lv' := [(6, .ref q9), (0, .ref (ad 57)), (1, .int (nI i)), (2, .int (nI j)), (3, .int (nI q)), (4, .int x3), (5, .ref o)]) hx hb dL_sortPart_18 hl (by decide) rfl (fun ls hl => ?_)
    refine lv_iconst (v := nI 1) hx hb dL_sortPart_20 (by decide) ?_
    obtain ⟨n9, hN⟩ := hO
    exact W.widen (k := 1) (n := 6) (by simp) (by simp) (W.iret (v := nI 1) hx hb hr (fun t9 ht9 hW9 => ⟨⟨_, (S, n9), rfl, ⟨LQ_same hI h5, (Or.inr (Or.inr (Or.inr (Or.inl ⟨i, j, q, hi, hj, hq, rfl, rfl, rfl, hb9, rfl, rfl⟩))))⟩, hX.P ht9 hW9, by rw [ht9]; exact hN⟩, hX.2.2.2.F ht9⟩) hX.2.2.2.2.2 dL_sortPart_21)
  replace hq2 : q2 ≤ (S.1 i).2.2 := by omega
  by_cases hqq : q ≤ q2
  rotate_left
  · skip
    refine kl_throw (vx_runV (As := [.int (nI i), .int (nI j), .int (nI q), .int (nI q2)]) (rest := [.ref o]) ⟨hx, hb, hml, hown, hts⟩ (t_X4_sortPart_5 l hst dC dI ad S i j q q2 hi hj hq hq2 (by omega) (by omega)) (cwV 4 hts gL_sortPart_X4_sortPart rfl rfl rfl hdX4_sortPart_4 ⟨Nat.le_of_ble_eq_true rfl, Nat.le_of_ble_eq_true rfl⟩) hPW.1.preX rfl rfl hl.1 rfl (lv_room (Nat.le_of_ble_eq_true rfl)) dL_sortPart_8 ⟨Nat.le_of_ble_eq_true rfl, Nat.le_of_ble_eq_true rfl⟩) hX hO (fun ce q9 H hce1 hce2 hce3 hX hO => ?_)
    refine vx_catch hown [⟨0, 15, 18, 19⟩] ⟨0, 15, 22, 21⟩ [] (htab.trans rfl) (fun z hz => by rw [List.mem_singleton.mp hz]; exact Or.inr ⟨by decide, IX, hts (.classLink RL 19 IX) (by decide +kernel), hPW.2.2.2.2.1⟩) rfl (by decide) (hts (.classLink RL 21 IA) (tm 831 (by decide +kernel) rfl)) (va_Nw.use rfl hPW.1.2.1.2.1.2) hce1 hce2 hce3 ?_
    refine lv_astore (lv' := [(6, .ref q9), (0, .ref (ad 57)), (1, .int (nI i)), (2, .int (nI j)), (3, .int (nI q)), (4, .int (nI q2)), (5, .ref o)]) hx hb dL_sortPart_22 hl (by decide) rfl (fun ls hl => ?_)
    refine lv_iconst (v := nI 2) hx hb dL_sortPart_24 (by decide) ?_
    obtain ⟨n9, hN⟩ := hO
    exact W.widen (k := 1) (n := 6) (by simp) (by simp) (W.iret (v := nI 2) hx hb hr (fun t9 ht9 hW9 => ⟨⟨_, (S, n9), rfl, ⟨LQ_same hI h5, (Or.inr (Or.inr (Or.inr (Or.inr (Or.inl ⟨i, j, q, q2, hi, hj, hq, hq2, rfl, rfl, rfl, rfl, (by omega), rfl, rfl⟩)))))⟩, hX.P ht9 hW9, by rw [ht9]; exact hN⟩, hX.2.2.2.F ht9⟩) hX.2.2.2.2.2 dL_sortPart_25)
  refine kl_ci (va_runV (As := [.int (nI i), .int (nI j), .int (nI q), .int (nI q2)]) (rest := [.ref o]) ⟨hx, hb, hml, hown, hts⟩ (s_X4_sortPart l dC dI ad S i j q q2 hi hj hq hq2 hqq hI) (cwV 4 hts gL_sortPart_X4_sortPart rfl rfl rfl hdX4_sortPart_4 ⟨Nat.le_of_ble_eq_true rfl, Nat.le_of_ble_eq_true rfl⟩) (hX.preTop 57 6 (by decide) (by decide) rfl rfl) rfl rfl hl.1 rfl (lv_room (Nat.le_of_ble_eq_true rfl)) dL_sortPart_8 ⟨Nat.le_of_ble_eq_true rfl, Nat.le_of_ble_eq_true rfl⟩) hX hO hno (fun r9 S1 H locs hw hX hO => ?_)
  have hLQ : LQ S S1 := LQ_sort hI h5 hw.2.1
  refine lv_i2l (v := r9.toInt64) hx hb dL_sortPart_11 rfl ?_
  refine kl_putn hx hb hts hin5 hown hX hO hno (host := "OrderlatticeLaw") (va_Nw.use rfl hPW.2.2.2.2.2.1) dL_sortPart_12 (fun H locs hX hN => ?_)
  refine lv_goto (tgt := 26) hx hb dL_sortPart_15 (by decide) ?_
  refine lv_iconst (v := nI 0) hx hb dL_sortPart_26 (by decide) ?_
  exact W.widen (k := 1) (n := 6) (by simp) (by simp) (W.iret (v := nI 0) hx hb hr (fun t9 ht9 hW9 => ⟨⟨_, (S1, r9.toInt64), rfl, ⟨hLQ, (Or.inr (Or.inr (Or.inr (Or.inr (Or.inr ⟨i, j, q, q2, r9, hi, hj, hq, hq2, rfl, rfl, rfl, rfl, hqq, rfl, rfl, hw⟩)))))⟩, hX.P ht9 hW9, by rw [ht9]; exact hN⟩, hX.2.2.2.F ht9⟩) hX.2.2.2.2.2 dL_sortPart_27)
set_option maxHeartbeats 4000000 in
set_option maxRecDepth 100000 in
theorem m_L_isSorted (l : Launch) (hst : l.stackTraces = false) (dC : Nat → ClassId) (dI : Nat → Nat → Nat) (cB : ClassId) (ad : Nat → Nat) (o : Nat) (S : XS) (x0 : Int32) (x1 : Int32) (hI : InvX S) (h5 : ∀ j, j < 4 → (S.2.1 j).2.2.2.2.1 ≤ 5) (hc : S.2.2.1 + 12 < 1000000) : Met l yL_isSorted wsL_isSorted ({ frames := 9, cells := 1, slots := 6, locals := 146 } : Room) (va_Pc [.ref (ad 57), .int x0, .int x1, .ref o] (PW dC dI cB ad o S)) (va_Qi (fun r (u : XS × Int64) => LQ S u.1 ∧ R_isSorted x0 x1 S r u.1 u.2) (PO2 dC dI ad o) (AO ad o)) 1 6 (AO ad o) := by
  refine va_MetW (cc := cL_isSorted) (maxL := 5) (ret := (some .int)) pl_L rfl ?_
  intro p e s m args below meth c s₁ B hml hv
  obtain ⟨rfl, hPW⟩ := hv
  have hx := B.exec
  have hb := B.bytes
  have hr := B.returns
  have hts := atoms_spec (ws := wsL_isSorted) B.pre
  have htab := vx_table (x := yL_isSorted) B (hts (.codeWith yL_isSorted cL_isSorted 5 (some .int) [(0, 18, 21, 19)]) (by unfold wsL_isSorted; exact List.mem_cons_self))
  have hown : s.vm.findClass RL = some m.cls := findClass_of_methodNamed B.named
  have hlocks := B.notSynchronized
  have hin5 : ∀ w ∈ u_ws RX5 TX5 2, w ∈ wsL_isSorted := tu 1332 (by decide +kernel) rfl
  have hX := WX.ofW hPW
  have hO := hPW.2.2.1
  have hno := hPW.2.2.2.1
  have hl := lv_entry ([.ref (ad 57), .int x0, .int x1, .ref o]) (n := 5) (Nat.le_of_ble_eq_true rfl)
  rw [lg_entry_eq]
  generalize (lg_sl ([.ref (ad 57), .int x0, .int x1, .ref o]) ++ List.replicate (5 - (lg_sl ([.ref (ad 57), .int x0, .int x1, .ref o])).length) Slot.unset).toArray = ls at hl ⊢
  have hl : lv_has ls 5 [(0, .ref (ad 57)), (1, .int x0), (2, .int x1), (3, .ref o)] := hl
  show W p l e ({ frames := 9, cells := 1, slots := 6, locals := 146 } : Room) s m ([.ref (ad 57), .int x0, .int x1, .ref o]).toArray below meth c s.heap [] 0 0 (MQ below (va_Qi (fun r (u : XS × Int64) => LQ S u.1 ∧ R_isSorted x0 x1 S r u.1 u.2) (PO2 dC dI ad o) (AO ad o)) ([.ref (ad 57), .int x0, .int x1, .ref o]).toArray s 1 6 (AO ad o)) (F0 m 0 ls [])
  refine lv_aload_n hx hb dL_isSorted_0 rfl (lv_at hl 3 rfl) ?_
  refine lv_aload_n hx hb dL_isSorted_1 rfl (lv_at hl 0 rfl) ?_
  refine lv_iload_n hx hb dL_isSorted_2 rfl (lv_at hl 1 rfl) ?_
  refine lv_iload_n hx hb dL_isSorted_3 rfl (lv_at hl 2 rfl) ?_
  rcases lim_lt 3 (by decide) x0 with ⟨i, hi, rfl⟩ | hb9
  rotate_left
  · skip
    refine kl_throw (vx_runV (As := [.int x0, .int x1]) (rest := [.ref o]) ⟨hx, hb, hml, hown, hts⟩ (t_X4_isSorted_1 l hst dC dI ad S x0 x1 hb9) (cwV 2 hts gL_isSorted_X4_isSorted rfl rfl rfl hdX4_isSorted_2 ⟨Nat.le_of_ble_eq_true rfl, Nat.le_of_ble_eq_true rfl⟩) hPW.1.preX rfl rfl hl.1 rfl (lv_room (Nat.le_of_ble_eq_true rfl)) dL_isSorted_4 ⟨Nat.le_of_ble_eq_true rfl, Nat.le_of_ble_eq_true rfl⟩) hX hO (fun ce q9 H hce1 hce2 hce3 hX hO => ?_)
    refine vx_catch hown [] ⟨0, 18, 21, 19⟩ [] (htab.trans rfl) (fun _ h => nomatch h) rfl (by decide) (hts (.classLink RL 19 IX) (tm 830 (by decide +kernel) rfl)) (va_Nw.use rfl hPW.1.2.1.2.1.1) hce1 hce2 hce3 ?_
    refine lv_astore (lv' := [(4, .ref q9), (0, .ref (ad 57)), (1, .int x0), (2, .int x1), (3, .ref o)]) hx hb dL_isSorted_21 hl (by decide) rfl (fun ls hl => ?_)
    refine lv_iconst (v := nI 1) hx hb dL_isSorted_23 (by decide) ?_
    obtain ⟨n9, hN⟩ := hO
    exact W.widen (k := 1) (n := 6) (by simp) (by simp) (W.iret (v := nI 1) hx hb hr (fun t9 ht9 hW9 => ⟨⟨_, (S, n9), rfl, ⟨LQ_same hI h5, (Or.inl ⟨hb9, rfl, rfl⟩)⟩, hX.P ht9 hW9, by rw [ht9]; exact hN⟩, hX.2.2.2.F ht9⟩) hX.2.2.2.2.2 dL_isSorted_24)
  replace hi : i < 3 := by omega
  have hn := (hI.1 i (by omega)).1
  rcases lim_lt 4 (by decide) x1 with ⟨j, hj, rfl⟩ | hb9
  rotate_left
  · skip
    refine kl_throw (vx_runV (As := [.int (nI i), .int x1]) (rest := [.ref o]) ⟨hx, hb, hml, hown, hts⟩ (t_X4_isSorted_2 l hst dC dI ad S i x1 hi hb9) (cwV 2 hts gL_isSorted_X4_isSorted rfl rfl rfl hdX4_isSorted_2 ⟨Nat.le_of_ble_eq_true rfl, Nat.le_of_ble_eq_true rfl⟩) hPW.1.preX rfl rfl hl.1 rfl (lv_room (Nat.le_of_ble_eq_true rfl)) dL_isSorted_4 ⟨Nat.le_of_ble_eq_true rfl, Nat.le_of_ble_eq_true rfl⟩) hX hO (fun ce q9 H hce1 hce2 hce3 hX hO => ?_)
    refine vx_catch hown [] ⟨0, 18, 21, 19⟩ [] (htab.trans rfl) (fun _ h => nomatch h) rfl (by decide) (hts (.classLink RL 19 IX) (tm 830 (by decide +kernel) rfl)) (va_Nw.use rfl hPW.1.2.1.2.1.1) hce1 hce2 hce3 ?_
    refine lv_astore (lv' := [(4, .ref q9), (0, .ref (ad 57)), (1, .int (nI i)), (2, .int x1), (3, .ref o)]) hx hb dL_isSorted_21 hl (by decide) rfl (fun ls hl => ?_)
    refine lv_iconst (v := nI 1) hx hb dL_isSorted_23 (by decide) ?_
    obtain ⟨n9, hN⟩ := hO
    exact W.widen (k := 1) (n := 6) (by simp) (by simp) (W.iret (v := nI 1) hx hb hr (fun t9 ht9 hW9 => ⟨⟨_, (S, n9), rfl, ⟨LQ_same hI h5, (Or.inr (Or.inl ⟨i, hi, rfl, hb9, rfl, rfl⟩))⟩, hX.P ht9 hW9, by rw [ht9]; exact hN⟩, hX.2.2.2.F ht9⟩) hX.2.2.2.2.2 dL_isSorted_24)
  replace hj : j < 4 := by omega
  refine kl_cr (va_runV (As := [.int (nI i), .int (nI j)]) (rest := [.ref o]) ⟨hx, hb, hml, hown, hts⟩ (m_X4_isSorted l dC dI ad S i j hi hj hI) (cwV 2 hts gL_isSorted_X4_isSorted rfl rfl rfl hdX4_isSorted_2 ⟨Nat.le_of_ble_eq_true rfl, Nat.le_of_ble_eq_true rfl⟩) (hX.preTop 57 6 (by decide) (by decide) rfl rfl) rfl rfl hl.1 rfl (lv_room (Nat.le_of_ble_eq_true rfl)) dL_isSorted_4 ⟨Nat.le_of_ble_eq_true rfl, Nat.le_of_ble_eq_true rfl⟩) (fun r9 hw => ?_)
  refine lv_if_eq (tgt := 14) hx hb dL_isSorted_7 (by decide) (fun k_1 => ?_) (fun k_1 => ?_)
  · skip
    refine lv_lconst (v := lN 0) hx hb dL_isSorted_14 (by decide) ?_
    refine kl_putn hx hb hts hin5 hown hX hO hno (host := "OrderlatticeLaw") (va_Nw.use rfl hPW.2.2.2.2.2.1) dL_isSorted_15 (fun H locs hX hN => ?_)
    refine lv_goto (tgt := 25) hx hb dL_isSorted_18 (by decide) ?_
    refine lv_iconst (v := nI 0) hx hb dL_isSorted_25 (by decide) ?_
    exact W.widen (k := 1) (n := 6) (by simp) (by simp) (W.iret (v := nI 0) hx hb hr (fun t9 ht9 hW9 => ⟨⟨_, (S, lN 0), rfl, ⟨LQ_same hI h5, (Or.inr (Or.inr ⟨i, j, r9, hi, hj, rfl, rfl, rfl, (if_pos k_1).symm, hw, rfl⟩))⟩, hX.P ht9 hW9, by rw [ht9]; exact hN⟩, hX.2.2.2.F ht9⟩) hX.2.2.2.2.2 dL_isSorted_26)
  · skip
    refine lv_lconst (v := lN 1) hx hb dL_isSorted_10 (by decide) ?_
    refine lv_goto (tgt := 15) hx hb dL_isSorted_11 (by decide) ?_
    refine kl_putn hx hb hts hin5 hown hX hO hno (host := "OrderlatticeLaw") (va_Nw.use rfl hPW.2.2.2.2.2.1) dL_isSorted_15 (fun H locs hX hN => ?_)
    refine lv_goto (tgt := 25) hx hb dL_isSorted_18 (by decide) ?_
    refine lv_iconst (v := nI 0) hx hb dL_isSorted_25 (by decide) ?_
    exact W.widen (k := 1) (n := 6) (by simp) (by simp) (W.iret (v := nI 0) hx hb hr (fun t9 ht9 hW9 => ⟨⟨_, (S, lN 1), rfl, ⟨LQ_same hI h5, (Or.inr (Or.inr ⟨i, j, r9, hi, hj, rfl, rfl, rfl, (if_neg k_1).symm, hw, rfl⟩))⟩, hX.P ht9 hW9, by rw [ht9]; exact hN⟩, hX.2.2.2.F ht9⟩) hX.2.2.2.2.2 dL_isSorted_26)
set_option maxHeartbeats 4000000 in
set_option maxRecDepth 100000 in
theorem m_L_size (l : Launch) (hst : l.stackTraces = false) (dC : Nat → ClassId) (dI : Nat → Nat → Nat) (cB : ClassId) (ad : Nat → Nat) (o : Nat) (S : XS) (x0 : Int32) (hI : InvX S) (h5 : ∀ j, j < 4 → (S.2.1 j).2.2.2.2.1 ≤ 5) (hc : S.2.2.1 + 12 < 1000000) : Met l yL_size wsL_size ({ frames := 9, cells := 1, slots := 6, locals := 144 } : Room) (va_Pc [.ref (ad 57), .int x0, .ref o] (PW dC dI cB ad o S)) (va_Qi (fun r (u : XS × Int64) => LQ S u.1 ∧ R_size x0 S r u.1 u.2) (PO2 dC dI ad o) (AO ad o)) 1 6 (AO ad o) := by
  refine va_MetW (cc := cL_size) (maxL := 4) (ret := (some .int)) pl_L rfl ?_
  intro p e s m args below meth c s₁ B hml hv
  obtain ⟨rfl, hPW⟩ := hv
  have hx := B.exec
  have hb := B.bytes
  have hr := B.returns
  have hts := atoms_spec (ws := wsL_size) B.pre
  have htab := vx_table (x := yL_size) B (hts (.codeWith yL_size cL_size 4 (some .int) [(0, 10, 13, 19)]) (by unfold wsL_size; exact List.mem_cons_self))
  have hown : s.vm.findClass RL = some m.cls := findClass_of_methodNamed B.named
  have hlocks := B.notSynchronized
  have hin5 : ∀ w ∈ u_ws RX5 TX5 2, w ∈ wsL_size := tu 1332 (by decide +kernel) rfl
  have hX := WX.ofW hPW
  have hO := hPW.2.2.1
  have hno := hPW.2.2.2.1
  have hl := lv_entry ([.ref (ad 57), .int x0, .ref o]) (n := 4) (Nat.le_of_ble_eq_true rfl)
  rw [lg_entry_eq]
  generalize (lg_sl ([.ref (ad 57), .int x0, .ref o]) ++ List.replicate (4 - (lg_sl ([.ref (ad 57), .int x0, .ref o])).length) Slot.unset).toArray = ls at hl ⊢
  have hl : lv_has ls 4 [(0, .ref (ad 57)), (1, .int x0), (2, .ref o)] := hl
  show W p l e ({ frames := 9, cells := 1, slots := 6, locals := 144 } : Room) s m ([.ref (ad 57), .int x0, .ref o]).toArray below meth c s.heap [] 0 0 (MQ below (va_Qi (fun r (u : XS × Int64) => LQ S u.1 ∧ R_size x0 S r u.1 u.2) (PO2 dC dI ad o) (AO ad o)) ([.ref (ad 57), .int x0, .ref o]).toArray s 1 6 (AO ad o)) (F0 m 0 ls [])
  refine lv_aload_n hx hb dL_size_0 rfl (lv_at hl 2 rfl) ?_
  refine lv_aload_n hx hb dL_size_1 rfl (lv_at hl 0 rfl) ?_
  refine lv_iload_n hx hb dL_size_2 rfl (lv_at hl 1 rfl) ?_
  rcases lim_lt 3 (by decide) x0 with ⟨i, hi, rfl⟩ | hb9
  rotate_left
  · skip
    refine kl_throw (vx_runV (As := [.int x0]) (rest := [.ref o]) ⟨hx, hb, hml, hown, hts⟩ (t_X4_size_1 l hst dC dI ad S x0 hb9) (cwV 1 hts gL_size_X4_size rfl rfl rfl hdX4_size_1 ⟨Nat.le_of_ble_eq_true rfl, Nat.le_of_ble_eq_true rfl⟩) hPW.1.preX rfl rfl hl.1 rfl (lv_room (Nat.le_of_ble_eq_true rfl)) dL_size_3 ⟨Nat.le_of_ble_eq_true rfl, Nat.le_of_ble_eq_true rfl⟩) hX hO (fun ce q9 H hce1 hce2 hce3 hX hO => ?_)
    refine vx_catch hown [] ⟨0, 10, 13, 19⟩ [] (htab.trans rfl) (fun _ h => nomatch h) rfl (by decide) (hts (.classLink RL 19 IX) (tm 830 (by decide +kernel) rfl)) (va_Nw.use rfl hPW.1.2.1.2.1.1) hce1 hce2 hce3 ?_
    refine lv_astore_n (lv' := [(3, .ref q9), (0, .ref (ad 57)), (1, .int x0), (2, .ref o)]) hx hb dL_size_13 rfl hl (by decide) rfl (fun ls hl => ?_)
    refine lv_iconst (v := nI 1) hx hb dL_size_14 (by decide) ?_
    obtain ⟨n9, hN⟩ := hO
    exact W.widen (k := 1) (n := 6) (by simp) (by simp) (W.iret (v := nI 1) hx hb hr (fun t9 ht9 hW9 => ⟨⟨_, (S, n9), rfl, ⟨LQ_same hI h5, (Or.inl ⟨hb9, rfl, rfl⟩)⟩, hX.P ht9 hW9, by rw [ht9]; exact hN⟩, hX.2.2.2.F ht9⟩) hX.2.2.2.2.2 dL_size_15)
  replace hi : i < 3 := by omega
  have hn := (hI.1 i (by omega)).1
  refine kl_cr (va_runV (As := [.int (nI i)]) (rest := [.ref o]) ⟨hx, hb, hml, hown, hts⟩ (m_X4_size l dC dI ad S i hi hI) (cwV 1 hts gL_size_X4_size rfl rfl rfl hdX4_size_1 ⟨Nat.le_of_ble_eq_true rfl, Nat.le_of_ble_eq_true rfl⟩) (hX.preTop 57 6 (by decide) (by decide) rfl rfl) rfl rfl hl.1 rfl (lv_room (Nat.le_of_ble_eq_true rfl)) dL_size_3 ⟨Nat.le_of_ble_eq_true rfl, Nat.le_of_ble_eq_true rfl⟩) (fun r9 hw => ?_)
  refine lv_i2l (v := r9.toInt64) hx hb dL_size_6 rfl ?_
  refine kl_putn hx hb hts hin5 hown hX hO hno (host := "OrderlatticeLaw") (va_Nw.use rfl hPW.2.2.2.2.2.1) dL_size_7 (fun H locs hX hN => ?_)
  refine lv_goto (tgt := 16) hx hb dL_size_10 (by decide) ?_
  refine lv_iconst (v := nI 0) hx hb dL_size_16 (by decide) ?_
  exact W.widen (k := 1) (n := 6) (by simp) (by simp) (W.iret (v := nI 0) hx hb hr (fun t9 ht9 hW9 => ⟨⟨_, (S, r9.toInt64), rfl, ⟨LQ_same hI h5, (Or.inr ⟨i, r9, hi, rfl, rfl, rfl, hw, rfl⟩)⟩, hX.P ht9 hW9, by rw [ht9]; exact hN⟩, hX.2.2.2.F ht9⟩) hX.2.2.2.2.2 dL_size_17)
set_option maxHeartbeats 4000000 in
set_option maxRecDepth 100000 in
theorem m_L_valueAt (l : Launch) (hst : l.stackTraces = false) (dC : Nat → ClassId) (dI : Nat → Nat → Nat) (cB : ClassId) (ad : Nat → Nat) (o : Nat) (S : XS) (x0 : Int32) (x1 : Int32) (hI : InvX S) (h5 : ∀ j, j < 4 → (S.2.1 j).2.2.2.2.1 ≤ 5) (hc : S.2.2.1 + 12 < 1000000) : Met l yL_valueAt wsL_valueAt ({ frames := 9, cells := 1, slots := 6, locals := 146 } : Room) (va_Pc [.ref (ad 57), .int x0, .int x1, .ref o] (PW dC dI cB ad o S)) (va_Qi (fun r (u : XS × Int64) => LQ S u.1 ∧ R_valueAt x0 x1 S r u.1 u.2) (PO2 dC dI ad o) (AO ad o)) 1 6 (AO ad o) := by
  refine va_MetW (cc := cL_valueAt) (maxL := 5) (ret := (some .int)) pl_L rfl ?_
  intro p e s m args below meth c s₁ B hml hv
  obtain ⟨rfl, hPW⟩ := hv
  have hx := B.exec
  have hb := B.bytes
  have hr := B.returns
  have hts := atoms_spec (ws := wsL_valueAt) B.pre
  have htab := vx_table (x := yL_valueAt) B (hts (.codeWith yL_valueAt cL_valueAt 5 (some .int) [(0, 11, 14, 19)]) (by unfold wsL_valueAt; exact List.mem_cons_self))
  have hown : s.vm.findClass RL = some m.cls := findClass_of_methodNamed B.named
  have hlocks := B.notSynchronized
  have hin5 : ∀ w ∈ u_ws RX5 TX5 2, w ∈ wsL_valueAt := tu 1332 (by decide +kernel) rfl
  have hX := WX.ofW hPW
  have hO := hPW.2.2.1
  have hno := hPW.2.2.2.1
  have hl := lv_entry ([.ref (ad 57), .int x0, .int x1, .ref o]) (n := 5) (Nat.le_of_ble_eq_true rfl)
  rw [lg_entry_eq]
  generalize (lg_sl ([.ref (ad 57), .int x0, .int x1, .ref o]) ++ List.replicate (5 - (lg_sl ([.ref (ad 57), .int x0, .int x1, .ref o])).length) Slot.unset).toArray = ls at hl ⊢
  have hl : lv_has ls 5 [(0, .ref (ad 57)), (1, .int x0), (2, .int x1), (3, .ref o)] := hl
  show W p l e ({ frames := 9, cells := 1, slots := 6, locals := 146 } : Room) s m ([.ref (ad 57), .int x0, .int x1, .ref o]).toArray below meth c s.heap [] 0 0 (MQ below (va_Qi (fun r (u : XS × Int64) => LQ S u.1 ∧ R_valueAt x0 x1 S r u.1 u.2) (PO2 dC dI ad o) (AO ad o)) ([.ref (ad 57), .int x0, .int x1, .ref o]).toArray s 1 6 (AO ad o)) (F0 m 0 ls [])
  refine lv_aload_n hx hb dL_valueAt_0 rfl (lv_at hl 3 rfl) ?_
  refine lv_aload_n hx hb dL_valueAt_1 rfl (lv_at hl 0 rfl) ?_
  refine lv_iload_n hx hb dL_valueAt_2 rfl (lv_at hl 1 rfl) ?_
  refine lv_iload_n hx hb dL_valueAt_3 rfl (lv_at hl 2 rfl) ?_
  rcases lim_lt 3 (by decide) x0 with ⟨i, hi, rfl⟩ | hb9
  rotate_left
  · skip
    refine kl_throw (vx_runV (As := [.int x0, .int x1]) (rest := [.ref o]) ⟨hx, hb, hml, hown, hts⟩ (t_X4_valueAt_1 l hst dC dI ad S x0 x1 hb9) (cwV 2 hts gL_valueAt_X4_valueAt rfl rfl rfl hdX4_valueAt_2 ⟨Nat.le_of_ble_eq_true rfl, Nat.le_of_ble_eq_true rfl⟩) hPW.1.preX rfl rfl hl.1 rfl (lv_room (Nat.le_of_ble_eq_true rfl)) dL_valueAt_4 ⟨Nat.le_of_ble_eq_true rfl, Nat.le_of_ble_eq_true rfl⟩) hX hO (fun ce q9 H hce1 hce2 hce3 hX hO => ?_)
    refine vx_catch hown [] ⟨0, 11, 14, 19⟩ [] (htab.trans rfl) (fun _ h => nomatch h) rfl (by decide) (hts (.classLink RL 19 IX) (tm 830 (by decide +kernel) rfl)) (va_Nw.use rfl hPW.1.2.1.2.1.1) hce1 hce2 hce3 ?_
    refine lv_astore (lv' := [(4, .ref q9), (0, .ref (ad 57)), (1, .int x0), (2, .int x1), (3, .ref o)]) hx hb dL_valueAt_14 hl (by decide) rfl (fun ls hl => ?_)
    refine lv_iconst (v := nI 1) hx hb dL_valueAt_16 (by decide) ?_
    obtain ⟨n9, hN⟩ := hO
    exact W.widen (k := 1) (n := 6) (by simp) (by simp) (W.iret (v := nI 1) hx hb hr (fun t9 ht9 hW9 => ⟨⟨_, (S, n9), rfl, ⟨LQ_same hI h5, (Or.inl ⟨hb9, rfl, rfl⟩)⟩, hX.P ht9 hW9, by rw [ht9]; exact hN⟩, hX.2.2.2.F ht9⟩) hX.2.2.2.2.2 dL_valueAt_17)
  replace hi : i < 3 := by omega
  have hn := (hI.1 i (by omega)).1
  rcases lim_lt (S.1 i).2.2 (by omega) x1 with ⟨q, hq, rfl⟩ | hb9
  rotate_left
  · skip
    refine kl_throw (vx_runV (As := [.int (nI i), .int x1]) (rest := [.ref o]) ⟨hx, hb, hml, hown, hts⟩ (t_X4_valueAt_2 l hst dC dI ad S i x1 hi (by omega) hb9) (cwV 2 hts gL_valueAt_X4_valueAt rfl rfl rfl hdX4_valueAt_2 ⟨Nat.le_of_ble_eq_true rfl, Nat.le_of_ble_eq_true rfl⟩) hPW.1.preX rfl rfl hl.1 rfl (lv_room (Nat.le_of_ble_eq_true rfl)) dL_valueAt_4 ⟨Nat.le_of_ble_eq_true rfl, Nat.le_of_ble_eq_true rfl⟩) hX hO (fun ce q9 H hce1 hce2 hce3 hX hO => ?_)
    refine vx_catch hown [] ⟨0, 11, 14, 19⟩ [] (htab.trans rfl) (fun _ h => nomatch h) rfl (by decide) (hts (.classLink RL 19 IX) (tm 830 (by decide +kernel) rfl)) (va_Nw.use rfl hPW.1.2.1.2.1.1) hce1 hce2 hce3 ?_
    refine lv_astore (lv' := [(4, .ref q9), (0, .ref (ad 57)), (1, .int (nI i)), (2, .int x1), (3, .ref o)]) hx hb dL_valueAt_14 hl (by decide) rfl (fun ls hl => ?_)
    refine lv_iconst (v := nI 1) hx hb dL_valueAt_16 (by decide) ?_
    obtain ⟨n9, hN⟩ := hO
    exact W.widen (k := 1) (n := 6) (by simp) (by simp) (W.iret (v := nI 1) hx hb hr (fun t9 ht9 hW9 => ⟨⟨_, (S, n9), rfl, ⟨LQ_same hI h5, (Or.inr (Or.inl ⟨i, hi, rfl, hb9, rfl, rfl⟩))⟩, hX.P ht9 hW9, by rw [ht9]; exact hN⟩, hX.2.2.2.F ht9⟩) hX.2.2.2.2.2 dL_valueAt_17)
  replace hq : q < (S.1 i).2.2 := by omega
  refine kl_cr (va_runV (As := [.int (nI i), .int (nI q)]) (rest := [.ref o]) ⟨hx, hb, hml, hown, hts⟩ (m_X4_valueAt l dC dI ad S i q hi hq hI) (cwV 2 hts gL_valueAt_X4_valueAt rfl rfl rfl hdX4_valueAt_2 ⟨Nat.le_of_ble_eq_true rfl, Nat.le_of_ble_eq_true rfl⟩) (hX.preTop 57 6 (by decide) (by decide) rfl rfl) rfl rfl hl.1 rfl (lv_room (Nat.le_of_ble_eq_true rfl)) dL_valueAt_4 ⟨Nat.le_of_ble_eq_true rfl, Nat.le_of_ble_eq_true rfl⟩) (fun r9 hw => ?_)
  refine lv_i2l (v := r9.toInt64) hx hb dL_valueAt_7 rfl ?_
  refine kl_putn hx hb hts hin5 hown hX hO hno (host := "OrderlatticeLaw") (va_Nw.use rfl hPW.2.2.2.2.2.1) dL_valueAt_8 (fun H locs hX hN => ?_)
  refine lv_goto (tgt := 18) hx hb dL_valueAt_11 (by decide) ?_
  refine lv_iconst (v := nI 0) hx hb dL_valueAt_18 (by decide) ?_
  exact W.widen (k := 1) (n := 6) (by simp) (by simp) (W.iret (v := nI 0) hx hb hr (fun t9 ht9 hW9 => ⟨⟨_, (S, r9.toInt64), rfl, ⟨LQ_same hI h5, (Or.inr (Or.inr ⟨i, q, r9, hi, hq, rfl, rfl, rfl, rfl, hw, rfl⟩))⟩, hX.P ht9 hW9, by rw [ht9]; exact hN⟩, hX.2.2.2.F ht9⟩) hX.2.2.2.2.2 dL_valueAt_19)
set_option maxHeartbeats 4000000 in
set_option maxRecDepth 100000 in
theorem m_L_markAt (l : Launch) (hst : l.stackTraces = false) (dC : Nat → ClassId) (dI : Nat → Nat → Nat) (cB : ClassId) (ad : Nat → Nat) (o : Nat) (S : XS) (x0 : Int32) (x1 : Int32) (hI : InvX S) (h5 : ∀ j, j < 4 → (S.2.1 j).2.2.2.2.1 ≤ 5) (hc : S.2.2.1 + 12 < 1000000) : Met l yL_markAt wsL_markAt ({ frames := 9, cells := 1, slots := 6, locals := 146 } : Room) (va_Pc [.ref (ad 57), .int x0, .int x1, .ref o] (PW dC dI cB ad o S)) (va_Qi (fun r (u : XS × Int64) => LQ S u.1 ∧ R_markAt x0 x1 S r u.1 u.2) (PO2 dC dI ad o) (AO ad o)) 1 6 (AO ad o) := by
  refine va_MetW (cc := cL_markAt) (maxL := 5) (ret := (some .int)) pl_L rfl ?_
  intro p e s m args below meth c s₁ B hml hv
  obtain ⟨rfl, hPW⟩ := hv
  have hx := B.exec
  have hb := B.bytes
  have hr := B.returns
  have hts := atoms_spec (ws := wsL_markAt) B.pre
  have htab := vx_table (x := yL_markAt) B (hts (.codeWith yL_markAt cL_markAt 5 (some .int) [(0, 11, 14, 19)]) (by unfold wsL_markAt; exact List.mem_cons_self))
  have hown : s.vm.findClass RL = some m.cls := findClass_of_methodNamed B.named
  have hlocks := B.notSynchronized
  have hin5 : ∀ w ∈ u_ws RX5 TX5 2, w ∈ wsL_markAt := tu 1332 (by decide +kernel) rfl
  have hX := WX.ofW hPW
  have hO := hPW.2.2.1
  have hno := hPW.2.2.2.1
  have hl := lv_entry ([.ref (ad 57), .int x0, .int x1, .ref o]) (n := 5) (Nat.le_of_ble_eq_true rfl)
  rw [lg_entry_eq]
  generalize (lg_sl ([.ref (ad 57), .int x0, .int x1, .ref o]) ++ List.replicate (5 - (lg_sl ([.ref (ad 57), .int x0, .int x1, .ref o])).length) Slot.unset).toArray = ls at hl ⊢
  have hl : lv_has ls 5 [(0, .ref (ad 57)), (1, .int x0), (2, .int x1), (3, .ref o)] := hl
  show W p l e ({ frames := 9, cells := 1, slots := 6, locals := 146 } : Room) s m ([.ref (ad 57), .int x0, .int x1, .ref o]).toArray below meth c s.heap [] 0 0 (MQ below (va_Qi (fun r (u : XS × Int64) => LQ S u.1 ∧ R_markAt x0 x1 S r u.1 u.2) (PO2 dC dI ad o) (AO ad o)) ([.ref (ad 57), .int x0, .int x1, .ref o]).toArray s 1 6 (AO ad o)) (F0 m 0 ls [])
  refine lv_aload_n hx hb dL_markAt_0 rfl (lv_at hl 3 rfl) ?_
  refine lv_aload_n hx hb dL_markAt_1 rfl (lv_at hl 0 rfl) ?_
  refine lv_iload_n hx hb dL_markAt_2 rfl (lv_at hl 1 rfl) ?_
  refine lv_iload_n hx hb dL_markAt_3 rfl (lv_at hl 2 rfl) ?_
  rcases lim_lt 3 (by decide) x0 with ⟨i, hi, rfl⟩ | hb9
  rotate_left
  · skip
    refine kl_throw (vx_runV (As := [.int x0, .int x1]) (rest := [.ref o]) ⟨hx, hb, hml, hown, hts⟩ (t_X4_markAt_1 l hst dC dI ad S x0 x1 hb9) (cwV 2 hts gL_markAt_X4_markAt rfl rfl rfl hdX4_markAt_2 ⟨Nat.le_of_ble_eq_true rfl, Nat.le_of_ble_eq_true rfl⟩) hPW.1.preX rfl rfl hl.1 rfl (lv_room (Nat.le_of_ble_eq_true rfl)) dL_markAt_4 ⟨Nat.le_of_ble_eq_true rfl, Nat.le_of_ble_eq_true rfl⟩) hX hO (fun ce q9 H hce1 hce2 hce3 hX hO => ?_)
    refine vx_catch hown [] ⟨0, 11, 14, 19⟩ [] (htab.trans rfl) (fun _ h => nomatch h) rfl (by decide) (hts (.classLink RL 19 IX) (tm 830 (by decide +kernel) rfl)) (va_Nw.use rfl hPW.1.2.1.2.1.1) hce1 hce2 hce3 ?_
    refine lv_astore (lv' := [(4, .ref q9), (0, .ref (ad 57)), (1, .int x0), (2, .int x1), (3, .ref o)]) hx hb dL_markAt_14 hl (by decide) rfl (fun ls hl => ?_)
    refine lv_iconst (v := nI 1) hx hb dL_markAt_16 (by decide) ?_
    obtain ⟨n9, hN⟩ := hO
    exact W.widen (k := 1) (n := 6) (by simp) (by simp) (W.iret (v := nI 1) hx hb hr (fun t9 ht9 hW9 => ⟨⟨_, (S, n9), rfl, ⟨LQ_same hI h5, (Or.inl ⟨hb9, rfl, rfl⟩)⟩, hX.P ht9 hW9, by rw [ht9]; exact hN⟩, hX.2.2.2.F ht9⟩) hX.2.2.2.2.2 dL_markAt_17)
  replace hi : i < 3 := by omega
  have hn := (hI.1 i (by omega)).1
  rcases lim_lt (S.1 i).2.2 (by omega) x1 with ⟨q, hq, rfl⟩ | hb9
  rotate_left
  · skip
    refine kl_throw (vx_runV (As := [.int (nI i), .int x1]) (rest := [.ref o]) ⟨hx, hb, hml, hown, hts⟩ (t_X4_markAt_2 l hst dC dI ad S i x1 hi (by omega) hb9) (cwV 2 hts gL_markAt_X4_markAt rfl rfl rfl hdX4_markAt_2 ⟨Nat.le_of_ble_eq_true rfl, Nat.le_of_ble_eq_true rfl⟩) hPW.1.preX rfl rfl hl.1 rfl (lv_room (Nat.le_of_ble_eq_true rfl)) dL_markAt_4 ⟨Nat.le_of_ble_eq_true rfl, Nat.le_of_ble_eq_true rfl⟩) hX hO (fun ce q9 H hce1 hce2 hce3 hX hO => ?_)
    refine vx_catch hown [] ⟨0, 11, 14, 19⟩ [] (htab.trans rfl) (fun _ h => nomatch h) rfl (by decide) (hts (.classLink RL 19 IX) (tm 830 (by decide +kernel) rfl)) (va_Nw.use rfl hPW.1.2.1.2.1.1) hce1 hce2 hce3 ?_
    refine lv_astore (lv' := [(4, .ref q9), (0, .ref (ad 57)), (1, .int (nI i)), (2, .int x1), (3, .ref o)]) hx hb dL_markAt_14 hl (by decide) rfl (fun ls hl => ?_)
    refine lv_iconst (v := nI 1) hx hb dL_markAt_16 (by decide) ?_
    obtain ⟨n9, hN⟩ := hO
    exact W.widen (k := 1) (n := 6) (by simp) (by simp) (W.iret (v := nI 1) hx hb hr (fun t9 ht9 hW9 => ⟨⟨_, (S, n9), rfl, ⟨LQ_same hI h5, (Or.inr (Or.inl ⟨i, hi, rfl, hb9, rfl, rfl⟩))⟩, hX.P ht9 hW9, by rw [ht9]; exact hN⟩, hX.2.2.2.F ht9⟩) hX.2.2.2.2.2 dL_markAt_17)
  replace hq : q < (S.1 i).2.2 := by omega
  refine kl_cr (va_runV (As := [.int (nI i), .int (nI q)]) (rest := [.ref o]) ⟨hx, hb, hml, hown, hts⟩ (m_X4_markAt l dC dI ad S i q hi hq hI) (cwV 2 hts gL_markAt_X4_markAt rfl rfl rfl hdX4_markAt_2 ⟨Nat.le_of_ble_eq_true rfl, Nat.le_of_ble_eq_true rfl⟩) (hX.preTop 57 6 (by decide) (by decide) rfl rfl) rfl rfl hl.1 rfl (lv_room (Nat.le_of_ble_eq_true rfl)) dL_markAt_4 ⟨Nat.le_of_ble_eq_true rfl, Nat.le_of_ble_eq_true rfl⟩) (fun r9 hw => ?_)
  refine lv_i2l (v := r9.toInt64) hx hb dL_markAt_7 rfl ?_
  refine kl_putn hx hb hts hin5 hown hX hO hno (host := "OrderlatticeLaw") (va_Nw.use rfl hPW.2.2.2.2.2.1) dL_markAt_8 (fun H locs hX hN => ?_)
  refine lv_goto (tgt := 18) hx hb dL_markAt_11 (by decide) ?_
  refine lv_iconst (v := nI 0) hx hb dL_markAt_18 (by decide) ?_
  exact W.widen (k := 1) (n := 6) (by simp) (by simp) (W.iret (v := nI 0) hx hb hr (fun t9 ht9 hW9 => ⟨⟨_, (S, r9.toInt64), rfl, ⟨LQ_same hI h5, (Or.inr (Or.inr ⟨i, q, r9, hi, hq, rfl, rfl, rfl, rfl, hw, rfl⟩))⟩, hX.P ht9 hW9, by rw [ht9]; exact hN⟩, hX.2.2.2.F ht9⟩) hX.2.2.2.2.2 dL_markAt_19)
set_option maxHeartbeats 4000000 in
set_option maxRecDepth 100000 in
theorem m_L_text (l : Launch) (hst : l.stackTraces = false) (dC : Nat → ClassId) (dI : Nat → Nat → Nat) (cB : ClassId) (ad : Nat → Nat) (o : Nat) (S : XS) (x0 : Int32) (hI : InvX S) (h5 : ∀ j, j < 4 → (S.2.1 j).2.2.2.2.1 ≤ 5) (hc : S.2.2.1 + 12 < 1000000) : Met l yL_text wsL_text ({ frames := 9, cells := 80, slots := 900, locals := 194 } : Room) (va_Pc [.ref (ad 57), .int x0, .ref o] (PW dC dI cB ad o S)) (va_Qi (fun r (u : XS × Int64) => LQ S u.1 ∧ R_text x0 S r u.1 u.2) (PO2 dC dI ad o) (AO ad o)) 80 900 (AO ad o) := by
  refine va_MetW (cc := cL_text) (maxL := 4) (ret := (some .int)) pl_L rfl ?_
  intro p e s m args below meth c s₁ B hml hv
  obtain ⟨rfl, hPW⟩ := hv
  have hx := B.exec
  have hb := B.bytes
  have hr := B.returns
  have hts := atoms_spec (ws := wsL_text) B.pre
  have htab := vx_table (x := yL_text) B (hts (.codeWith yL_text cL_text 4 (some .int) [(0, 9, 12, 19)]) (by unfold wsL_text; exact List.mem_cons_self))
  have hown : s.vm.findClass RL = some m.cls := findClass_of_methodNamed B.named
  have hlocks := B.notSynchronized
  have hin5 : ∀ w ∈ u_ws RX5 TX5 2, w ∈ wsL_text := tu 1332 (by decide +kernel) rfl
  have hX := WX.ofW hPW
  have hO := hPW.2.2.1
  have hno := hPW.2.2.2.1
  have hl := lv_entry ([.ref (ad 57), .int x0, .ref o]) (n := 4) (Nat.le_of_ble_eq_true rfl)
  rw [lg_entry_eq]
  generalize (lg_sl ([.ref (ad 57), .int x0, .ref o]) ++ List.replicate (4 - (lg_sl ([.ref (ad 57), .int x0, .ref o])).length) Slot.unset).toArray = ls at hl ⊢
  have hl : lv_has ls 4 [(0, .ref (ad 57)), (1, .int x0), (2, .ref o)] := hl
  show W p l e ({ frames := 9, cells := 80, slots := 900, locals := 194 } : Room) s m ([.ref (ad 57), .int x0, .ref o]).toArray below meth c s.heap [] 0 0 (MQ below (va_Qi (fun r (u : XS × Int64) => LQ S u.1 ∧ R_text x0 S r u.1 u.2) (PO2 dC dI ad o) (AO ad o)) ([.ref (ad 57), .int x0, .ref o]).toArray s 80 900 (AO ad o)) (F0 m 0 ls [])
  refine lv_aload_n hx hb dL_text_0 rfl (lv_at hl 2 rfl) ?_
  refine lv_aload_n hx hb dL_text_1 rfl (lv_at hl 0 rfl) ?_
  refine lv_iload_n hx hb dL_text_2 rfl (lv_at hl 1 rfl) ?_
  rcases lim_lt 3 (by decide) x0 with ⟨i, hi, rfl⟩ | hb9
  rotate_left
  · skip
    refine kl_throw (vx_runV (As := [.int x0]) (rest := [.ref o]) ⟨hx, hb, hml, hown, hts⟩ (t_X4_text_1 l hst dC dI ad S x0 hb9) (cwV 1 hts gL_text_X4_text rfl rfl rfl hdX4_text_1 ⟨Nat.le_of_ble_eq_true rfl, Nat.le_of_ble_eq_true rfl⟩) hPW.1.preX rfl rfl hl.1 rfl (lv_room (Nat.le_of_ble_eq_true rfl)) dL_text_3 ⟨Nat.le_of_ble_eq_true rfl, Nat.le_of_ble_eq_true rfl⟩) hX hO (fun ce q9 H hce1 hce2 hce3 hX hO => ?_)
    refine vx_catch hown [] ⟨0, 9, 12, 19⟩ [] (htab.trans rfl) (fun _ h => nomatch h) rfl (by decide) (hts (.classLink RL 19 IX) (tm 830 (by decide +kernel) rfl)) (va_Nw.use rfl hPW.1.2.1.2.1.1) hce1 hce2 hce3 ?_
    refine lv_astore_n (lv' := [(3, .ref q9), (0, .ref (ad 57)), (1, .int x0), (2, .ref o)]) hx hb dL_text_12 rfl hl (by decide) rfl (fun ls hl => ?_)
    refine lv_iconst (v := nI 1) hx hb dL_text_13 (by decide) ?_
    obtain ⟨n9, hN⟩ := hO
    exact W.widen (k := 80) (n := 900) (by simp) (by simp) (W.iret (v := nI 1) hx hb hr (fun t9 ht9 hW9 => ⟨⟨_, (S, n9), rfl, ⟨LQ_same hI h5, (Or.inl ⟨hb9, rfl, rfl⟩)⟩, hX.P ht9 hW9, by rw [ht9]; exact hN⟩, hX.2.2.2.F ht9⟩) hX.2.2.2.2.2 dL_text_14)
  replace hi : i < 3 := by omega
  have hn := (hI.1 i (by omega)).1
  refine kl_rr (va_runV (As := [.int (nI i)]) (rest := [.ref o]) ⟨hx, hb, hml, hown, hts⟩ (m_X4_text l dC dI cB ad S i hi hI) (cwV 1 hts gL_text_X4_text rfl rfl rfl hdX4_text_1 ⟨Nat.le_of_ble_eq_true rfl, Nat.le_of_ble_eq_true rfl⟩) hPW.preT rfl rfl hl.1 rfl (lv_room (Nat.le_of_ble_eq_true rfl)) dL_text_3 ⟨Nat.le_of_ble_eq_true rfl, Nat.le_of_ble_eq_true rfl⟩) hX hO hno (fun S1 q9 H locs hw hX hO => ?_)
  have hLQ : LQ S S1 := by rw [hw]; exact LQ_same hI h5
  refine kl_put hx hb hts hin5 hown hX hO hno 1 (by decide) (host := "OrderlatticeLaw") (va_Nw.use rfl hPW.2.2.2.2.2.2) (ty := (.object "java/lang/String")) rfl rfl rfl (Or.inr ⟨rfl, _, rfl⟩) dL_text_6 (fun H locs hX hO => ?_)
  refine lv_goto (tgt := 15) hx hb dL_text_9 (by decide) ?_
  refine lv_iconst (v := nI 0) hx hb dL_text_15 (by decide) ?_
  obtain ⟨n9, hN⟩ := hO
  exact W.widen (k := 80) (n := 900) (by simp) (by simp) (W.iret (v := nI 0) hx hb hr (fun t9 ht9 hW9 => ⟨⟨_, (S1, n9), rfl, ⟨hLQ, (Or.inr ⟨i, hi, rfl, rfl, hw⟩)⟩, hX.P ht9 hW9, by rw [ht9]; exact hN⟩, hX.2.2.2.F ht9⟩) hX.2.2.2.2.2 dL_text_16)
set_option maxHeartbeats 4000000 in
set_option maxRecDepth 100000 in
theorem m_L_extreme (l : Launch) (hst : l.stackTraces = false) (dC : Nat → ClassId) (dI : Nat → Nat → Nat) (cB : ClassId) (ad : Nat → Nat) (o : Nat) (S : XS) (x0 : Int32) (x1 : Int32) (z2 : Bool) (hI : InvX S) (h5 : ∀ j, j < 4 → (S.2.1 j).2.2.2.2.1 ≤ 5) (hc : S.2.2.1 + 12 < 1000000) : Met l yL_extreme wsL_extreme ({ frames := 9, cells := 1, slots := 6, locals := 149 } : Room) (va_Pc [.ref (ad 57), .int x0, .int x1, .int (bI z2), .ref o] (PW dC dI cB ad o S)) (va_Qi (fun r (u : XS × Int64) => LQ S u.1 ∧ R_extreme x0 x1 z2 S r u.1 u.2) (PO2 dC dI ad o) (AO ad o)) 1 6 (AO ad o) := by
  refine va_MetW (cc := cL_extreme) (maxL := 6) (ret := (some .int)) pl_L rfl ?_
  intro p e s m args below meth c s₁ B hml hv
  obtain ⟨rfl, hPW⟩ := hv
  have hx := B.exec
  have hb := B.bytes
  have hr := B.returns
  have hts := atoms_spec (ws := wsL_extreme) B.pre
  have htab := vx_table (x := yL_extreme) B (hts (.codeWith yL_extreme cL_extreme 6 (some .int) [(0, 13, 16, 19)]) (by unfold wsL_extreme; exact List.mem_cons_self))
  have hown : s.vm.findClass RL = some m.cls := findClass_of_methodNamed B.named
  have hlocks := B.notSynchronized
  have hin5 : ∀ w ∈ u_ws RX5 TX5 2, w ∈ wsL_extreme := tu 1332 (by decide +kernel) rfl
  have hX := WX.ofW hPW
  have hO := hPW.2.2.1
  have hno := hPW.2.2.2.1
  have hl := lv_entry ([.ref (ad 57), .int x0, .int x1, .int (bI z2), .ref o]) (n := 6) (Nat.le_of_ble_eq_true rfl)
  rw [lg_entry_eq]
  generalize (lg_sl ([.ref (ad 57), .int x0, .int x1, .int (bI z2), .ref o]) ++ List.replicate (6 - (lg_sl ([.ref (ad 57), .int x0, .int x1, .int (bI z2), .ref o])).length) Slot.unset).toArray = ls at hl ⊢
  have hl : lv_has ls 6 [(0, .ref (ad 57)), (1, .int x0), (2, .int x1), (3, .int (bI z2)), (4, .ref o)] := hl
  show W p l e ({ frames := 9, cells := 1, slots := 6, locals := 149 } : Room) s m ([.ref (ad 57), .int x0, .int x1, .int (bI z2), .ref o]).toArray below meth c s.heap [] 0 0 (MQ below (va_Qi (fun r (u : XS × Int64) => LQ S u.1 ∧ R_extreme x0 x1 z2 S r u.1 u.2) (PO2 dC dI ad o) (AO ad o)) ([.ref (ad 57), .int x0, .int x1, .int (bI z2), .ref o]).toArray s 1 6 (AO ad o)) (F0 m 0 ls [])
  refine lv_aload hx hb dL_extreme_0 (lv_at hl 4 rfl) ?_
  refine lv_aload_n hx hb dL_extreme_2 rfl (lv_at hl 0 rfl) ?_
  refine lv_iload_n hx hb dL_extreme_3 rfl (lv_at hl 1 rfl) ?_
  refine lv_iload_n hx hb dL_extreme_4 rfl (lv_at hl 2 rfl) ?_
  refine lv_iload_n hx hb dL_extreme_5 rfl (lv_at hl 3 rfl) ?_
  rcases lim_lt 3 (by decide) x0 with ⟨i, hi, rfl⟩ | hb9
  rotate_left
  · skip
    refine kl_throw (vx_runV (As := [.int x0, .int x1, .int (bI z2)]) (rest := [.ref o]) ⟨hx, hb, hml, hown, hts⟩ (t_X4_extreme_1 l hst dC dI ad S x0 x1 z2 hb9) (cwV 3 hts gL_extreme_X4_extreme rfl rfl rfl hdX4_extreme_3 ⟨Nat.le_of_ble_eq_true rfl, Nat.le_of_ble_eq_true rfl⟩) hPW.1.preX rfl rfl hl.1 rfl (lv_room (Nat.le_of_ble_eq_true rfl)) dL_extreme_6 ⟨Nat.le_of_ble_eq_true rfl, Nat.le_of_ble_eq_true rfl⟩) hX hO (fun ce q9 H hce1 hce2 hce3 hX hO => ?_)
    refine vx_catch hown [] ⟨0, 13, 16, 19⟩ [] (htab.trans rfl) (fun _ h => nomatch h) rfl (by decide) (hts (.classLink RL 19 IX) (tm 830 (by decide +kernel) rfl)) (va_Nw.use rfl hPW.1.2.1.2.1.1) hce1 hce2 hce3 ?_
    refine lv_astore (lv' := [(5, .ref q9), (0, .ref (ad 57)), (1, .int x0), (2, .int x1), (3, .int (bI z2)), (4, .ref o)]) hx hb dL_extreme_16 hl (by decide) rfl (fun ls hl => ?_)
    refine lv_iconst (v := nI 1) hx hb dL_extreme_18 (by decide) ?_
    obtain ⟨n9, hN⟩ := hO
    exact W.widen (k := 1) (n := 6) (by simp) (by simp) (W.iret (v := nI 1) hx hb hr (fun t9 ht9 hW9 => ⟨⟨_, (S, n9), rfl, ⟨LQ_same hI h5, (Or.inl ⟨hb9, rfl, rfl⟩)⟩, hX.P ht9 hW9, by rw [ht9]; exact hN⟩, hX.2.2.2.F ht9⟩) hX.2.2.2.2.2 dL_extreme_19)
  replace hi : i < 3 := by omega
  have hn := (hI.1 i (by omega)).1
  rcases lim_lt 4 (by decide) x1 with ⟨j, hj, rfl⟩ | hb9
  rotate_left
  · skip
    refine kl_throw (vx_runV (As := [.int (nI i), .int x1, .int (bI z2)]) (rest := [.ref o]) ⟨hx, hb, hml, hown, hts⟩ (t_X4_extreme_2 l hst dC dI ad S i x1 z2 hi hb9) (cwV 3 hts gL_extreme_X4_extreme rfl rfl rfl hdX4_extreme_3 ⟨Nat.le_of_ble_eq_true rfl, Nat.le_of_ble_eq_true rfl⟩) hPW.1.preX rfl rfl hl.1 rfl (lv_room (Nat.le_of_ble_eq_true rfl)) dL_extreme_6 ⟨Nat.le_of_ble_eq_true rfl, Nat.le_of_ble_eq_true rfl⟩) hX hO (fun ce q9 H hce1 hce2 hce3 hX hO => ?_)
    refine vx_catch hown [] ⟨0, 13, 16, 19⟩ [] (htab.trans rfl) (fun _ h => nomatch h) rfl (by decide) (hts (.classLink RL 19 IX) (tm 830 (by decide +kernel) rfl)) (va_Nw.use rfl hPW.1.2.1.2.1.1) hce1 hce2 hce3 ?_
    refine lv_astore (lv' := [(5, .ref q9), (0, .ref (ad 57)), (1, .int (nI i)), (2, .int x1), (3, .int (bI z2)), (4, .ref o)]) hx hb dL_extreme_16 hl (by decide) rfl (fun ls hl => ?_)
    refine lv_iconst (v := nI 1) hx hb dL_extreme_18 (by decide) ?_
    obtain ⟨n9, hN⟩ := hO
    exact W.widen (k := 1) (n := 6) (by simp) (by simp) (W.iret (v := nI 1) hx hb hr (fun t9 ht9 hW9 => ⟨⟨_, (S, n9), rfl, ⟨LQ_same hI h5, (Or.inr (Or.inl ⟨i, hi, rfl, hb9, rfl, rfl⟩))⟩, hX.P ht9 hW9, by rw [ht9]; exact hN⟩, hX.2.2.2.F ht9⟩) hX.2.2.2.2.2 dL_extreme_19)
  replace hj : j < 4 := by omega
  refine kl_cr (va_runV (As := [.int (nI i), .int (nI j), .int (bI z2)]) (rest := [.ref o]) ⟨hx, hb, hml, hown, hts⟩ (m_X4_extreme l dC dI ad S i j z2 hi hj hI) (cwV 3 hts gL_extreme_X4_extreme rfl rfl rfl hdX4_extreme_3 ⟨Nat.le_of_ble_eq_true rfl, Nat.le_of_ble_eq_true rfl⟩) (hX.preTop 57 6 (by decide) (by decide) rfl rfl) rfl rfl hl.1 rfl (lv_room (Nat.le_of_ble_eq_true rfl)) dL_extreme_6 ⟨Nat.le_of_ble_eq_true rfl, Nat.le_of_ble_eq_true rfl⟩) (fun r9 hw => ?_)
  refine lv_i2l (v := r9.toInt64) hx hb dL_extreme_9 rfl ?_
  refine kl_putn hx hb hts hin5 hown hX hO hno (host := "OrderlatticeLaw") (va_Nw.use rfl hPW.2.2.2.2.2.1) dL_extreme_10 (fun H locs hX hN => ?_)
  refine lv_goto (tgt := 20) hx hb dL_extreme_13 (by decide) ?_
  refine lv_iconst (v := nI 0) hx hb dL_extreme_20 (by decide) ?_
  exact W.widen (k := 1) (n := 6) (by simp) (by simp) (W.iret (v := nI 0) hx hb hr (fun t9 ht9 hW9 => ⟨⟨_, (S, r9.toInt64), rfl, ⟨LQ_same hI h5, (Or.inr (Or.inr ⟨i, j, r9, hi, hj, rfl, rfl, rfl, rfl, hw, rfl⟩))⟩, hX.P ht9 hW9, by rw [ht9]; exact hN⟩, hX.2.2.2.F ht9⟩) hX.2.2.2.2.2 dL_extreme_21)
set_option maxHeartbeats 4000000 in
set_option maxRecDepth 100000 in
theorem m_L_search (l : Launch) (hst : l.stackTraces = false) (dC : Nat → ClassId) (dI : Nat → Nat → Nat) (cB : ClassId) (ad : Nat → Nat) (o : Nat) (S : XS) (x0 : Int32) (x1 : Int32) (x2 : Int32) (hI : InvX S) (h5 : ∀ j, j < 4 → (S.2.1 j).2.2.2.2.1 ≤ 5) (hc : S.2.2.1 + 12 < 1000000) : Met l yL_search wsL_search ({ frames := 9, cells := 1, slots := 6, locals := 148 } : Room) (va_Pc [.ref (ad 57), .int x0, .int x1, .int x2, .ref o] (PW dC dI cB ad o S)) (va_Qi (fun r (u : XS × Int64) => LQ S u.1 ∧ R_search x0 x1 x2 S r u.1 u.2) (PO2 dC dI ad o) (AO ad o)) 1 6 (AO ad o) := by
  refine va_MetW (cc := cL_search) (maxL := 6) (ret := (some .int)) pl_L rfl ?_
  intro p e s m args below meth c s₁ B hml hv
  obtain ⟨rfl, hPW⟩ := hv
  have hx := B.exec
  have hb := B.bytes
  have hr := B.returns
  have hts := atoms_spec (ws := wsL_search) B.pre
  have htab := vx_table (x := yL_search) B (hts (.codeWith yL_search cL_search 6 (some .int) [(0, 13, 16, 19), (0, 13, 20, 21)]) (by unfold wsL_search; exact List.mem_cons_self))
  have hown : s.vm.findClass RL = some m.cls := findClass_of_methodNamed B.named
  have hlocks := B.notSynchronized
  have hin5 : ∀ w ∈ u_ws RX5 TX5 2, w ∈ wsL_search := tu 1332 (by decide +kernel) rfl
  have hX := WX.ofW hPW
  have hO := hPW.2.2.1
  have hno := hPW.2.2.2.1
  have hl := lv_entry ([.ref (ad 57), .int x0, .int x1, .int x2, .ref o]) (n := 6) (Nat.le_of_ble_eq_true rfl)
  rw [lg_entry_eq]
  generalize (lg_sl ([.ref (ad 57), .int x0, .int x1, .int x2, .ref o]) ++ List.replicate (6 - (lg_sl ([.ref (ad 57), .int x0, .int x1, .int x2, .ref o])).length) Slot.unset).toArray = ls at hl ⊢
  have hl : lv_has ls 6 [(0, .ref (ad 57)), (1, .int x0), (2, .int x1), (3, .int x2), (4, .ref o)] := hl
  show W p l e ({ frames := 9, cells := 1, slots := 6, locals := 148 } : Room) s m ([.ref (ad 57), .int x0, .int x1, .int x2, .ref o]).toArray below meth c s.heap [] 0 0 (MQ below (va_Qi (fun r (u : XS × Int64) => LQ S u.1 ∧ R_search x0 x1 x2 S r u.1 u.2) (PO2 dC dI ad o) (AO ad o)) ([.ref (ad 57), .int x0, .int x1, .int x2, .ref o]).toArray s 1 6 (AO ad o)) (F0 m 0 ls [])
  refine lv_aload hx hb dL_search_0 (lv_at hl 4 rfl) ?_
  refine lv_aload_n hx hb dL_search_2 rfl (lv_at hl 0 rfl) ?_
  refine lv_iload_n hx hb dL_search_3 rfl (lv_at hl 1 rfl) ?_
  refine lv_iload_n hx hb dL_search_4 rfl (lv_at hl 2 rfl) ?_
  refine lv_iload_n hx hb dL_search_5 rfl (lv_at hl 3 rfl) ?_
  rcases lim_lt 3 (by decide) x0 with ⟨i, hi, rfl⟩ | hb9
  rotate_left
  · skip
    refine kl_throw (vx_runV (As := [.int x0, .int x1, .int x2]) (rest := [.ref o]) ⟨hx, hb, hml, hown, hts⟩ (t_X4_search_1 l hst dC dI ad S x0 x1 x2 hb9) (cwV 3 hts gL_search_X4_search rfl rfl rfl hdX4_search_3 ⟨Nat.le_of_ble_eq_true rfl, Nat.le_of_ble_eq_true rfl⟩) hPW.1.preX rfl rfl hl.1 rfl (lv_room (Nat.le_of_ble_eq_true rfl)) dL_search_6 ⟨Nat.le_of_ble_eq_true rfl, Nat.le_of_ble_eq_true rfl⟩) hX hO (fun ce q9 H hce1 hce2 hce3 hX hO => ?_)
    refine vx_catch hown [] ⟨0, 13, 16, 19⟩ [⟨0, 13, 20, 21⟩] (htab.trans rfl) (fun _ h => nomatch h) rfl (by decide) (hts (.classLink RL 19 IX) (tm 830 (by decide +kernel) rfl)) (va_Nw.use rfl hPW.1.2.1.2.1.1) hce1 hce2 hce3 ?_
    refine lv_astore (lv' := [(5, .ref q9), (0, .ref (ad 57)), (1, .int x0), (2, .int x1), (3, .int x2), (4, .ref o)]) hx hb dL_search_16 hl (by decide) rfl (fun ls hl => ?_)
    refine lv_iconst (v := nI 1) hx hb dL_search_18 (by decide) ?_
    obtain ⟨n9, hN⟩ := hO
    exact W.widen (k := 1) (n := 6) (by simp) (by simp) (W.iret (v := nI 1) hx hb hr (fun t9 ht9 hW9 => ⟨⟨_, (S, n9), rfl, ⟨LQ_same hI h5, (Or.inl ⟨hb9, rfl, rfl⟩)⟩, hX.P ht9 hW9, by rw [ht9]; exact hN⟩, hX.2.2.2.F ht9⟩) hX.2.2.2.2.2 dL_search_19)
  replace hi : i < 3 := by omega
  have hn := (hI.1 i (by omega)).1
  rcases lim_lt 4 (by decide) x1 with ⟨j, hj, rfl⟩ | hb9
  rotate_left
  · skip
    refine kl_throw (vx_runV (As := [.int (nI i), .int x1, .int x2]) (rest := [.ref o]) ⟨hx, hb, hml, hown, hts⟩ (t_X4_search_2 l hst dC dI ad S i x1 x2 hi hb9) (cwV 3 hts gL_search_X4_search rfl rfl rfl hdX4_search_3 ⟨Nat.le_of_ble_eq_true rfl, Nat.le_of_ble_eq_true rfl⟩) hPW.1.preX rfl rfl hl.1 rfl (lv_room (Nat.le_of_ble_eq_true rfl)) dL_search_6 ⟨Nat.le_of_ble_eq_true rfl, Nat.le_of_ble_eq_true rfl⟩) hX hO (fun ce q9 H hce1 hce2 hce3 hX hO => ?_)
    refine vx_catch hown [] ⟨0, 13, 16, 19⟩ [⟨0, 13, 20, 21⟩] (htab.trans rfl) (fun _ h => nomatch h) rfl (by decide) (hts (.classLink RL 19 IX) (tm 830 (by decide +kernel) rfl)) (va_Nw.use rfl hPW.1.2.1.2.1.1) hce1 hce2 hce3 ?_
    refine lv_astore (lv' := [(5, .ref q9), (0, .ref (ad 57)), (1, .int (nI i)), (2, .int x1), (3, .int x2), (4, .ref o)]) hx hb dL_search_16 hl (by decide) rfl (fun ls hl => ?_)
    refine lv_iconst (v := nI 1) hx hb dL_search_18 (by decide) ?_
    obtain ⟨n9, hN⟩ := hO
    exact W.widen (k := 1) (n := 6) (by simp) (by simp) (W.iret (v := nI 1) hx hb hr (fun t9 ht9 hW9 => ⟨⟨_, (S, n9), rfl, ⟨LQ_same hI h5, (Or.inr (Or.inl ⟨i, hi, rfl, hb9, rfl, rfl⟩))⟩, hX.P ht9 hW9, by rw [ht9]; exact hN⟩, hX.2.2.2.F ht9⟩) hX.2.2.2.2.2 dL_search_19)
  replace hj : j < 4 := by omega
  rcases lim_le 15 (by decide) x2 with ⟨v, hv, rfl⟩ | hb9
  rotate_left
  · skip
    refine kl_throw (vx_runV (As := [.int (nI i), .int (nI j), .int x2]) (rest := [.ref o]) ⟨hx, hb, hml, hown, hts⟩ (t_X4_search_3 l hst dC dI ad S i j x2 hi hj hb9) (cwV 3 hts gL_search_X4_search rfl rfl rfl hdX4_search_3 ⟨Nat.le_of_ble_eq_true rfl, Nat.le_of_ble_eq_true rfl⟩) hPW.1.preX rfl rfl hl.1 rfl (lv_room (Nat.le_of_ble_eq_true rfl)) dL_search_6 ⟨Nat.le_of_ble_eq_true rfl, Nat.le_of_ble_eq_true rfl⟩) hX hO (fun ce q9 H hce1 hce2 hce3 hX hO => ?_)
    refine vx_catch hown [⟨0, 13, 16, 19⟩] ⟨0, 13, 20, 21⟩ [] (htab.trans rfl) (fun z hz => by rw [List.mem_singleton.mp hz]; exact Or.inr ⟨by decide, IX, hts (.classLink RL 19 IX) (by decide +kernel), hPW.2.2.2.2.1⟩) rfl (by decide) (hts (.classLink RL 21 IA) (tm 831 (by decide +kernel) rfl)) (va_Nw.use rfl hPW.1.2.1.2.1.2) hce1 hce2 hce3 ?_
    refine lv_astore (lv' := [(5, .ref q9), (0, .ref (ad 57)), (1, .int (nI i)), (2, .int (nI j)), (3, .int x2), (4, .ref o)]) hx hb dL_search_20 hl (by decide) rfl (fun ls hl => ?_)
    refine lv_iconst (v := nI 2) hx hb dL_search_22 (by decide) ?_
    obtain ⟨n9, hN⟩ := hO
    exact W.widen (k := 1) (n := 6) (by simp) (by simp) (W.iret (v := nI 2) hx hb hr (fun t9 ht9 hW9 => ⟨⟨_, (S, n9), rfl, ⟨LQ_same hI h5, (Or.inr (Or.inr (Or.inl ⟨i, j, hi, hj, rfl, rfl, hb9, rfl, rfl⟩)))⟩, hX.P ht9 hW9, by rw [ht9]; exact hN⟩, hX.2.2.2.F ht9⟩) hX.2.2.2.2.2 dL_search_23)
  replace hv : v < 16 := by omega
  refine kl_ci (va_runV (As := [.int (nI i), .int (nI j), .int (nI v)]) (rest := [.ref o]) ⟨hx, hb, hml, hown, hts⟩ (m_X4_search l dC dI ad S i j v hi hj hv hI) (cwV 3 hts gL_search_X4_search rfl rfl rfl hdX4_search_3 ⟨Nat.le_of_ble_eq_true rfl, Nat.le_of_ble_eq_true rfl⟩) (hX.preTop 57 6 (by decide) (by decide) rfl rfl) rfl rfl hl.1 rfl (lv_room (Nat.le_of_ble_eq_true rfl)) dL_search_6 ⟨Nat.le_of_ble_eq_true rfl, Nat.le_of_ble_eq_true rfl⟩) hX hO hno (fun r9 S1 H locs hw hX hO => ?_)
  have hLQ : LQ S S1 := LQ_search hI h5 (hw.imp id (fun h => ⟨h.1, h.2.2⟩))
  refine lv_i2l (v := r9.toInt64) hx hb dL_search_9 rfl ?_
  refine kl_putn hx hb hts hin5 hown hX hO hno (host := "OrderlatticeLaw") (va_Nw.use rfl hPW.2.2.2.2.2.1) dL_search_10 (fun H locs hX hN => ?_)
  refine lv_goto (tgt := 24) hx hb dL_search_13 (by decide) ?_
  refine lv_iconst (v := nI 0) hx hb dL_search_24 (by decide) ?_
  exact W.widen (k := 1) (n := 6) (by simp) (by simp) (W.iret (v := nI 0) hx hb hr (fun t9 ht9 hW9 => ⟨⟨_, (S1, r9.toInt64), rfl, ⟨hLQ, (Or.inr (Or.inr (Or.inr ⟨i, j, v, r9, hi, hj, hv, rfl, rfl, rfl, rfl, rfl, hw⟩)))⟩, hX.P ht9 hW9, by rw [ht9]; exact hN⟩, hX.2.2.2.F ht9⟩) hX.2.2.2.2.2 dL_search_25)
set_option maxHeartbeats 4000000 in
set_option maxRecDepth 100000 in
theorem m_L_near (l : Launch) (hst : l.stackTraces = false) (dC : Nat → ClassId) (dI : Nat → Nat → Nat) (cB : ClassId) (ad : Nat → Nat) (o : Nat) (S : XS) (x0 : Int32) (x1 : Int32) (x2 : Int32) (x3 : Int32) (hI : InvX S) (h5 : ∀ j, j < 4 → (S.2.1 j).2.2.2.2.1 ≤ 5) (hc : S.2.2.1 + 12 < 1000000) : Met l yL_near wsL_near ({ frames := 9, cells := 1, slots := 6, locals := 150 } : Room) (va_Pc [.ref (ad 57), .int x0, .int x1, .int x2, .int x3, .ref o] (PW dC dI cB ad o S)) (va_Qi (fun r (u : XS × Int64) => LQ S u.1 ∧ R_near x0 x1 x2 x3 S r u.1 u.2) (PO2 dC dI ad o) (AO ad o)) 1 6 (AO ad o) := by
  refine va_MetW (cc := cL_near) (maxL := 7) (ret := (some .int)) pl_L rfl ?_
  intro p e s m args below meth c s₁ B hml hv
  obtain ⟨rfl, hPW⟩ := hv
  have hx := B.exec
  have hb := B.bytes
  have hr := B.returns
  have hts := atoms_spec (ws := wsL_near) B.pre
  have htab := vx_table (x := yL_near) B (hts (.codeWith yL_near cL_near 7 (some .int) [(0, 15, 18, 19), (0, 15, 22, 21)]) (by unfold wsL_near; exact List.mem_cons_self))
  have hown : s.vm.findClass RL = some m.cls := findClass_of_methodNamed B.named
  have hlocks := B.notSynchronized
  have hin5 : ∀ w ∈ u_ws RX5 TX5 2, w ∈ wsL_near := tu 1332 (by decide +kernel) rfl
  have hX := WX.ofW hPW
  have hO := hPW.2.2.1
  have hno := hPW.2.2.2.1
  have hl := lv_entry ([.ref (ad 57), .int x0, .int x1, .int x2, .int x3, .ref o]) (n := 7) (Nat.le_of_ble_eq_true rfl)
  rw [lg_entry_eq]
  generalize (lg_sl ([.ref (ad 57), .int x0, .int x1, .int x2, .int x3, .ref o]) ++ List.replicate (7 - (lg_sl ([.ref (ad 57), .int x0, .int x1, .int x2, .int x3, .ref o])).length) Slot.unset).toArray = ls at hl ⊢
  have hl : lv_has ls 7 [(0, .ref (ad 57)), (1, .int x0), (2, .int x1), (3, .int x2), (4, .int x3), (5, .ref o)] := hl
  show W p l e ({ frames := 9, cells := 1, slots := 6, locals := 150 } : Room) s m ([.ref (ad 57), .int x0, .int x1, .int x2, .int x3, .ref o]).toArray below meth c s.heap [] 0 0 (MQ below (va_Qi (fun r (u : XS × Int64) => LQ S u.1 ∧ R_near x0 x1 x2 x3 S r u.1 u.2) (PO2 dC dI ad o) (AO ad o)) ([.ref (ad 57), .int x0, .int x1, .int x2, .int x3, .ref o]).toArray s 1 6 (AO ad o)) (F0 m 0 ls [])
  refine lv_aload hx hb dL_near_0 (lv_at hl 5 rfl) ?_
  refine lv_aload_n hx hb dL_near_2 rfl (lv_at hl 0 rfl) ?_
  refine lv_iload_n hx hb dL_near_3 rfl (lv_at hl 1 rfl) ?_
  refine lv_iload_n hx hb dL_near_4 rfl (lv_at hl 2 rfl) ?_
  refine lv_iload_n hx hb dL_near_5 rfl (lv_at hl 3 rfl) ?_
  refine lv_iload hx hb dL_near_6 (lv_at hl 4 rfl) ?_
  rcases lim_lt 3 (by decide) x0 with ⟨i, hi, rfl⟩ | hb9
  rotate_left
  · skip
    refine kl_throw (vx_runV (As := [.int x0, .int x1, .int x2, .int x3]) (rest := [.ref o]) ⟨hx, hb, hml, hown, hts⟩ (t_X4_near_1 l hst dC dI ad S x0 x1 x2 x3 hb9) (cwV 4 hts gL_near_X4_near rfl rfl rfl hdX4_near_4 ⟨Nat.le_of_ble_eq_true rfl, Nat.le_of_ble_eq_true rfl⟩) hPW.1.preX rfl rfl hl.1 rfl (lv_room (Nat.le_of_ble_eq_true rfl)) dL_near_8 ⟨Nat.le_of_ble_eq_true rfl, Nat.le_of_ble_eq_true rfl⟩) hX hO (fun ce q9 H hce1 hce2 hce3 hX hO => ?_)
    refine vx_catch hown [] ⟨0, 15, 18, 19⟩ [⟨0, 15, 22, 21⟩] (htab.trans rfl) (fun _ h => nomatch h) rfl (by decide) (hts (.classLink RL 19 IX) (tm 830 (by decide +kernel) rfl)) (va_Nw.use rfl hPW.1.2.1.2.1.1) hce1 hce2 hce3 ?_
    refine lv_astore (lv' := [(6, .ref q9), (0, .ref (ad 57)), (1, .int x0), (2, .int x1), (3, .int x2), (4, .int x3), (5, .ref o)]) hx hb dL_near_18 hl (by decide) rfl (fun ls hl => ?_)
    refine lv_iconst (v := nI 1) hx hb dL_near_20 (by decide) ?_
    obtain ⟨n9, hN⟩ := hO
    exact W.widen (k := 1) (n := 6) (by simp) (by simp) (W.iret (v := nI 1) hx hb hr (fun t9 ht9 hW9 => ⟨⟨_, (S, n9), rfl, ⟨LQ_same hI h5, (Or.inl ⟨hb9, rfl, rfl⟩)⟩, hX.P ht9 hW9, by rw [ht9]; exact hN⟩, hX.2.2.2.F ht9⟩) hX.2.2.2.2.2 dL_near_21)
  replace hi : i < 3 := by omega
  have hn := (hI.1 i (by omega)).1
  rcases lim_lt 4 (by decide) x1 with ⟨j, hj, rfl⟩ | hb9
  rotate_left
  · skip
    refine kl_throw (vx_runV (As := [.int (nI i), .int x1, .int x2, .int x3]) (rest := [.ref o]) ⟨hx, hb, hml, hown, hts⟩ (t_X4_near_2 l hst dC dI ad S i x1 x2 x3 hi hb9) (cwV 4 hts gL_near_X4_near rfl rfl rfl hdX4_near_4 ⟨Nat.le_of_ble_eq_true rfl, Nat.le_of_ble_eq_true rfl⟩) hPW.1.preX rfl rfl hl.1 rfl (lv_room (Nat.le_of_ble_eq_true rfl)) dL_near_8 ⟨Nat.le_of_ble_eq_true rfl, Nat.le_of_ble_eq_true rfl⟩) hX hO (fun ce q9 H hce1 hce2 hce3 hX hO => ?_)
    refine vx_catch hown [] ⟨0, 15, 18, 19⟩ [⟨0, 15, 22, 21⟩] (htab.trans rfl) (fun _ h => nomatch h) rfl (by decide) (hts (.classLink RL 19 IX) (tm 830 (by decide +kernel) rfl)) (va_Nw.use rfl hPW.1.2.1.2.1.1) hce1 hce2 hce3 ?_
    refine lv_astore (lv' := [(6, .ref q9), (0, .ref (ad 57)), (1, .int (nI i)), (2, .int x1), (3, .int x2), (4, .int x3), (5, .ref o)]) hx hb dL_near_18 hl (by decide) rfl (fun ls hl => ?_)
    refine lv_iconst (v := nI 1) hx hb dL_near_20 (by decide) ?_
    obtain ⟨n9, hN⟩ := hO
    exact W.widen (k := 1) (n := 6) (by simp) (by simp) (W.iret (v := nI 1) hx hb hr (fun t9 ht9 hW9 => ⟨⟨_, (S, n9), rfl, ⟨LQ_same hI h5, (Or.inr (Or.inl ⟨i, hi, rfl, hb9, rfl, rfl⟩))⟩, hX.P ht9 hW9, by rw [ht9]; exact hN⟩, hX.2.2.2.F ht9⟩) hX.2.2.2.2.2 dL_near_21)
  replace hj : j < 4 := by omega
  rcases lim_le 15 (by decide) x2 with ⟨v, hv, rfl⟩ | hb9
  rotate_left
  · skip
    refine kl_throw (vx_runV (As := [.int (nI i), .int (nI j), .int x2, .int x3]) (rest := [.ref o]) ⟨hx, hb, hml, hown, hts⟩ (t_X4_near_3 l hst dC dI ad S i j x2 x3 hi hj hb9) (cwV 4 hts gL_near_X4_near rfl rfl rfl hdX4_near_4 ⟨Nat.le_of_ble_eq_true rfl, Nat.le_of_ble_eq_true rfl⟩) hPW.1.preX rfl rfl hl.1 rfl (lv_room (Nat.le_of_ble_eq_true rfl)) dL_near_8 ⟨Nat.le_of_ble_eq_true rfl, Nat.le_of_ble_eq_true rfl⟩) hX hO (fun ce q9 H hce1 hce2 hce3 hX hO => ?_)
    refine vx_catch hown [⟨0, 15, 18, 19⟩] ⟨0, 15, 22, 21⟩ [] (htab.trans rfl) (fun z hz => by rw [List.mem_singleton.mp hz]; exact Or.inr ⟨by decide, IX, hts (.classLink RL 19 IX) (by decide +kernel), hPW.2.2.2.2.1⟩) rfl (by decide) (hts (.classLink RL 21 IA) (tm 831 (by decide +kernel) rfl)) (va_Nw.use rfl hPW.1.2.1.2.1.2) hce1 hce2 hce3 ?_
    refine lv_astore (lv' := [(6, .ref q9), (0, .ref (ad 57)), (1, .int (nI i)), (2, .int (nI j)), (3, .int x2), (4, .int x3), (5, .ref o)]) hx hb dL_near_22 hl (by decide) rfl (fun ls hl => ?_)
    refine lv_iconst (v := nI 2) hx hb dL_near_24 (by decide) ?_
    obtain ⟨n9, hN⟩ := hO
    exact W.widen (k := 1) (n := 6) (by simp) (by simp) (W.iret (v := nI 2) hx hb hr (fun t9 ht9 hW9 => ⟨⟨_, (S, n9), rfl, ⟨LQ_same hI h5, (Or.inr (Or.inr (Or.inl ⟨i, j, hi, hj, rfl, rfl, hb9, rfl, rfl⟩)))⟩, hX.P ht9 hW9, by rw [ht9]; exact hN⟩, hX.2.2.2.F ht9⟩) hX.2.2.2.2.2 dL_near_25)
  replace hv : v < 16 := by omega
  rcases lim_le 3 (by decide) x3 with ⟨k, hk, rfl⟩ | hb9
  rotate_left
  · skip
    refine kl_throw (vx_runV (As := [.int (nI i), .int (nI j), .int (nI v), .int x3]) (rest := [.ref o]) ⟨hx, hb, hml, hown, hts⟩ (t_X4_near_4 l hst dC dI ad S i j v x3 hi hj hv hb9) (cwV 4 hts gL_near_X4_near rfl rfl rfl hdX4_near_4 ⟨Nat.le_of_ble_eq_true rfl, Nat.le_of_ble_eq_true rfl⟩) hPW.1.preX rfl rfl hl.1 rfl (lv_room (Nat.le_of_ble_eq_true rfl)) dL_near_8 ⟨Nat.le_of_ble_eq_true rfl, Nat.le_of_ble_eq_true rfl⟩) hX hO (fun ce q9 H hce1 hce2 hce3 hX hO => ?_)
    refine vx_catch hown [⟨0, 15, 18, 19⟩] ⟨0, 15, 22, 21⟩ [] (htab.trans rfl) (fun z hz => by rw [List.mem_singleton.mp hz]; exact Or.inr ⟨by decide, IX, hts (.classLink RL 19 IX) (by decide +kernel), hPW.2.2.2.2.1⟩) rfl (by decide) (hts (.classLink RL 21 IA) (tm 831 (by decide +kernel) rfl)) (va_Nw.use rfl hPW.1.2.1.2.1.2) hce1 hce2 hce3 ?_
    refine lv_astore (lv' := [(6, .ref q9), (0, .ref (ad 57)), (1, .int (nI i)), (2, .int (nI j)), (3, .int (nI v)), (4, .int x3), (5, .ref o)]) hx hb dL_near_22 hl (by decide) rfl (fun ls hl => ?_)
    refine lv_iconst (v := nI 2) hx hb dL_near_24 (by decide) ?_
    obtain ⟨n9, hN⟩ := hO
    exact W.widen (k := 1) (n := 6) (by simp) (by simp) (W.iret (v := nI 2) hx hb hr (fun t9 ht9 hW9 => ⟨⟨_, (S, n9), rfl, ⟨LQ_same hI h5, (Or.inr (Or.inr (Or.inr (Or.inl ⟨i, j, v, hi, hj, hv, rfl, rfl, rfl, hb9, rfl, rfl⟩))))⟩, hX.P ht9 hW9, by rw [ht9]; exact hN⟩, hX.2.2.2.F ht9⟩) hX.2.2.2.2.2 dL_near_25)
  replace hk : k ≤ 3 := by omega
  refine kl_cr (va_runV (As := [.int (nI i), .int (nI j), .int (nI v), .int (nI k)]) (rest := [.ref o]) ⟨hx, hb, hml, hown, hts⟩ (m_X4_near l dC dI ad S i j v k hi hj hv hk hI) (cwV 4 hts gL_near_X4_near rfl rfl rfl hdX4_near_4 ⟨Nat.le_of_ble_eq_true rfl, Nat.le_of_ble_eq_true rfl⟩) (hX.preTop 57 6 (by decide) (by decide) rfl rfl) rfl rfl hl.1 rfl (lv_room (Nat.le_of_ble_eq_true rfl)) dL_near_8 ⟨Nat.le_of_ble_eq_true rfl, Nat.le_of_ble_eq_true rfl⟩) (fun r9 hw => ?_)
  refine lv_i2l (v := r9.toInt64) hx hb dL_near_11 rfl ?_
  refine kl_putn hx hb hts hin5 hown hX hO hno (host := "OrderlatticeLaw") (va_Nw.use rfl hPW.2.2.2.2.2.1) dL_near_12 (fun H locs hX hN => ?_)
  refine lv_goto (tgt := 26) hx hb dL_near_15 (by decide) ?_
  refine lv_iconst (v := nI 0) hx hb dL_near_26 (by decide) ?_
  exact W.widen (k := 1) (n := 6) (by simp) (by simp) (W.iret (v := nI 0) hx hb hr (fun t9 ht9 hW9 => ⟨⟨_, (S, r9.toInt64), rfl, ⟨LQ_same hI h5, (Or.inr (Or.inr (Or.inr (Or.inr ⟨i, j, v, k, r9, hi, hj, hv, hk, rfl, rfl, rfl, rfl, rfl, rfl, hw, rfl⟩))))⟩, hX.P ht9 hW9, by rw [ht9]; exact hN⟩, hX.2.2.2.F ht9⟩) hX.2.2.2.2.2 dL_near_27)
set_option maxHeartbeats 4000000 in
set_option maxRecDepth 100000 in
theorem m_L_kinds (l : Launch) (hst : l.stackTraces = false) (dC : Nat → ClassId) (dI : Nat → Nat → Nat) (cB : ClassId) (ad : Nat → Nat) (o : Nat) (S : XS) (x0 : Int32) (x1 : Int32) (hI : InvX S) (h5 : ∀ j, j < 4 → (S.2.1 j).2.2.2.2.1 ≤ 5) (hc : S.2.2.1 + 12 < 1000000) : Met l yL_kinds wsL_kinds ({ frames := 9, cells := 1, slots := 6, locals := 146 } : Room) (va_Pc [.ref (ad 57), .int x0, .int x1, .ref o] (PW dC dI cB ad o S)) (va_Qi (fun r (u : XS × Int64) => LQ S u.1 ∧ R_kinds x0 x1 S r u.1 u.2) (PO2 dC dI ad o) (AO ad o)) 1 6 (AO ad o) := by
  refine va_MetW (cc := cL_kinds) (maxL := 5) (ret := (some .int)) pl_L rfl ?_
  intro p e s m args below meth c s₁ B hml hv
  obtain ⟨rfl, hPW⟩ := hv
  have hx := B.exec
  have hb := B.bytes
  have hr := B.returns
  have hts := atoms_spec (ws := wsL_kinds) B.pre
  have htab := vx_table (x := yL_kinds) B (hts (.codeWith yL_kinds cL_kinds 5 (some .int) [(0, 11, 14, 19)]) (by unfold wsL_kinds; exact List.mem_cons_self))
  have hown : s.vm.findClass RL = some m.cls := findClass_of_methodNamed B.named
  have hlocks := B.notSynchronized
  have hin5 : ∀ w ∈ u_ws RX5 TX5 2, w ∈ wsL_kinds := tu 1332 (by decide +kernel) rfl
  have hX := WX.ofW hPW
  have hO := hPW.2.2.1
  have hno := hPW.2.2.2.1
  have hl := lv_entry ([.ref (ad 57), .int x0, .int x1, .ref o]) (n := 5) (Nat.le_of_ble_eq_true rfl)
  rw [lg_entry_eq]
  generalize (lg_sl ([.ref (ad 57), .int x0, .int x1, .ref o]) ++ List.replicate (5 - (lg_sl ([.ref (ad 57), .int x0, .int x1, .ref o])).length) Slot.unset).toArray = ls at hl ⊢
  have hl : lv_has ls 5 [(0, .ref (ad 57)), (1, .int x0), (2, .int x1), (3, .ref o)] := hl
  show W p l e ({ frames := 9, cells := 1, slots := 6, locals := 146 } : Room) s m ([.ref (ad 57), .int x0, .int x1, .ref o]).toArray below meth c s.heap [] 0 0 (MQ below (va_Qi (fun r (u : XS × Int64) => LQ S u.1 ∧ R_kinds x0 x1 S r u.1 u.2) (PO2 dC dI ad o) (AO ad o)) ([.ref (ad 57), .int x0, .int x1, .ref o]).toArray s 1 6 (AO ad o)) (F0 m 0 ls [])
  refine lv_aload_n hx hb dL_kinds_0 rfl (lv_at hl 3 rfl) ?_
  refine lv_aload_n hx hb dL_kinds_1 rfl (lv_at hl 0 rfl) ?_
  refine lv_iload_n hx hb dL_kinds_2 rfl (lv_at hl 1 rfl) ?_
  refine lv_iload_n hx hb dL_kinds_3 rfl (lv_at hl 2 rfl) ?_
  rcases lim_lt 3 (by decide) x0 with ⟨i, hi, rfl⟩ | hb9
  rotate_left
  · skip
    refine kl_throw (vx_runV (As := [.int x0, .int x1]) (rest := [.ref o]) ⟨hx, hb, hml, hown, hts⟩ (t_X4_kinds_1 l hst dC dI ad S x0 x1 hb9) (cwV 2 hts gL_kinds_X4_kinds rfl rfl rfl hdX4_kinds_2 ⟨Nat.le_of_ble_eq_true rfl, Nat.le_of_ble_eq_true rfl⟩) hPW.1.preX rfl rfl hl.1 rfl (lv_room (Nat.le_of_ble_eq_true rfl)) dL_kinds_4 ⟨Nat.le_of_ble_eq_true rfl, Nat.le_of_ble_eq_true rfl⟩) hX hO (fun ce q9 H hce1 hce2 hce3 hX hO => ?_)
    refine vx_catch hown [] ⟨0, 11, 14, 19⟩ [] (htab.trans rfl) (fun _ h => nomatch h) rfl (by decide) (hts (.classLink RL 19 IX) (tm 830 (by decide +kernel) rfl)) (va_Nw.use rfl hPW.1.2.1.2.1.1) hce1 hce2 hce3 ?_
    refine lv_astore (lv' := [(4, .ref q9), (0, .ref (ad 57)), (1, .int x0), (2, .int x1), (3, .ref o)]) hx hb dL_kinds_14 hl (by decide) rfl (fun ls hl => ?_)
    refine lv_iconst (v := nI 1) hx hb dL_kinds_16 (by decide) ?_
    obtain ⟨n9, hN⟩ := hO
    exact W.widen (k := 1) (n := 6) (by simp) (by simp) (W.iret (v := nI 1) hx hb hr (fun t9 ht9 hW9 => ⟨⟨_, (S, n9), rfl, ⟨LQ_same hI h5, (Or.inl ⟨hb9, rfl, rfl⟩)⟩, hX.P ht9 hW9, by rw [ht9]; exact hN⟩, hX.2.2.2.F ht9⟩) hX.2.2.2.2.2 dL_kinds_17)
  replace hi : i < 3 := by omega
  have hn := (hI.1 i (by omega)).1
  rcases lim_lt 4 (by decide) x1 with ⟨j, hj, rfl⟩ | hb9
  rotate_left
  · skip
    refine kl_throw (vx_runV (As := [.int (nI i), .int x1]) (rest := [.ref o]) ⟨hx, hb, hml, hown, hts⟩ (t_X4_kinds_2 l hst dC dI ad S i x1 hi hb9) (cwV 2 hts gL_kinds_X4_kinds rfl rfl rfl hdX4_kinds_2 ⟨Nat.le_of_ble_eq_true rfl, Nat.le_of_ble_eq_true rfl⟩) hPW.1.preX rfl rfl hl.1 rfl (lv_room (Nat.le_of_ble_eq_true rfl)) dL_kinds_4 ⟨Nat.le_of_ble_eq_true rfl, Nat.le_of_ble_eq_true rfl⟩) hX hO (fun ce q9 H hce1 hce2 hce3 hX hO => ?_)
    refine vx_catch hown [] ⟨0, 11, 14, 19⟩ [] (htab.trans rfl) (fun _ h => nomatch h) rfl (by decide) (hts (.classLink RL 19 IX) (tm 830 (by decide +kernel) rfl)) (va_Nw.use rfl hPW.1.2.1.2.1.1) hce1 hce2 hce3 ?_
    refine lv_astore (lv' := [(4, .ref q9), (0, .ref (ad 57)), (1, .int (nI i)), (2, .int x1), (3, .ref o)]) hx hb dL_kinds_14 hl (by decide) rfl (fun ls hl => ?_)
    refine lv_iconst (v := nI 1) hx hb dL_kinds_16 (by decide) ?_
    obtain ⟨n9, hN⟩ := hO
    exact W.widen (k := 1) (n := 6) (by simp) (by simp) (W.iret (v := nI 1) hx hb hr (fun t9 ht9 hW9 => ⟨⟨_, (S, n9), rfl, ⟨LQ_same hI h5, (Or.inr (Or.inl ⟨i, hi, rfl, hb9, rfl, rfl⟩))⟩, hX.P ht9 hW9, by rw [ht9]; exact hN⟩, hX.2.2.2.F ht9⟩) hX.2.2.2.2.2 dL_kinds_17)
  replace hj : j < 4 := by omega
  refine kl_cr (va_runV (As := [.int (nI i), .int (nI j)]) (rest := [.ref o]) ⟨hx, hb, hml, hown, hts⟩ (m_X4_kinds l dC dI ad S i j hi hj hI) (cwV 2 hts gL_kinds_X4_kinds rfl rfl rfl hdX4_kinds_2 ⟨Nat.le_of_ble_eq_true rfl, Nat.le_of_ble_eq_true rfl⟩) (hX.preTop 57 6 (by decide) (by decide) rfl rfl) rfl rfl hl.1 rfl (lv_room (Nat.le_of_ble_eq_true rfl)) dL_kinds_4 ⟨Nat.le_of_ble_eq_true rfl, Nat.le_of_ble_eq_true rfl⟩) (fun r9 hw => ?_)
  refine lv_i2l (v := r9.toInt64) hx hb dL_kinds_7 rfl ?_
  refine kl_putn hx hb hts hin5 hown hX hO hno (host := "OrderlatticeLaw") (va_Nw.use rfl hPW.2.2.2.2.2.1) dL_kinds_8 (fun H locs hX hN => ?_)
  refine lv_goto (tgt := 18) hx hb dL_kinds_11 (by decide) ?_
  refine lv_iconst (v := nI 0) hx hb dL_kinds_18 (by decide) ?_
  exact W.widen (k := 1) (n := 6) (by simp) (by simp) (W.iret (v := nI 0) hx hb hr (fun t9 ht9 hW9 => ⟨⟨_, (S, r9.toInt64), rfl, ⟨LQ_same hI h5, (Or.inr (Or.inr ⟨i, j, r9, hi, hj, rfl, rfl, rfl, rfl, hw, rfl⟩))⟩, hX.P ht9 hW9, by rw [ht9]; exact hN⟩, hX.2.2.2.F ht9⟩) hX.2.2.2.2.2 dL_kinds_19)
