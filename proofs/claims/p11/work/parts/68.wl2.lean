set_option maxHeartbeats 4000000 in
set_option maxRecDepth 100000 in
theorem m_L_ahead (l : Launch) (hst : l.stackTraces = false) (dC : Nat → ClassId) (dI : Nat → Nat → Nat) (cB : ClassId) (ad : Nat → Nat) (o : Nat) (S : XS) (x0 : Int32) (x1 : Int32) (x2 : Int32) (hI : InvX S) (h5 : ∀ j, j < 4 → (S.2.1 j).2.2.2.2.1 ≤ 5) (hc : S.2.2.1 + 12 < 1000000) : Met l yL_ahead wsL_ahead ({ frames := 9, cells := 1, slots := 6, locals := 148 } : Room) (va_Pc [.ref (ad 57), .int x0, .int x1, .int x2, .ref o] (PW dC dI cB ad o S)) (va_Qi (fun r (u : XS × Int64) => LQ S u.1 ∧ R_ahead x0 x1 x2 S r u.1 u.2) (PO2 dC dI ad o) (AO ad o)) 1 6 (AO ad o) := by
  refine va_MetW (cc := cL_ahead) (maxL := 6) (ret := (some .int)) pl_L rfl ?_
  intro p e s m args below meth c s₁ B hml hv
  obtain ⟨rfl, hPW⟩ := hv
  have hx := B.exec
  have hb := B.bytes
  have hr := B.returns
  have hts := atoms_spec (ws := wsL_ahead) B.pre
  have htab := vx_table (x := yL_ahead) B (hts (.codeWith yL_ahead cL_ahead 6 (some .int) [(0, 13, 16, 19), (0, 13, 20, 21)]) (by unfold wsL_ahead; exact List.mem_cons_self))
  have hown : s.vm.findClass RL = some m.cls := findClass_of_methodNamed B.named
  have hlocks := B.notSynchronized
  have hin5 : ∀ w ∈ u_ws RX5 TX5 2, w ∈ wsL_ahead := tu 1332 (by decide +kernel) rfl
  have hX := WX.ofW hPW
  have hO := hPW.2.2.1
  have hno := hPW.2.2.2.1
  have hl := lv_entry ([.ref (ad 57), .int x0, .int x1, .int x2, .ref o]) (n := 6) (Nat.le_of_ble_eq_true rfl)
  rw [lg_entry_eq]
  generalize (lg_sl ([.ref (ad 57), .int x0, .int x1, .int x2, .ref o]) ++ List.replicate (6 - (lg_sl ([.ref (ad 57), .int x0, .int x1, .int x2, .ref o])).length) Slot.unset).toArray = ls at hl ⊢
  have hl : lv_has ls 6 [(0, .ref (ad 57)), (1, .int x0), (2, .int x1), (3, .int x2), (4, .ref o)] := hl
  show W p l e ({ frames := 9, cells := 1, slots := 6, locals := 148 } : Room) s m ([.ref (ad 57), .int x0, .int x1, .int x2, .ref o]).toArray below meth c s.heap [] 0 0 (MQ below (va_Qi (fun r (u : XS × Int64) => LQ S u.1 ∧ R_ahead x0 x1 x2 S r u.1 u.2) (PO2 dC dI ad o) (AO ad o)) ([.ref (ad 57), .int x0, .int x1, .int x2, .ref o]).toArray s 1 6 (AO ad o)) (F0 m 0 ls [])
  refine lv_aload hx hb dL_ahead_0 (lv_at hl 4 rfl) ?_
  refine lv_aload_n hx hb dL_ahead_2 rfl (lv_at hl 0 rfl) ?_
  refine lv_iload_n hx hb dL_ahead_3 rfl (lv_at hl 1 rfl) ?_
  refine lv_iload_n hx hb dL_ahead_4 rfl (lv_at hl 2 rfl) ?_
  refine lv_iload_n hx hb dL_ahead_5 rfl (lv_at hl 3 rfl) ?_
  rcases lim_lt 3 (by decide) x0 with ⟨i, hi, rfl⟩ | hb9
  rotate_left
  · skip
    refine kl_throw (vx_runV (As := [.int x0, .int x1, .int x2]) (rest := [.ref o]) ⟨hx, hb, hml, hown, hts⟩ (t_X4_ahead_1 l hst dC dI ad S x0 x1 x2 hb9) (cwV 3 hts gL_ahead_X4_ahead rfl rfl rfl hdX4_ahead_3 ⟨Nat.le_of_ble_eq_true rfl, Nat.le_of_ble_eq_true rfl⟩) hPW.1.preX rfl rfl hl.1 rfl (lv_room (Nat.le_of_ble_eq_true rfl)) dL_ahead_6 ⟨Nat.le_of_ble_eq_true rfl, Nat.le_of_ble_eq_true rfl⟩) hX hO (fun ce q9 H hce1 hce2 hce3 hX hO => ?_)
    refine vx_catch hown [] ⟨0, 13, 16, 19⟩ [⟨0, 13, 20, 21⟩] (htab.trans rfl) (fun _ h => nomatch h) rfl (by decide) (hts (.classLink RL 19 IX) (tm 830 (by decide +kernel) rfl)) (va_Nw.use rfl hPW.1.2.1.2.1.1) hce1 hce2 hce3 ?_
    refine lv_astore (lv' := [(5, .ref q9), (0, .ref (ad 57)), (1, .int x0), (2, .int x1), (3, .int x2), (4, .ref o)]) hx hb dL_ahead_16 hl (by decide) rfl (fun ls hl => ?_)
    refine lv_iconst (v := nI 1) hx hb dL_ahead_18 (by decide) ?_
    obtain ⟨n9, hN⟩ := hO
    exact W.widen (k := 1) (n := 6) (by simp) (by simp) (W.iret (v := nI 1) hx hb hr (fun t9 ht9 hW9 => ⟨⟨_, (S, n9), rfl, ⟨LQ_same hI h5, (Or.inl ⟨hb9, rfl, rfl⟩)⟩, hX.P ht9 hW9, by rw [ht9]; exact hN⟩, hX.2.2.2.F ht9⟩) hX.2.2.2.2.2 dL_ahead_19)
  replace hi : i < 3 := by omega
  have hn := (hI.1 i (by omega)).1
  rcases lim_lt 4 (by decide) x1 with ⟨j, hj, rfl⟩ | hb9
  rotate_left
  · skip
    refine kl_throw (vx_runV (As := [.int (nI i), .int x1, .int x2]) (rest := [.ref o]) ⟨hx, hb, hml, hown, hts⟩ (t_X4_ahead_2 l hst dC dI ad S i x1 x2 hi hb9) (cwV 3 hts gL_ahead_X4_ahead rfl rfl rfl hdX4_ahead_3 ⟨Nat.le_of_ble_eq_true rfl, Nat.le_of_ble_eq_true rfl⟩) hPW.1.preX rfl rfl hl.1 rfl (lv_room (Nat.le_of_ble_eq_true rfl)) dL_ahead_6 ⟨Nat.le_of_ble_eq_true rfl, Nat.le_of_ble_eq_true rfl⟩) hX hO (fun ce q9 H hce1 hce2 hce3 hX hO => ?_)
    refine vx_catch hown [] ⟨0, 13, 16, 19⟩ [⟨0, 13, 20, 21⟩] (htab.trans rfl) (fun _ h => nomatch h) rfl (by decide) (hts (.classLink RL 19 IX) (tm 830 (by decide +kernel) rfl)) (va_Nw.use rfl hPW.1.2.1.2.1.1) hce1 hce2 hce3 ?_
    refine lv_astore (lv' := [(5, .ref q9), (0, .ref (ad 57)), (1, .int (nI i)), (2, .int x1), (3, .int x2), (4, .ref o)]) hx hb dL_ahead_16 hl (by decide) rfl (fun ls hl => ?_)
    refine lv_iconst (v := nI 1) hx hb dL_ahead_18 (by decide) ?_
    obtain ⟨n9, hN⟩ := hO
    exact W.widen (k := 1) (n := 6) (by simp) (by simp) (W.iret (v := nI 1) hx hb hr (fun t9 ht9 hW9 => ⟨⟨_, (S, n9), rfl, ⟨LQ_same hI h5, (Or.inr (Or.inl ⟨i, hi, rfl, hb9, rfl, rfl⟩))⟩, hX.P ht9 hW9, by rw [ht9]; exact hN⟩, hX.2.2.2.F ht9⟩) hX.2.2.2.2.2 dL_ahead_19)
  replace hj : j < 4 := by omega
  rcases lim_le 15 (by decide) x2 with ⟨v, hv, rfl⟩ | hb9
  rotate_left
  · skip
    refine kl_throw (vx_runV (As := [.int (nI i), .int (nI j), .int x2]) (rest := [.ref o]) ⟨hx, hb, hml, hown, hts⟩ (t_X4_ahead_3 l hst dC dI ad S i j x2 hi hj hb9) (cwV 3 hts gL_ahead_X4_ahead rfl rfl rfl hdX4_ahead_3 ⟨Nat.le_of_ble_eq_true rfl, Nat.le_of_ble_eq_true rfl⟩) hPW.1.preX rfl rfl hl.1 rfl (lv_room (Nat.le_of_ble_eq_true rfl)) dL_ahead_6 ⟨Nat.le_of_ble_eq_true rfl, Nat.le_of_ble_eq_true rfl⟩) hX hO (fun ce q9 H hce1 hce2 hce3 hX hO => ?_)
    refine vx_catch hown [⟨0, 13, 16, 19⟩] ⟨0, 13, 20, 21⟩ [] (htab.trans rfl) (fun z hz => by rw [List.mem_singleton.mp hz]; exact Or.inr ⟨by decide, IX, hts (.classLink RL 19 IX) (by decide +kernel), hPW.2.2.2.2.1⟩) rfl (by decide) (hts (.classLink RL 21 IA) (tm 831 (by decide +kernel) rfl)) (va_Nw.use rfl hPW.1.2.1.2.1.2) hce1 hce2 hce3 ?_
    refine lv_astore (lv' := [(5, .ref q9), (0, .ref (ad 57)), (1, .int (nI i)), (2, .int (nI j)), (3, .int x2), (4, .ref o)]) hx hb dL_ahead_20 hl (by decide) rfl (fun ls hl => ?_)
    refine lv_iconst (v := nI 2) hx hb dL_ahead_22 (by decide) ?_
    obtain ⟨n9, hN⟩ := hO
    exact W.widen (k := 1) (n := 6) (by simp) (by simp) (W.iret (v := nI 2) hx hb hr (fun t9 ht9 hW9 => ⟨⟨_, (S, n9), rfl, ⟨LQ_same hI h5, (Or.inr (Or.inr (Or.inl ⟨i, j, hi, hj, rfl, rfl, hb9, rfl, rfl⟩)))⟩, hX.P ht9 hW9, by rw [ht9]; exact hN⟩, hX.2.2.2.F ht9⟩) hX.2.2.2.2.2 dL_ahead_23)
  replace hv : v < 16 := by omega
  refine kl_cr (va_runV (As := [.int (nI i), .int (nI j), .int (nI v)]) (rest := [.ref o]) ⟨hx, hb, hml, hown, hts⟩ (m_X4_ahead l dC dI ad S i j v hi hj hv hI) (cwV 3 hts gL_ahead_X4_ahead rfl rfl rfl hdX4_ahead_3 ⟨Nat.le_of_ble_eq_true rfl, Nat.le_of_ble_eq_true rfl⟩) (hX.preTop 57 6 (by decide) (by decide) rfl rfl) rfl rfl hl.1 rfl (lv_room (Nat.le_of_ble_eq_true rfl)) dL_ahead_6 ⟨Nat.le_of_ble_eq_true rfl, Nat.le_of_ble_eq_true rfl⟩) (fun r9 hw => ?_)
  refine lv_i2l (v := r9.toInt64) hx hb dL_ahead_9 rfl ?_
  refine kl_putn hx hb hts hin5 hown hX hO hno (host := "OrderlatticeLaw") (va_Nw.use rfl hPW.2.2.2.2.2.1) dL_ahead_10 (fun H locs hX hN => ?_)
  refine lv_goto (tgt := 24) hx hb dL_ahead_13 (by decide) ?_
  refine lv_iconst (v := nI 0) hx hb dL_ahead_24 (by decide) ?_
  exact W.widen (k := 1) (n := 6) (by simp) (by simp) (W.iret (v := nI 0) hx hb hr (fun t9 ht9 hW9 => ⟨⟨_, (S, r9.toInt64), rfl, ⟨LQ_same hI h5, (Or.inr (Or.inr (Or.inr ⟨i, j, v, r9, hi, hj, hv, rfl, rfl, rfl, rfl, rfl, hw, rfl⟩)))⟩, hX.P ht9 hW9, by rw [ht9]; exact hN⟩, hX.2.2.2.F ht9⟩) hX.2.2.2.2.2 dL_ahead_25)
set_option maxHeartbeats 4000000 in
set_option maxRecDepth 100000 in
theorem m_L_groups (l : Launch) (hst : l.stackTraces = false) (dC : Nat → ClassId) (dI : Nat → Nat → Nat) (cB : ClassId) (ad : Nat → Nat) (o : Nat) (S : XS) (x0 : Int32) (x1 : Int32) (hI : InvX S) (h5 : ∀ j, j < 4 → (S.2.1 j).2.2.2.2.1 ≤ 5) (hc : S.2.2.1 + 12 < 1000000) : Met l yL_groups wsL_groups ({ frames := 10, cells := 80, slots := 3752, locals := 218 } : Room) (va_Pc [.ref (ad 57), .int x0, .int x1, .ref o] (PW dC dI cB ad o S)) (va_Qi (fun r (u : XS × Int64) => LQ S u.1 ∧ R_groups x0 x1 S r u.1 u.2) (PO2 dC dI ad o) (AO ad o)) 80 3752 (AO ad o) := by
  refine va_MetW (cc := cL_groups) (maxL := 5) (ret := (some .int)) pl_L rfl ?_
  intro p e s m args below meth c s₁ B hml hv
  obtain ⟨rfl, hPW⟩ := hv
  have hx := B.exec
  have hb := B.bytes
  have hr := B.returns
  have hts := atoms_spec (ws := wsL_groups) B.pre
  have htab := vx_table (x := yL_groups) B (hts (.codeWith yL_groups cL_groups 5 (some .int) [(0, 10, 13, 19)]) (by unfold wsL_groups; exact List.mem_cons_self))
  have hown : s.vm.findClass RL = some m.cls := findClass_of_methodNamed B.named
  have hlocks := B.notSynchronized
  have hin5 : ∀ w ∈ u_ws RX5 TX5 2, w ∈ wsL_groups := tu 1332 (by decide +kernel) rfl
  have hX := WX.ofW hPW
  have hO := hPW.2.2.1
  have hno := hPW.2.2.2.1
  have hl := lv_entry ([.ref (ad 57), .int x0, .int x1, .ref o]) (n := 5) (Nat.le_of_ble_eq_true rfl)
  rw [lg_entry_eq]
  generalize (lg_sl ([.ref (ad 57), .int x0, .int x1, .ref o]) ++ List.replicate (5 - (lg_sl ([.ref (ad 57), .int x0, .int x1, .ref o])).length) Slot.unset).toArray = ls at hl ⊢
  have hl : lv_has ls 5 [(0, .ref (ad 57)), (1, .int x0), (2, .int x1), (3, .ref o)] := hl
  show W p l e ({ frames := 10, cells := 80, slots := 3752, locals := 218 } : Room) s m ([.ref (ad 57), .int x0, .int x1, .ref o]).toArray below meth c s.heap [] 0 0 (MQ below (va_Qi (fun r (u : XS × Int64) => LQ S u.1 ∧ R_groups x0 x1 S r u.1 u.2) (PO2 dC dI ad o) (AO ad o)) ([.ref (ad 57), .int x0, .int x1, .ref o]).toArray s 80 3752 (AO ad o)) (F0 m 0 ls [])
  refine lv_aload_n hx hb dL_groups_0 rfl (lv_at hl 3 rfl) ?_
  refine lv_aload_n hx hb dL_groups_1 rfl (lv_at hl 0 rfl) ?_
  refine lv_iload_n hx hb dL_groups_2 rfl (lv_at hl 1 rfl) ?_
  refine lv_iload_n hx hb dL_groups_3 rfl (lv_at hl 2 rfl) ?_
  rcases lim_lt 3 (by decide) x0 with ⟨i, hi, rfl⟩ | hb9
  rotate_left
  · skip
    refine kl_throw (vx_runV (As := [.int x0, .int x1]) (rest := [.ref o]) ⟨hx, hb, hml, hown, hts⟩ (t_X4_groups_1 l hst dC dI ad S x0 x1 hb9) (cwV 2 hts gL_groups_X4_groups rfl rfl rfl hdX4_groups_2 ⟨Nat.le_of_ble_eq_true rfl, Nat.le_of_ble_eq_true rfl⟩) hPW.1.preX rfl rfl hl.1 rfl (lv_room (Nat.le_of_ble_eq_true rfl)) dL_groups_4 ⟨Nat.le_of_ble_eq_true rfl, Nat.le_of_ble_eq_true rfl⟩) hX hO (fun ce q9 H hce1 hce2 hce3 hX hO => ?_)
    refine vx_catch hown [] ⟨0, 10, 13, 19⟩ [] (htab.trans rfl) (fun _ h => nomatch h) rfl (by decide) (hts (.classLink RL 19 IX) (tm 830 (by decide +kernel) rfl)) (va_Nw.use rfl hPW.1.2.1.2.1.1) hce1 hce2 hce3 ?_
    refine lv_astore (lv' := [(4, .ref q9), (0, .ref (ad 57)), (1, .int x0), (2, .int x1), (3, .ref o)]) hx hb dL_groups_13 hl (by decide) rfl (fun ls hl => ?_)
    refine lv_iconst (v := nI 1) hx hb dL_groups_15 (by decide) ?_
    obtain ⟨n9, hN⟩ := hO
    exact W.widen (k := 80) (n := 3752) (by simp) (by simp) (W.iret (v := nI 1) hx hb hr (fun t9 ht9 hW9 => ⟨⟨_, (S, n9), rfl, ⟨LQ_same hI h5, (Or.inl ⟨hb9, rfl, rfl⟩)⟩, hX.P ht9 hW9, by rw [ht9]; exact hN⟩, hX.2.2.2.F ht9⟩) hX.2.2.2.2.2 dL_groups_16)
  replace hi : i < 3 := by omega
  have hn := (hI.1 i (by omega)).1
  rcases lim_lt 4 (by decide) x1 with ⟨j, hj, rfl⟩ | hb9
  rotate_left
  · skip
    refine kl_throw (vx_runV (As := [.int (nI i), .int x1]) (rest := [.ref o]) ⟨hx, hb, hml, hown, hts⟩ (t_X4_groups_2 l hst dC dI ad S i x1 hi hb9) (cwV 2 hts gL_groups_X4_groups rfl rfl rfl hdX4_groups_2 ⟨Nat.le_of_ble_eq_true rfl, Nat.le_of_ble_eq_true rfl⟩) hPW.1.preX rfl rfl hl.1 rfl (lv_room (Nat.le_of_ble_eq_true rfl)) dL_groups_4 ⟨Nat.le_of_ble_eq_true rfl, Nat.le_of_ble_eq_true rfl⟩) hX hO (fun ce q9 H hce1 hce2 hce3 hX hO => ?_)
    refine vx_catch hown [] ⟨0, 10, 13, 19⟩ [] (htab.trans rfl) (fun _ h => nomatch h) rfl (by decide) (hts (.classLink RL 19 IX) (tm 830 (by decide +kernel) rfl)) (va_Nw.use rfl hPW.1.2.1.2.1.1) hce1 hce2 hce3 ?_
    refine lv_astore (lv' := [(4, .ref q9), (0, .ref (ad 57)), (1, .int (nI i)), (2, .int x1), (3, .ref o)]) hx hb dL_groups_13 hl (by decide) rfl (fun ls hl => ?_)
    refine lv_iconst (v := nI 1) hx hb dL_groups_15 (by decide) ?_
    obtain ⟨n9, hN⟩ := hO
    exact W.widen (k := 80) (n := 3752) (by simp) (by simp) (W.iret (v := nI 1) hx hb hr (fun t9 ht9 hW9 => ⟨⟨_, (S, n9), rfl, ⟨LQ_same hI h5, (Or.inr (Or.inl ⟨i, hi, rfl, hb9, rfl, rfl⟩))⟩, hX.P ht9 hW9, by rw [ht9]; exact hN⟩, hX.2.2.2.F ht9⟩) hX.2.2.2.2.2 dL_groups_16)
  replace hj : j < 4 := by omega
  refine kl_rr (va_runV (As := [.int (nI i), .int (nI j)]) (rest := [.ref o]) ⟨hx, hb, hml, hown, hts⟩ (n_X4_groups l dC dI cB ad S i j hi hj hI) (cwV 2 hts gL_groups_X4_groups rfl rfl rfl hdX4_groups_2 ⟨Nat.le_of_ble_eq_true rfl, Nat.le_of_ble_eq_true rfl⟩) hPW.preT rfl rfl hl.1 rfl (lv_room (Nat.le_of_ble_eq_true rfl)) dL_groups_4 ⟨Nat.le_of_ble_eq_true rfl, Nat.le_of_ble_eq_true rfl⟩) hX hO hno (fun S1 q9 H locs hw hX hO => ?_)
  have hLQ : LQ S S1 := by rw [hw]; exact LQ_same hI h5
  refine kl_put hx hb hts hin5 hown hX hO hno 1 (by decide) (host := "OrderlatticeLaw") (va_Nw.use rfl hPW.2.2.2.2.2.2) (ty := (.object "java/lang/String")) rfl rfl rfl (Or.inr ⟨rfl, _, rfl⟩) dL_groups_7 (fun H locs hX hO => ?_)
  refine lv_goto (tgt := 17) hx hb dL_groups_10 (by decide) ?_
  refine lv_iconst (v := nI 0) hx hb dL_groups_17 (by decide) ?_
  obtain ⟨n9, hN⟩ := hO
  exact W.widen (k := 80) (n := 3752) (by simp) (by simp) (W.iret (v := nI 0) hx hb hr (fun t9 ht9 hW9 => ⟨⟨_, (S1, n9), rfl, ⟨hLQ, (Or.inr (Or.inr ⟨i, j, hi, hj, rfl, rfl, rfl, hw⟩))⟩, hX.P ht9 hW9, by rw [ht9]; exact hN⟩, hX.2.2.2.F ht9⟩) hX.2.2.2.2.2 dL_groups_18)
set_option maxHeartbeats 4000000 in
set_option maxRecDepth 100000 in
theorem m_L_ranks (l : Launch) (hst : l.stackTraces = false) (dC : Nat → ClassId) (dI : Nat → Nat → Nat) (cB : ClassId) (ad : Nat → Nat) (o : Nat) (S : XS) (x0 : Int32) (x1 : Int32) (z2 : Bool) (hI : InvX S) (h5 : ∀ j, j < 4 → (S.2.1 j).2.2.2.2.1 ≤ 5) (hc : S.2.2.1 + 12 < 1000000) : Met l yL_ranks wsL_ranks ({ frames := 9, cells := 80, slots := 900, locals := 179 } : Room) (va_Pc [.ref (ad 57), .int x0, .int x1, .int (bI z2), .ref o] (PW dC dI cB ad o S)) (va_Qi (fun r (u : XS × Int64) => LQ S u.1 ∧ R_ranks x0 x1 z2 S r u.1 u.2) (PO2 dC dI ad o) (AO ad o)) 80 900 (AO ad o) := by
  refine va_MetW (cc := cL_ranks) (maxL := 6) (ret := (some .int)) pl_L rfl ?_
  intro p e s m args below meth c s₁ B hml hv
  obtain ⟨rfl, hPW⟩ := hv
  have hx := B.exec
  have hb := B.bytes
  have hr := B.returns
  have hts := atoms_spec (ws := wsL_ranks) B.pre
  have htab := vx_table (x := yL_ranks) B (hts (.codeWith yL_ranks cL_ranks 6 (some .int) [(0, 12, 15, 19)]) (by unfold wsL_ranks; exact List.mem_cons_self))
  have hown : s.vm.findClass RL = some m.cls := findClass_of_methodNamed B.named
  have hlocks := B.notSynchronized
  have hin5 : ∀ w ∈ u_ws RX5 TX5 2, w ∈ wsL_ranks := tu 1332 (by decide +kernel) rfl
  have hX := WX.ofW hPW
  have hO := hPW.2.2.1
  have hno := hPW.2.2.2.1
  have hl := lv_entry ([.ref (ad 57), .int x0, .int x1, .int (bI z2), .ref o]) (n := 6) (Nat.le_of_ble_eq_true rfl)
  rw [lg_entry_eq]
  generalize (lg_sl ([.ref (ad 57), .int x0, .int x1, .int (bI z2), .ref o]) ++ List.replicate (6 - (lg_sl ([.ref (ad 57), .int x0, .int x1, .int (bI z2), .ref o])).length) Slot.unset).toArray = ls at hl ⊢
  have hl : lv_has ls 6 [(0, .ref (ad 57)), (1, .int x0), (2, .int x1), (3, .int (bI z2)), (4, .ref o)] := hl
  show W p l e ({ frames := 9, cells := 80, slots := 900, locals := 179 } : Room) s m ([.ref (ad 57), .int x0, .int x1, .int (bI z2), .ref o]).toArray below meth c s.heap [] 0 0 (MQ below (va_Qi (fun r (u : XS × Int64) => LQ S u.1 ∧ R_ranks x0 x1 z2 S r u.1 u.2) (PO2 dC dI ad o) (AO ad o)) ([.ref (ad 57), .int x0, .int x1, .int (bI z2), .ref o]).toArray s 80 900 (AO ad o)) (F0 m 0 ls [])
  refine lv_aload hx hb dL_ranks_0 (lv_at hl 4 rfl) ?_
  refine lv_aload_n hx hb dL_ranks_2 rfl (lv_at hl 0 rfl) ?_
  refine lv_iload_n hx hb dL_ranks_3 rfl (lv_at hl 1 rfl) ?_
  refine lv_iload_n hx hb dL_ranks_4 rfl (lv_at hl 2 rfl) ?_
  refine lv_iload_n hx hb dL_ranks_5 rfl (lv_at hl 3 rfl) ?_
  rcases lim_lt 3 (by decide) x0 with ⟨i, hi, rfl⟩ | hb9
  rotate_left
  · skip
    refine kl_throw (vx_runV (As := [.int x0, .int x1, .int (bI z2)]) (rest := [.ref o]) ⟨hx, hb, hml, hown, hts⟩ (t_X4_ranks_1 l hst dC dI ad S x0 x1 z2 hb9) (cwV 3 hts gL_ranks_X4_ranks rfl rfl rfl hdX4_ranks_3 ⟨Nat.le_of_ble_eq_true rfl, Nat.le_of_ble_eq_true rfl⟩) hPW.1.preX rfl rfl hl.1 rfl (lv_room (Nat.le_of_ble_eq_true rfl)) dL_ranks_6 ⟨Nat.le_of_ble_eq_true rfl, Nat.le_of_ble_eq_true rfl⟩) hX hO (fun ce q9 H hce1 hce2 hce3 hX hO => ?_)
    refine vx_catch hown [] ⟨0, 12, 15, 19⟩ [] (htab.trans rfl) (fun _ h => nomatch h) rfl (by decide) (hts (.classLink RL 19 IX) (tm 830 (by decide +kernel) rfl)) (va_Nw.use rfl hPW.1.2.1.2.1.1) hce1 hce2 hce3 ?_
    refine lv_astore (lv' := [(5, .ref q9), (0, .ref (ad 57)), (1, .int x0), (2, .int x1), (3, .int (bI z2)), (4, .ref o)]) hx hb dL_ranks_15 hl (by decide) rfl (fun ls hl => ?_)
    refine lv_iconst (v := nI 1) hx hb dL_ranks_17 (by decide) ?_
    obtain ⟨n9, hN⟩ := hO
    exact W.widen (k := 80) (n := 900) (by simp) (by simp) (W.iret (v := nI 1) hx hb hr (fun t9 ht9 hW9 => ⟨⟨_, (S, n9), rfl, ⟨LQ_same hI h5, (Or.inl ⟨hb9, rfl, rfl⟩)⟩, hX.P ht9 hW9, by rw [ht9]; exact hN⟩, hX.2.2.2.F ht9⟩) hX.2.2.2.2.2 dL_ranks_18)
  replace hi : i < 3 := by omega
  have hn := (hI.1 i (by omega)).1
  rcases lim_lt 4 (by decide) x1 with ⟨j, hj, rfl⟩ | hb9
  rotate_left
  · skip
    refine kl_throw (vx_runV (As := [.int (nI i), .int x1, .int (bI z2)]) (rest := [.ref o]) ⟨hx, hb, hml, hown, hts⟩ (t_X4_ranks_2 l hst dC dI ad S i x1 z2 hi hb9) (cwV 3 hts gL_ranks_X4_ranks rfl rfl rfl hdX4_ranks_3 ⟨Nat.le_of_ble_eq_true rfl, Nat.le_of_ble_eq_true rfl⟩) hPW.1.preX rfl rfl hl.1 rfl (lv_room (Nat.le_of_ble_eq_true rfl)) dL_ranks_6 ⟨Nat.le_of_ble_eq_true rfl, Nat.le_of_ble_eq_true rfl⟩) hX hO (fun ce q9 H hce1 hce2 hce3 hX hO => ?_)
    refine vx_catch hown [] ⟨0, 12, 15, 19⟩ [] (htab.trans rfl) (fun _ h => nomatch h) rfl (by decide) (hts (.classLink RL 19 IX) (tm 830 (by decide +kernel) rfl)) (va_Nw.use rfl hPW.1.2.1.2.1.1) hce1 hce2 hce3 ?_
    refine lv_astore (lv' := [(5, .ref q9), (0, .ref (ad 57)), (1, .int (nI i)), (2, .int x1), (3, .int (bI z2)), (4, .ref o)]) hx hb dL_ranks_15 hl (by decide) rfl (fun ls hl => ?_)
    refine lv_iconst (v := nI 1) hx hb dL_ranks_17 (by decide) ?_
    obtain ⟨n9, hN⟩ := hO
    exact W.widen (k := 80) (n := 900) (by simp) (by simp) (W.iret (v := nI 1) hx hb hr (fun t9 ht9 hW9 => ⟨⟨_, (S, n9), rfl, ⟨LQ_same hI h5, (Or.inr (Or.inl ⟨i, hi, rfl, hb9, rfl, rfl⟩))⟩, hX.P ht9 hW9, by rw [ht9]; exact hN⟩, hX.2.2.2.F ht9⟩) hX.2.2.2.2.2 dL_ranks_18)
  replace hj : j < 4 := by omega
  refine kl_rr (va_runV (As := [.int (nI i), .int (nI j), .int (bI z2)]) (rest := [.ref o]) ⟨hx, hb, hml, hown, hts⟩ (n_X4_ranks l dC dI cB ad S i j z2 hi hj hI) (cwV 3 hts gL_ranks_X4_ranks rfl rfl rfl hdX4_ranks_3 ⟨Nat.le_of_ble_eq_true rfl, Nat.le_of_ble_eq_true rfl⟩) hPW.preT rfl rfl hl.1 rfl (lv_room (Nat.le_of_ble_eq_true rfl)) dL_ranks_6 ⟨Nat.le_of_ble_eq_true rfl, Nat.le_of_ble_eq_true rfl⟩) hX hO hno (fun S1 q9 H locs hw hX hO => ?_)
  have hLQ : LQ S S1 := LQ_KR hI h5 hw
  refine kl_put hx hb hts hin5 hown hX hO hno 1 (by decide) (host := "OrderlatticeLaw") (va_Nw.use rfl hPW.2.2.2.2.2.2) (ty := (.object "java/lang/String")) rfl rfl rfl (Or.inr ⟨rfl, _, rfl⟩) dL_ranks_9 (fun H locs hX hO => ?_)
  refine lv_goto (tgt := 19) hx hb dL_ranks_12 (by decide) ?_
  refine lv_iconst (v := nI 0) hx hb dL_ranks_19 (by decide) ?_
  obtain ⟨n9, hN⟩ := hO
  exact W.widen (k := 80) (n := 900) (by simp) (by simp) (W.iret (v := nI 0) hx hb hr (fun t9 ht9 hW9 => ⟨⟨_, (S1, n9), rfl, ⟨hLQ, (Or.inr (Or.inr ⟨i, j, hi, hj, rfl, rfl, rfl, hw⟩))⟩, hX.P ht9 hW9, by rw [ht9]; exact hN⟩, hX.2.2.2.F ht9⟩) hX.2.2.2.2.2 dL_ranks_20)
set_option maxHeartbeats 4000000 in
set_option maxRecDepth 100000 in
theorem m_L_step (l : Launch) (hst : l.stackTraces = false) (dC : Nat → ClassId) (dI : Nat → Nat → Nat) (cB : ClassId) (ad : Nat → Nat) (o : Nat) (S : XS) (x0 : Int32) (x1 : Int32) (z2 : Bool) (hI : InvX S) (h5 : ∀ j, j < 4 → (S.2.1 j).2.2.2.2.1 ≤ 5) (hc : S.2.2.1 + 12 < 1000000) : Met l yL_step wsL_step ({ frames := 9, cells := 1, slots := 6, locals := 147 } : Room) (va_Pc [.ref (ad 57), .int x0, .int x1, .int (bI z2), .ref o] (PW dC dI cB ad o S)) (va_Qi (fun r (u : XS × Int64) => LQ S u.1 ∧ R_step x0 x1 z2 S r u.1 u.2) (PO2 dC dI ad o) (AO ad o)) 1 6 (AO ad o) := by
  refine va_MetW (cc := cL_step) (maxL := 6) (ret := (some .int)) pl_L rfl ?_
  intro p e s m args below meth c s₁ B hml hv
  obtain ⟨rfl, hPW⟩ := hv
  have hx := B.exec
  have hb := B.bytes
  have hr := B.returns
  have hts := atoms_spec (ws := wsL_step) B.pre
  have htab := vx_table (x := yL_step) B (hts (.codeWith yL_step cL_step 6 (some .int) [(0, 13, 16, 19), (0, 13, 20, 21)]) (by unfold wsL_step; exact List.mem_cons_self))
  have hown : s.vm.findClass RL = some m.cls := findClass_of_methodNamed B.named
  have hlocks := B.notSynchronized
  have hin5 : ∀ w ∈ u_ws RX5 TX5 2, w ∈ wsL_step := tu 1332 (by decide +kernel) rfl
  have hX := WX.ofW hPW
  have hO := hPW.2.2.1
  have hno := hPW.2.2.2.1
  have hl := lv_entry ([.ref (ad 57), .int x0, .int x1, .int (bI z2), .ref o]) (n := 6) (Nat.le_of_ble_eq_true rfl)
  rw [lg_entry_eq]
  generalize (lg_sl ([.ref (ad 57), .int x0, .int x1, .int (bI z2), .ref o]) ++ List.replicate (6 - (lg_sl ([.ref (ad 57), .int x0, .int x1, .int (bI z2), .ref o])).length) Slot.unset).toArray = ls at hl ⊢
  have hl : lv_has ls 6 [(0, .ref (ad 57)), (1, .int x0), (2, .int x1), (3, .int (bI z2)), (4, .ref o)] := hl
  show W p l e ({ frames := 9, cells := 1, slots := 6, locals := 147 } : Room) s m ([.ref (ad 57), .int x0, .int x1, .int (bI z2), .ref o]).toArray below meth c s.heap [] 0 0 (MQ below (va_Qi (fun r (u : XS × Int64) => LQ S u.1 ∧ R_step x0 x1 z2 S r u.1 u.2) (PO2 dC dI ad o) (AO ad o)) ([.ref (ad 57), .int x0, .int x1, .int (bI z2), .ref o]).toArray s 1 6 (AO ad o)) (F0 m 0 ls [])
  refine lv_aload hx hb dL_step_0 (lv_at hl 4 rfl) ?_
  refine lv_aload_n hx hb dL_step_2 rfl (lv_at hl 0 rfl) ?_
  refine lv_iload_n hx hb dL_step_3 rfl (lv_at hl 1 rfl) ?_
  refine lv_iload_n hx hb dL_step_4 rfl (lv_at hl 2 rfl) ?_
  refine lv_iload_n hx hb dL_step_5 rfl (lv_at hl 3 rfl) ?_
  rcases lim_lt 4 (by decide) x0 with ⟨j, hj, rfl⟩ | hb9
  rotate_left
  · skip
    refine kl_throw (vx_runV (As := [.int x0, .int x1, .int (bI z2)]) (rest := [.ref o]) ⟨hx, hb, hml, hown, hts⟩ (t_X4_step_1 l hst dC dI ad S x0 x1 z2 hb9) (cwV 3 hts gL_step_X4_step rfl rfl rfl hdX4_step_3 ⟨Nat.le_of_ble_eq_true rfl, Nat.le_of_ble_eq_true rfl⟩) hPW.1.preX rfl rfl hl.1 rfl (lv_room (Nat.le_of_ble_eq_true rfl)) dL_step_6 ⟨Nat.le_of_ble_eq_true rfl, Nat.le_of_ble_eq_true rfl⟩) hX hO (fun ce q9 H hce1 hce2 hce3 hX hO => ?_)
    refine vx_catch hown [] ⟨0, 13, 16, 19⟩ [⟨0, 13, 20, 21⟩] (htab.trans rfl) (fun _ h => nomatch h) rfl (by decide) (hts (.classLink RL 19 IX) (tm 830 (by decide +kernel) rfl)) (va_Nw.use rfl hPW.1.2.1.2.1.1) hce1 hce2 hce3 ?_
    refine lv_astore (lv' := [(5, .ref q9), (0, .ref (ad 57)), (1, .int x0), (2, .int x1), (3, .int (bI z2)), (4, .ref o)]) hx hb dL_step_16 hl (by decide) rfl (fun ls hl => ?_)
    refine lv_iconst (v := nI 1) hx hb dL_step_18 (by decide) ?_
    obtain ⟨n9, hN⟩ := hO
    exact W.widen (k := 1) (n := 6) (by simp) (by simp) (W.iret (v := nI 1) hx hb hr (fun t9 ht9 hW9 => ⟨⟨_, (S, n9), rfl, ⟨LQ_same hI h5, (Or.inl ⟨hb9, rfl, rfl⟩)⟩, hX.P ht9 hW9, by rw [ht9]; exact hN⟩, hX.2.2.2.F ht9⟩) hX.2.2.2.2.2 dL_step_19)
  replace hj : j < 4 := by omega
  rcases lim_le 7 (by decide) x1 with ⟨k, hk, rfl⟩ | hb9
  rotate_left
  · skip
    refine kl_throw (vx_runV (As := [.int (nI j), .int x1, .int (bI z2)]) (rest := [.ref o]) ⟨hx, hb, hml, hown, hts⟩ (t_X4_step_2 l hst dC dI ad S j x1 z2 hj hb9) (cwV 3 hts gL_step_X4_step rfl rfl rfl hdX4_step_3 ⟨Nat.le_of_ble_eq_true rfl, Nat.le_of_ble_eq_true rfl⟩) hPW.1.preX rfl rfl hl.1 rfl (lv_room (Nat.le_of_ble_eq_true rfl)) dL_step_6 ⟨Nat.le_of_ble_eq_true rfl, Nat.le_of_ble_eq_true rfl⟩) hX hO (fun ce q9 H hce1 hce2 hce3 hX hO => ?_)
    refine vx_catch hown [⟨0, 13, 16, 19⟩] ⟨0, 13, 20, 21⟩ [] (htab.trans rfl) (fun z hz => by rw [List.mem_singleton.mp hz]; exact Or.inr ⟨by decide, IX, hts (.classLink RL 19 IX) (by decide +kernel), hPW.2.2.2.2.1⟩) rfl (by decide) (hts (.classLink RL 21 IA) (tm 831 (by decide +kernel) rfl)) (va_Nw.use rfl hPW.1.2.1.2.1.2) hce1 hce2 hce3 ?_
    refine lv_astore (lv' := [(5, .ref q9), (0, .ref (ad 57)), (1, .int (nI j)), (2, .int x1), (3, .int (bI z2)), (4, .ref o)]) hx hb dL_step_20 hl (by decide) rfl (fun ls hl => ?_)
    refine lv_iconst (v := nI 2) hx hb dL_step_22 (by decide) ?_
    obtain ⟨n9, hN⟩ := hO
    exact W.widen (k := 1) (n := 6) (by simp) (by simp) (W.iret (v := nI 2) hx hb hr (fun t9 ht9 hW9 => ⟨⟨_, (S, n9), rfl, ⟨LQ_same hI h5, (Or.inr (Or.inl ⟨j, hj, rfl, hb9, rfl, rfl⟩))⟩, hX.P ht9 hW9, by rw [ht9]; exact hN⟩, hX.2.2.2.F ht9⟩) hX.2.2.2.2.2 dL_step_23)
  replace hk : k ≤ 7 := by omega
  refine kl_ci (va_runV (As := [.int (nI j), .int (nI k), .int (bI z2)]) (rest := [.ref o]) ⟨hx, hb, hml, hown, hts⟩ (m_X4_step l dC dI ad S j k z2 hj hk hI) (cwV 3 hts gL_step_X4_step rfl rfl rfl hdX4_step_3 ⟨Nat.le_of_ble_eq_true rfl, Nat.le_of_ble_eq_true rfl⟩) (hX.preTop 57 6 (by decide) (by decide) rfl rfl) rfl rfl hl.1 rfl (lv_room (Nat.le_of_ble_eq_true rfl)) dL_step_6 ⟨Nat.le_of_ble_eq_true rfl, Nat.le_of_ble_eq_true rfl⟩) hX hO hno (fun r9 S1 H locs hw hX hO => ?_)
  have hLQ : LQ S S1 := LQ_step hI h5 hj hk hw
  refine lv_i2l (v := r9.toInt64) hx hb dL_step_9 rfl ?_
  refine kl_putn hx hb hts hin5 hown hX hO hno (host := "OrderlatticeLaw") (va_Nw.use rfl hPW.2.2.2.2.2.1) dL_step_10 (fun H locs hX hN => ?_)
  refine lv_goto (tgt := 24) hx hb dL_step_13 (by decide) ?_
  refine lv_iconst (v := nI 0) hx hb dL_step_24 (by decide) ?_
  exact W.widen (k := 1) (n := 6) (by simp) (by simp) (W.iret (v := nI 0) hx hb hr (fun t9 ht9 hW9 => ⟨⟨_, (S1, r9.toInt64), rfl, ⟨hLQ, (Or.inr (Or.inr ⟨j, k, r9, hj, hk, rfl, rfl, rfl, rfl, hw⟩))⟩, hX.P ht9 hW9, by rw [ht9]; exact hN⟩, hX.2.2.2.F ht9⟩) hX.2.2.2.2.2 dL_step_25)
set_option maxHeartbeats 4000000 in
set_option maxRecDepth 100000 in
theorem m_L_unstep (l : Launch) (hst : l.stackTraces = false) (dC : Nat → ClassId) (dI : Nat → Nat → Nat) (cB : ClassId) (ad : Nat → Nat) (o : Nat) (S : XS) (x0 : Int32) (hI : InvX S) (h5 : ∀ j, j < 4 → (S.2.1 j).2.2.2.2.1 ≤ 5) (hc : S.2.2.1 + 12 < 1000000) : Met l yL_unstep wsL_unstep ({ frames := 9, cells := 1, slots := 6, locals := 146 } : Room) (va_Pc [.ref (ad 57), .int x0, .ref o] (PW dC dI cB ad o S)) (va_Qi (fun r (u : XS × Int64) => LQ S u.1 ∧ R_unstep x0 S r u.1 u.2) (PO2 dC dI ad o) (AO ad o)) 1 6 (AO ad o) := by
  refine va_MetW (cc := cL_unstep) (maxL := 4) (ret := (some .int)) pl_L rfl ?_
  intro p e s m args below meth c s₁ B hml hv
  obtain ⟨rfl, hPW⟩ := hv
  have hx := B.exec
  have hb := B.bytes
  have hr := B.returns
  have hts := atoms_spec (ws := wsL_unstep) B.pre
  have htab := vx_table (x := yL_unstep) B (hts (.codeWith yL_unstep cL_unstep 4 (some .int) [(0, 10, 13, 19)]) (by unfold wsL_unstep; exact List.mem_cons_self))
  have hown : s.vm.findClass RL = some m.cls := findClass_of_methodNamed B.named
  have hlocks := B.notSynchronized
  have hin5 : ∀ w ∈ u_ws RX5 TX5 2, w ∈ wsL_unstep := tu 1332 (by decide +kernel) rfl
  have hX := WX.ofW hPW
  have hO := hPW.2.2.1
  have hno := hPW.2.2.2.1
  have hl := lv_entry ([.ref (ad 57), .int x0, .ref o]) (n := 4) (Nat.le_of_ble_eq_true rfl)
  rw [lg_entry_eq]
  generalize (lg_sl ([.ref (ad 57), .int x0, .ref o]) ++ List.replicate (4 - (lg_sl ([.ref (ad 57), .int x0, .ref o])).length) Slot.unset).toArray = ls at hl ⊢
  have hl : lv_has ls 4 [(0, .ref (ad 57)), (1, .int x0), (2, .ref o)] := hl
  show W p l e ({ frames := 9, cells := 1, slots := 6, locals := 146 } : Room) s m ([.ref (ad 57), .int x0, .ref o]).toArray below meth c s.heap [] 0 0 (MQ below (va_Qi (fun r (u : XS × Int64) => LQ S u.1 ∧ R_unstep x0 S r u.1 u.2) (PO2 dC dI ad o) (AO ad o)) ([.ref (ad 57), .int x0, .ref o]).toArray s 1 6 (AO ad o)) (F0 m 0 ls [])
  refine lv_aload_n hx hb dL_unstep_0 rfl (lv_at hl 2 rfl) ?_
  refine lv_aload_n hx hb dL_unstep_1 rfl (lv_at hl 0 rfl) ?_
  refine lv_iload_n hx hb dL_unstep_2 rfl (lv_at hl 1 rfl) ?_
  rcases lim_lt 4 (by decide) x0 with ⟨j, hj, rfl⟩ | hb9
  rotate_left
  · skip
    refine kl_throw (vx_runV (As := [.int x0]) (rest := [.ref o]) ⟨hx, hb, hml, hown, hts⟩ (t_X4_unstep_1 l hst dC dI ad S x0 hb9) (cwV 1 hts gL_unstep_X4_unstep rfl rfl rfl hdX4_unstep_1 ⟨Nat.le_of_ble_eq_true rfl, Nat.le_of_ble_eq_true rfl⟩) hPW.1.preX rfl rfl hl.1 rfl (lv_room (Nat.le_of_ble_eq_true rfl)) dL_unstep_3 ⟨Nat.le_of_ble_eq_true rfl, Nat.le_of_ble_eq_true rfl⟩) hX hO (fun ce q9 H hce1 hce2 hce3 hX hO => ?_)
    refine vx_catch hown [] ⟨0, 10, 13, 19⟩ [] (htab.trans rfl) (fun _ h => nomatch h) rfl (by decide) (hts (.classLink RL 19 IX) (tm 830 (by decide +kernel) rfl)) (va_Nw.use rfl hPW.1.2.1.2.1.1) hce1 hce2 hce3 ?_
    refine lv_astore_n (lv' := [(3, .ref q9), (0, .ref (ad 57)), (1, .int x0), (2, .ref o)]) hx hb dL_unstep_13 rfl hl (by decide) rfl (fun ls hl => ?_)
    refine lv_iconst (v := nI 1) hx hb dL_unstep_14 (by decide) ?_
    obtain ⟨n9, hN⟩ := hO
    exact W.widen (k := 1) (n := 6) (by simp) (by simp) (W.iret (v := nI 1) hx hb hr (fun t9 ht9 hW9 => ⟨⟨_, (S, n9), rfl, ⟨LQ_same hI h5, (Or.inl ⟨hb9, rfl, rfl⟩)⟩, hX.P ht9 hW9, by rw [ht9]; exact hN⟩, hX.2.2.2.F ht9⟩) hX.2.2.2.2.2 dL_unstep_15)
  replace hj : j < 4 := by omega
  refine kl_ci (va_runV (As := [.int (nI j)]) (rest := [.ref o]) ⟨hx, hb, hml, hown, hts⟩ (m_X4_unstep l dC dI ad S j hj hI) (cwV 1 hts gL_unstep_X4_unstep rfl rfl rfl hdX4_unstep_1 ⟨Nat.le_of_ble_eq_true rfl, Nat.le_of_ble_eq_true rfl⟩) (hX.preTop 57 6 (by decide) (by decide) rfl rfl) rfl rfl hl.1 rfl (lv_room (Nat.le_of_ble_eq_true rfl)) dL_unstep_3 ⟨Nat.le_of_ble_eq_true rfl, Nat.le_of_ble_eq_true rfl⟩) hX hO hno (fun r9 S1 H locs hw hX hO => ?_)
  have hLQ : LQ S S1 := LQ_unstep hI h5 hj hw
  refine lv_i2l (v := r9.toInt64) hx hb dL_unstep_6 rfl ?_
  refine kl_putn hx hb hts hin5 hown hX hO hno (host := "OrderlatticeLaw") (va_Nw.use rfl hPW.2.2.2.2.2.1) dL_unstep_7 (fun H locs hX hN => ?_)
  refine lv_goto (tgt := 16) hx hb dL_unstep_10 (by decide) ?_
  refine lv_iconst (v := nI 0) hx hb dL_unstep_16 (by decide) ?_
  exact W.widen (k := 1) (n := 6) (by simp) (by simp) (W.iret (v := nI 0) hx hb hr (fun t9 ht9 hW9 => ⟨⟨_, (S1, r9.toInt64), rfl, ⟨hLQ, (Or.inr ⟨j, r9, hj, rfl, rfl, rfl, hw⟩)⟩, hX.P ht9 hW9, by rw [ht9]; exact hN⟩, hX.2.2.2.F ht9⟩) hX.2.2.2.2.2 dL_unstep_17)
set_option maxHeartbeats 4000000 in
set_option maxRecDepth 100000 in
theorem m_L_wipe (l : Launch) (hst : l.stackTraces = false) (dC : Nat → ClassId) (dI : Nat → Nat → Nat) (cB : ClassId) (ad : Nat → Nat) (o : Nat) (S : XS) (x0 : Int32) (hI : InvX S) (h5 : ∀ j, j < 4 → (S.2.1 j).2.2.2.2.1 ≤ 5) (hc : S.2.2.1 + 12 < 1000000) : Met l yL_wipe wsL_wipe ({ frames := 9, cells := 1, slots := 6, locals := 146 } : Room) (va_Pc [.ref (ad 57), .int x0, .ref o] (PW dC dI cB ad o S)) (va_Qi (fun r (u : XS × Int64) => LQ S u.1 ∧ R_wipe x0 S r u.1 u.2) (PO2 dC dI ad o) (AO ad o)) 1 6 (AO ad o) := by
  refine va_MetW (cc := cL_wipe) (maxL := 4) (ret := (some .int)) pl_L rfl ?_
  intro p e s m args below meth c s₁ B hml hv
  obtain ⟨rfl, hPW⟩ := hv
  have hx := B.exec
  have hb := B.bytes
  have hr := B.returns
  have hts := atoms_spec (ws := wsL_wipe) B.pre
  have htab := vx_table (x := yL_wipe) B (hts (.codeWith yL_wipe cL_wipe 4 (some .int) [(0, 10, 13, 19)]) (by unfold wsL_wipe; exact List.mem_cons_self))
  have hown : s.vm.findClass RL = some m.cls := findClass_of_methodNamed B.named
  have hlocks := B.notSynchronized
  have hin5 : ∀ w ∈ u_ws RX5 TX5 2, w ∈ wsL_wipe := tu 1332 (by decide +kernel) rfl
  have hX := WX.ofW hPW
  have hO := hPW.2.2.1
  have hno := hPW.2.2.2.1
  have hl := lv_entry ([.ref (ad 57), .int x0, .ref o]) (n := 4) (Nat.le_of_ble_eq_true rfl)
  rw [lg_entry_eq]
  generalize (lg_sl ([.ref (ad 57), .int x0, .ref o]) ++ List.replicate (4 - (lg_sl ([.ref (ad 57), .int x0, .ref o])).length) Slot.unset).toArray = ls at hl ⊢
  have hl : lv_has ls 4 [(0, .ref (ad 57)), (1, .int x0), (2, .ref o)] := hl
  show W p l e ({ frames := 9, cells := 1, slots := 6, locals := 146 } : Room) s m ([.ref (ad 57), .int x0, .ref o]).toArray below meth c s.heap [] 0 0 (MQ below (va_Qi (fun r (u : XS × Int64) => LQ S u.1 ∧ R_wipe x0 S r u.1 u.2) (PO2 dC dI ad o) (AO ad o)) ([.ref (ad 57), .int x0, .ref o]).toArray s 1 6 (AO ad o)) (F0 m 0 ls [])
  refine lv_aload_n hx hb dL_wipe_0 rfl (lv_at hl 2 rfl) ?_
  refine lv_aload_n hx hb dL_wipe_1 rfl (lv_at hl 0 rfl) ?_
  refine lv_iload_n hx hb dL_wipe_2 rfl (lv_at hl 1 rfl) ?_
  rcases lim_lt 4 (by decide) x0 with ⟨j, hj, rfl⟩ | hb9
  rotate_left
  · skip
    refine kl_throw (vx_runV (As := [.int x0]) (rest := [.ref o]) ⟨hx, hb, hml, hown, hts⟩ (t_X4_wipe_1 l hst dC dI ad S x0 hb9) (cwV 1 hts gL_wipe_X4_wipe rfl rfl rfl hdX4_wipe_1 ⟨Nat.le_of_ble_eq_true rfl, Nat.le_of_ble_eq_true rfl⟩) hPW.1.preX rfl rfl hl.1 rfl (lv_room (Nat.le_of_ble_eq_true rfl)) dL_wipe_3 ⟨Nat.le_of_ble_eq_true rfl, Nat.le_of_ble_eq_true rfl⟩) hX hO (fun ce q9 H hce1 hce2 hce3 hX hO => ?_)
    refine vx_catch hown [] ⟨0, 10, 13, 19⟩ [] (htab.trans rfl) (fun _ h => nomatch h) rfl (by decide) (hts (.classLink RL 19 IX) (tm 830 (by decide +kernel) rfl)) (va_Nw.use rfl hPW.1.2.1.2.1.1) hce1 hce2 hce3 ?_
    refine lv_astore_n (lv' := [(3, .ref q9), (0, .ref (ad 57)), (1, .int x0), (2, .ref o)]) hx hb dL_wipe_13 rfl hl (by decide) rfl (fun ls hl => ?_)
    refine lv_iconst (v := nI 1) hx hb dL_wipe_14 (by decide) ?_
    obtain ⟨n9, hN⟩ := hO
    exact W.widen (k := 1) (n := 6) (by simp) (by simp) (W.iret (v := nI 1) hx hb hr (fun t9 ht9 hW9 => ⟨⟨_, (S, n9), rfl, ⟨LQ_same hI h5, (Or.inl ⟨hb9, rfl, rfl⟩)⟩, hX.P ht9 hW9, by rw [ht9]; exact hN⟩, hX.2.2.2.F ht9⟩) hX.2.2.2.2.2 dL_wipe_15)
  replace hj : j < 4 := by omega
  refine kl_ci (va_runV (As := [.int (nI j)]) (rest := [.ref o]) ⟨hx, hb, hml, hown, hts⟩ (m_X4_wipe l dC dI ad S j hj hI) (cwV 1 hts gL_wipe_X4_wipe rfl rfl rfl hdX4_wipe_1 ⟨Nat.le_of_ble_eq_true rfl, Nat.le_of_ble_eq_true rfl⟩) (hX.preTop 57 6 (by decide) (by decide) rfl rfl) rfl rfl hl.1 rfl (lv_room (Nat.le_of_ble_eq_true rfl)) dL_wipe_3 ⟨Nat.le_of_ble_eq_true rfl, Nat.le_of_ble_eq_true rfl⟩) hX hO hno (fun r9 S1 H locs hw hX hO => ?_)
  have hLQ : LQ S S1 := by rw [hw.2]; exact LQ_newO hI h5 (by omega) (hI.2 j (by omega)).1.2
  refine lv_i2l (v := r9.toInt64) hx hb dL_wipe_6 rfl ?_
  refine kl_putn hx hb hts hin5 hown hX hO hno (host := "OrderlatticeLaw") (va_Nw.use rfl hPW.2.2.2.2.2.1) dL_wipe_7 (fun H locs hX hN => ?_)
  refine lv_goto (tgt := 16) hx hb dL_wipe_10 (by decide) ?_
  refine lv_iconst (v := nI 0) hx hb dL_wipe_16 (by decide) ?_
  exact W.widen (k := 1) (n := 6) (by simp) (by simp) (W.iret (v := nI 0) hx hb hr (fun t9 ht9 hW9 => ⟨⟨_, (S1, r9.toInt64), rfl, ⟨hLQ, (Or.inr ⟨j, r9, hj, rfl, rfl, rfl, hw⟩)⟩, hX.P ht9 hW9, by rw [ht9]; exact hN⟩, hX.2.2.2.F ht9⟩) hX.2.2.2.2.2 dL_wipe_17)
set_option maxHeartbeats 4000000 in
set_option maxRecDepth 100000 in
theorem m_L_copyOrder (l : Launch) (hst : l.stackTraces = false) (dC : Nat → ClassId) (dI : Nat → Nat → Nat) (cB : ClassId) (ad : Nat → Nat) (o : Nat) (S : XS) (x0 : Int32) (x1 : Int32) (hI : InvX S) (h5 : ∀ j, j < 4 → (S.2.1 j).2.2.2.2.1 ≤ 5) (hc : S.2.2.1 + 12 < 1000000) : Met l yL_copyOrder wsL_copyOrder ({ frames := 9, cells := 1, slots := 6, locals := 147 } : Room) (va_Pc [.ref (ad 57), .int x0, .int x1, .ref o] (PW dC dI cB ad o S)) (va_Qi (fun r (u : XS × Int64) => LQ S u.1 ∧ R_copyOrder x0 x1 S r u.1 u.2) (PO2 dC dI ad o) (AO ad o)) 1 6 (AO ad o) := by
  refine va_MetW (cc := cL_copyOrder) (maxL := 5) (ret := (some .int)) pl_L rfl ?_
  intro p e s m args below meth c s₁ B hml hv
  obtain ⟨rfl, hPW⟩ := hv
  have hx := B.exec
  have hb := B.bytes
  have hr := B.returns
  have hts := atoms_spec (ws := wsL_copyOrder) B.pre
  have htab := vx_table (x := yL_copyOrder) B (hts (.codeWith yL_copyOrder cL_copyOrder 5 (some .int) [(0, 11, 14, 19)]) (by unfold wsL_copyOrder; exact List.mem_cons_self))
  have hown : s.vm.findClass RL = some m.cls := findClass_of_methodNamed B.named
  have hlocks := B.notSynchronized
  have hin5 : ∀ w ∈ u_ws RX5 TX5 2, w ∈ wsL_copyOrder := tu 1332 (by decide +kernel) rfl
  have hX := WX.ofW hPW
  have hO := hPW.2.2.1
  have hno := hPW.2.2.2.1
  have hl := lv_entry ([.ref (ad 57), .int x0, .int x1, .ref o]) (n := 5) (Nat.le_of_ble_eq_true rfl)
  rw [lg_entry_eq]
  generalize (lg_sl ([.ref (ad 57), .int x0, .int x1, .ref o]) ++ List.replicate (5 - (lg_sl ([.ref (ad 57), .int x0, .int x1, .ref o])).length) Slot.unset).toArray = ls at hl ⊢
  have hl : lv_has ls 5 [(0, .ref (ad 57)), (1, .int x0), (2, .int x1), (3, .ref o)] := hl
  show W p l e ({ frames := 9, cells := 1, slots := 6, locals := 147 } : Room) s m ([.ref (ad 57), .int x0, .int x1, .ref o]).toArray below meth c s.heap [] 0 0 (MQ below (va_Qi (fun r (u : XS × Int64) => LQ S u.1 ∧ R_copyOrder x0 x1 S r u.1 u.2) (PO2 dC dI ad o) (AO ad o)) ([.ref (ad 57), .int x0, .int x1, .ref o]).toArray s 1 6 (AO ad o)) (F0 m 0 ls [])
  refine lv_aload_n hx hb dL_copyOrder_0 rfl (lv_at hl 3 rfl) ?_
  refine lv_aload_n hx hb dL_copyOrder_1 rfl (lv_at hl 0 rfl) ?_
  refine lv_iload_n hx hb dL_copyOrder_2 rfl (lv_at hl 1 rfl) ?_
  refine lv_iload_n hx hb dL_copyOrder_3 rfl (lv_at hl 2 rfl) ?_
  rcases lim_lt 4 (by decide) x0 with ⟨j, hj, rfl⟩ | hb9
  rotate_left
  · skip
    refine kl_throw (vx_runV (As := [.int x0, .int x1]) (rest := [.ref o]) ⟨hx, hb, hml, hown, hts⟩ (t_X4_copyOrder_1 l hst dC dI ad S x0 x1 hb9) (cwV 2 hts gL_copyOrder_X4_copyOrder rfl rfl rfl hdX4_copyOrder_2 ⟨Nat.le_of_ble_eq_true rfl, Nat.le_of_ble_eq_true rfl⟩) hPW.1.preX rfl rfl hl.1 rfl (lv_room (Nat.le_of_ble_eq_true rfl)) dL_copyOrder_4 ⟨Nat.le_of_ble_eq_true rfl, Nat.le_of_ble_eq_true rfl⟩) hX hO (fun ce q9 H hce1 hce2 hce3 hX hO => ?_)
    refine vx_catch hown [] ⟨0, 11, 14, 19⟩ [] (htab.trans rfl) (fun _ h => nomatch h) rfl (by decide) (hts (.classLink RL 19 IX) (tm 830 (by decide +kernel) rfl)) (va_Nw.use rfl hPW.1.2.1.2.1.1) hce1 hce2 hce3 ?_
    refine lv_astore (lv' := [(4, .ref q9), (0, .ref (ad 57)), (1, .int x0), (2, .int x1), (3, .ref o)]) hx hb dL_copyOrder_14 hl (by decide) rfl (fun ls hl => ?_)
    refine lv_iconst (v := nI 1) hx hb dL_copyOrder_16 (by decide) ?_
    obtain ⟨n9, hN⟩ := hO
    exact W.widen (k := 1) (n := 6) (by simp) (by simp) (W.iret (v := nI 1) hx hb hr (fun t9 ht9 hW9 => ⟨⟨_, (S, n9), rfl, ⟨LQ_same hI h5, (Or.inl ⟨hb9, rfl, rfl⟩)⟩, hX.P ht9 hW9, by rw [ht9]; exact hN⟩, hX.2.2.2.F ht9⟩) hX.2.2.2.2.2 dL_copyOrder_17)
  replace hj : j < 4 := by omega
  rcases lim_lt 4 (by decide) x1 with ⟨j2, hj2, rfl⟩ | hb9
  rotate_left
  · skip
    refine kl_throw (vx_runV (As := [.int (nI j), .int x1]) (rest := [.ref o]) ⟨hx, hb, hml, hown, hts⟩ (t_X4_copyOrder_2 l hst dC dI ad S j x1 hj hb9) (cwV 2 hts gL_copyOrder_X4_copyOrder rfl rfl rfl hdX4_copyOrder_2 ⟨Nat.le_of_ble_eq_true rfl, Nat.le_of_ble_eq_true rfl⟩) hPW.1.preX rfl rfl hl.1 rfl (lv_room (Nat.le_of_ble_eq_true rfl)) dL_copyOrder_4 ⟨Nat.le_of_ble_eq_true rfl, Nat.le_of_ble_eq_true rfl⟩) hX hO (fun ce q9 H hce1 hce2 hce3 hX hO => ?_)
    refine vx_catch hown [] ⟨0, 11, 14, 19⟩ [] (htab.trans rfl) (fun _ h => nomatch h) rfl (by decide) (hts (.classLink RL 19 IX) (tm 830 (by decide +kernel) rfl)) (va_Nw.use rfl hPW.1.2.1.2.1.1) hce1 hce2 hce3 ?_
    refine lv_astore (lv' := [(4, .ref q9), (0, .ref (ad 57)), (1, .int (nI j)), (2, .int x1), (3, .ref o)]) hx hb dL_copyOrder_14 hl (by decide) rfl (fun ls hl => ?_)
    refine lv_iconst (v := nI 1) hx hb dL_copyOrder_16 (by decide) ?_
    obtain ⟨n9, hN⟩ := hO
    exact W.widen (k := 1) (n := 6) (by simp) (by simp) (W.iret (v := nI 1) hx hb hr (fun t9 ht9 hW9 => ⟨⟨_, (S, n9), rfl, ⟨LQ_same hI h5, (Or.inr (Or.inl ⟨j, hj, rfl, hb9, rfl, rfl⟩))⟩, hX.P ht9 hW9, by rw [ht9]; exact hN⟩, hX.2.2.2.F ht9⟩) hX.2.2.2.2.2 dL_copyOrder_17)
  replace hj2 : j2 < 4 := by omega
  refine kl_ci (va_runV (As := [.int (nI j), .int (nI j2)]) (rest := [.ref o]) ⟨hx, hb, hml, hown, hts⟩ (m_X4_copyOrder l dC dI ad S j j2 hj hj2 hI) (cwV 2 hts gL_copyOrder_X4_copyOrder rfl rfl rfl hdX4_copyOrder_2 ⟨Nat.le_of_ble_eq_true rfl, Nat.le_of_ble_eq_true rfl⟩) (hX.preTop 57 6 (by decide) (by decide) rfl rfl) rfl rfl hl.1 rfl (lv_room (Nat.le_of_ble_eq_true rfl)) dL_copyOrder_4 ⟨Nat.le_of_ble_eq_true rfl, Nat.le_of_ble_eq_true rfl⟩) hX hO hno (fun r9 S1 H locs hw hX hO => ?_)
  have hLQ : LQ S S1 := by rw [hw.2]; exact LQ_newO hI h5 (h5 j hj) (keys_apn (hI.2 j2 (by omega)).1.2 (hI.2 j (by omega)).1.2)
  refine lv_i2l (v := r9.toInt64) hx hb dL_copyOrder_7 rfl ?_
  refine kl_putn hx hb hts hin5 hown hX hO hno (host := "OrderlatticeLaw") (va_Nw.use rfl hPW.2.2.2.2.2.1) dL_copyOrder_8 (fun H locs hX hN => ?_)
  refine lv_goto (tgt := 18) hx hb dL_copyOrder_11 (by decide) ?_
  refine lv_iconst (v := nI 0) hx hb dL_copyOrder_18 (by decide) ?_
  exact W.widen (k := 1) (n := 6) (by simp) (by simp) (W.iret (v := nI 0) hx hb hr (fun t9 ht9 hW9 => ⟨⟨_, (S1, r9.toInt64), rfl, ⟨hLQ, (Or.inr (Or.inr ⟨j, j2, r9, hj, hj2, rfl, rfl, rfl, rfl, hw⟩))⟩, hX.P ht9 hW9, by rw [ht9]; exact hN⟩, hX.2.2.2.F ht9⟩) hX.2.2.2.2.2 dL_copyOrder_19)
set_option maxHeartbeats 4000000 in
set_option maxRecDepth 100000 in
theorem m_L_turn (l : Launch) (hst : l.stackTraces = false) (dC : Nat → ClassId) (dI : Nat → Nat → Nat) (cB : ClassId) (ad : Nat → Nat) (o : Nat) (S : XS) (x0 : Int32) (hI : InvX S) (h5 : ∀ j, j < 4 → (S.2.1 j).2.2.2.2.1 ≤ 5) (hc : S.2.2.1 + 12 < 1000000) : Met l yL_turn wsL_turn ({ frames := 9, cells := 1, slots := 6, locals := 145 } : Room) (va_Pc [.ref (ad 57), .int x0, .ref o] (PW dC dI cB ad o S)) (va_Qi (fun r (u : XS × Int64) => LQ S u.1 ∧ R_turn x0 S r u.1 u.2) (PO2 dC dI ad o) (AO ad o)) 1 6 (AO ad o) := by
  refine va_MetW (cc := cL_turn) (maxL := 4) (ret := (some .int)) pl_L rfl ?_
  intro p e s m args below meth c s₁ B hml hv
  obtain ⟨rfl, hPW⟩ := hv
  have hx := B.exec
  have hb := B.bytes
  have hr := B.returns
  have hts := atoms_spec (ws := wsL_turn) B.pre
  have htab := vx_table (x := yL_turn) B (hts (.codeWith yL_turn cL_turn 4 (some .int) [(0, 10, 13, 19)]) (by unfold wsL_turn; exact List.mem_cons_self))
  have hown : s.vm.findClass RL = some m.cls := findClass_of_methodNamed B.named
  have hlocks := B.notSynchronized
  have hin5 : ∀ w ∈ u_ws RX5 TX5 2, w ∈ wsL_turn := tu 1332 (by decide +kernel) rfl
  have hX := WX.ofW hPW
  have hO := hPW.2.2.1
  have hno := hPW.2.2.2.1
  have hl := lv_entry ([.ref (ad 57), .int x0, .ref o]) (n := 4) (Nat.le_of_ble_eq_true rfl)
  rw [lg_entry_eq]
  generalize (lg_sl ([.ref (ad 57), .int x0, .ref o]) ++ List.replicate (4 - (lg_sl ([.ref (ad 57), .int x0, .ref o])).length) Slot.unset).toArray = ls at hl ⊢
  have hl : lv_has ls 4 [(0, .ref (ad 57)), (1, .int x0), (2, .ref o)] := hl
  show W p l e ({ frames := 9, cells := 1, slots := 6, locals := 145 } : Room) s m ([.ref (ad 57), .int x0, .ref o]).toArray below meth c s.heap [] 0 0 (MQ below (va_Qi (fun r (u : XS × Int64) => LQ S u.1 ∧ R_turn x0 S r u.1 u.2) (PO2 dC dI ad o) (AO ad o)) ([.ref (ad 57), .int x0, .ref o]).toArray s 1 6 (AO ad o)) (F0 m 0 ls [])
  refine lv_aload_n hx hb dL_turn_0 rfl (lv_at hl 2 rfl) ?_
  refine lv_aload_n hx hb dL_turn_1 rfl (lv_at hl 0 rfl) ?_
  refine lv_iload_n hx hb dL_turn_2 rfl (lv_at hl 1 rfl) ?_
  rcases lim_lt 4 (by decide) x0 with ⟨j, hj, rfl⟩ | hb9
  rotate_left
  · skip
    refine kl_throw (vx_runV (As := [.int x0]) (rest := [.ref o]) ⟨hx, hb, hml, hown, hts⟩ (t_X4_turn_1 l hst dC dI ad S x0 hb9) (cwV 1 hts gL_turn_X4_turn rfl rfl rfl hdX4_turn_1 ⟨Nat.le_of_ble_eq_true rfl, Nat.le_of_ble_eq_true rfl⟩) hPW.1.preX rfl rfl hl.1 rfl (lv_room (Nat.le_of_ble_eq_true rfl)) dL_turn_3 ⟨Nat.le_of_ble_eq_true rfl, Nat.le_of_ble_eq_true rfl⟩) hX hO (fun ce q9 H hce1 hce2 hce3 hX hO => ?_)
    refine vx_catch hown [] ⟨0, 10, 13, 19⟩ [] (htab.trans rfl) (fun _ h => nomatch h) rfl (by decide) (hts (.classLink RL 19 IX) (tm 830 (by decide +kernel) rfl)) (va_Nw.use rfl hPW.1.2.1.2.1.1) hce1 hce2 hce3 ?_
    refine lv_astore_n (lv' := [(3, .ref q9), (0, .ref (ad 57)), (1, .int x0), (2, .ref o)]) hx hb dL_turn_13 rfl hl (by decide) rfl (fun ls hl => ?_)
    refine lv_iconst (v := nI 1) hx hb dL_turn_14 (by decide) ?_
    obtain ⟨n9, hN⟩ := hO
    exact W.widen (k := 1) (n := 6) (by simp) (by simp) (W.iret (v := nI 1) hx hb hr (fun t9 ht9 hW9 => ⟨⟨_, (S, n9), rfl, ⟨LQ_same hI h5, (Or.inl ⟨hb9, rfl, rfl⟩)⟩, hX.P ht9 hW9, by rw [ht9]; exact hN⟩, hX.2.2.2.F ht9⟩) hX.2.2.2.2.2 dL_turn_15)
  replace hj : j < 4 := by omega
  refine kl_ci (va_runV (As := [.int (nI j)]) (rest := [.ref o]) ⟨hx, hb, hml, hown, hts⟩ (m_X4_turn l dC dI ad S j hj hI) (cwV 1 hts gL_turn_X4_turn rfl rfl rfl hdX4_turn_1 ⟨Nat.le_of_ble_eq_true rfl, Nat.le_of_ble_eq_true rfl⟩) (hX.preTop 57 6 (by decide) (by decide) rfl rfl) rfl rfl hl.1 rfl (lv_room (Nat.le_of_ble_eq_true rfl)) dL_turn_3 ⟨Nat.le_of_ble_eq_true rfl, Nat.le_of_ble_eq_true rfl⟩) hX hO hno (fun r9 S1 H locs hw hX hO => ?_)
  have hLQ : LQ S S1 := by rw [hw.2]; exact LQ_newO hI h5 (h5 j hj) (hI.2 j (by omega)).1.2
  refine lv_i2l (v := r9.toInt64) hx hb dL_turn_6 rfl ?_
  refine kl_putn hx hb hts hin5 hown hX hO hno (host := "OrderlatticeLaw") (va_Nw.use rfl hPW.2.2.2.2.2.1) dL_turn_7 (fun H locs hX hN => ?_)
  refine lv_goto (tgt := 16) hx hb dL_turn_10 (by decide) ?_
  refine lv_iconst (v := nI 0) hx hb dL_turn_16 (by decide) ?_
  exact W.widen (k := 1) (n := 6) (by simp) (by simp) (W.iret (v := nI 0) hx hb hr (fun t9 ht9 hW9 => ⟨⟨_, (S1, r9.toInt64), rfl, ⟨hLQ, (Or.inr ⟨j, r9, hj, rfl, rfl, rfl, hw⟩)⟩, hX.P ht9 hW9, by rw [ht9]; exact hN⟩, hX.2.2.2.F ht9⟩) hX.2.2.2.2.2 dL_turn_17)
set_option maxHeartbeats 4000000 in
set_option maxRecDepth 100000 in
theorem m_L_product (l : Launch) (hst : l.stackTraces = false) (dC : Nat → ClassId) (dI : Nat → Nat → Nat) (cB : ClassId) (ad : Nat → Nat) (o : Nat) (S : XS) (x0 : Int32) (x1 : Int32) (x2 : Int32) (hI : InvX S) (h5 : ∀ j, j < 4 → (S.2.1 j).2.2.2.2.1 ≤ 5) (hc : S.2.2.1 + 12 < 1000000) : Met l yL_product wsL_product ({ frames := 9, cells := 1, slots := 6, locals := 149 } : Room) (va_Pc [.ref (ad 57), .int x0, .int x1, .int x2, .ref o] (PW dC dI cB ad o S)) (va_Qi (fun r (u : XS × Int64) => LQ S u.1 ∧ R_product x0 x1 x2 S r u.1 u.2) (PO2 dC dI ad o) (AO ad o)) 1 6 (AO ad o) := by
  refine va_MetW (cc := cL_product) (maxL := 6) (ret := (some .int)) pl_L rfl ?_
  intro p e s m args below meth c s₁ B hml hv
  obtain ⟨rfl, hPW⟩ := hv
  have hx := B.exec
  have hb := B.bytes
  have hr := B.returns
  have hts := atoms_spec (ws := wsL_product) B.pre
  have htab := vx_table (x := yL_product) B (hts (.codeWith yL_product cL_product 6 (some .int) [(0, 13, 16, 19)]) (by unfold wsL_product; exact List.mem_cons_self))
  have hown : s.vm.findClass RL = some m.cls := findClass_of_methodNamed B.named
  have hlocks := B.notSynchronized
  have hin5 : ∀ w ∈ u_ws RX5 TX5 2, w ∈ wsL_product := tu 1332 (by decide +kernel) rfl
  have hX := WX.ofW hPW
  have hO := hPW.2.2.1
  have hno := hPW.2.2.2.1
  have hl := lv_entry ([.ref (ad 57), .int x0, .int x1, .int x2, .ref o]) (n := 6) (Nat.le_of_ble_eq_true rfl)
  rw [lg_entry_eq]
  generalize (lg_sl ([.ref (ad 57), .int x0, .int x1, .int x2, .ref o]) ++ List.replicate (6 - (lg_sl ([.ref (ad 57), .int x0, .int x1, .int x2, .ref o])).length) Slot.unset).toArray = ls at hl ⊢
  have hl : lv_has ls 6 [(0, .ref (ad 57)), (1, .int x0), (2, .int x1), (3, .int x2), (4, .ref o)] := hl
  show W p l e ({ frames := 9, cells := 1, slots := 6, locals := 149 } : Room) s m ([.ref (ad 57), .int x0, .int x1, .int x2, .ref o]).toArray below meth c s.heap [] 0 0 (MQ below (va_Qi (fun r (u : XS × Int64) => LQ S u.1 ∧ R_product x0 x1 x2 S r u.1 u.2) (PO2 dC dI ad o) (AO ad o)) ([.ref (ad 57), .int x0, .int x1, .int x2, .ref o]).toArray s 1 6 (AO ad o)) (F0 m 0 ls [])
  refine lv_aload hx hb dL_product_0 (lv_at hl 4 rfl) ?_
  refine lv_aload_n hx hb dL_product_2 rfl (lv_at hl 0 rfl) ?_
  refine lv_iload_n hx hb dL_product_3 rfl (lv_at hl 1 rfl) ?_
  refine lv_iload_n hx hb dL_product_4 rfl (lv_at hl 2 rfl) ?_
  refine lv_iload_n hx hb dL_product_5 rfl (lv_at hl 3 rfl) ?_
  rcases lim_lt 4 (by decide) x0 with ⟨j, hj, rfl⟩ | hb9
  rotate_left
  · skip
    refine kl_throw (vx_runV (As := [.int x0, .int x1, .int x2]) (rest := [.ref o]) ⟨hx, hb, hml, hown, hts⟩ (t_X4_product_1 l hst dC dI ad S x0 x1 x2 hb9) (cwV 3 hts gL_product_X4_product rfl rfl rfl hdX4_product_3 ⟨Nat.le_of_ble_eq_true rfl, Nat.le_of_ble_eq_true rfl⟩) hPW.1.preX rfl rfl hl.1 rfl (lv_room (Nat.le_of_ble_eq_true rfl)) dL_product_6 ⟨Nat.le_of_ble_eq_true rfl, Nat.le_of_ble_eq_true rfl⟩) hX hO (fun ce q9 H hce1 hce2 hce3 hX hO => ?_)
    refine vx_catch hown [] ⟨0, 13, 16, 19⟩ [] (htab.trans rfl) (fun _ h => nomatch h) rfl (by decide) (hts (.classLink RL 19 IX) (tm 830 (by decide +kernel) rfl)) (va_Nw.use rfl hPW.1.2.1.2.1.1) hce1 hce2 hce3 ?_
    refine lv_astore (lv' := [(5, .ref q9), (0, .ref (ad 57)), (1, .int x0), (2, .int x1), (3, .int x2), (4, .ref o)]) hx hb dL_product_16 hl (by decide) rfl (fun ls hl => ?_)
    refine lv_iconst (v := nI 1) hx hb dL_product_18 (by decide) ?_
    obtain ⟨n9, hN⟩ := hO
    exact W.widen (k := 1) (n := 6) (by simp) (by simp) (W.iret (v := nI 1) hx hb hr (fun t9 ht9 hW9 => ⟨⟨_, (S, n9), rfl, ⟨LQ_same hI h5, (Or.inl ⟨hb9, rfl, rfl⟩)⟩, hX.P ht9 hW9, by rw [ht9]; exact hN⟩, hX.2.2.2.F ht9⟩) hX.2.2.2.2.2 dL_product_19)
  replace hj : j < 4 := by omega
  rcases lim_lt 4 (by decide) x1 with ⟨j2, hj2, rfl⟩ | hb9
  rotate_left
  · skip
    refine kl_throw (vx_runV (As := [.int (nI j), .int x1, .int x2]) (rest := [.ref o]) ⟨hx, hb, hml, hown, hts⟩ (t_X4_product_2 l hst dC dI ad S j x1 x2 hj hb9) (cwV 3 hts gL_product_X4_product rfl rfl rfl hdX4_product_3 ⟨Nat.le_of_ble_eq_true rfl, Nat.le_of_ble_eq_true rfl⟩) hPW.1.preX rfl rfl hl.1 rfl (lv_room (Nat.le_of_ble_eq_true rfl)) dL_product_6 ⟨Nat.le_of_ble_eq_true rfl, Nat.le_of_ble_eq_true rfl⟩) hX hO (fun ce q9 H hce1 hce2 hce3 hX hO => ?_)
    refine vx_catch hown [] ⟨0, 13, 16, 19⟩ [] (htab.trans rfl) (fun _ h => nomatch h) rfl (by decide) (hts (.classLink RL 19 IX) (tm 830 (by decide +kernel) rfl)) (va_Nw.use rfl hPW.1.2.1.2.1.1) hce1 hce2 hce3 ?_
    refine lv_astore (lv' := [(5, .ref q9), (0, .ref (ad 57)), (1, .int (nI j)), (2, .int x1), (3, .int x2), (4, .ref o)]) hx hb dL_product_16 hl (by decide) rfl (fun ls hl => ?_)
    refine lv_iconst (v := nI 1) hx hb dL_product_18 (by decide) ?_
    obtain ⟨n9, hN⟩ := hO
    exact W.widen (k := 1) (n := 6) (by simp) (by simp) (W.iret (v := nI 1) hx hb hr (fun t9 ht9 hW9 => ⟨⟨_, (S, n9), rfl, ⟨LQ_same hI h5, (Or.inr (Or.inl ⟨j, hj, rfl, hb9, rfl, rfl⟩))⟩, hX.P ht9 hW9, by rw [ht9]; exact hN⟩, hX.2.2.2.F ht9⟩) hX.2.2.2.2.2 dL_product_19)
  replace hj2 : j2 < 4 := by omega
  rcases lim_lt 4 (by decide) x2 with ⟨j3, hj3, rfl⟩ | hb9
  rotate_left
  · skip
    refine kl_throw (vx_runV (As := [.int (nI j), .int (nI j2), .int x2]) (rest := [.ref o]) ⟨hx, hb, hml, hown, hts⟩ (t_X4_product_3 l hst dC dI ad S j j2 x2 hj hj2 hb9) (cwV 3 hts gL_product_X4_product rfl rfl rfl hdX4_product_3 ⟨Nat.le_of_ble_eq_true rfl, Nat.le_of_ble_eq_true rfl⟩) hPW.1.preX rfl rfl hl.1 rfl (lv_room (Nat.le_of_ble_eq_true rfl)) dL_product_6 ⟨Nat.le_of_ble_eq_true rfl, Nat.le_of_ble_eq_true rfl⟩) hX hO (fun ce q9 H hce1 hce2 hce3 hX hO => ?_)
    refine vx_catch hown [] ⟨0, 13, 16, 19⟩ [] (htab.trans rfl) (fun _ h => nomatch h) rfl (by decide) (hts (.classLink RL 19 IX) (tm 830 (by decide +kernel) rfl)) (va_Nw.use rfl hPW.1.2.1.2.1.1) hce1 hce2 hce3 ?_
    refine lv_astore (lv' := [(5, .ref q9), (0, .ref (ad 57)), (1, .int (nI j)), (2, .int (nI j2)), (3, .int x2), (4, .ref o)]) hx hb dL_product_16 hl (by decide) rfl (fun ls hl => ?_)
    refine lv_iconst (v := nI 1) hx hb dL_product_18 (by decide) ?_
    obtain ⟨n9, hN⟩ := hO
    exact W.widen (k := 1) (n := 6) (by simp) (by simp) (W.iret (v := nI 1) hx hb hr (fun t9 ht9 hW9 => ⟨⟨_, (S, n9), rfl, ⟨LQ_same hI h5, (Or.inr (Or.inr (Or.inl ⟨j, j2, hj, hj2, rfl, rfl, hb9, rfl, rfl⟩)))⟩, hX.P ht9 hW9, by rw [ht9]; exact hN⟩, hX.2.2.2.F ht9⟩) hX.2.2.2.2.2 dL_product_19)
  replace hj3 : j3 < 4 := by omega
  refine kl_ci (va_runV (As := [.int (nI j), .int (nI j2), .int (nI j3)]) (rest := [.ref o]) ⟨hx, hb, hml, hown, hts⟩ (m_X4_product l dC dI ad S j j2 j3 hj hj2 hj3 hI) (cwV 3 hts gL_product_X4_product rfl rfl rfl hdX4_product_3 ⟨Nat.le_of_ble_eq_true rfl, Nat.le_of_ble_eq_true rfl⟩) (hX.preTop 57 6 (by decide) (by decide) rfl rfl) rfl rfl hl.1 rfl (lv_room (Nat.le_of_ble_eq_true rfl)) dL_product_6 ⟨Nat.le_of_ble_eq_true rfl, Nat.le_of_ble_eq_true rfl⟩) hX hO hno (fun r9 S1 H locs hw hX hO => ?_)
  have hLQ : LQ S S1 := LQ_product hI h5 hj hj2 hj3 hw
  refine lv_i2l (v := r9.toInt64) hx hb dL_product_9 rfl ?_
  refine kl_putn hx hb hts hin5 hown hX hO hno (host := "OrderlatticeLaw") (va_Nw.use rfl hPW.2.2.2.2.2.1) dL_product_10 (fun H locs hX hN => ?_)
  refine lv_goto (tgt := 20) hx hb dL_product_13 (by decide) ?_
  refine lv_iconst (v := nI 0) hx hb dL_product_20 (by decide) ?_
  exact W.widen (k := 1) (n := 6) (by simp) (by simp) (W.iret (v := nI 0) hx hb hr (fun t9 ht9 hW9 => ⟨⟨_, (S1, r9.toInt64), rfl, ⟨hLQ, (Or.inr (Or.inr (Or.inr ⟨j, j2, j3, r9, hj, hj2, hj3, rfl, rfl, rfl, rfl, rfl, hw⟩)))⟩, hX.P ht9 hW9, by rw [ht9]; exact hN⟩, hX.2.2.2.F ht9⟩) hX.2.2.2.2.2 dL_product_21)
set_option maxHeartbeats 4000000 in
set_option maxRecDepth 100000 in
theorem m_L_tellApart (l : Launch) (hst : l.stackTraces = false) (dC : Nat → ClassId) (dI : Nat → Nat → Nat) (cB : ClassId) (ad : Nat → Nat) (o : Nat) (S : XS) (x0 : Int32) (x1 : Int32) (x2 : Int32) (hI : InvX S) (h5 : ∀ j, j < 4 → (S.2.1 j).2.2.2.2.1 ≤ 5) (hc : S.2.2.1 + 12 < 1000000) : Met l yL_tellApart wsL_tellApart ({ frames := 9, cells := 1, slots := 6, locals := 148 } : Room) (va_Pc [.ref (ad 57), .int x0, .int x1, .int x2, .ref o] (PW dC dI cB ad o S)) (va_Qi (fun r (u : XS × Int64) => LQ S u.1 ∧ R_tellApart x0 x1 x2 S r u.1 u.2) (PO2 dC dI ad o) (AO ad o)) 1 6 (AO ad o) := by
  refine va_MetW (cc := cL_tellApart) (maxL := 6) (ret := (some .int)) pl_L rfl ?_
  intro p e s m args below meth c s₁ B hml hv
  obtain ⟨rfl, hPW⟩ := hv
  have hx := B.exec
  have hb := B.bytes
  have hr := B.returns
  have hts := atoms_spec (ws := wsL_tellApart) B.pre
  have htab := vx_table (x := yL_tellApart) B (hts (.codeWith yL_tellApart cL_tellApart 6 (some .int) [(0, 13, 16, 19), (0, 13, 20, 21)]) (by unfold wsL_tellApart; exact List.mem_cons_self))
  have hown : s.vm.findClass RL = some m.cls := findClass_of_methodNamed B.named
  have hlocks := B.notSynchronized
  have hin5 : ∀ w ∈ u_ws RX5 TX5 2, w ∈ wsL_tellApart := tu 1332 (by decide +kernel) rfl
  have hX := WX.ofW hPW
  have hO := hPW.2.2.1
  have hno := hPW.2.2.2.1
  have hl := lv_entry ([.ref (ad 57), .int x0, .int x1, .int x2, .ref o]) (n := 6) (Nat.le_of_ble_eq_true rfl)
  rw [lg_entry_eq]
  generalize (lg_sl ([.ref (ad 57), .int x0, .int x1, .int x2, .ref o]) ++ List.replicate (6 - (lg_sl ([.ref (ad 57), .int x0, .int x1, .int x2, .ref o])).length) Slot.unset).toArray = ls at hl ⊢
  have hl : lv_has ls 6 [(0, .ref (ad 57)), (1, .int x0), (2, .int x1), (3, .int x2), (4, .ref o)] := hl
  show W p l e ({ frames := 9, cells := 1, slots := 6, locals := 148 } : Room) s m ([.ref (ad 57), .int x0, .int x1, .int x2, .ref o]).toArray below meth c s.heap [] 0 0 (MQ below (va_Qi (fun r (u : XS × Int64) => LQ S u.1 ∧ R_tellApart x0 x1 x2 S r u.1 u.2) (PO2 dC dI ad o) (AO ad o)) ([.ref (ad 57), .int x0, .int x1, .int x2, .ref o]).toArray s 1 6 (AO ad o)) (F0 m 0 ls [])
  refine lv_aload hx hb dL_tellApart_0 (lv_at hl 4 rfl) ?_
  refine lv_aload_n hx hb dL_tellApart_2 rfl (lv_at hl 0 rfl) ?_
  refine lv_iload_n hx hb dL_tellApart_3 rfl (lv_at hl 1 rfl) ?_
  refine lv_iload_n hx hb dL_tellApart_4 rfl (lv_at hl 2 rfl) ?_
  refine lv_iload_n hx hb dL_tellApart_5 rfl (lv_at hl 3 rfl) ?_
  rcases lim_lt 4 (by decide) x0 with ⟨j, hj, rfl⟩ | hb9
  rotate_left
  · skip
    refine kl_throw (vx_runV (As := [.int x0, .int x1, .int x2]) (rest := [.ref o]) ⟨hx, hb, hml, hown, hts⟩ (t_X4_tellApart_1 l hst dC dI ad S x0 x1 x2 hb9) (cwV 3 hts gL_tellApart_X4_tellApart rfl rfl rfl hdX4_tellApart_3 ⟨Nat.le_of_ble_eq_true rfl, Nat.le_of_ble_eq_true rfl⟩) hPW.1.preX rfl rfl hl.1 rfl (lv_room (Nat.le_of_ble_eq_true rfl)) dL_tellApart_6 ⟨Nat.le_of_ble_eq_true rfl, Nat.le_of_ble_eq_true rfl⟩) hX hO (fun ce q9 H hce1 hce2 hce3 hX hO => ?_)
    refine vx_catch hown [] ⟨0, 13, 16, 19⟩ [⟨0, 13, 20, 21⟩] (htab.trans rfl) (fun _ h => nomatch h) rfl (by decide) (hts (.classLink RL 19 IX) (tm 830 (by decide +kernel) rfl)) (va_Nw.use rfl hPW.1.2.1.2.1.1) hce1 hce2 hce3 ?_
    refine lv_astore (lv' := [(5, .ref q9), (0, .ref (ad 57)), (1, .int x0), (2, .int x1), (3, .int x2), (4, .ref o)]) hx hb dL_tellApart_16 hl (by decide) rfl (fun ls hl => ?_)
    refine lv_iconst (v := nI 1) hx hb dL_tellApart_18 (by decide) ?_
    obtain ⟨n9, hN⟩ := hO
    exact W.widen (k := 1) (n := 6) (by simp) (by simp) (W.iret (v := nI 1) hx hb hr (fun t9 ht9 hW9 => ⟨⟨_, (S, n9), rfl, ⟨LQ_same hI h5, (Or.inl ⟨hb9, rfl, rfl⟩)⟩, hX.P ht9 hW9, by rw [ht9]; exact hN⟩, hX.2.2.2.F ht9⟩) hX.2.2.2.2.2 dL_tellApart_19)
  replace hj : j < 4 := by omega
  rcases lim_le 15 (by decide) x1 with ⟨v, hv, rfl⟩ | hb9
  rotate_left
  · skip
    refine kl_throw (vx_runV (As := [.int (nI j), .int x1, .int x2]) (rest := [.ref o]) ⟨hx, hb, hml, hown, hts⟩ (t_X4_tellApart_2 l hst dC dI ad S j x1 x2 hj hb9) (cwV 3 hts gL_tellApart_X4_tellApart rfl rfl rfl hdX4_tellApart_3 ⟨Nat.le_of_ble_eq_true rfl, Nat.le_of_ble_eq_true rfl⟩) hPW.1.preX rfl rfl hl.1 rfl (lv_room (Nat.le_of_ble_eq_true rfl)) dL_tellApart_6 ⟨Nat.le_of_ble_eq_true rfl, Nat.le_of_ble_eq_true rfl⟩) hX hO (fun ce q9 H hce1 hce2 hce3 hX hO => ?_)
    refine vx_catch hown [⟨0, 13, 16, 19⟩] ⟨0, 13, 20, 21⟩ [] (htab.trans rfl) (fun z hz => by rw [List.mem_singleton.mp hz]; exact Or.inr ⟨by decide, IX, hts (.classLink RL 19 IX) (by decide +kernel), hPW.2.2.2.2.1⟩) rfl (by decide) (hts (.classLink RL 21 IA) (tm 831 (by decide +kernel) rfl)) (va_Nw.use rfl hPW.1.2.1.2.1.2) hce1 hce2 hce3 ?_
    refine lv_astore (lv' := [(5, .ref q9), (0, .ref (ad 57)), (1, .int (nI j)), (2, .int x1), (3, .int x2), (4, .ref o)]) hx hb dL_tellApart_20 hl (by decide) rfl (fun ls hl => ?_)
    refine lv_iconst (v := nI 2) hx hb dL_tellApart_22 (by decide) ?_
    obtain ⟨n9, hN⟩ := hO
    exact W.widen (k := 1) (n := 6) (by simp) (by simp) (W.iret (v := nI 2) hx hb hr (fun t9 ht9 hW9 => ⟨⟨_, (S, n9), rfl, ⟨LQ_same hI h5, (Or.inr (Or.inl ⟨j, hj, rfl, hb9, rfl, rfl⟩))⟩, hX.P ht9 hW9, by rw [ht9]; exact hN⟩, hX.2.2.2.F ht9⟩) hX.2.2.2.2.2 dL_tellApart_23)
  replace hv : v < 16 := by omega
  rcases lim_le 15 (by decide) x2 with ⟨v2, hv2, rfl⟩ | hb9
  rotate_left
  · skip
    refine kl_throw (vx_runV (As := [.int (nI j), .int (nI v), .int x2]) (rest := [.ref o]) ⟨hx, hb, hml, hown, hts⟩ (t_X4_tellApart_3 l hst dC dI ad S j v x2 hj hv hb9) (cwV 3 hts gL_tellApart_X4_tellApart rfl rfl rfl hdX4_tellApart_3 ⟨Nat.le_of_ble_eq_true rfl, Nat.le_of_ble_eq_true rfl⟩) hPW.1.preX rfl rfl hl.1 rfl (lv_room (Nat.le_of_ble_eq_true rfl)) dL_tellApart_6 ⟨Nat.le_of_ble_eq_true rfl, Nat.le_of_ble_eq_true rfl⟩) hX hO (fun ce q9 H hce1 hce2 hce3 hX hO => ?_)
    refine vx_catch hown [⟨0, 13, 16, 19⟩] ⟨0, 13, 20, 21⟩ [] (htab.trans rfl) (fun z hz => by rw [List.mem_singleton.mp hz]; exact Or.inr ⟨by decide, IX, hts (.classLink RL 19 IX) (by decide +kernel), hPW.2.2.2.2.1⟩) rfl (by decide) (hts (.classLink RL 21 IA) (tm 831 (by decide +kernel) rfl)) (va_Nw.use rfl hPW.1.2.1.2.1.2) hce1 hce2 hce3 ?_
    refine lv_astore (lv' := [(5, .ref q9), (0, .ref (ad 57)), (1, .int (nI j)), (2, .int (nI v)), (3, .int x2), (4, .ref o)]) hx hb dL_tellApart_20 hl (by decide) rfl (fun ls hl => ?_)
    refine lv_iconst (v := nI 2) hx hb dL_tellApart_22 (by decide) ?_
    obtain ⟨n9, hN⟩ := hO
    exact W.widen (k := 1) (n := 6) (by simp) (by simp) (W.iret (v := nI 2) hx hb hr (fun t9 ht9 hW9 => ⟨⟨_, (S, n9), rfl, ⟨LQ_same hI h5, (Or.inr (Or.inr (Or.inl ⟨j, v, hj, hv, rfl, rfl, hb9, rfl, rfl⟩)))⟩, hX.P ht9 hW9, by rw [ht9]; exact hN⟩, hX.2.2.2.F ht9⟩) hX.2.2.2.2.2 dL_tellApart_23)
  replace hv2 : v2 < 16 := by omega
  refine kl_ci (va_runV (As := [.int (nI j), .int (nI v), .int (nI v2)]) (rest := [.ref o]) ⟨hx, hb, hml, hown, hts⟩ (m_X4_tellApart l dC dI ad S j v v2 hj hv hv2 hI) (cwV 3 hts gL_tellApart_X4_tellApart rfl rfl rfl hdX4_tellApart_3 ⟨Nat.le_of_ble_eq_true rfl, Nat.le_of_ble_eq_true rfl⟩) (hX.preTop 57 6 (by decide) (by decide) rfl rfl) rfl rfl hl.1 rfl (lv_room (Nat.le_of_ble_eq_true rfl)) dL_tellApart_6 ⟨Nat.le_of_ble_eq_true rfl, Nat.le_of_ble_eq_true rfl⟩) hX hO hno (fun r9 S1 H locs hw hX hO => ?_)
  have hLQ : LQ S S1 := LQ_tell hI h5 hj hw
  refine lv_i2l (v := r9.toInt64) hx hb dL_tellApart_9 rfl ?_
  refine kl_putn hx hb hts hin5 hown hX hO hno (host := "OrderlatticeLaw") (va_Nw.use rfl hPW.2.2.2.2.2.1) dL_tellApart_10 (fun H locs hX hN => ?_)
  refine lv_goto (tgt := 24) hx hb dL_tellApart_13 (by decide) ?_
  refine lv_iconst (v := nI 0) hx hb dL_tellApart_24 (by decide) ?_
  exact W.widen (k := 1) (n := 6) (by simp) (by simp) (W.iret (v := nI 0) hx hb hr (fun t9 ht9 hW9 => ⟨⟨_, (S1, r9.toInt64), rfl, ⟨hLQ, (Or.inr (Or.inr (Or.inr ⟨j, v, v2, r9, hj, hv, hv2, rfl, rfl, rfl, rfl, rfl, hw⟩)))⟩, hX.P ht9 hW9, by rw [ht9]; exact hN⟩, hX.2.2.2.F ht9⟩) hX.2.2.2.2.2 dL_tellApart_25)
set_option maxHeartbeats 4000000 in
set_option maxRecDepth 100000 in
theorem m_L_orderText (l : Launch) (hst : l.stackTraces = false) (dC : Nat → ClassId) (dI : Nat → Nat → Nat) (cB : ClassId) (ad : Nat → Nat) (o : Nat) (S : XS) (x0 : Int32) (hI : InvX S) (h5 : ∀ j, j < 4 → (S.2.1 j).2.2.2.2.1 ≤ 5) (hc : S.2.2.1 + 12 < 1000000) : Met l yL_orderText wsL_orderText ({ frames := 9, cells := 80, slots := 900, locals := 194 } : Room) (va_Pc [.ref (ad 57), .int x0, .ref o] (PW dC dI cB ad o S)) (va_Qi (fun r (u : XS × Int64) => LQ S u.1 ∧ R_orderText x0 S r u.1 u.2) (PO2 dC dI ad o) (AO ad o)) 80 900 (AO ad o) := by
  refine va_MetW (cc := cL_orderText) (maxL := 4) (ret := (some .int)) pl_L rfl ?_
  intro p e s m args below meth c s₁ B hml hv
  obtain ⟨rfl, hPW⟩ := hv
  have hx := B.exec
  have hb := B.bytes
  have hr := B.returns
  have hts := atoms_spec (ws := wsL_orderText) B.pre
  have htab := vx_table (x := yL_orderText) B (hts (.codeWith yL_orderText cL_orderText 4 (some .int) [(0, 9, 12, 19)]) (by unfold wsL_orderText; exact List.mem_cons_self))
  have hown : s.vm.findClass RL = some m.cls := findClass_of_methodNamed B.named
  have hlocks := B.notSynchronized
  have hin5 : ∀ w ∈ u_ws RX5 TX5 2, w ∈ wsL_orderText := tu 1332 (by decide +kernel) rfl
  have hX := WX.ofW hPW
  have hO := hPW.2.2.1
  have hno := hPW.2.2.2.1
  have hl := lv_entry ([.ref (ad 57), .int x0, .ref o]) (n := 4) (Nat.le_of_ble_eq_true rfl)
  rw [lg_entry_eq]
  generalize (lg_sl ([.ref (ad 57), .int x0, .ref o]) ++ List.replicate (4 - (lg_sl ([.ref (ad 57), .int x0, .ref o])).length) Slot.unset).toArray = ls at hl ⊢
  have hl : lv_has ls 4 [(0, .ref (ad 57)), (1, .int x0), (2, .ref o)] := hl
  show W p l e ({ frames := 9, cells := 80, slots := 900, locals := 194 } : Room) s m ([.ref (ad 57), .int x0, .ref o]).toArray below meth c s.heap [] 0 0 (MQ below (va_Qi (fun r (u : XS × Int64) => LQ S u.1 ∧ R_orderText x0 S r u.1 u.2) (PO2 dC dI ad o) (AO ad o)) ([.ref (ad 57), .int x0, .ref o]).toArray s 80 900 (AO ad o)) (F0 m 0 ls [])
  refine lv_aload_n hx hb dL_orderText_0 rfl (lv_at hl 2 rfl) ?_
  refine lv_aload_n hx hb dL_orderText_1 rfl (lv_at hl 0 rfl) ?_
  refine lv_iload_n hx hb dL_orderText_2 rfl (lv_at hl 1 rfl) ?_
  rcases lim_lt 4 (by decide) x0 with ⟨j, hj, rfl⟩ | hb9
  rotate_left
  · skip
    refine kl_throw (vx_runV (As := [.int x0]) (rest := [.ref o]) ⟨hx, hb, hml, hown, hts⟩ (t_X4_orderText_1 l hst dC dI ad S x0 hb9) (cwV 1 hts gL_orderText_X4_orderText rfl rfl rfl hdX4_orderText_1 ⟨Nat.le_of_ble_eq_true rfl, Nat.le_of_ble_eq_true rfl⟩) hPW.1.preX rfl rfl hl.1 rfl (lv_room (Nat.le_of_ble_eq_true rfl)) dL_orderText_3 ⟨Nat.le_of_ble_eq_true rfl, Nat.le_of_ble_eq_true rfl⟩) hX hO (fun ce q9 H hce1 hce2 hce3 hX hO => ?_)
    refine vx_catch hown [] ⟨0, 9, 12, 19⟩ [] (htab.trans rfl) (fun _ h => nomatch h) rfl (by decide) (hts (.classLink RL 19 IX) (tm 830 (by decide +kernel) rfl)) (va_Nw.use rfl hPW.1.2.1.2.1.1) hce1 hce2 hce3 ?_
    refine lv_astore_n (lv' := [(3, .ref q9), (0, .ref (ad 57)), (1, .int x0), (2, .ref o)]) hx hb dL_orderText_12 rfl hl (by decide) rfl (fun ls hl => ?_)
    refine lv_iconst (v := nI 1) hx hb dL_orderText_13 (by decide) ?_
    obtain ⟨n9, hN⟩ := hO
    exact W.widen (k := 80) (n := 900) (by simp) (by simp) (W.iret (v := nI 1) hx hb hr (fun t9 ht9 hW9 => ⟨⟨_, (S, n9), rfl, ⟨LQ_same hI h5, (Or.inl ⟨hb9, rfl, rfl⟩)⟩, hX.P ht9 hW9, by rw [ht9]; exact hN⟩, hX.2.2.2.F ht9⟩) hX.2.2.2.2.2 dL_orderText_14)
  replace hj : j < 4 := by omega
  refine kl_rr (va_runV (As := [.int (nI j)]) (rest := [.ref o]) ⟨hx, hb, hml, hown, hts⟩ (m_X4_orderText l dC dI cB ad S j hj hI) (cwV 1 hts gL_orderText_X4_orderText rfl rfl rfl hdX4_orderText_1 ⟨Nat.le_of_ble_eq_true rfl, Nat.le_of_ble_eq_true rfl⟩) hPW.preT rfl rfl hl.1 rfl (lv_room (Nat.le_of_ble_eq_true rfl)) dL_orderText_3 ⟨Nat.le_of_ble_eq_true rfl, Nat.le_of_ble_eq_true rfl⟩) hX hO hno (fun S1 q9 H locs hw hX hO => ?_)
  have hLQ : LQ S S1 := by rw [hw]; exact LQ_same hI h5
  refine kl_put hx hb hts hin5 hown hX hO hno 1 (by decide) (host := "OrderlatticeLaw") (va_Nw.use rfl hPW.2.2.2.2.2.2) (ty := (.object "java/lang/String")) rfl rfl rfl (Or.inr ⟨rfl, _, rfl⟩) dL_orderText_6 (fun H locs hX hO => ?_)
  refine lv_goto (tgt := 15) hx hb dL_orderText_9 (by decide) ?_
  refine lv_iconst (v := nI 0) hx hb dL_orderText_15 (by decide) ?_
  obtain ⟨n9, hN⟩ := hO
  exact W.widen (k := 80) (n := 900) (by simp) (by simp) (W.iret (v := nI 0) hx hb hr (fun t9 ht9 hW9 => ⟨⟨_, (S1, n9), rfl, ⟨hLQ, (Or.inr ⟨j, hj, rfl, rfl, hw⟩)⟩, hX.P ht9 hW9, by rw [ht9]; exact hN⟩, hX.2.2.2.F ht9⟩) hX.2.2.2.2.2 dL_orderText_16)
set_option maxHeartbeats 4000000 in
set_option maxRecDepth 100000 in
theorem m_L_compare (l : Launch) (hst : l.stackTraces = false) (dC : Nat → ClassId) (dI : Nat → Nat → Nat) (cB : ClassId) (ad : Nat → Nat) (o : Nat) (S : XS) (x0 : Int32) (x1 : Int32) (x2 : Int32) (hI : InvX S) (h5 : ∀ j, j < 4 → (S.2.1 j).2.2.2.2.1 ≤ 5) (hc : S.2.2.1 + 12 < 1000000) : Met l yL_compare wsL_compare ({ frames := 9, cells := 1, slots := 6, locals := 147 } : Room) (va_Pc [.ref (ad 57), .int x0, .int x1, .int x2, .ref o] (PW dC dI cB ad o S)) (va_Qi (fun r (u : XS × Int64) => LQ S u.1 ∧ R_compare x0 x1 x2 S r u.1 u.2) (PO2 dC dI ad o) (AO ad o)) 1 6 (AO ad o) := by
  refine va_MetW (cc := cL_compare) (maxL := 6) (ret := (some .int)) pl_L rfl ?_
  intro p e s m args below meth c s₁ B hml hv
  obtain ⟨rfl, hPW⟩ := hv
  have hx := B.exec
  have hb := B.bytes
  have hr := B.returns
  have hts := atoms_spec (ws := wsL_compare) B.pre
  have htab := vx_table (x := yL_compare) B (hts (.codeWith yL_compare cL_compare 6 (some .int) [(0, 13, 16, 19), (0, 13, 20, 21)]) (by unfold wsL_compare; exact List.mem_cons_self))
  have hown : s.vm.findClass RL = some m.cls := findClass_of_methodNamed B.named
  have hlocks := B.notSynchronized
  have hin5 : ∀ w ∈ u_ws RX5 TX5 2, w ∈ wsL_compare := tu 1332 (by decide +kernel) rfl
  have hX := WX.ofW hPW
  have hO := hPW.2.2.1
  have hno := hPW.2.2.2.1
  have hl := lv_entry ([.ref (ad 57), .int x0, .int x1, .int x2, .ref o]) (n := 6) (Nat.le_of_ble_eq_true rfl)
  rw [lg_entry_eq]
  generalize (lg_sl ([.ref (ad 57), .int x0, .int x1, .int x2, .ref o]) ++ List.replicate (6 - (lg_sl ([.ref (ad 57), .int x0, .int x1, .int x2, .ref o])).length) Slot.unset).toArray = ls at hl ⊢
  have hl : lv_has ls 6 [(0, .ref (ad 57)), (1, .int x0), (2, .int x1), (3, .int x2), (4, .ref o)] := hl
  show W p l e ({ frames := 9, cells := 1, slots := 6, locals := 147 } : Room) s m ([.ref (ad 57), .int x0, .int x1, .int x2, .ref o]).toArray below meth c s.heap [] 0 0 (MQ below (va_Qi (fun r (u : XS × Int64) => LQ S u.1 ∧ R_compare x0 x1 x2 S r u.1 u.2) (PO2 dC dI ad o) (AO ad o)) ([.ref (ad 57), .int x0, .int x1, .int x2, .ref o]).toArray s 1 6 (AO ad o)) (F0 m 0 ls [])
  refine lv_aload hx hb dL_compare_0 (lv_at hl 4 rfl) ?_
  refine lv_aload_n hx hb dL_compare_2 rfl (lv_at hl 0 rfl) ?_
  refine lv_iload_n hx hb dL_compare_3 rfl (lv_at hl 1 rfl) ?_
  refine lv_iload_n hx hb dL_compare_4 rfl (lv_at hl 2 rfl) ?_
  refine lv_iload_n hx hb dL_compare_5 rfl (lv_at hl 3 rfl) ?_
  rcases lim_lt 4 (by decide) x0 with ⟨j, hj, rfl⟩ | hb9
  rotate_left
  · skip
    refine kl_throw (vx_runV (As := [.int x0, .int x1, .int x2]) (rest := [.ref o]) ⟨hx, hb, hml, hown, hts⟩ (t_X4_compare_1 l hst dC dI ad S x0 x1 x2 hb9) (cwV 3 hts gL_compare_X4_compare rfl rfl rfl hdX4_compare_3 ⟨Nat.le_of_ble_eq_true rfl, Nat.le_of_ble_eq_true rfl⟩) hPW.1.preX rfl rfl hl.1 rfl (lv_room (Nat.le_of_ble_eq_true rfl)) dL_compare_6 ⟨Nat.le_of_ble_eq_true rfl, Nat.le_of_ble_eq_true rfl⟩) hX hO (fun ce q9 H hce1 hce2 hce3 hX hO => ?_)
    refine vx_catch hown [] ⟨0, 13, 16, 19⟩ [⟨0, 13, 20, 21⟩] (htab.trans rfl) (fun _ h => nomatch h) rfl (by decide) (hts (.classLink RL 19 IX) (tm 830 (by decide +kernel) rfl)) (va_Nw.use rfl hPW.1.2.1.2.1.1) hce1 hce2 hce3 ?_
    refine lv_astore (lv' := [(5, .ref q9), (0, .ref (ad 57)), (1, .int x0), (2, .int x1), (3, .int x2), (4, .ref o)]) hx hb dL_compare_16 hl (by decide) rfl (fun ls hl => ?_)
    refine lv_iconst (v := nI 1) hx hb dL_compare_18 (by decide) ?_
    obtain ⟨n9, hN⟩ := hO
    exact W.widen (k := 1) (n := 6) (by simp) (by simp) (W.iret (v := nI 1) hx hb hr (fun t9 ht9 hW9 => ⟨⟨_, (S, n9), rfl, ⟨LQ_same hI h5, (Or.inl ⟨hb9, rfl, rfl⟩)⟩, hX.P ht9 hW9, by rw [ht9]; exact hN⟩, hX.2.2.2.F ht9⟩) hX.2.2.2.2.2 dL_compare_19)
  replace hj : j < 4 := by omega
  rcases lim_le 15 (by decide) x1 with ⟨v, hv, rfl⟩ | hb9
  rotate_left
  · skip
    refine kl_throw (vx_runV (As := [.int (nI j), .int x1, .int x2]) (rest := [.ref o]) ⟨hx, hb, hml, hown, hts⟩ (t_X4_compare_2 l hst dC dI ad S j x1 x2 hj hb9) (cwV 3 hts gL_compare_X4_compare rfl rfl rfl hdX4_compare_3 ⟨Nat.le_of_ble_eq_true rfl, Nat.le_of_ble_eq_true rfl⟩) hPW.1.preX rfl rfl hl.1 rfl (lv_room (Nat.le_of_ble_eq_true rfl)) dL_compare_6 ⟨Nat.le_of_ble_eq_true rfl, Nat.le_of_ble_eq_true rfl⟩) hX hO (fun ce q9 H hce1 hce2 hce3 hX hO => ?_)
    refine vx_catch hown [⟨0, 13, 16, 19⟩] ⟨0, 13, 20, 21⟩ [] (htab.trans rfl) (fun z hz => by rw [List.mem_singleton.mp hz]; exact Or.inr ⟨by decide, IX, hts (.classLink RL 19 IX) (by decide +kernel), hPW.2.2.2.2.1⟩) rfl (by decide) (hts (.classLink RL 21 IA) (tm 831 (by decide +kernel) rfl)) (va_Nw.use rfl hPW.1.2.1.2.1.2) hce1 hce2 hce3 ?_
    refine lv_astore (lv' := [(5, .ref q9), (0, .ref (ad 57)), (1, .int (nI j)), (2, .int x1), (3, .int x2), (4, .ref o)]) hx hb dL_compare_20 hl (by decide) rfl (fun ls hl => ?_)
    refine lv_iconst (v := nI 2) hx hb dL_compare_22 (by decide) ?_
    obtain ⟨n9, hN⟩ := hO
    exact W.widen (k := 1) (n := 6) (by simp) (by simp) (W.iret (v := nI 2) hx hb hr (fun t9 ht9 hW9 => ⟨⟨_, (S, n9), rfl, ⟨LQ_same hI h5, (Or.inr (Or.inl ⟨j, hj, rfl, hb9, rfl, rfl⟩))⟩, hX.P ht9 hW9, by rw [ht9]; exact hN⟩, hX.2.2.2.F ht9⟩) hX.2.2.2.2.2 dL_compare_23)
  replace hv : v < 16 := by omega
  rcases lim_le 15 (by decide) x2 with ⟨v2, hv2, rfl⟩ | hb9
  rotate_left
  · skip
    refine kl_throw (vx_runV (As := [.int (nI j), .int (nI v), .int x2]) (rest := [.ref o]) ⟨hx, hb, hml, hown, hts⟩ (t_X4_compare_3 l hst dC dI ad S j v x2 hj hv hb9) (cwV 3 hts gL_compare_X4_compare rfl rfl rfl hdX4_compare_3 ⟨Nat.le_of_ble_eq_true rfl, Nat.le_of_ble_eq_true rfl⟩) hPW.1.preX rfl rfl hl.1 rfl (lv_room (Nat.le_of_ble_eq_true rfl)) dL_compare_6 ⟨Nat.le_of_ble_eq_true rfl, Nat.le_of_ble_eq_true rfl⟩) hX hO (fun ce q9 H hce1 hce2 hce3 hX hO => ?_)
    refine vx_catch hown [⟨0, 13, 16, 19⟩] ⟨0, 13, 20, 21⟩ [] (htab.trans rfl) (fun z hz => by rw [List.mem_singleton.mp hz]; exact Or.inr ⟨by decide, IX, hts (.classLink RL 19 IX) (by decide +kernel), hPW.2.2.2.2.1⟩) rfl (by decide) (hts (.classLink RL 21 IA) (tm 831 (by decide +kernel) rfl)) (va_Nw.use rfl hPW.1.2.1.2.1.2) hce1 hce2 hce3 ?_
    refine lv_astore (lv' := [(5, .ref q9), (0, .ref (ad 57)), (1, .int (nI j)), (2, .int (nI v)), (3, .int x2), (4, .ref o)]) hx hb dL_compare_20 hl (by decide) rfl (fun ls hl => ?_)
    refine lv_iconst (v := nI 2) hx hb dL_compare_22 (by decide) ?_
    obtain ⟨n9, hN⟩ := hO
    exact W.widen (k := 1) (n := 6) (by simp) (by simp) (W.iret (v := nI 2) hx hb hr (fun t9 ht9 hW9 => ⟨⟨_, (S, n9), rfl, ⟨LQ_same hI h5, (Or.inr (Or.inr (Or.inl ⟨j, v, hj, hv, rfl, rfl, hb9, rfl, rfl⟩)))⟩, hX.P ht9 hW9, by rw [ht9]; exact hN⟩, hX.2.2.2.F ht9⟩) hX.2.2.2.2.2 dL_compare_23)
  replace hv2 : v2 < 16 := by omega
  refine kl_cr (va_runV (As := [.int (nI j), .int (nI v), .int (nI v2)]) (rest := [.ref o]) ⟨hx, hb, hml, hown, hts⟩ (m_X4_compare l dC dI ad S j v v2 hj hv hv2 hI) (cwV 3 hts gL_compare_X4_compare rfl rfl rfl hdX4_compare_3 ⟨Nat.le_of_ble_eq_true rfl, Nat.le_of_ble_eq_true rfl⟩) (hX.preTop 57 6 (by decide) (by decide) rfl rfl) rfl rfl hl.1 rfl (lv_room (Nat.le_of_ble_eq_true rfl)) dL_compare_6 ⟨Nat.le_of_ble_eq_true rfl, Nat.le_of_ble_eq_true rfl⟩) (fun r9 hw => ?_)
  refine lv_i2l (v := r9.toInt64) hx hb dL_compare_9 rfl ?_
  refine kl_putn hx hb hts hin5 hown hX hO hno (host := "OrderlatticeLaw") (va_Nw.use rfl hPW.2.2.2.2.2.1) dL_compare_10 (fun H locs hX hN => ?_)
  refine lv_goto (tgt := 24) hx hb dL_compare_13 (by decide) ?_
  refine lv_iconst (v := nI 0) hx hb dL_compare_24 (by decide) ?_
  exact W.widen (k := 1) (n := 6) (by simp) (by simp) (W.iret (v := nI 0) hx hb hr (fun t9 ht9 hW9 => ⟨⟨_, (S, r9.toInt64), rfl, ⟨LQ_same hI h5, (Or.inr (Or.inr (Or.inr ⟨j, v, v2, r9, hj, hv, hv2, rfl, rfl, rfl, rfl, rfl, hw, rfl⟩)))⟩, hX.P ht9 hW9, by rw [ht9]; exact hN⟩, hX.2.2.2.F ht9⟩) hX.2.2.2.2.2 dL_compare_25)
set_option maxHeartbeats 4000000 in
set_option maxRecDepth 100000 in
theorem m_L_both (l : Launch) (hst : l.stackTraces = false) (dC : Nat → ClassId) (dI : Nat → Nat → Nat) (cB : ClassId) (ad : Nat → Nat) (o : Nat) (S : XS) (x0 : Int32) (x1 : Int32) (x2 : Int32) (x3 : Int32) (hI : InvX S) (h5 : ∀ j, j < 4 → (S.2.1 j).2.2.2.2.1 ≤ 5) (hc : S.2.2.1 + 12 < 1000000) : Met l yL_both wsL_both ({ frames := 9, cells := 1, slots := 6, locals := 149 } : Room) (va_Pc [.ref (ad 57), .int x0, .int x1, .int x2, .int x3, .ref o] (PW dC dI cB ad o S)) (va_Qi (fun r (u : XS × Int64) => LQ S u.1 ∧ R_both x0 x1 x2 x3 S r u.1 u.2) (PO2 dC dI ad o) (AO ad o)) 1 6 (AO ad o) := by
  refine va_MetW (cc := cL_both) (maxL := 7) (ret := (some .int)) pl_L rfl ?_
  intro p e s m args below meth c s₁ B hml hv
  obtain ⟨rfl, hPW⟩ := hv
  have hx := B.exec
  have hb := B.bytes
  have hr := B.returns
  have hts := atoms_spec (ws := wsL_both) B.pre
  have htab := vx_table (x := yL_both) B (hts (.codeWith yL_both cL_both 7 (some .int) [(0, 15, 18, 19), (0, 15, 22, 21)]) (by unfold wsL_both; exact List.mem_cons_self))
  have hown : s.vm.findClass RL = some m.cls := findClass_of_methodNamed B.named
  have hlocks := B.notSynchronized
  have hin5 : ∀ w ∈ u_ws RX5 TX5 2, w ∈ wsL_both := tu 1332 (by decide +kernel) rfl
  have hX := WX.ofW hPW
  have hO := hPW.2.2.1
  have hno := hPW.2.2.2.1
  have hl := lv_entry ([.ref (ad 57), .int x0, .int x1, .int x2, .int x3, .ref o]) (n := 7) (Nat.le_of_ble_eq_true rfl)
  rw [lg_entry_eq]
  generalize (lg_sl ([.ref (ad 57), .int x0, .int x1, .int x2, .int x3, .ref o]) ++ List.replicate (7 - (lg_sl ([.ref (ad 57), .int x0, .int x1, .int x2, .int x3, .ref o])).length) Slot.unset).toArray = ls at hl ⊢
  have hl : lv_has ls 7 [(0, .ref (ad 57)), (1, .int x0), (2, .int x1), (3, .int x2), (4, .int x3), (5, .ref o)] := hl
  show W p l e ({ frames := 9, cells := 1, slots := 6, locals := 149 } : Room) s m ([.ref (ad 57), .int x0, .int x1, .int x2, .int x3, .ref o]).toArray below meth c s.heap [] 0 0 (MQ below (va_Qi (fun r (u : XS × Int64) => LQ S u.1 ∧ R_both x0 x1 x2 x3 S r u.1 u.2) (PO2 dC dI ad o) (AO ad o)) ([.ref (ad 57), .int x0, .int x1, .int x2, .int x3, .ref o]).toArray s 1 6 (AO ad o)) (F0 m 0 ls [])
  refine lv_aload hx hb dL_both_0 (lv_at hl 5 rfl) ?_
  refine lv_aload_n hx hb dL_both_2 rfl (lv_at hl 0 rfl) ?_
  refine lv_iload_n hx hb dL_both_3 rfl (lv_at hl 1 rfl) ?_
  refine lv_iload_n hx hb dL_both_4 rfl (lv_at hl 2 rfl) ?_
  refine lv_iload_n hx hb dL_both_5 rfl (lv_at hl 3 rfl) ?_
  refine lv_iload hx hb dL_both_6 (lv_at hl 4 rfl) ?_
  rcases lim_lt 4 (by decide) x0 with ⟨j, hj, rfl⟩ | hb9
  rotate_left
  · skip
    refine kl_throw (vx_runV (As := [.int x0, .int x1, .int x2, .int x3]) (rest := [.ref o]) ⟨hx, hb, hml, hown, hts⟩ (t_X4_both_1 l hst dC dI ad S x0 x1 x2 x3 hb9) (cwV 4 hts gL_both_X4_both rfl rfl rfl hdX4_both_4 ⟨Nat.le_of_ble_eq_true rfl, Nat.le_of_ble_eq_true rfl⟩) hPW.1.preX rfl rfl hl.1 rfl (lv_room (Nat.le_of_ble_eq_true rfl)) dL_both_8 ⟨Nat.le_of_ble_eq_true rfl, Nat.le_of_ble_eq_true rfl⟩) hX hO (fun ce q9 H hce1 hce2 hce3 hX hO => ?_)
    refine vx_catch hown [] ⟨0, 15, 18, 19⟩ [⟨0, 15, 22, 21⟩] (htab.trans rfl) (fun _ h => nomatch h) rfl (by decide) (hts (.classLink RL 19 IX) (tm 830 (by decide +kernel) rfl)) (va_Nw.use rfl hPW.1.2.1.2.1.1) hce1 hce2 hce3 ?_
    refine lv_astore (lv' := [(6, .ref q9), (0, .ref (ad 57)), (1, .int x0), (2, .int x1), (3, .int x2), (4, .int x3), (5, .ref o)]) hx hb dL_both_18 hl (by decide) rfl (fun ls hl => ?_)
    refine lv_iconst (v := nI 1) hx hb dL_both_20 (by decide) ?_
    obtain ⟨n9, hN⟩ := hO
    exact W.widen (k := 1) (n := 6) (by simp) (by simp) (W.iret (v := nI 1) hx hb hr (fun t9 ht9 hW9 => ⟨⟨_, (S, n9), rfl, ⟨LQ_same hI h5, (Or.inl ⟨hb9, rfl, rfl⟩)⟩, hX.P ht9 hW9, by rw [ht9]; exact hN⟩, hX.2.2.2.F ht9⟩) hX.2.2.2.2.2 dL_both_21)
  replace hj : j < 4 := by omega
  rcases lim_lt 4 (by decide) x1 with ⟨j2, hj2, rfl⟩ | hb9
  rotate_left
  · skip
    refine kl_throw (vx_runV (As := [.int (nI j), .int x1, .int x2, .int x3]) (rest := [.ref o]) ⟨hx, hb, hml, hown, hts⟩ (t_X4_both_2 l hst dC dI ad S j x1 x2 x3 hj hb9) (cwV 4 hts gL_both_X4_both rfl rfl rfl hdX4_both_4 ⟨Nat.le_of_ble_eq_true rfl, Nat.le_of_ble_eq_true rfl⟩) hPW.1.preX rfl rfl hl.1 rfl (lv_room (Nat.le_of_ble_eq_true rfl)) dL_both_8 ⟨Nat.le_of_ble_eq_true rfl, Nat.le_of_ble_eq_true rfl⟩) hX hO (fun ce q9 H hce1 hce2 hce3 hX hO => ?_)
    refine vx_catch hown [] ⟨0, 15, 18, 19⟩ [⟨0, 15, 22, 21⟩] (htab.trans rfl) (fun _ h => nomatch h) rfl (by decide) (hts (.classLink RL 19 IX) (tm 830 (by decide +kernel) rfl)) (va_Nw.use rfl hPW.1.2.1.2.1.1) hce1 hce2 hce3 ?_
    refine lv_astore (lv' := [(6, .ref q9), (0, .ref (ad 57)), (1, .int (nI j)), (2, .int x1), (3, .int x2), (4, .int x3), (5, .ref o)]) hx hb dL_both_18 hl (by decide) rfl (fun ls hl => ?_)
    refine lv_iconst (v := nI 1) hx hb dL_both_20 (by decide) ?_
    obtain ⟨n9, hN⟩ := hO
    exact W.widen (k := 1) (n := 6) (by simp) (by simp) (W.iret (v := nI 1) hx hb hr (fun t9 ht9 hW9 => ⟨⟨_, (S, n9), rfl, ⟨LQ_same hI h5, (Or.inr (Or.inl ⟨j, hj, rfl, hb9, rfl, rfl⟩))⟩, hX.P ht9 hW9, by rw [ht9]; exact hN⟩, hX.2.2.2.F ht9⟩) hX.2.2.2.2.2 dL_both_21)
  replace hj2 : j2 < 4 := by omega
  rcases lim_le 15 (by decide) x2 with ⟨v, hv, rfl⟩ | hb9
  rotate_left
  · skip
    refine kl_throw (vx_runV (As := [.int (nI j), .int (nI j2), .int x2, .int x3]) (rest := [.ref o]) ⟨hx, hb, hml, hown, hts⟩ (t_X4_both_3 l hst dC dI ad S j j2 x2 x3 hj hj2 hb9) (cwV 4 hts gL_both_X4_both rfl rfl rfl hdX4_both_4 ⟨Nat.le_of_ble_eq_true rfl, Nat.le_of_ble_eq_true rfl⟩) hPW.1.preX rfl rfl hl.1 rfl (lv_room (Nat.le_of_ble_eq_true rfl)) dL_both_8 ⟨Nat.le_of_ble_eq_true rfl, Nat.le_of_ble_eq_true rfl⟩) hX hO (fun ce q9 H hce1 hce2 hce3 hX hO => ?_)
    refine vx_catch hown [⟨0, 15, 18, 19⟩] ⟨0, 15, 22, 21⟩ [] (htab.trans rfl) (fun z hz => by rw [List.mem_singleton.mp hz]; exact Or.inr ⟨by decide, IX, hts (.classLink RL 19 IX) (by decide +kernel), hPW.2.2.2.2.1⟩) rfl (by decide) (hts (.classLink RL 21 IA) (tm 831 (by decide +kernel) rfl)) (va_Nw.use rfl hPW.1.2.1.2.1.2) hce1 hce2 hce3 ?_
    refine lv_astore (lv' := [(6, .ref q9), (0, .ref (ad 57)), (1, .int (nI j)), (2, .int (nI j2)), (3, .int x2), (4, .int x3), (5, .ref o)]) hx hb dL_both_22 hl (by decide) rfl (fun ls hl => ?_)
    refine lv_iconst (v := nI 2) hx hb dL_both_24 (by decide) ?_
    obtain ⟨n9, hN⟩ := hO
    exact W.widen (k := 1) (n := 6) (by simp) (by simp) (W.iret (v := nI 2) hx hb hr (fun t9 ht9 hW9 => ⟨⟨_, (S, n9), rfl, ⟨LQ_same hI h5, (Or.inr (Or.inr (Or.inl ⟨j, j2, hj, hj2, rfl, rfl, hb9, rfl, rfl⟩)))⟩, hX.P ht9 hW9, by rw [ht9]; exact hN⟩, hX.2.2.2.F ht9⟩) hX.2.2.2.2.2 dL_both_25)
  replace hv : v < 16 := by omega
  rcases lim_le 15 (by decide) x3 with ⟨v2, hv2, rfl⟩ | hb9
  rotate_left
  · skip
    refine kl_throw (vx_runV (As := [.int (nI j), .int (nI j2), .int (nI v), .int x3]) (rest := [.ref o]) ⟨hx, hb, hml, hown, hts⟩ (t_X4_both_4 l hst dC dI ad S j j2 v x3 hj hj2 hv hb9) (cwV 4 hts gL_both_X4_both rfl rfl rfl hdX4_both_4 ⟨Nat.le_of_ble_eq_true rfl, Nat.le_of_ble_eq_true rfl⟩) hPW.1.preX rfl rfl hl.1 rfl (lv_room (Nat.le_of_ble_eq_true rfl)) dL_both_8 ⟨Nat.le_of_ble_eq_true rfl, Nat.le_of_ble_eq_true rfl⟩) hX hO (fun ce q9 H hce1 hce2 hce3 hX hO => ?_)
    refine vx_catch hown [⟨0, 15, 18, 19⟩] ⟨0, 15, 22, 21⟩ [] (htab.trans rfl) (fun z hz => by rw [List.mem_singleton.mp hz]; exact Or.inr ⟨by decide, IX, hts (.classLink RL 19 IX) (by decide +kernel), hPW.2.2.2.2.1⟩) rfl (by decide) (hts (.classLink RL 21 IA) (tm 831 (by decide +kernel) rfl)) (va_Nw.use rfl hPW.1.2.1.2.1.2) hce1 hce2 hce3 ?_
    refine lv_astore (lv' := [(6, .ref q9), (0, .ref (ad 57)), (1, .int (nI j)), (2, .int (nI j2)), (3, .int (nI v)), (4, .int x3), (5, .ref o)]) hx hb dL_both_22 hl (by decide) rfl (fun ls hl => ?_)
    refine lv_iconst (v := nI 2) hx hb dL_both_24 (by decide) ?_
    obtain ⟨n9, hN⟩ := hO
    exact W.widen (k := 1) (n := 6) (by simp) (by simp) (W.iret (v := nI 2) hx hb hr (fun t9 ht9 hW9 => ⟨⟨_, (S, n9), rfl, ⟨LQ_same hI h5, (Or.inr (Or.inr (Or.inr (Or.inl ⟨j, j2, v, hj, hj2, hv, rfl, rfl, rfl, hb9, rfl, rfl⟩))))⟩, hX.P ht9 hW9, by rw [ht9]; exact hN⟩, hX.2.2.2.F ht9⟩) hX.2.2.2.2.2 dL_both_25)
  replace hv2 : v2 < 16 := by omega
  refine kl_cr (va_runV (As := [.int (nI j), .int (nI j2), .int (nI v), .int (nI v2)]) (rest := [.ref o]) ⟨hx, hb, hml, hown, hts⟩ (m_X4_both l dC dI ad S j j2 v v2 hj hj2 hv hv2 hI) (cwV 4 hts gL_both_X4_both rfl rfl rfl hdX4_both_4 ⟨Nat.le_of_ble_eq_true rfl, Nat.le_of_ble_eq_true rfl⟩) (hX.preTop 57 6 (by decide) (by decide) rfl rfl) rfl rfl hl.1 rfl (lv_room (Nat.le_of_ble_eq_true rfl)) dL_both_8 ⟨Nat.le_of_ble_eq_true rfl, Nat.le_of_ble_eq_true rfl⟩) (fun r9 hw => ?_)
  refine lv_i2l (v := r9.toInt64) hx hb dL_both_11 rfl ?_
  refine kl_putn hx hb hts hin5 hown hX hO hno (host := "OrderlatticeLaw") (va_Nw.use rfl hPW.2.2.2.2.2.1) dL_both_12 (fun H locs hX hN => ?_)
  refine lv_goto (tgt := 26) hx hb dL_both_15 (by decide) ?_
  refine lv_iconst (v := nI 0) hx hb dL_both_26 (by decide) ?_
  exact W.widen (k := 1) (n := 6) (by simp) (by simp) (W.iret (v := nI 0) hx hb hr (fun t9 ht9 hW9 => ⟨⟨_, (S, r9.toInt64), rfl, ⟨LQ_same hI h5, (Or.inr (Or.inr (Or.inr (Or.inr ⟨j, j2, v, v2, r9, hj, hj2, hv, hv2, rfl, rfl, rfl, rfl, rfl, rfl, hw, rfl⟩))))⟩, hX.P ht9 hW9, by rw [ht9]; exact hN⟩, hX.2.2.2.F ht9⟩) hX.2.2.2.2.2 dL_both_27)
set_option maxHeartbeats 4000000 in
set_option maxRecDepth 100000 in
theorem m_L_refines (l : Launch) (hst : l.stackTraces = false) (dC : Nat → ClassId) (dI : Nat → Nat → Nat) (cB : ClassId) (ad : Nat → Nat) (o : Nat) (S : XS) (x0 : Int32) (x1 : Int32) (hI : InvX S) (h5 : ∀ j, j < 4 → (S.2.1 j).2.2.2.2.1 ≤ 5) (hc : S.2.2.1 + 12 < 1000000) : Met l yL_refines wsL_refines ({ frames := 9, cells := 1, slots := 6, locals := 146 } : Room) (va_Pc [.ref (ad 57), .int x0, .int x1, .ref o] (PW dC dI cB ad o S)) (va_Qi (fun r (u : XS × Int64) => LQ S u.1 ∧ R_refines x0 x1 S r u.1 u.2) (PO2 dC dI ad o) (AO ad o)) 1 6 (AO ad o) := by
  refine va_MetW (cc := cL_refines) (maxL := 5) (ret := (some .int)) pl_L rfl ?_
  intro p e s m args below meth c s₁ B hml hv
  obtain ⟨rfl, hPW⟩ := hv
  have hx := B.exec
  have hb := B.bytes
  have hr := B.returns
  have hts := atoms_spec (ws := wsL_refines) B.pre
  have htab := vx_table (x := yL_refines) B (hts (.codeWith yL_refines cL_refines 5 (some .int) [(0, 18, 21, 19)]) (by unfold wsL_refines; exact List.mem_cons_self))
  have hown : s.vm.findClass RL = some m.cls := findClass_of_methodNamed B.named
  have hlocks := B.notSynchronized
  have hin5 : ∀ w ∈ u_ws RX5 TX5 2, w ∈ wsL_refines := tu 1332 (by decide +kernel) rfl
  have hX := WX.ofW hPW
  have hO := hPW.2.2.1
  have hno := hPW.2.2.2.1
  have hl := lv_entry ([.ref (ad 57), .int x0, .int x1, .ref o]) (n := 5) (Nat.le_of_ble_eq_true rfl)
  rw [lg_entry_eq]
  generalize (lg_sl ([.ref (ad 57), .int x0, .int x1, .ref o]) ++ List.replicate (5 - (lg_sl ([.ref (ad 57), .int x0, .int x1, .ref o])).length) Slot.unset).toArray = ls at hl ⊢
  have hl : lv_has ls 5 [(0, .ref (ad 57)), (1, .int x0), (2, .int x1), (3, .ref o)] := hl
  show W p l e ({ frames := 9, cells := 1, slots := 6, locals := 146 } : Room) s m ([.ref (ad 57), .int x0, .int x1, .ref o]).toArray below meth c s.heap [] 0 0 (MQ below (va_Qi (fun r (u : XS × Int64) => LQ S u.1 ∧ R_refines x0 x1 S r u.1 u.2) (PO2 dC dI ad o) (AO ad o)) ([.ref (ad 57), .int x0, .int x1, .ref o]).toArray s 1 6 (AO ad o)) (F0 m 0 ls [])
  refine lv_aload_n hx hb dL_refines_0 rfl (lv_at hl 3 rfl) ?_
  refine lv_aload_n hx hb dL_refines_1 rfl (lv_at hl 0 rfl) ?_
  refine lv_iload_n hx hb dL_refines_2 rfl (lv_at hl 1 rfl) ?_
  refine lv_iload_n hx hb dL_refines_3 rfl (lv_at hl 2 rfl) ?_
  rcases lim_lt 4 (by decide) x0 with ⟨j, hj, rfl⟩ | hb9
  rotate_left
  · skip
    refine kl_throw (vx_runV (As := [.int x0, .int x1]) (rest := [.ref o]) ⟨hx, hb, hml, hown, hts⟩ (t_X4_refines_1 l hst dC dI ad S x0 x1 hb9) (cwV 2 hts gL_refines_X4_refines rfl rfl rfl hdX4_refines_2 ⟨Nat.le_of_ble_eq_true rfl, Nat.le_of_ble_eq_true rfl⟩) hPW.1.preX rfl rfl hl.1 rfl (lv_room (Nat.le_of_ble_eq_true rfl)) dL_refines_4 ⟨Nat.le_of_ble_eq_true rfl, Nat.le_of_ble_eq_true rfl⟩) hX hO (fun ce q9 H hce1 hce2 hce3 hX hO => ?_)
    refine vx_catch hown [] ⟨0, 18, 21, 19⟩ [] (htab.trans rfl) (fun _ h => nomatch h) rfl (by decide) (hts (.classLink RL 19 IX) (tm 830 (by decide +kernel) rfl)) (va_Nw.use rfl hPW.1.2.1.2.1.1) hce1 hce2 hce3 ?_
    refine lv_astore (lv' := [(4, .ref q9), (0, .ref (ad 57)), (1, .int x0), (2, .int x1), (3, .ref o)]) hx hb dL_refines_21 hl (by decide) rfl (fun ls hl => ?_)
    refine lv_iconst (v := nI 1) hx hb dL_refines_23 (by decide) ?_
    obtain ⟨n9, hN⟩ := hO
    exact W.widen (k := 1) (n := 6) (by simp) (by simp) (W.iret (v := nI 1) hx hb hr (fun t9 ht9 hW9 => ⟨⟨_, (S, n9), rfl, ⟨LQ_same hI h5, (Or.inl ⟨hb9, rfl, rfl⟩)⟩, hX.P ht9 hW9, by rw [ht9]; exact hN⟩, hX.2.2.2.F ht9⟩) hX.2.2.2.2.2 dL_refines_24)
  replace hj : j < 4 := by omega
  rcases lim_lt 4 (by decide) x1 with ⟨j2, hj2, rfl⟩ | hb9
  rotate_left
  · skip
    refine kl_throw (vx_runV (As := [.int (nI j), .int x1]) (rest := [.ref o]) ⟨hx, hb, hml, hown, hts⟩ (t_X4_refines_2 l hst dC dI ad S j x1 hj hb9) (cwV 2 hts gL_refines_X4_refines rfl rfl rfl hdX4_refines_2 ⟨Nat.le_of_ble_eq_true rfl, Nat.le_of_ble_eq_true rfl⟩) hPW.1.preX rfl rfl hl.1 rfl (lv_room (Nat.le_of_ble_eq_true rfl)) dL_refines_4 ⟨Nat.le_of_ble_eq_true rfl, Nat.le_of_ble_eq_true rfl⟩) hX hO (fun ce q9 H hce1 hce2 hce3 hX hO => ?_)
    refine vx_catch hown [] ⟨0, 18, 21, 19⟩ [] (htab.trans rfl) (fun _ h => nomatch h) rfl (by decide) (hts (.classLink RL 19 IX) (tm 830 (by decide +kernel) rfl)) (va_Nw.use rfl hPW.1.2.1.2.1.1) hce1 hce2 hce3 ?_
    refine lv_astore (lv' := [(4, .ref q9), (0, .ref (ad 57)), (1, .int (nI j)), (2, .int x1), (3, .ref o)]) hx hb dL_refines_21 hl (by decide) rfl (fun ls hl => ?_)
    refine lv_iconst (v := nI 1) hx hb dL_refines_23 (by decide) ?_
    obtain ⟨n9, hN⟩ := hO
    exact W.widen (k := 1) (n := 6) (by simp) (by simp) (W.iret (v := nI 1) hx hb hr (fun t9 ht9 hW9 => ⟨⟨_, (S, n9), rfl, ⟨LQ_same hI h5, (Or.inr (Or.inl ⟨j, hj, rfl, hb9, rfl, rfl⟩))⟩, hX.P ht9 hW9, by rw [ht9]; exact hN⟩, hX.2.2.2.F ht9⟩) hX.2.2.2.2.2 dL_refines_24)
  replace hj2 : j2 < 4 := by omega
  refine kl_cr (va_runV (As := [.int (nI j), .int (nI j2)]) (rest := [.ref o]) ⟨hx, hb, hml, hown, hts⟩ (m_X4_refines l dC dI ad S j j2 hj hj2 hI) (cwV 2 hts gL_refines_X4_refines rfl rfl rfl hdX4_refines_2 ⟨Nat.le_of_ble_eq_true rfl, Nat.le_of_ble_eq_true rfl⟩) (hX.preTop 57 6 (by decide) (by decide) rfl rfl) rfl rfl hl.1 rfl (lv_room (Nat.le_of_ble_eq_true rfl)) dL_refines_4 ⟨Nat.le_of_ble_eq_true rfl, Nat.le_of_ble_eq_true rfl⟩) (fun r9 hw => ?_)
  refine lv_if_eq (tgt := 14) hx hb dL_refines_7 (by decide) (fun k_1 => ?_) (fun k_1 => ?_)
  · skip
    refine lv_lconst (v := lN 0) hx hb dL_refines_14 (by decide) ?_
    refine kl_putn hx hb hts hin5 hown hX hO hno (host := "OrderlatticeLaw") (va_Nw.use rfl hPW.2.2.2.2.2.1) dL_refines_15 (fun H locs hX hN => ?_)
    refine lv_goto (tgt := 25) hx hb dL_refines_18 (by decide) ?_
    refine lv_iconst (v := nI 0) hx hb dL_refines_25 (by decide) ?_
    exact W.widen (k := 1) (n := 6) (by simp) (by simp) (W.iret (v := nI 0) hx hb hr (fun t9 ht9 hW9 => ⟨⟨_, (S, lN 0), rfl, ⟨LQ_same hI h5, (Or.inr (Or.inr ⟨j, j2, r9, hj, hj2, rfl, rfl, rfl, (if_pos k_1).symm, hw, rfl⟩))⟩, hX.P ht9 hW9, by rw [ht9]; exact hN⟩, hX.2.2.2.F ht9⟩) hX.2.2.2.2.2 dL_refines_26)
  · skip
    refine lv_lconst (v := lN 1) hx hb dL_refines_10 (by decide) ?_
    refine lv_goto (tgt := 15) hx hb dL_refines_11 (by decide) ?_
    refine kl_putn hx hb hts hin5 hown hX hO hno (host := "OrderlatticeLaw") (va_Nw.use rfl hPW.2.2.2.2.2.1) dL_refines_15 (fun H locs hX hN => ?_)
    refine lv_goto (tgt := 25) hx hb dL_refines_18 (by decide) ?_
    refine lv_iconst (v := nI 0) hx hb dL_refines_25 (by decide) ?_
    exact W.widen (k := 1) (n := 6) (by simp) (by simp) (W.iret (v := nI 0) hx hb hr (fun t9 ht9 hW9 => ⟨⟨_, (S, lN 1), rfl, ⟨LQ_same hI h5, (Or.inr (Or.inr ⟨j, j2, r9, hj, hj2, rfl, rfl, rfl, (if_neg k_1).symm, hw, rfl⟩))⟩, hX.P ht9 hW9, by rw [ht9]; exact hN⟩, hX.2.2.2.F ht9⟩) hX.2.2.2.2.2 dL_refines_26)
set_option maxHeartbeats 4000000 in
set_option maxRecDepth 100000 in
theorem m_L_areSame (l : Launch) (hst : l.stackTraces = false) (dC : Nat → ClassId) (dI : Nat → Nat → Nat) (cB : ClassId) (ad : Nat → Nat) (o : Nat) (S : XS) (x0 : Int32) (x1 : Int32) (hI : InvX S) (h5 : ∀ j, j < 4 → (S.2.1 j).2.2.2.2.1 ≤ 5) (hc : S.2.2.1 + 12 < 1000000) : Met l yL_areSame wsL_areSame ({ frames := 9, cells := 1, slots := 6, locals := 146 } : Room) (va_Pc [.ref (ad 57), .int x0, .int x1, .ref o] (PW dC dI cB ad o S)) (va_Qi (fun r (u : XS × Int64) => LQ S u.1 ∧ R_areSame x0 x1 S r u.1 u.2) (PO2 dC dI ad o) (AO ad o)) 1 6 (AO ad o) := by
  refine va_MetW (cc := cL_areSame) (maxL := 5) (ret := (some .int)) pl_L rfl ?_
  intro p e s m args below meth c s₁ B hml hv
  obtain ⟨rfl, hPW⟩ := hv
  have hx := B.exec
  have hb := B.bytes
  have hr := B.returns
  have hts := atoms_spec (ws := wsL_areSame) B.pre
  have htab := vx_table (x := yL_areSame) B (hts (.codeWith yL_areSame cL_areSame 5 (some .int) [(0, 18, 21, 19)]) (by unfold wsL_areSame; exact List.mem_cons_self))
  have hown : s.vm.findClass RL = some m.cls := findClass_of_methodNamed B.named
  have hlocks := B.notSynchronized
  have hin5 : ∀ w ∈ u_ws RX5 TX5 2, w ∈ wsL_areSame := tu 1332 (by decide +kernel) rfl
  have hX := WX.ofW hPW
  have hO := hPW.2.2.1
  have hno := hPW.2.2.2.1
  have hl := lv_entry ([.ref (ad 57), .int x0, .int x1, .ref o]) (n := 5) (Nat.le_of_ble_eq_true rfl)
  rw [lg_entry_eq]
  generalize (lg_sl ([.ref (ad 57), .int x0, .int x1, .ref o]) ++ List.replicate (5 - (lg_sl ([.ref (ad 57), .int x0, .int x1, .ref o])).length) Slot.unset).toArray = ls at hl ⊢
  have hl : lv_has ls 5 [(0, .ref (ad 57)), (1, .int x0), (2, .int x1), (3, .ref o)] := hl
  show W p l e ({ frames := 9, cells := 1, slots := 6, locals := 146 } : Room) s m ([.ref (ad 57), .int x0, .int x1, .ref o]).toArray below meth c s.heap [] 0 0 (MQ below (va_Qi (fun r (u : XS × Int64) => LQ S u.1 ∧ R_areSame x0 x1 S r u.1 u.2) (PO2 dC dI ad o) (AO ad o)) ([.ref (ad 57), .int x0, .int x1, .ref o]).toArray s 1 6 (AO ad o)) (F0 m 0 ls [])
  refine lv_aload_n hx hb dL_areSame_0 rfl (lv_at hl 3 rfl) ?_
  refine lv_aload_n hx hb dL_areSame_1 rfl (lv_at hl 0 rfl) ?_
  refine lv_iload_n hx hb dL_areSame_2 rfl (lv_at hl 1 rfl) ?_
  refine lv_iload_n hx hb dL_areSame_3 rfl (lv_at hl 2 rfl) ?_
  rcases lim_lt 4 (by decide) x0 with ⟨j, hj, rfl⟩ | hb9
  rotate_left
  · skip
    refine kl_throw (vx_runV (As := [.int x0, .int x1]) (rest := [.ref o]) ⟨hx, hb, hml, hown, hts⟩ (t_X4_areSame_1 l hst dC dI ad S x0 x1 hb9) (cwV 2 hts gL_areSame_X4_areSame rfl rfl rfl hdX4_areSame_2 ⟨Nat.le_of_ble_eq_true rfl, Nat.le_of_ble_eq_true rfl⟩) hPW.1.preX rfl rfl hl.1 rfl (lv_room (Nat.le_of_ble_eq_true rfl)) dL_areSame_4 ⟨Nat.le_of_ble_eq_true rfl, Nat.le_of_ble_eq_true rfl⟩) hX hO (fun ce q9 H hce1 hce2 hce3 hX hO => ?_)
    refine vx_catch hown [] ⟨0, 18, 21, 19⟩ [] (htab.trans rfl) (fun _ h => nomatch h) rfl (by decide) (hts (.classLink RL 19 IX) (tm 830 (by decide +kernel) rfl)) (va_Nw.use rfl hPW.1.2.1.2.1.1) hce1 hce2 hce3 ?_
    refine lv_astore (lv' := [(4, .ref q9), (0, .ref (ad 57)), (1, .int x0), (2, .int x1), (3, .ref o)]) hx hb dL_areSame_21 hl (by decide) rfl (fun ls hl => ?_)
    refine lv_iconst (v := nI 1) hx hb dL_areSame_23 (by decide) ?_
    obtain ⟨n9, hN⟩ := hO
    exact W.widen (k := 1) (n := 6) (by simp) (by simp) (W.iret (v := nI 1) hx hb hr (fun t9 ht9 hW9 => ⟨⟨_, (S, n9), rfl, ⟨LQ_same hI h5, (Or.inl ⟨hb9, rfl, rfl⟩)⟩, hX.P ht9 hW9, by rw [ht9]; exact hN⟩, hX.2.2.2.F ht9⟩) hX.2.2.2.2.2 dL_areSame_24)
  replace hj : j < 4 := by omega
  rcases lim_lt 4 (by decide) x1 with ⟨j2, hj2, rfl⟩ | hb9
  rotate_left
  · skip
    refine kl_throw (vx_runV (As := [.int (nI j), .int x1]) (rest := [.ref o]) ⟨hx, hb, hml, hown, hts⟩ (t_X4_areSame_2 l hst dC dI ad S j x1 hj hb9) (cwV 2 hts gL_areSame_X4_areSame rfl rfl rfl hdX4_areSame_2 ⟨Nat.le_of_ble_eq_true rfl, Nat.le_of_ble_eq_true rfl⟩) hPW.1.preX rfl rfl hl.1 rfl (lv_room (Nat.le_of_ble_eq_true rfl)) dL_areSame_4 ⟨Nat.le_of_ble_eq_true rfl, Nat.le_of_ble_eq_true rfl⟩) hX hO (fun ce q9 H hce1 hce2 hce3 hX hO => ?_)
    refine vx_catch hown [] ⟨0, 18, 21, 19⟩ [] (htab.trans rfl) (fun _ h => nomatch h) rfl (by decide) (hts (.classLink RL 19 IX) (tm 830 (by decide +kernel) rfl)) (va_Nw.use rfl hPW.1.2.1.2.1.1) hce1 hce2 hce3 ?_
    refine lv_astore (lv' := [(4, .ref q9), (0, .ref (ad 57)), (1, .int (nI j)), (2, .int x1), (3, .ref o)]) hx hb dL_areSame_21 hl (by decide) rfl (fun ls hl => ?_)
    refine lv_iconst (v := nI 1) hx hb dL_areSame_23 (by decide) ?_
    obtain ⟨n9, hN⟩ := hO
    exact W.widen (k := 1) (n := 6) (by simp) (by simp) (W.iret (v := nI 1) hx hb hr (fun t9 ht9 hW9 => ⟨⟨_, (S, n9), rfl, ⟨LQ_same hI h5, (Or.inr (Or.inl ⟨j, hj, rfl, hb9, rfl, rfl⟩))⟩, hX.P ht9 hW9, by rw [ht9]; exact hN⟩, hX.2.2.2.F ht9⟩) hX.2.2.2.2.2 dL_areSame_24)
  replace hj2 : j2 < 4 := by omega
  refine kl_cr (va_runV (As := [.int (nI j), .int (nI j2)]) (rest := [.ref o]) ⟨hx, hb, hml, hown, hts⟩ (m_X4_areSame l dC dI ad S j j2 hj hj2 hI) (cwV 2 hts gL_areSame_X4_areSame rfl rfl rfl hdX4_areSame_2 ⟨Nat.le_of_ble_eq_true rfl, Nat.le_of_ble_eq_true rfl⟩) (hX.preTop 57 6 (by decide) (by decide) rfl rfl) rfl rfl hl.1 rfl (lv_room (Nat.le_of_ble_eq_true rfl)) dL_areSame_4 ⟨Nat.le_of_ble_eq_true rfl, Nat.le_of_ble_eq_true rfl⟩) (fun r9 hw => ?_)
  refine lv_if_eq (tgt := 14) hx hb dL_areSame_7 (by decide) (fun k_1 => ?_) (fun k_1 => ?_)
  · skip
    refine lv_lconst (v := lN 0) hx hb dL_areSame_14 (by decide) ?_
    refine kl_putn hx hb hts hin5 hown hX hO hno (host := "OrderlatticeLaw") (va_Nw.use rfl hPW.2.2.2.2.2.1) dL_areSame_15 (fun H locs hX hN => ?_)
    refine lv_goto (tgt := 25) hx hb dL_areSame_18 (by decide) ?_
    refine lv_iconst (v := nI 0) hx hb dL_areSame_25 (by decide) ?_
    exact W.widen (k := 1) (n := 6) (by simp) (by simp) (W.iret (v := nI 0) hx hb hr (fun t9 ht9 hW9 => ⟨⟨_, (S, lN 0), rfl, ⟨LQ_same hI h5, (Or.inr (Or.inr ⟨j, j2, r9, hj, hj2, rfl, rfl, rfl, (if_pos k_1).symm, hw, rfl⟩))⟩, hX.P ht9 hW9, by rw [ht9]; exact hN⟩, hX.2.2.2.F ht9⟩) hX.2.2.2.2.2 dL_areSame_26)
  · skip
    refine lv_lconst (v := lN 1) hx hb dL_areSame_10 (by decide) ?_
    refine lv_goto (tgt := 15) hx hb dL_areSame_11 (by decide) ?_
    refine kl_putn hx hb hts hin5 hown hX hO hno (host := "OrderlatticeLaw") (va_Nw.use rfl hPW.2.2.2.2.2.1) dL_areSame_15 (fun H locs hX hN => ?_)
    refine lv_goto (tgt := 25) hx hb dL_areSame_18 (by decide) ?_
    refine lv_iconst (v := nI 0) hx hb dL_areSame_25 (by decide) ?_
    exact W.widen (k := 1) (n := 6) (by simp) (by simp) (W.iret (v := nI 0) hx hb hr (fun t9 ht9 hW9 => ⟨⟨_, (S, lN 1), rfl, ⟨LQ_same hI h5, (Or.inr (Or.inr ⟨j, j2, r9, hj, hj2, rfl, rfl, rfl, (if_neg k_1).symm, hw, rfl⟩))⟩, hX.P ht9 hW9, by rw [ht9]; exact hN⟩, hX.2.2.2.F ht9⟩) hX.2.2.2.2.2 dL_areSame_26)
set_option maxHeartbeats 4000000 in
set_option maxRecDepth 100000 in
theorem m_L_apart (l : Launch) (hst : l.stackTraces = false) (dC : Nat → ClassId) (dI : Nat → Nat → Nat) (cB : ClassId) (ad : Nat → Nat) (o : Nat) (S : XS) (x0 : Int32) (x1 : Int32) (hI : InvX S) (h5 : ∀ j, j < 4 → (S.2.1 j).2.2.2.2.1 ≤ 5) (hc : S.2.2.1 + 12 < 1000000) : Met l yL_apart wsL_apart ({ frames := 9, cells := 1, slots := 6, locals := 146 } : Room) (va_Pc [.ref (ad 57), .int x0, .int x1, .ref o] (PW dC dI cB ad o S)) (va_Qi (fun r (u : XS × Int64) => LQ S u.1 ∧ R_apart x0 x1 S r u.1 u.2) (PO2 dC dI ad o) (AO ad o)) 1 6 (AO ad o) := by
  refine va_MetW (cc := cL_apart) (maxL := 5) (ret := (some .int)) pl_L rfl ?_
  intro p e s m args below meth c s₁ B hml hv
  obtain ⟨rfl, hPW⟩ := hv
  have hx := B.exec
  have hb := B.bytes
  have hr := B.returns
  have hts := atoms_spec (ws := wsL_apart) B.pre
  have htab := vx_table (x := yL_apart) B (hts (.codeWith yL_apart cL_apart 5 (some .int) [(0, 11, 14, 19)]) (by unfold wsL_apart; exact List.mem_cons_self))
  have hown : s.vm.findClass RL = some m.cls := findClass_of_methodNamed B.named
  have hlocks := B.notSynchronized
  have hin5 : ∀ w ∈ u_ws RX5 TX5 2, w ∈ wsL_apart := tu 1332 (by decide +kernel) rfl
  have hX := WX.ofW hPW
  have hO := hPW.2.2.1
  have hno := hPW.2.2.2.1
  have hl := lv_entry ([.ref (ad 57), .int x0, .int x1, .ref o]) (n := 5) (Nat.le_of_ble_eq_true rfl)
  rw [lg_entry_eq]
  generalize (lg_sl ([.ref (ad 57), .int x0, .int x1, .ref o]) ++ List.replicate (5 - (lg_sl ([.ref (ad 57), .int x0, .int x1, .ref o])).length) Slot.unset).toArray = ls at hl ⊢
  have hl : lv_has ls 5 [(0, .ref (ad 57)), (1, .int x0), (2, .int x1), (3, .ref o)] := hl
  show W p l e ({ frames := 9, cells := 1, slots := 6, locals := 146 } : Room) s m ([.ref (ad 57), .int x0, .int x1, .ref o]).toArray below meth c s.heap [] 0 0 (MQ below (va_Qi (fun r (u : XS × Int64) => LQ S u.1 ∧ R_apart x0 x1 S r u.1 u.2) (PO2 dC dI ad o) (AO ad o)) ([.ref (ad 57), .int x0, .int x1, .ref o]).toArray s 1 6 (AO ad o)) (F0 m 0 ls [])
  refine lv_aload_n hx hb dL_apart_0 rfl (lv_at hl 3 rfl) ?_
  refine lv_aload_n hx hb dL_apart_1 rfl (lv_at hl 0 rfl) ?_
  refine lv_iload_n hx hb dL_apart_2 rfl (lv_at hl 1 rfl) ?_
  refine lv_iload_n hx hb dL_apart_3 rfl (lv_at hl 2 rfl) ?_
  rcases lim_lt 4 (by decide) x0 with ⟨j, hj, rfl⟩ | hb9
  rotate_left
  · skip
    refine kl_throw (vx_runV (As := [.int x0, .int x1]) (rest := [.ref o]) ⟨hx, hb, hml, hown, hts⟩ (t_X4_apart_1 l hst dC dI ad S x0 x1 hb9) (cwV 2 hts gL_apart_X4_apart rfl rfl rfl hdX4_apart_2 ⟨Nat.le_of_ble_eq_true rfl, Nat.le_of_ble_eq_true rfl⟩) hPW.1.preX rfl rfl hl.1 rfl (lv_room (Nat.le_of_ble_eq_true rfl)) dL_apart_4 ⟨Nat.le_of_ble_eq_true rfl, Nat.le_of_ble_eq_true rfl⟩) hX hO (fun ce q9 H hce1 hce2 hce3 hX hO => ?_)
    refine vx_catch hown [] ⟨0, 11, 14, 19⟩ [] (htab.trans rfl) (fun _ h => nomatch h) rfl (by decide) (hts (.classLink RL 19 IX) (tm 830 (by decide +kernel) rfl)) (va_Nw.use rfl hPW.1.2.1.2.1.1) hce1 hce2 hce3 ?_
    refine lv_astore (lv' := [(4, .ref q9), (0, .ref (ad 57)), (1, .int x0), (2, .int x1), (3, .ref o)]) hx hb dL_apart_14 hl (by decide) rfl (fun ls hl => ?_)
    refine lv_iconst (v := nI 1) hx hb dL_apart_16 (by decide) ?_
    obtain ⟨n9, hN⟩ := hO
    exact W.widen (k := 1) (n := 6) (by simp) (by simp) (W.iret (v := nI 1) hx hb hr (fun t9 ht9 hW9 => ⟨⟨_, (S, n9), rfl, ⟨LQ_same hI h5, (Or.inl ⟨hb9, rfl, rfl⟩)⟩, hX.P ht9 hW9, by rw [ht9]; exact hN⟩, hX.2.2.2.F ht9⟩) hX.2.2.2.2.2 dL_apart_17)
  replace hj : j < 4 := by omega
  rcases lim_lt 4 (by decide) x1 with ⟨j2, hj2, rfl⟩ | hb9
  rotate_left
  · skip
    refine kl_throw (vx_runV (As := [.int (nI j), .int x1]) (rest := [.ref o]) ⟨hx, hb, hml, hown, hts⟩ (t_X4_apart_2 l hst dC dI ad S j x1 hj hb9) (cwV 2 hts gL_apart_X4_apart rfl rfl rfl hdX4_apart_2 ⟨Nat.le_of_ble_eq_true rfl, Nat.le_of_ble_eq_true rfl⟩) hPW.1.preX rfl rfl hl.1 rfl (lv_room (Nat.le_of_ble_eq_true rfl)) dL_apart_4 ⟨Nat.le_of_ble_eq_true rfl, Nat.le_of_ble_eq_true rfl⟩) hX hO (fun ce q9 H hce1 hce2 hce3 hX hO => ?_)
    refine vx_catch hown [] ⟨0, 11, 14, 19⟩ [] (htab.trans rfl) (fun _ h => nomatch h) rfl (by decide) (hts (.classLink RL 19 IX) (tm 830 (by decide +kernel) rfl)) (va_Nw.use rfl hPW.1.2.1.2.1.1) hce1 hce2 hce3 ?_
    refine lv_astore (lv' := [(4, .ref q9), (0, .ref (ad 57)), (1, .int (nI j)), (2, .int x1), (3, .ref o)]) hx hb dL_apart_14 hl (by decide) rfl (fun ls hl => ?_)
    refine lv_iconst (v := nI 1) hx hb dL_apart_16 (by decide) ?_
    obtain ⟨n9, hN⟩ := hO
    exact W.widen (k := 1) (n := 6) (by simp) (by simp) (W.iret (v := nI 1) hx hb hr (fun t9 ht9 hW9 => ⟨⟨_, (S, n9), rfl, ⟨LQ_same hI h5, (Or.inr (Or.inl ⟨j, hj, rfl, hb9, rfl, rfl⟩))⟩, hX.P ht9 hW9, by rw [ht9]; exact hN⟩, hX.2.2.2.F ht9⟩) hX.2.2.2.2.2 dL_apart_17)
  replace hj2 : j2 < 4 := by omega
  refine kl_cr (va_runV (As := [.int (nI j), .int (nI j2)]) (rest := [.ref o]) ⟨hx, hb, hml, hown, hts⟩ (m_X4_apart l dC dI ad S j j2 hj hj2 hI) (cwV 2 hts gL_apart_X4_apart rfl rfl rfl hdX4_apart_2 ⟨Nat.le_of_ble_eq_true rfl, Nat.le_of_ble_eq_true rfl⟩) (hX.preTop 57 6 (by decide) (by decide) rfl rfl) rfl rfl hl.1 rfl (lv_room (Nat.le_of_ble_eq_true rfl)) dL_apart_4 ⟨Nat.le_of_ble_eq_true rfl, Nat.le_of_ble_eq_true rfl⟩) (fun r9 hw => ?_)
  refine lv_i2l (v := r9.toInt64) hx hb dL_apart_7 rfl ?_
  refine kl_putn hx hb hts hin5 hown hX hO hno (host := "OrderlatticeLaw") (va_Nw.use rfl hPW.2.2.2.2.2.1) dL_apart_8 (fun H locs hX hN => ?_)
  refine lv_goto (tgt := 18) hx hb dL_apart_11 (by decide) ?_
  refine lv_iconst (v := nI 0) hx hb dL_apart_18 (by decide) ?_
  exact W.widen (k := 1) (n := 6) (by simp) (by simp) (W.iret (v := nI 0) hx hb hr (fun t9 ht9 hW9 => ⟨⟨_, (S, r9.toInt64), rfl, ⟨LQ_same hI h5, (Or.inr (Or.inr ⟨j, j2, r9, hj, hj2, rfl, rfl, rfl, rfl, hw, rfl⟩))⟩, hX.P ht9 hW9, by rw [ht9]; exact hN⟩, hX.2.2.2.F ht9⟩) hX.2.2.2.2.2 dL_apart_19)
set_option maxHeartbeats 4000000 in
set_option maxRecDepth 100000 in
theorem m_L_classes (l : Launch) (hst : l.stackTraces = false) (dC : Nat → ClassId) (dI : Nat → Nat → Nat) (cB : ClassId) (ad : Nat → Nat) (o : Nat) (S : XS) (x0 : Int32) (hI : InvX S) (h5 : ∀ j, j < 4 → (S.2.1 j).2.2.2.2.1 ≤ 5) (hc : S.2.2.1 + 12 < 1000000) : Met l yL_classes wsL_classes ({ frames := 9, cells := 1, slots := 6, locals := 144 } : Room) (va_Pc [.ref (ad 57), .int x0, .ref o] (PW dC dI cB ad o S)) (va_Qi (fun r (u : XS × Int64) => LQ S u.1 ∧ R_classes x0 S r u.1 u.2) (PO2 dC dI ad o) (AO ad o)) 1 6 (AO ad o) := by
  refine va_MetW (cc := cL_classes) (maxL := 4) (ret := (some .int)) pl_L rfl ?_
  intro p e s m args below meth c s₁ B hml hv
  obtain ⟨rfl, hPW⟩ := hv
  have hx := B.exec
  have hb := B.bytes
  have hr := B.returns
  have hts := atoms_spec (ws := wsL_classes) B.pre
  have htab := vx_table (x := yL_classes) B (hts (.codeWith yL_classes cL_classes 4 (some .int) [(0, 10, 13, 19)]) (by unfold wsL_classes; exact List.mem_cons_self))
  have hown : s.vm.findClass RL = some m.cls := findClass_of_methodNamed B.named
  have hlocks := B.notSynchronized
  have hin5 : ∀ w ∈ u_ws RX5 TX5 2, w ∈ wsL_classes := tu 1332 (by decide +kernel) rfl
  have hX := WX.ofW hPW
  have hO := hPW.2.2.1
  have hno := hPW.2.2.2.1
  have hl := lv_entry ([.ref (ad 57), .int x0, .ref o]) (n := 4) (Nat.le_of_ble_eq_true rfl)
  rw [lg_entry_eq]
  generalize (lg_sl ([.ref (ad 57), .int x0, .ref o]) ++ List.replicate (4 - (lg_sl ([.ref (ad 57), .int x0, .ref o])).length) Slot.unset).toArray = ls at hl ⊢
  have hl : lv_has ls 4 [(0, .ref (ad 57)), (1, .int x0), (2, .ref o)] := hl
  show W p l e ({ frames := 9, cells := 1, slots := 6, locals := 144 } : Room) s m ([.ref (ad 57), .int x0, .ref o]).toArray below meth c s.heap [] 0 0 (MQ below (va_Qi (fun r (u : XS × Int64) => LQ S u.1 ∧ R_classes x0 S r u.1 u.2) (PO2 dC dI ad o) (AO ad o)) ([.ref (ad 57), .int x0, .ref o]).toArray s 1 6 (AO ad o)) (F0 m 0 ls [])
  refine lv_aload_n hx hb dL_classes_0 rfl (lv_at hl 2 rfl) ?_
  refine lv_aload_n hx hb dL_classes_1 rfl (lv_at hl 0 rfl) ?_
  refine lv_iload_n hx hb dL_classes_2 rfl (lv_at hl 1 rfl) ?_
  rcases lim_lt 4 (by decide) x0 with ⟨j, hj, rfl⟩ | hb9
  rotate_left
  · skip
    refine kl_throw (vx_runV (As := [.int x0]) (rest := [.ref o]) ⟨hx, hb, hml, hown, hts⟩ (t_X4_classes_1 l hst dC dI ad S x0 hb9) (cwV 1 hts gL_classes_X4_classes rfl rfl rfl hdX4_classes_1 ⟨Nat.le_of_ble_eq_true rfl, Nat.le_of_ble_eq_true rfl⟩) hPW.1.preX rfl rfl hl.1 rfl (lv_room (Nat.le_of_ble_eq_true rfl)) dL_classes_3 ⟨Nat.le_of_ble_eq_true rfl, Nat.le_of_ble_eq_true rfl⟩) hX hO (fun ce q9 H hce1 hce2 hce3 hX hO => ?_)
    refine vx_catch hown [] ⟨0, 10, 13, 19⟩ [] (htab.trans rfl) (fun _ h => nomatch h) rfl (by decide) (hts (.classLink RL 19 IX) (tm 830 (by decide +kernel) rfl)) (va_Nw.use rfl hPW.1.2.1.2.1.1) hce1 hce2 hce3 ?_
    refine lv_astore_n (lv' := [(3, .ref q9), (0, .ref (ad 57)), (1, .int x0), (2, .ref o)]) hx hb dL_classes_13 rfl hl (by decide) rfl (fun ls hl => ?_)
    refine lv_iconst (v := nI 1) hx hb dL_classes_14 (by decide) ?_
    obtain ⟨n9, hN⟩ := hO
    exact W.widen (k := 1) (n := 6) (by simp) (by simp) (W.iret (v := nI 1) hx hb hr (fun t9 ht9 hW9 => ⟨⟨_, (S, n9), rfl, ⟨LQ_same hI h5, (Or.inl ⟨hb9, rfl, rfl⟩)⟩, hX.P ht9 hW9, by rw [ht9]; exact hN⟩, hX.2.2.2.F ht9⟩) hX.2.2.2.2.2 dL_classes_15)
  replace hj : j < 4 := by omega
  refine kl_cr (va_runV (As := [.int (nI j)]) (rest := [.ref o]) ⟨hx, hb, hml, hown, hts⟩ (m_X4_classes l dC dI ad S j hj hI) (cwV 1 hts gL_classes_X4_classes rfl rfl rfl hdX4_classes_1 ⟨Nat.le_of_ble_eq_true rfl, Nat.le_of_ble_eq_true rfl⟩) (hX.preTop 57 6 (by decide) (by decide) rfl rfl) rfl rfl hl.1 rfl (lv_room (Nat.le_of_ble_eq_true rfl)) dL_classes_3 ⟨Nat.le_of_ble_eq_true rfl, Nat.le_of_ble_eq_true rfl⟩) (fun r9 hw => ?_)
  refine lv_i2l (v := r9.toInt64) hx hb dL_classes_6 rfl ?_
  refine kl_putn hx hb hts hin5 hown hX hO hno (host := "OrderlatticeLaw") (va_Nw.use rfl hPW.2.2.2.2.2.1) dL_classes_7 (fun H locs hX hN => ?_)
  refine lv_goto (tgt := 16) hx hb dL_classes_10 (by decide) ?_
  refine lv_iconst (v := nI 0) hx hb dL_classes_16 (by decide) ?_
  exact W.widen (k := 1) (n := 6) (by simp) (by simp) (W.iret (v := nI 0) hx hb hr (fun t9 ht9 hW9 => ⟨⟨_, (S, r9.toInt64), rfl, ⟨LQ_same hI h5, (Or.inr ⟨j, r9, hj, rfl, rfl, rfl, hw, rfl⟩)⟩, hX.P ht9 hW9, by rw [ht9]; exact hN⟩, hX.2.2.2.F ht9⟩) hX.2.2.2.2.2 dL_classes_17)
set_option maxHeartbeats 4000000 in
set_option maxRecDepth 100000 in
theorem m_L_rank (l : Launch) (hst : l.stackTraces = false) (dC : Nat → ClassId) (dI : Nat → Nat → Nat) (cB : ClassId) (ad : Nat → Nat) (o : Nat) (S : XS) (x0 : Int32) (x1 : Int32) (hI : InvX S) (h5 : ∀ j, j < 4 → (S.2.1 j).2.2.2.2.1 ≤ 5) (hc : S.2.2.1 + 12 < 1000000) : Met l yL_rank wsL_rank ({ frames := 9, cells := 1, slots := 6, locals := 146 } : Room) (va_Pc [.ref (ad 57), .int x0, .int x1, .ref o] (PW dC dI cB ad o S)) (va_Qi (fun r (u : XS × Int64) => LQ S u.1 ∧ R_rank x0 x1 S r u.1 u.2) (PO2 dC dI ad o) (AO ad o)) 1 6 (AO ad o) := by
  refine va_MetW (cc := cL_rank) (maxL := 5) (ret := (some .int)) pl_L rfl ?_
  intro p e s m args below meth c s₁ B hml hv
  obtain ⟨rfl, hPW⟩ := hv
  have hx := B.exec
  have hb := B.bytes
  have hr := B.returns
  have hts := atoms_spec (ws := wsL_rank) B.pre
  have htab := vx_table (x := yL_rank) B (hts (.codeWith yL_rank cL_rank 5 (some .int) [(0, 11, 14, 19), (0, 11, 18, 21)]) (by unfold wsL_rank; exact List.mem_cons_self))
  have hown : s.vm.findClass RL = some m.cls := findClass_of_methodNamed B.named
  have hlocks := B.notSynchronized
  have hin5 : ∀ w ∈ u_ws RX5 TX5 2, w ∈ wsL_rank := tu 1332 (by decide +kernel) rfl
  have hX := WX.ofW hPW
  have hO := hPW.2.2.1
  have hno := hPW.2.2.2.1
  have hl := lv_entry ([.ref (ad 57), .int x0, .int x1, .ref o]) (n := 5) (Nat.le_of_ble_eq_true rfl)
  rw [lg_entry_eq]
  generalize (lg_sl ([.ref (ad 57), .int x0, .int x1, .ref o]) ++ List.replicate (5 - (lg_sl ([.ref (ad 57), .int x0, .int x1, .ref o])).length) Slot.unset).toArray = ls at hl ⊢
  have hl : lv_has ls 5 [(0, .ref (ad 57)), (1, .int x0), (2, .int x1), (3, .ref o)] := hl
  show W p l e ({ frames := 9, cells := 1, slots := 6, locals := 146 } : Room) s m ([.ref (ad 57), .int x0, .int x1, .ref o]).toArray below meth c s.heap [] 0 0 (MQ below (va_Qi (fun r (u : XS × Int64) => LQ S u.1 ∧ R_rank x0 x1 S r u.1 u.2) (PO2 dC dI ad o) (AO ad o)) ([.ref (ad 57), .int x0, .int x1, .ref o]).toArray s 1 6 (AO ad o)) (F0 m 0 ls [])
  refine lv_aload_n hx hb dL_rank_0 rfl (lv_at hl 3 rfl) ?_
  refine lv_aload_n hx hb dL_rank_1 rfl (lv_at hl 0 rfl) ?_
  refine lv_iload_n hx hb dL_rank_2 rfl (lv_at hl 1 rfl) ?_
  refine lv_iload_n hx hb dL_rank_3 rfl (lv_at hl 2 rfl) ?_
  rcases lim_lt 4 (by decide) x0 with ⟨j, hj, rfl⟩ | hb9
  rotate_left
  · skip
    refine kl_throw (vx_runV (As := [.int x0, .int x1]) (rest := [.ref o]) ⟨hx, hb, hml, hown, hts⟩ (t_X4_rank_1 l hst dC dI ad S x0 x1 hb9) (cwV 2 hts gL_rank_X4_rank rfl rfl rfl hdX4_rank_2 ⟨Nat.le_of_ble_eq_true rfl, Nat.le_of_ble_eq_true rfl⟩) hPW.1.preX rfl rfl hl.1 rfl (lv_room (Nat.le_of_ble_eq_true rfl)) dL_rank_4 ⟨Nat.le_of_ble_eq_true rfl, Nat.le_of_ble_eq_true rfl⟩) hX hO (fun ce q9 H hce1 hce2 hce3 hX hO => ?_)
    refine vx_catch hown [] ⟨0, 11, 14, 19⟩ [⟨0, 11, 18, 21⟩] (htab.trans rfl) (fun _ h => nomatch h) rfl (by decide) (hts (.classLink RL 19 IX) (tm 830 (by decide +kernel) rfl)) (va_Nw.use rfl hPW.1.2.1.2.1.1) hce1 hce2 hce3 ?_
    refine lv_astore (lv' := [(4, .ref q9), (0, .ref (ad 57)), (1, .int x0), (2, .int x1), (3, .ref o)]) hx hb dL_rank_14 hl (by decide) rfl (fun ls hl => ?_)
    refine lv_iconst (v := nI 1) hx hb dL_rank_16 (by decide) ?_
    obtain ⟨n9, hN⟩ := hO
    exact W.widen (k := 1) (n := 6) (by simp) (by simp) (W.iret (v := nI 1) hx hb hr (fun t9 ht9 hW9 => ⟨⟨_, (S, n9), rfl, ⟨LQ_same hI h5, (Or.inl ⟨hb9, rfl, rfl⟩)⟩, hX.P ht9 hW9, by rw [ht9]; exact hN⟩, hX.2.2.2.F ht9⟩) hX.2.2.2.2.2 dL_rank_17)
  replace hj : j < 4 := by omega
  rcases lim_le 15 (by decide) x1 with ⟨v, hv, rfl⟩ | hb9
  rotate_left
  · skip
    refine kl_throw (vx_runV (As := [.int (nI j), .int x1]) (rest := [.ref o]) ⟨hx, hb, hml, hown, hts⟩ (t_X4_rank_2 l hst dC dI ad S j x1 hj hb9) (cwV 2 hts gL_rank_X4_rank rfl rfl rfl hdX4_rank_2 ⟨Nat.le_of_ble_eq_true rfl, Nat.le_of_ble_eq_true rfl⟩) hPW.1.preX rfl rfl hl.1 rfl (lv_room (Nat.le_of_ble_eq_true rfl)) dL_rank_4 ⟨Nat.le_of_ble_eq_true rfl, Nat.le_of_ble_eq_true rfl⟩) hX hO (fun ce q9 H hce1 hce2 hce3 hX hO => ?_)
    refine vx_catch hown [⟨0, 11, 14, 19⟩] ⟨0, 11, 18, 21⟩ [] (htab.trans rfl) (fun z hz => by rw [List.mem_singleton.mp hz]; exact Or.inr ⟨by decide, IX, hts (.classLink RL 19 IX) (by decide +kernel), hPW.2.2.2.2.1⟩) rfl (by decide) (hts (.classLink RL 21 IA) (tm 831 (by decide +kernel) rfl)) (va_Nw.use rfl hPW.1.2.1.2.1.2) hce1 hce2 hce3 ?_
    refine lv_astore (lv' := [(4, .ref q9), (0, .ref (ad 57)), (1, .int (nI j)), (2, .int x1), (3, .ref o)]) hx hb dL_rank_18 hl (by decide) rfl (fun ls hl => ?_)
    refine lv_iconst (v := nI 2) hx hb dL_rank_20 (by decide) ?_
    obtain ⟨n9, hN⟩ := hO
    exact W.widen (k := 1) (n := 6) (by simp) (by simp) (W.iret (v := nI 2) hx hb hr (fun t9 ht9 hW9 => ⟨⟨_, (S, n9), rfl, ⟨LQ_same hI h5, (Or.inr (Or.inl ⟨j, hj, rfl, hb9, rfl, rfl⟩))⟩, hX.P ht9 hW9, by rw [ht9]; exact hN⟩, hX.2.2.2.F ht9⟩) hX.2.2.2.2.2 dL_rank_21)
  replace hv : v < 16 := by omega
  refine kl_cr (va_runV (As := [.int (nI j), .int (nI v)]) (rest := [.ref o]) ⟨hx, hb, hml, hown, hts⟩ (m_X4_rank l dC dI ad S j v hj hv hI) (cwV 2 hts gL_rank_X4_rank rfl rfl rfl hdX4_rank_2 ⟨Nat.le_of_ble_eq_true rfl, Nat.le_of_ble_eq_true rfl⟩) (hX.preTop 57 6 (by decide) (by decide) rfl rfl) rfl rfl hl.1 rfl (lv_room (Nat.le_of_ble_eq_true rfl)) dL_rank_4 ⟨Nat.le_of_ble_eq_true rfl, Nat.le_of_ble_eq_true rfl⟩) (fun r9 hw => ?_)
  refine lv_i2l (v := r9.toInt64) hx hb dL_rank_7 rfl ?_
  refine kl_putn hx hb hts hin5 hown hX hO hno (host := "OrderlatticeLaw") (va_Nw.use rfl hPW.2.2.2.2.2.1) dL_rank_8 (fun H locs hX hN => ?_)
  refine lv_goto (tgt := 22) hx hb dL_rank_11 (by decide) ?_
  refine lv_iconst (v := nI 0) hx hb dL_rank_22 (by decide) ?_
  exact W.widen (k := 1) (n := 6) (by simp) (by simp) (W.iret (v := nI 0) hx hb hr (fun t9 ht9 hW9 => ⟨⟨_, (S, r9.toInt64), rfl, ⟨LQ_same hI h5, (Or.inr (Or.inr ⟨j, v, r9, hj, hv, rfl, rfl, rfl, rfl, hw, rfl⟩))⟩, hX.P ht9 hW9, by rw [ht9]; exact hN⟩, hX.2.2.2.F ht9⟩) hX.2.2.2.2.2 dL_rank_23)
set_option maxHeartbeats 4000000 in
set_option maxRecDepth 100000 in
theorem m_L_keyOf (l : Launch) (hst : l.stackTraces = false) (dC : Nat → ClassId) (dI : Nat → Nat → Nat) (cB : ClassId) (ad : Nat → Nat) (o : Nat) (S : XS) (x0 : Int32) (x1 : Int32) (hI : InvX S) (h5 : ∀ j, j < 4 → (S.2.1 j).2.2.2.2.1 ≤ 5) (hc : S.2.2.1 + 12 < 1000000) : Met l yL_keyOf wsL_keyOf ({ frames := 9, cells := 1, slots := 6, locals := 145 } : Room) (va_Pc [.ref (ad 57), .int x0, .int x1, .ref o] (PW dC dI cB ad o S)) (va_Qi (fun r (u : XS × Int64) => LQ S u.1 ∧ R_keyOf x0 x1 S r u.1 u.2) (PO2 dC dI ad o) (AO ad o)) 1 6 (AO ad o) := by
  refine va_MetW (cc := cL_keyOf) (maxL := 5) (ret := (some .int)) pl_L rfl ?_
  intro p e s m args below meth c s₁ B hml hv
  obtain ⟨rfl, hPW⟩ := hv
  have hx := B.exec
  have hb := B.bytes
  have hr := B.returns
  have hts := atoms_spec (ws := wsL_keyOf) B.pre
  have htab := vx_table (x := yL_keyOf) B (hts (.codeWith yL_keyOf cL_keyOf 5 (some .int) [(0, 11, 14, 21)]) (by unfold wsL_keyOf; exact List.mem_cons_self))
  have hown : s.vm.findClass RL = some m.cls := findClass_of_methodNamed B.named
  have hlocks := B.notSynchronized
  have hin5 : ∀ w ∈ u_ws RX5 TX5 2, w ∈ wsL_keyOf := tu 1332 (by decide +kernel) rfl
  have hX := WX.ofW hPW
  have hO := hPW.2.2.1
  have hno := hPW.2.2.2.1
  have hl := lv_entry ([.ref (ad 57), .int x0, .int x1, .ref o]) (n := 5) (Nat.le_of_ble_eq_true rfl)
  rw [lg_entry_eq]
  generalize (lg_sl ([.ref (ad 57), .int x0, .int x1, .ref o]) ++ List.replicate (5 - (lg_sl ([.ref (ad 57), .int x0, .int x1, .ref o])).length) Slot.unset).toArray = ls at hl ⊢
  have hl : lv_has ls 5 [(0, .ref (ad 57)), (1, .int x0), (2, .int x1), (3, .ref o)] := hl
  show W p l e ({ frames := 9, cells := 1, slots := 6, locals := 145 } : Room) s m ([.ref (ad 57), .int x0, .int x1, .ref o]).toArray below meth c s.heap [] 0 0 (MQ below (va_Qi (fun r (u : XS × Int64) => LQ S u.1 ∧ R_keyOf x0 x1 S r u.1 u.2) (PO2 dC dI ad o) (AO ad o)) ([.ref (ad 57), .int x0, .int x1, .ref o]).toArray s 1 6 (AO ad o)) (F0 m 0 ls [])
  refine lv_aload_n hx hb dL_keyOf_0 rfl (lv_at hl 3 rfl) ?_
  refine lv_aload_n hx hb dL_keyOf_1 rfl (lv_at hl 0 rfl) ?_
  refine lv_iload_n hx hb dL_keyOf_2 rfl (lv_at hl 1 rfl) ?_
  refine lv_iload_n hx hb dL_keyOf_3 rfl (lv_at hl 2 rfl) ?_
  rcases lim_le 7 (by decide) x0 with ⟨k, hk, rfl⟩ | hb9
  rotate_left
  · skip
    refine kl_throw (vx_runV (As := [.int x0, .int x1]) (rest := [.ref o]) ⟨hx, hb, hml, hown, hts⟩ (t_X4_keyOf_1 l hst dC dI ad S x0 x1 hb9) (cwV 2 hts gL_keyOf_X4_keyOf rfl rfl rfl hdX4_keyOf_2 ⟨Nat.le_of_ble_eq_true rfl, Nat.le_of_ble_eq_true rfl⟩) hPW.1.preX rfl rfl hl.1 rfl (lv_room (Nat.le_of_ble_eq_true rfl)) dL_keyOf_4 ⟨Nat.le_of_ble_eq_true rfl, Nat.le_of_ble_eq_true rfl⟩) hX hO (fun ce q9 H hce1 hce2 hce3 hX hO => ?_)
    refine vx_catch hown [] ⟨0, 11, 14, 21⟩ [] (htab.trans rfl) (fun _ h => nomatch h) rfl (by decide) (hts (.classLink RL 21 IA) (tm 831 (by decide +kernel) rfl)) (va_Nw.use rfl hPW.1.2.1.2.1.2) hce1 hce2 hce3 ?_
    refine lv_astore (lv' := [(4, .ref q9), (0, .ref (ad 57)), (1, .int x0), (2, .int x1), (3, .ref o)]) hx hb dL_keyOf_14 hl (by decide) rfl (fun ls hl => ?_)
    refine lv_iconst (v := nI 1) hx hb dL_keyOf_16 (by decide) ?_
    obtain ⟨n9, hN⟩ := hO
    exact W.widen (k := 1) (n := 6) (by simp) (by simp) (W.iret (v := nI 1) hx hb hr (fun t9 ht9 hW9 => ⟨⟨_, (S, n9), rfl, ⟨LQ_same hI h5, (Or.inl ⟨hb9, rfl, rfl⟩)⟩, hX.P ht9 hW9, by rw [ht9]; exact hN⟩, hX.2.2.2.F ht9⟩) hX.2.2.2.2.2 dL_keyOf_17)
  replace hk : k ≤ 7 := by omega
  rcases lim_le 15 (by decide) x1 with ⟨v, hv, rfl⟩ | hb9
  rotate_left
  · skip
    refine kl_throw (vx_runV (As := [.int (nI k), .int x1]) (rest := [.ref o]) ⟨hx, hb, hml, hown, hts⟩ (t_X4_keyOf_2 l hst dC dI ad S k x1 hk hb9) (cwV 2 hts gL_keyOf_X4_keyOf rfl rfl rfl hdX4_keyOf_2 ⟨Nat.le_of_ble_eq_true rfl, Nat.le_of_ble_eq_true rfl⟩) hPW.1.preX rfl rfl hl.1 rfl (lv_room (Nat.le_of_ble_eq_true rfl)) dL_keyOf_4 ⟨Nat.le_of_ble_eq_true rfl, Nat.le_of_ble_eq_true rfl⟩) hX hO (fun ce q9 H hce1 hce2 hce3 hX hO => ?_)
    refine vx_catch hown [] ⟨0, 11, 14, 21⟩ [] (htab.trans rfl) (fun _ h => nomatch h) rfl (by decide) (hts (.classLink RL 21 IA) (tm 831 (by decide +kernel) rfl)) (va_Nw.use rfl hPW.1.2.1.2.1.2) hce1 hce2 hce3 ?_
    refine lv_astore (lv' := [(4, .ref q9), (0, .ref (ad 57)), (1, .int (nI k)), (2, .int x1), (3, .ref o)]) hx hb dL_keyOf_14 hl (by decide) rfl (fun ls hl => ?_)
    refine lv_iconst (v := nI 1) hx hb dL_keyOf_16 (by decide) ?_
    obtain ⟨n9, hN⟩ := hO
    exact W.widen (k := 1) (n := 6) (by simp) (by simp) (W.iret (v := nI 1) hx hb hr (fun t9 ht9 hW9 => ⟨⟨_, (S, n9), rfl, ⟨LQ_same hI h5, (Or.inr (Or.inl ⟨k, hk, rfl, hb9, rfl, rfl⟩))⟩, hX.P ht9 hW9, by rw [ht9]; exact hN⟩, hX.2.2.2.F ht9⟩) hX.2.2.2.2.2 dL_keyOf_17)
  replace hv : v < 16 := by omega
  refine kl_cr (va_runV (As := [.int (nI k), .int (nI v)]) (rest := [.ref o]) ⟨hx, hb, hml, hown, hts⟩ (m_X4_keyOf l dC dI ad S k v hk hv) (cwV 2 hts gL_keyOf_X4_keyOf rfl rfl rfl hdX4_keyOf_2 ⟨Nat.le_of_ble_eq_true rfl, Nat.le_of_ble_eq_true rfl⟩) (hX.preTop 57 6 (by decide) (by decide) rfl rfl) rfl rfl hl.1 rfl (lv_room (Nat.le_of_ble_eq_true rfl)) dL_keyOf_4 ⟨Nat.le_of_ble_eq_true rfl, Nat.le_of_ble_eq_true rfl⟩) (fun r9 hw => ?_)
  refine lv_i2l (v := r9.toInt64) hx hb dL_keyOf_7 rfl ?_
  refine kl_putn hx hb hts hin5 hown hX hO hno (host := "OrderlatticeLaw") (va_Nw.use rfl hPW.2.2.2.2.2.1) dL_keyOf_8 (fun H locs hX hN => ?_)
  refine lv_goto (tgt := 18) hx hb dL_keyOf_11 (by decide) ?_
  refine lv_iconst (v := nI 0) hx hb dL_keyOf_18 (by decide) ?_
  exact W.widen (k := 1) (n := 6) (by simp) (by simp) (W.iret (v := nI 0) hx hb hr (fun t9 ht9 hW9 => ⟨⟨_, (S, r9.toInt64), rfl, ⟨LQ_same hI h5, (Or.inr (Or.inr ⟨k, v, r9, hk, hv, rfl, rfl, rfl, rfl, hw, rfl⟩))⟩, hX.P ht9 hW9, by rw [ht9]; exact hN⟩, hX.2.2.2.F ht9⟩) hX.2.2.2.2.2 dL_keyOf_19)
set_option maxHeartbeats 4000000 in
set_option maxRecDepth 100000 in
theorem m_L_house (l : Launch) (hst : l.stackTraces = false) (dC : Nat → ClassId) (dI : Nat → Nat → Nat) (cB : ClassId) (ad : Nat → Nat) (o : Nat) (S : XS) (x0 : Int32) (hI : InvX S) (h5 : ∀ j, j < 4 → (S.2.1 j).2.2.2.2.1 ≤ 5) (hc : S.2.2.1 + 12 < 1000000) : Met l yL_house wsL_house ({ frames := 9, cells := 1, slots := 6, locals := 144 } : Room) (va_Pc [.ref (ad 57), .int x0, .ref o] (PW dC dI cB ad o S)) (va_Qi (fun r (u : XS × Int64) => LQ S u.1 ∧ R_house x0 S r u.1 u.2) (PO2 dC dI ad o) (AO ad o)) 1 6 (AO ad o) := by
  refine va_MetW (cc := cL_house) (maxL := 4) (ret := (some .int)) pl_L rfl ?_
  intro p e s m args below meth c s₁ B hml hv
  obtain ⟨rfl, hPW⟩ := hv
  have hx := B.exec
  have hb := B.bytes
  have hr := B.returns
  have hts := atoms_spec (ws := wsL_house) B.pre
  have htab := vx_table (x := yL_house) B (hts (.codeWith yL_house cL_house 4 (some .int) [(0, 10, 13, 21)]) (by unfold wsL_house; exact List.mem_cons_self))
  have hown : s.vm.findClass RL = some m.cls := findClass_of_methodNamed B.named
  have hlocks := B.notSynchronized
  have hin5 : ∀ w ∈ u_ws RX5 TX5 2, w ∈ wsL_house := tu 1332 (by decide +kernel) rfl
  have hX := WX.ofW hPW
  have hO := hPW.2.2.1
  have hno := hPW.2.2.2.1
  have hl := lv_entry ([.ref (ad 57), .int x0, .ref o]) (n := 4) (Nat.le_of_ble_eq_true rfl)
  rw [lg_entry_eq]
  generalize (lg_sl ([.ref (ad 57), .int x0, .ref o]) ++ List.replicate (4 - (lg_sl ([.ref (ad 57), .int x0, .ref o])).length) Slot.unset).toArray = ls at hl ⊢
  have hl : lv_has ls 4 [(0, .ref (ad 57)), (1, .int x0), (2, .ref o)] := hl
  show W p l e ({ frames := 9, cells := 1, slots := 6, locals := 144 } : Room) s m ([.ref (ad 57), .int x0, .ref o]).toArray below meth c s.heap [] 0 0 (MQ below (va_Qi (fun r (u : XS × Int64) => LQ S u.1 ∧ R_house x0 S r u.1 u.2) (PO2 dC dI ad o) (AO ad o)) ([.ref (ad 57), .int x0, .ref o]).toArray s 1 6 (AO ad o)) (F0 m 0 ls [])
  refine lv_aload_n hx hb dL_house_0 rfl (lv_at hl 2 rfl) ?_
  refine lv_aload_n hx hb dL_house_1 rfl (lv_at hl 0 rfl) ?_
  refine lv_iload_n hx hb dL_house_2 rfl (lv_at hl 1 rfl) ?_
  rcases lim_le 4 (by decide) x0 with ⟨k, hk, rfl⟩ | hb9
  rotate_left
  · skip
    refine kl_throw (vx_runV (As := [.int x0]) (rest := [.ref o]) ⟨hx, hb, hml, hown, hts⟩ (t_X4_house_1 l hst dC dI ad S x0 hb9) (cwV 1 hts gL_house_X4_house rfl rfl rfl hdX4_house_1 ⟨Nat.le_of_ble_eq_true rfl, Nat.le_of_ble_eq_true rfl⟩) hPW.1.preX rfl rfl hl.1 rfl (lv_room (Nat.le_of_ble_eq_true rfl)) dL_house_3 ⟨Nat.le_of_ble_eq_true rfl, Nat.le_of_ble_eq_true rfl⟩) hX hO (fun ce q9 H hce1 hce2 hce3 hX hO => ?_)
    refine vx_catch hown [] ⟨0, 10, 13, 21⟩ [] (htab.trans rfl) (fun _ h => nomatch h) rfl (by decide) (hts (.classLink RL 21 IA) (tm 831 (by decide +kernel) rfl)) (va_Nw.use rfl hPW.1.2.1.2.1.2) hce1 hce2 hce3 ?_
    refine lv_astore_n (lv' := [(3, .ref q9), (0, .ref (ad 57)), (1, .int x0), (2, .ref o)]) hx hb dL_house_13 rfl hl (by decide) rfl (fun ls hl => ?_)
    refine lv_iconst (v := nI 1) hx hb dL_house_14 (by decide) ?_
    obtain ⟨n9, hN⟩ := hO
    exact W.widen (k := 1) (n := 6) (by simp) (by simp) (W.iret (v := nI 1) hx hb hr (fun t9 ht9 hW9 => ⟨⟨_, (S, n9), rfl, ⟨LQ_same hI h5, (Or.inl ⟨hb9, rfl, rfl⟩)⟩, hX.P ht9 hW9, by rw [ht9]; exact hN⟩, hX.2.2.2.F ht9⟩) hX.2.2.2.2.2 dL_house_15)
  replace hk : k ≤ 4 := by omega
  refine kl_cr (va_runV (As := [.int (nI k)]) (rest := [.ref o]) ⟨hx, hb, hml, hown, hts⟩ (m_X4_house l dC dI ad S k hk hI) (cwV 1 hts gL_house_X4_house rfl rfl rfl hdX4_house_1 ⟨Nat.le_of_ble_eq_true rfl, Nat.le_of_ble_eq_true rfl⟩) (hX.preTop 57 6 (by decide) (by decide) rfl rfl) rfl rfl hl.1 rfl (lv_room (Nat.le_of_ble_eq_true rfl)) dL_house_3 ⟨Nat.le_of_ble_eq_true rfl, Nat.le_of_ble_eq_true rfl⟩) (fun r9 hw => ?_)
  refine lv_i2l (v := r9.toInt64) hx hb dL_house_6 rfl ?_
  refine kl_putn hx hb hts hin5 hown hX hO hno (host := "OrderlatticeLaw") (va_Nw.use rfl hPW.2.2.2.2.2.1) dL_house_7 (fun H locs hX hN => ?_)
  refine lv_goto (tgt := 16) hx hb dL_house_10 (by decide) ?_
  refine lv_iconst (v := nI 0) hx hb dL_house_16 (by decide) ?_
  exact W.widen (k := 1) (n := 6) (by simp) (by simp) (W.iret (v := nI 0) hx hb hr (fun t9 ht9 hW9 => ⟨⟨_, (S, r9.toInt64), rfl, ⟨LQ_same hI h5, (Or.inr ⟨k, r9, hk, rfl, rfl, rfl, hw, rfl⟩)⟩, hX.P ht9 hW9, by rw [ht9]; exact hN⟩, hX.2.2.2.F ht9⟩) hX.2.2.2.2.2 dL_house_17)
