set_option maxHeartbeats 4000000 in
set_option maxRecDepth 100000 in
theorem m_X2_told (l : Launch) (dC : Nat → ClassId) (dI : Nat → Nat → Nat) (cB : ClassId) (ad : Nat → Nat) (S : XS) (i : Nat) (hi : i < 8) (hrow : rowOK (S.1 i)) : Met l yX2_told wsX2_told ({ frames := 7, cells := 80, slots := 900, locals := 151 } : Room) (va_Pc [.ref (ad (3 * i))] (PT dC dI cB ad S)) (va_Qr (fun S1 : XS => S1 = S) (fun S1 _ t => PX dC dI ad S1 t) (AX ad)) 80 900 (AX ad) := by
  refine Met.ofW (cc := cX2_told) (maxL := 3) (ret := (some (.object "java/lang/String"))) pl_X2 rfl ?_
  intro p e s m args below meth c s₁ B hml hv
  obtain ⟨rfl, hPT⟩ := hv
  have hx := B.exec
  have hb := B.bytes
  have hr := B.returns
  have hts := atoms_spec (ws := wsX2_told) B.pre
  have hown : s.vm.findClass RX2 = some m.cls := findClass_of_methodNamed B.named
  have hlocks := B.notSynchronized
  have hin2 : ∀ w ∈ u_ws RX2 TX2 3, w ∈ wsX2_told := tu 1322 (by decide +kernel) rfl
  have hinJ4 : ∀ w ∈ u_ws RJ4 TJ4 4, w ∈ wsX2_told := tu 1326 (by decide +kernel) rfl
  have hN : NT s := hPT.2.2.2
  have hX := WX.ofT hPT
  have hT := TB.of hPT
  have hl := lv_entry ([.ref (ad (3 * i))]) (n := 3) (Nat.le_of_ble_eq_true rfl)
  rw [lg_entry_eq]
  generalize (lg_sl ([.ref (ad (3 * i))]) ++ List.replicate (3 - (lg_sl ([.ref (ad (3 * i))])).length) Slot.unset).toArray = ls at hl ⊢
  have hl : lv_has ls 3 [(0, .ref (ad (3 * i)))] := hl
  show W p l e ({ frames := 7, cells := 80, slots := 900, locals := 151 } : Room) s m ([.ref (ad (3 * i))]).toArray below meth c s.heap [] 0 0 (MQ below (va_Qr (fun S1 : XS => S1 = S) (fun S1 _ t => PX dC dI ad S1 t) (AX ad)) ([.ref (ad (3 * i))]).toArray s 80 900 (AX ad)) (F0 m 0 ls [])
  have hn := hrow.1
  refine kt_new hx hb hts hinJ4 hown (hts (.classLink RX2 62 RJ4) (tm 432 (by decide +kernel) rfl)) (hts (.instantiable RJ4 4) (tm 374 (by decide +kernel) rfl)) (hts (.initialized RJ4) (tm 328 (by decide +kernel) rfl)) hX hT (by show _ ≤ 80; omega) (by show _ ≤ 900; omega) dX2_told_0 (fun a9 H hX hT => ?_)
  refine lv_dup hx hb dX2_told_3 rfl ?_
  refine kt_v (va_runI (As := []) (rest := [.ref a9]) ⟨hx, hb, hml, hown, hts⟩ (m_J4_init_da8c8 l dC dI cB s.heap.size a9) (cwI 0 hts gX2_told_J4_init_da8c8 rfl rfl rfl (hts (.initialized yJ4_init_da8c8.cls) (tm 328 (by decide +kernel) rfl)) (hts (.methodLink RX2 64 yJ4_init_da8c8) (tm 433 (by decide +kernel) rfl)) (hts (.instanceMethod yJ4_init_da8c8) (tm 414 (by decide +kernel) rfl)) rfl (by decide +kernel) ⟨Nat.le_of_ble_eq_true rfl, Nat.le_of_ble_eq_true rfl⟩) (hT.preS hX) rfl rfl hl.1 rfl (lv_room (Nat.le_of_ble_eq_true rfl)) dX2_told_4 ⟨by show _ ≤ 80; omega, by show _ ≤ 900; omega⟩) hX hT (fun b0 H locs _ hX hT => ?_)
  refine W.widen (k := 2) (n := 4 + 2 * 16) (by omega) (by omega) ?_
  have hf : sb_Fit (fun _ => 0) := sb_fit0
  refine lv_astore_n (lv' := [(1, .ref a9), (0, .ref (ad (3 * i)))]) hx hb dX2_told_7 rfl hl (by decide) rfl (fun ls hl => ?_)
  refine lv_iconst (v := nI 0) hx hb dX2_told_8 (by decide) ?_
  refine lv_istore_n (lv' := [(2, .int (nI 0)), (1, .ref a9), (0, .ref (ad (3 * i)))]) hx hb dX2_told_9 rfl hl (by decide) rfl (fun ls hl => ?_)
  have loop10 : ∀ (fuel : Nat) (k : Nat) (b1 n1 c1 : Nat) (f1 : Nat → Int32) (hk : k ≤ (S.1 i).2.2) (hn1 : n1 ≤ 10 * k) (hnc : n1 ≤ c1 ∧ 16 ≤ c1 ∧ c1 ≤ 340) (hf : sb_Fit f1) (H : Heap) (locs : List Loc), (S.1 i).2.2 - k < fuel → WX dC dI ad S (AZ ad s.heap.size) s H locs → TB dC dI cB ad s.heap.size [(a9, eSB b1 n1), (b1, eBy cB c1 f1)] s H → ∀ ls : Array Slot, lv_has ls 3 [(0, .ref (ad (3 * i))), (1, .ref a9), (2, .int (nI k))] → W p l e ({ frames := 7, cells := 80, slots := 900, locals := 151 } : Room) s m ([.ref (ad (3 * i))]).toArray below meth c H locs (2 + 4 * k) (4 + 2 * c1) (MQ below (va_Qr (fun S1 : XS => S1 = S) (fun S1 _ t => PX dC dI ad S1 t) (AX ad)) ([.ref (ad (3 * i))]).toArray s 80 900 (AX ad)) (F0 m 10 ls []) := by
    intro fuel
    induction fuel with
    | zero => intro k b1 n1 c1 f1 hk hn1 hnc hf H locs hf9; exact absurd hf9 (Nat.not_lt_zero _)
    | succ fuel ih10 =>
      intro k b1 n1 c1 f1 hk hn1 hnc hf H locs hf9 hX hT ls hl
      refine lv_iload_n hx hb dX2_told_10 rfl (lv_at hl 2 rfl) ?_
      refine lv_aload_n hx hb dX2_told_11 rfl (lv_at hl 0 rfl) ?_
      refine kr_gn (n := (S.1 i).2.2) hx hb hts hin2 hown hX (by omega) rfl (hts (.fieldLink RX2 18 "Orderlattice$Row" "many" "I") (tm 27 (by decide +kernel) rfl)) dX2_told_12 ?_
      refine kn_icmp_ge (tgt := 51) hx hb (by omega) (by omega) dX2_told_15 (by decide) (fun k_1 => ?_) (fun k_1 => ?_)
      · skip
        refine lv_aload_n hx hb dX2_told_51 rfl (lv_at hl 1 rfl) ?_
        refine kt_r (va_runV (As := []) (rest := []) ⟨hx, hb, hml, hown, hts⟩ (m_J4_toString_0e30d l dC dI cB s.heap.size a9 b1 n1 c1 f1 (by omega) (by omega) hf) (cwV 0 hts gX2_told_J4_toString_0e30d rfl rfl rfl hdJ4_toString_0e30d_0 ⟨Nat.le_of_ble_eq_true rfl, Nat.le_of_ble_eq_true rfl⟩) (hT.preV hX (ci := 1) (q := (RJ4, TJ4, 4)) rfl 0 rfl) rfl rfl hl.1 rfl (lv_room (Nat.le_of_ble_eq_true rfl)) dX2_told_52 ⟨by show _ ≤ 80; omega, by show _ ≤ 900; omega⟩) hX hT (fun _ q9 H locs _ _ hX hT => ?_)
        exact W.widen (k := 80) (n := 900) (by omega) (by omega) (W.filt (fun locs1 hl1 => W.aret (v := .ref q9) hx hb hr (Or.inl ⟨_, rfl⟩) (Or.inr ⟨_, rfl⟩) (fun t9 ht9 hW9 => ⟨⟨S, _, rfl, rfl, hX.P ht9 hW9⟩, (hX.2.2.2.F ht9).X⟩) (free_X hX.2.2.2 hl1) dX2_told_55))
      · skip
        have hv9 := hrow.2 k (by omega)
        have hd1 := dg2 (v := (S.1 i).1 k) (by omega)
        have hd2 := dg6 (v := (S.1 i).2.1 k) (by omega)
        refine lv_aload_n hx hb dX2_told_18 rfl (lv_at hl 1 rfl) ?_
        have hcb := cap_b (q := n1 + 1) (cp := c1) (Q := 170) (by omega) (by omega)
        refine kt_gap (sl := 4) 170 (va_runSN (As := [.ref a9]) (rest := []) ⟨hx, hb, hml, hown, hts⟩ (m_X4_appendGap l dC dI cB s.heap.size a9 b1 n1 c1 f1 (by omega) (by omega) hf (by omega) (by omega)) ⟨va_cnB 1 hts gX2_told_X4_appendGap_n65 rfl rfl rfl hN.1 (hts (.initialized RX4) (tm 421 (by decide +kernel) rfl)) (by decide +kernel) ⟨Nat.le_of_ble_eq_true rfl, Nat.le_of_ble_eq_true rfl⟩, hts (.static yX4_appendGap) (by decide +kernel), trivial⟩ (hT.preS hX) rfl rfl hl.1 rfl (lv_room (Nat.le_of_ble_eq_true rfl)) dX2_told_19 ⟨by show _ ≤ 80; omega, by show _ ≤ 900; have := gm_pot (n1 + 1) c1; omega⟩) hX hT (by omega) (by omega) (fun b_2 n_2 c_2 f_2 H locs hX hT hf _ _ _ _ => ?_)
        refine lv_aload_n hx hb dX2_told_22 rfl (lv_at hl 1 rfl) ?_
        refine lv_aload_n hx hb dX2_told_23 rfl (lv_at hl 0 rfl) ?_
        refine lv_iload_n hx hb dX2_told_24 rfl (lv_at hl 2 rfl) ?_
        refine kx_cr (v := nI (((S.1 i).1) k)) (va_runV (As := [.int (nI k)]) (rest := [.ref a9]) ⟨hx, hb, hml, hown, hts⟩ (m_X2_valueOn l dC dI ad S i k (by omega) (by omega)) (cwV 1 hts gX2_told_X2_valueOn rfl rfl rfl hdX2_valueOn_1 ⟨Nat.le_of_ble_eq_true rfl, Nat.le_of_ble_eq_true rfl⟩) (hX.preRow (by omega)) rfl rfl hl.1 rfl (lv_room (Nat.le_of_ble_eq_true rfl)) dX2_told_25 ⟨by show _ ≤ 80; omega, by show _ ≤ 900; omega⟩) (fun _ h => h) ?_
        have hcb := cap_b (q := n_2 + sb_dg (((S.1 i).1) k)) (cp := c_2) (Q := 170) (by omega) (by omega)
        refine kt_app (sl := 4) (n2 := n_2 + sb_dg (((S.1 i).1) k)) 170 (va_runV (As := [.int (nI (((S.1 i).1) k))]) (rest := []) ⟨hx, hb, hml, hown, hts⟩ (m_J4_append_bf812 l dC dI cB s.heap.size a9 b_2 n_2 c_2 f_2 (by omega) (by omega) hf (((S.1 i).1) k) (by omega) (by omega)) (cwV 1 hts gX2_told_J4_append_bf812 rfl rfl rfl hdJ4_append_bf812_1 ⟨Nat.le_of_ble_eq_true rfl, Nat.le_of_ble_eq_true rfl⟩) (hT.preV hX (ci := 1) (q := (RJ4, TJ4, 4)) rfl 0 rfl) rfl rfl hl.1 rfl (lv_room (Nat.le_of_ble_eq_true rfl)) dX2_told_28 ⟨by show _ ≤ 80; omega, by show _ ≤ 900; have := gm_pot (n_2 + sb_dg (((S.1 i).1) k)) c_2; omega⟩) hX hT (by omega) (by omega) (fun b_3 c_3 f_3 H locs hX hT hf _ _ _ => ?_)
        refine lv_bipush (v := nI 46) hx hb dX2_told_31 (by decide) ?_
        have hcb := cap_b (q := n_2 + sb_dg (((S.1 i).1) k) + 1) (cp := c_3) (Q := 170) (by omega) (by omega)
        refine kt_app (sl := 4) (n2 := n_2 + sb_dg (((S.1 i).1) k) + 1) 170 (va_runV (As := [.int (nI 46)]) (rest := []) ⟨hx, hb, hml, hown, hts⟩ (m_J4_append_cf468 l dC dI cB s.heap.size a9 b_3 (n_2 + sb_dg (((S.1 i).1) k)) c_3 f_3 (by omega) (by omega) hf 46 (by omega) (by omega)) (cwV 1 hts gX2_told_J4_append_cf468 rfl rfl rfl hdJ4_append_cf468_1 ⟨Nat.le_of_ble_eq_true rfl, Nat.le_of_ble_eq_true rfl⟩) (hT.preV hX (ci := 1) (q := (RJ4, TJ4, 4)) rfl 0 rfl) rfl rfl hl.1 rfl (lv_room (Nat.le_of_ble_eq_true rfl)) dX2_told_33 ⟨by show _ ≤ 80; omega, by show _ ≤ 900; have := gm_pot (n_2 + sb_dg (((S.1 i).1) k) + 1) c_3; omega⟩) hX hT (by omega) (by omega) (fun b_4 c_4 f_4 H locs hX hT hf _ _ _ => ?_)
        refine lv_aload_n hx hb dX2_told_36 rfl (lv_at hl 0 rfl) ?_
        refine lv_iload_n hx hb dX2_told_37 rfl (lv_at hl 2 rfl) ?_
        refine kx_cr (v := nI (((S.1 i).2.1) k)) (va_runV (As := [.int (nI k)]) (rest := [.ref a9]) ⟨hx, hb, hml, hown, hts⟩ (m_X2_markOn l dC dI ad S i k (by omega) (by omega)) (cwV 1 hts gX2_told_X2_markOn rfl rfl rfl hdX2_markOn_1 ⟨Nat.le_of_ble_eq_true rfl, Nat.le_of_ble_eq_true rfl⟩) (hX.preRow (by omega)) rfl rfl hl.1 rfl (lv_room (Nat.le_of_ble_eq_true rfl)) dX2_told_38 ⟨by show _ ≤ 80; omega, by show _ ≤ 900; omega⟩) (fun _ h => h) ?_
        have hcb := cap_b (q := n_2 + sb_dg (((S.1 i).1) k) + 1 + sb_dg (((S.1 i).2.1) k)) (cp := c_4) (Q := 170) (by omega) (by omega)
        refine kt_app (sl := 4) (n2 := n_2 + sb_dg (((S.1 i).1) k) + 1 + sb_dg (((S.1 i).2.1) k)) 170 (va_runV (As := [.int (nI (((S.1 i).2.1) k))]) (rest := []) ⟨hx, hb, hml, hown, hts⟩ (m_J4_append_bf812 l dC dI cB s.heap.size a9 b_4 (n_2 + sb_dg (((S.1 i).1) k) + 1) c_4 f_4 (by omega) (by omega) hf (((S.1 i).2.1) k) (by omega) (by omega)) (cwV 1 hts gX2_told_J4_append_bf812 rfl rfl rfl hdJ4_append_bf812_1 ⟨Nat.le_of_ble_eq_true rfl, Nat.le_of_ble_eq_true rfl⟩) (hT.preV hX (ci := 1) (q := (RJ4, TJ4, 4)) rfl 0 rfl) rfl rfl hl.1 rfl (lv_room (Nat.le_of_ble_eq_true rfl)) dX2_told_41 ⟨by show _ ≤ 80; omega, by show _ ≤ 900; have := gm_pot (n_2 + sb_dg (((S.1 i).1) k) + 1 + sb_dg (((S.1 i).2.1) k)) c_4; omega⟩) hX hT (by omega) (by omega) (fun b_5 c_5 f_5 H locs hX hT hf _ _ _ => ?_)
        refine lv_pop hx hb dX2_told_44 rfl ?_
        refine lv_iinc (v := nI (k + 1)) (lv' := [(2, .int (nI (k + 1))), (0, .ref (ad (3 * i))), (1, .ref a9)]) hx hb dX2_told_45 hl (k := 2) rfl (nI_1 k) (by decide) rfl (fun ls hl => ?_)
        refine lv_goto (tgt := 10) hx hb dX2_told_48 (by decide) ?_
        refine W.widen (k := 2 + 4 * (k + 1)) (n := 4 + 2 * c_5) (by omega) (by omega) ?_
        exact ih10  (k + 1) b_5 (n_2 + sb_dg (((S.1 i).1) k) + 1 + sb_dg (((S.1 i).2.1) k)) c_5 f_5 (by omega) (by omega) (by omega) hf _ _ (by omega) hX hT _ (lv_sub hl [1, 2, 0] rfl)
  refine W.widen (k := 2 + 4 * 0) (n := 4 + 2 * 16) (by omega) (by omega) ?_
  exact loop10 ((S.1 i).2.2 + 1) 0 b0 0 16 (fun _ => 0) (by omega) (by omega) (by omega) hf _ _ (by omega) hX hT _ (lv_sub hl [2, 1, 0] rfl)
set_option maxHeartbeats 4000000 in
set_option maxRecDepth 100000 in
theorem m_X1_told (l : Launch) (dC : Nat → ClassId) (dI : Nat → Nat → Nat) (cB : ClassId) (ad : Nat → Nat) (S : XS) (j : Nat) (hj : j < 6) (ho : ordOK (S.2.1 j)) : Met l yX1_told wsX1_told ({ frames := 7, cells := 80, slots := 900, locals := 151 } : Room) (va_Pc [.ref (ad (24 + 5 * j))] (PT dC dI cB ad S)) (va_Qr (fun S1 : XS => S1 = S) (fun S1 _ t => PX dC dI ad S1 t) (AX ad)) 80 900 (AX ad) := by
  refine Met.ofW (cc := cX1_told) (maxL := 3) (ret := (some (.object "java/lang/String"))) pl_X1 rfl ?_
  intro p e s m args below meth c s₁ B hml hv
  obtain ⟨rfl, hPT⟩ := hv
  have hx := B.exec
  have hb := B.bytes
  have hr := B.returns
  have hts := atoms_spec (ws := wsX1_told) B.pre
  have hown : s.vm.findClass RX1 = some m.cls := findClass_of_methodNamed B.named
  have hlocks := B.notSynchronized
  have hin1 : ∀ w ∈ u_ws RX1 TX1 6, w ∈ wsX1_told := tu 1324 (by decide +kernel) rfl
  have hinJ4 : ∀ w ∈ u_ws RJ4 TJ4 4, w ∈ wsX1_told := tu 1326 (by decide +kernel) rfl
  have hN : NT s := hPT.2.2.2
  have hX := WX.ofT hPT
  have hT := TB.of hPT
  have hl := lv_entry ([.ref (ad (24 + 5 * j))]) (n := 3) (Nat.le_of_ble_eq_true rfl)
  rw [lg_entry_eq]
  generalize (lg_sl ([.ref (ad (24 + 5 * j))]) ++ List.replicate (3 - (lg_sl ([.ref (ad (24 + 5 * j))])).length) Slot.unset).toArray = ls at hl ⊢
  have hl : lv_has ls 3 [(0, .ref (ad (24 + 5 * j)))] := hl
  show W p l e ({ frames := 7, cells := 80, slots := 900, locals := 151 } : Room) s m ([.ref (ad (24 + 5 * j))]).toArray below meth c s.heap [] 0 0 (MQ below (va_Qr (fun S1 : XS => S1 = S) (fun S1 _ t => PX dC dI ad S1 t) (AX ad)) ([.ref (ad (24 + 5 * j))]).toArray s 80 900 (AX ad)) (F0 m 0 ls [])
  have hn := ho.1.1
  refine kt_new hx hb hts hinJ4 hown (hts (.classLink RX1 62 RJ4) (tm 412 (by decide +kernel) rfl)) (hts (.instantiable RJ4 4) (tm 374 (by decide +kernel) rfl)) (hts (.initialized RJ4) (tm 328 (by decide +kernel) rfl)) hX hT (by show _ ≤ 80; omega) (by show _ ≤ 900; omega) dX1_told_0 (fun a9 H hX hT => ?_)
  refine lv_dup hx hb dX1_told_3 rfl ?_
  refine kt_v (va_runI (As := []) (rest := [.ref a9]) ⟨hx, hb, hml, hown, hts⟩ (m_J4_init_da8c8 l dC dI cB s.heap.size a9) (cwI 0 hts gX1_told_J4_init_da8c8 rfl rfl rfl (hts (.initialized yJ4_init_da8c8.cls) (tm 328 (by decide +kernel) rfl)) (hts (.methodLink RX1 64 yJ4_init_da8c8) (tm 413 (by decide +kernel) rfl)) (hts (.instanceMethod yJ4_init_da8c8) (tm 414 (by decide +kernel) rfl)) rfl (by decide +kernel) ⟨Nat.le_of_ble_eq_true rfl, Nat.le_of_ble_eq_true rfl⟩) (hT.preS hX) rfl rfl hl.1 rfl (lv_room (Nat.le_of_ble_eq_true rfl)) dX1_told_4 ⟨by show _ ≤ 80; omega, by show _ ≤ 900; omega⟩) hX hT (fun b0 H locs _ hX hT => ?_)
  refine W.widen (k := 2) (n := 4 + 2 * 16) (by omega) (by omega) ?_
  have hf : sb_Fit (fun _ => 0) := sb_fit0
  refine lv_astore_n (lv' := [(1, .ref a9), (0, .ref (ad (24 + 5 * j)))]) hx hb dX1_told_7 rfl hl (by decide) rfl (fun ls hl => ?_)
  refine lv_iconst (v := nI 0) hx hb dX1_told_8 (by decide) ?_
  refine lv_istore_n (lv' := [(2, .int (nI 0)), (1, .ref a9), (0, .ref (ad (24 + 5 * j)))]) hx hb dX1_told_9 rfl hl (by decide) rfl (fun ls hl => ?_)
  have loop10 : ∀ (fuel : Nat) (k : Nat) (b1 n1 c1 : Nat) (f1 : Nat → Int32) (hk : k ≤ (S.2.1 j).2.2.2.2.1) (hn1 : n1 ≤ 10 * k) (hnc : n1 ≤ c1 ∧ 16 ≤ c1 ∧ c1 ≤ 340) (hf : sb_Fit f1) (H : Heap) (locs : List Loc), (S.2.1 j).2.2.2.2.1 - k < fuel → WX dC dI ad S (AZ ad s.heap.size) s H locs → TB dC dI cB ad s.heap.size [(a9, eSB b1 n1), (b1, eBy cB c1 f1)] s H → ∀ ls : Array Slot, lv_has ls 3 [(0, .ref (ad (24 + 5 * j))), (1, .ref a9), (2, .int (nI k))] → W p l e ({ frames := 7, cells := 80, slots := 900, locals := 151 } : Room) s m ([.ref (ad (24 + 5 * j))]).toArray below meth c H locs (2 + 4 * k) (4 + 2 * c1) (MQ below (va_Qr (fun S1 : XS => S1 = S) (fun S1 _ t => PX dC dI ad S1 t) (AX ad)) ([.ref (ad (24 + 5 * j))]).toArray s 80 900 (AX ad)) (F0 m 10 ls []) := by
    intro fuel
    induction fuel with
    | zero => intro k b1 n1 c1 f1 hk hn1 hnc hf H locs hf9; exact absurd hf9 (Nat.not_lt_zero _)
    | succ fuel ih10 =>
      intro k b1 n1 c1 f1 hk hn1 hnc hf H locs hf9 hX hT ls hl
      refine lv_iload_n hx hb dX1_told_10 rfl (lv_at hl 2 rfl) ?_
      refine lv_aload_n hx hb dX1_told_11 rfl (lv_at hl 0 rfl) ?_
      refine ko_gn (n := (S.2.1 j).2.2.2.2.1) hx hb hts hin1 hown hX (by omega) rfl (hts (.fieldLink RX1 26 "Orderlattice$Order" "many" "I") (tm 37 (by decide +kernel) rfl)) dX1_told_12 ?_
      refine kn_icmp_ge (tgt := 56) hx hb (by omega) (by omega) dX1_told_15 (by decide) (fun k_1 => ?_) (fun k_1 => ?_)
      · skip
        refine lv_aload_n hx hb dX1_told_56 rfl (lv_at hl 1 rfl) ?_
        refine kt_r (va_runV (As := []) (rest := []) ⟨hx, hb, hml, hown, hts⟩ (m_J4_toString_0e30d l dC dI cB s.heap.size a9 b1 n1 c1 f1 (by omega) (by omega) hf) (cwV 0 hts gX1_told_J4_toString_0e30d rfl rfl rfl hdJ4_toString_0e30d_0 ⟨Nat.le_of_ble_eq_true rfl, Nat.le_of_ble_eq_true rfl⟩) (hT.preV hX (ci := 1) (q := (RJ4, TJ4, 4)) rfl 0 rfl) rfl rfl hl.1 rfl (lv_room (Nat.le_of_ble_eq_true rfl)) dX1_told_57 ⟨by show _ ≤ 80; omega, by show _ ≤ 900; omega⟩) hX hT (fun _ q9 H locs _ _ hX hT => ?_)
        exact W.widen (k := 80) (n := 900) (by omega) (by omega) (W.filt (fun locs1 hl1 => W.aret (v := .ref q9) hx hb hr (Or.inl ⟨_, rfl⟩) (Or.inr ⟨_, rfl⟩) (fun t9 ht9 hW9 => ⟨⟨S, _, rfl, rfl, hX.P ht9 hW9⟩, (hX.2.2.2.F ht9).X⟩) (free_X hX.2.2.2 hl1) dX1_told_60))
      · skip
        have hk9 := ho.1.2 k (by omega)
        have hd1 := dg2 (v := (S.2.1 j).1 k) (by omega)
        refine lv_aload_n hx hb dX1_told_18 rfl (lv_at hl 1 rfl) ?_
        have hcb := cap_b (q := n1 + 1) (cp := c1) (Q := 170) (by omega) (by omega)
        refine kt_gap (sl := 4) 170 (va_runSN (As := [.ref a9]) (rest := []) ⟨hx, hb, hml, hown, hts⟩ (m_X4_appendGap l dC dI cB s.heap.size a9 b1 n1 c1 f1 (by omega) (by omega) hf (by omega) (by omega)) ⟨va_cnB 1 hts gX1_told_X4_appendGap_n65 rfl rfl rfl hN.2 (hts (.initialized RX4) (tm 421 (by decide +kernel) rfl)) (by decide +kernel) ⟨Nat.le_of_ble_eq_true rfl, Nat.le_of_ble_eq_true rfl⟩, hts (.static yX4_appendGap) (by decide +kernel), trivial⟩ (hT.preS hX) rfl rfl hl.1 rfl (lv_room (Nat.le_of_ble_eq_true rfl)) dX1_told_19 ⟨by show _ ≤ 80; omega, by show _ ≤ 900; have := gm_pot (n1 + 1) c1; omega⟩) hX hT (by omega) (by omega) (fun b_2 n_2 c_2 f_2 H locs hX hT hf _ _ _ _ => ?_)
        refine lv_aload_n hx hb dX1_told_22 rfl (lv_at hl 1 rfl) ?_
        refine lv_aload_n hx hb dX1_told_23 rfl (lv_at hl 0 rfl) ?_
        refine lv_iload_n hx hb dX1_told_24 rfl (lv_at hl 2 rfl) ?_
        refine kx_cr (v := nI (((S.2.1 j).1) k)) (va_runV (As := [.int (nI k)]) (rest := [.ref a9]) ⟨hx, hb, hml, hown, hts⟩ (m_X1_keyOn l dC dI ad S j k (by omega) (by omega)) (cwV 1 hts gX1_told_X1_keyOn rfl rfl rfl hdX1_keyOn_1 ⟨Nat.le_of_ble_eq_true rfl, Nat.le_of_ble_eq_true rfl⟩) (hX.preOrd (by omega)) rfl rfl hl.1 rfl (lv_room (Nat.le_of_ble_eq_true rfl)) dX1_told_25 ⟨by show _ ≤ 80; omega, by show _ ≤ 900; omega⟩) (fun _ h => h) ?_
        have hcb := cap_b (q := n_2 + sb_dg (((S.2.1 j).1) k)) (cp := c_2) (Q := 170) (by omega) (by omega)
        refine kt_app (sl := 4) (n2 := n_2 + sb_dg (((S.2.1 j).1) k)) 170 (va_runV (As := [.int (nI (((S.2.1 j).1) k))]) (rest := []) ⟨hx, hb, hml, hown, hts⟩ (m_J4_append_bf812 l dC dI cB s.heap.size a9 b_2 n_2 c_2 f_2 (by omega) (by omega) hf (((S.2.1 j).1) k) (by omega) (by omega)) (cwV 1 hts gX1_told_J4_append_bf812 rfl rfl rfl hdJ4_append_bf812_1 ⟨Nat.le_of_ble_eq_true rfl, Nat.le_of_ble_eq_true rfl⟩) (hT.preV hX (ci := 1) (q := (RJ4, TJ4, 4)) rfl 0 rfl) rfl rfl hl.1 rfl (lv_room (Nat.le_of_ble_eq_true rfl)) dX1_told_28 ⟨by show _ ≤ 80; omega, by show _ ≤ 900; have := gm_pot (n_2 + sb_dg (((S.2.1 j).1) k)) c_2; omega⟩) hX hT (by omega) (by omega) (fun b_3 c_3 f_3 H locs hX hT hf _ _ _ => ?_)
        refine lv_aload_n hx hb dX1_told_31 rfl (lv_at hl 0 rfl) ?_
        refine lv_iload_n hx hb dX1_told_32 rfl (lv_at hl 2 rfl) ?_
        refine kx_cr (v := bI (((S.2.1 j).2.1) k)) (va_runV (As := [.int (nI k)]) (rest := [.ref a9]) ⟨hx, hb, hml, hown, hts⟩ (m_X1_isDownOn l dC dI ad S j k (by omega) (by omega)) (cwV 1 hts gX1_told_X1_isDownOn rfl rfl rfl hdX1_isDownOn_1 ⟨Nat.le_of_ble_eq_true rfl, Nat.le_of_ble_eq_true rfl⟩) (hX.preOrd (by omega)) rfl rfl hl.1 rfl (lv_room (Nat.le_of_ble_eq_true rfl)) dX1_told_33 ⟨by show _ ≤ 80; omega, by show _ ≤ 900; omega⟩) (fun _ h => h) ?_
        refine kb_if_eq (tgt := 44) hx hb dX1_told_36 (by decide) (fun k_4 => ?_) (fun k_4 => ?_)
        · skip
          refine lv_bipush (v := nI 43) hx hb dX1_told_44 (by decide) ?_
          have hcb := cap_b (q := n_2 + sb_dg (((S.2.1 j).1) k) + 1) (cp := c_3) (Q := 170) (by omega) (by omega)
          refine kt_app (sl := 4) (n2 := n_2 + sb_dg (((S.2.1 j).1) k) + 1) 170 (va_runV (As := [.int (nI 43)]) (rest := []) ⟨hx, hb, hml, hown, hts⟩ (m_J4_append_cf468 l dC dI cB s.heap.size a9 b_3 (n_2 + sb_dg (((S.2.1 j).1) k)) c_3 f_3 (by omega) (by omega) hf 43 (by omega) (by omega)) (cwV 1 hts gX1_told_J4_append_cf468 rfl rfl rfl hdJ4_append_cf468_1 ⟨Nat.le_of_ble_eq_true rfl, Nat.le_of_ble_eq_true rfl⟩) (hT.preV hX (ci := 1) (q := (RJ4, TJ4, 4)) rfl 0 rfl) rfl rfl hl.1 rfl (lv_room (Nat.le_of_ble_eq_true rfl)) dX1_told_46 ⟨by show _ ≤ 80; omega, by show _ ≤ 900; have := gm_pot (n_2 + sb_dg (((S.2.1 j).1) k) + 1) c_3; omega⟩) hX hT (by omega) (by omega) (fun b_5 c_5 f_5 H locs hX hT hf _ _ _ => ?_)
          refine lv_pop hx hb dX1_told_49 rfl ?_
          refine lv_iinc (v := nI (k + 1)) (lv' := [(2, .int (nI (k + 1))), (0, .ref (ad (24 + 5 * j))), (1, .ref a9)]) hx hb dX1_told_50 hl (k := 2) rfl (nI_1 k) (by decide) rfl (fun ls hl => ?_)
          refine lv_goto (tgt := 10) hx hb dX1_told_53 (by decide) ?_
          refine W.widen (k := 2 + 4 * (k + 1)) (n := 4 + 2 * c_5) (by omega) (by omega) ?_
          exact ih10  (k + 1) b_5 (n_2 + sb_dg (((S.2.1 j).1) k) + 1) c_5 f_5 (by omega) (by omega) (by omega) hf _ _ (by omega) hX hT _ (lv_sub hl [1, 2, 0] rfl)
        · skip
          refine lv_bipush (v := nI 45) hx hb dX1_told_39 (by decide) ?_
          refine lv_goto (tgt := 46) hx hb dX1_told_41 (by decide) ?_
          have hcb := cap_b (q := n_2 + sb_dg (((S.2.1 j).1) k) + 1) (cp := c_3) (Q := 170) (by omega) (by omega)
          refine kt_app (sl := 4) (n2 := n_2 + sb_dg (((S.2.1 j).1) k) + 1) 170 (va_runV (As := [.int (nI 45)]) (rest := []) ⟨hx, hb, hml, hown, hts⟩ (m_J4_append_cf468 l dC dI cB s.heap.size a9 b_3 (n_2 + sb_dg (((S.2.1 j).1) k)) c_3 f_3 (by omega) (by omega) hf 45 (by omega) (by omega)) (cwV 1 hts gX1_told_J4_append_cf468 rfl rfl rfl hdJ4_append_cf468_1 ⟨Nat.le_of_ble_eq_true rfl, Nat.le_of_ble_eq_true rfl⟩) (hT.preV hX (ci := 1) (q := (RJ4, TJ4, 4)) rfl 0 rfl) rfl rfl hl.1 rfl (lv_room (Nat.le_of_ble_eq_true rfl)) dX1_told_46 ⟨by show _ ≤ 80; omega, by show _ ≤ 900; have := gm_pot (n_2 + sb_dg (((S.2.1 j).1) k) + 1) c_3; omega⟩) hX hT (by omega) (by omega) (fun b_6 c_6 f_6 H locs hX hT hf _ _ _ => ?_)
          refine lv_pop hx hb dX1_told_49 rfl ?_
          refine lv_iinc (v := nI (k + 1)) (lv' := [(2, .int (nI (k + 1))), (0, .ref (ad (24 + 5 * j))), (1, .ref a9)]) hx hb dX1_told_50 hl (k := 2) rfl (nI_1 k) (by decide) rfl (fun ls hl => ?_)
          refine lv_goto (tgt := 10) hx hb dX1_told_53 (by decide) ?_
          refine W.widen (k := 2 + 4 * (k + 1)) (n := 4 + 2 * c_6) (by omega) (by omega) ?_
          exact ih10  (k + 1) b_6 (n_2 + sb_dg (((S.2.1 j).1) k) + 1) c_6 f_6 (by omega) (by omega) (by omega) hf _ _ (by omega) hX hT _ (lv_sub hl [1, 2, 0] rfl)
  refine W.widen (k := 2 + 4 * 0) (n := 4 + 2 * 16) (by omega) (by omega) ?_
  exact loop10 ((S.2.1 j).2.2.2.2.1 + 1) 0 b0 0 16 (fun _ => 0) (by omega) (by omega) (by omega) hf _ _ (by omega) hX hT _ (lv_sub hl [2, 1, 0] rfl)
set_option maxHeartbeats 4000000 in
set_option maxRecDepth 100000 in
theorem m_X4_text (l : Launch) (dC : Nat → ClassId) (dI : Nat → Nat → Nat) (cB : ClassId) (ad : Nat → Nat) (S : XS) (i : Nat) (hi : i < 3) (hI : InvX S) : Met l yX4_text wsX4_text ({ frames := 8, cells := 80, slots := 900, locals := 173 } : Room) (va_Pc [.ref (ad 57), .int (nI i)] (PT dC dI cB ad S)) (va_Qr (fun S1 : XS => S1 = S) (fun S1 _ t => PX dC dI ad S1 t) (AX ad)) 80 900 (AX ad) := by
  refine Met.ofW (cc := cX4_text) (maxL := 2) (ret := (some (.object "java/lang/String"))) pl_X4 rfl ?_
  intro p e s m args below meth c s₁ B hml hv
  obtain ⟨rfl, hPT⟩ := hv
  have hx := B.exec
  have hb := B.bytes
  have hr := B.returns
  have hts := atoms_spec (ws := wsX4_text) B.pre
  have hown : s.vm.findClass RX4 = some m.cls := findClass_of_methodNamed B.named
  have hlocks := B.notSynchronized
  have hN : NT s := hPT.2.2.2
  have hX := WX.ofT hPT
  have hT := TB.of hPT
  have hl := lv_entry ([.ref (ad 57), .int (nI i)]) (n := 2) (Nat.le_of_ble_eq_true rfl)
  rw [lg_entry_eq]
  generalize (lg_sl ([.ref (ad 57), .int (nI i)]) ++ List.replicate (2 - (lg_sl ([.ref (ad 57), .int (nI i)])).length) Slot.unset).toArray = ls at hl ⊢
  have hl : lv_has ls 2 [(0, .ref (ad 57)), (1, .int (nI i))] := hl
  show W p l e ({ frames := 8, cells := 80, slots := 900, locals := 173 } : Room) s m ([.ref (ad 57), .int (nI i)]).toArray below meth c s.heap [] 0 0 (MQ below (va_Qr (fun S1 : XS => S1 = S) (fun S1 _ t => PX dC dI ad S1 t) (AX ad)) ([.ref (ad 57), .int (nI i)]).toArray s 80 900 (AX ad)) (F0 m 0 ls [])
  refine lv_aload_n hx hb dX4_text_0 rfl (lv_at hl 0 rfl) ?_
  refine lv_iload_n hx hb dX4_text_1 rfl (lv_at hl 1 rfl) ?_
  refine va_csr (va_Run.run (va_runV (As := [.int (nI i)]) (rest := []) ⟨hx, hb, hml, hown, hts⟩ (m_X4_rowAt l dC dI ad S i (by omega)) (cwV 1 hts gX4_text_X4_rowAt rfl rfl rfl hdX4_rowAt_1 ⟨Nat.le_of_ble_eq_true rfl, Nat.le_of_ble_eq_true rfl⟩) (hX.preTop 57 6 (by decide) (by decide) rfl rfl) rfl rfl hl.1 rfl (lv_room (Nat.le_of_ble_eq_true rfl)) dX4_text_2 ⟨by show _ ≤ 80; omega, by show _ ≤ 900; omega⟩)) (fun k_ hk_ => ?_)
  rw [hk_]
  refine kt_t (va_runV (As := []) (rest := []) ⟨hx, hb, hml, hown, hts⟩ (m_X2_told l dC dI cB ad S i (by omega) (hI.1 i (by omega))) (cwV 0 hts gX4_text_X2_told rfl rfl rfl hdX2_told_0 ⟨Nat.le_of_ble_eq_true rfl, Nat.le_of_ble_eq_true rfl⟩) (hT.preRow hX hN (by omega)) rfl rfl hl.1 rfl (lv_room (Nat.le_of_ble_eq_true rfl)) dX4_text_5 ⟨by show 0 + _ ≤ _; simp, by show 0 + _ ≤ _; simp⟩) hX hT (fun S1 q9 H locs hS9 hX hT => ?_)
  rw [hS9] at hX
  exact W.widen (k := 80) (n := 900) (by omega) (by omega) (W.filt (fun locs1 hl1 => W.aret (v := .ref q9) hx hb hr (Or.inl ⟨_, rfl⟩) (Or.inr ⟨_, rfl⟩) (fun t9 ht9 hW9 => ⟨⟨S, _, rfl, rfl, hX.P ht9 hW9⟩, (hX.2.2.2.F ht9).X⟩) (free_X hX.2.2.2 hl1) dX4_text_8))
set_option maxHeartbeats 4000000 in
set_option maxRecDepth 100000 in
theorem m_X4_orderText (l : Launch) (dC : Nat → ClassId) (dI : Nat → Nat → Nat) (cB : ClassId) (ad : Nat → Nat) (S : XS) (j : Nat) (hj : j < 4) (hI : InvX S) : Met l yX4_orderText wsX4_orderText ({ frames := 8, cells := 80, slots := 900, locals := 173 } : Room) (va_Pc [.ref (ad 57), .int (nI j)] (PT dC dI cB ad S)) (va_Qr (fun S1 : XS => S1 = S) (fun S1 _ t => PX dC dI ad S1 t) (AX ad)) 80 900 (AX ad) := by
  refine Met.ofW (cc := cX4_orderText) (maxL := 2) (ret := (some (.object "java/lang/String"))) pl_X4 rfl ?_
  intro p e s m args below meth c s₁ B hml hv
  obtain ⟨rfl, hPT⟩ := hv
  have hx := B.exec
  have hb := B.bytes
  have hr := B.returns
  have hts := atoms_spec (ws := wsX4_orderText) B.pre
  have hown : s.vm.findClass RX4 = some m.cls := findClass_of_methodNamed B.named
  have hlocks := B.notSynchronized
  have hN : NT s := hPT.2.2.2
  have hX := WX.ofT hPT
  have hT := TB.of hPT
  have hl := lv_entry ([.ref (ad 57), .int (nI j)]) (n := 2) (Nat.le_of_ble_eq_true rfl)
  rw [lg_entry_eq]
  generalize (lg_sl ([.ref (ad 57), .int (nI j)]) ++ List.replicate (2 - (lg_sl ([.ref (ad 57), .int (nI j)])).length) Slot.unset).toArray = ls at hl ⊢
  have hl : lv_has ls 2 [(0, .ref (ad 57)), (1, .int (nI j))] := hl
  show W p l e ({ frames := 8, cells := 80, slots := 900, locals := 173 } : Room) s m ([.ref (ad 57), .int (nI j)]).toArray below meth c s.heap [] 0 0 (MQ below (va_Qr (fun S1 : XS => S1 = S) (fun S1 _ t => PX dC dI ad S1 t) (AX ad)) ([.ref (ad 57), .int (nI j)]).toArray s 80 900 (AX ad)) (F0 m 0 ls [])
  refine lv_aload_n hx hb dX4_orderText_0 rfl (lv_at hl 0 rfl) ?_
  refine lv_iload_n hx hb dX4_orderText_1 rfl (lv_at hl 1 rfl) ?_
  refine va_csr (va_Run.run (va_runV (As := [.int (nI j)]) (rest := []) ⟨hx, hb, hml, hown, hts⟩ (m_X4_orderAt l dC dI ad S j (by omega)) (cwV 1 hts gX4_orderText_X4_orderAt rfl rfl rfl hdX4_orderAt_1 ⟨Nat.le_of_ble_eq_true rfl, Nat.le_of_ble_eq_true rfl⟩) (hX.preTop 57 6 (by decide) (by decide) rfl rfl) rfl rfl hl.1 rfl (lv_room (Nat.le_of_ble_eq_true rfl)) dX4_orderText_2 ⟨by show _ ≤ 80; omega, by show _ ≤ 900; omega⟩)) (fun k_ hk_ => ?_)
  rw [hk_]
  refine kt_t (va_runV (As := []) (rest := []) ⟨hx, hb, hml, hown, hts⟩ (m_X1_told l dC dI cB ad S j (by omega) (hI.2 j (by omega))) (cwV 0 hts gX4_orderText_X1_told rfl rfl rfl hdX1_told_0 ⟨Nat.le_of_ble_eq_true rfl, Nat.le_of_ble_eq_true rfl⟩) (hT.preOrd hX hN (by omega)) rfl rfl hl.1 rfl (lv_room (Nat.le_of_ble_eq_true rfl)) dX4_orderText_5 ⟨by show 0 + _ ≤ _; simp, by show 0 + _ ≤ _; simp⟩) hX hT (fun S1 q9 H locs hS9 hX hT => ?_)
  rw [hS9] at hX
  exact W.widen (k := 80) (n := 900) (by omega) (by omega) (W.filt (fun locs1 hl1 => W.aret (v := .ref q9) hx hb hr (Or.inl ⟨_, rfl⟩) (Or.inr ⟨_, rfl⟩) (fun t9 ht9 hW9 => ⟨⟨S, _, rfl, rfl, hX.P ht9 hW9⟩, (hX.2.2.2.F ht9).X⟩) (free_X hX.2.2.2 hl1) dX4_orderText_8))
