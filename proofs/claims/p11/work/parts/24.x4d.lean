/-! the object's calls -/
def exI (o : Option Nat) (f : Nat → Nat) : Int32 := match o with
  | none => -1
  | some b => nI (f b)
def coarseD (o : OrdS) (k : Nat) (z : Bool) : Nat := classC (codeOf (va_up o.1 o.2.2.2.2.1 k) (va_up o.2.1 o.2.2.2.2.1 z) (o.2.2.2.2.1 + 1))
theorem fillV (f : Nat → Nat) (k2 k3 n a : Nat) : va_up (apn f (fun x => (k2 + x * k3) % 16) n a) (n + a) ((k2 + a * k3) % 16) = apn f (fun x => (k2 + x * k3) % 16) n (a + 1) := apn_up f (fun x => (k2 + x * k3) % 16) n a
theorem fillM (f : Nat → Nat) (p n a : Nat) : va_up (apn f (fun x => p + x) n a) (n + a) (p + a) = apn f (fun x => p + x) n (a + 1) := apn_up f (fun x => p + x) n a
set_option maxHeartbeats 4000000 in
set_option maxRecDepth 100000 in
theorem m_X4_put (l : Launch) (dC : Nat → ClassId) (dI : Nat → Nat → Nat) (ad : Nat → Nat) (S : XS) (i : Nat) (v : Nat) (hi : i < 3) (hv : v < 16) (hI : InvX S) : Met l yX4_put wsX4_put ({ frames := 3, cells := 0, slots := 0, locals := 71 } : Room) (va_Pc [.ref (ad 57), .int (nI i), .int (nI v)] (PX dC dI ad S)) (va_Qi (fun r S' => ((S.1 i).2.2 < 12 ∧ r = nI S.2.2.1 ∧ S' = placeT S i ((S.1 i).2.2) v) ∨ (12 ≤ (S.1 i).2.2 ∧ r = -9 ∧ S' = refT S)) (PX dC dI ad) (AX ad)) 0 0 (AX ad) := by
  refine Met.ofW (cc := cX4_put) (maxL := 4) (ret := (some .int)) pl_X4 rfl ?_
  intro p e s m args below meth c s₁ B hml hv
  obtain ⟨rfl, hPX⟩ := hv
  have hx := B.exec
  have hb := B.bytes
  have hr := B.returns
  have hts := atoms_spec (ws := wsX4_put) B.pre
  have hown : s.vm.findClass RX4 = some m.cls := findClass_of_methodNamed B.named
  have hlocks := B.notSynchronized
  have hX := WX.of hPX
  have hl := lv_entry ([.ref (ad 57), .int (nI i), .int (nI v)]) (n := 4) (Nat.le_of_ble_eq_true rfl)
  rw [lg_entry_eq]
  generalize (lg_sl ([.ref (ad 57), .int (nI i), .int (nI v)]) ++ List.replicate (4 - (lg_sl ([.ref (ad 57), .int (nI i), .int (nI v)])).length) Slot.unset).toArray = ls at hl ⊢
  have hl : lv_has ls 4 [(0, .ref (ad 57)), (1, .int (nI i)), (2, .int (nI v))] := hl
  show W p l e ({ frames := 3, cells := 0, slots := 0, locals := 71 } : Room) s m ([.ref (ad 57), .int (nI i), .int (nI v)]).toArray below meth c s.heap [] 0 0 (MQ below (va_Qi (fun r S' => ((S.1 i).2.2 < 12 ∧ r = nI S.2.2.1 ∧ S' = placeT S i ((S.1 i).2.2) v) ∨ (12 ≤ (S.1 i).2.2 ∧ r = -9 ∧ S' = refT S)) (PX dC dI ad) (AX ad)) ([.ref (ad 57), .int (nI i), .int (nI v)]).toArray s 0 0 (AX ad)) (F0 m 0 ls [])
  have hn := (hI.1 i (by omega)).1
  refine lv_aload_n hx hb dX4_put_0 rfl (lv_at hl 0 rfl) ?_
  refine lv_iload_n hx hb dX4_put_1 rfl (lv_at hl 1 rfl) ?_
  refine va_csr (va_Run.run (va_runV (As := [.int (nI i)]) (rest := []) ⟨hx, hb, hml, hown, hts⟩ (m_X4_rowAt l dC dI ad S i (by omega)) (cwV 1 hts gX4_put_X4_rowAt rfl rfl rfl hdX4_rowAt_1 ⟨Nat.le_of_ble_eq_true rfl, Nat.le_of_ble_eq_true rfl⟩) (hX.preTop 57 6 (by decide) (by decide) rfl rfl) rfl rfl hl.1 rfl (lv_room (Nat.le_of_ble_eq_true rfl)) dX4_put_2 ⟨Nat.le_of_ble_eq_true rfl, Nat.le_of_ble_eq_true rfl⟩)) (fun k_ hk_ => ?_)
  rw [hk_]
  refine lv_astore_n (lv' := [(3, .ref (ad (3 * i))), (0, .ref (ad 57)), (1, .int (nI i)), (2, .int (nI v))]) hx hb dX4_put_5 rfl hl (by decide) rfl (fun ls hl => ?_)
  refine lv_iload_n hx hb dX4_put_6 rfl (lv_at hl 3 rfl) ?_
  refine va_csv (va_Run.run (va_runS (As := [.int (nI v)]) (rest := []) ⟨hx, hb, hml, hown, hts⟩ (m_X4_demandValue l dC dI ad S v (by omega)) (va_cwS 1 hts gX4_put_X4_demandValue rfl rfl rfl hdX4_demandValue_1.2 ⟨Nat.le_of_ble_eq_true rfl, Nat.le_of_ble_eq_true rfl⟩) hX.preS rfl rfl hl.1 rfl (lv_room (Nat.le_of_ble_eq_true rfl)) dX4_put_7 ⟨Nat.le_of_ble_eq_true rfl, Nat.le_of_ble_eq_true rfl⟩)) (fun _ => ?_)
  refine lv_aload_n hx hb dX4_put_10 rfl (lv_at hl 1 rfl) ?_
  refine lv_aload_n hx hb dX4_put_11 rfl (lv_at hl 0 rfl) ?_
  refine lv_aload_n hx hb dX4_put_12 rfl (lv_at hl 0 rfl) ?_
  refine kx_cr (v := nI ((S.1 i).2.2)) (va_runV (As := []) (rest := [.ref (ad (3 * i)), .ref (ad 57)]) ⟨hx, hb, hml, hown, hts⟩ (m_X2_length l dC dI ad S i (by omega)) (cwV 0 hts gX4_put_X2_length rfl rfl rfl hdX2_length_0 ⟨Nat.le_of_ble_eq_true rfl, Nat.le_of_ble_eq_true rfl⟩) (hX.preRow (by omega)) rfl rfl hl.1 rfl (lv_room (Nat.le_of_ble_eq_true rfl)) dX4_put_13 ⟨Nat.le_of_ble_eq_true rfl, Nat.le_of_ble_eq_true rfl⟩) (fun _ h => h) ?_
  refine lv_iload_n hx hb dX4_put_16 rfl (lv_at hl 3 rfl) ?_
  refine kx_ci (va_runV (As := [.ref (ad (3 * i)), .int (nI ((S.1 i).2.2)), .int (nI v)]) (rest := []) ⟨hx, hb, hml, hown, hts⟩ (m_X4_placeNew l dC dI ad S i ((S.1 i).2.2) v (by omega) hI (by omega)) (cwV 3 hts gX4_put_X4_placeNew rfl rfl rfl hdX4_placeNew_3 ⟨Nat.le_of_ble_eq_true rfl, Nat.le_of_ble_eq_true rfl⟩) (hX.preTop 57 6 (by decide) (by decide) rfl rfl) rfl rfl hl.1 rfl (lv_room (Nat.le_of_ble_eq_true rfl)) dX4_put_17 ⟨Nat.le_of_ble_eq_true rfl, Nat.le_of_ble_eq_true rfl⟩) hX (fun _ h => h) (fun r_ S_1 H locs hw hX => ?_)
  exact W.iret (v := r_) hx hb hr (fun t9 ht9 hW9 => ⟨⟨_, S_1, rfl, hw, hX.P ht9 hW9⟩, hX.2.2.2.F ht9⟩) hX.2.2.2.2.2 dX4_put_20
set_option maxHeartbeats 4000000 in
set_option maxRecDepth 100000 in
theorem m_X4_putAt (l : Launch) (dC : Nat → ClassId) (dI : Nat → Nat → Nat) (ad : Nat → Nat) (S : XS) (i : Nat) (q : Nat) (v : Nat) (hi : i < 3) (hq : q ≤ (S.1 i).2.2) (hv : v < 16) (hI : InvX S) : Met l yX4_putAt wsX4_putAt ({ frames := 3, cells := 0, slots := 0, locals := 71 } : Room) (va_Pc [.ref (ad 57), .int (nI i), .int (nI q), .int (nI v)] (PX dC dI ad S)) (va_Qi (fun r S' => ((S.1 i).2.2 < 12 ∧ r = nI S.2.2.1 ∧ S' = placeT S i q v) ∨ (12 ≤ (S.1 i).2.2 ∧ r = -9 ∧ S' = refT S)) (PX dC dI ad) (AX ad)) 0 0 (AX ad) := by
  refine Met.ofW (cc := cX4_putAt) (maxL := 5) (ret := (some .int)) pl_X4 rfl ?_
  intro p e s m args below meth c s₁ B hml hv
  obtain ⟨rfl, hPX⟩ := hv
  have hx := B.exec
  have hb := B.bytes
  have hr := B.returns
  have hts := atoms_spec (ws := wsX4_putAt) B.pre
  have hown : s.vm.findClass RX4 = some m.cls := findClass_of_methodNamed B.named
  have hlocks := B.notSynchronized
  have hX := WX.of hPX
  have hl := lv_entry ([.ref (ad 57), .int (nI i), .int (nI q), .int (nI v)]) (n := 5) (Nat.le_of_ble_eq_true rfl)
  rw [lg_entry_eq]
  generalize (lg_sl ([.ref (ad 57), .int (nI i), .int (nI q), .int (nI v)]) ++ List.replicate (5 - (lg_sl ([.ref (ad 57), .int (nI i), .int (nI q), .int (nI v)])).length) Slot.unset).toArray = ls at hl ⊢
  have hl : lv_has ls 5 [(0, .ref (ad 57)), (1, .int (nI i)), (2, .int (nI q)), (3, .int (nI v))] := hl
  show W p l e ({ frames := 3, cells := 0, slots := 0, locals := 71 } : Room) s m ([.ref (ad 57), .int (nI i), .int (nI q), .int (nI v)]).toArray below meth c s.heap [] 0 0 (MQ below (va_Qi (fun r S' => ((S.1 i).2.2 < 12 ∧ r = nI S.2.2.1 ∧ S' = placeT S i q v) ∨ (12 ≤ (S.1 i).2.2 ∧ r = -9 ∧ S' = refT S)) (PX dC dI ad) (AX ad)) ([.ref (ad 57), .int (nI i), .int (nI q), .int (nI v)]).toArray s 0 0 (AX ad)) (F0 m 0 ls [])
  have hn := (hI.1 i (by omega)).1
  refine lv_aload_n hx hb dX4_putAt_0 rfl (lv_at hl 0 rfl) ?_
  refine lv_iload_n hx hb dX4_putAt_1 rfl (lv_at hl 1 rfl) ?_
  refine va_csr (va_Run.run (va_runV (As := [.int (nI i)]) (rest := []) ⟨hx, hb, hml, hown, hts⟩ (m_X4_rowAt l dC dI ad S i (by omega)) (cwV 1 hts gX4_putAt_X4_rowAt rfl rfl rfl hdX4_rowAt_1 ⟨Nat.le_of_ble_eq_true rfl, Nat.le_of_ble_eq_true rfl⟩) (hX.preTop 57 6 (by decide) (by decide) rfl rfl) rfl rfl hl.1 rfl (lv_room (Nat.le_of_ble_eq_true rfl)) dX4_putAt_2 ⟨Nat.le_of_ble_eq_true rfl, Nat.le_of_ble_eq_true rfl⟩)) (fun k_ hk_ => ?_)
  rw [hk_]
  refine lv_astore (lv' := [(4, .ref (ad (3 * i))), (0, .ref (ad 57)), (1, .int (nI i)), (2, .int (nI q)), (3, .int (nI v))]) hx hb dX4_putAt_5 hl (by decide) rfl (fun ls hl => ?_)
  refine lv_aload hx hb dX4_putAt_7 (lv_at hl 0 rfl) ?_
  refine lv_iload_n hx hb dX4_putAt_9 rfl (lv_at hl 3 rfl) ?_
  refine va_csv (va_Run.run (va_runS (As := [.ref (ad (3 * i)), .int (nI q)]) (rest := []) ⟨hx, hb, hml, hown, hts⟩ (m_X4_demandGap l dC dI ad S i q (by omega) (by omega) (by omega)) (va_cwS 2 hts gX4_putAt_X4_demandGap rfl rfl rfl hdX4_demandGap_2.2 ⟨Nat.le_of_ble_eq_true rfl, Nat.le_of_ble_eq_true rfl⟩) hX.preS rfl rfl hl.1 rfl (lv_room (Nat.le_of_ble_eq_true rfl)) dX4_putAt_10 ⟨Nat.le_of_ble_eq_true rfl, Nat.le_of_ble_eq_true rfl⟩)) (fun _ => ?_)
  refine lv_iload_n hx hb dX4_putAt_13 rfl (lv_at hl 4 rfl) ?_
  refine va_csv (va_Run.run (va_runS (As := [.int (nI v)]) (rest := []) ⟨hx, hb, hml, hown, hts⟩ (m_X4_demandValue l dC dI ad S v (by omega)) (va_cwS 1 hts gX4_putAt_X4_demandValue rfl rfl rfl hdX4_demandValue_1.2 ⟨Nat.le_of_ble_eq_true rfl, Nat.le_of_ble_eq_true rfl⟩) hX.preS rfl rfl hl.1 rfl (lv_room (Nat.le_of_ble_eq_true rfl)) dX4_putAt_14 ⟨Nat.le_of_ble_eq_true rfl, Nat.le_of_ble_eq_true rfl⟩)) (fun _ => ?_)
  refine lv_aload_n hx hb dX4_putAt_17 rfl (lv_at hl 1 rfl) ?_
  refine lv_aload hx hb dX4_putAt_18 (lv_at hl 0 rfl) ?_
  refine lv_iload_n hx hb dX4_putAt_20 rfl (lv_at hl 3 rfl) ?_
  refine lv_iload_n hx hb dX4_putAt_21 rfl (lv_at hl 4 rfl) ?_
  refine kx_ci (va_runV (As := [.ref (ad (3 * i)), .int (nI q), .int (nI v)]) (rest := []) ⟨hx, hb, hml, hown, hts⟩ (m_X4_placeNew l dC dI ad S i q v (by omega) hI (by omega)) (cwV 3 hts gX4_putAt_X4_placeNew rfl rfl rfl hdX4_placeNew_3 ⟨Nat.le_of_ble_eq_true rfl, Nat.le_of_ble_eq_true rfl⟩) (hX.preTop 57 6 (by decide) (by decide) rfl rfl) rfl rfl hl.1 rfl (lv_room (Nat.le_of_ble_eq_true rfl)) dX4_putAt_22 ⟨Nat.le_of_ble_eq_true rfl, Nat.le_of_ble_eq_true rfl⟩) hX (fun _ h => h) (fun r_ S_1 H locs hw hX => ?_)
  exact W.iret (v := r_) hx hb hr (fun t9 ht9 hW9 => ⟨⟨_, S_1, rfl, hw, hX.P ht9 hW9⟩, hX.2.2.2.F ht9⟩) hX.2.2.2.2.2 dX4_putAt_25
set_option maxHeartbeats 4000000 in
set_option maxRecDepth 100000 in
theorem m_X4_fill (l : Launch) (dC : Nat → ClassId) (dI : Nat → Nat → Nat) (ad : Nat → Nat) (S : XS) (i : Nat) (k : Nat) (k2 : Nat) (k3 : Nat) (hi : i < 3) (hk : k ≤ 12) (hk2 : k2 ≤ 99) (hk3 : k3 ≤ 99) (hI : InvX S) : Met l yX4_fill wsX4_fill ({ frames := 1, cells := 0, slots := 0, locals := 22 } : Room) (va_Pc [.ref (ad 57), .int (nI i), .int (nI k), .int (nI k2), .int (nI k3)] (PX dC dI ad S)) (va_Qi (fun r S' => ((S.1 i).2.2 + k ≤ 12 ∧ r = nI ((S.1 i).2.2 + k) ∧ S' = xR (xN S (S.2.2.1 + k, S.2.2.2.1, S.2.2.2.2)) i (apn (S.1 i).1 (fun x => (k2 + x * k3) % 16) (S.1 i).2.2 k, apn (S.1 i).2.1 (fun x => S.2.2.1 + x) (S.1 i).2.2 k, (S.1 i).2.2 + k)) ∨ (12 < (S.1 i).2.2 + k ∧ r = -9 ∧ S' = refT S)) (PX dC dI ad) (AX ad)) 0 0 (AX ad) := by
  refine Met.ofW (cc := cX4_fill) (maxL := 7) (ret := (some .int)) pl_X4 rfl ?_
  intro p e s m args below meth c s₁ B hml hv
  obtain ⟨rfl, hPX⟩ := hv
  have hx := B.exec
  have hb := B.bytes
  have hr := B.returns
  have hts := atoms_spec (ws := wsX4_fill) B.pre
  have hown : s.vm.findClass RX4 = some m.cls := findClass_of_methodNamed B.named
  have hlocks := B.notSynchronized
  have hX := WX.of hPX
  have hl := lv_entry ([.ref (ad 57), .int (nI i), .int (nI k), .int (nI k2), .int (nI k3)]) (n := 7) (Nat.le_of_ble_eq_true rfl)
  rw [lg_entry_eq]
  generalize (lg_sl ([.ref (ad 57), .int (nI i), .int (nI k), .int (nI k2), .int (nI k3)]) ++ List.replicate (7 - (lg_sl ([.ref (ad 57), .int (nI i), .int (nI k), .int (nI k2), .int (nI k3)])).length) Slot.unset).toArray = ls at hl ⊢
  have hl : lv_has ls 7 [(0, .ref (ad 57)), (1, .int (nI i)), (2, .int (nI k)), (3, .int (nI k2)), (4, .int (nI k3))] := hl
  show W p l e ({ frames := 1, cells := 0, slots := 0, locals := 22 } : Room) s m ([.ref (ad 57), .int (nI i), .int (nI k), .int (nI k2), .int (nI k3)]).toArray below meth c s.heap [] 0 0 (MQ below (va_Qi (fun r S' => ((S.1 i).2.2 + k ≤ 12 ∧ r = nI ((S.1 i).2.2 + k) ∧ S' = xR (xN S (S.2.2.1 + k, S.2.2.2.1, S.2.2.2.2)) i (apn (S.1 i).1 (fun x => (k2 + x * k3) % 16) (S.1 i).2.2 k, apn (S.1 i).2.1 (fun x => S.2.2.1 + x) (S.1 i).2.2 k, (S.1 i).2.2 + k)) ∨ (12 < (S.1 i).2.2 + k ∧ r = -9 ∧ S' = refT S)) (PX dC dI ad) (AX ad)) ([.ref (ad 57), .int (nI i), .int (nI k), .int (nI k2), .int (nI k3)]).toArray s 0 0 (AX ad)) (F0 m 0 ls [])
  have hn := (hI.1 i (by omega)).1
  refine lv_aload_n hx hb dX4_fill_0 rfl (lv_at hl 0 rfl) ?_
  refine lv_iload_n hx hb dX4_fill_1 rfl (lv_at hl 1 rfl) ?_
  refine va_csr (va_Run.run (va_runV (As := [.int (nI i)]) (rest := []) ⟨hx, hb, hml, hown, hts⟩ (m_X4_rowAt l dC dI ad S i (by omega)) (cwV 1 hts gX4_fill_X4_rowAt rfl rfl rfl hdX4_rowAt_1 ⟨Nat.le_of_ble_eq_true rfl, Nat.le_of_ble_eq_true rfl⟩) (hX.preTop 57 6 (by decide) (by decide) rfl rfl) rfl rfl hl.1 rfl (lv_room (Nat.le_of_ble_eq_true rfl)) dX4_fill_2 ⟨Nat.le_of_ble_eq_true rfl, Nat.le_of_ble_eq_true rfl⟩)) (fun k_ hk_ => ?_)
  rw [hk_]
  refine lv_astore (lv' := [(5, .ref (ad (3 * i))), (0, .ref (ad 57)), (1, .int (nI i)), (2, .int (nI k)), (3, .int (nI k2)), (4, .int (nI k3))]) hx hb dX4_fill_5 hl (by decide) rfl (fun ls hl => ?_)
  refine lv_iload_n hx hb dX4_fill_7 rfl (lv_at hl 3 rfl) ?_
  refine lv_bipush (v := nI 12) hx hb dX4_fill_8 (by decide) ?_
  refine va_csv (va_Run.run (va_runS (As := [.int (nI k), .int (nI 12)]) (rest := []) ⟨hx, hb, hml, hown, hts⟩ (m_X4_demandWithin l dC dI ad S k 12 (by omega) (by omega)) (va_cwS 2 hts gX4_fill_X4_demandWithin rfl rfl rfl hdX4_demandWithin_2.2 ⟨Nat.le_of_ble_eq_true rfl, Nat.le_of_ble_eq_true rfl⟩) hX.preS rfl rfl hl.1 rfl (lv_room (Nat.le_of_ble_eq_true rfl)) dX4_fill_10 ⟨Nat.le_of_ble_eq_true rfl, Nat.le_of_ble_eq_true rfl⟩)) (fun _ => ?_)
  refine lv_iload_n hx hb dX4_fill_13 rfl (lv_at hl 4 rfl) ?_
  refine lv_bipush (v := nI 99) hx hb dX4_fill_14 (by decide) ?_
  refine va_csv (va_Run.run (va_runS (As := [.int (nI k2), .int (nI 99)]) (rest := []) ⟨hx, hb, hml, hown, hts⟩ (m_X4_demandWithin l dC dI ad S k2 99 (by omega) (by omega)) (va_cwS 2 hts gX4_fill_X4_demandWithin rfl rfl rfl hdX4_demandWithin_2.2 ⟨Nat.le_of_ble_eq_true rfl, Nat.le_of_ble_eq_true rfl⟩) hX.preS rfl rfl hl.1 rfl (lv_room (Nat.le_of_ble_eq_true rfl)) dX4_fill_16 ⟨Nat.le_of_ble_eq_true rfl, Nat.le_of_ble_eq_true rfl⟩)) (fun _ => ?_)
  refine lv_iload hx hb dX4_fill_19 (lv_at hl 5 rfl) ?_
  refine lv_bipush (v := nI 99) hx hb dX4_fill_21 (by decide) ?_
  refine va_csv (va_Run.run (va_runS (As := [.int (nI k3), .int (nI 99)]) (rest := []) ⟨hx, hb, hml, hown, hts⟩ (m_X4_demandWithin l dC dI ad S k3 99 (by omega) (by omega)) (va_cwS 2 hts gX4_fill_X4_demandWithin rfl rfl rfl hdX4_demandWithin_2.2 ⟨Nat.le_of_ble_eq_true rfl, Nat.le_of_ble_eq_true rfl⟩) hX.preS rfl rfl hl.1 rfl (lv_room (Nat.le_of_ble_eq_true rfl)) dX4_fill_23 ⟨Nat.le_of_ble_eq_true rfl, Nat.le_of_ble_eq_true rfl⟩)) (fun _ => ?_)
  refine lv_aload hx hb dX4_fill_26 (lv_at hl 0 rfl) ?_
  refine kx_cr (v := nI ((S.1 i).2.2)) (va_runV (As := []) (rest := []) ⟨hx, hb, hml, hown, hts⟩ (m_X2_length l dC dI ad S i (by omega)) (cwV 0 hts gX4_fill_X2_length rfl rfl rfl hdX2_length_0 ⟨Nat.le_of_ble_eq_true rfl, Nat.le_of_ble_eq_true rfl⟩) (hX.preRow (by omega)) rfl rfl hl.1 rfl (lv_room (Nat.le_of_ble_eq_true rfl)) dX4_fill_28 ⟨Nat.le_of_ble_eq_true rfl, Nat.le_of_ble_eq_true rfl⟩) (fun _ h => h) ?_
  refine lv_iload_n hx hb dX4_fill_31 rfl (lv_at hl 3 rfl) ?_
  refine kn_iadd hx hb dX4_fill_32 ?_
  refine lv_bipush (v := nI 12) hx hb dX4_fill_33 (by decide) ?_
  refine kn_icmp_le (tgt := 43) hx hb (by omega) (by omega) dX4_fill_35 (by decide) (fun k_1 => ?_) (fun k_1 => ?_)
  · skip
    have hc := k_1
    refine lv_iconst (v := nI 0) hx hb dX4_fill_43 (by decide) ?_
    refine lv_istore (lv' := [(6, .int (nI 0)), (5, .ref (ad (3 * i))), (0, .ref (ad 57)), (1, .int (nI i)), (2, .int (nI k)), (3, .int (nI k2)), (4, .int (nI k3))]) hx hb dX4_fill_44 hl (by decide) rfl (fun ls hl => ?_)
    have loop46 : ∀ (fuel : Nat) (a : Nat) (ha : a ≤ k) (H : Heap) (locs : List Loc), k - a < fuel → WX dC dI ad (xR (xN S (S.2.2.1 + a, S.2.2.2.1, S.2.2.2.2)) i (apn (S.1 i).1 (fun x => (k2 + x * k3) % 16) (S.1 i).2.2 a, apn (S.1 i).2.1 (fun x => S.2.2.1 + x) (S.1 i).2.2 a, (S.1 i).2.2 + a)) (AX ad) s H locs → ∀ ls : Array Slot, lv_has ls 7 [(0, .ref (ad 57)), (1, .int (nI i)), (2, .int (nI k)), (3, .int (nI k2)), (4, .int (nI k3)), (5, .ref (ad (3 * i))), (6, .int (nI a))] → W p l e ({ frames := 1, cells := 0, slots := 0, locals := 22 } : Room) s m ([.ref (ad 57), .int (nI i), .int (nI k), .int (nI k2), .int (nI k3)]).toArray below meth c H locs 0 0 (MQ below (va_Qi (fun r S' => ((S.1 i).2.2 + k ≤ 12 ∧ r = nI ((S.1 i).2.2 + k) ∧ S' = xR (xN S (S.2.2.1 + k, S.2.2.2.1, S.2.2.2.2)) i (apn (S.1 i).1 (fun x => (k2 + x * k3) % 16) (S.1 i).2.2 k, apn (S.1 i).2.1 (fun x => S.2.2.1 + x) (S.1 i).2.2 k, (S.1 i).2.2 + k)) ∨ (12 < (S.1 i).2.2 + k ∧ r = -9 ∧ S' = refT S)) (PX dC dI ad) (AX ad)) ([.ref (ad 57), .int (nI i), .int (nI k), .int (nI k2), .int (nI k3)]).toArray s 0 0 (AX ad)) (F0 m 46 ls []) := by
      intro fuel
      induction fuel with
      | zero => intro a ha H locs hf; exact absurd hf (Nat.not_lt_zero _)
      | succ fuel ih46 =>
        intro a ha H locs hf hX ls hl
        refine lv_iload hx hb dX4_fill_46 (lv_at hl 6 rfl) ?_
        refine lv_iload_n hx hb dX4_fill_48 rfl (lv_at hl 2 rfl) ?_
        refine kn_icmp_ge (tgt := 77) hx hb (by omega) (by omega) dX4_fill_49 (by decide) (fun k_2 => ?_) (fun k_2 => ?_)
        · skip
          refine lv_aload hx hb dX4_fill_77 (lv_at hl 5 rfl) ?_
          refine kx_cr (v := nI ((S.1 i).2.2 + a)) (va_runV (As := []) (rest := []) ⟨hx, hb, hml, hown, hts⟩ (m_X2_length l dC dI ad (xR (xN S (S.2.2.1 + a, S.2.2.2.1, S.2.2.2.2)) i (apn (S.1 i).1 (fun x => (k2 + x * k3) % 16) (S.1 i).2.2 a, apn (S.1 i).2.1 (fun x => S.2.2.1 + x) (S.1 i).2.2 a, (S.1 i).2.2 + a)) i (by omega)) (cwV 0 hts gX4_fill_X2_length rfl rfl rfl hdX2_length_0 ⟨Nat.le_of_ble_eq_true rfl, Nat.le_of_ble_eq_true rfl⟩) (hX.preRow (by omega)) rfl rfl hl.1 rfl (lv_room (Nat.le_of_ble_eq_true rfl)) dX4_fill_79 ⟨Nat.le_of_ble_eq_true rfl, Nat.le_of_ble_eq_true rfl⟩) (fun _ h => by rw [h, xR_row]) ?_
          exact W.iret (v := nI ((S.1 i).2.2 + a)) hx hb hr (fun t9 ht9 hW9 => ⟨⟨_, (xR (xN S (S.2.2.1 + a, S.2.2.2.1, S.2.2.2.2)) i (apn (S.1 i).1 (fun x => (k2 + x * k3) % 16) (S.1 i).2.2 a, apn (S.1 i).2.1 (fun x => S.2.2.1 + x) (S.1 i).2.2 a, (S.1 i).2.2 + a)), rfl, (Or.inl ⟨hc, by rw [show a = k by omega], by rw [show a = k by omega]⟩), hX.P ht9 hW9⟩, hX.2.2.2.F ht9⟩) hX.2.2.2.2.2 dX4_fill_82
        · skip
          refine lv_aload hx hb dX4_fill_52 (lv_at hl 5 rfl) ?_
          refine lv_iload_n hx hb dX4_fill_54 rfl (lv_at hl 3 rfl) ?_
          refine lv_iload hx hb dX4_fill_55 (lv_at hl 6 rfl) ?_
          refine lv_iload hx hb dX4_fill_57 (lv_at hl 4 rfl) ?_
          refine kn_imul hx hb dX4_fill_59 ?_
          refine kn_iadd hx hb dX4_fill_60 ?_
          refine lv_bipush (v := nI 16) hx hb dX4_fill_61 (by decide) ?_
          have hm9 : a * k3 ≤ 12 * 99 := Nat.mul_le_mul (by omega) hk3
          refine kn_irem hx hb (by omega) (by omega) (by omega) dX4_fill_63 ?_
          refine lv_aload_n hx hb dX4_fill_64 rfl (lv_at hl 0 rfl) ?_
          refine kx_ci (va_runV (As := []) (rest := [.int (nI ((k2 + (a * k3)) % 16)), .ref (ad (3 * i))]) ⟨hx, hb, hml, hown, hts⟩ (m_X4_nextMark l dC dI ad (xR (xN S (S.2.2.1 + a, S.2.2.2.1, S.2.2.2.2)) i (apn (S.1 i).1 (fun x => (k2 + x * k3) % 16) (S.1 i).2.2 a, apn (S.1 i).2.1 (fun x => S.2.2.1 + x) (S.1 i).2.2 a, (S.1 i).2.2 + a))) (cwV 0 hts gX4_fill_X4_nextMark rfl rfl rfl hdX4_nextMark_0 ⟨Nat.le_of_ble_eq_true rfl, Nat.le_of_ble_eq_true rfl⟩) (hX.preTop 57 6 (by decide) (by decide) rfl rfl) rfl rfl hl.1 rfl (lv_room (Nat.le_of_ble_eq_true rfl)) dX4_fill_65 ⟨Nat.le_of_ble_eq_true rfl, Nat.le_of_ble_eq_true rfl⟩) hX (fun _ h => h) (fun r_ S_ H locs hw hX => ?_)
          obtain ⟨rfl, rfl⟩ := hw
          refine kx_cv (va_runV (As := [.int (nI ((k2 + (a * k3)) % 16)), .int (nI (S.2.2.1 + a))]) (rest := []) ⟨hx, hb, hml, hown, hts⟩ (m_X2_append l dC dI ad (xR (xN S (S.2.2.1 + a + 1, S.2.2.2.1, S.2.2.2.2)) i (apn (S.1 i).1 (fun x => (k2 + x * k3) % 16) (S.1 i).2.2 a, apn (S.1 i).2.1 (fun x => S.2.2.1 + x) (S.1 i).2.2 a, (S.1 i).2.2 + a)) i ((k2 + (a * k3)) % 16) (S.2.2.1 + a) (by omega) (by rw [xR_row]; show (S.1 i).2.2 + a < 16; omega)) (cwV 2 hts gX4_fill_X2_append rfl rfl rfl hdX2_append_2 ⟨Nat.le_of_ble_eq_true rfl, Nat.le_of_ble_eq_true rfl⟩) (hX.preRow (by omega)) rfl rfl hl.1 rfl (lv_room (Nat.le_of_ble_eq_true rfl)) dX4_fill_68 ⟨Nat.le_of_ble_eq_true rfl, Nat.le_of_ble_eq_true rfl⟩) hX (fun _ h => h) (fun S_ H locs hw hX => ?_)
          rw [xR_row, xR_xR] at hw
          dsimp only at hw
          rw [fillV, fillM] at hw
          subst hw
          refine lv_iinc (v := nI (a + 1)) (lv' := [(6, .int (nI (a + 1))), (0, .ref (ad 57)), (1, .int (nI i)), (2, .int (nI k)), (3, .int (nI k2)), (4, .int (nI k3)), (5, .ref (ad (3 * i)))]) hx hb dX4_fill_71 hl (k := 6) rfl (nI_1 a) (by decide) rfl (fun ls hl => ?_)
          refine lv_goto (tgt := 46) hx hb dX4_fill_74 (by decide) ?_
          exact ih46  (a + 1) (by omega) _ _ (by omega) hX _ (lv_sub hl [1, 2, 3, 4, 5, 6, 0] rfl)
    exact loop46 (k + 1) 0 (by omega) _ _ (by omega) (WX.eqS (by rw [apn_0, apn_0]; exact (xR_self S i).symm) hX) _ (lv_sub hl [2, 3, 4, 5, 6, 1, 0] rfl)
  · skip
    have hc := k_1
    refine lv_aload_n hx hb dX4_fill_38 rfl (lv_at hl 1 rfl) ?_
    refine kx_ci (va_runV (As := []) (rest := []) ⟨hx, hb, hml, hown, hts⟩ (m_X4_refuse l dC dI ad S) (cwV 0 hts gX4_fill_X4_refuse rfl rfl rfl hdX4_refuse_0 ⟨Nat.le_of_ble_eq_true rfl, Nat.le_of_ble_eq_true rfl⟩) (hX.preTop 57 6 (by decide) (by decide) rfl rfl) rfl rfl hl.1 rfl (lv_room (Nat.le_of_ble_eq_true rfl)) dX4_fill_39 ⟨Nat.le_of_ble_eq_true rfl, Nat.le_of_ble_eq_true rfl⟩) hX (fun _ h => h) (fun r_ S_ H locs hw hX => ?_)
    obtain ⟨rfl, rfl⟩ := hw
    exact W.iret (v := (-9)) hx hb hr (fun t9 ht9 hW9 => ⟨⟨_, (xN S (S.2.2.1, S.2.2.2.1 + 1, S.2.2.2.2)), rfl, (Or.inr ⟨hc, rfl, rfl⟩), hX.P ht9 hW9⟩, hX.2.2.2.F ht9⟩) hX.2.2.2.2.2 dX4_fill_42
set_option maxHeartbeats 4000000 in
set_option maxRecDepth 100000 in
theorem m_X4_drop (l : Launch) (dC : Nat → ClassId) (dI : Nat → Nat → Nat) (ad : Nat → Nat) (S : XS) (i : Nat) (q : Nat) (hi : i < 3) (hq : q < (S.1 i).2.2) (hI : InvX S) : Met l yX4_drop wsX4_drop ({ frames := 2, cells := 0, slots := 0, locals := 45 } : Room) (va_Pc [.ref (ad 57), .int (nI i), .int (nI q)] (PX dC dI ad S)) (va_Qi (fun r S' => r = nI ((S.1 i).2.1 q) ∧ S' = xR S i (shl (S.1 i).1 q ((S.1 i).2.2 - 1), shl (S.1 i).2.1 q ((S.1 i).2.2 - 1), (S.1 i).2.2 - 1)) (PX dC dI ad) (AX ad)) 0 0 (AX ad) := by
  refine Met.ofW (cc := cX4_drop) (maxL := 5) (ret := (some .int)) pl_X4 rfl ?_
  intro p e s m args below meth c s₁ B hml hv
  obtain ⟨rfl, hPX⟩ := hv
  have hx := B.exec
  have hb := B.bytes
  have hr := B.returns
  have hts := atoms_spec (ws := wsX4_drop) B.pre
  have hown : s.vm.findClass RX4 = some m.cls := findClass_of_methodNamed B.named
  have hlocks := B.notSynchronized
  have hX := WX.of hPX
  have hl := lv_entry ([.ref (ad 57), .int (nI i), .int (nI q)]) (n := 5) (Nat.le_of_ble_eq_true rfl)
  rw [lg_entry_eq]
  generalize (lg_sl ([.ref (ad 57), .int (nI i), .int (nI q)]) ++ List.replicate (5 - (lg_sl ([.ref (ad 57), .int (nI i), .int (nI q)])).length) Slot.unset).toArray = ls at hl ⊢
  have hl : lv_has ls 5 [(0, .ref (ad 57)), (1, .int (nI i)), (2, .int (nI q))] := hl
  show W p l e ({ frames := 2, cells := 0, slots := 0, locals := 45 } : Room) s m ([.ref (ad 57), .int (nI i), .int (nI q)]).toArray below meth c s.heap [] 0 0 (MQ below (va_Qi (fun r S' => r = nI ((S.1 i).2.1 q) ∧ S' = xR S i (shl (S.1 i).1 q ((S.1 i).2.2 - 1), shl (S.1 i).2.1 q ((S.1 i).2.2 - 1), (S.1 i).2.2 - 1)) (PX dC dI ad) (AX ad)) ([.ref (ad 57), .int (nI i), .int (nI q)]).toArray s 0 0 (AX ad)) (F0 m 0 ls [])
  have hn := (hI.1 i (by omega)).1
  refine lv_aload_n hx hb dX4_drop_0 rfl (lv_at hl 0 rfl) ?_
  refine lv_iload_n hx hb dX4_drop_1 rfl (lv_at hl 1 rfl) ?_
  refine va_csr (va_Run.run (va_runV (As := [.int (nI i)]) (rest := []) ⟨hx, hb, hml, hown, hts⟩ (m_X4_rowAt l dC dI ad S i (by omega)) (cwV 1 hts gX4_drop_X4_rowAt rfl rfl rfl hdX4_rowAt_1 ⟨Nat.le_of_ble_eq_true rfl, Nat.le_of_ble_eq_true rfl⟩) (hX.preTop 57 6 (by decide) (by decide) rfl rfl) rfl rfl hl.1 rfl (lv_room (Nat.le_of_ble_eq_true rfl)) dX4_drop_2 ⟨Nat.le_of_ble_eq_true rfl, Nat.le_of_ble_eq_true rfl⟩)) (fun k_ hk_ => ?_)
  rw [hk_]
  refine lv_astore_n (lv' := [(3, .ref (ad (3 * i))), (0, .ref (ad 57)), (1, .int (nI i)), (2, .int (nI q))]) hx hb dX4_drop_5 rfl hl (by decide) rfl (fun ls hl => ?_)
  refine lv_aload_n hx hb dX4_drop_6 rfl (lv_at hl 0 rfl) ?_
  refine lv_iload_n hx hb dX4_drop_7 rfl (lv_at hl 3 rfl) ?_
  refine va_csv (va_Run.run (va_runS (As := [.ref (ad (3 * i)), .int (nI q)]) (rest := []) ⟨hx, hb, hml, hown, hts⟩ (m_X4_demandPlace l dC dI ad S i q (by omega) (by omega) (by omega)) (va_cwS 2 hts gX4_drop_X4_demandPlace rfl rfl rfl hdX4_demandPlace_2.2 ⟨Nat.le_of_ble_eq_true rfl, Nat.le_of_ble_eq_true rfl⟩) hX.preS rfl rfl hl.1 rfl (lv_room (Nat.le_of_ble_eq_true rfl)) dX4_drop_8 ⟨Nat.le_of_ble_eq_true rfl, Nat.le_of_ble_eq_true rfl⟩)) (fun _ => ?_)
  refine lv_aload_n hx hb dX4_drop_11 rfl (lv_at hl 0 rfl) ?_
  refine lv_iload_n hx hb dX4_drop_12 rfl (lv_at hl 3 rfl) ?_
  refine kx_cr (v := nI (((S.1 i).2.1) q)) (va_runV (As := [.int (nI q)]) (rest := []) ⟨hx, hb, hml, hown, hts⟩ (m_X2_markOn l dC dI ad S i q (by omega) (by omega)) (cwV 1 hts gX4_drop_X2_markOn rfl rfl rfl hdX2_markOn_1 ⟨Nat.le_of_ble_eq_true rfl, Nat.le_of_ble_eq_true rfl⟩) (hX.preRow (by omega)) rfl rfl hl.1 rfl (lv_room (Nat.le_of_ble_eq_true rfl)) dX4_drop_13 ⟨Nat.le_of_ble_eq_true rfl, Nat.le_of_ble_eq_true rfl⟩) (fun _ h => h) ?_
  refine lv_istore (lv' := [(4, .int (nI (((S.1 i).2.1) q))), (3, .ref (ad (3 * i))), (0, .ref (ad 57)), (1, .int (nI i)), (2, .int (nI q))]) hx hb dX4_drop_16 hl (by decide) rfl (fun ls hl => ?_)
  refine lv_aload_n hx hb dX4_drop_18 rfl (lv_at hl 1 rfl) ?_
  refine lv_iload_n hx hb dX4_drop_19 rfl (lv_at hl 4 rfl) ?_
  refine kx_cv (va_runV (As := [.int (nI q)]) (rest := []) ⟨hx, hb, hml, hown, hts⟩ (m_X2_remove l dC dI ad S i q (by omega) (by omega) (by omega)) (cwV 1 hts gX4_drop_X2_remove rfl rfl rfl hdX2_remove_1 ⟨Nat.le_of_ble_eq_true rfl, Nat.le_of_ble_eq_true rfl⟩) (hX.preRow (by omega)) rfl rfl hl.1 rfl (lv_room (Nat.le_of_ble_eq_true rfl)) dX4_drop_20 ⟨Nat.le_of_ble_eq_true rfl, Nat.le_of_ble_eq_true rfl⟩) hX (fun _ h => h) (fun S_ H locs hw hX => ?_)
  subst hw
  refine lv_iload hx hb dX4_drop_23 (lv_at hl 0 rfl) ?_
  exact W.iret (v := nI (((S.1 i).2.1) q)) hx hb hr (fun t9 ht9 hW9 => ⟨⟨_, (xR S i (shl ((S.1 i).1) q ((S.1 i).2.2 - 1), shl ((S.1 i).2.1) q ((S.1 i).2.2 - 1), (S.1 i).2.2 - 1)), rfl, ⟨rfl, rfl⟩, hX.P ht9 hW9⟩, hX.2.2.2.F ht9⟩) hX.2.2.2.2.2 dX4_drop_25
set_option maxHeartbeats 4000000 in
set_option maxRecDepth 100000 in
theorem m_X4_clear (l : Launch) (dC : Nat → ClassId) (dI : Nat → Nat → Nat) (ad : Nat → Nat) (S : XS) (i : Nat) (hi : i < 3) (hI : InvX S) : Met l yX4_clear wsX4_clear ({ frames := 1, cells := 0, slots := 0, locals := 22 } : Room) (va_Pc [.ref (ad 57), .int (nI i)] (PX dC dI ad S)) (va_Qi (fun r S' => r = nI (S.1 i).2.2 ∧ S' = xR S i ((S.1 i).1, (S.1 i).2.1, 0)) (PX dC dI ad) (AX ad)) 0 0 (AX ad) := by
  refine Met.ofW (cc := cX4_clear) (maxL := 4) (ret := (some .int)) pl_X4 rfl ?_
  intro p e s m args below meth c s₁ B hml hv
  obtain ⟨rfl, hPX⟩ := hv
  have hx := B.exec
  have hb := B.bytes
  have hr := B.returns
  have hts := atoms_spec (ws := wsX4_clear) B.pre
  have hown : s.vm.findClass RX4 = some m.cls := findClass_of_methodNamed B.named
  have hlocks := B.notSynchronized
  have hX := WX.of hPX
  have hl := lv_entry ([.ref (ad 57), .int (nI i)]) (n := 4) (Nat.le_of_ble_eq_true rfl)
  rw [lg_entry_eq]
  generalize (lg_sl ([.ref (ad 57), .int (nI i)]) ++ List.replicate (4 - (lg_sl ([.ref (ad 57), .int (nI i)])).length) Slot.unset).toArray = ls at hl ⊢
  have hl : lv_has ls 4 [(0, .ref (ad 57)), (1, .int (nI i))] := hl
  show W p l e ({ frames := 1, cells := 0, slots := 0, locals := 22 } : Room) s m ([.ref (ad 57), .int (nI i)]).toArray below meth c s.heap [] 0 0 (MQ below (va_Qi (fun r S' => r = nI (S.1 i).2.2 ∧ S' = xR S i ((S.1 i).1, (S.1 i).2.1, 0)) (PX dC dI ad) (AX ad)) ([.ref (ad 57), .int (nI i)]).toArray s 0 0 (AX ad)) (F0 m 0 ls [])
  have hn := (hI.1 i (by omega)).1
  refine lv_aload_n hx hb dX4_clear_0 rfl (lv_at hl 0 rfl) ?_
  refine lv_iload_n hx hb dX4_clear_1 rfl (lv_at hl 1 rfl) ?_
  refine va_csr (va_Run.run (va_runV (As := [.int (nI i)]) (rest := []) ⟨hx, hb, hml, hown, hts⟩ (m_X4_rowAt l dC dI ad S i (by omega)) (cwV 1 hts gX4_clear_X4_rowAt rfl rfl rfl hdX4_rowAt_1 ⟨Nat.le_of_ble_eq_true rfl, Nat.le_of_ble_eq_true rfl⟩) (hX.preTop 57 6 (by decide) (by decide) rfl rfl) rfl rfl hl.1 rfl (lv_room (Nat.le_of_ble_eq_true rfl)) dX4_clear_2 ⟨Nat.le_of_ble_eq_true rfl, Nat.le_of_ble_eq_true rfl⟩)) (fun k_ hk_ => ?_)
  rw [hk_]
  refine lv_astore_n (lv' := [(2, .ref (ad (3 * i))), (0, .ref (ad 57)), (1, .int (nI i))]) hx hb dX4_clear_5 rfl hl (by decide) rfl (fun ls hl => ?_)
  refine lv_aload_n hx hb dX4_clear_6 rfl (lv_at hl 0 rfl) ?_
  refine kx_cr (v := nI ((S.1 i).2.2)) (va_runV (As := []) (rest := []) ⟨hx, hb, hml, hown, hts⟩ (m_X2_length l dC dI ad S i (by omega)) (cwV 0 hts gX4_clear_X2_length rfl rfl rfl hdX2_length_0 ⟨Nat.le_of_ble_eq_true rfl, Nat.le_of_ble_eq_true rfl⟩) (hX.preRow (by omega)) rfl rfl hl.1 rfl (lv_room (Nat.le_of_ble_eq_true rfl)) dX4_clear_7 ⟨Nat.le_of_ble_eq_true rfl, Nat.le_of_ble_eq_true rfl⟩) (fun _ h => h) ?_
  refine lv_istore_n (lv' := [(3, .int (nI ((S.1 i).2.2))), (2, .ref (ad (3 * i))), (0, .ref (ad 57)), (1, .int (nI i))]) hx hb dX4_clear_10 rfl hl (by decide) rfl (fun ls hl => ?_)
  refine lv_aload_n hx hb dX4_clear_11 rfl (lv_at hl 1 rfl) ?_
  refine kx_cv (va_runV (As := []) (rest := []) ⟨hx, hb, hml, hown, hts⟩ (m_X2_empty l dC dI ad S i  (by omega)) (cwV 0 hts gX4_clear_X2_empty rfl rfl rfl hdX2_empty_0 ⟨Nat.le_of_ble_eq_true rfl, Nat.le_of_ble_eq_true rfl⟩) (hX.preRow (by omega)) rfl rfl hl.1 rfl (lv_room (Nat.le_of_ble_eq_true rfl)) dX4_clear_12 ⟨Nat.le_of_ble_eq_true rfl, Nat.le_of_ble_eq_true rfl⟩) hX (fun _ h => h) (fun S_ H locs hw hX => ?_)
  subst hw
  refine lv_iload_n hx hb dX4_clear_15 rfl (lv_at hl 0 rfl) ?_
  exact W.iret (v := nI ((S.1 i).2.2)) hx hb hr (fun t9 ht9 hW9 => ⟨⟨_, (xR S i ((S.1 i).1, (S.1 i).2.1, 0)), rfl, ⟨rfl, rfl⟩, hX.P ht9 hW9⟩, hX.2.2.2.F ht9⟩) hX.2.2.2.2.2 dX4_clear_16
set_option maxHeartbeats 4000000 in
set_option maxRecDepth 100000 in
theorem m_X4_copyRow (l : Launch) (dC : Nat → ClassId) (dI : Nat → Nat → Nat) (ad : Nat → Nat) (S : XS) (i : Nat) (i2 : Nat) (hi : i < 3) (hi2 : i2 < 3) (hI : InvX S) : Met l yX4_copyRow wsX4_copyRow ({ frames := 2, cells := 0, slots := 0, locals := 46 } : Room) (va_Pc [.ref (ad 57), .int (nI i), .int (nI i2)] (PX dC dI ad S)) (va_Qi (fun r S' => r = nI (S.1 i).2.2 ∧ S' = xR S i2 (ovl (S.1 i).1 (S.1 i2).1 (S.1 i).2.2, ovl (S.1 i).2.1 (S.1 i2).2.1 (S.1 i).2.2, (S.1 i).2.2)) (PX dC dI ad) (AX ad)) 0 0 (AX ad) := by
  refine Met.ofW (cc := cX4_copyRow) (maxL := 5) (ret := (some .int)) pl_X4 rfl ?_
  intro p e s m args below meth c s₁ B hml hv
  obtain ⟨rfl, hPX⟩ := hv
  have hx := B.exec
  have hb := B.bytes
  have hr := B.returns
  have hts := atoms_spec (ws := wsX4_copyRow) B.pre
  have hown : s.vm.findClass RX4 = some m.cls := findClass_of_methodNamed B.named
  have hlocks := B.notSynchronized
  have hX := WX.of hPX
  have hl := lv_entry ([.ref (ad 57), .int (nI i), .int (nI i2)]) (n := 5) (Nat.le_of_ble_eq_true rfl)
  rw [lg_entry_eq]
  generalize (lg_sl ([.ref (ad 57), .int (nI i), .int (nI i2)]) ++ List.replicate (5 - (lg_sl ([.ref (ad 57), .int (nI i), .int (nI i2)])).length) Slot.unset).toArray = ls at hl ⊢
  have hl : lv_has ls 5 [(0, .ref (ad 57)), (1, .int (nI i)), (2, .int (nI i2))] := hl
  show W p l e ({ frames := 2, cells := 0, slots := 0, locals := 46 } : Room) s m ([.ref (ad 57), .int (nI i), .int (nI i2)]).toArray below meth c s.heap [] 0 0 (MQ below (va_Qi (fun r S' => r = nI (S.1 i).2.2 ∧ S' = xR S i2 (ovl (S.1 i).1 (S.1 i2).1 (S.1 i).2.2, ovl (S.1 i).2.1 (S.1 i2).2.1 (S.1 i).2.2, (S.1 i).2.2)) (PX dC dI ad) (AX ad)) ([.ref (ad 57), .int (nI i), .int (nI i2)]).toArray s 0 0 (AX ad)) (F0 m 0 ls [])
  have hn := (hI.1 i (by omega)).1
  refine lv_aload_n hx hb dX4_copyRow_0 rfl (lv_at hl 0 rfl) ?_
  refine lv_iload_n hx hb dX4_copyRow_1 rfl (lv_at hl 1 rfl) ?_
  refine va_csr (va_Run.run (va_runV (As := [.int (nI i)]) (rest := []) ⟨hx, hb, hml, hown, hts⟩ (m_X4_rowAt l dC dI ad S i (by omega)) (cwV 1 hts gX4_copyRow_X4_rowAt rfl rfl rfl hdX4_rowAt_1 ⟨Nat.le_of_ble_eq_true rfl, Nat.le_of_ble_eq_true rfl⟩) (hX.preTop 57 6 (by decide) (by decide) rfl rfl) rfl rfl hl.1 rfl (lv_room (Nat.le_of_ble_eq_true rfl)) dX4_copyRow_2 ⟨Nat.le_of_ble_eq_true rfl, Nat.le_of_ble_eq_true rfl⟩)) (fun k_ hk_ => ?_)
  rw [hk_]
  refine lv_astore_n (lv' := [(3, .ref (ad (3 * i))), (0, .ref (ad 57)), (1, .int (nI i)), (2, .int (nI i2))]) hx hb dX4_copyRow_5 rfl hl (by decide) rfl (fun ls hl => ?_)
  refine lv_aload_n hx hb dX4_copyRow_6 rfl (lv_at hl 1 rfl) ?_
  refine lv_iload_n hx hb dX4_copyRow_7 rfl (lv_at hl 3 rfl) ?_
  refine va_csr (va_Run.run (va_runV (As := [.int (nI i2)]) (rest := []) ⟨hx, hb, hml, hown, hts⟩ (m_X4_rowAt l dC dI ad S i2 (by omega)) (cwV 1 hts gX4_copyRow_X4_rowAt rfl rfl rfl hdX4_rowAt_1 ⟨Nat.le_of_ble_eq_true rfl, Nat.le_of_ble_eq_true rfl⟩) (hX.preTop 57 6 (by decide) (by decide) rfl rfl) rfl rfl hl.1 rfl (lv_room (Nat.le_of_ble_eq_true rfl)) dX4_copyRow_8 ⟨Nat.le_of_ble_eq_true rfl, Nat.le_of_ble_eq_true rfl⟩)) (fun k_ hk_ => ?_)
  rw [hk_]
  refine lv_astore (lv' := [(4, .ref (ad (3 * i2))), (3, .ref (ad (3 * i))), (0, .ref (ad 57)), (1, .int (nI i)), (2, .int (nI i2))]) hx hb dX4_copyRow_11 hl (by decide) rfl (fun ls hl => ?_)
  refine lv_aload hx hb dX4_copyRow_13 (lv_at hl 0 rfl) ?_
  refine lv_aload_n hx hb dX4_copyRow_15 rfl (lv_at hl 1 rfl) ?_
  refine kx_cv (va_runV (As := [.ref (ad (3 * i))]) (rest := []) ⟨hx, hb, hml, hown, hts⟩ (m_X2_becomeCopyOf l dC dI ad S i2 i (by omega) (by omega) (by omega)) (cwV 1 hts gX4_copyRow_X2_becomeCopyOf rfl rfl rfl hdX2_becomeCopyOf_1 ⟨Nat.le_of_ble_eq_true rfl, Nat.le_of_ble_eq_true rfl⟩) (hX.preRow (by omega)) rfl rfl hl.1 rfl (lv_room (Nat.le_of_ble_eq_true rfl)) dX4_copyRow_16 ⟨Nat.le_of_ble_eq_true rfl, Nat.le_of_ble_eq_true rfl⟩) hX (fun _ h => h) (fun S_ H locs hw hX => ?_)
  subst hw
  refine lv_aload hx hb dX4_copyRow_19 (lv_at hl 0 rfl) ?_
  refine kx_cr (v := nI ((S.1 i).2.2)) (va_runV (As := []) (rest := []) ⟨hx, hb, hml, hown, hts⟩ (m_X2_length l dC dI ad (xR S i2 (ovl ((S.1 i).1) ((S.1 i2).1) ((S.1 i).2.2), ovl ((S.1 i).2.1) ((S.1 i2).2.1) ((S.1 i).2.2), (S.1 i).2.2)) i2 (by omega)) (cwV 0 hts gX4_copyRow_X2_length rfl rfl rfl hdX2_length_0 ⟨Nat.le_of_ble_eq_true rfl, Nat.le_of_ble_eq_true rfl⟩) (hX.preRow (by omega)) rfl rfl hl.1 rfl (lv_room (Nat.le_of_ble_eq_true rfl)) dX4_copyRow_21 ⟨Nat.le_of_ble_eq_true rfl, Nat.le_of_ble_eq_true rfl⟩) (fun _ h => by rw [h, xR_row]) ?_
  exact W.iret (v := nI ((S.1 i).2.2)) hx hb hr (fun t9 ht9 hW9 => ⟨⟨_, (xR S i2 (ovl ((S.1 i).1) ((S.1 i2).1) ((S.1 i).2.2), ovl ((S.1 i).2.1) ((S.1 i2).2.1) ((S.1 i).2.2), (S.1 i).2.2)), rfl, ⟨rfl, rfl⟩, hX.P ht9 hW9⟩, hX.2.2.2.F ht9⟩) hX.2.2.2.2.2 dX4_copyRow_24
set_option maxHeartbeats 4000000 in
set_option maxRecDepth 100000 in
theorem m_X4_turnRow (l : Launch) (dC : Nat → ClassId) (dI : Nat → Nat → Nat) (ad : Nat → Nat) (S : XS) (i : Nat) (hi : i < 3) (hI : InvX S) : Met l yX4_turnRow wsX4_turnRow ({ frames := 3, cells := 0, slots := 0, locals := 69 } : Room) (va_Pc [.ref (ad 57), .int (nI i)] (PX dC dI ad S)) (va_Qi (fun r S' => r = nI ((S.1 i).2.2 - (S.1 i).2.2 % 2) ∧ S' = xR S i (rev (S.1 i).1 (S.1 i).2.2 (S.1 i).2.2, rev (S.1 i).2.1 (S.1 i).2.2 (S.1 i).2.2, (S.1 i).2.2)) (PX dC dI ad) (AX ad)) 0 0 (AX ad) := by
  refine Met.ofW (cc := cX4_turnRow) (maxL := 3) (ret := (some .int)) pl_X4 rfl ?_
  intro p e s m args below meth c s₁ B hml hv
  obtain ⟨rfl, hPX⟩ := hv
  have hx := B.exec
  have hb := B.bytes
  have hr := B.returns
  have hts := atoms_spec (ws := wsX4_turnRow) B.pre
  have hown : s.vm.findClass RX4 = some m.cls := findClass_of_methodNamed B.named
  have hlocks := B.notSynchronized
  have hX := WX.of hPX
  have hl := lv_entry ([.ref (ad 57), .int (nI i)]) (n := 3) (Nat.le_of_ble_eq_true rfl)
  rw [lg_entry_eq]
  generalize (lg_sl ([.ref (ad 57), .int (nI i)]) ++ List.replicate (3 - (lg_sl ([.ref (ad 57), .int (nI i)])).length) Slot.unset).toArray = ls at hl ⊢
  have hl : lv_has ls 3 [(0, .ref (ad 57)), (1, .int (nI i))] := hl
  show W p l e ({ frames := 3, cells := 0, slots := 0, locals := 69 } : Room) s m ([.ref (ad 57), .int (nI i)]).toArray below meth c s.heap [] 0 0 (MQ below (va_Qi (fun r S' => r = nI ((S.1 i).2.2 - (S.1 i).2.2 % 2) ∧ S' = xR S i (rev (S.1 i).1 (S.1 i).2.2 (S.1 i).2.2, rev (S.1 i).2.1 (S.1 i).2.2 (S.1 i).2.2, (S.1 i).2.2)) (PX dC dI ad) (AX ad)) ([.ref (ad 57), .int (nI i)]).toArray s 0 0 (AX ad)) (F0 m 0 ls [])
  have hn := (hI.1 i (by omega)).1
  refine lv_aload_n hx hb dX4_turnRow_0 rfl (lv_at hl 0 rfl) ?_
  refine lv_iload_n hx hb dX4_turnRow_1 rfl (lv_at hl 1 rfl) ?_
  refine va_csr (va_Run.run (va_runV (As := [.int (nI i)]) (rest := []) ⟨hx, hb, hml, hown, hts⟩ (m_X4_rowAt l dC dI ad S i (by omega)) (cwV 1 hts gX4_turnRow_X4_rowAt rfl rfl rfl hdX4_rowAt_1 ⟨Nat.le_of_ble_eq_true rfl, Nat.le_of_ble_eq_true rfl⟩) (hX.preTop 57 6 (by decide) (by decide) rfl rfl) rfl rfl hl.1 rfl (lv_room (Nat.le_of_ble_eq_true rfl)) dX4_turnRow_2 ⟨Nat.le_of_ble_eq_true rfl, Nat.le_of_ble_eq_true rfl⟩)) (fun k_ hk_ => ?_)
  rw [hk_]
  refine lv_astore_n (lv' := [(2, .ref (ad (3 * i))), (0, .ref (ad 57)), (1, .int (nI i))]) hx hb dX4_turnRow_5 rfl hl (by decide) rfl (fun ls hl => ?_)
  refine lv_aload_n hx hb dX4_turnRow_6 rfl (lv_at hl 0 rfl) ?_
  refine kx_cv (va_runV (As := []) (rest := []) ⟨hx, hb, hml, hown, hts⟩ (m_X2_reverse l dC dI ad S i  (by omega) (by omega)) (cwV 0 hts gX4_turnRow_X2_reverse rfl rfl rfl hdX2_reverse_0 ⟨Nat.le_of_ble_eq_true rfl, Nat.le_of_ble_eq_true rfl⟩) (hX.preRow (by omega)) rfl rfl hl.1 rfl (lv_room (Nat.le_of_ble_eq_true rfl)) dX4_turnRow_7 ⟨Nat.le_of_ble_eq_true rfl, Nat.le_of_ble_eq_true rfl⟩) hX (fun _ h => h) (fun S_ H locs hw hX => ?_)
  subst hw
  refine lv_aload_n hx hb dX4_turnRow_10 rfl (lv_at hl 0 rfl) ?_
  refine kx_cr (v := nI ((S.1 i).2.2)) (va_runV (As := []) (rest := []) ⟨hx, hb, hml, hown, hts⟩ (m_X2_length l dC dI ad (xR S i (rev ((S.1 i).1) ((S.1 i).2.2) ((S.1 i).2.2), rev ((S.1 i).2.1) ((S.1 i).2.2) ((S.1 i).2.2), (S.1 i).2.2)) i (by omega)) (cwV 0 hts gX4_turnRow_X2_length rfl rfl rfl hdX2_length_0 ⟨Nat.le_of_ble_eq_true rfl, Nat.le_of_ble_eq_true rfl⟩) (hX.preRow (by omega)) rfl rfl hl.1 rfl (lv_room (Nat.le_of_ble_eq_true rfl)) dX4_turnRow_11 ⟨Nat.le_of_ble_eq_true rfl, Nat.le_of_ble_eq_true rfl⟩) (fun _ h => by rw [h, xR_row]) ?_
  refine lv_aload_n hx hb dX4_turnRow_14 rfl (lv_at hl 0 rfl) ?_
  refine kx_cr (v := nI ((S.1 i).2.2)) (va_runV (As := []) (rest := [.int (nI ((S.1 i).2.2))]) ⟨hx, hb, hml, hown, hts⟩ (m_X2_length l dC dI ad (xR S i (rev ((S.1 i).1) ((S.1 i).2.2) ((S.1 i).2.2), rev ((S.1 i).2.1) ((S.1 i).2.2) ((S.1 i).2.2), (S.1 i).2.2)) i (by omega)) (cwV 0 hts gX4_turnRow_X2_length rfl rfl rfl hdX2_length_0 ⟨Nat.le_of_ble_eq_true rfl, Nat.le_of_ble_eq_true rfl⟩) (hX.preRow (by omega)) rfl rfl hl.1 rfl (lv_room (Nat.le_of_ble_eq_true rfl)) dX4_turnRow_15 ⟨Nat.le_of_ble_eq_true rfl, Nat.le_of_ble_eq_true rfl⟩) (fun _ h => by rw [h, xR_row]) ?_
  refine lv_iconst (v := nI 2) hx hb dX4_turnRow_18 (by decide) ?_
  refine kn_irem hx hb (by omega) (by omega) (by omega) dX4_turnRow_19 ?_
  refine kn_isub hx hb (by omega) dX4_turnRow_20 ?_
  exact W.iret (v := nI (((S.1 i).2.2) - (((S.1 i).2.2) % 2))) hx hb hr (fun t9 ht9 hW9 => ⟨⟨_, (xR S i (rev ((S.1 i).1) ((S.1 i).2.2) ((S.1 i).2.2), rev ((S.1 i).2.1) ((S.1 i).2.2) ((S.1 i).2.2), (S.1 i).2.2)), rfl, ⟨rfl, rfl⟩, hX.P ht9 hW9⟩, hX.2.2.2.F ht9⟩) hX.2.2.2.2.2 dX4_turnRow_21
set_option maxHeartbeats 4000000 in
set_option maxRecDepth 100000 in
theorem m_X4_swap (l : Launch) (dC : Nat → ClassId) (dI : Nat → Nat → Nat) (ad : Nat → Nat) (S : XS) (i : Nat) (q : Nat) (q2 : Nat) (hi : i < 3) (hq : q < (S.1 i).2.2) (hq2 : q2 < (S.1 i).2.2) (hI : InvX S) : Met l yX4_swap wsX4_swap ({ frames := 2, cells := 0, slots := 0, locals := 47 } : Room) (va_Pc [.ref (ad 57), .int (nI i), .int (nI q), .int (nI q2)] (PX dC dI ad S)) (va_Qi (fun r S' => r = (if xch (S.1 i).1 q q2 q = xch (S.1 i).1 q q2 q2 then 0 else 1) ∧ S' = xR S i (xch (S.1 i).1 q q2, xch (S.1 i).2.1 q q2, (S.1 i).2.2)) (PX dC dI ad) (AX ad)) 0 0 (AX ad) := by
  refine Met.ofW (cc := cX4_swap) (maxL := 5) (ret := (some .int)) pl_X4 rfl ?_
  intro p e s m args below meth c s₁ B hml hv
  obtain ⟨rfl, hPX⟩ := hv
  have hx := B.exec
  have hb := B.bytes
  have hr := B.returns
  have hts := atoms_spec (ws := wsX4_swap) B.pre
  have hown : s.vm.findClass RX4 = some m.cls := findClass_of_methodNamed B.named
  have hlocks := B.notSynchronized
  have hX := WX.of hPX
  have hl := lv_entry ([.ref (ad 57), .int (nI i), .int (nI q), .int (nI q2)]) (n := 5) (Nat.le_of_ble_eq_true rfl)
  rw [lg_entry_eq]
  generalize (lg_sl ([.ref (ad 57), .int (nI i), .int (nI q), .int (nI q2)]) ++ List.replicate (5 - (lg_sl ([.ref (ad 57), .int (nI i), .int (nI q), .int (nI q2)])).length) Slot.unset).toArray = ls at hl ⊢
  have hl : lv_has ls 5 [(0, .ref (ad 57)), (1, .int (nI i)), (2, .int (nI q)), (3, .int (nI q2))] := hl
  show W p l e ({ frames := 2, cells := 0, slots := 0, locals := 47 } : Room) s m ([.ref (ad 57), .int (nI i), .int (nI q), .int (nI q2)]).toArray below meth c s.heap [] 0 0 (MQ below (va_Qi (fun r S' => r = (if xch (S.1 i).1 q q2 q = xch (S.1 i).1 q q2 q2 then 0 else 1) ∧ S' = xR S i (xch (S.1 i).1 q q2, xch (S.1 i).2.1 q q2, (S.1 i).2.2)) (PX dC dI ad) (AX ad)) ([.ref (ad 57), .int (nI i), .int (nI q), .int (nI q2)]).toArray s 0 0 (AX ad)) (F0 m 0 ls [])
  have hn := (hI.1 i (by omega)).1
  refine lv_aload_n hx hb dX4_swap_0 rfl (lv_at hl 0 rfl) ?_
  refine lv_iload_n hx hb dX4_swap_1 rfl (lv_at hl 1 rfl) ?_
  refine va_csr (va_Run.run (va_runV (As := [.int (nI i)]) (rest := []) ⟨hx, hb, hml, hown, hts⟩ (m_X4_rowAt l dC dI ad S i (by omega)) (cwV 1 hts gX4_swap_X4_rowAt rfl rfl rfl hdX4_rowAt_1 ⟨Nat.le_of_ble_eq_true rfl, Nat.le_of_ble_eq_true rfl⟩) (hX.preTop 57 6 (by decide) (by decide) rfl rfl) rfl rfl hl.1 rfl (lv_room (Nat.le_of_ble_eq_true rfl)) dX4_swap_2 ⟨Nat.le_of_ble_eq_true rfl, Nat.le_of_ble_eq_true rfl⟩)) (fun k_ hk_ => ?_)
  rw [hk_]
  refine lv_astore (lv' := [(4, .ref (ad (3 * i))), (0, .ref (ad 57)), (1, .int (nI i)), (2, .int (nI q)), (3, .int (nI q2))]) hx hb dX4_swap_5 hl (by decide) rfl (fun ls hl => ?_)
  refine lv_aload hx hb dX4_swap_7 (lv_at hl 0 rfl) ?_
  refine lv_iload_n hx hb dX4_swap_9 rfl (lv_at hl 3 rfl) ?_
  refine va_csv (va_Run.run (va_runS (As := [.ref (ad (3 * i)), .int (nI q)]) (rest := []) ⟨hx, hb, hml, hown, hts⟩ (m_X4_demandPlace l dC dI ad S i q (by omega) (by omega) (by omega)) (va_cwS 2 hts gX4_swap_X4_demandPlace rfl rfl rfl hdX4_demandPlace_2.2 ⟨Nat.le_of_ble_eq_true rfl, Nat.le_of_ble_eq_true rfl⟩) hX.preS rfl rfl hl.1 rfl (lv_room (Nat.le_of_ble_eq_true rfl)) dX4_swap_10 ⟨Nat.le_of_ble_eq_true rfl, Nat.le_of_ble_eq_true rfl⟩)) (fun _ => ?_)
  refine lv_aload hx hb dX4_swap_13 (lv_at hl 0 rfl) ?_
  refine lv_iload_n hx hb dX4_swap_15 rfl (lv_at hl 4 rfl) ?_
  refine va_csv (va_Run.run (va_runS (As := [.ref (ad (3 * i)), .int (nI q2)]) (rest := []) ⟨hx, hb, hml, hown, hts⟩ (m_X4_demandPlace l dC dI ad S i q2 (by omega) (by omega) (by omega)) (va_cwS 2 hts gX4_swap_X4_demandPlace rfl rfl rfl hdX4_demandPlace_2.2 ⟨Nat.le_of_ble_eq_true rfl, Nat.le_of_ble_eq_true rfl⟩) hX.preS rfl rfl hl.1 rfl (lv_room (Nat.le_of_ble_eq_true rfl)) dX4_swap_16 ⟨Nat.le_of_ble_eq_true rfl, Nat.le_of_ble_eq_true rfl⟩)) (fun _ => ?_)
  refine lv_aload hx hb dX4_swap_19 (lv_at hl 0 rfl) ?_
  refine lv_iload_n hx hb dX4_swap_21 rfl (lv_at hl 3 rfl) ?_
  refine lv_iload_n hx hb dX4_swap_22 rfl (lv_at hl 4 rfl) ?_
  refine kx_cv (va_runV (As := [.int (nI q), .int (nI q2)]) (rest := []) ⟨hx, hb, hml, hown, hts⟩ (m_X2_exchange l dC dI ad S i q q2 (by omega) (by omega) (by omega)) (cwV 2 hts gX4_swap_X2_exchange rfl rfl rfl hdX2_exchange_2 ⟨Nat.le_of_ble_eq_true rfl, Nat.le_of_ble_eq_true rfl⟩) (hX.preRow (by omega)) rfl rfl hl.1 rfl (lv_room (Nat.le_of_ble_eq_true rfl)) dX4_swap_23 ⟨Nat.le_of_ble_eq_true rfl, Nat.le_of_ble_eq_true rfl⟩) hX (fun _ h => h) (fun S_ H locs hw hX => ?_)
  subst hw
  refine lv_aload hx hb dX4_swap_26 (lv_at hl 0 rfl) ?_
  refine lv_iload_n hx hb dX4_swap_28 rfl (lv_at hl 3 rfl) ?_
  refine kx_cr (v := nI ((xch ((S.1 i).1) q q2) q)) (va_runV (As := [.int (nI q)]) (rest := []) ⟨hx, hb, hml, hown, hts⟩ (m_X2_valueOn l dC dI ad (xR S i (xch ((S.1 i).1) q q2, xch ((S.1 i).2.1) q q2, (S.1 i).2.2)) i q (by omega) (by omega)) (cwV 1 hts gX4_swap_X2_valueOn rfl rfl rfl hdX2_valueOn_1 ⟨Nat.le_of_ble_eq_true rfl, Nat.le_of_ble_eq_true rfl⟩) (hX.preRow (by omega)) rfl rfl hl.1 rfl (lv_room (Nat.le_of_ble_eq_true rfl)) dX4_swap_29 ⟨Nat.le_of_ble_eq_true rfl, Nat.le_of_ble_eq_true rfl⟩) (fun _ h => by rw [h, xR_row]) ?_
  refine lv_aload hx hb dX4_swap_32 (lv_at hl 0 rfl) ?_
  refine lv_iload_n hx hb dX4_swap_34 rfl (lv_at hl 4 rfl) ?_
  refine kx_cr (v := nI ((xch ((S.1 i).1) q q2) q2)) (va_runV (As := [.int (nI q2)]) (rest := [.int (nI ((xch ((S.1 i).1) q q2) q))]) ⟨hx, hb, hml, hown, hts⟩ (m_X2_valueOn l dC dI ad (xR S i (xch ((S.1 i).1) q q2, xch ((S.1 i).2.1) q q2, (S.1 i).2.2)) i q2 (by omega) (by omega)) (cwV 1 hts gX4_swap_X2_valueOn rfl rfl rfl hdX2_valueOn_1 ⟨Nat.le_of_ble_eq_true rfl, Nat.le_of_ble_eq_true rfl⟩) (hX.preRow (by omega)) rfl rfl hl.1 rfl (lv_room (Nat.le_of_ble_eq_true rfl)) dX4_swap_35 ⟨Nat.le_of_ble_eq_true rfl, Nat.le_of_ble_eq_true rfl⟩) (fun _ h => by rw [h, xR_row]) ?_
  have h1 := xch_lt (f := (S.1 i).1) (a := q) (b := q2) (k := q) (fun x hx => ((hI.1 i (by omega)).2 x hx).1) (by omega) (by omega) (by omega)
  have h2 := xch_lt (f := (S.1 i).1) (a := q) (b := q2) (k := q2) (fun x hx => ((hI.1 i (by omega)).2 x hx).1) (by omega) (by omega) (by omega)
  refine kn_icmp_eq (tgt := 45) hx hb (by omega) (by omega) dX4_swap_38 (by decide) (fun k_1 => ?_) (fun k_1 => ?_)
  · skip
    have hc := k_1
    refine lv_iconst (v := nI 0) hx hb dX4_swap_45 (by decide) ?_
    exact W.iret (v := nI 0) hx hb hr (fun t9 ht9 hW9 => ⟨⟨_, (xR S i (xch ((S.1 i).1) q q2, xch ((S.1 i).2.1) q q2, (S.1 i).2.2)), rfl, ⟨(if_pos hc).symm, rfl⟩, hX.P ht9 hW9⟩, hX.2.2.2.F ht9⟩) hX.2.2.2.2.2 dX4_swap_46
  · skip
    have hc := k_1
    refine lv_iconst (v := nI 1) hx hb dX4_swap_41 (by decide) ?_
    refine lv_goto (tgt := 46) hx hb dX4_swap_42 (by decide) ?_
    exact W.iret (v := nI 1) hx hb hr (fun t9 ht9 hW9 => ⟨⟨_, (xR S i (xch ((S.1 i).1) q q2, xch ((S.1 i).2.1) q q2, (S.1 i).2.2)), rfl, ⟨(if_neg hc).symm, rfl⟩, hX.P ht9 hW9⟩, hX.2.2.2.F ht9⟩) hX.2.2.2.2.2 dX4_swap_46
set_option maxHeartbeats 4000000 in
set_option maxRecDepth 100000 in
theorem m_X4_isSorted (l : Launch) (dC : Nat → ClassId) (dI : Nat → Nat → Nat) (ad : Nat → Nat) (S : XS) (i : Nat) (j : Nat) (hi : i < 3) (hj : j < 4) (hI : InvX S) : Met l yX4_isSorted wsX4_isSorted ({ frames := 2, cells := 0, slots := 0, locals := 48 } : Room) (va_Pc [.ref (ad 57), .int (nI i), .int (nI j)] (PX dC dI ad S)) (vp_Si (fun r => r = bI (seqB (S.2.1 j).2.2.1 (S.1 i).1 (S.1 i).2.2))) 0 0 (fun _ => False) := by
  refine Met.ofW (cc := cX4_isSorted) (maxL := 4) (ret := (some .boolean)) pl_X4 rfl ?_
  intro p e s m args below meth c s₁ B hml hv
  obtain ⟨rfl, hPX⟩ := hv
  have hx := B.exec
  have hb := B.bytes
  have hr := B.returns
  have hts := atoms_spec (ws := wsX4_isSorted) B.pre
  have hown : s.vm.findClass RX4 = some m.cls := findClass_of_methodNamed B.named
  have hlocks := B.notSynchronized
  have hX := WX.of hPX
  have hl := lv_entry ([.ref (ad 57), .int (nI i), .int (nI j)]) (n := 4) (Nat.le_of_ble_eq_true rfl)
  rw [lg_entry_eq]
  generalize (lg_sl ([.ref (ad 57), .int (nI i), .int (nI j)]) ++ List.replicate (4 - (lg_sl ([.ref (ad 57), .int (nI i), .int (nI j)])).length) Slot.unset).toArray = ls at hl ⊢
  have hl : lv_has ls 4 [(0, .ref (ad 57)), (1, .int (nI i)), (2, .int (nI j))] := hl
  show W p l e ({ frames := 2, cells := 0, slots := 0, locals := 48 } : Room) s m ([.ref (ad 57), .int (nI i), .int (nI j)]).toArray below meth c s.heap [] 0 0 (MQ below (vp_Si (fun r => r = bI (seqB (S.2.1 j).2.2.1 (S.1 i).1 (S.1 i).2.2))) ([.ref (ad 57), .int (nI i), .int (nI j)]).toArray s 0 0 (fun _ => False)) (F0 m 0 ls [])
  have hn := (hI.1 i (by omega)).1
  refine lv_aload_n hx hb dX4_isSorted_0 rfl (lv_at hl 0 rfl) ?_
  refine lv_iload_n hx hb dX4_isSorted_1 rfl (lv_at hl 1 rfl) ?_
  refine va_csr (va_Run.run (va_runV (As := [.int (nI i)]) (rest := []) ⟨hx, hb, hml, hown, hts⟩ (m_X4_rowAt l dC dI ad S i (by omega)) (cwV 1 hts gX4_isSorted_X4_rowAt rfl rfl rfl hdX4_rowAt_1 ⟨Nat.le_of_ble_eq_true rfl, Nat.le_of_ble_eq_true rfl⟩) (hX.preTop 57 6 (by decide) (by decide) rfl rfl) rfl rfl hl.1 rfl (lv_room (Nat.le_of_ble_eq_true rfl)) dX4_isSorted_2 ⟨Nat.le_of_ble_eq_true rfl, Nat.le_of_ble_eq_true rfl⟩)) (fun k_ hk_ => ?_)
  rw [hk_]
  refine lv_astore_n (lv' := [(3, .ref (ad (3 * i))), (0, .ref (ad 57)), (1, .int (nI i)), (2, .int (nI j))]) hx hb dX4_isSorted_5 rfl hl (by decide) rfl (fun ls hl => ?_)
  refine lv_aload_n hx hb dX4_isSorted_6 rfl (lv_at hl 0 rfl) ?_
  refine lv_aload_n hx hb dX4_isSorted_7 rfl (lv_at hl 1 rfl) ?_
  refine lv_iload_n hx hb dX4_isSorted_8 rfl (lv_at hl 3 rfl) ?_
  refine va_csr (va_Run.run (va_runV (As := [.int (nI j)]) (rest := [.ref (ad (3 * i))]) ⟨hx, hb, hml, hown, hts⟩ (m_X4_orderAt l dC dI ad S j (by omega)) (cwV 1 hts gX4_isSorted_X4_orderAt rfl rfl rfl hdX4_orderAt_1 ⟨Nat.le_of_ble_eq_true rfl, Nat.le_of_ble_eq_true rfl⟩) (hX.preTop 57 6 (by decide) (by decide) rfl rfl) rfl rfl hl.1 rfl (lv_room (Nat.le_of_ble_eq_true rfl)) dX4_isSorted_9 ⟨Nat.le_of_ble_eq_true rfl, Nat.le_of_ble_eq_true rfl⟩)) (fun k_ hk_ => ?_)
  rw [hk_]
  refine kx_cr (v := bI (seqB (S.2.1 j).2.2.1 (S.1 i).1 (S.1 i).2.2)) (va_runV (As := [.ref (ad (24 + 5 * j))]) (rest := []) ⟨hx, hb, hml, hown, hts⟩ (m_X2_isInSequenceBy l dC dI ad S i j (by omega) (by omega) (hI.1 i (by omega)) (hI.2 j (by omega))) (cwV 1 hts gX4_isSorted_X2_isInSequenceBy rfl rfl rfl hdX2_isInSequenceBy_1 ⟨Nat.le_of_ble_eq_true rfl, Nat.le_of_ble_eq_true rfl⟩) (hX.preRow (by omega)) rfl rfl hl.1 rfl (lv_room (Nat.le_of_ble_eq_true rfl)) dX4_isSorted_12 ⟨Nat.le_of_ble_eq_true rfl, Nat.le_of_ble_eq_true rfl⟩) (fun _ h => h) ?_
  exact W.zret (v := bI (seqB (S.2.1 j).2.2.1 (S.1 i).1 (S.1 i).2.2)) hx hb hr (bI_narrow _) (fun t9 ht9 hW9 => ⟨_, rfl, rfl, ht9⟩) (fun _ h => nomatch h) dX4_isSorted_15
set_option maxHeartbeats 4000000 in
set_option maxRecDepth 100000 in
theorem m_X4_size (l : Launch) (dC : Nat → ClassId) (dI : Nat → Nat → Nat) (ad : Nat → Nat) (S : XS) (i : Nat) (hi : i < 3) (hI : InvX S) : Met l yX4_size wsX4_size ({ frames := 1, cells := 0, slots := 0, locals := 22 } : Room) (va_Pc [.ref (ad 57), .int (nI i)] (PX dC dI ad S)) (vp_Si (fun r => r = nI (S.1 i).2.2)) 0 0 (fun _ => False) := by
  refine Met.ofW (cc := cX4_size) (maxL := 2) (ret := (some .int)) pl_X4 rfl ?_
  intro p e s m args below meth c s₁ B hml hv
  obtain ⟨rfl, hPX⟩ := hv
  have hx := B.exec
  have hb := B.bytes
  have hr := B.returns
  have hts := atoms_spec (ws := wsX4_size) B.pre
  have hown : s.vm.findClass RX4 = some m.cls := findClass_of_methodNamed B.named
  have hlocks := B.notSynchronized
  have hX := WX.of hPX
  have hl := lv_entry ([.ref (ad 57), .int (nI i)]) (n := 2) (Nat.le_of_ble_eq_true rfl)
  rw [lg_entry_eq]
  generalize (lg_sl ([.ref (ad 57), .int (nI i)]) ++ List.replicate (2 - (lg_sl ([.ref (ad 57), .int (nI i)])).length) Slot.unset).toArray = ls at hl ⊢
  have hl : lv_has ls 2 [(0, .ref (ad 57)), (1, .int (nI i))] := hl
  show W p l e ({ frames := 1, cells := 0, slots := 0, locals := 22 } : Room) s m ([.ref (ad 57), .int (nI i)]).toArray below meth c s.heap [] 0 0 (MQ below (vp_Si (fun r => r = nI (S.1 i).2.2)) ([.ref (ad 57), .int (nI i)]).toArray s 0 0 (fun _ => False)) (F0 m 0 ls [])
  have hn := (hI.1 i (by omega)).1
  refine lv_aload_n hx hb dX4_size_0 rfl (lv_at hl 0 rfl) ?_
  refine lv_iload_n hx hb dX4_size_1 rfl (lv_at hl 1 rfl) ?_
  refine va_csr (va_Run.run (va_runV (As := [.int (nI i)]) (rest := []) ⟨hx, hb, hml, hown, hts⟩ (m_X4_rowAt l dC dI ad S i (by omega)) (cwV 1 hts gX4_size_X4_rowAt rfl rfl rfl hdX4_rowAt_1 ⟨Nat.le_of_ble_eq_true rfl, Nat.le_of_ble_eq_true rfl⟩) (hX.preTop 57 6 (by decide) (by decide) rfl rfl) rfl rfl hl.1 rfl (lv_room (Nat.le_of_ble_eq_true rfl)) dX4_size_2 ⟨Nat.le_of_ble_eq_true rfl, Nat.le_of_ble_eq_true rfl⟩)) (fun k_ hk_ => ?_)
  rw [hk_]
  refine kx_cr (v := nI ((S.1 i).2.2)) (va_runV (As := []) (rest := []) ⟨hx, hb, hml, hown, hts⟩ (m_X2_length l dC dI ad S i (by omega)) (cwV 0 hts gX4_size_X2_length rfl rfl rfl hdX2_length_0 ⟨Nat.le_of_ble_eq_true rfl, Nat.le_of_ble_eq_true rfl⟩) (hX.preRow (by omega)) rfl rfl hl.1 rfl (lv_room (Nat.le_of_ble_eq_true rfl)) dX4_size_5 ⟨Nat.le_of_ble_eq_true rfl, Nat.le_of_ble_eq_true rfl⟩) (fun _ h => h) ?_
  exact W.iret (v := nI ((S.1 i).2.2)) hx hb hr (fun t9 ht9 hW9 => ⟨_, rfl, rfl, ht9⟩) (fun _ h => nomatch h) dX4_size_8
set_option maxHeartbeats 4000000 in
set_option maxRecDepth 100000 in
theorem m_X4_valueAt (l : Launch) (dC : Nat → ClassId) (dI : Nat → Nat → Nat) (ad : Nat → Nat) (S : XS) (i : Nat) (q : Nat) (hi : i < 3) (hq : q < (S.1 i).2.2) (hI : InvX S) : Met l yX4_valueAt wsX4_valueAt ({ frames := 2, cells := 0, slots := 0, locals := 41 } : Room) (va_Pc [.ref (ad 57), .int (nI i), .int (nI q)] (PX dC dI ad S)) (vp_Si (fun r => r = nI ((S.1 i).1 q))) 0 0 (fun _ => False) := by
  refine Met.ofW (cc := cX4_valueAt) (maxL := 4) (ret := (some .int)) pl_X4 rfl ?_
  intro p e s m args below meth c s₁ B hml hv
  obtain ⟨rfl, hPX⟩ := hv
  have hx := B.exec
  have hb := B.bytes
  have hr := B.returns
  have hts := atoms_spec (ws := wsX4_valueAt) B.pre
  have hown : s.vm.findClass RX4 = some m.cls := findClass_of_methodNamed B.named
  have hlocks := B.notSynchronized
  have hX := WX.of hPX
  have hl := lv_entry ([.ref (ad 57), .int (nI i), .int (nI q)]) (n := 4) (Nat.le_of_ble_eq_true rfl)
  rw [lg_entry_eq]
  generalize (lg_sl ([.ref (ad 57), .int (nI i), .int (nI q)]) ++ List.replicate (4 - (lg_sl ([.ref (ad 57), .int (nI i), .int (nI q)])).length) Slot.unset).toArray = ls at hl ⊢
  have hl : lv_has ls 4 [(0, .ref (ad 57)), (1, .int (nI i)), (2, .int (nI q))] := hl
  show W p l e ({ frames := 2, cells := 0, slots := 0, locals := 41 } : Room) s m ([.ref (ad 57), .int (nI i), .int (nI q)]).toArray below meth c s.heap [] 0 0 (MQ below (vp_Si (fun r => r = nI ((S.1 i).1 q))) ([.ref (ad 57), .int (nI i), .int (nI q)]).toArray s 0 0 (fun _ => False)) (F0 m 0 ls [])
  have hn := (hI.1 i (by omega)).1
  refine lv_aload_n hx hb dX4_valueAt_0 rfl (lv_at hl 0 rfl) ?_
  refine lv_iload_n hx hb dX4_valueAt_1 rfl (lv_at hl 1 rfl) ?_
  refine va_csr (va_Run.run (va_runV (As := [.int (nI i)]) (rest := []) ⟨hx, hb, hml, hown, hts⟩ (m_X4_rowAt l dC dI ad S i (by omega)) (cwV 1 hts gX4_valueAt_X4_rowAt rfl rfl rfl hdX4_rowAt_1 ⟨Nat.le_of_ble_eq_true rfl, Nat.le_of_ble_eq_true rfl⟩) (hX.preTop 57 6 (by decide) (by decide) rfl rfl) rfl rfl hl.1 rfl (lv_room (Nat.le_of_ble_eq_true rfl)) dX4_valueAt_2 ⟨Nat.le_of_ble_eq_true rfl, Nat.le_of_ble_eq_true rfl⟩)) (fun k_ hk_ => ?_)
  rw [hk_]
  refine lv_astore_n (lv' := [(3, .ref (ad (3 * i))), (0, .ref (ad 57)), (1, .int (nI i)), (2, .int (nI q))]) hx hb dX4_valueAt_5 rfl hl (by decide) rfl (fun ls hl => ?_)
  refine lv_aload_n hx hb dX4_valueAt_6 rfl (lv_at hl 0 rfl) ?_
  refine lv_iload_n hx hb dX4_valueAt_7 rfl (lv_at hl 3 rfl) ?_
  refine va_csv (va_Run.run (va_runS (As := [.ref (ad (3 * i)), .int (nI q)]) (rest := []) ⟨hx, hb, hml, hown, hts⟩ (m_X4_demandPlace l dC dI ad S i q (by omega) (by omega) (by omega)) (va_cwS 2 hts gX4_valueAt_X4_demandPlace rfl rfl rfl hdX4_demandPlace_2.2 ⟨Nat.le_of_ble_eq_true rfl, Nat.le_of_ble_eq_true rfl⟩) hX.preS rfl rfl hl.1 rfl (lv_room (Nat.le_of_ble_eq_true rfl)) dX4_valueAt_8 ⟨Nat.le_of_ble_eq_true rfl, Nat.le_of_ble_eq_true rfl⟩)) (fun _ => ?_)
  refine lv_aload_n hx hb dX4_valueAt_11 rfl (lv_at hl 0 rfl) ?_
  refine lv_iload_n hx hb dX4_valueAt_12 rfl (lv_at hl 3 rfl) ?_
  refine kx_cr (v := nI (((S.1 i).1) q)) (va_runV (As := [.int (nI q)]) (rest := []) ⟨hx, hb, hml, hown, hts⟩ (m_X2_valueOn l dC dI ad S i q (by omega) (by omega)) (cwV 1 hts gX4_valueAt_X2_valueOn rfl rfl rfl hdX2_valueOn_1 ⟨Nat.le_of_ble_eq_true rfl, Nat.le_of_ble_eq_true rfl⟩) (hX.preRow (by omega)) rfl rfl hl.1 rfl (lv_room (Nat.le_of_ble_eq_true rfl)) dX4_valueAt_13 ⟨Nat.le_of_ble_eq_true rfl, Nat.le_of_ble_eq_true rfl⟩) (fun _ h => h) ?_
  exact W.iret (v := nI (((S.1 i).1) q)) hx hb hr (fun t9 ht9 hW9 => ⟨_, rfl, rfl, ht9⟩) (fun _ h => nomatch h) dX4_valueAt_16
set_option maxHeartbeats 4000000 in
set_option maxRecDepth 100000 in
theorem m_X4_markAt (l : Launch) (dC : Nat → ClassId) (dI : Nat → Nat → Nat) (ad : Nat → Nat) (S : XS) (i : Nat) (q : Nat) (hi : i < 3) (hq : q < (S.1 i).2.2) (hI : InvX S) : Met l yX4_markAt wsX4_markAt ({ frames := 2, cells := 0, slots := 0, locals := 41 } : Room) (va_Pc [.ref (ad 57), .int (nI i), .int (nI q)] (PX dC dI ad S)) (vp_Si (fun r => r = nI ((S.1 i).2.1 q))) 0 0 (fun _ => False) := by
  refine Met.ofW (cc := cX4_markAt) (maxL := 4) (ret := (some .int)) pl_X4 rfl ?_
  intro p e s m args below meth c s₁ B hml hv
  obtain ⟨rfl, hPX⟩ := hv
  have hx := B.exec
  have hb := B.bytes
  have hr := B.returns
  have hts := atoms_spec (ws := wsX4_markAt) B.pre
  have hown : s.vm.findClass RX4 = some m.cls := findClass_of_methodNamed B.named
  have hlocks := B.notSynchronized
  have hX := WX.of hPX
  have hl := lv_entry ([.ref (ad 57), .int (nI i), .int (nI q)]) (n := 4) (Nat.le_of_ble_eq_true rfl)
  rw [lg_entry_eq]
  generalize (lg_sl ([.ref (ad 57), .int (nI i), .int (nI q)]) ++ List.replicate (4 - (lg_sl ([.ref (ad 57), .int (nI i), .int (nI q)])).length) Slot.unset).toArray = ls at hl ⊢
  have hl : lv_has ls 4 [(0, .ref (ad 57)), (1, .int (nI i)), (2, .int (nI q))] := hl
  show W p l e ({ frames := 2, cells := 0, slots := 0, locals := 41 } : Room) s m ([.ref (ad 57), .int (nI i), .int (nI q)]).toArray below meth c s.heap [] 0 0 (MQ below (vp_Si (fun r => r = nI ((S.1 i).2.1 q))) ([.ref (ad 57), .int (nI i), .int (nI q)]).toArray s 0 0 (fun _ => False)) (F0 m 0 ls [])
  have hn := (hI.1 i (by omega)).1
  refine lv_aload_n hx hb dX4_markAt_0 rfl (lv_at hl 0 rfl) ?_
  refine lv_iload_n hx hb dX4_markAt_1 rfl (lv_at hl 1 rfl) ?_
  refine va_csr (va_Run.run (va_runV (As := [.int (nI i)]) (rest := []) ⟨hx, hb, hml, hown, hts⟩ (m_X4_rowAt l dC dI ad S i (by omega)) (cwV 1 hts gX4_markAt_X4_rowAt rfl rfl rfl hdX4_rowAt_1 ⟨Nat.le_of_ble_eq_true rfl, Nat.le_of_ble_eq_true rfl⟩) (hX.preTop 57 6 (by decide) (by decide) rfl rfl) rfl rfl hl.1 rfl (lv_room (Nat.le_of_ble_eq_true rfl)) dX4_markAt_2 ⟨Nat.le_of_ble_eq_true rfl, Nat.le_of_ble_eq_true rfl⟩)) (fun k_ hk_ => ?_)
  rw [hk_]
  refine lv_astore_n (lv' := [(3, .ref (ad (3 * i))), (0, .ref (ad 57)), (1, .int (nI i)), (2, .int (nI q))]) hx hb dX4_markAt_5 rfl hl (by decide) rfl (fun ls hl => ?_)
  refine lv_aload_n hx hb dX4_markAt_6 rfl (lv_at hl 0 rfl) ?_
  refine lv_iload_n hx hb dX4_markAt_7 rfl (lv_at hl 3 rfl) ?_
  refine va_csv (va_Run.run (va_runS (As := [.ref (ad (3 * i)), .int (nI q)]) (rest := []) ⟨hx, hb, hml, hown, hts⟩ (m_X4_demandPlace l dC dI ad S i q (by omega) (by omega) (by omega)) (va_cwS 2 hts gX4_markAt_X4_demandPlace rfl rfl rfl hdX4_demandPlace_2.2 ⟨Nat.le_of_ble_eq_true rfl, Nat.le_of_ble_eq_true rfl⟩) hX.preS rfl rfl hl.1 rfl (lv_room (Nat.le_of_ble_eq_true rfl)) dX4_markAt_8 ⟨Nat.le_of_ble_eq_true rfl, Nat.le_of_ble_eq_true rfl⟩)) (fun _ => ?_)
  refine lv_aload_n hx hb dX4_markAt_11 rfl (lv_at hl 0 rfl) ?_
  refine lv_iload_n hx hb dX4_markAt_12 rfl (lv_at hl 3 rfl) ?_
  refine kx_cr (v := nI (((S.1 i).2.1) q)) (va_runV (As := [.int (nI q)]) (rest := []) ⟨hx, hb, hml, hown, hts⟩ (m_X2_markOn l dC dI ad S i q (by omega) (by omega)) (cwV 1 hts gX4_markAt_X2_markOn rfl rfl rfl hdX2_markOn_1 ⟨Nat.le_of_ble_eq_true rfl, Nat.le_of_ble_eq_true rfl⟩) (hX.preRow (by omega)) rfl rfl hl.1 rfl (lv_room (Nat.le_of_ble_eq_true rfl)) dX4_markAt_13 ⟨Nat.le_of_ble_eq_true rfl, Nat.le_of_ble_eq_true rfl⟩) (fun _ h => h) ?_
  exact W.iret (v := nI (((S.1 i).2.1) q)) hx hb hr (fun t9 ht9 hW9 => ⟨_, rfl, rfl, ht9⟩) (fun _ h => nomatch h) dX4_markAt_16
set_option maxHeartbeats 4000000 in
set_option maxRecDepth 100000 in
theorem m_X4_kinds (l : Launch) (dC : Nat → ClassId) (dI : Nat → Nat → Nat) (ad : Nat → Nat) (S : XS) (i : Nat) (j : Nat) (hi : i < 3) (hj : j < 4) (hI : InvX S) : Met l yX4_kinds wsX4_kinds ({ frames := 3, cells := 0, slots := 0, locals := 72 } : Room) (va_Pc [.ref (ad 57), .int (nI i), .int (nI j)] (PX dC dI ad S)) (vp_Si (fun r => r = nI (cntB (firstB (S.2.1 j).2.2.1 (S.1 i).1) (S.1 i).2.2))) 0 0 (fun _ => False) := by
  refine Met.ofW (cc := cX4_kinds) (maxL := 4) (ret := (some .int)) pl_X4 rfl ?_
  intro p e s m args below meth c s₁ B hml hv
  obtain ⟨rfl, hPX⟩ := hv
  have hx := B.exec
  have hb := B.bytes
  have hr := B.returns
  have hts := atoms_spec (ws := wsX4_kinds) B.pre
  have hown : s.vm.findClass RX4 = some m.cls := findClass_of_methodNamed B.named
  have hlocks := B.notSynchronized
  have hX := WX.of hPX
  have hl := lv_entry ([.ref (ad 57), .int (nI i), .int (nI j)]) (n := 4) (Nat.le_of_ble_eq_true rfl)
  rw [lg_entry_eq]
  generalize (lg_sl ([.ref (ad 57), .int (nI i), .int (nI j)]) ++ List.replicate (4 - (lg_sl ([.ref (ad 57), .int (nI i), .int (nI j)])).length) Slot.unset).toArray = ls at hl ⊢
  have hl : lv_has ls 4 [(0, .ref (ad 57)), (1, .int (nI i)), (2, .int (nI j))] := hl
  show W p l e ({ frames := 3, cells := 0, slots := 0, locals := 72 } : Room) s m ([.ref (ad 57), .int (nI i), .int (nI j)]).toArray below meth c s.heap [] 0 0 (MQ below (vp_Si (fun r => r = nI (cntB (firstB (S.2.1 j).2.2.1 (S.1 i).1) (S.1 i).2.2))) ([.ref (ad 57), .int (nI i), .int (nI j)]).toArray s 0 0 (fun _ => False)) (F0 m 0 ls [])
  have hn := (hI.1 i (by omega)).1
  refine lv_aload_n hx hb dX4_kinds_0 rfl (lv_at hl 0 rfl) ?_
  refine lv_iload_n hx hb dX4_kinds_1 rfl (lv_at hl 1 rfl) ?_
  refine va_csr (va_Run.run (va_runV (As := [.int (nI i)]) (rest := []) ⟨hx, hb, hml, hown, hts⟩ (m_X4_rowAt l dC dI ad S i (by omega)) (cwV 1 hts gX4_kinds_X4_rowAt rfl rfl rfl hdX4_rowAt_1 ⟨Nat.le_of_ble_eq_true rfl, Nat.le_of_ble_eq_true rfl⟩) (hX.preTop 57 6 (by decide) (by decide) rfl rfl) rfl rfl hl.1 rfl (lv_room (Nat.le_of_ble_eq_true rfl)) dX4_kinds_2 ⟨Nat.le_of_ble_eq_true rfl, Nat.le_of_ble_eq_true rfl⟩)) (fun k_ hk_ => ?_)
  rw [hk_]
  refine lv_astore_n (lv' := [(3, .ref (ad (3 * i))), (0, .ref (ad 57)), (1, .int (nI i)), (2, .int (nI j))]) hx hb dX4_kinds_5 rfl hl (by decide) rfl (fun ls hl => ?_)
  refine lv_aload_n hx hb dX4_kinds_6 rfl (lv_at hl 0 rfl) ?_
  refine lv_aload_n hx hb dX4_kinds_7 rfl (lv_at hl 1 rfl) ?_
  refine lv_iload_n hx hb dX4_kinds_8 rfl (lv_at hl 3 rfl) ?_
  refine va_csr (va_Run.run (va_runV (As := [.int (nI j)]) (rest := [.ref (ad (3 * i))]) ⟨hx, hb, hml, hown, hts⟩ (m_X4_orderAt l dC dI ad S j (by omega)) (cwV 1 hts gX4_kinds_X4_orderAt rfl rfl rfl hdX4_orderAt_1 ⟨Nat.le_of_ble_eq_true rfl, Nat.le_of_ble_eq_true rfl⟩) (hX.preTop 57 6 (by decide) (by decide) rfl rfl) rfl rfl hl.1 rfl (lv_room (Nat.le_of_ble_eq_true rfl)) dX4_kinds_9 ⟨Nat.le_of_ble_eq_true rfl, Nat.le_of_ble_eq_true rfl⟩)) (fun k_ hk_ => ?_)
  rw [hk_]
  refine kx_cr (v := nI (cntB (firstB (S.2.1 j).2.2.1 (S.1 i).1) (S.1 i).2.2)) (va_runV (As := [.ref (ad (24 + 5 * j))]) (rest := []) ⟨hx, hb, hml, hown, hts⟩ (m_X2_lots l dC dI ad S i j (by omega) (by omega) (hI.1 i (by omega)) (hI.2 j (by omega))) (cwV 1 hts gX4_kinds_X2_lots rfl rfl rfl hdX2_lots_1 ⟨Nat.le_of_ble_eq_true rfl, Nat.le_of_ble_eq_true rfl⟩) (hX.preRow (by omega)) rfl rfl hl.1 rfl (lv_room (Nat.le_of_ble_eq_true rfl)) dX4_kinds_12 ⟨Nat.le_of_ble_eq_true rfl, Nat.le_of_ble_eq_true rfl⟩) (fun _ h => h) ?_
  exact W.iret (v := nI (cntB (firstB (S.2.1 j).2.2.1 (S.1 i).1) (S.1 i).2.2)) hx hb hr (fun t9 ht9 hW9 => ⟨_, rfl, rfl, ht9⟩) (fun _ h => nomatch h) dX4_kinds_15
set_option maxHeartbeats 4000000 in
set_option maxRecDepth 100000 in
theorem m_X4_ahead (l : Launch) (dC : Nat → ClassId) (dI : Nat → Nat → Nat) (ad : Nat → Nat) (S : XS) (i : Nat) (j : Nat) (v : Nat) (hi : i < 3) (hj : j < 4) (hv : v < 16) (hI : InvX S) : Met l yX4_ahead wsX4_ahead ({ frames := 3, cells := 0, slots := 0, locals := 73 } : Room) (va_Pc [.ref (ad 57), .int (nI i), .int (nI j), .int (nI v)] (PX dC dI ad S)) (vp_Si (fun r => r = nI (cntB (fun k => firstB (S.2.1 j).2.2.1 (S.1 i).1 k && decide ((S.2.1 j).2.2.1 ((S.1 i).1 k) < (S.2.1 j).2.2.1 v)) (S.1 i).2.2))) 0 0 (fun _ => False) := by
  refine Met.ofW (cc := cX4_ahead) (maxL := 6) (ret := (some .int)) pl_X4 rfl ?_
  intro p e s m args below meth c s₁ B hml hv
  obtain ⟨rfl, hPX⟩ := hv
  have hx := B.exec
  have hb := B.bytes
  have hr := B.returns
  have hts := atoms_spec (ws := wsX4_ahead) B.pre
  have hown : s.vm.findClass RX4 = some m.cls := findClass_of_methodNamed B.named
  have hlocks := B.notSynchronized
  have hX := WX.of hPX
  have hl := lv_entry ([.ref (ad 57), .int (nI i), .int (nI j), .int (nI v)]) (n := 6) (Nat.le_of_ble_eq_true rfl)
  rw [lg_entry_eq]
  generalize (lg_sl ([.ref (ad 57), .int (nI i), .int (nI j), .int (nI v)]) ++ List.replicate (6 - (lg_sl ([.ref (ad 57), .int (nI i), .int (nI j), .int (nI v)])).length) Slot.unset).toArray = ls at hl ⊢
  have hl : lv_has ls 6 [(0, .ref (ad 57)), (1, .int (nI i)), (2, .int (nI j)), (3, .int (nI v))] := hl
  show W p l e ({ frames := 3, cells := 0, slots := 0, locals := 73 } : Room) s m ([.ref (ad 57), .int (nI i), .int (nI j), .int (nI v)]).toArray below meth c s.heap [] 0 0 (MQ below (vp_Si (fun r => r = nI (cntB (fun k => firstB (S.2.1 j).2.2.1 (S.1 i).1 k && decide ((S.2.1 j).2.2.1 ((S.1 i).1 k) < (S.2.1 j).2.2.1 v)) (S.1 i).2.2))) ([.ref (ad 57), .int (nI i), .int (nI j), .int (nI v)]).toArray s 0 0 (fun _ => False)) (F0 m 0 ls [])
  have hn := (hI.1 i (by omega)).1
  refine lv_aload_n hx hb dX4_ahead_0 rfl (lv_at hl 0 rfl) ?_
  refine lv_iload_n hx hb dX4_ahead_1 rfl (lv_at hl 1 rfl) ?_
  refine va_csr (va_Run.run (va_runV (As := [.int (nI i)]) (rest := []) ⟨hx, hb, hml, hown, hts⟩ (m_X4_rowAt l dC dI ad S i (by omega)) (cwV 1 hts gX4_ahead_X4_rowAt rfl rfl rfl hdX4_rowAt_1 ⟨Nat.le_of_ble_eq_true rfl, Nat.le_of_ble_eq_true rfl⟩) (hX.preTop 57 6 (by decide) (by decide) rfl rfl) rfl rfl hl.1 rfl (lv_room (Nat.le_of_ble_eq_true rfl)) dX4_ahead_2 ⟨Nat.le_of_ble_eq_true rfl, Nat.le_of_ble_eq_true rfl⟩)) (fun k_ hk_ => ?_)
  rw [hk_]
  refine lv_astore (lv' := [(4, .ref (ad (3 * i))), (0, .ref (ad 57)), (1, .int (nI i)), (2, .int (nI j)), (3, .int (nI v))]) hx hb dX4_ahead_5 hl (by decide) rfl (fun ls hl => ?_)
  refine lv_aload_n hx hb dX4_ahead_7 rfl (lv_at hl 1 rfl) ?_
  refine lv_iload_n hx hb dX4_ahead_8 rfl (lv_at hl 3 rfl) ?_
  refine va_csr (va_Run.run (va_runV (As := [.int (nI j)]) (rest := []) ⟨hx, hb, hml, hown, hts⟩ (m_X4_orderAt l dC dI ad S j (by omega)) (cwV 1 hts gX4_ahead_X4_orderAt rfl rfl rfl hdX4_orderAt_1 ⟨Nat.le_of_ble_eq_true rfl, Nat.le_of_ble_eq_true rfl⟩) (hX.preTop 57 6 (by decide) (by decide) rfl rfl) rfl rfl hl.1 rfl (lv_room (Nat.le_of_ble_eq_true rfl)) dX4_ahead_9 ⟨Nat.le_of_ble_eq_true rfl, Nat.le_of_ble_eq_true rfl⟩)) (fun k_ hk_ => ?_)
  rw [hk_]
  refine lv_astore (lv' := [(5, .ref (ad (24 + 5 * j))), (4, .ref (ad (3 * i))), (0, .ref (ad 57)), (1, .int (nI i)), (2, .int (nI j)), (3, .int (nI v))]) hx hb dX4_ahead_12 hl (by decide) rfl (fun ls hl => ?_)
  refine lv_iload_n hx hb dX4_ahead_14 rfl (lv_at hl 5 rfl) ?_
  refine va_csv (va_Run.run (va_runS (As := [.int (nI v)]) (rest := []) ⟨hx, hb, hml, hown, hts⟩ (m_X4_demandValue l dC dI ad S v (by omega)) (va_cwS 1 hts gX4_ahead_X4_demandValue rfl rfl rfl hdX4_demandValue_1.2 ⟨Nat.le_of_ble_eq_true rfl, Nat.le_of_ble_eq_true rfl⟩) hX.preS rfl rfl hl.1 rfl (lv_room (Nat.le_of_ble_eq_true rfl)) dX4_ahead_15 ⟨Nat.le_of_ble_eq_true rfl, Nat.le_of_ble_eq_true rfl⟩)) (fun _ => ?_)
  refine lv_aload hx hb dX4_ahead_18 (lv_at hl 1 rfl) ?_
  refine lv_aload hx hb dX4_ahead_20 (lv_at hl 0 rfl) ?_
  refine lv_iload_n hx hb dX4_ahead_22 rfl (lv_at hl 5 rfl) ?_
  refine kx_cr (v := nI (cntB (fun k => firstB (S.2.1 j).2.2.1 (S.1 i).1 k && decide ((S.2.1 j).2.2.1 ((S.1 i).1 k) < (S.2.1 j).2.2.1 v)) (S.1 i).2.2)) (va_runV (As := [.ref (ad (24 + 5 * j)), .int (nI v)]) (rest := []) ⟨hx, hb, hml, hown, hts⟩ (m_X2_lotsAhead l dC dI ad S i j v (by omega) (by omega) (hI.1 i (by omega)) (hI.2 j (by omega)) (by omega)) (cwV 2 hts gX4_ahead_X2_lotsAhead rfl rfl rfl hdX2_lotsAhead_2 ⟨Nat.le_of_ble_eq_true rfl, Nat.le_of_ble_eq_true rfl⟩) (hX.preRow (by omega)) rfl rfl hl.1 rfl (lv_room (Nat.le_of_ble_eq_true rfl)) dX4_ahead_23 ⟨Nat.le_of_ble_eq_true rfl, Nat.le_of_ble_eq_true rfl⟩) (fun _ h => h) ?_
  exact W.iret (v := nI (cntB (fun k => firstB (S.2.1 j).2.2.1 (S.1 i).1 k && decide ((S.2.1 j).2.2.1 ((S.1 i).1 k) < (S.2.1 j).2.2.1 v)) (S.1 i).2.2)) hx hb hr (fun t9 ht9 hW9 => ⟨_, rfl, rfl, ht9⟩) (fun _ h => nomatch h) dX4_ahead_26
set_option maxHeartbeats 4000000 in
set_option maxRecDepth 100000 in
theorem m_X4_extreme (l : Launch) (dC : Nat → ClassId) (dI : Nat → Nat → Nat) (ad : Nat → Nat) (S : XS) (i : Nat) (j : Nat) (z : Bool) (hi : i < 3) (hj : j < 4) (hI : InvX S) : Met l yX4_extreme wsX4_extreme ({ frames := 2, cells := 0, slots := 0, locals := 49 } : Room) (va_Pc [.ref (ad 57), .int (nI i), .int (nI j), .int (bI z)] (PX dC dI ad S)) (vp_Si (fun r => r = exI (if z then bestB (fun _ => true) (fun a b => decide ((S.2.1 j).2.2.1 ((S.1 i).1 b) < (S.2.1 j).2.2.1 ((S.1 i).1 a))) (S.1 i).2.2 else bestB (fun _ => true) (fun a b => decide ((S.2.1 j).2.2.1 ((S.1 i).1 a) < (S.2.1 j).2.2.1 ((S.1 i).1 b))) (S.1 i).2.2) (fun b => (S.2.1 j).2.2.2.1 ((S.1 i).1 b)))) 0 0 (fun _ => False) := by
  refine Met.ofW (cc := cX4_extreme) (maxL := 7) (ret := (some .int)) pl_X4 rfl ?_
  intro p e s m args below meth c s₁ B hml hv
  obtain ⟨rfl, hPX⟩ := hv
  have hx := B.exec
  have hb := B.bytes
  have hr := B.returns
  have hts := atoms_spec (ws := wsX4_extreme) B.pre
  have hown : s.vm.findClass RX4 = some m.cls := findClass_of_methodNamed B.named
  have hlocks := B.notSynchronized
  have hX := WX.of hPX
  have hl := lv_entry ([.ref (ad 57), .int (nI i), .int (nI j), .int (bI z)]) (n := 7) (Nat.le_of_ble_eq_true rfl)
  rw [lg_entry_eq]
  generalize (lg_sl ([.ref (ad 57), .int (nI i), .int (nI j), .int (bI z)]) ++ List.replicate (7 - (lg_sl ([.ref (ad 57), .int (nI i), .int (nI j), .int (bI z)])).length) Slot.unset).toArray = ls at hl ⊢
  have hl : lv_has ls 7 [(0, .ref (ad 57)), (1, .int (nI i)), (2, .int (nI j)), (3, .int (bI z))] := hl
  show W p l e ({ frames := 2, cells := 0, slots := 0, locals := 49 } : Room) s m ([.ref (ad 57), .int (nI i), .int (nI j), .int (bI z)]).toArray below meth c s.heap [] 0 0 (MQ below (vp_Si (fun r => r = exI (if z then bestB (fun _ => true) (fun a b => decide ((S.2.1 j).2.2.1 ((S.1 i).1 b) < (S.2.1 j).2.2.1 ((S.1 i).1 a))) (S.1 i).2.2 else bestB (fun _ => true) (fun a b => decide ((S.2.1 j).2.2.1 ((S.1 i).1 a) < (S.2.1 j).2.2.1 ((S.1 i).1 b))) (S.1 i).2.2) (fun b => (S.2.1 j).2.2.2.1 ((S.1 i).1 b)))) ([.ref (ad 57), .int (nI i), .int (nI j), .int (bI z)]).toArray s 0 0 (fun _ => False)) (F0 m 0 ls [])
  have hn := (hI.1 i (by omega)).1
  refine lv_aload_n hx hb dX4_extreme_0 rfl (lv_at hl 0 rfl) ?_
  refine lv_iload_n hx hb dX4_extreme_1 rfl (lv_at hl 1 rfl) ?_
  refine va_csr (va_Run.run (va_runV (As := [.int (nI i)]) (rest := []) ⟨hx, hb, hml, hown, hts⟩ (m_X4_rowAt l dC dI ad S i (by omega)) (cwV 1 hts gX4_extreme_X4_rowAt rfl rfl rfl hdX4_rowAt_1 ⟨Nat.le_of_ble_eq_true rfl, Nat.le_of_ble_eq_true rfl⟩) (hX.preTop 57 6 (by decide) (by decide) rfl rfl) rfl rfl hl.1 rfl (lv_room (Nat.le_of_ble_eq_true rfl)) dX4_extreme_2 ⟨Nat.le_of_ble_eq_true rfl, Nat.le_of_ble_eq_true rfl⟩)) (fun k_ hk_ => ?_)
  rw [hk_]
  refine lv_astore (lv' := [(4, .ref (ad (3 * i))), (0, .ref (ad 57)), (1, .int (nI i)), (2, .int (nI j)), (3, .int (bI z))]) hx hb dX4_extreme_5 hl (by decide) rfl (fun ls hl => ?_)
  refine lv_aload_n hx hb dX4_extreme_7 rfl (lv_at hl 1 rfl) ?_
  refine lv_iload_n hx hb dX4_extreme_8 rfl (lv_at hl 3 rfl) ?_
  refine va_csr (va_Run.run (va_runV (As := [.int (nI j)]) (rest := []) ⟨hx, hb, hml, hown, hts⟩ (m_X4_orderAt l dC dI ad S j (by omega)) (cwV 1 hts gX4_extreme_X4_orderAt rfl rfl rfl hdX4_orderAt_1 ⟨Nat.le_of_ble_eq_true rfl, Nat.le_of_ble_eq_true rfl⟩) (hX.preTop 57 6 (by decide) (by decide) rfl rfl) rfl rfl hl.1 rfl (lv_room (Nat.le_of_ble_eq_true rfl)) dX4_extreme_9 ⟨Nat.le_of_ble_eq_true rfl, Nat.le_of_ble_eq_true rfl⟩)) (fun k_ hk_ => ?_)
  rw [hk_]
  refine lv_astore (lv' := [(5, .ref (ad (24 + 5 * j))), (4, .ref (ad (3 * i))), (0, .ref (ad 57)), (1, .int (nI i)), (2, .int (nI j)), (3, .int (bI z))]) hx hb dX4_extreme_12 hl (by decide) rfl (fun ls hl => ?_)
  refine lv_iload_n hx hb dX4_extreme_14 rfl (lv_at hl 5 rfl) ?_
  refine kb_if_eq (tgt := 28) hx hb dX4_extreme_15 (by decide) (fun k_1 => ?_) (fun k_1 => ?_)
  · skip
    have hz := k_1
    refine lv_aload hx hb dX4_extreme_28 (lv_at hl 1 rfl) ?_
    refine lv_aload hx hb dX4_extreme_30 (lv_at hl 0 rfl) ?_
    refine kx_cr (v := (oI (bestB (fun _ => true) (fun a b => decide ((S.2.1 j).2.2.1 ((S.1 i).1 a) < (S.2.1 j).2.2.1 ((S.1 i).1 b))) (S.1 i).2.2))) (va_runV (As := [.ref (ad (24 + 5 * j))]) (rest := []) ⟨hx, hb, hml, hown, hts⟩ (m_X2_firstPlaceBy l dC dI ad S i j (by omega) (by omega) (hI.1 i (by omega)) (hI.2 j (by omega))) (cwV 1 hts gX4_extreme_X2_firstPlaceBy rfl rfl rfl hdX2_firstPlaceBy_1 ⟨Nat.le_of_ble_eq_true rfl, Nat.le_of_ble_eq_true rfl⟩) (hX.preRow (by omega)) rfl rfl hl.1 rfl (lv_room (Nat.le_of_ble_eq_true rfl)) dX4_extreme_32 ⟨Nat.le_of_ble_eq_true rfl, Nat.le_of_ble_eq_true rfl⟩) (fun _ h => h) ?_
    rcases hq9 : (bestB (fun _ => true) (fun a b => decide ((S.2.1 j).2.2.1 ((S.1 i).1 a) < (S.2.1 j).2.2.1 ((S.1 i).1 b))) (S.1 i).2.2) with _ | bb
    · skip
      refine lv_istore (lv' := [(6, .int (oI none)), (5, .ref (ad (24 + 5 * j))), (4, .ref (ad (3 * i))), (0, .ref (ad 57)), (1, .int (nI i)), (2, .int (nI j)), (3, .int (bI z))]) hx hb dX4_extreme_35 hl (by decide) rfl (fun ls hl => ?_)
      refine lv_iload hx hb dX4_extreme_37 (lv_at hl 0 rfl) ?_
      refine lv_iconst (v := (-1)) hx hb dX4_extreme_39 (by decide) ?_
      refine lv_icmp_ne (tgt := 47) hx hb dX4_extreme_40 (by decide) (fun k_2 => absurd rfl k_2) (fun k_2 => ?_)
      refine lv_iconst (v := (-1)) hx hb dX4_extreme_43 (by decide) ?_
      refine lv_goto (tgt := 59) hx hb dX4_extreme_44 (by decide) ?_
      exact W.iret (v := (-1)) hx hb hr (fun t9 ht9 hW9 => ⟨_, rfl, (by rw [hz, if_neg (by decide)]; first | done | rfl), ht9⟩) (fun _ h => nomatch h) dX4_extreme_59
    · skip
      have hbb := bestB_lt hq9
      have hb1 := hbb.1
      refine lv_istore (lv' := [(6, .int (nI bb)), (5, .ref (ad (24 + 5 * j))), (4, .ref (ad (3 * i))), (0, .ref (ad 57)), (1, .int (nI i)), (2, .int (nI j)), (3, .int (bI z))]) hx hb dX4_extreme_35 hl (by decide) rfl (fun ls hl => ?_)
      refine lv_iload hx hb dX4_extreme_37 (lv_at hl 0 rfl) ?_
      refine lv_iconst (v := (-1)) hx hb dX4_extreme_39 (by decide) ?_
      refine lv_icmp_ne (tgt := 47) hx hb dX4_extreme_40 (by decide) (fun k_3 => ?_) (fun k_3 => absurd k_3 (nI_nm1 (by omega)))
      refine lv_aload hx hb dX4_extreme_47 (lv_at hl 1 rfl) ?_
      refine lv_aload hx hb dX4_extreme_49 (lv_at hl 2 rfl) ?_
      refine lv_iload hx hb dX4_extreme_51 (lv_at hl 0 rfl) ?_
      refine kx_cr (v := nI (((S.1 i).1) bb)) (va_runV (As := [.int (nI bb)]) (rest := [.ref (ad (24 + 5 * j))]) ⟨hx, hb, hml, hown, hts⟩ (m_X2_valueOn l dC dI ad S i bb (by omega) (by omega)) (cwV 1 hts gX4_extreme_X2_valueOn rfl rfl rfl hdX2_valueOn_1 ⟨Nat.le_of_ble_eq_true rfl, Nat.le_of_ble_eq_true rfl⟩) (hX.preRow (by omega)) rfl rfl hl.1 rfl (lv_room (Nat.le_of_ble_eq_true rfl)) dX4_extreme_53 ⟨Nat.le_of_ble_eq_true rfl, Nat.le_of_ble_eq_true rfl⟩) (fun _ h => h) ?_
      refine kx_cr (v := nI (((S.2.1 j).2.2.2.1) (((S.1 i).1) bb))) (va_runV (As := [.int (nI (((S.1 i).1) bb))]) (rest := []) ⟨hx, hb, hml, hown, hts⟩ (m_X1_rankOf l dC dI ad S j (((S.1 i).1) bb) (by omega) ((hI.1 i (by omega)).2 _ (by omega)).1) (cwV 1 hts gX4_extreme_X1_rankOf rfl rfl rfl hdX1_rankOf_1 ⟨Nat.le_of_ble_eq_true rfl, Nat.le_of_ble_eq_true rfl⟩) (hX.preOrd (by omega)) rfl rfl hl.1 rfl (lv_room (Nat.le_of_ble_eq_true rfl)) dX4_extreme_56 ⟨Nat.le_of_ble_eq_true rfl, Nat.le_of_ble_eq_true rfl⟩) (fun _ h => h) ?_
      exact W.iret (v := nI (((S.2.1 j).2.2.2.1) (((S.1 i).1) bb))) hx hb hr (fun t9 ht9 hW9 => ⟨_, rfl, (by rw [hz, if_neg (by decide)]; first | done | rfl), ht9⟩) (fun _ h => nomatch h) dX4_extreme_59
  · skip
    have hz := k_1
    refine lv_aload hx hb dX4_extreme_18 (lv_at hl 1 rfl) ?_
    refine lv_aload hx hb dX4_extreme_20 (lv_at hl 0 rfl) ?_
    refine kx_cr (v := (oI (bestB (fun _ => true) (fun a b => decide ((S.2.1 j).2.2.1 ((S.1 i).1 b) < (S.2.1 j).2.2.1 ((S.1 i).1 a))) (S.1 i).2.2))) (va_runV (As := [.ref (ad (24 + 5 * j))]) (rest := []) ⟨hx, hb, hml, hown, hts⟩ (m_X2_lastPlaceBy l dC dI ad S i j (by omega) (by omega) (hI.1 i (by omega)) (hI.2 j (by omega))) (cwV 1 hts gX4_extreme_X2_lastPlaceBy rfl rfl rfl hdX2_lastPlaceBy_1 ⟨Nat.le_of_ble_eq_true rfl, Nat.le_of_ble_eq_true rfl⟩) (hX.preRow (by omega)) rfl rfl hl.1 rfl (lv_room (Nat.le_of_ble_eq_true rfl)) dX4_extreme_22 ⟨Nat.le_of_ble_eq_true rfl, Nat.le_of_ble_eq_true rfl⟩) (fun _ h => h) ?_
    refine lv_goto (tgt := 35) hx hb dX4_extreme_25 (by decide) ?_
    rcases hq9 : (bestB (fun _ => true) (fun a b => decide ((S.2.1 j).2.2.1 ((S.1 i).1 b) < (S.2.1 j).2.2.1 ((S.1 i).1 a))) (S.1 i).2.2) with _ | bb
    · skip
      refine lv_istore (lv' := [(6, .int (oI none)), (5, .ref (ad (24 + 5 * j))), (4, .ref (ad (3 * i))), (0, .ref (ad 57)), (1, .int (nI i)), (2, .int (nI j)), (3, .int (bI z))]) hx hb dX4_extreme_35 hl (by decide) rfl (fun ls hl => ?_)
      refine lv_iload hx hb dX4_extreme_37 (lv_at hl 0 rfl) ?_
      refine lv_iconst (v := (-1)) hx hb dX4_extreme_39 (by decide) ?_
      refine lv_icmp_ne (tgt := 47) hx hb dX4_extreme_40 (by decide) (fun k_4 => absurd rfl k_4) (fun k_4 => ?_)
      refine lv_iconst (v := (-1)) hx hb dX4_extreme_43 (by decide) ?_
      refine lv_goto (tgt := 59) hx hb dX4_extreme_44 (by decide) ?_
      exact W.iret (v := (-1)) hx hb hr (fun t9 ht9 hW9 => ⟨_, rfl, (by rw [hz, if_pos rfl]; first | done | rfl), ht9⟩) (fun _ h => nomatch h) dX4_extreme_59
    · skip
      have hbb := bestB_lt hq9
      have hb1 := hbb.1
      refine lv_istore (lv' := [(6, .int (nI bb)), (5, .ref (ad (24 + 5 * j))), (4, .ref (ad (3 * i))), (0, .ref (ad 57)), (1, .int (nI i)), (2, .int (nI j)), (3, .int (bI z))]) hx hb dX4_extreme_35 hl (by decide) rfl (fun ls hl => ?_)
      refine lv_iload hx hb dX4_extreme_37 (lv_at hl 0 rfl) ?_
      refine lv_iconst (v := (-1)) hx hb dX4_extreme_39 (by decide) ?_
      refine lv_icmp_ne (tgt := 47) hx hb dX4_extreme_40 (by decide) (fun k_5 => ?_) (fun k_5 => absurd k_5 (nI_nm1 (by omega)))
      refine lv_aload hx hb dX4_extreme_47 (lv_at hl 1 rfl) ?_
      refine lv_aload hx hb dX4_extreme_49 (lv_at hl 2 rfl) ?_
      refine lv_iload hx hb dX4_extreme_51 (lv_at hl 0 rfl) ?_
      refine kx_cr (v := nI (((S.1 i).1) bb)) (va_runV (As := [.int (nI bb)]) (rest := [.ref (ad (24 + 5 * j))]) ⟨hx, hb, hml, hown, hts⟩ (m_X2_valueOn l dC dI ad S i bb (by omega) (by omega)) (cwV 1 hts gX4_extreme_X2_valueOn rfl rfl rfl hdX2_valueOn_1 ⟨Nat.le_of_ble_eq_true rfl, Nat.le_of_ble_eq_true rfl⟩) (hX.preRow (by omega)) rfl rfl hl.1 rfl (lv_room (Nat.le_of_ble_eq_true rfl)) dX4_extreme_53 ⟨Nat.le_of_ble_eq_true rfl, Nat.le_of_ble_eq_true rfl⟩) (fun _ h => h) ?_
      refine kx_cr (v := nI (((S.2.1 j).2.2.2.1) (((S.1 i).1) bb))) (va_runV (As := [.int (nI (((S.1 i).1) bb))]) (rest := []) ⟨hx, hb, hml, hown, hts⟩ (m_X1_rankOf l dC dI ad S j (((S.1 i).1) bb) (by omega) ((hI.1 i (by omega)).2 _ (by omega)).1) (cwV 1 hts gX4_extreme_X1_rankOf rfl rfl rfl hdX1_rankOf_1 ⟨Nat.le_of_ble_eq_true rfl, Nat.le_of_ble_eq_true rfl⟩) (hX.preOrd (by omega)) rfl rfl hl.1 rfl (lv_room (Nat.le_of_ble_eq_true rfl)) dX4_extreme_56 ⟨Nat.le_of_ble_eq_true rfl, Nat.le_of_ble_eq_true rfl⟩) (fun _ h => h) ?_
      exact W.iret (v := nI (((S.2.1 j).2.2.2.1) (((S.1 i).1) bb))) hx hb hr (fun t9 ht9 hW9 => ⟨_, rfl, (by rw [hz, if_pos rfl]; first | done | rfl), ht9⟩) (fun _ h => nomatch h) dX4_extreme_59
set_option maxHeartbeats 4000000 in
set_option maxRecDepth 100000 in
theorem m_X4_near (l : Launch) (dC : Nat → ClassId) (dI : Nat → Nat → Nat) (ad : Nat → Nat) (S : XS) (i : Nat) (j : Nat) (v : Nat) (k : Nat) (hi : i < 3) (hj : j < 4) (hv : v < 16) (hk : k ≤ 3) (hI : InvX S) : Met l yX4_near wsX4_near ({ frames := 3, cells := 0, slots := 0, locals := 76 } : Room) (va_Pc [.ref (ad 57), .int (nI i), .int (nI j), .int (nI v), .int (nI k)] (PX dC dI ad S)) (vp_Si (fun r => r = exI (bestB (fun x => sideB k ((S.2.1 j).2.2.1 ((S.1 i).1 x)) ((S.2.1 j).2.2.1 v)) (fun a b => nearB k ((S.2.1 j).2.2.1 ((S.1 i).1 a)) ((S.2.1 j).2.2.1 ((S.1 i).1 b))) (S.1 i).2.2) (S.1 i).2.1)) 0 0 (fun _ => False) := by
  refine Met.ofW (cc := cX4_near) (maxL := 8) (ret := (some .int)) pl_X4 rfl ?_
  intro p e s m args below meth c s₁ B hml hv
  obtain ⟨rfl, hPX⟩ := hv
  have hx := B.exec
  have hb := B.bytes
  have hr := B.returns
  have hts := atoms_spec (ws := wsX4_near) B.pre
  have hown : s.vm.findClass RX4 = some m.cls := findClass_of_methodNamed B.named
  have hlocks := B.notSynchronized
  have hX := WX.of hPX
  have hl := lv_entry ([.ref (ad 57), .int (nI i), .int (nI j), .int (nI v), .int (nI k)]) (n := 8) (Nat.le_of_ble_eq_true rfl)
  rw [lg_entry_eq]
  generalize (lg_sl ([.ref (ad 57), .int (nI i), .int (nI j), .int (nI v), .int (nI k)]) ++ List.replicate (8 - (lg_sl ([.ref (ad 57), .int (nI i), .int (nI j), .int (nI v), .int (nI k)])).length) Slot.unset).toArray = ls at hl ⊢
  have hl : lv_has ls 8 [(0, .ref (ad 57)), (1, .int (nI i)), (2, .int (nI j)), (3, .int (nI v)), (4, .int (nI k))] := hl
  show W p l e ({ frames := 3, cells := 0, slots := 0, locals := 76 } : Room) s m ([.ref (ad 57), .int (nI i), .int (nI j), .int (nI v), .int (nI k)]).toArray below meth c s.heap [] 0 0 (MQ below (vp_Si (fun r => r = exI (bestB (fun x => sideB k ((S.2.1 j).2.2.1 ((S.1 i).1 x)) ((S.2.1 j).2.2.1 v)) (fun a b => nearB k ((S.2.1 j).2.2.1 ((S.1 i).1 a)) ((S.2.1 j).2.2.1 ((S.1 i).1 b))) (S.1 i).2.2) (S.1 i).2.1)) ([.ref (ad 57), .int (nI i), .int (nI j), .int (nI v), .int (nI k)]).toArray s 0 0 (fun _ => False)) (F0 m 0 ls [])
  have hn := (hI.1 i (by omega)).1
  refine lv_aload_n hx hb dX4_near_0 rfl (lv_at hl 0 rfl) ?_
  refine lv_iload_n hx hb dX4_near_1 rfl (lv_at hl 1 rfl) ?_
  refine va_csr (va_Run.run (va_runV (As := [.int (nI i)]) (rest := []) ⟨hx, hb, hml, hown, hts⟩ (m_X4_rowAt l dC dI ad S i (by omega)) (cwV 1 hts gX4_near_X4_rowAt rfl rfl rfl hdX4_rowAt_1 ⟨Nat.le_of_ble_eq_true rfl, Nat.le_of_ble_eq_true rfl⟩) (hX.preTop 57 6 (by decide) (by decide) rfl rfl) rfl rfl hl.1 rfl (lv_room (Nat.le_of_ble_eq_true rfl)) dX4_near_2 ⟨Nat.le_of_ble_eq_true rfl, Nat.le_of_ble_eq_true rfl⟩)) (fun k_ hk_ => ?_)
  rw [hk_]
  refine lv_astore (lv' := [(5, .ref (ad (3 * i))), (0, .ref (ad 57)), (1, .int (nI i)), (2, .int (nI j)), (3, .int (nI v)), (4, .int (nI k))]) hx hb dX4_near_5 hl (by decide) rfl (fun ls hl => ?_)
  refine lv_aload_n hx hb dX4_near_7 rfl (lv_at hl 1 rfl) ?_
  refine lv_iload_n hx hb dX4_near_8 rfl (lv_at hl 3 rfl) ?_
  refine va_csr (va_Run.run (va_runV (As := [.int (nI j)]) (rest := []) ⟨hx, hb, hml, hown, hts⟩ (m_X4_orderAt l dC dI ad S j (by omega)) (cwV 1 hts gX4_near_X4_orderAt rfl rfl rfl hdX4_orderAt_1 ⟨Nat.le_of_ble_eq_true rfl, Nat.le_of_ble_eq_true rfl⟩) (hX.preTop 57 6 (by decide) (by decide) rfl rfl) rfl rfl hl.1 rfl (lv_room (Nat.le_of_ble_eq_true rfl)) dX4_near_9 ⟨Nat.le_of_ble_eq_true rfl, Nat.le_of_ble_eq_true rfl⟩)) (fun k_ hk_ => ?_)
  rw [hk_]
  refine lv_astore (lv' := [(6, .ref (ad (24 + 5 * j))), (5, .ref (ad (3 * i))), (0, .ref (ad 57)), (1, .int (nI i)), (2, .int (nI j)), (3, .int (nI v)), (4, .int (nI k))]) hx hb dX4_near_12 hl (by decide) rfl (fun ls hl => ?_)
  refine lv_iload_n hx hb dX4_near_14 rfl (lv_at hl 5 rfl) ?_
  refine va_csv (va_Run.run (va_runS (As := [.int (nI v)]) (rest := []) ⟨hx, hb, hml, hown, hts⟩ (m_X4_demandValue l dC dI ad S v (by omega)) (va_cwS 1 hts gX4_near_X4_demandValue rfl rfl rfl hdX4_demandValue_1.2 ⟨Nat.le_of_ble_eq_true rfl, Nat.le_of_ble_eq_true rfl⟩) hX.preS rfl rfl hl.1 rfl (lv_room (Nat.le_of_ble_eq_true rfl)) dX4_near_15 ⟨Nat.le_of_ble_eq_true rfl, Nat.le_of_ble_eq_true rfl⟩)) (fun _ => ?_)
  refine lv_iload hx hb dX4_near_18 (lv_at hl 6 rfl) ?_
  refine lv_iconst (v := nI 3) hx hb dX4_near_20 (by decide) ?_
  refine va_csv (va_Run.run (va_runS (As := [.int (nI k), .int (nI 3)]) (rest := []) ⟨hx, hb, hml, hown, hts⟩ (m_X4_demandWithin l dC dI ad S k 3 (by omega) (by omega)) (va_cwS 2 hts gX4_near_X4_demandWithin rfl rfl rfl hdX4_demandWithin_2.2 ⟨Nat.le_of_ble_eq_true rfl, Nat.le_of_ble_eq_true rfl⟩) hX.preS rfl rfl hl.1 rfl (lv_room (Nat.le_of_ble_eq_true rfl)) dX4_near_21 ⟨Nat.le_of_ble_eq_true rfl, Nat.le_of_ble_eq_true rfl⟩)) (fun _ => ?_)
  refine lv_aload hx hb dX4_near_24 (lv_at hl 1 rfl) ?_
  refine lv_aload hx hb dX4_near_26 (lv_at hl 0 rfl) ?_
  refine lv_iload_n hx hb dX4_near_28 rfl (lv_at hl 5 rfl) ?_
  refine lv_iload hx hb dX4_near_29 (lv_at hl 6 rfl) ?_
  refine kx_cr (v := (oI (bestB (fun x => sideB k ((S.2.1 j).2.2.1 ((S.1 i).1 x)) ((S.2.1 j).2.2.1 v)) (fun a b => nearB k ((S.2.1 j).2.2.1 ((S.1 i).1 a)) ((S.2.1 j).2.2.1 ((S.1 i).1 b))) (S.1 i).2.2))) (va_runV (As := [.ref (ad (24 + 5 * j)), .int (nI v), .int (nI k)]) (rest := []) ⟨hx, hb, hml, hown, hts⟩ (m_X2_nearestPlace l dC dI ad S i j v k (by omega) (by omega) (hI.1 i (by omega)) (hI.2 j (by omega)) (by omega) (by omega)) (cwV 3 hts gX4_near_X2_nearestPlace rfl rfl rfl hdX2_nearestPlace_3 ⟨Nat.le_of_ble_eq_true rfl, Nat.le_of_ble_eq_true rfl⟩) (hX.preRow (by omega)) rfl rfl hl.1 rfl (lv_room (Nat.le_of_ble_eq_true rfl)) dX4_near_31 ⟨Nat.le_of_ble_eq_true rfl, Nat.le_of_ble_eq_true rfl⟩) (fun _ h => h) ?_
  rcases hq9 : (bestB (fun x => sideB k ((S.2.1 j).2.2.1 ((S.1 i).1 x)) ((S.2.1 j).2.2.1 v)) (fun a b => nearB k ((S.2.1 j).2.2.1 ((S.1 i).1 a)) ((S.2.1 j).2.2.1 ((S.1 i).1 b))) (S.1 i).2.2) with _ | bb
  · skip
    refine lv_istore (lv' := [(7, .int (oI none)), (6, .ref (ad (24 + 5 * j))), (5, .ref (ad (3 * i))), (0, .ref (ad 57)), (1, .int (nI i)), (2, .int (nI j)), (3, .int (nI v)), (4, .int (nI k))]) hx hb dX4_near_34 hl (by decide) rfl (fun ls hl => ?_)
    refine lv_iload hx hb dX4_near_36 (lv_at hl 0 rfl) ?_
    refine lv_iconst (v := (-1)) hx hb dX4_near_38 (by decide) ?_
    refine lv_icmp_ne (tgt := 46) hx hb dX4_near_39 (by decide) (fun k_1 => absurd rfl k_1) (fun k_1 => ?_)
    refine lv_iconst (v := (-1)) hx hb dX4_near_42 (by decide) ?_
    refine lv_goto (tgt := 53) hx hb dX4_near_43 (by decide) ?_
    exact W.iret (v := (-1)) hx hb hr (fun t9 ht9 hW9 => ⟨_, rfl, rfl, ht9⟩) (fun _ h => nomatch h) dX4_near_53
  · skip
    have hbb := bestB_lt hq9
    have hb1 := hbb.1
    refine lv_istore (lv' := [(7, .int (nI bb)), (6, .ref (ad (24 + 5 * j))), (5, .ref (ad (3 * i))), (0, .ref (ad 57)), (1, .int (nI i)), (2, .int (nI j)), (3, .int (nI v)), (4, .int (nI k))]) hx hb dX4_near_34 hl (by decide) rfl (fun ls hl => ?_)
    refine lv_iload hx hb dX4_near_36 (lv_at hl 0 rfl) ?_
    refine lv_iconst (v := (-1)) hx hb dX4_near_38 (by decide) ?_
    refine lv_icmp_ne (tgt := 46) hx hb dX4_near_39 (by decide) (fun k_2 => ?_) (fun k_2 => absurd k_2 (nI_nm1 (by omega)))
    refine lv_aload hx hb dX4_near_46 (lv_at hl 2 rfl) ?_
    refine lv_iload hx hb dX4_near_48 (lv_at hl 0 rfl) ?_
    refine kx_cr (v := nI (((S.1 i).2.1) bb)) (va_runV (As := [.int (nI bb)]) (rest := []) ⟨hx, hb, hml, hown, hts⟩ (m_X2_markOn l dC dI ad S i bb (by omega) (by omega)) (cwV 1 hts gX4_near_X2_markOn rfl rfl rfl hdX2_markOn_1 ⟨Nat.le_of_ble_eq_true rfl, Nat.le_of_ble_eq_true rfl⟩) (hX.preRow (by omega)) rfl rfl hl.1 rfl (lv_room (Nat.le_of_ble_eq_true rfl)) dX4_near_50 ⟨Nat.le_of_ble_eq_true rfl, Nat.le_of_ble_eq_true rfl⟩) (fun _ h => h) ?_
    exact W.iret (v := nI (((S.1 i).2.1) bb)) hx hb hr (fun t9 ht9 hW9 => ⟨_, rfl, rfl, ht9⟩) (fun _ h => nomatch h) dX4_near_53
set_option maxHeartbeats 4000000 in
set_option maxRecDepth 100000 in
theorem m_X4_search (l : Launch) (dC : Nat → ClassId) (dI : Nat → Nat → Nat) (ad : Nat → Nat) (S : XS) (i : Nat) (j : Nat) (v : Nat) (hi : i < 3) (hj : j < 4) (hv : v < 16) (hI : InvX S) : Met l yX4_search wsX4_search ({ frames := 2, cells := 0, slots := 0, locals := 50 } : Room) (va_Pc [.ref (ad 57), .int (nI i), .int (nI j), .int (nI v)] (PX dC dI ad S)) (va_Qi (fun r S' => (seqB (S.2.1 j).2.2.1 (S.1 i).1 (S.1 i).2.2 = false ∧ r = -9 ∧ S' = refT S) ∨ (seqB (S.2.1 j).2.2.1 (S.1 i).1 (S.1 i).2.2 = true ∧ r = (if ∃ k, k < (S.1 i).2.2 ∧ (S.2.1 j).2.2.1 ((S.1 i).1 k) = (S.2.1 j).2.2.1 v then 16 else nI (cntB (fun k => decide ((S.2.1 j).2.2.1 ((S.1 i).1 k) < (S.2.1 j).2.2.1 v)) (S.1 i).2.2)) ∧ S' = S)) (PX dC dI ad) (AX ad)) 0 0 (AX ad) := by
  refine Met.ofW (cc := cX4_search) (maxL := 6) (ret := (some .int)) pl_X4 rfl ?_
  intro p e s m args below meth c s₁ B hml hv
  obtain ⟨rfl, hPX⟩ := hv
  have hx := B.exec
  have hb := B.bytes
  have hr := B.returns
  have hts := atoms_spec (ws := wsX4_search) B.pre
  have hown : s.vm.findClass RX4 = some m.cls := findClass_of_methodNamed B.named
  have hlocks := B.notSynchronized
  have hX := WX.of hPX
  have hl := lv_entry ([.ref (ad 57), .int (nI i), .int (nI j), .int (nI v)]) (n := 6) (Nat.le_of_ble_eq_true rfl)
  rw [lg_entry_eq]
  generalize (lg_sl ([.ref (ad 57), .int (nI i), .int (nI j), .int (nI v)]) ++ List.replicate (6 - (lg_sl ([.ref (ad 57), .int (nI i), .int (nI j), .int (nI v)])).length) Slot.unset).toArray = ls at hl ⊢
  have hl : lv_has ls 6 [(0, .ref (ad 57)), (1, .int (nI i)), (2, .int (nI j)), (3, .int (nI v))] := hl
  show W p l e ({ frames := 2, cells := 0, slots := 0, locals := 50 } : Room) s m ([.ref (ad 57), .int (nI i), .int (nI j), .int (nI v)]).toArray below meth c s.heap [] 0 0 (MQ below (va_Qi (fun r S' => (seqB (S.2.1 j).2.2.1 (S.1 i).1 (S.1 i).2.2 = false ∧ r = -9 ∧ S' = refT S) ∨ (seqB (S.2.1 j).2.2.1 (S.1 i).1 (S.1 i).2.2 = true ∧ r = (if ∃ k, k < (S.1 i).2.2 ∧ (S.2.1 j).2.2.1 ((S.1 i).1 k) = (S.2.1 j).2.2.1 v then 16 else nI (cntB (fun k => decide ((S.2.1 j).2.2.1 ((S.1 i).1 k) < (S.2.1 j).2.2.1 v)) (S.1 i).2.2)) ∧ S' = S)) (PX dC dI ad) (AX ad)) ([.ref (ad 57), .int (nI i), .int (nI j), .int (nI v)]).toArray s 0 0 (AX ad)) (F0 m 0 ls [])
  have hn := (hI.1 i (by omega)).1
  refine lv_aload_n hx hb dX4_search_0 rfl (lv_at hl 0 rfl) ?_
  refine lv_iload_n hx hb dX4_search_1 rfl (lv_at hl 1 rfl) ?_
  refine va_csr (va_Run.run (va_runV (As := [.int (nI i)]) (rest := []) ⟨hx, hb, hml, hown, hts⟩ (m_X4_rowAt l dC dI ad S i (by omega)) (cwV 1 hts gX4_search_X4_rowAt rfl rfl rfl hdX4_rowAt_1 ⟨Nat.le_of_ble_eq_true rfl, Nat.le_of_ble_eq_true rfl⟩) (hX.preTop 57 6 (by decide) (by decide) rfl rfl) rfl rfl hl.1 rfl (lv_room (Nat.le_of_ble_eq_true rfl)) dX4_search_2 ⟨Nat.le_of_ble_eq_true rfl, Nat.le_of_ble_eq_true rfl⟩)) (fun k_ hk_ => ?_)
  rw [hk_]
  refine lv_astore (lv' := [(4, .ref (ad (3 * i))), (0, .ref (ad 57)), (1, .int (nI i)), (2, .int (nI j)), (3, .int (nI v))]) hx hb dX4_search_5 hl (by decide) rfl (fun ls hl => ?_)
  refine lv_aload_n hx hb dX4_search_7 rfl (lv_at hl 1 rfl) ?_
  refine lv_iload_n hx hb dX4_search_8 rfl (lv_at hl 3 rfl) ?_
  refine va_csr (va_Run.run (va_runV (As := [.int (nI j)]) (rest := []) ⟨hx, hb, hml, hown, hts⟩ (m_X4_orderAt l dC dI ad S j (by omega)) (cwV 1 hts gX4_search_X4_orderAt rfl rfl rfl hdX4_orderAt_1 ⟨Nat.le_of_ble_eq_true rfl, Nat.le_of_ble_eq_true rfl⟩) (hX.preTop 57 6 (by decide) (by decide) rfl rfl) rfl rfl hl.1 rfl (lv_room (Nat.le_of_ble_eq_true rfl)) dX4_search_9 ⟨Nat.le_of_ble_eq_true rfl, Nat.le_of_ble_eq_true rfl⟩)) (fun k_ hk_ => ?_)
  rw [hk_]
  refine lv_astore (lv' := [(5, .ref (ad (24 + 5 * j))), (4, .ref (ad (3 * i))), (0, .ref (ad 57)), (1, .int (nI i)), (2, .int (nI j)), (3, .int (nI v))]) hx hb dX4_search_12 hl (by decide) rfl (fun ls hl => ?_)
  refine lv_iload_n hx hb dX4_search_14 rfl (lv_at hl 5 rfl) ?_
  refine va_csv (va_Run.run (va_runS (As := [.int (nI v)]) (rest := []) ⟨hx, hb, hml, hown, hts⟩ (m_X4_demandValue l dC dI ad S v (by omega)) (va_cwS 1 hts gX4_search_X4_demandValue rfl rfl rfl hdX4_demandValue_1.2 ⟨Nat.le_of_ble_eq_true rfl, Nat.le_of_ble_eq_true rfl⟩) hX.preS rfl rfl hl.1 rfl (lv_room (Nat.le_of_ble_eq_true rfl)) dX4_search_15 ⟨Nat.le_of_ble_eq_true rfl, Nat.le_of_ble_eq_true rfl⟩)) (fun _ => ?_)
  refine lv_aload hx hb dX4_search_18 (lv_at hl 1 rfl) ?_
  refine lv_aload hx hb dX4_search_20 (lv_at hl 0 rfl) ?_
  refine kx_cr (v := bI (seqB (S.2.1 j).2.2.1 (S.1 i).1 (S.1 i).2.2)) (va_runV (As := [.ref (ad (24 + 5 * j))]) (rest := []) ⟨hx, hb, hml, hown, hts⟩ (m_X2_isInSequenceBy l dC dI ad S i j (by omega) (by omega) (hI.1 i (by omega)) (hI.2 j (by omega))) (cwV 1 hts gX4_search_X2_isInSequenceBy rfl rfl rfl hdX2_isInSequenceBy_1 ⟨Nat.le_of_ble_eq_true rfl, Nat.le_of_ble_eq_true rfl⟩) (hX.preRow (by omega)) rfl rfl hl.1 rfl (lv_room (Nat.le_of_ble_eq_true rfl)) dX4_search_22 ⟨Nat.le_of_ble_eq_true rfl, Nat.le_of_ble_eq_true rfl⟩) (fun _ h => h) ?_
  refine kb_if_ne (tgt := 33) hx hb dX4_search_25 (by decide) (fun k_1 => ?_) (fun k_1 => ?_)
  · skip
    have hs := k_1
    refine lv_aload hx hb dX4_search_33 (lv_at hl 1 rfl) ?_
    refine lv_aload hx hb dX4_search_35 (lv_at hl 0 rfl) ?_
    refine lv_iload_n hx hb dX4_search_37 rfl (lv_at hl 5 rfl) ?_
    refine kx_cr (v := bI (decide (∃ k, k < (S.1 i).2.2 ∧ (S.2.1 j).2.2.1 ((S.1 i).1 k) = (S.2.1 j).2.2.1 v))) (va_runV (As := [.ref (ad (24 + 5 * j)), .int (nI v)]) (rest := []) ⟨hx, hb, hml, hown, hts⟩ (m_X2_hasAlike l dC dI ad S i j v (by omega) (by omega) (hI.1 i (by omega)) (hI.2 j (by omega)) (by omega)) (cwV 2 hts gX4_search_X2_hasAlike rfl rfl rfl hdX2_hasAlike_2 ⟨Nat.le_of_ble_eq_true rfl, Nat.le_of_ble_eq_true rfl⟩) (hX.preRow (by omega)) rfl rfl hl.1 rfl (lv_room (Nat.le_of_ble_eq_true rfl)) dX4_search_38 ⟨Nat.le_of_ble_eq_true rfl, Nat.le_of_ble_eq_true rfl⟩) (fun _ h => h) ?_
    refine kb_if_eq (tgt := 49) hx hb dX4_search_41 (by decide) (fun k_2 => ?_) (fun k_2 => ?_)
    · skip
      have ha := k_2
      refine lv_aload hx hb dX4_search_49 (lv_at hl 1 rfl) ?_
      refine lv_aload hx hb dX4_search_51 (lv_at hl 0 rfl) ?_
      refine lv_iload_n hx hb dX4_search_53 rfl (lv_at hl 5 rfl) ?_
      refine kx_cr (v := nI (cntB (fun k => decide ((S.2.1 j).2.2.1 ((S.1 i).1 k) < (S.2.1 j).2.2.1 v)) (S.1 i).2.2)) (va_runV (As := [.ref (ad (24 + 5 * j)), .int (nI v)]) (rest := []) ⟨hx, hb, hml, hown, hts⟩ (m_X2_thingsAhead l dC dI ad S i j v (by omega) (by omega) (hI.1 i (by omega)) (hI.2 j (by omega)) (by omega)) (cwV 2 hts gX4_search_X2_thingsAhead rfl rfl rfl hdX2_thingsAhead_2 ⟨Nat.le_of_ble_eq_true rfl, Nat.le_of_ble_eq_true rfl⟩) (hX.preRow (by omega)) rfl rfl hl.1 rfl (lv_room (Nat.le_of_ble_eq_true rfl)) dX4_search_54 ⟨Nat.le_of_ble_eq_true rfl, Nat.le_of_ble_eq_true rfl⟩) (fun _ h => h) ?_
      exact W.iret (v := nI (cntB (fun k => decide ((S.2.1 j).2.2.1 ((S.1 i).1 k) < (S.2.1 j).2.2.1 v)) (S.1 i).2.2)) hx hb hr (fun t9 ht9 hW9 => ⟨⟨_, S, rfl, (Or.inr ⟨hs, (if_neg (of_decide_eq_false ha)).symm, rfl⟩), hX.P ht9 hW9⟩, hX.2.2.2.F ht9⟩) hX.2.2.2.2.2 dX4_search_57
    · skip
      have ha := k_2
      refine lv_bipush (v := nI 16) hx hb dX4_search_44 (by decide) ?_
      refine lv_goto (tgt := 57) hx hb dX4_search_46 (by decide) ?_
      exact W.iret (v := nI 16) hx hb hr (fun t9 ht9 hW9 => ⟨⟨_, S, rfl, (Or.inr ⟨hs, (if_pos (of_decide_eq_true ha)).symm, rfl⟩), hX.P ht9 hW9⟩, hX.2.2.2.F ht9⟩) hX.2.2.2.2.2 dX4_search_57
  · skip
    have hs := k_1
    refine lv_aload_n hx hb dX4_search_28 rfl (lv_at hl 2 rfl) ?_
    refine kx_ci (va_runV (As := []) (rest := []) ⟨hx, hb, hml, hown, hts⟩ (m_X4_refuse l dC dI ad S) (cwV 0 hts gX4_search_X4_refuse rfl rfl rfl hdX4_refuse_0 ⟨Nat.le_of_ble_eq_true rfl, Nat.le_of_ble_eq_true rfl⟩) (hX.preTop 57 6 (by decide) (by decide) rfl rfl) rfl rfl hl.1 rfl (lv_room (Nat.le_of_ble_eq_true rfl)) dX4_search_29 ⟨Nat.le_of_ble_eq_true rfl, Nat.le_of_ble_eq_true rfl⟩) hX (fun _ h => h) (fun r_ S_ H locs hw hX => ?_)
    obtain ⟨rfl, rfl⟩ := hw
    exact W.iret (v := (-9)) hx hb hr (fun t9 ht9 hW9 => ⟨⟨_, (xN S (S.2.2.1, S.2.2.2.1 + 1, S.2.2.2.2)), rfl, (Or.inl ⟨hs, rfl, rfl⟩), hX.P ht9 hW9⟩, hX.2.2.2.F ht9⟩) hX.2.2.2.2.2 dX4_search_32
set_option maxHeartbeats 4000000 in
set_option maxRecDepth 100000 in
theorem m_X4_step (l : Launch) (dC : Nat → ClassId) (dI : Nat → Nat → Nat) (ad : Nat → Nat) (S : XS) (j : Nat) (k : Nat) (z : Bool) (hj : j < 4) (hk : k ≤ 7) (hI : InvX S) : Met l yX4_step wsX4_step ({ frames := 4, cells := 0, slots := 0, locals := 91 } : Room) (va_Pc [.ref (ad 57), .int (nI j), .int (nI k), .int (bI z)] (PX dC dI ad S)) (va_Qi (fun r S' => ((S.2.1 j).2.2.2.2.1 < 5 ∧ r = nI (coarseD (S.2.1 j) k z) ∧ S' = xO S j (newO (va_up (S.2.1 j).1 (S.2.1 j).2.2.2.2.1 k) (va_up (S.2.1 j).2.1 (S.2.1 j).2.2.2.2.1 z) ((S.2.1 j).2.2.2.2.1 + 1) (S.2.1 j).2.2.1 (S.2.1 j).2.2.2.1)) ∨ (5 ≤ (S.2.1 j).2.2.2.2.1 ∧ r = -9 ∧ S' = refT S)) (PX dC dI ad) (AX ad)) 0 0 (AX ad) := by
  refine Met.ofW (cc := cX4_step) (maxL := 5) (ret := (some .int)) pl_X4 rfl ?_
  intro p e s m args below meth c s₁ B hml hv
  obtain ⟨rfl, hPX⟩ := hv
  have hx := B.exec
  have hb := B.bytes
  have hr := B.returns
  have hts := atoms_spec (ws := wsX4_step) B.pre
  have hown : s.vm.findClass RX4 = some m.cls := findClass_of_methodNamed B.named
  have hlocks := B.notSynchronized
  have hX := WX.of hPX
  have hl := lv_entry ([.ref (ad 57), .int (nI j), .int (nI k), .int (bI z)]) (n := 5) (Nat.le_of_ble_eq_true rfl)
  rw [lg_entry_eq]
  generalize (lg_sl ([.ref (ad 57), .int (nI j), .int (nI k), .int (bI z)]) ++ List.replicate (5 - (lg_sl ([.ref (ad 57), .int (nI j), .int (nI k), .int (bI z)])).length) Slot.unset).toArray = ls at hl ⊢
  have hl : lv_has ls 5 [(0, .ref (ad 57)), (1, .int (nI j)), (2, .int (nI k)), (3, .int (bI z))] := hl
  show W p l e ({ frames := 4, cells := 0, slots := 0, locals := 91 } : Room) s m ([.ref (ad 57), .int (nI j), .int (nI k), .int (bI z)]).toArray below meth c s.heap [] 0 0 (MQ below (va_Qi (fun r S' => ((S.2.1 j).2.2.2.2.1 < 5 ∧ r = nI (coarseD (S.2.1 j) k z) ∧ S' = xO S j (newO (va_up (S.2.1 j).1 (S.2.1 j).2.2.2.2.1 k) (va_up (S.2.1 j).2.1 (S.2.1 j).2.2.2.2.1 z) ((S.2.1 j).2.2.2.2.1 + 1) (S.2.1 j).2.2.1 (S.2.1 j).2.2.2.1)) ∨ (5 ≤ (S.2.1 j).2.2.2.2.1 ∧ r = -9 ∧ S' = refT S)) (PX dC dI ad) (AX ad)) ([.ref (ad 57), .int (nI j), .int (nI k), .int (bI z)]).toArray s 0 0 (AX ad)) (F0 m 0 ls [])
  have hn := (hI.2 j (by omega)).1.1
  refine lv_aload_n hx hb dX4_step_0 rfl (lv_at hl 0 rfl) ?_
  refine lv_iload_n hx hb dX4_step_1 rfl (lv_at hl 1 rfl) ?_
  refine va_csr (va_Run.run (va_runV (As := [.int (nI j)]) (rest := []) ⟨hx, hb, hml, hown, hts⟩ (m_X4_orderAt l dC dI ad S j (by omega)) (cwV 1 hts gX4_step_X4_orderAt rfl rfl rfl hdX4_orderAt_1 ⟨Nat.le_of_ble_eq_true rfl, Nat.le_of_ble_eq_true rfl⟩) (hX.preTop 57 6 (by decide) (by decide) rfl rfl) rfl rfl hl.1 rfl (lv_room (Nat.le_of_ble_eq_true rfl)) dX4_step_2 ⟨Nat.le_of_ble_eq_true rfl, Nat.le_of_ble_eq_true rfl⟩)) (fun k_ hk_ => ?_)
  rw [hk_]
  refine lv_astore (lv' := [(4, .ref (ad (24 + 5 * j))), (0, .ref (ad 57)), (1, .int (nI j)), (2, .int (nI k)), (3, .int (bI z))]) hx hb dX4_step_5 hl (by decide) rfl (fun ls hl => ?_)
  refine lv_iload_n hx hb dX4_step_7 rfl (lv_at hl 3 rfl) ?_
  refine lv_bipush (v := nI 7) hx hb dX4_step_8 (by decide) ?_
  refine va_csv (va_Run.run (va_runS (As := [.int (nI k), .int (nI 7)]) (rest := []) ⟨hx, hb, hml, hown, hts⟩ (m_X4_demandWithin l dC dI ad S k 7 (by omega) (by omega)) (va_cwS 2 hts gX4_step_X4_demandWithin rfl rfl rfl hdX4_demandWithin_2.2 ⟨Nat.le_of_ble_eq_true rfl, Nat.le_of_ble_eq_true rfl⟩) hX.preS rfl rfl hl.1 rfl (lv_room (Nat.le_of_ble_eq_true rfl)) dX4_step_10 ⟨Nat.le_of_ble_eq_true rfl, Nat.le_of_ble_eq_true rfl⟩)) (fun _ => ?_)
  refine lv_aload hx hb dX4_step_13 (lv_at hl 0 rfl) ?_
  refine kx_cr (v := nI ((S.2.1 j).2.2.2.2.1)) (va_runV (As := []) (rest := []) ⟨hx, hb, hml, hown, hts⟩ (m_X1_length l dC dI ad S j  (by omega)) (cwV 0 hts gX4_step_X1_length rfl rfl rfl hdX1_length_0 ⟨Nat.le_of_ble_eq_true rfl, Nat.le_of_ble_eq_true rfl⟩) (hX.preOrd (by omega)) rfl rfl hl.1 rfl (lv_room (Nat.le_of_ble_eq_true rfl)) dX4_step_15 ⟨Nat.le_of_ble_eq_true rfl, Nat.le_of_ble_eq_true rfl⟩) (fun _ h => h) ?_
  refine lv_iconst (v := nI 5) hx hb dX4_step_18 (by decide) ?_
  refine kn_icmp_lt (tgt := 27) hx hb (by omega) (by omega) dX4_step_19 (by decide) (fun k_1 => ?_) (fun k_1 => ?_)
  · skip
    have hc := k_1
    refine lv_aload hx hb dX4_step_27 (lv_at hl 0 rfl) ?_
    refine lv_iload_n hx hb dX4_step_29 rfl (lv_at hl 3 rfl) ?_
    refine lv_iload_n hx hb dX4_step_30 rfl (lv_at hl 4 rfl) ?_
    refine kx_cv (va_runV (As := [.int (nI k), .int (bI z)]) (rest := []) ⟨hx, hb, hml, hown, hts⟩ (m_X1_append l dC dI ad S j k z (by omega) (hI.2 j (by omega)).1 (show (S.2.1 j).2.2.2.2.1 < 10 by omega) (by omega)) (cwV 2 hts gX4_step_X1_append rfl rfl rfl hdX1_append_2 ⟨Nat.le_of_ble_eq_true rfl, Nat.le_of_ble_eq_true rfl⟩) (hX.preOrd (by omega)) rfl rfl hl.1 rfl (lv_room (Nat.le_of_ble_eq_true rfl)) dX4_step_31 ⟨Nat.le_of_ble_eq_true rfl, Nat.le_of_ble_eq_true rfl⟩) hX (fun _ h => h) (fun S_ H locs hw hX => ?_)
    subst hw
    refine lv_aload hx hb dX4_step_34 (lv_at hl 0 rfl) ?_
    refine kx_cr (v := nI (classC (codeOf (va_up ((S.2.1 j).1) ((S.2.1 j).2.2.2.2.1) k) (va_up ((S.2.1 j).2.1) ((S.2.1 j).2.2.2.2.1) z) ((S.2.1 j).2.2.2.2.1 + 1)))) (va_runV (As := []) (rest := []) ⟨hx, hb, hml, hown, hts⟩ (m_X1_classCount l dC dI ad (xO S j (va_up ((S.2.1 j).1) ((S.2.1 j).2.2.2.2.1) k, va_up ((S.2.1 j).2.1) ((S.2.1 j).2.2.2.2.1) z, ovl (codeOf (va_up ((S.2.1 j).1) ((S.2.1 j).2.2.2.2.1) k) (va_up ((S.2.1 j).2.1) ((S.2.1 j).2.2.2.2.1) z) ((S.2.1 j).2.2.2.2.1 + 1)) ((S.2.1 j).2.2.1) 16, ovl (rankC (codeOf (va_up ((S.2.1 j).1) ((S.2.1 j).2.2.2.2.1) k) (va_up ((S.2.1 j).2.1) ((S.2.1 j).2.2.2.2.1) z) ((S.2.1 j).2.2.2.2.1 + 1))) ((S.2.1 j).2.2.2.1) 16, (S.2.1 j).2.2.2.2.1 + 1, classC (codeOf (va_up ((S.2.1 j).1) ((S.2.1 j).2.2.2.2.1) k) (va_up ((S.2.1 j).2.1) ((S.2.1 j).2.2.2.2.1) z) ((S.2.1 j).2.2.2.2.1 + 1)))) j  (by omega)) (cwV 0 hts gX4_step_X1_classCount rfl rfl rfl hdX1_classCount_0 ⟨Nat.le_of_ble_eq_true rfl, Nat.le_of_ble_eq_true rfl⟩) (hX.preOrd (by omega)) rfl rfl hl.1 rfl (lv_room (Nat.le_of_ble_eq_true rfl)) dX4_step_36 ⟨Nat.le_of_ble_eq_true rfl, Nat.le_of_ble_eq_true rfl⟩) (fun _ h => by rw [h, xO_ord]) ?_
    exact W.iret (v := nI (classC (codeOf (va_up ((S.2.1 j).1) ((S.2.1 j).2.2.2.2.1) k) (va_up ((S.2.1 j).2.1) ((S.2.1 j).2.2.2.2.1) z) ((S.2.1 j).2.2.2.2.1 + 1)))) hx hb hr (fun t9 ht9 hW9 => ⟨⟨_, (xO S j (va_up ((S.2.1 j).1) ((S.2.1 j).2.2.2.2.1) k, va_up ((S.2.1 j).2.1) ((S.2.1 j).2.2.2.2.1) z, ovl (codeOf (va_up ((S.2.1 j).1) ((S.2.1 j).2.2.2.2.1) k) (va_up ((S.2.1 j).2.1) ((S.2.1 j).2.2.2.2.1) z) ((S.2.1 j).2.2.2.2.1 + 1)) ((S.2.1 j).2.2.1) 16, ovl (rankC (codeOf (va_up ((S.2.1 j).1) ((S.2.1 j).2.2.2.2.1) k) (va_up ((S.2.1 j).2.1) ((S.2.1 j).2.2.2.2.1) z) ((S.2.1 j).2.2.2.2.1 + 1))) ((S.2.1 j).2.2.2.1) 16, (S.2.1 j).2.2.2.2.1 + 1, classC (codeOf (va_up ((S.2.1 j).1) ((S.2.1 j).2.2.2.2.1) k) (va_up ((S.2.1 j).2.1) ((S.2.1 j).2.2.2.2.1) z) ((S.2.1 j).2.2.2.2.1 + 1)))), rfl, (Or.inl ⟨hc, rfl, rfl⟩), hX.P ht9 hW9⟩, hX.2.2.2.F ht9⟩) hX.2.2.2.2.2 dX4_step_39
  · skip
    have hc := k_1
    refine lv_aload_n hx hb dX4_step_22 rfl (lv_at hl 1 rfl) ?_
    refine kx_ci (va_runV (As := []) (rest := []) ⟨hx, hb, hml, hown, hts⟩ (m_X4_refuse l dC dI ad S) (cwV 0 hts gX4_step_X4_refuse rfl rfl rfl hdX4_refuse_0 ⟨Nat.le_of_ble_eq_true rfl, Nat.le_of_ble_eq_true rfl⟩) (hX.preTop 57 6 (by decide) (by decide) rfl rfl) rfl rfl hl.1 rfl (lv_room (Nat.le_of_ble_eq_true rfl)) dX4_step_23 ⟨Nat.le_of_ble_eq_true rfl, Nat.le_of_ble_eq_true rfl⟩) hX (fun _ h => h) (fun r_ S_ H locs hw hX => ?_)
    obtain ⟨rfl, rfl⟩ := hw
    exact W.iret (v := (-9)) hx hb hr (fun t9 ht9 hW9 => ⟨⟨_, (xN S (S.2.2.1, S.2.2.2.1 + 1, S.2.2.2.2)), rfl, (Or.inr ⟨hc, rfl, rfl⟩), hX.P ht9 hW9⟩, hX.2.2.2.F ht9⟩) hX.2.2.2.2.2 dX4_step_26
set_option maxHeartbeats 4000000 in
set_option maxRecDepth 100000 in
theorem m_X4_unstep (l : Launch) (dC : Nat → ClassId) (dI : Nat → Nat → Nat) (ad : Nat → Nat) (S : XS) (j : Nat) (hj : j < 4) (hI : InvX S) : Met l yX4_unstep wsX4_unstep ({ frames := 4, cells := 0, slots := 0, locals := 89 } : Room) (va_Pc [.ref (ad 57), .int (nI j)] (PX dC dI ad S)) (va_Qi (fun r S' => ((S.2.1 j).2.2.2.2.1 ≠ 0 ∧ r = nI ((S.2.1 j).1 ((S.2.1 j).2.2.2.2.1 - 1)) ∧ S' = xO S j (newO ((S.2.1 j).1) ((S.2.1 j).2.1) ((S.2.1 j).2.2.2.2.1 - 1) (S.2.1 j).2.2.1 (S.2.1 j).2.2.2.1)) ∨ ((S.2.1 j).2.2.2.2.1 = 0 ∧ r = -9 ∧ S' = refT S)) (PX dC dI ad) (AX ad)) 0 0 (AX ad) := by
  refine Met.ofW (cc := cX4_unstep) (maxL := 4) (ret := (some .int)) pl_X4 rfl ?_
  intro p e s m args below meth c s₁ B hml hv
  obtain ⟨rfl, hPX⟩ := hv
  have hx := B.exec
  have hb := B.bytes
  have hr := B.returns
  have hts := atoms_spec (ws := wsX4_unstep) B.pre
  have hown : s.vm.findClass RX4 = some m.cls := findClass_of_methodNamed B.named
  have hlocks := B.notSynchronized
  have hX := WX.of hPX
  have hl := lv_entry ([.ref (ad 57), .int (nI j)]) (n := 4) (Nat.le_of_ble_eq_true rfl)
  rw [lg_entry_eq]
  generalize (lg_sl ([.ref (ad 57), .int (nI j)]) ++ List.replicate (4 - (lg_sl ([.ref (ad 57), .int (nI j)])).length) Slot.unset).toArray = ls at hl ⊢
  have hl : lv_has ls 4 [(0, .ref (ad 57)), (1, .int (nI j))] := hl
  show W p l e ({ frames := 4, cells := 0, slots := 0, locals := 89 } : Room) s m ([.ref (ad 57), .int (nI j)]).toArray below meth c s.heap [] 0 0 (MQ below (va_Qi (fun r S' => ((S.2.1 j).2.2.2.2.1 ≠ 0 ∧ r = nI ((S.2.1 j).1 ((S.2.1 j).2.2.2.2.1 - 1)) ∧ S' = xO S j (newO ((S.2.1 j).1) ((S.2.1 j).2.1) ((S.2.1 j).2.2.2.2.1 - 1) (S.2.1 j).2.2.1 (S.2.1 j).2.2.2.1)) ∨ ((S.2.1 j).2.2.2.2.1 = 0 ∧ r = -9 ∧ S' = refT S)) (PX dC dI ad) (AX ad)) ([.ref (ad 57), .int (nI j)]).toArray s 0 0 (AX ad)) (F0 m 0 ls [])
  have hn := (hI.2 j (by omega)).1.1
  refine lv_aload_n hx hb dX4_unstep_0 rfl (lv_at hl 0 rfl) ?_
  refine lv_iload_n hx hb dX4_unstep_1 rfl (lv_at hl 1 rfl) ?_
  refine va_csr (va_Run.run (va_runV (As := [.int (nI j)]) (rest := []) ⟨hx, hb, hml, hown, hts⟩ (m_X4_orderAt l dC dI ad S j (by omega)) (cwV 1 hts gX4_unstep_X4_orderAt rfl rfl rfl hdX4_orderAt_1 ⟨Nat.le_of_ble_eq_true rfl, Nat.le_of_ble_eq_true rfl⟩) (hX.preTop 57 6 (by decide) (by decide) rfl rfl) rfl rfl hl.1 rfl (lv_room (Nat.le_of_ble_eq_true rfl)) dX4_unstep_2 ⟨Nat.le_of_ble_eq_true rfl, Nat.le_of_ble_eq_true rfl⟩)) (fun k_ hk_ => ?_)
  rw [hk_]
  refine lv_astore_n (lv' := [(2, .ref (ad (24 + 5 * j))), (0, .ref (ad 57)), (1, .int (nI j))]) hx hb dX4_unstep_5 rfl hl (by decide) rfl (fun ls hl => ?_)
  refine lv_aload_n hx hb dX4_unstep_6 rfl (lv_at hl 0 rfl) ?_
  refine kx_cr (v := nI ((S.2.1 j).2.2.2.2.1)) (va_runV (As := []) (rest := []) ⟨hx, hb, hml, hown, hts⟩ (m_X1_length l dC dI ad S j  (by omega)) (cwV 0 hts gX4_unstep_X1_length rfl rfl rfl hdX1_length_0 ⟨Nat.le_of_ble_eq_true rfl, Nat.le_of_ble_eq_true rfl⟩) (hX.preOrd (by omega)) rfl rfl hl.1 rfl (lv_room (Nat.le_of_ble_eq_true rfl)) dX4_unstep_7 ⟨Nat.le_of_ble_eq_true rfl, Nat.le_of_ble_eq_true rfl⟩) (fun _ h => h) ?_
  refine kn_if_ne (tgt := 18) hx hb (by omega) dX4_unstep_10 (by decide) (fun k_1 => ?_) (fun k_1 => ?_)
  · skip
    have hc := k_1
    refine lv_aload_n hx hb dX4_unstep_18 rfl (lv_at hl 0 rfl) ?_
    refine lv_aload_n hx hb dX4_unstep_19 rfl (lv_at hl 0 rfl) ?_
    refine kx_cr (v := nI ((S.2.1 j).2.2.2.2.1)) (va_runV (As := []) (rest := [.ref (ad (24 + 5 * j))]) ⟨hx, hb, hml, hown, hts⟩ (m_X1_length l dC dI ad S j  (by omega)) (cwV 0 hts gX4_unstep_X1_length rfl rfl rfl hdX1_length_0 ⟨Nat.le_of_ble_eq_true rfl, Nat.le_of_ble_eq_true rfl⟩) (hX.preOrd (by omega)) rfl rfl hl.1 rfl (lv_room (Nat.le_of_ble_eq_true rfl)) dX4_unstep_20 ⟨Nat.le_of_ble_eq_true rfl, Nat.le_of_ble_eq_true rfl⟩) (fun _ h => h) ?_
    refine lv_iconst (v := nI 1) hx hb dX4_unstep_23 (by decide) ?_
    refine kn_isub hx hb (by omega) dX4_unstep_24 ?_
    refine kx_cr (v := nI (((S.2.1 j).1) (((S.2.1 j).2.2.2.2.1) - 1))) (va_runV (As := [.int (nI (((S.2.1 j).2.2.2.2.1) - 1))]) (rest := []) ⟨hx, hb, hml, hown, hts⟩ (m_X1_keyOn l dC dI ad S j (((S.2.1 j).2.2.2.2.1) - 1) (by omega) (by omega)) (cwV 1 hts gX4_unstep_X1_keyOn rfl rfl rfl hdX1_keyOn_1 ⟨Nat.le_of_ble_eq_true rfl, Nat.le_of_ble_eq_true rfl⟩) (hX.preOrd (by omega)) rfl rfl hl.1 rfl (lv_room (Nat.le_of_ble_eq_true rfl)) dX4_unstep_25 ⟨Nat.le_of_ble_eq_true rfl, Nat.le_of_ble_eq_true rfl⟩) (fun _ h => h) ?_
    refine lv_istore_n (lv' := [(3, .int (nI (((S.2.1 j).1) (((S.2.1 j).2.2.2.2.1) - 1)))), (2, .ref (ad (24 + 5 * j))), (0, .ref (ad 57)), (1, .int (nI j))]) hx hb dX4_unstep_28 rfl hl (by decide) rfl (fun ls hl => ?_)
    refine lv_aload_n hx hb dX4_unstep_29 rfl (lv_at hl 1 rfl) ?_
    refine kx_cv (va_runV (As := []) (rest := []) ⟨hx, hb, hml, hown, hts⟩ (m_X1_removeLast l dC dI ad S j (by omega) (hI.2 j (by omega)).1 (by omega)) (cwV 0 hts gX4_unstep_X1_removeLast rfl rfl rfl hdX1_removeLast_0 ⟨Nat.le_of_ble_eq_true rfl, Nat.le_of_ble_eq_true rfl⟩) (hX.preOrd (by omega)) rfl rfl hl.1 rfl (lv_room (Nat.le_of_ble_eq_true rfl)) dX4_unstep_30 ⟨Nat.le_of_ble_eq_true rfl, Nat.le_of_ble_eq_true rfl⟩) hX (fun _ h => h) (fun S_ H locs hw hX => ?_)
    subst hw
    refine lv_iload_n hx hb dX4_unstep_33 rfl (lv_at hl 0 rfl) ?_
    exact W.iret (v := nI (((S.2.1 j).1) (((S.2.1 j).2.2.2.2.1) - 1))) hx hb hr (fun t9 ht9 hW9 => ⟨⟨_, (xO S j ((S.2.1 j).1, (S.2.1 j).2.1, ovl (codeOf ((S.2.1 j).1) ((S.2.1 j).2.1) ((S.2.1 j).2.2.2.2.1 - 1)) ((S.2.1 j).2.2.1) 16, ovl (rankC (codeOf ((S.2.1 j).1) ((S.2.1 j).2.1) ((S.2.1 j).2.2.2.2.1 - 1))) ((S.2.1 j).2.2.2.1) 16, (S.2.1 j).2.2.2.2.1 - 1, classC (codeOf ((S.2.1 j).1) ((S.2.1 j).2.1) ((S.2.1 j).2.2.2.2.1 - 1)))), rfl, (Or.inl ⟨hc, rfl, rfl⟩), hX.P ht9 hW9⟩, hX.2.2.2.F ht9⟩) hX.2.2.2.2.2 dX4_unstep_34
  · skip
    have hc := k_1
    refine lv_aload_n hx hb dX4_unstep_13 rfl (lv_at hl 1 rfl) ?_
    refine kx_ci (va_runV (As := []) (rest := []) ⟨hx, hb, hml, hown, hts⟩ (m_X4_refuse l dC dI ad S) (cwV 0 hts gX4_unstep_X4_refuse rfl rfl rfl hdX4_refuse_0 ⟨Nat.le_of_ble_eq_true rfl, Nat.le_of_ble_eq_true rfl⟩) (hX.preTop 57 6 (by decide) (by decide) rfl rfl) rfl rfl hl.1 rfl (lv_room (Nat.le_of_ble_eq_true rfl)) dX4_unstep_14 ⟨Nat.le_of_ble_eq_true rfl, Nat.le_of_ble_eq_true rfl⟩) hX (fun _ h => h) (fun r_ S_ H locs hw hX => ?_)
    obtain ⟨rfl, rfl⟩ := hw
    exact W.iret (v := (-9)) hx hb hr (fun t9 ht9 hW9 => ⟨⟨_, (xN S (S.2.2.1, S.2.2.2.1 + 1, S.2.2.2.2)), rfl, (Or.inr ⟨hc, rfl, rfl⟩), hX.P ht9 hW9⟩, hX.2.2.2.F ht9⟩) hX.2.2.2.2.2 dX4_unstep_17
set_option maxHeartbeats 4000000 in
set_option maxRecDepth 100000 in
theorem m_X4_wipe (l : Launch) (dC : Nat → ClassId) (dI : Nat → Nat → Nat) (ad : Nat → Nat) (S : XS) (j : Nat) (hj : j < 4) (hI : InvX S) : Met l yX4_wipe wsX4_wipe ({ frames := 4, cells := 0, slots := 0, locals := 89 } : Room) (va_Pc [.ref (ad 57), .int (nI j)] (PX dC dI ad S)) (va_Qi (fun r S' => r = nI (S.2.1 j).2.2.2.2.1 ∧ S' = xO S j (newO ((S.2.1 j).1) ((S.2.1 j).2.1) (0) (S.2.1 j).2.2.1 (S.2.1 j).2.2.2.1)) (PX dC dI ad) (AX ad)) 0 0 (AX ad) := by
  refine Met.ofW (cc := cX4_wipe) (maxL := 4) (ret := (some .int)) pl_X4 rfl ?_
  intro p e s m args below meth c s₁ B hml hv
  obtain ⟨rfl, hPX⟩ := hv
  have hx := B.exec
  have hb := B.bytes
  have hr := B.returns
  have hts := atoms_spec (ws := wsX4_wipe) B.pre
  have hown : s.vm.findClass RX4 = some m.cls := findClass_of_methodNamed B.named
  have hlocks := B.notSynchronized
  have hX := WX.of hPX
  have hl := lv_entry ([.ref (ad 57), .int (nI j)]) (n := 4) (Nat.le_of_ble_eq_true rfl)
  rw [lg_entry_eq]
  generalize (lg_sl ([.ref (ad 57), .int (nI j)]) ++ List.replicate (4 - (lg_sl ([.ref (ad 57), .int (nI j)])).length) Slot.unset).toArray = ls at hl ⊢
  have hl : lv_has ls 4 [(0, .ref (ad 57)), (1, .int (nI j))] := hl
  show W p l e ({ frames := 4, cells := 0, slots := 0, locals := 89 } : Room) s m ([.ref (ad 57), .int (nI j)]).toArray below meth c s.heap [] 0 0 (MQ below (va_Qi (fun r S' => r = nI (S.2.1 j).2.2.2.2.1 ∧ S' = xO S j (newO ((S.2.1 j).1) ((S.2.1 j).2.1) (0) (S.2.1 j).2.2.1 (S.2.1 j).2.2.2.1)) (PX dC dI ad) (AX ad)) ([.ref (ad 57), .int (nI j)]).toArray s 0 0 (AX ad)) (F0 m 0 ls [])
  have hn := (hI.2 j (by omega)).1.1
  refine lv_aload_n hx hb dX4_wipe_0 rfl (lv_at hl 0 rfl) ?_
  refine lv_iload_n hx hb dX4_wipe_1 rfl (lv_at hl 1 rfl) ?_
  refine va_csr (va_Run.run (va_runV (As := [.int (nI j)]) (rest := []) ⟨hx, hb, hml, hown, hts⟩ (m_X4_orderAt l dC dI ad S j (by omega)) (cwV 1 hts gX4_wipe_X4_orderAt rfl rfl rfl hdX4_orderAt_1 ⟨Nat.le_of_ble_eq_true rfl, Nat.le_of_ble_eq_true rfl⟩) (hX.preTop 57 6 (by decide) (by decide) rfl rfl) rfl rfl hl.1 rfl (lv_room (Nat.le_of_ble_eq_true rfl)) dX4_wipe_2 ⟨Nat.le_of_ble_eq_true rfl, Nat.le_of_ble_eq_true rfl⟩)) (fun k_ hk_ => ?_)
  rw [hk_]
  refine lv_astore_n (lv' := [(2, .ref (ad (24 + 5 * j))), (0, .ref (ad 57)), (1, .int (nI j))]) hx hb dX4_wipe_5 rfl hl (by decide) rfl (fun ls hl => ?_)
  refine lv_aload_n hx hb dX4_wipe_6 rfl (lv_at hl 0 rfl) ?_
  refine kx_cr (v := nI ((S.2.1 j).2.2.2.2.1)) (va_runV (As := []) (rest := []) ⟨hx, hb, hml, hown, hts⟩ (m_X1_length l dC dI ad S j  (by omega)) (cwV 0 hts gX4_wipe_X1_length rfl rfl rfl hdX1_length_0 ⟨Nat.le_of_ble_eq_true rfl, Nat.le_of_ble_eq_true rfl⟩) (hX.preOrd (by omega)) rfl rfl hl.1 rfl (lv_room (Nat.le_of_ble_eq_true rfl)) dX4_wipe_7 ⟨Nat.le_of_ble_eq_true rfl, Nat.le_of_ble_eq_true rfl⟩) (fun _ h => h) ?_
  refine lv_istore_n (lv' := [(3, .int (nI ((S.2.1 j).2.2.2.2.1))), (2, .ref (ad (24 + 5 * j))), (0, .ref (ad 57)), (1, .int (nI j))]) hx hb dX4_wipe_10 rfl hl (by decide) rfl (fun ls hl => ?_)
  refine lv_aload_n hx hb dX4_wipe_11 rfl (lv_at hl 1 rfl) ?_
  refine kx_cv (va_runV (As := []) (rest := []) ⟨hx, hb, hml, hown, hts⟩ (m_X1_empty l dC dI ad S j (by omega) (hI.2 j (by omega)).1) (cwV 0 hts gX4_wipe_X1_empty rfl rfl rfl hdX1_empty_0 ⟨Nat.le_of_ble_eq_true rfl, Nat.le_of_ble_eq_true rfl⟩) (hX.preOrd (by omega)) rfl rfl hl.1 rfl (lv_room (Nat.le_of_ble_eq_true rfl)) dX4_wipe_12 ⟨Nat.le_of_ble_eq_true rfl, Nat.le_of_ble_eq_true rfl⟩) hX (fun _ h => h) (fun S_ H locs hw hX => ?_)
  subst hw
  refine lv_iload_n hx hb dX4_wipe_15 rfl (lv_at hl 0 rfl) ?_
  exact W.iret (v := nI ((S.2.1 j).2.2.2.2.1)) hx hb hr (fun t9 ht9 hW9 => ⟨⟨_, (xO S j ((S.2.1 j).1, (S.2.1 j).2.1, ovl (codeOf ((S.2.1 j).1) ((S.2.1 j).2.1) 0) ((S.2.1 j).2.2.1) 16, ovl (rankC (codeOf ((S.2.1 j).1) ((S.2.1 j).2.1) 0)) ((S.2.1 j).2.2.2.1) 16, 0, classC (codeOf ((S.2.1 j).1) ((S.2.1 j).2.1) 0))), rfl, ⟨rfl, rfl⟩, hX.P ht9 hW9⟩, hX.2.2.2.F ht9⟩) hX.2.2.2.2.2 dX4_wipe_16
set_option maxHeartbeats 4000000 in
set_option maxRecDepth 100000 in
theorem m_X4_copyOrder (l : Launch) (dC : Nat → ClassId) (dI : Nat → Nat → Nat) (ad : Nat → Nat) (S : XS) (j : Nat) (j2 : Nat) (hj : j < 4) (hj2 : j2 < 4) (hI : InvX S) : Met l yX4_copyOrder wsX4_copyOrder ({ frames := 4, cells := 0, slots := 0, locals := 91 } : Room) (va_Pc [.ref (ad 57), .int (nI j), .int (nI j2)] (PX dC dI ad S)) (va_Qi (fun r S' => r = nI (S.2.1 j).2.2.2.2.1 ∧ S' = xO S j2 (newO (apn (S.2.1 j2).1 (S.2.1 j).1 0 (S.2.1 j).2.2.2.2.1) (apn (S.2.1 j2).2.1 (S.2.1 j).2.1 0 (S.2.1 j).2.2.2.2.1) (S.2.1 j).2.2.2.2.1 (S.2.1 j2).2.2.1 (S.2.1 j2).2.2.2.1)) (PX dC dI ad) (AX ad)) 0 0 (AX ad) := by
  refine Met.ofW (cc := cX4_copyOrder) (maxL := 5) (ret := (some .int)) pl_X4 rfl ?_
  intro p e s m args below meth c s₁ B hml hv
  obtain ⟨rfl, hPX⟩ := hv
  have hx := B.exec
  have hb := B.bytes
  have hr := B.returns
  have hts := atoms_spec (ws := wsX4_copyOrder) B.pre
  have hown : s.vm.findClass RX4 = some m.cls := findClass_of_methodNamed B.named
  have hlocks := B.notSynchronized
  have hX := WX.of hPX
  have hl := lv_entry ([.ref (ad 57), .int (nI j), .int (nI j2)]) (n := 5) (Nat.le_of_ble_eq_true rfl)
  rw [lg_entry_eq]
  generalize (lg_sl ([.ref (ad 57), .int (nI j), .int (nI j2)]) ++ List.replicate (5 - (lg_sl ([.ref (ad 57), .int (nI j), .int (nI j2)])).length) Slot.unset).toArray = ls at hl ⊢
  have hl : lv_has ls 5 [(0, .ref (ad 57)), (1, .int (nI j)), (2, .int (nI j2))] := hl
  show W p l e ({ frames := 4, cells := 0, slots := 0, locals := 91 } : Room) s m ([.ref (ad 57), .int (nI j), .int (nI j2)]).toArray below meth c s.heap [] 0 0 (MQ below (va_Qi (fun r S' => r = nI (S.2.1 j).2.2.2.2.1 ∧ S' = xO S j2 (newO (apn (S.2.1 j2).1 (S.2.1 j).1 0 (S.2.1 j).2.2.2.2.1) (apn (S.2.1 j2).2.1 (S.2.1 j).2.1 0 (S.2.1 j).2.2.2.2.1) (S.2.1 j).2.2.2.2.1 (S.2.1 j2).2.2.1 (S.2.1 j2).2.2.2.1)) (PX dC dI ad) (AX ad)) ([.ref (ad 57), .int (nI j), .int (nI j2)]).toArray s 0 0 (AX ad)) (F0 m 0 ls [])
  have hn := (hI.2 j (by omega)).1.1
  refine lv_aload_n hx hb dX4_copyOrder_0 rfl (lv_at hl 0 rfl) ?_
  refine lv_iload_n hx hb dX4_copyOrder_1 rfl (lv_at hl 1 rfl) ?_
  refine va_csr (va_Run.run (va_runV (As := [.int (nI j)]) (rest := []) ⟨hx, hb, hml, hown, hts⟩ (m_X4_orderAt l dC dI ad S j (by omega)) (cwV 1 hts gX4_copyOrder_X4_orderAt rfl rfl rfl hdX4_orderAt_1 ⟨Nat.le_of_ble_eq_true rfl, Nat.le_of_ble_eq_true rfl⟩) (hX.preTop 57 6 (by decide) (by decide) rfl rfl) rfl rfl hl.1 rfl (lv_room (Nat.le_of_ble_eq_true rfl)) dX4_copyOrder_2 ⟨Nat.le_of_ble_eq_true rfl, Nat.le_of_ble_eq_true rfl⟩)) (fun k_ hk_ => ?_)
  rw [hk_]
  refine lv_astore_n (lv' := [(3, .ref (ad (24 + 5 * j))), (0, .ref (ad 57)), (1, .int (nI j)), (2, .int (nI j2))]) hx hb dX4_copyOrder_5 rfl hl (by decide) rfl (fun ls hl => ?_)
  refine lv_aload_n hx hb dX4_copyOrder_6 rfl (lv_at hl 1 rfl) ?_
  refine lv_iload_n hx hb dX4_copyOrder_7 rfl (lv_at hl 3 rfl) ?_
  refine va_csr (va_Run.run (va_runV (As := [.int (nI j2)]) (rest := []) ⟨hx, hb, hml, hown, hts⟩ (m_X4_orderAt l dC dI ad S j2 (by omega)) (cwV 1 hts gX4_copyOrder_X4_orderAt rfl rfl rfl hdX4_orderAt_1 ⟨Nat.le_of_ble_eq_true rfl, Nat.le_of_ble_eq_true rfl⟩) (hX.preTop 57 6 (by decide) (by decide) rfl rfl) rfl rfl hl.1 rfl (lv_room (Nat.le_of_ble_eq_true rfl)) dX4_copyOrder_8 ⟨Nat.le_of_ble_eq_true rfl, Nat.le_of_ble_eq_true rfl⟩)) (fun k_ hk_ => ?_)
  rw [hk_]
  refine lv_astore (lv' := [(4, .ref (ad (24 + 5 * j2))), (3, .ref (ad (24 + 5 * j))), (0, .ref (ad 57)), (1, .int (nI j)), (2, .int (nI j2))]) hx hb dX4_copyOrder_11 hl (by decide) rfl (fun ls hl => ?_)
  refine lv_aload hx hb dX4_copyOrder_13 (lv_at hl 0 rfl) ?_
  refine lv_aload_n hx hb dX4_copyOrder_15 rfl (lv_at hl 1 rfl) ?_
  refine kx_cv (va_runV (As := [.ref (ad (24 + 5 * j))]) (rest := []) ⟨hx, hb, hml, hown, hts⟩ (m_X1_becomeCopyOf l dC dI ad S j2 j (by omega) (by omega) (hI.2 j2 (by omega)).1 (hI.2 j (by omega)).1) (cwV 1 hts gX4_copyOrder_X1_becomeCopyOf rfl rfl rfl hdX1_becomeCopyOf_1 ⟨Nat.le_of_ble_eq_true rfl, Nat.le_of_ble_eq_true rfl⟩) (hX.preOrd (by omega)) rfl rfl hl.1 rfl (lv_room (Nat.le_of_ble_eq_true rfl)) dX4_copyOrder_16 ⟨Nat.le_of_ble_eq_true rfl, Nat.le_of_ble_eq_true rfl⟩) hX (fun _ h => h) (fun S_ H locs hw hX => ?_)
  subst hw
  refine lv_aload hx hb dX4_copyOrder_19 (lv_at hl 0 rfl) ?_
  refine kx_cr (v := nI ((S.2.1 j).2.2.2.2.1)) (va_runV (As := []) (rest := []) ⟨hx, hb, hml, hown, hts⟩ (m_X1_length l dC dI ad (xO S j2 (apn ((S.2.1 j2).1) ((S.2.1 j).1) 0 ((S.2.1 j).2.2.2.2.1), apn ((S.2.1 j2).2.1) ((S.2.1 j).2.1) 0 ((S.2.1 j).2.2.2.2.1), ovl (codeOf (apn ((S.2.1 j2).1) ((S.2.1 j).1) 0 ((S.2.1 j).2.2.2.2.1)) (apn ((S.2.1 j2).2.1) ((S.2.1 j).2.1) 0 ((S.2.1 j).2.2.2.2.1)) ((S.2.1 j).2.2.2.2.1)) ((S.2.1 j2).2.2.1) 16, ovl (rankC (codeOf (apn ((S.2.1 j2).1) ((S.2.1 j).1) 0 ((S.2.1 j).2.2.2.2.1)) (apn ((S.2.1 j2).2.1) ((S.2.1 j).2.1) 0 ((S.2.1 j).2.2.2.2.1)) ((S.2.1 j).2.2.2.2.1))) ((S.2.1 j2).2.2.2.1) 16, (S.2.1 j).2.2.2.2.1, classC (codeOf (apn ((S.2.1 j2).1) ((S.2.1 j).1) 0 ((S.2.1 j).2.2.2.2.1)) (apn ((S.2.1 j2).2.1) ((S.2.1 j).2.1) 0 ((S.2.1 j).2.2.2.2.1)) ((S.2.1 j).2.2.2.2.1)))) j2  (by omega)) (cwV 0 hts gX4_copyOrder_X1_length rfl rfl rfl hdX1_length_0 ⟨Nat.le_of_ble_eq_true rfl, Nat.le_of_ble_eq_true rfl⟩) (hX.preOrd (by omega)) rfl rfl hl.1 rfl (lv_room (Nat.le_of_ble_eq_true rfl)) dX4_copyOrder_21 ⟨Nat.le_of_ble_eq_true rfl, Nat.le_of_ble_eq_true rfl⟩) (fun _ h => by rw [h, xO_ord]) ?_
  exact W.iret (v := nI ((S.2.1 j).2.2.2.2.1)) hx hb hr (fun t9 ht9 hW9 => ⟨⟨_, (xO S j2 (apn ((S.2.1 j2).1) ((S.2.1 j).1) 0 ((S.2.1 j).2.2.2.2.1), apn ((S.2.1 j2).2.1) ((S.2.1 j).2.1) 0 ((S.2.1 j).2.2.2.2.1), ovl (codeOf (apn ((S.2.1 j2).1) ((S.2.1 j).1) 0 ((S.2.1 j).2.2.2.2.1)) (apn ((S.2.1 j2).2.1) ((S.2.1 j).2.1) 0 ((S.2.1 j).2.2.2.2.1)) ((S.2.1 j).2.2.2.2.1)) ((S.2.1 j2).2.2.1) 16, ovl (rankC (codeOf (apn ((S.2.1 j2).1) ((S.2.1 j).1) 0 ((S.2.1 j).2.2.2.2.1)) (apn ((S.2.1 j2).2.1) ((S.2.1 j).2.1) 0 ((S.2.1 j).2.2.2.2.1)) ((S.2.1 j).2.2.2.2.1))) ((S.2.1 j2).2.2.2.1) 16, (S.2.1 j).2.2.2.2.1, classC (codeOf (apn ((S.2.1 j2).1) ((S.2.1 j).1) 0 ((S.2.1 j).2.2.2.2.1)) (apn ((S.2.1 j2).2.1) ((S.2.1 j).2.1) 0 ((S.2.1 j).2.2.2.2.1)) ((S.2.1 j).2.2.2.2.1)))), rfl, ⟨rfl, rfl⟩, hX.P ht9 hW9⟩, hX.2.2.2.F ht9⟩) hX.2.2.2.2.2 dX4_copyOrder_24
set_option maxHeartbeats 4000000 in
set_option maxRecDepth 100000 in
theorem m_X4_turn (l : Launch) (dC : Nat → ClassId) (dI : Nat → Nat → Nat) (ad : Nat → Nat) (S : XS) (j : Nat) (hj : j < 4) (hI : InvX S) : Met l yX4_turn wsX4_turn ({ frames := 4, cells := 0, slots := 0, locals := 90 } : Room) (va_Pc [.ref (ad 57), .int (nI j)] (PX dC dI ad S)) (va_Qi (fun r S' => r = nI (cntB (ovl (fun k => !(S.2.1 j).2.1 k) (S.2.1 j).2.1 (S.2.1 j).2.2.2.2.1) (S.2.1 j).2.2.2.2.1) ∧ S' = xO S j (newO ((S.2.1 j).1) (ovl (fun k => !(S.2.1 j).2.1 k) (S.2.1 j).2.1 (S.2.1 j).2.2.2.2.1) ((S.2.1 j).2.2.2.2.1) (S.2.1 j).2.2.1 (S.2.1 j).2.2.2.1)) (PX dC dI ad) (AX ad)) 0 0 (AX ad) := by
  refine Met.ofW (cc := cX4_turn) (maxL := 3) (ret := (some .int)) pl_X4 rfl ?_
  intro p e s m args below meth c s₁ B hml hv
  obtain ⟨rfl, hPX⟩ := hv
  have hx := B.exec
  have hb := B.bytes
  have hr := B.returns
  have hts := atoms_spec (ws := wsX4_turn) B.pre
  have hown : s.vm.findClass RX4 = some m.cls := findClass_of_methodNamed B.named
  have hlocks := B.notSynchronized
  have hX := WX.of hPX
  have hl := lv_entry ([.ref (ad 57), .int (nI j)]) (n := 3) (Nat.le_of_ble_eq_true rfl)
  rw [lg_entry_eq]
  generalize (lg_sl ([.ref (ad 57), .int (nI j)]) ++ List.replicate (3 - (lg_sl ([.ref (ad 57), .int (nI j)])).length) Slot.unset).toArray = ls at hl ⊢
  have hl : lv_has ls 3 [(0, .ref (ad 57)), (1, .int (nI j))] := hl
  show W p l e ({ frames := 4, cells := 0, slots := 0, locals := 90 } : Room) s m ([.ref (ad 57), .int (nI j)]).toArray below meth c s.heap [] 0 0 (MQ below (va_Qi (fun r S' => r = nI (cntB (ovl (fun k => !(S.2.1 j).2.1 k) (S.2.1 j).2.1 (S.2.1 j).2.2.2.2.1) (S.2.1 j).2.2.2.2.1) ∧ S' = xO S j (newO ((S.2.1 j).1) (ovl (fun k => !(S.2.1 j).2.1 k) (S.2.1 j).2.1 (S.2.1 j).2.2.2.2.1) ((S.2.1 j).2.2.2.2.1) (S.2.1 j).2.2.1 (S.2.1 j).2.2.2.1)) (PX dC dI ad) (AX ad)) ([.ref (ad 57), .int (nI j)]).toArray s 0 0 (AX ad)) (F0 m 0 ls [])
  have hn := (hI.2 j (by omega)).1.1
  refine lv_aload_n hx hb dX4_turn_0 rfl (lv_at hl 0 rfl) ?_
  refine lv_iload_n hx hb dX4_turn_1 rfl (lv_at hl 1 rfl) ?_
  refine va_csr (va_Run.run (va_runV (As := [.int (nI j)]) (rest := []) ⟨hx, hb, hml, hown, hts⟩ (m_X4_orderAt l dC dI ad S j (by omega)) (cwV 1 hts gX4_turn_X4_orderAt rfl rfl rfl hdX4_orderAt_1 ⟨Nat.le_of_ble_eq_true rfl, Nat.le_of_ble_eq_true rfl⟩) (hX.preTop 57 6 (by decide) (by decide) rfl rfl) rfl rfl hl.1 rfl (lv_room (Nat.le_of_ble_eq_true rfl)) dX4_turn_2 ⟨Nat.le_of_ble_eq_true rfl, Nat.le_of_ble_eq_true rfl⟩)) (fun k_ hk_ => ?_)
  rw [hk_]
  refine lv_astore_n (lv' := [(2, .ref (ad (24 + 5 * j))), (0, .ref (ad 57)), (1, .int (nI j))]) hx hb dX4_turn_5 rfl hl (by decide) rfl (fun ls hl => ?_)
  refine lv_aload_n hx hb dX4_turn_6 rfl (lv_at hl 0 rfl) ?_
  refine kx_cv (va_runV (As := []) (rest := []) ⟨hx, hb, hml, hown, hts⟩ (m_X1_reverse l dC dI ad S j (by omega) (hI.2 j (by omega)).1) (cwV 0 hts gX4_turn_X1_reverse rfl rfl rfl hdX1_reverse_0 ⟨Nat.le_of_ble_eq_true rfl, Nat.le_of_ble_eq_true rfl⟩) (hX.preOrd (by omega)) rfl rfl hl.1 rfl (lv_room (Nat.le_of_ble_eq_true rfl)) dX4_turn_7 ⟨Nat.le_of_ble_eq_true rfl, Nat.le_of_ble_eq_true rfl⟩) hX (fun _ h => h) (fun S_ H locs hw hX => ?_)
  subst hw
  refine lv_aload_n hx hb dX4_turn_10 rfl (lv_at hl 0 rfl) ?_
  refine kx_cr (v := nI (cntB (ovl (fun k => !((S.2.1 j).2.1) k) ((S.2.1 j).2.1) ((S.2.1 j).2.2.2.2.1)) ((S.2.1 j).2.2.2.2.1))) (va_runV (As := []) (rest := []) ⟨hx, hb, hml, hown, hts⟩ (m_X1_downSteps l dC dI ad (xO S j ((S.2.1 j).1, ovl (fun k => !((S.2.1 j).2.1) k) ((S.2.1 j).2.1) ((S.2.1 j).2.2.2.2.1), ovl (codeOf ((S.2.1 j).1) (ovl (fun k => !((S.2.1 j).2.1) k) ((S.2.1 j).2.1) ((S.2.1 j).2.2.2.2.1)) ((S.2.1 j).2.2.2.2.1)) ((S.2.1 j).2.2.1) 16, ovl (rankC (codeOf ((S.2.1 j).1) (ovl (fun k => !((S.2.1 j).2.1) k) ((S.2.1 j).2.1) ((S.2.1 j).2.2.2.2.1)) ((S.2.1 j).2.2.2.2.1))) ((S.2.1 j).2.2.2.1) 16, (S.2.1 j).2.2.2.2.1, classC (codeOf ((S.2.1 j).1) (ovl (fun k => !((S.2.1 j).2.1) k) ((S.2.1 j).2.1) ((S.2.1 j).2.2.2.2.1)) ((S.2.1 j).2.2.2.2.1)))) j (by omega) (by rw [xO_ord]; exact (hI.2 j (by omega)).1)) (cwV 0 hts gX4_turn_X1_downSteps rfl rfl rfl hdX1_downSteps_0 ⟨Nat.le_of_ble_eq_true rfl, Nat.le_of_ble_eq_true rfl⟩) (hX.preOrd (by omega)) rfl rfl hl.1 rfl (lv_room (Nat.le_of_ble_eq_true rfl)) dX4_turn_11 ⟨Nat.le_of_ble_eq_true rfl, Nat.le_of_ble_eq_true rfl⟩) (fun _ h => by rw [h, xO_ord]) ?_
  exact W.iret (v := nI (cntB (ovl (fun k => !((S.2.1 j).2.1) k) ((S.2.1 j).2.1) ((S.2.1 j).2.2.2.2.1)) ((S.2.1 j).2.2.2.2.1))) hx hb hr (fun t9 ht9 hW9 => ⟨⟨_, (xO S j ((S.2.1 j).1, ovl (fun k => !((S.2.1 j).2.1) k) ((S.2.1 j).2.1) ((S.2.1 j).2.2.2.2.1), ovl (codeOf ((S.2.1 j).1) (ovl (fun k => !((S.2.1 j).2.1) k) ((S.2.1 j).2.1) ((S.2.1 j).2.2.2.2.1)) ((S.2.1 j).2.2.2.2.1)) ((S.2.1 j).2.2.1) 16, ovl (rankC (codeOf ((S.2.1 j).1) (ovl (fun k => !((S.2.1 j).2.1) k) ((S.2.1 j).2.1) ((S.2.1 j).2.2.2.2.1)) ((S.2.1 j).2.2.2.2.1))) ((S.2.1 j).2.2.2.1) 16, (S.2.1 j).2.2.2.2.1, classC (codeOf ((S.2.1 j).1) (ovl (fun k => !((S.2.1 j).2.1) k) ((S.2.1 j).2.1) ((S.2.1 j).2.2.2.2.1)) ((S.2.1 j).2.2.2.2.1)))), rfl, ⟨rfl, rfl⟩, hX.P ht9 hW9⟩, hX.2.2.2.F ht9⟩) hX.2.2.2.2.2 dX4_turn_14
set_option maxHeartbeats 4000000 in
set_option maxRecDepth 100000 in
theorem m_X4_compare (l : Launch) (dC : Nat → ClassId) (dI : Nat → Nat → Nat) (ad : Nat → Nat) (S : XS) (j : Nat) (v : Nat) (v2 : Nat) (hj : j < 4) (hv : v < 16) (hv2 : v2 < 16) (hI : InvX S) : Met l yX4_compare wsX4_compare ({ frames := 2, cells := 0, slots := 0, locals := 41 } : Room) (va_Pc [.ref (ad 57), .int (nI j), .int (nI v), .int (nI v2)] (PX dC dI ad S)) (vp_Si (fun r => r = cmpI ((S.2.1 j).2.2.1 v) ((S.2.1 j).2.2.1 v2))) 0 0 (fun _ => False) := by
  refine Met.ofW (cc := cX4_compare) (maxL := 5) (ret := (some .int)) pl_X4 rfl ?_
  intro p e s m args below meth c s₁ B hml hv
  obtain ⟨rfl, hPX⟩ := hv
  have hx := B.exec
  have hb := B.bytes
  have hr := B.returns
  have hts := atoms_spec (ws := wsX4_compare) B.pre
  have hown : s.vm.findClass RX4 = some m.cls := findClass_of_methodNamed B.named
  have hlocks := B.notSynchronized
  have hX := WX.of hPX
  have hl := lv_entry ([.ref (ad 57), .int (nI j), .int (nI v), .int (nI v2)]) (n := 5) (Nat.le_of_ble_eq_true rfl)
  rw [lg_entry_eq]
  generalize (lg_sl ([.ref (ad 57), .int (nI j), .int (nI v), .int (nI v2)]) ++ List.replicate (5 - (lg_sl ([.ref (ad 57), .int (nI j), .int (nI v), .int (nI v2)])).length) Slot.unset).toArray = ls at hl ⊢
  have hl : lv_has ls 5 [(0, .ref (ad 57)), (1, .int (nI j)), (2, .int (nI v)), (3, .int (nI v2))] := hl
  show W p l e ({ frames := 2, cells := 0, slots := 0, locals := 41 } : Room) s m ([.ref (ad 57), .int (nI j), .int (nI v), .int (nI v2)]).toArray below meth c s.heap [] 0 0 (MQ below (vp_Si (fun r => r = cmpI ((S.2.1 j).2.2.1 v) ((S.2.1 j).2.2.1 v2))) ([.ref (ad 57), .int (nI j), .int (nI v), .int (nI v2)]).toArray s 0 0 (fun _ => False)) (F0 m 0 ls [])
  have hn := (hI.2 j (by omega)).1.1
  refine lv_aload_n hx hb dX4_compare_0 rfl (lv_at hl 0 rfl) ?_
  refine lv_iload_n hx hb dX4_compare_1 rfl (lv_at hl 1 rfl) ?_
  refine va_csr (va_Run.run (va_runV (As := [.int (nI j)]) (rest := []) ⟨hx, hb, hml, hown, hts⟩ (m_X4_orderAt l dC dI ad S j (by omega)) (cwV 1 hts gX4_compare_X4_orderAt rfl rfl rfl hdX4_orderAt_1 ⟨Nat.le_of_ble_eq_true rfl, Nat.le_of_ble_eq_true rfl⟩) (hX.preTop 57 6 (by decide) (by decide) rfl rfl) rfl rfl hl.1 rfl (lv_room (Nat.le_of_ble_eq_true rfl)) dX4_compare_2 ⟨Nat.le_of_ble_eq_true rfl, Nat.le_of_ble_eq_true rfl⟩)) (fun k_ hk_ => ?_)
  rw [hk_]
  refine lv_astore (lv' := [(4, .ref (ad (24 + 5 * j))), (0, .ref (ad 57)), (1, .int (nI j)), (2, .int (nI v)), (3, .int (nI v2))]) hx hb dX4_compare_5 hl (by decide) rfl (fun ls hl => ?_)
  refine lv_iload_n hx hb dX4_compare_7 rfl (lv_at hl 3 rfl) ?_
  refine va_csv (va_Run.run (va_runS (As := [.int (nI v)]) (rest := []) ⟨hx, hb, hml, hown, hts⟩ (m_X4_demandValue l dC dI ad S v (by omega)) (va_cwS 1 hts gX4_compare_X4_demandValue rfl rfl rfl hdX4_demandValue_1.2 ⟨Nat.le_of_ble_eq_true rfl, Nat.le_of_ble_eq_true rfl⟩) hX.preS rfl rfl hl.1 rfl (lv_room (Nat.le_of_ble_eq_true rfl)) dX4_compare_8 ⟨Nat.le_of_ble_eq_true rfl, Nat.le_of_ble_eq_true rfl⟩)) (fun _ => ?_)
  refine lv_iload_n hx hb dX4_compare_11 rfl (lv_at hl 4 rfl) ?_
  refine va_csv (va_Run.run (va_runS (As := [.int (nI v2)]) (rest := []) ⟨hx, hb, hml, hown, hts⟩ (m_X4_demandValue l dC dI ad S v2 (by omega)) (va_cwS 1 hts gX4_compare_X4_demandValue rfl rfl rfl hdX4_demandValue_1.2 ⟨Nat.le_of_ble_eq_true rfl, Nat.le_of_ble_eq_true rfl⟩) hX.preS rfl rfl hl.1 rfl (lv_room (Nat.le_of_ble_eq_true rfl)) dX4_compare_12 ⟨Nat.le_of_ble_eq_true rfl, Nat.le_of_ble_eq_true rfl⟩)) (fun _ => ?_)
  refine lv_aload hx hb dX4_compare_15 (lv_at hl 0 rfl) ?_
  refine lv_iload_n hx hb dX4_compare_17 rfl (lv_at hl 3 rfl) ?_
  refine lv_iload_n hx hb dX4_compare_18 rfl (lv_at hl 4 rfl) ?_
  refine kx_cr (v := cmpI ((S.2.1 j).2.2.1 v) ((S.2.1 j).2.2.1 v2)) (va_runV (As := [.int (nI v), .int (nI v2)]) (rest := []) ⟨hx, hb, hml, hown, hts⟩ (m_X1_compared l dC dI ad S j v v2 (by omega) (hI.2 j (by omega)) (by omega) (by omega)) (cwV 2 hts gX4_compare_X1_compared rfl rfl rfl hdX1_compared_2 ⟨Nat.le_of_ble_eq_true rfl, Nat.le_of_ble_eq_true rfl⟩) (hX.preOrd (by omega)) rfl rfl hl.1 rfl (lv_room (Nat.le_of_ble_eq_true rfl)) dX4_compare_19 ⟨Nat.le_of_ble_eq_true rfl, Nat.le_of_ble_eq_true rfl⟩) (fun _ h => h) ?_
  exact W.iret (v := cmpI ((S.2.1 j).2.2.1 v) ((S.2.1 j).2.2.1 v2)) hx hb hr (fun t9 ht9 hW9 => ⟨_, rfl, rfl, ht9⟩) (fun _ h => nomatch h) dX4_compare_22
set_option maxHeartbeats 4000000 in
set_option maxRecDepth 100000 in
theorem m_X4_both (l : Launch) (dC : Nat → ClassId) (dI : Nat → Nat → Nat) (ad : Nat → Nat) (S : XS) (j : Nat) (j2 : Nat) (v : Nat) (v2 : Nat) (hj : j < 4) (hj2 : j2 < 4) (hv : v < 16) (hv2 : v2 < 16) (hI : InvX S) : Met l yX4_both wsX4_both ({ frames := 2, cells := 0, slots := 0, locals := 51 } : Room) (va_Pc [.ref (ad 57), .int (nI j), .int (nI j2), .int (nI v), .int (nI v2)] (PX dC dI ad S)) (vp_Si (fun r => r = bothI ((S.2.1 j).2.2.1 v) ((S.2.1 j).2.2.1 v2) ((S.2.1 j2).2.2.1 v) ((S.2.1 j2).2.2.1 v2))) 0 0 (fun _ => False) := by
  refine Met.ofW (cc := cX4_both) (maxL := 7) (ret := (some .int)) pl_X4 rfl ?_
  intro p e s m args below meth c s₁ B hml hv
  obtain ⟨rfl, hPX⟩ := hv
  have hx := B.exec
  have hb := B.bytes
  have hr := B.returns
  have hts := atoms_spec (ws := wsX4_both) B.pre
  have hown : s.vm.findClass RX4 = some m.cls := findClass_of_methodNamed B.named
  have hlocks := B.notSynchronized
  have hX := WX.of hPX
  have hl := lv_entry ([.ref (ad 57), .int (nI j), .int (nI j2), .int (nI v), .int (nI v2)]) (n := 7) (Nat.le_of_ble_eq_true rfl)
  rw [lg_entry_eq]
  generalize (lg_sl ([.ref (ad 57), .int (nI j), .int (nI j2), .int (nI v), .int (nI v2)]) ++ List.replicate (7 - (lg_sl ([.ref (ad 57), .int (nI j), .int (nI j2), .int (nI v), .int (nI v2)])).length) Slot.unset).toArray = ls at hl ⊢
  have hl : lv_has ls 7 [(0, .ref (ad 57)), (1, .int (nI j)), (2, .int (nI j2)), (3, .int (nI v)), (4, .int (nI v2))] := hl
  show W p l e ({ frames := 2, cells := 0, slots := 0, locals := 51 } : Room) s m ([.ref (ad 57), .int (nI j), .int (nI j2), .int (nI v), .int (nI v2)]).toArray below meth c s.heap [] 0 0 (MQ below (vp_Si (fun r => r = bothI ((S.2.1 j).2.2.1 v) ((S.2.1 j).2.2.1 v2) ((S.2.1 j2).2.2.1 v) ((S.2.1 j2).2.2.1 v2))) ([.ref (ad 57), .int (nI j), .int (nI j2), .int (nI v), .int (nI v2)]).toArray s 0 0 (fun _ => False)) (F0 m 0 ls [])
  have hn := (hI.2 j (by omega)).1.1
  refine lv_aload_n hx hb dX4_both_0 rfl (lv_at hl 0 rfl) ?_
  refine lv_iload_n hx hb dX4_both_1 rfl (lv_at hl 1 rfl) ?_
  refine va_csr (va_Run.run (va_runV (As := [.int (nI j)]) (rest := []) ⟨hx, hb, hml, hown, hts⟩ (m_X4_orderAt l dC dI ad S j (by omega)) (cwV 1 hts gX4_both_X4_orderAt rfl rfl rfl hdX4_orderAt_1 ⟨Nat.le_of_ble_eq_true rfl, Nat.le_of_ble_eq_true rfl⟩) (hX.preTop 57 6 (by decide) (by decide) rfl rfl) rfl rfl hl.1 rfl (lv_room (Nat.le_of_ble_eq_true rfl)) dX4_both_2 ⟨Nat.le_of_ble_eq_true rfl, Nat.le_of_ble_eq_true rfl⟩)) (fun k_ hk_ => ?_)
  rw [hk_]
  refine lv_astore (lv' := [(5, .ref (ad (24 + 5 * j))), (0, .ref (ad 57)), (1, .int (nI j)), (2, .int (nI j2)), (3, .int (nI v)), (4, .int (nI v2))]) hx hb dX4_both_5 hl (by decide) rfl (fun ls hl => ?_)
  refine lv_aload_n hx hb dX4_both_7 rfl (lv_at hl 1 rfl) ?_
  refine lv_iload_n hx hb dX4_both_8 rfl (lv_at hl 3 rfl) ?_
  refine va_csr (va_Run.run (va_runV (As := [.int (nI j2)]) (rest := []) ⟨hx, hb, hml, hown, hts⟩ (m_X4_orderAt l dC dI ad S j2 (by omega)) (cwV 1 hts gX4_both_X4_orderAt rfl rfl rfl hdX4_orderAt_1 ⟨Nat.le_of_ble_eq_true rfl, Nat.le_of_ble_eq_true rfl⟩) (hX.preTop 57 6 (by decide) (by decide) rfl rfl) rfl rfl hl.1 rfl (lv_room (Nat.le_of_ble_eq_true rfl)) dX4_both_9 ⟨Nat.le_of_ble_eq_true rfl, Nat.le_of_ble_eq_true rfl⟩)) (fun k_ hk_ => ?_)
  rw [hk_]
  refine lv_astore (lv' := [(6, .ref (ad (24 + 5 * j2))), (5, .ref (ad (24 + 5 * j))), (0, .ref (ad 57)), (1, .int (nI j)), (2, .int (nI j2)), (3, .int (nI v)), (4, .int (nI v2))]) hx hb dX4_both_12 hl (by decide) rfl (fun ls hl => ?_)
  refine lv_iload_n hx hb dX4_both_14 rfl (lv_at hl 5 rfl) ?_
  refine va_csv (va_Run.run (va_runS (As := [.int (nI v)]) (rest := []) ⟨hx, hb, hml, hown, hts⟩ (m_X4_demandValue l dC dI ad S v (by omega)) (va_cwS 1 hts gX4_both_X4_demandValue rfl rfl rfl hdX4_demandValue_1.2 ⟨Nat.le_of_ble_eq_true rfl, Nat.le_of_ble_eq_true rfl⟩) hX.preS rfl rfl hl.1 rfl (lv_room (Nat.le_of_ble_eq_true rfl)) dX4_both_15 ⟨Nat.le_of_ble_eq_true rfl, Nat.le_of_ble_eq_true rfl⟩)) (fun _ => ?_)
  refine lv_iload hx hb dX4_both_18 (lv_at hl 6 rfl) ?_
  refine va_csv (va_Run.run (va_runS (As := [.int (nI v2)]) (rest := []) ⟨hx, hb, hml, hown, hts⟩ (m_X4_demandValue l dC dI ad S v2 (by omega)) (va_cwS 1 hts gX4_both_X4_demandValue rfl rfl rfl hdX4_demandValue_1.2 ⟨Nat.le_of_ble_eq_true rfl, Nat.le_of_ble_eq_true rfl⟩) hX.preS rfl rfl hl.1 rfl (lv_room (Nat.le_of_ble_eq_true rfl)) dX4_both_20 ⟨Nat.le_of_ble_eq_true rfl, Nat.le_of_ble_eq_true rfl⟩)) (fun _ => ?_)
  refine lv_aload hx hb dX4_both_23 (lv_at hl 1 rfl) ?_
  refine lv_aload hx hb dX4_both_25 (lv_at hl 0 rfl) ?_
  refine lv_iload_n hx hb dX4_both_27 rfl (lv_at hl 5 rfl) ?_
  refine lv_iload hx hb dX4_both_28 (lv_at hl 6 rfl) ?_
  refine kx_cr (v := (bothI ((S.2.1 j).2.2.1 v) ((S.2.1 j).2.2.1 v2) ((S.2.1 j2).2.2.1 v) ((S.2.1 j2).2.2.1 v2))) (va_runS (As := [.ref (ad (24 + 5 * j)), .ref (ad (24 + 5 * j2)), .int (nI v), .int (nI v2)]) (rest := []) ⟨hx, hb, hml, hown, hts⟩ (m_X4_comparedByBoth l dC dI ad S j j2 v v2 (by omega) (by omega) (hI.2 j (by omega)) (hI.2 j2 (by omega)) (by omega) (by omega)) (va_cwS 4 hts gX4_both_X4_comparedByBoth rfl rfl rfl hdX4_comparedByBoth_4.2 ⟨Nat.le_of_ble_eq_true rfl, Nat.le_of_ble_eq_true rfl⟩) hX.preS rfl rfl hl.1 rfl (lv_room (Nat.le_of_ble_eq_true rfl)) dX4_both_30 ⟨Nat.le_of_ble_eq_true rfl, Nat.le_of_ble_eq_true rfl⟩) (fun _ h => h) ?_
  exact W.iret (v := (bothI ((S.2.1 j).2.2.1 v) ((S.2.1 j).2.2.1 v2) ((S.2.1 j2).2.2.1 v) ((S.2.1 j2).2.2.1 v2))) hx hb hr (fun t9 ht9 hW9 => ⟨_, rfl, rfl, ht9⟩) (fun _ h => nomatch h) dX4_both_33
set_option maxHeartbeats 4000000 in
set_option maxRecDepth 100000 in
theorem m_X4_refines (l : Launch) (dC : Nat → ClassId) (dI : Nat → Nat → Nat) (ad : Nat → Nat) (S : XS) (j : Nat) (j2 : Nat) (hj : j < 4) (hj2 : j2 < 4) (hI : InvX S) : Met l yX4_refines wsX4_refines ({ frames := 2, cells := 0, slots := 0, locals := 49 } : Room) (va_Pc [.ref (ad 57), .int (nI j), .int (nI j2)] (PX dC dI ad S)) (vp_Si (fun r => r = bI (finerB (S.2.1 j).2.2.1 (S.2.1 j2).2.2.1))) 0 0 (fun _ => False) := by
  refine Met.ofW (cc := cX4_refines) (maxL := 4) (ret := (some .boolean)) pl_X4 rfl ?_
  intro p e s m args below meth c s₁ B hml hv
  obtain ⟨rfl, hPX⟩ := hv
  have hx := B.exec
  have hb := B.bytes
  have hr := B.returns
  have hts := atoms_spec (ws := wsX4_refines) B.pre
  have hown : s.vm.findClass RX4 = some m.cls := findClass_of_methodNamed B.named
  have hlocks := B.notSynchronized
  have hX := WX.of hPX
  have hl := lv_entry ([.ref (ad 57), .int (nI j), .int (nI j2)]) (n := 4) (Nat.le_of_ble_eq_true rfl)
  rw [lg_entry_eq]
  generalize (lg_sl ([.ref (ad 57), .int (nI j), .int (nI j2)]) ++ List.replicate (4 - (lg_sl ([.ref (ad 57), .int (nI j), .int (nI j2)])).length) Slot.unset).toArray = ls at hl ⊢
  have hl : lv_has ls 4 [(0, .ref (ad 57)), (1, .int (nI j)), (2, .int (nI j2))] := hl
  show W p l e ({ frames := 2, cells := 0, slots := 0, locals := 49 } : Room) s m ([.ref (ad 57), .int (nI j), .int (nI j2)]).toArray below meth c s.heap [] 0 0 (MQ below (vp_Si (fun r => r = bI (finerB (S.2.1 j).2.2.1 (S.2.1 j2).2.2.1))) ([.ref (ad 57), .int (nI j), .int (nI j2)]).toArray s 0 0 (fun _ => False)) (F0 m 0 ls [])
  have hn := (hI.2 j (by omega)).1.1
  refine lv_aload_n hx hb dX4_refines_0 rfl (lv_at hl 0 rfl) ?_
  refine lv_iload_n hx hb dX4_refines_1 rfl (lv_at hl 1 rfl) ?_
  refine va_csr (va_Run.run (va_runV (As := [.int (nI j)]) (rest := []) ⟨hx, hb, hml, hown, hts⟩ (m_X4_orderAt l dC dI ad S j (by omega)) (cwV 1 hts gX4_refines_X4_orderAt rfl rfl rfl hdX4_orderAt_1 ⟨Nat.le_of_ble_eq_true rfl, Nat.le_of_ble_eq_true rfl⟩) (hX.preTop 57 6 (by decide) (by decide) rfl rfl) rfl rfl hl.1 rfl (lv_room (Nat.le_of_ble_eq_true rfl)) dX4_refines_2 ⟨Nat.le_of_ble_eq_true rfl, Nat.le_of_ble_eq_true rfl⟩)) (fun k_ hk_ => ?_)
  rw [hk_]
  refine lv_astore_n (lv' := [(3, .ref (ad (24 + 5 * j))), (0, .ref (ad 57)), (1, .int (nI j)), (2, .int (nI j2))]) hx hb dX4_refines_5 rfl hl (by decide) rfl (fun ls hl => ?_)
  refine lv_aload_n hx hb dX4_refines_6 rfl (lv_at hl 0 rfl) ?_
  refine lv_aload_n hx hb dX4_refines_7 rfl (lv_at hl 1 rfl) ?_
  refine lv_iload_n hx hb dX4_refines_8 rfl (lv_at hl 3 rfl) ?_
  refine va_csr (va_Run.run (va_runV (As := [.int (nI j2)]) (rest := [.ref (ad (24 + 5 * j))]) ⟨hx, hb, hml, hown, hts⟩ (m_X4_orderAt l dC dI ad S j2 (by omega)) (cwV 1 hts gX4_refines_X4_orderAt rfl rfl rfl hdX4_orderAt_1 ⟨Nat.le_of_ble_eq_true rfl, Nat.le_of_ble_eq_true rfl⟩) (hX.preTop 57 6 (by decide) (by decide) rfl rfl) rfl rfl hl.1 rfl (lv_room (Nat.le_of_ble_eq_true rfl)) dX4_refines_9 ⟨Nat.le_of_ble_eq_true rfl, Nat.le_of_ble_eq_true rfl⟩)) (fun k_ hk_ => ?_)
  rw [hk_]
  refine kx_cr (v := bI (finerB (S.2.1 j).2.2.1 (S.2.1 j2).2.2.1)) (va_runV (As := [.ref (ad (24 + 5 * j2))]) (rest := []) ⟨hx, hb, hml, hown, hts⟩ (m_X1_isFinerThan l dC dI ad S j j2 (by omega) (by omega) (hI.2 j (by omega)) (hI.2 j2 (by omega))) (cwV 1 hts gX4_refines_X1_isFinerThan rfl rfl rfl hdX1_isFinerThan_1 ⟨Nat.le_of_ble_eq_true rfl, Nat.le_of_ble_eq_true rfl⟩) (hX.preOrd (by omega)) rfl rfl hl.1 rfl (lv_room (Nat.le_of_ble_eq_true rfl)) dX4_refines_12 ⟨Nat.le_of_ble_eq_true rfl, Nat.le_of_ble_eq_true rfl⟩) (fun _ h => h) ?_
  exact W.zret (v := bI (finerB (S.2.1 j).2.2.1 (S.2.1 j2).2.2.1)) hx hb hr (bI_narrow _) (fun t9 ht9 hW9 => ⟨_, rfl, rfl, ht9⟩) (fun _ h => nomatch h) dX4_refines_15
set_option maxHeartbeats 4000000 in
set_option maxRecDepth 100000 in
theorem m_X4_areSame (l : Launch) (dC : Nat → ClassId) (dI : Nat → Nat → Nat) (ad : Nat → Nat) (S : XS) (j : Nat) (j2 : Nat) (hj : j < 4) (hj2 : j2 < 4) (hI : InvX S) : Met l yX4_areSame wsX4_areSame ({ frames := 2, cells := 0, slots := 0, locals := 49 } : Room) (va_Pc [.ref (ad 57), .int (nI j), .int (nI j2)] (PX dC dI ad S)) (vp_Si (fun r => r = bI (likeB (S.2.1 j).2.2.1 (S.2.1 j2).2.2.1))) 0 0 (fun _ => False) := by
  refine Met.ofW (cc := cX4_areSame) (maxL := 4) (ret := (some .boolean)) pl_X4 rfl ?_
  intro p e s m args below meth c s₁ B hml hv
  obtain ⟨rfl, hPX⟩ := hv
  have hx := B.exec
  have hb := B.bytes
  have hr := B.returns
  have hts := atoms_spec (ws := wsX4_areSame) B.pre
  have hown : s.vm.findClass RX4 = some m.cls := findClass_of_methodNamed B.named
  have hlocks := B.notSynchronized
  have hX := WX.of hPX
  have hl := lv_entry ([.ref (ad 57), .int (nI j), .int (nI j2)]) (n := 4) (Nat.le_of_ble_eq_true rfl)
  rw [lg_entry_eq]
  generalize (lg_sl ([.ref (ad 57), .int (nI j), .int (nI j2)]) ++ List.replicate (4 - (lg_sl ([.ref (ad 57), .int (nI j), .int (nI j2)])).length) Slot.unset).toArray = ls at hl ⊢
  have hl : lv_has ls 4 [(0, .ref (ad 57)), (1, .int (nI j)), (2, .int (nI j2))] := hl
  show W p l e ({ frames := 2, cells := 0, slots := 0, locals := 49 } : Room) s m ([.ref (ad 57), .int (nI j), .int (nI j2)]).toArray below meth c s.heap [] 0 0 (MQ below (vp_Si (fun r => r = bI (likeB (S.2.1 j).2.2.1 (S.2.1 j2).2.2.1))) ([.ref (ad 57), .int (nI j), .int (nI j2)]).toArray s 0 0 (fun _ => False)) (F0 m 0 ls [])
  have hn := (hI.2 j (by omega)).1.1
  refine lv_aload_n hx hb dX4_areSame_0 rfl (lv_at hl 0 rfl) ?_
  refine lv_iload_n hx hb dX4_areSame_1 rfl (lv_at hl 1 rfl) ?_
  refine va_csr (va_Run.run (va_runV (As := [.int (nI j)]) (rest := []) ⟨hx, hb, hml, hown, hts⟩ (m_X4_orderAt l dC dI ad S j (by omega)) (cwV 1 hts gX4_areSame_X4_orderAt rfl rfl rfl hdX4_orderAt_1 ⟨Nat.le_of_ble_eq_true rfl, Nat.le_of_ble_eq_true rfl⟩) (hX.preTop 57 6 (by decide) (by decide) rfl rfl) rfl rfl hl.1 rfl (lv_room (Nat.le_of_ble_eq_true rfl)) dX4_areSame_2 ⟨Nat.le_of_ble_eq_true rfl, Nat.le_of_ble_eq_true rfl⟩)) (fun k_ hk_ => ?_)
  rw [hk_]
  refine lv_astore_n (lv' := [(3, .ref (ad (24 + 5 * j))), (0, .ref (ad 57)), (1, .int (nI j)), (2, .int (nI j2))]) hx hb dX4_areSame_5 rfl hl (by decide) rfl (fun ls hl => ?_)
  refine lv_aload_n hx hb dX4_areSame_6 rfl (lv_at hl 0 rfl) ?_
  refine lv_aload_n hx hb dX4_areSame_7 rfl (lv_at hl 1 rfl) ?_
  refine lv_iload_n hx hb dX4_areSame_8 rfl (lv_at hl 3 rfl) ?_
  refine va_csr (va_Run.run (va_runV (As := [.int (nI j2)]) (rest := [.ref (ad (24 + 5 * j))]) ⟨hx, hb, hml, hown, hts⟩ (m_X4_orderAt l dC dI ad S j2 (by omega)) (cwV 1 hts gX4_areSame_X4_orderAt rfl rfl rfl hdX4_orderAt_1 ⟨Nat.le_of_ble_eq_true rfl, Nat.le_of_ble_eq_true rfl⟩) (hX.preTop 57 6 (by decide) (by decide) rfl rfl) rfl rfl hl.1 rfl (lv_room (Nat.le_of_ble_eq_true rfl)) dX4_areSame_9 ⟨Nat.le_of_ble_eq_true rfl, Nat.le_of_ble_eq_true rfl⟩)) (fun k_ hk_ => ?_)
  rw [hk_]
  refine kx_cr (v := bI (likeB (S.2.1 j).2.2.1 (S.2.1 j2).2.2.1)) (va_runV (As := [.ref (ad (24 + 5 * j2))]) (rest := []) ⟨hx, hb, hml, hown, hts⟩ (m_X1_comparesLike l dC dI ad S j j2 (by omega) (by omega) (hI.2 j (by omega)) (hI.2 j2 (by omega))) (cwV 1 hts gX4_areSame_X1_comparesLike rfl rfl rfl hdX1_comparesLike_1 ⟨Nat.le_of_ble_eq_true rfl, Nat.le_of_ble_eq_true rfl⟩) (hX.preOrd (by omega)) rfl rfl hl.1 rfl (lv_room (Nat.le_of_ble_eq_true rfl)) dX4_areSame_12 ⟨Nat.le_of_ble_eq_true rfl, Nat.le_of_ble_eq_true rfl⟩) (fun _ h => h) ?_
  exact W.zret (v := bI (likeB (S.2.1 j).2.2.1 (S.2.1 j2).2.2.1)) hx hb hr (bI_narrow _) (fun t9 ht9 hW9 => ⟨_, rfl, rfl, ht9⟩) (fun _ h => nomatch h) dX4_areSame_15
set_option maxHeartbeats 4000000 in
set_option maxRecDepth 100000 in
theorem m_X4_apart (l : Launch) (dC : Nat → ClassId) (dI : Nat → Nat → Nat) (ad : Nat → Nat) (S : XS) (j : Nat) (j2 : Nat) (hj : j < 4) (hj2 : j2 < 4) (hI : InvX S) : Met l yX4_apart wsX4_apart ({ frames := 3, cells := 0, slots := 0, locals := 75 } : Room) (va_Pc [.ref (ad 57), .int (nI j), .int (nI j2)] (PX dC dI ad S)) (vp_Si (fun r => r = nI (apartN (S.2.1 j).2.2.1 (S.2.1 j2).2.2.1))) 0 0 (fun _ => False) := by
  refine Met.ofW (cc := cX4_apart) (maxL := 4) (ret := (some .int)) pl_X4 rfl ?_
  intro p e s m args below meth c s₁ B hml hv
  obtain ⟨rfl, hPX⟩ := hv
  have hx := B.exec
  have hb := B.bytes
  have hr := B.returns
  have hts := atoms_spec (ws := wsX4_apart) B.pre
  have hown : s.vm.findClass RX4 = some m.cls := findClass_of_methodNamed B.named
  have hlocks := B.notSynchronized
  have hX := WX.of hPX
  have hl := lv_entry ([.ref (ad 57), .int (nI j), .int (nI j2)]) (n := 4) (Nat.le_of_ble_eq_true rfl)
  rw [lg_entry_eq]
  generalize (lg_sl ([.ref (ad 57), .int (nI j), .int (nI j2)]) ++ List.replicate (4 - (lg_sl ([.ref (ad 57), .int (nI j), .int (nI j2)])).length) Slot.unset).toArray = ls at hl ⊢
  have hl : lv_has ls 4 [(0, .ref (ad 57)), (1, .int (nI j)), (2, .int (nI j2))] := hl
  show W p l e ({ frames := 3, cells := 0, slots := 0, locals := 75 } : Room) s m ([.ref (ad 57), .int (nI j), .int (nI j2)]).toArray below meth c s.heap [] 0 0 (MQ below (vp_Si (fun r => r = nI (apartN (S.2.1 j).2.2.1 (S.2.1 j2).2.2.1))) ([.ref (ad 57), .int (nI j), .int (nI j2)]).toArray s 0 0 (fun _ => False)) (F0 m 0 ls [])
  have hn := (hI.2 j (by omega)).1.1
  refine lv_aload_n hx hb dX4_apart_0 rfl (lv_at hl 0 rfl) ?_
  refine lv_iload_n hx hb dX4_apart_1 rfl (lv_at hl 1 rfl) ?_
  refine va_csr (va_Run.run (va_runV (As := [.int (nI j)]) (rest := []) ⟨hx, hb, hml, hown, hts⟩ (m_X4_orderAt l dC dI ad S j (by omega)) (cwV 1 hts gX4_apart_X4_orderAt rfl rfl rfl hdX4_orderAt_1 ⟨Nat.le_of_ble_eq_true rfl, Nat.le_of_ble_eq_true rfl⟩) (hX.preTop 57 6 (by decide) (by decide) rfl rfl) rfl rfl hl.1 rfl (lv_room (Nat.le_of_ble_eq_true rfl)) dX4_apart_2 ⟨Nat.le_of_ble_eq_true rfl, Nat.le_of_ble_eq_true rfl⟩)) (fun k_ hk_ => ?_)
  rw [hk_]
  refine lv_astore_n (lv' := [(3, .ref (ad (24 + 5 * j))), (0, .ref (ad 57)), (1, .int (nI j)), (2, .int (nI j2))]) hx hb dX4_apart_5 rfl hl (by decide) rfl (fun ls hl => ?_)
  refine lv_aload_n hx hb dX4_apart_6 rfl (lv_at hl 0 rfl) ?_
  refine lv_aload_n hx hb dX4_apart_7 rfl (lv_at hl 1 rfl) ?_
  refine lv_iload_n hx hb dX4_apart_8 rfl (lv_at hl 3 rfl) ?_
  refine va_csr (va_Run.run (va_runV (As := [.int (nI j2)]) (rest := [.ref (ad (24 + 5 * j))]) ⟨hx, hb, hml, hown, hts⟩ (m_X4_orderAt l dC dI ad S j2 (by omega)) (cwV 1 hts gX4_apart_X4_orderAt rfl rfl rfl hdX4_orderAt_1 ⟨Nat.le_of_ble_eq_true rfl, Nat.le_of_ble_eq_true rfl⟩) (hX.preTop 57 6 (by decide) (by decide) rfl rfl) rfl rfl hl.1 rfl (lv_room (Nat.le_of_ble_eq_true rfl)) dX4_apart_9 ⟨Nat.le_of_ble_eq_true rfl, Nat.le_of_ble_eq_true rfl⟩)) (fun k_ hk_ => ?_)
  rw [hk_]
  refine kx_cr (v := nI (apartN (S.2.1 j).2.2.1 (S.2.1 j2).2.2.1)) (va_runS (As := [.ref (ad (24 + 5 * j)), .ref (ad (24 + 5 * j2))]) (rest := []) ⟨hx, hb, hml, hown, hts⟩ (m_X4_pairsApart l dC dI ad S j j2 (by omega) (by omega) (hI.2 j (by omega)) (hI.2 j2 (by omega))) (va_cwS 2 hts gX4_apart_X4_pairsApart rfl rfl rfl hdX4_pairsApart_2.2 ⟨Nat.le_of_ble_eq_true rfl, Nat.le_of_ble_eq_true rfl⟩) hX.preS rfl rfl hl.1 rfl (lv_room (Nat.le_of_ble_eq_true rfl)) dX4_apart_12 ⟨Nat.le_of_ble_eq_true rfl, Nat.le_of_ble_eq_true rfl⟩) (fun _ h => h) ?_
  exact W.iret (v := nI (apartN (S.2.1 j).2.2.1 (S.2.1 j2).2.2.1)) hx hb hr (fun t9 ht9 hW9 => ⟨_, rfl, rfl, ht9⟩) (fun _ h => nomatch h) dX4_apart_15
set_option maxHeartbeats 4000000 in
set_option maxRecDepth 100000 in
theorem m_X4_classes (l : Launch) (dC : Nat → ClassId) (dI : Nat → Nat → Nat) (ad : Nat → Nat) (S : XS) (j : Nat) (hj : j < 4) (hI : InvX S) : Met l yX4_classes wsX4_classes ({ frames := 1, cells := 0, slots := 0, locals := 22 } : Room) (va_Pc [.ref (ad 57), .int (nI j)] (PX dC dI ad S)) (vp_Si (fun r => r = nI (S.2.1 j).2.2.2.2.2)) 0 0 (fun _ => False) := by
  refine Met.ofW (cc := cX4_classes) (maxL := 2) (ret := (some .int)) pl_X4 rfl ?_
  intro p e s m args below meth c s₁ B hml hv
  obtain ⟨rfl, hPX⟩ := hv
  have hx := B.exec
  have hb := B.bytes
  have hr := B.returns
  have hts := atoms_spec (ws := wsX4_classes) B.pre
  have hown : s.vm.findClass RX4 = some m.cls := findClass_of_methodNamed B.named
  have hlocks := B.notSynchronized
  have hX := WX.of hPX
  have hl := lv_entry ([.ref (ad 57), .int (nI j)]) (n := 2) (Nat.le_of_ble_eq_true rfl)
  rw [lg_entry_eq]
  generalize (lg_sl ([.ref (ad 57), .int (nI j)]) ++ List.replicate (2 - (lg_sl ([.ref (ad 57), .int (nI j)])).length) Slot.unset).toArray = ls at hl ⊢
  have hl : lv_has ls 2 [(0, .ref (ad 57)), (1, .int (nI j))] := hl
  show W p l e ({ frames := 1, cells := 0, slots := 0, locals := 22 } : Room) s m ([.ref (ad 57), .int (nI j)]).toArray below meth c s.heap [] 0 0 (MQ below (vp_Si (fun r => r = nI (S.2.1 j).2.2.2.2.2)) ([.ref (ad 57), .int (nI j)]).toArray s 0 0 (fun _ => False)) (F0 m 0 ls [])
  have hn := (hI.2 j (by omega)).1.1
  refine lv_aload_n hx hb dX4_classes_0 rfl (lv_at hl 0 rfl) ?_
  refine lv_iload_n hx hb dX4_classes_1 rfl (lv_at hl 1 rfl) ?_
  refine va_csr (va_Run.run (va_runV (As := [.int (nI j)]) (rest := []) ⟨hx, hb, hml, hown, hts⟩ (m_X4_orderAt l dC dI ad S j (by omega)) (cwV 1 hts gX4_classes_X4_orderAt rfl rfl rfl hdX4_orderAt_1 ⟨Nat.le_of_ble_eq_true rfl, Nat.le_of_ble_eq_true rfl⟩) (hX.preTop 57 6 (by decide) (by decide) rfl rfl) rfl rfl hl.1 rfl (lv_room (Nat.le_of_ble_eq_true rfl)) dX4_classes_2 ⟨Nat.le_of_ble_eq_true rfl, Nat.le_of_ble_eq_true rfl⟩)) (fun k_ hk_ => ?_)
  rw [hk_]
  refine kx_cr (v := nI ((S.2.1 j).2.2.2.2.2)) (va_runV (As := []) (rest := []) ⟨hx, hb, hml, hown, hts⟩ (m_X1_classCount l dC dI ad S j  (by omega)) (cwV 0 hts gX4_classes_X1_classCount rfl rfl rfl hdX1_classCount_0 ⟨Nat.le_of_ble_eq_true rfl, Nat.le_of_ble_eq_true rfl⟩) (hX.preOrd (by omega)) rfl rfl hl.1 rfl (lv_room (Nat.le_of_ble_eq_true rfl)) dX4_classes_5 ⟨Nat.le_of_ble_eq_true rfl, Nat.le_of_ble_eq_true rfl⟩) (fun _ h => h) ?_
  exact W.iret (v := nI ((S.2.1 j).2.2.2.2.2)) hx hb hr (fun t9 ht9 hW9 => ⟨_, rfl, rfl, ht9⟩) (fun _ h => nomatch h) dX4_classes_8
set_option maxHeartbeats 4000000 in
set_option maxRecDepth 100000 in
theorem m_X4_rank (l : Launch) (dC : Nat → ClassId) (dI : Nat → Nat → Nat) (ad : Nat → Nat) (S : XS) (j : Nat) (v : Nat) (hj : j < 4) (hv : v < 16) (hI : InvX S) : Met l yX4_rank wsX4_rank ({ frames := 2, cells := 0, slots := 0, locals := 41 } : Room) (va_Pc [.ref (ad 57), .int (nI j), .int (nI v)] (PX dC dI ad S)) (vp_Si (fun r => r = nI ((S.2.1 j).2.2.2.1 v))) 0 0 (fun _ => False) := by
  refine Met.ofW (cc := cX4_rank) (maxL := 4) (ret := (some .int)) pl_X4 rfl ?_
  intro p e s m args below meth c s₁ B hml hv
  obtain ⟨rfl, hPX⟩ := hv
  have hx := B.exec
  have hb := B.bytes
  have hr := B.returns
  have hts := atoms_spec (ws := wsX4_rank) B.pre
  have hown : s.vm.findClass RX4 = some m.cls := findClass_of_methodNamed B.named
  have hlocks := B.notSynchronized
  have hX := WX.of hPX
  have hl := lv_entry ([.ref (ad 57), .int (nI j), .int (nI v)]) (n := 4) (Nat.le_of_ble_eq_true rfl)
  rw [lg_entry_eq]
  generalize (lg_sl ([.ref (ad 57), .int (nI j), .int (nI v)]) ++ List.replicate (4 - (lg_sl ([.ref (ad 57), .int (nI j), .int (nI v)])).length) Slot.unset).toArray = ls at hl ⊢
  have hl : lv_has ls 4 [(0, .ref (ad 57)), (1, .int (nI j)), (2, .int (nI v))] := hl
  show W p l e ({ frames := 2, cells := 0, slots := 0, locals := 41 } : Room) s m ([.ref (ad 57), .int (nI j), .int (nI v)]).toArray below meth c s.heap [] 0 0 (MQ below (vp_Si (fun r => r = nI ((S.2.1 j).2.2.2.1 v))) ([.ref (ad 57), .int (nI j), .int (nI v)]).toArray s 0 0 (fun _ => False)) (F0 m 0 ls [])
  have hn := (hI.2 j (by omega)).1.1
  refine lv_aload_n hx hb dX4_rank_0 rfl (lv_at hl 0 rfl) ?_
  refine lv_iload_n hx hb dX4_rank_1 rfl (lv_at hl 1 rfl) ?_
  refine va_csr (va_Run.run (va_runV (As := [.int (nI j)]) (rest := []) ⟨hx, hb, hml, hown, hts⟩ (m_X4_orderAt l dC dI ad S j (by omega)) (cwV 1 hts gX4_rank_X4_orderAt rfl rfl rfl hdX4_orderAt_1 ⟨Nat.le_of_ble_eq_true rfl, Nat.le_of_ble_eq_true rfl⟩) (hX.preTop 57 6 (by decide) (by decide) rfl rfl) rfl rfl hl.1 rfl (lv_room (Nat.le_of_ble_eq_true rfl)) dX4_rank_2 ⟨Nat.le_of_ble_eq_true rfl, Nat.le_of_ble_eq_true rfl⟩)) (fun k_ hk_ => ?_)
  rw [hk_]
  refine lv_astore_n (lv' := [(3, .ref (ad (24 + 5 * j))), (0, .ref (ad 57)), (1, .int (nI j)), (2, .int (nI v))]) hx hb dX4_rank_5 rfl hl (by decide) rfl (fun ls hl => ?_)
  refine lv_iload_n hx hb dX4_rank_6 rfl (lv_at hl 3 rfl) ?_
  refine va_csv (va_Run.run (va_runS (As := [.int (nI v)]) (rest := []) ⟨hx, hb, hml, hown, hts⟩ (m_X4_demandValue l dC dI ad S v (by omega)) (va_cwS 1 hts gX4_rank_X4_demandValue rfl rfl rfl hdX4_demandValue_1.2 ⟨Nat.le_of_ble_eq_true rfl, Nat.le_of_ble_eq_true rfl⟩) hX.preS rfl rfl hl.1 rfl (lv_room (Nat.le_of_ble_eq_true rfl)) dX4_rank_7 ⟨Nat.le_of_ble_eq_true rfl, Nat.le_of_ble_eq_true rfl⟩)) (fun _ => ?_)
  refine lv_aload_n hx hb dX4_rank_10 rfl (lv_at hl 0 rfl) ?_
  refine lv_iload_n hx hb dX4_rank_11 rfl (lv_at hl 3 rfl) ?_
  refine kx_cr (v := nI (((S.2.1 j).2.2.2.1) v)) (va_runV (As := [.int (nI v)]) (rest := []) ⟨hx, hb, hml, hown, hts⟩ (m_X1_rankOf l dC dI ad S j v (by omega) (by omega)) (cwV 1 hts gX4_rank_X1_rankOf rfl rfl rfl hdX1_rankOf_1 ⟨Nat.le_of_ble_eq_true rfl, Nat.le_of_ble_eq_true rfl⟩) (hX.preOrd (by omega)) rfl rfl hl.1 rfl (lv_room (Nat.le_of_ble_eq_true rfl)) dX4_rank_12 ⟨Nat.le_of_ble_eq_true rfl, Nat.le_of_ble_eq_true rfl⟩) (fun _ h => h) ?_
  exact W.iret (v := nI (((S.2.1 j).2.2.2.1) v)) hx hb hr (fun t9 ht9 hW9 => ⟨_, rfl, rfl, ht9⟩) (fun _ h => nomatch h) dX4_rank_15
set_option maxHeartbeats 4000000 in
set_option maxRecDepth 100000 in
theorem m_X4_keyOf (l : Launch) (dC : Nat → ClassId) (dI : Nat → Nat → Nat) (ad : Nat → Nat) (S : XS) (k : Nat) (v : Nat) (hk : k ≤ 7) (hv : v < 16) : Met l yX4_keyOf wsX4_keyOf ({ frames := 2, cells := 0, slots := 0, locals := 41 } : Room) (va_Pc [.ref (ad 57), .int (nI k), .int (nI v)] (PX dC dI ad S)) (vp_Si (fun r => r = nI (numK k v))) 0 0 (fun _ => False) := by
  refine Met.ofW (cc := cX4_keyOf) (maxL := 3) (ret := (some .int)) pl_X4 rfl ?_
  intro p e s m args below meth c s₁ B hml hv
  obtain ⟨rfl, hPX⟩ := hv
  have hx := B.exec
  have hb := B.bytes
  have hr := B.returns
  have hts := atoms_spec (ws := wsX4_keyOf) B.pre
  have hown : s.vm.findClass RX4 = some m.cls := findClass_of_methodNamed B.named
  have hlocks := B.notSynchronized
  have hX := WX.of hPX
  have hl := lv_entry ([.ref (ad 57), .int (nI k), .int (nI v)]) (n := 3) (Nat.le_of_ble_eq_true rfl)
  rw [lg_entry_eq]
  generalize (lg_sl ([.ref (ad 57), .int (nI k), .int (nI v)]) ++ List.replicate (3 - (lg_sl ([.ref (ad 57), .int (nI k), .int (nI v)])).length) Slot.unset).toArray = ls at hl ⊢
  have hl : lv_has ls 3 [(0, .ref (ad 57)), (1, .int (nI k)), (2, .int (nI v))] := hl
  show W p l e ({ frames := 2, cells := 0, slots := 0, locals := 41 } : Room) s m ([.ref (ad 57), .int (nI k), .int (nI v)]).toArray below meth c s.heap [] 0 0 (MQ below (vp_Si (fun r => r = nI (numK k v))) ([.ref (ad 57), .int (nI k), .int (nI v)]).toArray s 0 0 (fun _ => False)) (F0 m 0 ls [])
  refine lv_iload_n hx hb dX4_keyOf_0 rfl (lv_at hl 1 rfl) ?_
  refine lv_bipush (v := nI 7) hx hb dX4_keyOf_1 (by decide) ?_
  refine va_csv (va_Run.run (va_runS (As := [.int (nI k), .int (nI 7)]) (rest := []) ⟨hx, hb, hml, hown, hts⟩ (m_X4_demandWithin l dC dI ad S k 7 (by omega) (by omega)) (va_cwS 2 hts gX4_keyOf_X4_demandWithin rfl rfl rfl hdX4_demandWithin_2.2 ⟨Nat.le_of_ble_eq_true rfl, Nat.le_of_ble_eq_true rfl⟩) hX.preS rfl rfl hl.1 rfl (lv_room (Nat.le_of_ble_eq_true rfl)) dX4_keyOf_3 ⟨Nat.le_of_ble_eq_true rfl, Nat.le_of_ble_eq_true rfl⟩)) (fun _ => ?_)
  refine lv_iload_n hx hb dX4_keyOf_6 rfl (lv_at hl 2 rfl) ?_
  refine va_csv (va_Run.run (va_runS (As := [.int (nI v)]) (rest := []) ⟨hx, hb, hml, hown, hts⟩ (m_X4_demandValue l dC dI ad S v (by omega)) (va_cwS 1 hts gX4_keyOf_X4_demandValue rfl rfl rfl hdX4_demandValue_1.2 ⟨Nat.le_of_ble_eq_true rfl, Nat.le_of_ble_eq_true rfl⟩) hX.preS rfl rfl hl.1 rfl (lv_room (Nat.le_of_ble_eq_true rfl)) dX4_keyOf_7 ⟨Nat.le_of_ble_eq_true rfl, Nat.le_of_ble_eq_true rfl⟩)) (fun _ => ?_)
  refine lv_iload_n hx hb dX4_keyOf_10 rfl (lv_at hl 1 rfl) ?_
  refine lv_iload_n hx hb dX4_keyOf_11 rfl (lv_at hl 2 rfl) ?_
  refine kx_cr (v := nI (numK k v)) (va_runS (As := [.int (nI k), .int (nI v)]) (rest := []) ⟨hx, hb, hml, hown, hts⟩ (m_X1_numberBy l dC dI ad S k v (by omega) (by omega)) (va_cwS 2 hts gX4_keyOf_X1_numberBy rfl rfl rfl hdX1_numberBy_2.2 ⟨Nat.le_of_ble_eq_true rfl, Nat.le_of_ble_eq_true rfl⟩) hX.preS rfl rfl hl.1 rfl (lv_room (Nat.le_of_ble_eq_true rfl)) dX4_keyOf_12 ⟨Nat.le_of_ble_eq_true rfl, Nat.le_of_ble_eq_true rfl⟩) (fun _ h => h) ?_
  exact W.iret (v := nI (numK k v)) hx hb hr (fun t9 ht9 hW9 => ⟨_, rfl, rfl, ht9⟩) (fun _ h => nomatch h) dX4_keyOf_15
set_option maxHeartbeats 4000000 in
set_option maxRecDepth 100000 in
theorem m_X4_house (l : Launch) (dC : Nat → ClassId) (dI : Nat → Nat → Nat) (ad : Nat → Nat) (S : XS) (k : Nat) (hk : k ≤ 4) (hI : InvX S) : Met l yX4_house wsX4_house ({ frames := 3, cells := 0, slots := 0, locals := 65 } : Room) (va_Pc [.ref (ad 57), .int (nI k)] (PX dC dI ad S)) (vp_Si (fun r => r = nI (countX S k))) 0 0 (fun _ => False) := by
  refine Met.ofW (cc := cX4_house) (maxL := 2) (ret := (some .int)) pl_X4 rfl ?_
  intro p e s m args below meth c s₁ B hml hv
  obtain ⟨rfl, hPX⟩ := hv
  have hx := B.exec
  have hb := B.bytes
  have hr := B.returns
  have hts := atoms_spec (ws := wsX4_house) B.pre
  have hown : s.vm.findClass RX4 = some m.cls := findClass_of_methodNamed B.named
  have hlocks := B.notSynchronized
  have hX := WX.of hPX
  have hl := lv_entry ([.ref (ad 57), .int (nI k)]) (n := 2) (Nat.le_of_ble_eq_true rfl)
  rw [lg_entry_eq]
  generalize (lg_sl ([.ref (ad 57), .int (nI k)]) ++ List.replicate (2 - (lg_sl ([.ref (ad 57), .int (nI k)])).length) Slot.unset).toArray = ls at hl ⊢
  have hl : lv_has ls 2 [(0, .ref (ad 57)), (1, .int (nI k))] := hl
  show W p l e ({ frames := 3, cells := 0, slots := 0, locals := 65 } : Room) s m ([.ref (ad 57), .int (nI k)]).toArray below meth c s.heap [] 0 0 (MQ below (vp_Si (fun r => r = nI (countX S k))) ([.ref (ad 57), .int (nI k)]).toArray s 0 0 (fun _ => False)) (F0 m 0 ls [])
  refine lv_iload_n hx hb dX4_house_0 rfl (lv_at hl 1 rfl) ?_
  refine lv_iconst (v := nI 4) hx hb dX4_house_1 (by decide) ?_
  refine va_csv (va_Run.run (va_runS (As := [.int (nI k), .int (nI 4)]) (rest := []) ⟨hx, hb, hml, hown, hts⟩ (m_X4_demandWithin l dC dI ad S k 4 (by omega) (by omega)) (va_cwS 2 hts gX4_house_X4_demandWithin rfl rfl rfl hdX4_demandWithin_2.2 ⟨Nat.le_of_ble_eq_true rfl, Nat.le_of_ble_eq_true rfl⟩) hX.preS rfl rfl hl.1 rfl (lv_room (Nat.le_of_ble_eq_true rfl)) dX4_house_2 ⟨Nat.le_of_ble_eq_true rfl, Nat.le_of_ble_eq_true rfl⟩)) (fun _ => ?_)
  refine lv_aload_n hx hb dX4_house_5 rfl (lv_at hl 0 rfl) ?_
  refine lv_iload_n hx hb dX4_house_6 rfl (lv_at hl 1 rfl) ?_
  refine kx_cr (v := nI (countX S k)) (va_runV (As := [.int (nI k)]) (rest := []) ⟨hx, hb, hml, hown, hts⟩ (m_X4_count l dC dI ad S k (by omega) hI) (cwV 1 hts gX4_house_X4_count rfl rfl rfl hdX4_count_1 ⟨Nat.le_of_ble_eq_true rfl, Nat.le_of_ble_eq_true rfl⟩) (hX.preTop 57 6 (by decide) (by decide) rfl rfl) rfl rfl hl.1 rfl (lv_room (Nat.le_of_ble_eq_true rfl)) dX4_house_7 ⟨Nat.le_of_ble_eq_true rfl, Nat.le_of_ble_eq_true rfl⟩) (fun _ h => h) ?_
  exact W.iret (v := nI (countX S k)) hx hb hr (fun t9 ht9 hW9 => ⟨_, rfl, rfl, ht9⟩) (fun _ h => nomatch h) dX4_house_10
