section
/-! the object's calls -/
def exI (o : Option Nat) (f : Nat → Nat) : Int32 := match o with
  | none => -1
  | some b => nI (f b)
def coarseD (o : OrdS) (k : Nat) (z : Bool) : Nat := classC (codeOf (va_up o.1 o.2.2.2.2.1 k) (va_up o.2.1 o.2.2.2.2.1 z) (o.2.2.2.2.1 + 1))
theorem fillV (f : Nat → Nat) (k2 k3 n a : Nat) : va_up (apn f (fun x => (k2 + x * k3) % 16) n a) (n + a) ((k2 + a * k3) % 16) = apn f (fun x => (k2 + x * k3) % 16) n (a + 1) := apn_up f (fun x => (k2 + x * k3) % 16) n a
theorem fillM (f : Nat → Nat) (p n a : Nat) : va_up (apn f (fun x => p + x) n a) (n + a) (p + a) = apn f (fun x => p + x) n (a + 1) := apn_up f (fun x => p + x) n a
set_option maxHeartbeats 4000000 in
set_option maxRecDepth 100000 in
theorem m_X4_put (l : Launch) (dC : Nat → ClassId) (dI : Nat → Nat → Nat) (ad : Nat → Nat) (S : XS) (i : Nat) (v : Nat) (hi : i < 3) (hv : v < 16) (hI : InvX S) : Met l yX4_put wsX4_put ({ frames := 3, cells := 0, slots := 0, locals := 71 } : Room) (va_Pc [.ref (ad 57), .int (nI i), .int (nI v)] (PX dC dI ad S)) (va_Qi (fun r S' => ((S.1 i).2.2 < 12 ∧ r = nI S.2.2.1 ∧ S' = placeT S i ((S.1 i).2.2) v) ∨ (12 ≤ (S.1 i).2.2 ∧ r = -9 ∧ S' = refT S)) (PX dC dI ad) (AX ad)) 0 0 (AX ad) := by
  refine Met.ofW (cc := cX4_put) (maxL := 4) (ret := (some .int)) pl_X4 rfl ?_
  intro p e s m args below meth c s₁ B hml hv
  obtain ⟨rfl, hPX⟩ := hv
  have hx := B.exec
  have hb := B.bytes
  have hr := B.returns
  have hts := atoms_spec (ws := wsX4_put) B.pre
  have hown : s.vm.findClass RX4 = some m.cls := findClass_of_methodNamed B.named
  have hlocks := B.notSynchronized
  have hX := WX.of hPX
  have hl := lv_entry ([.ref (ad 57), .int (nI i), .int (nI v)]) (n := 4) (Nat.le_of_ble_eq_true rfl)
  rw [lg_entry_eq]
  generalize (lg_sl ([.ref (ad 57), .int (nI i), .int (nI v)]) ++ List.replicate (4 - (lg_sl ([.ref (ad 57), .int (nI i), .int (nI v)])).length) Slot.unset).toArray = ls at hl ⊢
  have hl : lv_has ls 4 [(0, .ref (ad 57)), (1, .int (nI i)), (2, .int (nI v))] := hl
  show W p l e ({ frames := 3, cells := 0, slots := 0, locals := 71 } : Room) s m ([.ref (ad 57), .int (nI i), .int (nI v)]).toArray below meth c s.heap [] 0 0 (MQ below (va_Qi (fun r S' => ((S.1 i).2.2 < 12 ∧ r = nI S.2.2.1 ∧ S' = placeT S i ((S.1 i).2.2) v) ∨ (12 ≤ (S.1 i).2.2 ∧ r = -9 ∧ S' = refT S)) (PX dC dI ad) (AX ad)) ([.ref (ad 57), .int (nI i), .int (nI v)]).toArray s 0 0 (AX ad)) (F0 m 0 ls [])
  have hn := (hI.1 i (by omega)).1
  refine lv_aload_n hx hb dX4_put_0 rfl (lv_at hl 0 rfl) ?_
  refine lv_iload_n hx hb dX4_put_1 rfl (lv_at hl 1 rfl) ?_
  refine va_csr (va_Run.run (va_runV (As := [.int (nI i)]) (rest := []) ⟨hx, hb, hml, hown, hts⟩ (m_X4_rowAt l dC dI ad S i (by omega)) (cwV 1 hts gX4_put_X4_rowAt rfl rfl rfl hdX4_rowAt_1 ⟨Nat.le_of_ble_eq_true rfl, Nat.le_of_ble_eq_true rfl⟩) (hX.preTop 57 6 (by decide) (by decide) rfl rfl) rfl rfl hl.1 rfl (lv_room (Nat.le_of_ble_eq_true rfl)) dX4_put_2 ⟨Nat.le_of_ble_eq_true rfl, Nat.le_of_ble_eq_true rfl⟩)) (fun k_ hk_ => ?_)
  rw [hk_]
  refine lv_astore_n (lv' := [(3, .ref (ad (3 * i))), (0, .ref (ad 57)), (1, .int (nI i)), (2, .int (nI v))]) hx hb dX4_put_5 rfl hl (by decide) rfl (fun ls hl => ?_)
  refine lv_iload_n hx hb dX4_put_6 rfl (lv_at hl 3 rfl) ?_
  refine va_csv (va_Run.run (va_runS (As := [.int (nI v)]) (rest := []) ⟨hx, hb, hml, hown, hts⟩ (m_X4_demandValue l dC dI ad S v (by omega)) (va_cwS 1 hts gX4_put_X4_demandValue rfl rfl rfl hdX4_demandValue_1.2 ⟨Nat.le_of_ble_eq_true rfl, Nat.le_of_ble_eq_true rfl⟩) hX.preS rfl rfl hl.1 rfl (lv_room (Nat.le_of_ble_eq_true rfl)) dX4_put_7 ⟨Nat.le_of_ble_eq_true rfl, Nat.le_of_ble_eq_true rfl⟩)) (fun _ => ?_)
  refine lv_aload_n hx hb dX4_put_10 rfl (lv_at hl 1 rfl) ?_
  refine lv_aload_n hx hb dX4_put_11 rfl (lv_at hl 0 rfl) ?_
  refine lv_aload_n hx hb dX4_put_12 rfl (lv_at hl 0 rfl) ?_
  refine kx_cr (v := nI ((S.1 i).2.2)) (va_runV (As := []) (rest := [.ref (ad (3 * i)), .ref (ad 57)]) ⟨hx, hb, hml, hown, hts⟩ (m_X2_length l dC dI ad S i (by omega)) (cwV 0 hts gX4_put_X2_length rfl rfl rfl hdX2_length_0 ⟨Nat.le_of_ble_eq_true rfl, Nat.le_of_ble_eq_true rfl⟩) (hX.preRow (by omega)) rfl rfl hl.1 rfl (lv_room (Nat.le_of_ble_eq_true rfl)) dX4_put_13 ⟨Nat.le_of_ble_eq_true rfl, Nat.le_of_ble_eq_true rfl⟩) (fun _ h => h) ?_
  refine lv_iload_n hx hb dX4_put_16 rfl (lv_at hl 3 rfl) ?_
  refine kx_ci (va_runV (As := [.ref (ad (3 * i)), .int (nI ((S.1 i).2.2)), .int (nI v)]) (rest := []) ⟨hx, hb, hml, hown, hts⟩ (m_X4_placeNew l dC dI ad S i ((S.1 i).2.2) v (by omega) hI (by omega)) (cwV 3 hts gX4_put_X4_placeNew rfl rfl rfl hdX4_placeNew_3 ⟨Nat.le_of_ble_eq_true rfl, Nat.le_of_ble_eq_true rfl⟩) (hX.preTop 57 6 (by decide) (by decide) rfl rfl) rfl rfl hl.1 rfl (lv_room (Nat.le_of_ble_eq_true rfl)) dX4_put_17 ⟨Nat.le_of_ble_eq_true rfl, Nat.le_of_ble_eq_true rfl⟩) hX (fun _ h => h) (fun r_ S_1 H locs hw hX => ?_)
  exact W.iret (v := r_) hx hb hr (fun t9 ht9 hW9 => ⟨⟨_, S_1, rfl, hw, hX.P ht9 hW9⟩, hX.2.2.2.F ht9⟩) hX.2.2.2.2.2 dX4_put_20
set_option maxHeartbeats 4000000 in
set_option maxRecDepth 100000 in
theorem m_X4_putAt (l : Launch) (dC : Nat → ClassId) (dI : Nat → Nat → Nat) (ad : Nat → Nat) (S : XS) (i : Nat) (q : Nat) (v : Nat) (hi : i < 3) (hq : q ≤ (S.1 i).2.2) (hv : v < 16) (hI : InvX S) : Met l yX4_putAt wsX4_putAt ({ frames := 3, cells := 0, slots := 0, locals := 71 } : Room) (va_Pc [.ref (ad 57), .int (nI i), .int (nI q), .int (nI v)] (PX dC dI ad S)) (va_Qi (fun r S' => ((S.1 i).2.2 < 12 ∧ r = nI S.2.2.1 ∧ S' = placeT S i q v) ∨ (12 ≤ (S.1 i).2.2 ∧ r = -9 ∧ S' = refT S)) (PX dC dI ad) (AX ad)) 0 0 (AX ad) := by
  refine Met.ofW (cc := cX4_putAt) (maxL := 5) (ret := (some .int)) pl_X4 rfl ?_
  intro p e s m args below meth c s₁ B hml hv
  obtain ⟨rfl, hPX⟩ := hv
  have hx := B.exec
  have hb := B.bytes
  have hr := B.returns
  have hts := atoms_spec (ws := wsX4_putAt) B.pre
  have hown : s.vm.findClass RX4 = some m.cls := findClass_of_methodNamed B.named
  have hlocks := B.notSynchronized
  have hX := WX.of hPX
  have hl := lv_entry ([.ref (ad 57), .int (nI i), .int (nI q), .int (nI v)]) (n := 5) (Nat.le_of_ble_eq_true rfl)
  rw [lg_entry_eq]
  generalize (lg_sl ([.ref (ad 57), .int (nI i), .int (nI q), .int (nI v)]) ++ List.replicate (5 - (lg_sl ([.ref (ad 57), .int (nI i), .int (nI q), .int (nI v)])).length) Slot.unset).toArray = ls at hl ⊢
  have hl : lv_has ls 5 [(0, .ref (ad 57)), (1, .int (nI i)), (2, .int (nI q)), (3, .int (nI v))] := hl
  show W p l e ({ frames := 3, cells := 0, slots := 0, locals := 71 } : Room) s m ([.ref (ad 57), .int (nI i), .int (nI q), .int (nI v)]).toArray below meth c s.heap [] 0 0 (MQ below (va_Qi (fun r S' => ((S.1 i).2.2 < 12 ∧ r = nI S.2.2.1 ∧ S' = placeT S i q v) ∨ (12 ≤ (S.1 i).2.2 ∧ r = -9 ∧ S' = refT S)) (PX dC dI ad) (AX ad)) ([.ref (ad 57), .int (nI i), .int (nI q), .int (nI v)]).toArray s 0 0 (AX ad)) (F0 m 0 ls [])
  have hn := (hI.1 i (by omega)).1
  refine lv_aload_n hx hb dX4_putAt_0 rfl (lv_at hl 0 rfl) ?_
  refine lv_iload_n hx hb dX4_putAt_1 rfl (lv_at hl 1 rfl) ?_
  refine va_csr (va_Run.run (va_runV (As := [.int (nI i)]) (rest := []) ⟨hx, hb, hml, hown, hts⟩ (m_X4_rowAt l dC dI ad S i (by omega)) (cwV 1 hts gX4_putAt_X4_rowAt rfl rfl rfl hdX4_rowAt_1 ⟨Nat.le_of_ble_eq_true rfl, Nat.le_of_ble_eq_true rfl⟩) (hX.preTop 57 6 (by decide) (by decide) rfl rfl) rfl rfl hl.1 rfl (lv_room (Nat.le_of_ble_eq_true rfl)) dX4_putAt_2 ⟨Nat.le_of_ble_eq_true rfl, Nat.le_of_ble_eq_true rfl⟩)) (fun k_ hk_ => ?_)
  rw [hk_]
  refine lv_astore (lv' := [(4, .ref (ad (3 * i))), (0, .ref (ad 57)), (1, .int (nI i)), (2, .int (nI q)), (3, .int (nI v))]) hx hb dX4_putAt_5 hl (by decide) rfl (fun ls hl => ?_)
  refine lv_aload hx hb dX4_putAt_7 (lv_at hl 0 rfl) ?_
  refine lv_iload_n hx hb dX4_putAt_9 rfl (lv_at hl 3 rfl) ?_
  refine va_csv (va_Run.run (va_runS (As := [.ref (ad (3 * i)), .int (nI q)]) (rest := []) ⟨hx, hb, hml, hown, hts⟩ (m_X4_demandGap l dC dI ad S i q (by omega) (by omega) (by omega)) (va_cwS 2 hts gX4_putAt_X4_demandGap rfl rfl rfl hdX4_demandGap_2.2 ⟨Nat.le_of_ble_eq_true rfl, Nat.le_of_ble_eq_true rfl⟩) hX.preS rfl rfl hl.1 rfl (lv_room (Nat.le_of_ble_eq_true rfl)) dX4_putAt_10 ⟨Nat.le_of_ble_eq_true rfl, Nat.le_of_ble_eq_true rfl⟩)) (fun _ => ?_)
  refine lv_iload_n hx hb dX4_putAt_13 rfl (lv_at hl 4 rfl) ?_
  refine va_csv (va_Run.run (va_runS (As := [.int (nI v)]) (rest := []) ⟨hx, hb, hml, hown, hts⟩ (m_X4_demandValue l dC dI ad S v (by omega)) (va_cwS 1 hts gX4_putAt_X4_demandValue rfl rfl rfl hdX4_demandValue_1.2 ⟨Nat.le_of_ble_eq_true rfl, Nat.le_of_ble_eq_true rfl⟩) hX.preS rfl rfl hl.1 rfl (lv_room (Nat.le_of_ble_eq_true rfl)) dX4_putAt_14 ⟨Nat.le_of_ble_eq_true rfl, Nat.le_of_ble_eq_true rfl⟩)) (fun _ => ?_)
  refine lv_aload_n hx hb dX4_putAt_17 rfl (lv_at hl 1 rfl) ?_
  refine lv_aload hx hb dX4_putAt_18 (lv_at hl 0 rfl) ?_
  refine lv_iload_n hx hb dX4_putAt_20 rfl (lv_at hl 3 rfl) ?_
  refine lv_iload_n hx hb dX4_putAt_21 rfl (lv_at hl 4 rfl) ?_
  refine kx_ci (va_runV (As := [.ref (ad (3 * i)), .int (nI q), .int (nI v)]) (rest := []) ⟨hx, hb, hml, hown, hts⟩ (m_X4_placeNew l dC dI ad S i q v (by omega) hI (by omega)) (cwV 3 hts gX4_putAt_X4_placeNew rfl rfl rfl hdX4_placeNew_3 ⟨Nat.le_of_ble_eq_true rfl, Nat.le_of_ble_eq_true rfl⟩) (hX.preTop 57 6 (by decide) (by decide) rfl rfl) rfl rfl hl.1 rfl (lv_room (Nat.le_of_ble_eq_true rfl)) dX4_putAt_22 ⟨Nat.le_of_ble_eq_true rfl, Nat.le_of_ble_eq_true rfl⟩) hX (fun _ h => h) (fun r_ S_1 H locs hw hX => ?_)
  exact W.iret (v := r_) hx hb hr (fun t9 ht9 hW9 => ⟨⟨_, S_1, rfl, hw, hX.P ht9 hW9⟩, hX.2.2.2.F ht9⟩) hX.2.2.2.2.2 dX4_putAt_25
set_option maxHeartbeats 4000000 in
set_option maxRecDepth 100000 in
theorem m_X4_fill (l : Launch) (dC : Nat → ClassId) (dI : Nat → Nat → Nat) (ad : Nat → Nat) (S : XS) (i : Nat) (k : Nat) (k2 : Nat) (k3 : Nat) (hi : i < 3) (hk : k ≤ 12) (hk2 : k2 ≤ 99) (hk3 : k3 ≤ 99) (hI : InvX S) : Met l yX4_fill wsX4_fill ({ frames := 1, cells := 0, slots := 0, locals := 22 } : Room) (va_Pc [.ref (ad 57), .int (nI i), .int (nI k), .int (nI k2), .int (nI k3)] (PX dC dI ad S)) (va_Qi (fun r S' => ((S.1 i).2.2 + k ≤ 12 ∧ r = nI ((S.1 i).2.2 + k) ∧ S' = xR (xN S (S.2.2.1 + k, S.2.2.2.1, S.2.2.2.2)) i (apn (S.1 i).1 (fun x => (k2 + x * k3) % 16) (S.1 i).2.2 k, apn (S.1 i).2.1 (fun x => S.2.2.1 + x) (S.1 i).2.2 k, (S.1 i).2.2 + k)) ∨ (12 < (S.1 i).2.2 + k ∧ r = -9 ∧ S' = refT S)) (PX dC dI ad) (AX ad)) 0 0 (AX ad) := by
  refine Met.ofW (cc := cX4_fill) (maxL := 7) (ret := (some .int)) pl_X4 rfl ?_
  intro p e s m args below meth c s₁ B hml hv
  obtain ⟨rfl, hPX⟩ := hv
  have hx := B.exec
  have hb := B.bytes
  have hr := B.returns
  have hts := atoms_spec (ws := wsX4_fill) B.pre
  have hown : s.vm.findClass RX4 = some m.cls := findClass_of_methodNamed B.named
  have hlocks := B.notSynchronized
  have hX := WX.of hPX
  have hl := lv_entry ([.ref (ad 57), .int (nI i), .int (nI k), .int (nI k2), .int (nI k3)]) (n := 7) (Nat.le_of_ble_eq_true rfl)
  rw [lg_entry_eq]
  generalize (lg_sl ([.ref (ad 57), .int (nI i), .int (nI k), .int (nI k2), .int (nI k3)]) ++ List.replicate (7 - (lg_sl ([.ref (ad 57), .int (nI i), .int (nI k), .int (nI k2), .int (nI k3)])).length) Slot.unset).toArray = ls at hl ⊢
  have hl : lv_has ls 7 [(0, .ref (ad 57)), (1, .int (nI i)), (2, .int (nI k)), (3, .int (nI k2)), (4, .int (nI k3))] := hl
  show W p l e ({ frames := 1, cells := 0, slots := 0, locals := 22 } : Room) s m ([.ref (ad 57), .int (nI i), .int (nI k), .int (nI k2), .int (nI k3)]).toArray below meth c s.heap [] 0 0 (MQ below (va_Qi (fun r S' => ((S.1 i).2.2 + k ≤ 12 ∧ r = nI ((S.1 i).2.2 + k) ∧ S' = xR (xN S (S.2.2.1 + k, S.2.2.2.1, S.2.2.2.2)) i (apn (S.1 i).1 (fun x => (k2 + x * k3) % 16) (S.1 i).2.2 k, apn (S.1 i).2.1 (fun x => S.2.2.1 + x) (S.1 i).2.2 k, (S.1 i).2.2 + k)) ∨ (12 < (S.1 i).2.2 + k ∧ r = -9 ∧ S' = refT S)) (PX dC dI ad) (AX ad)) ([.ref (ad 57), .int (nI i), .int (nI k), .int (nI k2), .int (nI k3)]).toArray s 0 0 (AX ad)) (F0 m 0 ls [])
  have hn := (hI.1 i (by omega)).1
  refine lv_aload_n hx hb dX4_fill_0 rfl (lv_at hl 0 rfl) ?_
  refine lv_iload_n hx hb dX4_fill_1 rfl (lv_at hl 1 rfl) ?_
  refine va_csr (va_Run.run (va_runV (As := [.int (nI i)]) (rest := []) ⟨hx, hb, hml, hown, hts⟩ (m_X4_rowAt l dC dI ad S i (by omega)) (cwV 1 hts gX4_fill_X4_rowAt rfl rfl rfl hdX4_rowAt_1 ⟨Nat.le_of_ble_eq_true rfl, Nat.le_of_ble_eq_true rfl⟩) (hX.preTop 57 6 (by decide) (by decide) rfl rfl) rfl rfl hl.1 rfl (lv_room (Nat.le_of_ble_eq_true rfl)) dX4_fill_2 ⟨Nat.le_of_ble_eq_true rfl, Nat.le_of_ble_eq_true rfl⟩)) (fun k_ hk_ => ?_)
  rw [hk_]
  refine lv_astore (lv' := [(5, .ref (ad (3 * i))), (0, .ref (ad 57)), (1, .int (nI i)), (2, .int (nI k)), (3, .int (nI k2)), (4, .int (nI k3))]) hx hb dX4_fill_5 hl (by decide) rfl (fun ls hl => ?_)
  refine lv_iload_n hx hb dX4_fill_7 rfl (lv_at hl 3 rfl) ?_
  refine lv_bipush (v := nI 12) hx hb dX4_fill_8 (by decide) ?_
  refine va_csv (va_Run.run (va_runS (As := [.int (nI k), .int (nI 12)]) (rest := []) ⟨hx, hb, hml, hown, hts⟩ (m_X4_demandWithin l dC dI ad S k 12 (by omega) (by omega)) (va_cwS 2 hts gX4_fill_X4_demandWithin rfl rfl rfl hdX4_demandWithin_2.2 ⟨Nat.le_of_ble_eq_true rfl, Nat.le_of_ble_eq_true rfl⟩) hX.preS rfl rfl hl.1 rfl (lv_room (Nat.le_of_ble_eq_true rfl)) dX4_fill_10 ⟨Nat.le_of_ble_eq_true rfl, Nat.le_of_ble_eq_true rfl⟩)) (fun _ => ?_)
  refine lv_iload_n hx hb dX4_fill_13 rfl (lv_at hl 4 rfl) ?_
  refine lv_bipush (v := nI 99) hx hb dX4_fill_14 (by decide) ?_
  refine va_csv (va_Run.run (va_runS (As := [.int (nI k2), .int (nI 99)]) (rest := []) ⟨hx, hb, hml, hown, hts⟩ (m_X4_demandWithin l dC dI ad S k2 99 (by omega) (by omega)) (va_cwS 2 hts gX4_fill_X4_demandWithin rfl rfl rfl hdX4_demandWithin_2.2 ⟨Nat.le_of_ble_eq_true rfl, Nat.le_of_ble_eq_true rfl⟩) hX.preS rfl rfl hl.1 rfl (lv_room (Nat.le_of_ble_eq_true rfl)) dX4_fill_16 ⟨Nat.le_of_ble_eq_true rfl, Nat.le_of_ble_eq_true rfl⟩)) (fun _ => ?_)
  refine lv_iload hx hb dX4_fill_19 (lv_at hl 5 rfl) ?_
  refine lv_bipush (v := nI 99) hx hb dX4_fill_21 (by decide) ?_
  refine va_csv (va_Run.run (va_runS (As := [.int (nI k3), .int (nI 99)]) (rest := []) ⟨hx, hb, hml, hown, hts⟩ (m_X4_demandWithin l dC dI ad S k3 99 (by omega) (by omega)) (va_cwS 2 hts gX4_fill_X4_demandWithin rfl rfl rfl hdX4_demandWithin_2.2 ⟨Nat.le_of_ble_eq_true rfl, Nat.le_of_ble_eq_true rfl⟩) hX.preS rfl rfl hl.1 rfl (lv_room (Nat.le_of_ble_eq_true rfl)) dX4_fill_23 ⟨Nat.le_of_ble_eq_true rfl, Nat.le_of_ble_eq_true rfl⟩)) (fun _ => ?_)
  refine lv_aload hx hb dX4_fill_26 (lv_at hl 0 rfl) ?_
  refine kx_cr (v := nI ((S.1 i).2.2)) (va_runV (As := []) (rest := []) ⟨hx, hb, hml, hown, hts⟩ (m_X2_length l dC dI ad S i (by omega)) (cwV 0 hts gX4_fill_X2_length rfl rfl rfl hdX2_length_0 ⟨Nat.le_of_ble_eq_true rfl, Nat.le_of_ble_eq_true rfl⟩) (hX.preRow (by omega)) rfl rfl hl.1 rfl (lv_room (Nat.le_of_ble_eq_true rfl)) dX4_fill_28 ⟨Nat.le_of_ble_eq_true rfl, Nat.le_of_ble_eq_true rfl⟩) (fun _ h => h) ?_
  refine lv_iload_n hx hb dX4_fill_31 rfl (lv_at hl 3 rfl) ?_
  refine kn_iadd hx hb dX4_fill_32 ?_
  refine lv_bipush (v := nI 12) hx hb dX4_fill_33 (by decide) ?_
  refine kn_icmp_le (tgt := 43) hx hb (by omega) (by omega) dX4_fill_35 (by decide) (fun k_1 => ?_) (fun k_1 => ?_)
  · skip
    have hc := k_1
    refine lv_iconst (v := nI 0) hx hb dX4_fill_43 (by decide) ?_
    refine lv_istore (lv' := [(6, .int (nI 0)), (5, .ref (ad (3 * i))), (0, .ref (ad 57)), (1, .int (nI i)), (2, .int (nI k)), (3, .int (nI k2)), (4, .int (nI k3))]) hx hb dX4_fill_44 hl (by decide) rfl (fun ls hl => ?_)
    have loop46 : ∀ (fuel : Nat) (a : Nat) (ha : a ≤ k) (H : Heap) (locs : List Loc), k - a < fuel → WX dC dI ad (xR (xN S (S.2.2.1 + a, S.2.2.2.1, S.2.2.2.2)) i (apn (S.1 i).1 (fun x => (k2 + x * k3) % 16) (S.1 i).2.2 a, apn (S.1 i).2.1 (fun x => S.2.2.1 + x) (S.1 i).2.2 a, (S.1 i).2.2 + a)) (AX ad) s H locs → ∀ ls : Array Slot, lv_has ls 7 [(0, .ref (ad 57)), (1, .int (nI i)), (2, .int (nI k)), (3, .int (nI k2)), (4, .int (nI k3)), (5, .ref (ad (3 * i))), (6, .int (nI a))] → W p l e ({ frames := 1, cells := 0, slots := 0, locals := 22 } : Room) s m ([.ref (ad 57), .int (nI i), .int (nI k), .int (nI k2), .int (nI k3)]).toArray below meth c H locs 0 0 (MQ below (va_Qi (fun r S' => ((S.1 i).2.2 + k ≤ 12 ∧ r = nI ((S.1 i).2.2 + k) ∧ S' = xR (xN S (S.2.2.1 + k, S.2.2.2.1, S.2.2.2.2)) i (apn (S.1 i).1 (fun x => (k2 + x * k3) % 16) (S.1 i).2.2 k, apn (S.1 i).2.1 (fun x => S.2.2.1 + x) (S.1 i).2.2 k, (S.1 i).2.2 + k)) ∨ (12 < (S.1 i).2.2 + k ∧ r = -9 ∧ S' = refT S)) (PX dC dI ad) (AX ad)) ([.ref (ad 57), .int (nI i), .int (nI k), .int (nI k2), .int (nI k3)]).toArray s 0 0 (AX ad)) (F0 m 46 ls []) := by
      intro fuel
      induction fuel with
      | zero => intro a ha H locs hf; exact absurd hf (Nat.not_lt_zero _)
      | succ fuel ih46 =>
        intro a ha H locs hf hX ls hl
        refine lv_iload hx hb dX4_fill_46 (lv_at hl 6 rfl) ?_
        refine lv_iload_n hx hb dX4_fill_48 rfl (lv_at hl 2 rfl) ?_
        refine kn_icmp_ge (tgt := 77) hx hb (by omega) (by omega) dX4_fill_49 (by decide) (fun k_2 => ?_) (fun k_2 => ?_)
        · skip
          refine lv_aload hx hb dX4_fill_77 (lv_at hl 5 rfl) ?_
          refine kx_cr (v := nI ((S.1 i).2.2 + a)) (va_runV (As := []) (rest := []) ⟨hx, hb, hml, hown, hts⟩ (m_X2_length l dC dI ad (xR (xN S (S.2.2.1 + a, S.2.2.2.1, S.2.2.2.2)) i (apn (S.1 i).1 (fun x => (k2 + x * k3) % 16) (S.1 i).2.2 a, apn (S.1 i).2.1 (fun x => S.2.2.1 + x) (S.1 i).2.2 a, (S.1 i).2.2 + a)) i (by omega)) (cwV 0 hts gX4_fill_X2_length rfl rfl rfl hdX2_length_0 ⟨Nat.le_of_ble_eq_true rfl, Nat.le_of_ble_eq_true rfl⟩) (hX.preRow (by omega)) rfl rfl hl.1 rfl (lv_room (Nat.le_of_ble_eq_true rfl)) dX4_fill_79 ⟨Nat.le_of_ble_eq_true rfl, Nat.le_of_ble_eq_true rfl⟩) (fun _ h => by rw [h, xR_row]) ?_
          exact W.iret (v := nI ((S.1 i).2.2 + a)) hx hb hr (fun t9 ht9 hW9 => ⟨⟨_, (xR (xN S (S.2.2.1 + a, S.2.2.2.1, S.2.2.2.2)) i (apn (S.1 i).1 (fun x => (k2 + x * k3) % 16) (S.1 i).2.2 a, apn (S.1 i).2.1 (fun x => S.2.2.1 + x) (S.1 i).2.2 a, (S.1 i).2.2 + a)), rfl, (Or.inl ⟨hc, by rw [show a = k by omega], by rw [show a = k by omega]⟩), hX.P ht9 hW9⟩, hX.2.2.2.F ht9⟩) hX.2.2.2.2.2 dX4_fill_82
        · skip
          refine lv_aload hx hb dX4_fill_52 (lv_at hl 5 rfl) ?_
          refine lv_iload_n hx hb dX4_fill_54 rfl (lv_at hl 3 rfl) ?_
          refine lv_iload hx hb dX4_fill_55 (lv_at hl 6 rfl) ?_
          refine lv_iload hx hb dX4_fill_57 (lv_at hl 4 rfl) ?_
          refine kn_imul hx hb dX4_fill_59 ?_
          refine kn_iadd hx hb dX4_fill_60 ?_
          refine lv_bipush (v := nI 16) hx hb dX4_fill_61 (by decide) ?_
          have hm9 : a * k3 ≤ 12 * 99 := Nat.mul_le_mul (by omega) hk3
          refine kn_irem hx hb (by omega) (by omega) (by omega) dX4_fill_63 ?_
          refine lv_aload_n hx hb dX4_fill_64 rfl (lv_at hl 0 rfl) ?_
          refine kx_ci (va_runV (As := []) (rest := [.int (nI ((k2 + (a * k3)) % 16)), .ref (ad (3 * i))]) ⟨hx, hb, hml, hown, hts⟩ (m_X4_nextMark l dC dI ad (xR (xN S (S.2.2.1 + a, S.2.2.2.1, S.2.2.2.2)) i (apn (S.1 i).1 (fun x => (k2 + x * k3) % 16) (S.1 i).2.2 a, apn (S.1 i).2.1 (fun x => S.2.2.1 + x) (S.1 i).2.2 a, (S.1 i).2.2 + a))) (cwV 0 hts gX4_fill_X4_nextMark rfl rfl rfl hdX4_nextMark_0 ⟨Nat.le_of_ble_eq_true rfl, Nat.le_of_ble_eq_true rfl⟩) (hX.preTop 57 6 (by decide) (by decide) rfl rfl) rfl rfl hl.1 rfl (lv_room (Nat.le_of_ble_eq_true rfl)) dX4_fill_65 ⟨Nat.le_of_ble_eq_true rfl, Nat.le_of_ble_eq_true rfl⟩) hX (fun _ h => h) (fun r_ S_ H locs hw hX => ?_)
          obtain ⟨rfl, rfl⟩ := hw
          refine kx_cv (va_runV (As := [.int (nI ((k2 + (a * k3)) % 16)), .int (nI (S.2.2.1 + a))]) (rest := []) ⟨hx, hb, hml, hown, hts⟩ (m_X2_append l dC dI ad (xR (xN S (S.2.2.1 + a + 1, S.2.2.2.1, S.2.2.2.2)) i (apn (S.1 i).1 (fun x => (k2 + x * k3) % 16) (S.1 i).2.2 a, apn (S.1 i).2.1 (fun x => S.2.2.1 + x) (S.1 i).2.2 a, (S.1 i).2.2 + a)) i ((k2 + (a * k3)) % 16) (S.2.2.1 + a) (by omega) (by rw [xR_row]; show (S.1 i).2.2 + a < 16; omega)) (cwV 2 hts gX4_fill_X2_append rfl rfl rfl hdX2_append_2 ⟨Nat.le_of_ble_eq_true rfl, Nat.le_of_ble_eq_true rfl⟩) (hX.preRow (by omega)) rfl rfl hl.1 rfl (lv_room (Nat.le_of_ble_eq_true rfl)) dX4_fill_68 ⟨Nat.le_of_ble_eq_true rfl, Nat.le_of_ble_eq_true rfl⟩) hX (fun _ h => h) (fun S_ H locs hw hX => ?_)
          rw [xR_row, xR_xR] at hw
          dsimp only at hw
          rw [fillV, fillM] at hw
          subst hw
          refine lv_iinc (v := nI (a + 1)) (lv' := [(6, .int (nI (a + 1))), (0, .ref (ad 57)), (1, .int (nI i)), (2, .int (nI k)), (3, .int (nI k2)), (4, .int (nI k3)), (5, .ref (ad (3 * i)))]) hx hb dX4_fill_71 hl (k := 6) rfl (nI_1 a) (by decide) rfl (fun ls hl => ?_)
          refine lv_goto (tgt := 46) hx hb dX4_fill_74 (by decide) ?_
          exact ih46  (a + 1) (by omega) _ _ (by omega) hX _ (lv_sub hl [1, 2, 3, 4, 5, 6, 0] rfl)
    exact loop46 (k + 1) 0 (by omega) _ _ (by omega) (WX.eqS (by rw [apn_0, apn_0]; exact (xR_self S i).symm) hX) _ (lv_sub hl [2, 3, 4, 5, 6, 1, 0] rfl)
  · skip
    have hc := k_1
    refine lv_aload_n hx hb dX4_fill_38 rfl (lv_at hl 1 rfl) ?_
    refine kx_ci (va_runV (As := []) (rest := []) ⟨hx, hb, hml, hown, hts⟩ (m_X4_refuse l dC dI ad S) (cwV 0 hts gX4_fill_X4_refuse rfl rfl rfl hdX4_refuse_0 ⟨Nat.le_of_ble_eq_true rfl, Nat.le_of_ble_eq_true rfl⟩) (hX.preTop 57 6 (by decide) (by decide) rfl rfl) rfl rfl hl.1 rfl (lv_room (Nat.le_of_ble_eq_true rfl)) dX4_fill_39 ⟨Nat.le_of_ble_eq_true rfl, Nat.le_of_ble_eq_true rfl⟩) hX (fun _ h => h) (fun r_ S_ H locs hw hX => ?_)
    obtain ⟨rfl, rfl⟩ := hw
    exact W.iret (v := (-9)) hx hb hr (fun t9 ht9 hW9 => ⟨⟨_, (xN S (S.2.2.1, S.2.2.2.1 + 1, S.2.2.2.2)), rfl, (Or.inr ⟨hc, rfl, rfl⟩), hX.P ht9 hW9⟩, hX.2.2.2.F ht9⟩) hX.2.2.2.2.2 dX4_fill_42
set_option maxHeartbeats 4000000 in
set_option maxRecDepth 100000 in
theorem m_X4_drop (l : Launch) (dC : Nat → ClassId) (dI : Nat → Nat → Nat) (ad : Nat → Nat) (S : XS) (i : Nat) (q : Nat) (hi : i < 3) (hq : q < (S.1 i).2.2) (hI : InvX S) : Met l yX4_drop wsX4_drop ({ frames := 2, cells := 0, slots := 0, locals := 45 } : Room) (va_Pc [.ref (ad 57), .int (nI i), .int (nI q)] (PX dC dI ad S)) (va_Qi (fun r S' => r = nI ((S.1 i).2.1 q) ∧ S' = xR S i (shl (S.1 i).1 q ((S.1 i).2.2 - 1), shl (S.1 i).2.1 q ((S.1 i).2.2 - 1), (S.1 i).2.2 - 1)) (PX dC dI ad) (AX ad)) 0 0 (AX ad) := by
  refine Met.ofW (cc := cX4_drop) (maxL := 5) (ret := (some .int)) pl_X4 rfl ?_
  intro p e s m args below meth c s₁ B hml hv
  obtain ⟨rfl, hPX⟩ := hv
  have hx := B.exec
  have hb := B.bytes
  have hr := B.returns
  have hts := atoms_spec (ws := wsX4_drop) B.pre
  have hown : s.vm.findClass RX4 = some m.cls := findClass_of_methodNamed B.named
  have hlocks := B.notSynchronized
  have hX := WX.of hPX
  have hl := lv_entry ([.ref (ad 57), .int (nI i), .int (nI q)]) (n := 5) (Nat.le_of_ble_eq_true rfl)
  rw [lg_entry_eq]
  generalize (lg_sl ([.ref (ad 57), .int (nI i), .int (nI q)]) ++ List.replicate (5 - (lg_sl ([.ref (ad 57), .int (nI i), .int (nI q)])).length) Slot.unset).toArray = ls at hl ⊢
  have hl : lv_has ls 5 [(0, .ref (ad 57)), (1, .int (nI i)), (2, .int (nI q))] := hl
  show W p l e ({ frames := 2, cells := 0, slots := 0, locals := 45 } : Room) s m ([.ref (ad 57), .int (nI i), .int (nI q)]).toArray below meth c s.heap [] 0 0 (MQ below (va_Qi (fun r S' => r = nI ((S.1 i).2.1 q) ∧ S' = xR S i (shl (S.1 i).1 q ((S.1 i).2.2 - 1), shl (S.1 i).2.1 q ((S.1 i).2.2 - 1), (S.1 i).2.2 - 1)) (PX dC dI ad) (AX ad)) ([.ref (ad 57), .int (nI i), .int (nI q)]).toArray s 0 0 (AX ad)) (F0 m 0 ls [])
  have hn := (hI.1 i (by omega)).1
  refine lv_aload_n hx hb dX4_drop_0 rfl (lv_at hl 0 rfl) ?_
  refine lv_iload_n hx hb dX4_drop_1 rfl (lv_at hl 1 rfl) ?_
  refine va_csr (va_Run.run (va_runV (As := [.int (nI i)]) (rest := []) ⟨hx, hb, hml, hown, hts⟩ (m_X4_rowAt l dC dI ad S i (by omega)) (cwV 1 hts gX4_drop_X4_rowAt rfl rfl rfl hdX4_rowAt_1 ⟨Nat.le_of_ble_eq_true rfl, Nat.le_of_ble_eq_true rfl⟩) (hX.preTop 57 6 (by decide) (by decide) rfl rfl) rfl rfl hl.1 rfl (lv_room (Nat.le_of_ble_eq_true rfl)) dX4_drop_2 ⟨Nat.le_of_ble_eq_true rfl, Nat.le_of_ble_eq_true rfl⟩)) (fun k_ hk_ => ?_)
  rw [hk_]
  refine lv_astore_n (lv' := [(3, .ref (ad (3 * i))), (0, .ref (ad 57)), (1, .int (nI i)), (2, .int (nI q))]) hx hb dX4_drop_5 rfl hl (by decide) rfl (fun ls hl => ?_)
  refine lv_aload_n hx hb dX4_drop_6 rfl (lv_at hl 0 rfl) ?_
  refine lv_iload_n hx hb dX4_drop_7 rfl (lv_at hl 3 rfl) ?_
  refine va_csv (va_Run.run (va_runS (As := [.ref (ad (3 * i)), .int (nI q)]) (rest := []) ⟨hx, hb, hml, hown, hts⟩ (m_X4_demandPlace l dC dI ad S i q (by omega) (by omega) (by omega)) (va_cwS 2 hts gX4_drop_X4_demandPlace rfl rfl rfl hdX4_demandPlace_2.2 ⟨Nat.le_of_ble_eq_true rfl, Nat.le_of_ble_eq_true rfl⟩) hX.preS rfl rfl hl.1 rfl (lv_room (Nat.le_of_ble_eq_true rfl)) dX4_drop_8 ⟨Nat.le_of_ble_eq_true rfl, Nat.le_of_ble_eq_true rfl⟩)) (fun _ => ?_)
  refine lv_aload_n hx hb dX4_drop_11 rfl (lv_at hl 0 rfl) ?_
  refine lv_iload_n hx hb dX4_drop_12 rfl (lv_at hl 3 rfl) ?_
  refine kx_cr (v := nI (((S.1 i).2.1) q)) (va_runV (As := [.int (nI q)]) (rest := []) ⟨hx, hb, hml, hown, hts⟩ (m_X2_markOn l dC dI ad S i q (by omega) (by omega)) (cwV 1 hts gX4_drop_X2_markOn rfl rfl rfl hdX2_markOn_1 ⟨Nat.le_of_ble_eq_true rfl, Nat.le_of_ble_eq_true rfl⟩) (hX.preRow (by omega)) rfl rfl hl.1 rfl (lv_room (Nat.le_of_ble_eq_true rfl)) dX4_drop_13 ⟨Nat.le_of_ble_eq_true rfl, Nat.le_of_ble_eq_true rfl⟩) (fun _ h => h) ?_
  refine lv_istore (lv' := [(4, .int (nI (((S.1 i).2.1) q))), (3, .ref (ad (3 * i))), (0, .ref (ad 57)), (1, .int (nI i)), (2, .int (nI q))]) hx hb dX4_drop_16 hl (by decide) rfl (fun ls hl => ?_)
  refine lv_aload_n hx hb dX4_drop_18 rfl (lv_at hl 1 rfl) ?_
  refine lv_iload_n hx hb dX4_drop_19 rfl (lv_at hl 4 rfl) ?_
  refine kx_cv (va_runV (As := [.int (nI q)]) (rest := []) ⟨hx, hb, hml, hown, hts⟩ (m_X2_remove l dC dI ad S i q (by omega) (by omega) (by omega)) (cwV 1 hts gX4_drop_X2_remove rfl rfl rfl hdX2_remove_1 ⟨Nat.le_of_ble_eq_true rfl, Nat.le_of_ble_eq_true rfl⟩) (hX.preRow (by omega)) rfl rfl hl.1 rfl (lv_room (Nat.le_of_ble_eq_true rfl)) dX4_drop_20 ⟨Nat.le_of_ble_eq_true rfl, Nat.le_of_ble_eq_true rfl⟩) hX (fun _ h => h) (fun S_ H locs hw hX => ?_)
  subst hw
  refine lv_iload hx hb dX4_drop_23 (lv_at hl 0 rfl) ?_
  exact W.iret (v := nI (((S.1 i).2.1) q)) hx hb hr (fun t9 ht9 hW9 => ⟨⟨_, (xR S i (shl ((S.1 i).1) q ((S.1 i).2.2 - 1), shl ((S.1 i).2.1) q ((S.1 i).2.2 - 1), (S.1 i).2.2 - 1)), rfl, ⟨rfl, rfl⟩, hX.P ht9 hW9⟩, hX.2.2.2.F ht9⟩) hX.2.2.2.2.2 dX4_drop_25
set_option maxHeartbeats 4000000 in
set_option maxRecDepth 100000 in
theorem m_X4_clear (l : Launch) (dC : Nat → ClassId) (dI : Nat → Nat → Nat) (ad : Nat → Nat) (S : XS) (i : Nat) (hi : i < 3) (hI : InvX S) : Met l yX4_clear wsX4_clear ({ frames := 1, cells := 0, slots := 0, locals := 22 } : Room) (va_Pc [.ref (ad 57), .int (nI i)] (PX dC dI ad S)) (va_Qi (fun r S' => r = nI (S.1 i).2.2 ∧ S' = xR S i ((S.1 i).1, (S.1 i).2.1, 0)) (PX dC dI ad) (AX ad)) 0 0 (AX ad) := by
  refine Met.ofW (cc := cX4_clear) (maxL := 4) (ret := (some .int)) pl_X4 rfl ?_
  intro p e s m args below meth c s₁ B hml hv
  obtain ⟨rfl, hPX⟩ := hv
  have hx := B.exec
  have hb := B.bytes
  have hr := B.returns
  have hts := atoms_spec (ws := wsX4_clear) B.pre
  have hown : s.vm.findClass RX4 = some m.cls := findClass_of_methodNamed B.named
  have hlocks := B.notSynchronized
  have hX := WX.of hPX
  have hl := lv_entry ([.ref (ad 57), .int (nI i)]) (n := 4) (Nat.le_of_ble_eq_true rfl)
  rw [lg_entry_eq]
  generalize (lg_sl ([.ref (ad 57), .int (nI i)]) ++ List.replicate (4 - (lg_sl ([.ref (ad 57), .int (nI i)])).length) Slot.unset).toArray = ls at hl ⊢
  have hl : lv_has ls 4 [(0, .ref (ad 57)), (1, .int (nI i))] := hl
  show W p l e ({ frames := 1, cells := 0, slots := 0, locals := 22 } : Room) s m ([.ref (ad 57), .int (nI i)]).toArray below meth c s.heap [] 0 0 (MQ below (va_Qi (fun r S' => r = nI (S.1 i).2.2 ∧ S' = xR S i ((S.1 i).1, (S.1 i).2.1, 0)) (PX dC dI ad) (AX ad)) ([.ref (ad 57), .int (nI i)]).toArray s 0 0 (AX ad)) (F0 m 0 ls [])
  have hn := (hI.1 i (by omega)).1
  refine lv_aload_n hx hb dX4_clear_0 rfl (lv_at hl 0 rfl) ?_
  refine lv_iload_n hx hb dX4_clear_1 rfl (lv_at hl 1 rfl) ?_
  refine va_csr (va_Run.run (va_runV (As := [.int (nI i)]) (rest := []) ⟨hx, hb, hml, hown, hts⟩ (m_X4_rowAt l dC dI ad S i (by omega)) (cwV 1 hts gX4_clear_X4_rowAt rfl rfl rfl hdX4_rowAt_1 ⟨Nat.le_of_ble_eq_true rfl, Nat.le_of_ble_eq_true rfl⟩) (hX.preTop 57 6 (by decide) (by decide) rfl rfl) rfl rfl hl.1 rfl (lv_room (Nat.le_of_ble_eq_true rfl)) dX4_clear_2 ⟨Nat.le_of_ble_eq_true rfl, Nat.le_of_ble_eq_true rfl⟩)) (fun k_ hk_ => ?_)
  rw [hk_]
  refine lv_astore_n (lv' := [(2, .ref (ad (3 * i))), (0, .ref (ad 57)), (1, .int (nI i))]) hx hb dX4_clear_5 rfl hl (by decide) rfl (fun ls hl => ?_)
  refine lv_aload_n hx hb dX4_clear_6 rfl (lv_at hl 0 rfl) ?_
  refine kx_cr (v := nI ((S.1 i).2.2)) (va_runV (As := []) (rest := []) ⟨hx, hb, hml, hown, hts⟩ (m_X2_length l dC dI ad S i (by omega)) (cwV 0 hts gX4_clear_X2_length rfl rfl rfl hdX2_length_0 ⟨Nat.le_of_ble_eq_true rfl, Nat.le_of_ble_eq_true rfl⟩) (hX.preRow (by omega)) rfl rfl hl.1 rfl (lv_room (Nat.le_of_ble_eq_true rfl)) dX4_clear_7 ⟨Nat.le_of_ble_eq_true rfl, Nat.le_of_ble_eq_true rfl⟩) (fun _ h => h) ?_
  refine lv_istore_n (lv' := [(3, .int (nI ((S.1 i).2.2))), (2, .ref (ad (3 * i))), (0, .ref (ad 57)), (1, .int (nI i))]) hx hb dX4_clear_10 rfl hl (by decide) rfl (fun ls hl => ?_)
  refine lv_aload_n hx hb dX4_clear_11 rfl (lv_at hl 1 rfl) ?_
  refine kx_cv (va_runV (As := []) (rest := []) ⟨hx, hb, hml, hown, hts⟩ (m_X2_empty l dC dI ad S i  (by omega)) (cwV 0 hts gX4_clear_X2_empty rfl rfl rfl hdX2_empty_0 ⟨Nat.le_of_ble_eq_true rfl, Nat.le_of_ble_eq_true rfl⟩) (hX.preRow (by omega)) rfl rfl hl.1 rfl (lv_room (Nat.le_of_ble_eq_true rfl)) dX4_clear_12 ⟨Nat.le_of_ble_eq_true rfl, Nat.le_of_ble_eq_true rfl⟩) hX (fun _ h => h) (fun S_ H locs hw hX => ?_)
  subst hw
  refine lv_iload_n hx hb dX4_clear_15 rfl (lv_at hl 0 rfl) ?_
  exact W.iret (v := nI ((S.1 i).2.2)) hx hb hr (fun t9 ht9 hW9 => ⟨⟨_, (xR S i ((S.1 i).1, (S.1 i).2.1, 0)), rfl, ⟨rfl, rfl⟩, hX.P ht9 hW9⟩, hX.2.2.2.F ht9⟩) hX.2.2.2.2.2 dX4_clear_16
set_option maxHeartbeats 4000000 in
set_option maxRecDepth 100000 in
theorem m_X4_copyRow (l : Launch) (dC : Nat → ClassId) (dI : Nat → Nat → Nat) (ad : Nat → Nat) (S : XS) (i : Nat) (i2 : Nat) (hi : i < 3) (hi2 : i2 < 3) (hI : InvX S) : Met l yX4_copyRow wsX4_copyRow ({ frames := 2, cells := 0, slots := 0, locals := 46 } : Room) (va_Pc [.ref (ad 57), .int (nI i), .int (nI i2)] (PX dC dI ad S)) (va_Qi (fun r S' => r = nI (S.1 i).2.2 ∧ S' = xR S i2 (ovl (S.1 i).1 (S.1 i2).1 (S.1 i).2.2, ovl (S.1 i).2.1 (S.1 i2).2.1 (S.1 i).2.2, (S.1 i).2.2)) (PX dC dI ad) (AX ad)) 0 0 (AX ad) := by
  refine Met.ofW (cc := cX4_copyRow) (maxL := 5) (ret := (some .int)) pl_X4 rfl ?_
  intro p e s m args below meth c s₁ B hml hv
  obtain ⟨rfl, hPX⟩ := hv
  have hx := B.exec
  have hb := B.bytes
  have hr := B.returns
  have hts := atoms_spec (ws := wsX4_copyRow) B.pre
  have hown : s.vm.findClass RX4 = some m.cls := findClass_of_methodNamed B.named
  have hlocks := B.notSynchronized
  have hX := WX.of hPX
  have hl := lv_entry ([.ref (ad 57), .int (nI i), .int (nI i2)]) (n := 5) (Nat.le_of_ble_eq_true rfl)
  rw [lg_entry_eq]
  generalize (lg_sl ([.ref (ad 57), .int (nI i), .int (nI i2)]) ++ List.replicate (5 - (lg_sl ([.ref (ad 57), .int (nI i), .int (nI i2)])).length) Slot.unset).toArray = ls at hl ⊢
  have hl : lv_has ls 5 [(0, .ref (ad 57)), (1, .int (nI i)), (2, .int (nI i2))] := hl
  show W p l e ({ frames := 2, cells := 0, slots := 0, locals := 46 } : Room) s m ([.ref (ad 57), .int (nI i), .int (nI i2)]).toArray below meth c s.heap [] 0 0 (MQ below (va_Qi (fun r S' => r = nI (S.1 i).2.2 ∧ S' = xR S i2 (ovl (S.1 i).1 (S.1 i2).1 (S.1 i).2.2, ovl (S.1 i).2.1 (S.1 i2).2.1 (S.1 i).2.2, (S.1 i).2.2)) (PX dC dI ad) (AX ad)) ([.ref (ad 57), .int (nI i), .int (nI i2)]).toArray s 0 0 (AX ad)) (F0 m 0 ls [])
  have hn := (hI.1 i (by omega)).1
  refine lv_aload_n hx hb dX4_copyRow_0 rfl (lv_at hl 0 rfl) ?_
  refine lv_iload_n hx hb dX4_copyRow_1 rfl (lv_at hl 1 rfl) ?_
  refine va_csr (va_Run.run (va_runV (As := [.int (nI i)]) (rest := []) ⟨hx, hb, hml, hown, hts⟩ (m_X4_rowAt l dC dI ad S i (by omega)) (cwV 1 hts gX4_copyRow_X4_rowAt rfl rfl rfl hdX4_rowAt_1 ⟨Nat.le_of_ble_eq_true rfl, Nat.le_of_ble_eq_true rfl⟩) (hX.preTop 57 6 (by decide) (by decide) rfl rfl) rfl rfl hl.1 rfl (lv_room (Nat.le_of_ble_eq_true rfl)) dX4_copyRow_2 ⟨Nat.le_of_ble_eq_true rfl, Nat.le_of_ble_eq_true rfl⟩)) (fun k_ hk_ => ?_)
  rw [hk_]
  refine lv_astore_n (lv' := [(3, .ref (ad (3 * i))), (0, .ref (ad 57)), (1, .int (nI i)), (2, .int (nI i2))]) hx hb dX4_copyRow_5 rfl hl (by decide) rfl (fun ls hl => ?_)
  refine lv_aload_n hx hb dX4_copyRow_6 rfl (lv_at hl 1 rfl) ?_
  refine lv_iload_n hx hb dX4_copyRow_7 rfl (lv_at hl 3 rfl) ?_
  refine va_csr (va_Run.run (va_runV (As := [.int (nI i2)]) (rest := []) ⟨hx, hb, hml, hown, hts⟩ (m_X4_rowAt l dC dI ad S i2 (by omega)) (cwV 1 hts gX4_copyRow_X4_rowAt rfl rfl rfl hdX4_rowAt_1 ⟨Nat.le_of_ble_eq_true rfl, Nat.le_of_ble_eq_true rfl⟩) (hX.preTop 57 6 (by decide) (by decide) rfl rfl) rfl rfl hl.1 rfl (lv_room (Nat.le_of_ble_eq_true rfl)) dX4_copyRow_8 ⟨Nat.le_of_ble_eq_true rfl, Nat.le_of_ble_eq_true rfl⟩)) (fun k_ hk_ => ?_)
  rw [hk_]
  refine lv_astore (lv' := [(4, .ref (ad (3 * i2))), (3, .ref (ad (3 * i))), (0, .ref (ad 57)), (1, .int (nI i)), (2, .int (nI i2))]) hx hb dX4_copyRow_11 hl (by decide) rfl (fun ls hl => ?_)
  refine lv_aload hx hb dX4_copyRow_13 (lv_at hl 0 rfl) ?_
  refine lv_aload_n hx hb dX4_copyRow_15 rfl (lv_at hl 1 rfl) ?_
  refine kx_cv (va_runV (As := [.ref (ad (3 * i))]) (rest := []) ⟨hx, hb, hml, hown, hts⟩ (m_X2_becomeCopyOf l dC dI ad S i2 i (by omega) (by omega) (by omega)) (cwV 1 hts gX4_copyRow_X2_becomeCopyOf rfl rfl rfl hdX2_becomeCopyOf_1 ⟨Nat.le_of_ble_eq_true rfl, Nat.le_of_ble_eq_true rfl⟩) (hX.preRow (by omega)) rfl rfl hl.1 rfl (lv_room (Nat.le_of_ble_eq_true rfl)) dX4_copyRow_16 ⟨Nat.le_of_ble_eq_true rfl, Nat.le_of_ble_eq_true rfl⟩) hX (fun _ h => h) (fun S_ H locs hw hX => ?_)
  subst hw
  refine lv_aload hx hb dX4_copyRow_19 (lv_at hl 0 rfl) ?_
  refine kx_cr (v := nI ((S.1 i).2.2)) (va_runV (As := []) (rest := []) ⟨hx, hb, hml, hown, hts⟩ (m_X2_length l dC dI ad (xR S i2 (ovl ((S.1 i).1) ((S.1 i2).1) ((S.1 i).2.2), ovl ((S.1 i).2.1) ((S.1 i2).2.1) ((S.1 i).2.2), (S.1 i).2.2)) i2 (by omega)) (cwV 0 hts gX4_copyRow_X2_length rfl rfl rfl hdX2_length_0 ⟨Nat.le_of_ble_eq_true rfl, Nat.le_of_ble_eq_true rfl⟩) (hX.preRow (by omega)) rfl rfl hl.1 rfl (lv_room (Nat.le_of_ble_eq_true rfl)) dX4_copyRow_21 ⟨Nat.le_of_ble_eq_true rfl, Nat.le_of_ble_eq_true rfl⟩) (fun _ h => by rw [h, xR_row]) ?_
  exact W.iret (v := nI ((S.1 i).2.2)) hx hb hr (fun t9 ht9 hW9 => ⟨⟨_, (xR S i2 (ovl ((S.1 i).1) ((S.1 i2).1) ((S.1 i).2.2), ovl ((S.1 i).2.1) ((S.1 i2).2.1) ((S.1 i).2.2), (S.1 i).2.2)), rfl, ⟨rfl, rfl⟩, hX.P ht9 hW9⟩, hX.2.2.2.F ht9⟩) hX.2.2.2.2.2 dX4_copyRow_24
set_option maxHeartbeats 4000000 in
set_option maxRecDepth 100000 in
theorem m_X4_turnRow (l : Launch) (dC : Nat → ClassId) (dI : Nat → Nat → Nat) (ad : Nat → Nat) (S : XS) (i : Nat) (hi : i < 3) (hI : InvX S) : Met l yX4_turnRow wsX4_turnRow ({ frames := 3, cells := 0, slots := 0, locals := 69 } : Room) (va_Pc [.ref (ad 57), .int (nI i)] (PX dC dI ad S)) (va_Qi (fun r S' => r = nI ((S.1 i).2.2 - (S.1 i).2.2 % 2) ∧ S' = xR S i (rev (S.1 i).1 (S.1 i).2.2 (S.1 i).2.2, rev (S.1 i).2.1 (S.1 i).2.2 (S.1 i).2.2, (S.1 i).2.2)) (PX dC dI ad) (AX ad)) 0 0 (AX ad) := by
  refine Met.ofW (cc := cX4_turnRow) (maxL := 3) (ret := (some .int)) pl_X4 rfl ?_
  intro p e s m args below meth c s₁ B hml hv
  obtain ⟨rfl, hPX⟩ := hv
  have hx := B.exec
  have hb := B.bytes
  have hr := B.returns
  have hts := atoms_spec (ws := wsX4_turnRow) B.pre
  have hown : s.vm.findClass RX4 = some m.cls := findClass_of_methodNamed B.named
  have hlocks := B.notSynchronized
  have hX := WX.of hPX
  have hl := lv_entry ([.ref (ad 57), .int (nI i)]) (n := 3) (Nat.le_of_ble_eq_true rfl)
  rw [lg_entry_eq]
  generalize (lg_sl ([.ref (ad 57), .int (nI i)]) ++ List.replicate (3 - (lg_sl ([.ref (ad 57), .int (nI i)])).length) Slot.unset).toArray = ls at hl ⊢
  have hl : lv_has ls 3 [(0, .ref (ad 57)), (1, .int (nI i))] := hl
  show W p l e ({ frames := 3, cells := 0, slots := 0, locals := 69 } : Room) s m ([.ref (ad 57), .int (nI i)]).toArray below meth c s.heap [] 0 0 (MQ below (va_Qi (fun r S' => r = nI ((S.1 i).2.2 - (S.1 i).2.2 % 2) ∧ S' = xR S i (rev (S.1 i).1 (S.1 i).2.2 (S.1 i).2.2, rev (S.1 i).2.1 (S.1 i).2.2 (S.1 i).2.2, (S.1 i).2.2)) (PX dC dI ad) (AX ad)) ([.ref (ad 57), .int (nI i)]).toArray s 0 0 (AX ad)) (F0 m 0 ls [])
  have hn := (hI.1 i (by omega)).1
  refine lv_aload_n hx hb dX4_turnRow_0 rfl (lv_at hl 0 rfl) ?_
  refine lv_iload_n hx hb dX4_turnRow_1 rfl (lv_at hl 1 rfl) ?_
  refine va_csr (va_Run.run (va_runV (As := [.int (nI i)]) (rest := []) ⟨hx, hb, hml, hown, hts⟩ (m_X4_rowAt l dC dI ad S i (by omega)) (cwV 1 hts gX4_turnRow_X4_rowAt rfl rfl rfl hdX4_rowAt_1 ⟨Nat.le_of_ble_eq_true rfl, Nat.le_of_ble_eq_true rfl⟩) (hX.preTop 57 6 (by decide) (by decide) rfl rfl) rfl rfl hl.1 rfl (lv_room (Nat.le_of_ble_eq_true rfl)) dX4_turnRow_2 ⟨Nat.le_of_ble_eq_true rfl, Nat.le_of_ble_eq_true rfl⟩)) (fun k_ hk_ => ?_)
  rw [hk_]
  refine lv_astore_n (lv' := [(2, .ref (ad (3 * i))), (0, .ref (ad 57)), (1, .int (nI i))]) hx hb dX4_turnRow_5 rfl hl (by decide) rfl (fun ls hl => ?_)
  refine lv_aload_n hx hb dX4_turnRow_6 rfl (lv_at hl 0 rfl) ?_
  refine kx_cv (va_runV (As := []) (rest := []) ⟨hx, hb, hml, hown, hts⟩ (m_X2_reverse l dC dI ad S i  (by omega) (by omega)) (cwV 0 hts gX4_turnRow_X2_reverse rfl rfl rfl hdX2_reverse_0 ⟨Nat.le_of_ble_eq_true rfl, Nat.le_of_ble_eq_true rfl⟩) (hX.preRow (by omega)) rfl rfl hl.1 rfl (lv_room (Nat.le_of_ble_eq_true rfl)) dX4_turnRow_7 ⟨Nat.le_of_ble_eq_true rfl, Nat.le_of_ble_eq_true rfl⟩) hX (fun _ h => h) (fun S_ H locs hw hX => ?_)
  subst hw
  refine lv_aload_n hx hb dX4_turnRow_10 rfl (lv_at hl 0 rfl) ?_
  refine kx_cr (v := nI ((S.1 i).2.2)) (va_runV (As := []) (rest := []) ⟨hx, hb, hml, hown, hts⟩ (m_X2_length l dC dI ad (xR S i (rev ((S.1 i).1) ((S.1 i).2.2) ((S.1 i).2.2), rev ((S.1 i).2.1) ((S.1 i).2.2) ((S.1 i).2.2), (S.1 i).2.2)) i (by omega)) (cwV 0 hts gX4_turnRow_X2_length rfl rfl rfl hdX2_length_0 ⟨Nat.le_of_ble_eq_true rfl, Nat.le_of_ble_eq_true rfl⟩) (hX.preRow (by omega)) rfl rfl hl.1 rfl (lv_room (Nat.le_of_ble_eq_true rfl)) dX4_turnRow_11 ⟨Nat.le_of_ble_eq_true rfl, Nat.le_of_ble_eq_true rfl⟩) (fun _ h => by rw [h, xR_row]) ?_
  refine lv_aload_n hx hb dX4_turnRow_14 rfl (lv_at hl 0 rfl) ?_
  refine kx_cr (v := nI ((S.1 i).2.2)) (va_runV (As := []) (rest := [.int (nI ((S.1 i).2.2))]) ⟨hx, hb, hml, hown, hts⟩ (m_X2_length l dC dI ad (xR S i (rev ((S.1 i).1) ((S.1 i).2.2) ((S.1 i).2.2), rev ((S.1 i).2.1) ((S.1 i).2.2) ((S.1 i).2.2), (S.1 i).2.2)) i (by omega)) (cwV 0 hts gX4_turnRow_X2_length rfl rfl rfl hdX2_length_0 ⟨Nat.le_of_ble_eq_true rfl, Nat.le_of_ble_eq_true rfl⟩) (hX.preRow (by omega)) rfl rfl hl.1 rfl (lv_room (Nat.le_of_ble_eq_true rfl)) dX4_turnRow_15 ⟨Nat.le_of_ble_eq_true rfl, Nat.le_of_ble_eq_true rfl⟩) (fun _ h => by rw [h, xR_row]) ?_
  refine lv_iconst (v := nI 2) hx hb dX4_turnRow_18 (by decide) ?_
  refine kn_irem hx hb (by omega) (by omega) (by omega) dX4_turnRow_19 ?_
  refine kn_isub hx hb (by omega) dX4_turnRow_20 ?_
  exact W.iret (v := nI (((S.1 i).2.2) - (((S.1 i).2.2) % 2))) hx hb hr (fun t9 ht9 hW9 => ⟨⟨_, (xR S i (rev ((S.1 i).1) ((S.1 i).2.2) ((S.1 i).2.2), rev ((S.1 i).2.1) ((S.1 i).2.2) ((S.1 i).2.2), (S.1 i).2.2)), rfl, ⟨rfl, rfl⟩, hX.P ht9 hW9⟩, hX.2.2.2.F ht9⟩) hX.2.2.2.2.2 dX4_turnRow_21
set_option maxHeartbeats 4000000 in
set_option maxRecDepth 100000 in
theorem m_X4_swap (l : Launch) (dC : Nat → ClassId) (dI : Nat → Nat → Nat) (ad : Nat → Nat) (S : XS) (i : Nat) (q : Nat) (q2 : Nat) (hi : i < 3) (hq : q < (S.1 i).2.2) (hq2 : q2 < (S.1 i).2.2) (hI : InvX S) : Met l yX4_swap wsX4_swap ({ frames := 2, cells := 0, slots := 0, locals := 47 } : Room) (va_Pc [.ref (ad 57), .int (nI i), .int (nI q), .int (nI q2)] (PX dC dI ad S)) (va_Qi (fun r S' => r = (if xch (S.1 i).1 q q2 q = xch (S.1 i).1 q q2 q2 then 0 else 1) ∧ S' = xR S i (xch (S.1 i).1 q q2, xch (S.1 i).2.1 q q2, (S.1 i).2.2)) (PX dC dI ad) (AX ad)) 0 0 (AX ad) := by
  refine Met.ofW (cc := cX4_swap) (maxL := 5) (ret := (some .int)) pl_X4 rfl ?_
  intro p e s m args below meth c s₁ B hml hv
  obtain ⟨rfl, hPX⟩ := hv
  have hx := B.exec
  have hb := B.bytes
  have hr := B.returns
  have hts := atoms_spec (ws := wsX4_swap) B.pre
  have hown : s.vm.findClass RX4 = some m.cls := findClass_of_methodNamed B.named
  have hlocks := B.notSynchronized
  have hX := WX.of hPX
  have hl := lv_entry ([.ref (ad 57), .int (nI i), .int (nI q), .int (nI q2)]) (n := 5) (Nat.le_of_ble_eq_true rfl)
  rw [lg_entry_eq]
  generalize (lg_sl ([.ref (ad 57), .int (nI i), .int (nI q), .int (nI q2)]) ++ List.replicate (5 - (lg_sl ([.ref (ad 57), .int (nI i), .int (nI q), .int (nI q2)])).length) Slot.unset).toArray = ls at hl ⊢
  have hl : lv_has ls 5 [(0, .ref (ad 57)), (1, .int (nI i)), (2, .int (nI q)), (3, .int (nI q2))] := hl
  show W p l e ({ frames := 2, cells := 0, slots := 0, locals := 47 } : Room) s m ([.ref (ad 57), .int (nI i), .int (nI q), .int (nI q2)]).toArray below meth c s.heap [] 0 0 (MQ below (va_Qi (fun r S' => r = (if xch (S.1 i).1 q q2 q = xch (S.1 i).1 q q2 q2 then 0 else 1) ∧ S' = xR S i (xch (S.1 i).1 q q2, xch (S.1 i).2.1 q q2, (S.1 i).2.2)) (PX dC dI ad) (AX ad)) ([.ref (ad 57), .int (nI i), .int (nI q), .int (nI q2)]).toArray s 0 0 (AX ad)) (F0 m 0 ls [])
  have hn := (hI.1 i (by omega)).1
  refine lv_aload_n hx hb dX4_swap_0 rfl (lv_at hl 0 rfl) ?_
  refine lv_iload_n hx hb dX4_swap_1 rfl (lv_at hl 1 rfl) ?_
  refine va_csr (va_Run.run (va_runV (As := [.int (nI i)]) (rest := []) ⟨hx, hb, hml, hown, hts⟩ (m_X4_rowAt l dC dI ad S i (by omega)) (cwV 1 hts gX4_swap_X4_rowAt rfl rfl rfl hdX4_rowAt_1 ⟨Nat.le_of_ble_eq_true rfl, Nat.le_of_ble_eq_true rfl⟩) (hX.preTop 57 6 (by decide) (by decide) rfl rfl) rfl rfl hl.1 rfl (lv_room (Nat.le_of_ble_eq_true rfl)) dX4_swap_2 ⟨Nat.le_of_ble_eq_true rfl, Nat.le_of_ble_eq_true rfl⟩)) (fun k_ hk_ => ?_)
  rw [hk_]
  refine lv_astore (lv' := [(4, .ref (ad (3 * i))), (0, .ref (ad 57)), (1, .int (nI i)), (2, .int (nI q)), (3, .int (nI q2))]) hx hb dX4_swap_5 hl (by decide) rfl (fun ls hl => ?_)
  refine lv_aload hx hb dX4_swap_7 (lv_at hl 0 rfl) ?_
  refine lv_iload_n hx hb dX4_swap_9 rfl (lv_at hl 3 rfl) ?_
  refine va_csv (va_Run.run (va_runS (As := [.ref (ad (3 * i)), .int (nI q)]) (rest := []) ⟨hx, hb, hml, hown, hts⟩ (m_X4_demandPlace l dC dI ad S i q (by omega) (by omega) (by omega)) (va_cwS 2 hts gX4_swap_X4_demandPlace rfl rfl rfl hdX4_demandPlace_2.2 ⟨Nat.le_of_ble_eq_true rfl, Nat.le_of_ble_eq_true rfl⟩) hX.preS rfl rfl hl.1 rfl (lv_room (Nat.le_of_ble_eq_true rfl)) dX4_swap_10 ⟨Nat.le_of_ble_eq_true rfl, Nat.le_of_ble_eq_true rfl⟩)) (fun _ => ?_)
  refine lv_aload hx hb dX4_swap_13 (lv_at hl 0 rfl) ?_
  refine lv_iload_n hx hb dX4_swap_15 rfl (lv_at hl 4 rfl) ?_
  refine va_csv (va_Run.run (va_runS (As := [.ref (ad (3 * i)), .int (nI q2)]) (rest := []) ⟨hx, hb, hml, hown, hts⟩ (m_X4_demandPlace l dC dI ad S i q2 (by omega) (by omega) (by omega)) (va_cwS 2 hts gX4_swap_X4_demandPlace rfl rfl rfl hdX4_demandPlace_2.2 ⟨Nat.le_of_ble_eq_true rfl, Nat.le_of_ble_eq_true rfl⟩) hX.preS rfl rfl hl.1 rfl (lv_room (Nat.le_of_ble_eq_true rfl)) dX4_swap_16 ⟨Nat.le_of_ble_eq_true rfl, Nat.le_of_ble_eq_true rfl⟩)) (fun _ => ?_)
  refine lv_aload hx hb dX4_swap_19 (lv_at hl 0 rfl) ?_
  refine lv_iload_n hx hb dX4_swap_21 rfl (lv_at hl 3 rfl) ?_
  refine lv_iload_n hx hb dX4_swap_22 rfl (lv_at hl 4 rfl) ?_
  refine kx_cv (va_runV (As := [.int (nI q), .int (nI q2)]) (rest := []) ⟨hx, hb, hml, hown, hts⟩ (m_X2_exchange l dC dI ad S i q q2 (by omega) (by omega) (by omega)) (cwV 2 hts gX4_swap_X2_exchange rfl rfl rfl hdX2_exchange_2 ⟨Nat.le_of_ble_eq_true rfl, Nat.le_of_ble_eq_true rfl⟩) (hX.preRow (by omega)) rfl rfl hl.1 rfl (lv_room (Nat.le_of_ble_eq_true rfl)) dX4_swap_23 ⟨Nat.le_of_ble_eq_true rfl, Nat.le_of_ble_eq_true rfl⟩) hX (fun _ h => h) (fun S_ H locs hw hX => ?_)
  subst hw
  refine lv_aload hx hb dX4_swap_26 (lv_at hl 0 rfl) ?_
  refine lv_iload_n hx hb dX4_swap_28 rfl (lv_at hl 3 rfl) ?_
  refine kx_cr (v := nI ((xch ((S.1 i).1) q q2) q)) (va_runV (As := [.int (nI q)]) (rest := []) ⟨hx, hb, hml, hown, hts⟩ (m_X2_valueOn l dC dI ad (xR S i (xch ((S.1 i).1) q q2, xch ((S.1 i).2.1) q q2, (S.1 i).2.2)) i q (by omega) (by omega)) (cwV 1 hts gX4_swap_X2_valueOn rfl rfl rfl hdX2_valueOn_1 ⟨Nat.le_of_ble_eq_true rfl, Nat.le_of_ble_eq_true rfl⟩) (hX.preRow (by omega)) rfl rfl hl.1 rfl (lv_room (Nat.le_of_ble_eq_true rfl)) dX4_swap_29 ⟨Nat.le_of_ble_eq_true rfl, Nat.le_of_ble_eq_true rfl⟩) (fun _ h => by rw [h, xR_row]) ?_
  refine lv_aload hx hb dX4_swap_32 (lv_at hl 0 rfl) ?_
  refine lv_iload_n hx hb dX4_swap_34 rfl (lv_at hl 4 rfl) ?_
  refine kx_cr (v := nI ((xch ((S.1 i).1) q q2) q2)) (va_runV (As := [.int (nI q2)]) (rest := [.int (nI ((xch ((S.1 i).1) q q2) q))]) ⟨hx, hb, hml, hown, hts⟩ (m_X2_valueOn l dC dI ad (xR S i (xch ((S.1 i).1) q q2, xch ((S.1 i).2.1) q q2, (S.1 i).2.2)) i q2 (by omega) (by omega)) (cwV 1 hts gX4_swap_X2_valueOn rfl rfl rfl hdX2_valueOn_1 ⟨Nat.le_of_ble_eq_true rfl, Nat.le_of_ble_eq_true rfl⟩) (hX.preRow (by omega)) rfl rfl hl.1 rfl (lv_room (Nat.le_of_ble_eq_true rfl)) dX4_swap_35 ⟨Nat.le_of_ble_eq_true rfl, Nat.le_of_ble_eq_true rfl⟩) (fun _ h => by rw [h, xR_row]) ?_
  have h1 := xch_lt (f := (S.1 i).1) (a := q) (b := q2) (k := q) (fun x hx => ((hI.1 i (by omega)).2 x hx).1) (by omega) (by omega) (by omega)
  have h2 := xch_lt (f := (S.1 i).1) (a := q) (b := q2) (k := q2) (fun x hx => ((hI.1 i (by omega)).2 x hx).1) (by omega) (by omega) (by omega)
  refine kn_icmp_eq (tgt := 45) hx hb (by omega) (by omega) dX4_swap_38 (by decide) (fun k_1 => ?_) (fun k_1 => ?_)
  · skip
    have hc := k_1
    refine lv_iconst (v := nI 0) hx hb dX4_swap_45 (by decide) ?_
    exact W.iret (v := nI 0) hx hb hr (fun t9 ht9 hW9 => ⟨⟨_, (xR S i (xch ((S.1 i).1) q q2, xch ((S.1 i).2.1) q q2, (S.1 i).2.2)), rfl, ⟨(if_pos hc).symm, rfl⟩, hX.P ht9 hW9⟩, hX.2.2.2.F ht9⟩) hX.2.2.2.2.2 dX4_swap_46
  · skip
    have hc := k_1
    refine lv_iconst (v := nI 1) hx hb dX4_swap_41 (by decide) ?_
    refine lv_goto (tgt := 46) hx hb dX4_swap_42 (by decide) ?_
    exact W.iret (v := nI 1) hx hb hr (fun t9 ht9 hW9 => ⟨⟨_, (xR S i (xch ((S.1 i).1) q q2, xch ((S.1 i).2.1) q q2, (S.1 i).2.2)), rfl, ⟨(if_neg hc).symm, rfl⟩, hX.P ht9 hW9⟩, hX.2.2.2.F ht9⟩) hX.2.2.2.2.2 dX4_swap_46
set_option maxHeartbeats 4000000 in
set_option maxRecDepth 100000 in
theorem m_X4_isSorted (l : Launch) (dC : Nat → ClassId) (dI : Nat → Nat → Nat) (ad : Nat → Nat) (S : XS) (i : Nat) (j : Nat) (hi : i < 3) (hj : j < 4) (hI : InvX S) : Met l yX4_isSorted wsX4_isSorted ({ frames := 2, cells := 0, slots := 0, locals := 48 } : Room) (va_Pc [.ref (ad 57), .int (nI i), .int (nI j)] (PX dC dI ad S)) (vp_Si (fun r => r = bI (seqB (S.2.1 j).2.2.1 (S.1 i).1 (S.1 i).2.2))) 0 0 (fun _ => False) := by
  refine Met.ofW (cc := cX4_isSorted) (maxL := 4) (ret := (some .boolean)) pl_X4 rfl ?_
  intro p e s m args below meth c s₁ B hml hv
  obtain ⟨rfl, hPX⟩ := hv
  have hx := B.exec
  have hb := B.bytes
  have hr := B.returns
  have hts := atoms_spec (ws := wsX4_isSorted) B.pre
  have hown : s.vm.findClass RX4 = some m.cls := findClass_of_methodNamed B.named
  have hlocks := B.notSynchronized
  have hX := WX.of hPX
  have hl := lv_entry ([.ref (ad 57), .int (nI i), .int (nI j)]) (n := 4) (Nat.le_of_ble_eq_true rfl)
  rw [lg_entry_eq]
  generalize (lg_sl ([.ref (ad 57), .int (nI i), .int (nI j)]) ++ List.replicate (4 - (lg_sl ([.ref (ad 57), .int (nI i), .int (nI j)])).length) Slot.unset).toArray = ls at hl ⊢
  have hl : lv_has ls 4 [(0, .ref (ad 57)), (1, .int (nI i)), (2, .int (nI j))] := hl
  show W p l e ({ frames := 2, cells := 0, slots := 0, locals := 48 } : Room) s m ([.ref (ad 57), .int (nI i), .int (nI j)]).toArray below meth c s.heap [] 0 0 (MQ below (vp_Si (fun r => r = bI (seqB (S.2.1 j).2.2.1 (S.1 i).1 (S.1 i).2.2))) ([.ref (ad 57), .int (nI i), .int (nI j)]).toArray s 0 0 (fun _ => False)) (F0 m 0 ls [])
  have hn := (hI.1 i (by omega)).1
  refine lv_aload_n hx hb dX4_isSorted_0 rfl (lv_at hl 0 rfl) ?_
  refine lv_iload_n hx hb dX4_isSorted_1 rfl (lv_at hl 1 rfl) ?_
  refine va_csr (va_Run.run (va_runV (As := [.int (nI i)]) (rest := []) ⟨hx, hb, hml, hown, hts⟩ (m_X4_rowAt l dC dI ad S i (by omega)) (cwV 1 hts gX4_isSorted_X4_rowAt rfl rfl rfl hdX4_rowAt_1 ⟨Nat.le_of_ble_eq_true rfl, Nat.le_of_ble_eq_true rfl⟩) (hX.preTop 57 6 (by decide) (by decide) rfl rfl) rfl rfl hl.1 rfl (lv_room (Nat.le_of_ble_eq_true rfl)) dX4_isSorted_2 ⟨Nat.le_of_ble_eq_true rfl, Nat.le_of_ble_eq_true rfl⟩)) (fun k_ hk_ => ?_)
  rw [hk_]
  refine lv_astore_n (lv' := [(3, .ref (ad (3 * i))), (0, .ref (ad 57)), (1, .int (nI i)), (2, .int (nI j))]) hx hb dX4_isSorted_5 rfl hl (by decide) rfl (fun ls hl => ?_)
  refine lv_aload_n hx hb dX4_isSorted_6 rfl (lv_at hl 0 rfl) ?_
  refine lv_aload_n hx hb dX4_isSorted_7 rfl (lv_at hl 1 rfl) ?_
  refine lv_iload_n hx hb dX4_isSorted_8 rfl (lv_at hl 3 rfl) ?_
  refine va_csr (va_Run.run (va_runV (As := [.int (nI j)]) (rest := [.ref (ad (3 * i))]) ⟨hx, hb, hml, hown, hts⟩ (m_X4_orderAt l dC dI ad S j (by omega)) (cwV 1 hts gX4_isSorted_X4_orderAt rfl rfl rfl hdX4_orderAt_1 ⟨Nat.le_of_ble_eq_true rfl, Nat.le_of_ble_eq_true rfl⟩) (hX.preTop 57 6 (by decide) (by decide) rfl rfl) rfl rfl hl.1 rfl (lv_room (Nat.le_of_ble_eq_true rfl)) dX4_isSorted_9 ⟨Nat.le_of_ble_eq_true rfl, Nat.le_of_ble_eq_true rfl⟩)) (fun k_ hk_ => ?_)
  rw [hk_]
  refine kx_cr (v := bI (seqB (S.2.1 j).2.2.1 (S.1 i).1 (S.1 i).2.2)) (va_runV (As := [.ref (ad (24 + 5 * j))]) (rest := []) ⟨hx, hb, hml, hown, hts⟩ (m_X2_isInSequenceBy l dC dI ad S i j (by omega) (by omega) (hI.1 i (by omega)) (hI.2 j (by omega))) (cwV 1 hts gX4_isSorted_X2_isInSequenceBy rfl rfl rfl hdX2_isInSequenceBy_1 ⟨Nat.le_of_ble_eq_true rfl, Nat.le_of_ble_eq_true rfl⟩) (hX.preRow (by omega)) rfl rfl hl.1 rfl (lv_room (Nat.le_of_ble_eq_true rfl)) dX4_isSorted_12 ⟨Nat.le_of_ble_eq_true rfl, Nat.le_of_ble_eq_true rfl⟩) (fun _ h => h) ?_
  exact W.zret (v := bI (seqB (S.2.1 j).2.2.1 (S.1 i).1 (S.1 i).2.2)) hx hb hr (bI_narrow _) (fun t9 ht9 hW9 => ⟨_, rfl, rfl, ht9⟩) (fun _ h => nomatch h) dX4_isSorted_15
set_option maxHeartbeats 4000000 in
set_option maxRecDepth 100000 in
theorem m_X4_size (l : Launch) (dC : Nat → ClassId) (dI : Nat → Nat → Nat) (ad : Nat → Nat) (S : XS) (i : Nat) (hi : i < 3) (hI : InvX S) : Met l yX4_size wsX4_size ({ frames := 1, cells := 0, slots := 0, locals := 22 } : Room) (va_Pc [.ref (ad 57), .int (nI i)] (PX dC dI ad S)) (vp_Si (fun r => r = nI (S.1 i).2.2)) 0 0 (fun _ => False) := by
  refine Met.ofW (cc := cX4_size) (maxL := 2) (ret := (some .int)) pl_X4 rfl ?_
  intro p e s m args below meth c s₁ B hml hv
  obtain ⟨rfl, hPX⟩ := hv
  have hx := B.exec
  have hb := B.bytes
  have hr := B.returns
  have hts := atoms_spec (ws := wsX4_size) B.pre
  have hown : s.vm.findClass RX4 = some m.cls := findClass_of_methodNamed B.named
  have hlocks := B.notSynchronized
  have hX := WX.of hPX
  have hl := lv_entry ([.ref (ad 57), .int (nI i)]) (n := 2) (Nat.le_of_ble_eq_true rfl)
  rw [lg_entry_eq]
  generalize (lg_sl ([.ref (ad 57), .int (nI i)]) ++ List.replicate (2 - (lg_sl ([.ref (ad 57), .int (nI i)])).length) Slot.unset).toArray = ls at hl ⊢
  have hl : lv_has ls 2 [(0, .ref (ad 57)), (1, .int (nI i))] := hl
  show W p l e ({ frames := 1, cells := 0, slots := 0, locals := 22 } : Room) s m ([.ref (ad 57), .int (nI i)]).toArray below meth c s.heap [] 0 0 (MQ below (vp_Si (fun r => r = nI (S.1 i).2.2)) ([.ref (ad 57), .int (nI i)]).toArray s 0 0 (fun _ => False)) (F0 m 0 ls [])
  have hn := (hI.1 i (by omega)).1
  refine lv_aload_n hx hb dX4_size_0 rfl (lv_at hl 0 rfl) ?_
  refine lv_iload_n hx hb dX4_size_1 rfl (lv_at hl 1 rfl) ?_
  refine va_csr (va_Run.run (va_runV (As := [.int (nI i)]) (rest := []) ⟨hx, hb, hml, hown, hts⟩ (m_X4_rowAt l dC dI ad S i (by omega)) (cwV 1 hts gX4_size_X4_rowAt rfl rfl rfl hdX4_rowAt_1 ⟨Nat.le_of_ble_eq_true rfl, Nat.le_of_ble_eq_true rfl⟩) (hX.preTop 57 6 (by decide) (by decide) rfl rfl) rfl rfl hl.1 rfl (lv_room (Nat.le_of_ble_eq_true rfl)) dX4_size_2 ⟨Nat.le_of_ble_eq_true rfl, Nat.le_of_ble_eq_true rfl⟩)) (fun k_ hk_ => ?_)
  rw [hk_]
  refine kx_cr (v := nI ((S.1 i).2.2)) (va_runV (As := []) (rest := []) ⟨hx, hb, hml, hown, hts⟩ (m_X2_length l dC dI ad S i (by omega)) (cwV 0 hts gX4_size_X2_length rfl rfl rfl hdX2_length_0 ⟨Nat.le_of_ble_eq_true rfl, Nat.le_of_ble_eq_true rfl⟩) (hX.preRow (by omega)) rfl rfl hl.1 rfl (lv_room (Nat.le_of_ble_eq_true rfl)) dX4_size_5 ⟨Nat.le_of_ble_eq_true rfl, Nat.le_of_ble_eq_true rfl⟩) (fun _ h => h) ?_
  exact W.iret (v := nI ((S.1 i).2.2)) hx hb hr (fun t9 ht9 hW9 => ⟨_, rfl, rfl, ht9⟩) (fun _ h => nomatch h) dX4_size_8
set_option maxHeartbeats 4000000 in
set_option maxRecDepth 100000 in
theorem m_X4_valueAt (l : Launch) (dC : Nat → ClassId) (dI : Nat → Nat → Nat) (ad : Nat → Nat) (S : XS) (i : Nat) (q : Nat) (hi : i < 3) (hq : q < (S.1 i).2.2) (hI : InvX S) : Met l yX4_valueAt wsX4_valueAt ({ frames := 2, cells := 0, slots := 0, locals := 41 } : Room) (va_Pc [.ref (ad 57), .int (nI i), .int (nI q)] (PX dC dI ad S)) (vp_Si (fun r => r = nI ((S.1 i).1 q))) 0 0 (fun _ => False) := by
  refine Met.ofW (cc := cX4_valueAt) (maxL := 4) (ret := (some .int)) pl_X4 rfl ?_
  intro p e s m args below meth c s₁ B hml hv
  obtain ⟨rfl, hPX⟩ := hv
  have hx := B.exec
  have hb := B.bytes
  have hr := B.returns
  have hts := atoms_spec (ws := wsX4_valueAt) B.pre
  have hown : s.vm.findClass RX4 = some m.cls := findClass_of_methodNamed B.named
  have hlocks := B.notSynchronized
  have hX := WX.of hPX
  have hl := lv_entry ([.ref (ad 57), .int (nI i), .int (nI q)]) (n := 4) (Nat.le_of_ble_eq_true rfl)
  rw [lg_entry_eq]
  generalize (lg_sl ([.ref (ad 57), .int (nI i), .int (nI q)]) ++ List.replicate (4 - (lg_sl ([.ref (ad 57), .int (nI i), .int (nI q)])).length) Slot.unset).toArray = ls at hl ⊢
  have hl : lv_has ls 4 [(0, .ref (ad 57)), (1, .int (nI i)), (2, .int (nI q))] := hl
  show W p l e ({ frames := 2, cells := 0, slots := 0, locals := 41 } : Room) s m ([.ref (ad 57), .int (nI i), .int (nI q)]).toArray below meth c s.heap [] 0 0 (MQ below (vp_Si (fun r => r = nI ((S.1 i).1 q))) ([.ref (ad 57), .int (nI i), .int (nI q)]).toArray s 0 0 (fun _ => False)) (F0 m 0 ls [])
  have hn := (hI.1 i (by omega)).1
  refine lv_aload_n hx hb dX4_valueAt_0 rfl (lv_at hl 0 rfl) ?_
  refine lv_iload_n hx hb dX4_valueAt_1 rfl (lv_at hl 1 rfl) ?_
  refine va_csr (va_Run.run (va_runV (As := [.int (nI i)]) (rest := []) ⟨hx, hb, hml, hown, hts⟩ (m_X4_rowAt l dC dI ad S i (by omega)) (cwV 1 hts gX4_valueAt_X4_rowAt rfl rfl rfl hdX4_rowAt_1 ⟨Nat.le_of_ble_eq_true rfl, Nat.le_of_ble_eq_true rfl⟩) (hX.preTop 57 6 (by decide) (by decide) rfl rfl) rfl rfl hl.1 rfl (lv_room (Nat.le_of_ble_eq_true rfl)) dX4_valueAt_2 ⟨Nat.le_of_ble_eq_true rfl, Nat.le_of_ble_eq_true rfl⟩)) (fun k_ hk_ => ?_)
  rw [hk_]
  refine lv_astore_n (lv' := [(3, .ref (ad (3 * i))), (0, .ref (ad 57)), (1, .int (nI i)), (2, .int (nI q))]) hx hb dX4_valueAt_5 rfl hl (by decide) rfl (fun ls hl => ?_)
  refine lv_aload_n hx hb dX4_valueAt_6 rfl (lv_at hl 0 rfl) ?_
  refine lv_iload_n hx hb dX4_valueAt_7 rfl (lv_at hl 3 rfl) ?_
  refine va_csv (va_Run.run (va_runS (As := [.ref (ad (3 * i)), .int (nI q)]) (rest := []) ⟨hx, hb, hml, hown, hts⟩ (m_X4_demandPlace l dC dI ad S i q (by omega) (by omega) (by omega)) (va_cwS 2 hts gX4_valueAt_X4_demandPlace rfl rfl rfl hdX4_demandPlace_2.2 ⟨Nat.le_of_ble_eq_true rfl, Nat.le_of_ble_eq_true rfl⟩) hX.preS rfl rfl hl.1 rfl (lv_room (Nat.le_of_ble_eq_true rfl)) dX4_valueAt_8 ⟨Nat.le_of_ble_eq_true rfl, Nat.le_of_ble_eq_true rfl⟩)) (fun _ => ?_)
  refine lv_aload_n hx hb dX4_valueAt_11 rfl (lv_at hl 0 rfl) ?_
  refine lv_iload_n hx hb dX4_valueAt_12 rfl (lv_at hl 3 rfl) ?_
  refine kx_cr (v := nI (((S.1 i).1) q)) (va_runV (As := [.int (nI q)]) (rest := []) ⟨hx, hb, hml, hown, hts⟩ (m_X2_valueOn l dC dI ad S i q (by omega) (by omega)) (cwV 1 hts gX4_valueAt_X2_valueOn rfl rfl rfl hdX2_valueOn_1 ⟨Nat.le_of_ble_eq_true rfl, Nat.le_of_ble_eq_true rfl⟩) (hX.preRow (by omega)) rfl rfl hl.1 rfl (lv_room (Nat.le_of_ble_eq_true rfl)) dX4_valueAt_13 ⟨Nat.le_of_ble_eq_true rfl, Nat.le_of_ble_eq_true rfl⟩) (fun _ h => h) ?_
  exact W.iret (v := nI (((S.1 i).1) q)) hx hb hr (fun t9 ht9 hW9 => ⟨_, rfl, rfl, ht9⟩) (fun _ h => nomatch h) dX4_valueAt_16
set_option maxHeartbeats 4000000 in
set_option maxRecDepth 100000 in
theorem m_X4_markAt (l : Launch) (dC : Nat → ClassId) (dI : Nat → Nat → Nat) (ad : Nat → Nat) (S : XS) (i : Nat) (q : Nat) (hi : i < 3) (hq : q < (S.1 i).2.2) (hI : InvX S) : Met l yX4_markAt wsX4_markAt ({ frames := 2, cells := 0, slots := 0, locals := 41 } : Room) (va_Pc [.ref (ad 57), .int (nI i), .int (nI q)] (PX dC dI ad S)) (vp_Si (fun r => r = nI ((S.1 i).2.1 q))) 0 0 (fun _ => False) := by
  refine Met.ofW (cc := cX4_markAt) (maxL := 4) (ret := (some .int)) pl_X4 rfl ?_
  intro p e s m args below meth c s₁ B hml hv
  obtain ⟨rfl, hPX⟩ := hv
  have hx := B.exec
  have hb := B.bytes
  have hr := B.returns
  have hts := atoms_spec (ws := wsX4_markAt) B.pre
  have hown : s.vm.findClass RX4 = some m.cls := findClass_of_methodNamed B.named
  have hlocks := B.notSynchronized
  have hX := WX.of hPX
  have hl := lv_entry ([.ref (ad 57), .int (nI i), .int (nI q)]) (n := 4) (Nat.le_of_ble_eq_true rfl)
  rw [lg_entry_eq]
  generalize (lg_sl ([.ref (ad 57), .int (nI i), .int (nI q)]) ++ List.replicate (4 - (lg_sl ([.ref (ad 57), .int (nI i), .int (nI q)])).length) Slot.unset).toArray = ls at hl ⊢
  have hl : lv_has ls 4 [(0, .ref (ad 57)), (1, .int (nI i)), (2, .int (nI q))] := hl
  show W p l e ({ frames := 2, cells := 0, slots := 0, locals := 41 } : Room) s m ([.ref (ad 57), .int (nI i), .int (nI q)]).toArray below meth c s.heap [] 0 0 (MQ below (vp_Si (fun r => r = nI ((S.1 i).2.1 q))) ([.ref (ad 57), .int (nI i), .int (nI q)]).toArray s 0 0 (fun _ => False)) (F0 m 0 ls [])
  have hn := (hI.1 i (by omega)).1
  refine lv_aload_n hx hb dX4_markAt_0 rfl (lv_at hl 0 rfl) ?_
  refine lv_iload_n hx hb dX4_markAt_1 rfl (lv_at hl 1 rfl) ?_
  refine va_csr (va_Run.run (va_runV (As := [.int (nI i)]) (rest := []) ⟨hx, hb, hml, hown, hts⟩ (m_X4_rowAt l dC dI ad S i (by omega)) (cwV 1 hts gX4_markAt_X4_rowAt rfl rfl rfl hdX4_rowAt_1 ⟨Nat.le_of_ble_eq_true rfl, Nat.le_of_ble_eq_true rfl⟩) (hX.preTop 57 6 (by decide) (by decide) rfl rfl) rfl rfl hl.1 rfl (lv_room (Nat.le_of_ble_eq_true rfl)) dX4_markAt_2 ⟨Nat.le_of_ble_eq_true rfl, Nat.le_of_ble_eq_true rfl⟩)) (fun k_ hk_ => ?_)
  rw [hk_]
  refine lv_astore_n (lv' := [(3, .ref (ad (3 * i))), (0, .ref (ad 57)), (1, .int (nI i)), (2, .int (nI q))]) hx hb dX4_markAt_5 rfl hl (by decide) rfl (fun ls hl => ?_)
  refine lv_aload_n hx hb dX4_markAt_6 rfl (lv_at hl 0 rfl) ?_
  refine lv_iload_n hx hb dX4_markAt_7 rfl (lv_at hl 3 rfl) ?_
  refine va_csv (va_Run.run (va_runS (As := [.ref (ad (3 * i)), .int (nI q)]) (rest := []) ⟨hx, hb, hml, hown, hts⟩ (m_X4_demandPlace l dC dI ad S i q (by omega) (by omega) (by omega)) (va_cwS 2 hts gX4_markAt_X4_demandPlace rfl rfl rfl hdX4_demandPlace_2.2 ⟨Nat.le_of_ble_eq_true rfl, Nat.le_of_ble_eq_true rfl⟩) hX.preS rfl rfl hl.1 rfl (lv_room (Nat.le_of_ble_eq_true rfl)) dX4_markAt_8 ⟨Nat.le_of_ble_eq_true rfl, Nat.le_of_ble_eq_true rfl⟩)) (fun _ => ?_)
  refine lv_aload_n hx hb dX4_markAt_11 rfl (lv_at hl 0 rfl) ?_
  refine lv_iload_n hx hb dX4_markAt_12 rfl (lv_at hl 3 rfl) ?_
  refine kx_cr (v := nI (((S.1 i).2.1) q)) (va_runV (As := [.int (nI q)]) (rest := []) ⟨hx, hb, hml, hown, hts⟩ (m_X2_markOn l dC dI ad S i q (by omega) (by omega)) (cwV 1 hts gX4_markAt_X2_markOn rfl rfl rfl hdX2_markOn_1 ⟨Nat.le_of_ble_eq_true rfl, Nat.le_of_ble_eq_true rfl⟩) (hX.preRow (by omega)) rfl rfl hl.1 rfl (lv_room (Nat.le_of_ble_eq_true rfl)) dX4_markAt_13 ⟨Nat.le_of_ble_eq_true rfl, Nat.le_of_ble_eq_true rfl⟩) (fun _ h => h) ?_
  exact W.iret (v := nI (((S.1 i).2.1) q)) hx hb hr (fun t9 ht9 hW9 => ⟨_, rfl, rfl, ht9⟩) (fun _ h => nomatch h) dX4_markAt_16
set_option maxHeartbeats 4000000 in
set_option maxRecDepth 100000 in
theorem m_X4_kinds (l : Launch) (dC : Nat → ClassId) (dI : Nat → Nat → Nat) (ad : Nat → Nat) (S : XS) (i : Nat) (j : Nat) (hi : i < 3) (hj : j < 4) (hI : InvX S) : Met l yX4_kinds wsX4_kinds ({ frames := 3, cells := 0, slots := 0, locals := 72 } : Room) (va_Pc [.ref (ad 57), .int (nI i), .int (nI j)] (PX dC dI ad S)) (vp_Si (fun r => r = nI (cntB (firstB (S.2.1 j).2.2.1 (S.1 i).1) (S.1 i).2.2))) 0 0 (fun _ => False) := by
  refine Met.ofW (cc := cX4_kinds) (maxL := 4) (ret := (some .int)) pl_X4 rfl ?_
  intro p e s m args below meth c s₁ B hml hv
  obtain ⟨rfl, hPX⟩ := hv
  have hx := B.exec
  have hb := B.bytes
  have hr := B.returns
  have hts := atoms_spec (ws := wsX4_kinds) B.pre
  have hown : s.vm.findClass RX4 = some m.cls := findClass_of_methodNamed B.named
  have hlocks := B.notSynchronized
  have hX := WX.of hPX
  have hl := lv_entry ([.ref (ad 57), .int (nI i), .int (nI j)]) (n := 4) (Nat.le_of_ble_eq_true rfl)
  rw [lg_entry_eq]
  generalize (lg_sl ([.ref (ad 57), .int (nI i), .int (nI j)]) ++ List.replicate (4 - (lg_sl ([.ref (ad 57), .int (nI i), .int (nI j)])).length) Slot.unset).toArray = ls at hl ⊢
  have hl : lv_has ls 4 [(0, .ref (ad 57)), (1, .int (nI i)), (2, .int (nI j))] := hl
  show W p l e ({ frames := 3, cells := 0, slots := 0, locals := 72 } : Room) s m ([.ref (ad 57), .int (nI i), .int (nI j)]).toArray below meth c s.heap [] 0 0 (MQ below (vp_Si (fun r => r = nI (cntB (firstB (S.2.1 j).2.2.1 (S.1 i).1) (S.1 i).2.2))) ([.ref (ad 57), .int (nI i), .int (nI j)]).toArray s 0 0 (fun _ => False)) (F0 m 0 ls [])
  have hn := (hI.1 i (by omega)).1
  refine lv_aload_n hx hb dX4_kinds_0 rfl (lv_at hl 0 rfl) ?_
  refine lv_iload_n hx hb dX4_kinds_1 rfl (lv_at hl 1 rfl) ?_
  refine va_csr (va_Run.run (va_runV (As := [.int (nI i)]) (rest := []) ⟨hx, hb, hml, hown, hts⟩ (m_X4_rowAt l dC dI ad S i (by omega)) (cwV 1 hts gX4_kinds_X4_rowAt rfl rfl rfl hdX4_rowAt_1 ⟨Nat.le_of_ble_eq_true rfl, Nat.le_of_ble_eq_true rfl⟩) (hX.preTop 57 6 (by decide) (by decide) rfl rfl) rfl rfl hl.1 rfl (lv_room (Nat.le_of_ble_eq_true rfl)) dX4_kinds_2 ⟨Nat.le_of_ble_eq_true rfl, Nat.le_of_ble_eq_true rfl⟩)) (fun k_ hk_ => ?_)
  rw [hk_]
  refine lv_astore_n (lv' := [(3, .ref (ad (3 * i))), (0, .ref (ad 57)), (1, .int (nI i)), (2, .int (nI j))]) hx hb dX4_kinds_5 rfl hl (by decide) rfl (fun ls hl => ?_)
  refine lv_aload_n hx hb dX4_kinds_6 rfl (lv_at hl 0 rfl) ?_
  refine lv_aload_n hx hb dX4_kinds_7 rfl (lv_at hl 1 rfl) ?_
  refine lv_iload_n hx hb dX4_kinds_8 rfl (lv_at hl 3 rfl) ?_
  refine va_csr (va_Run.run (va_runV (As := [.int (nI j)]) (rest := [.ref (ad (3 * i))]) ⟨hx, hb, hml, hown, hts⟩ (m_X4_orderAt l dC dI ad S j (by omega)) (cwV 1 hts gX4_kinds_X4_orderAt rfl rfl rfl hdX4_orderAt_1 ⟨Nat.le_of_ble_eq_true rfl, Nat.le_of_ble_eq_true rfl⟩) (hX.preTop 57 6 (by decide) (by decide) rfl rfl) rfl rfl hl.1 rfl (lv_room (Nat.le_of_ble_eq_true rfl)) dX4_kinds_9 ⟨Nat.le_of_ble_eq_true rfl, Nat.le_of_ble_eq_true rfl⟩)) (fun k_ hk_ => ?_)
  rw [hk_]
  refine kx_cr (v := nI (cntB (firstB (S.2.1 j).2.2.1 (S.1 i).1) (S.1 i).2.2)) (va_runV (As := [.ref (ad (24 + 5 * j))]) (rest := []) ⟨hx, hb, hml, hown, hts⟩ (m_X2_lots l dC dI ad S i j (by omega) (by omega) (hI.1 i (by omega)) (hI.2 j (by omega))) (cwV 1 hts gX4_kinds_X2_lots rfl rfl rfl hdX2_lots_1 ⟨Nat.le_of_ble_eq_true rfl, Nat.le_of_ble_eq_true rfl⟩) (hX.preRow (by omega)) rfl rfl hl.1 rfl (lv_room (Nat.le_of_ble_eq_true rfl)) dX4_kinds_12 ⟨Nat.le_of_ble_eq_true rfl, Nat.le_of_ble_eq_true rfl⟩) (fun _ h => h) ?_
  exact W.iret (v := nI (cntB (firstB (S.2.1 j).2.2.1 (S.1 i).1) (S.1 i).2.2)) hx hb hr (fun t9 ht9 hW9 => ⟨_, rfl, rfl, ht9⟩) (fun _ h => nomatch h) dX4_kinds_15
set_option maxHeartbeats 4000000 in
set_option maxRecDepth 100000 in
theorem m_X4_ahead (l : Launch) (dC : Nat → ClassId) (dI : Nat → Nat → Nat) (ad : Nat → Nat) (S : XS) (i : Nat) (j : Nat) (v : Nat) (hi : i < 3) (hj : j < 4) (hv : v < 16) (hI : InvX S) : Met l yX4_ahead wsX4_ahead ({ frames := 3, cells := 0, slots := 0, locals := 73 } : Room) (va_Pc [.ref (ad 57), .int (nI i), .int (nI j), .int (nI v)] (PX dC dI ad S)) (vp_Si (fun r => r = nI (cntB (fun k => firstB (S.2.1 j).2.2.1 (S.1 i).1 k && decide ((S.2.1 j).2.2.1 ((S.1 i).1 k) < (S.2.1 j).2.2.1 v)) (S.1 i).2.2))) 0 0 (fun _ => False) := by
  refine Met.ofW (cc := cX4_ahead) (maxL := 6) (ret := (some .int)) pl_X4 rfl ?_
  intro p e s m args below meth c s₁ B hml hv
  obtain ⟨rfl, hPX⟩ := hv
  have hx := B.exec
  have hb := B.bytes
  have hr := B.returns
  have hts := atoms_spec (ws := wsX4_ahead) B.pre
  have hown : s.vm.findClass RX4 = some m.cls := findClass_of_methodNamed B.named
  have hlocks := B.notSynchronized
  have hX := WX.of hPX
  have hl := lv_entry ([.ref (ad 57), .int (nI i), .int (nI j), .int (nI v)]) (n := 6) (Nat.le_of_ble_eq_true rfl)
  rw [lg_entry_eq]
  generalize (lg_sl ([.ref (ad 57), .int (nI i), .int (nI j), .int (nI v)]) ++ List.replicate (6 - (lg_sl ([.ref (ad 57), .int (nI i), .int (nI j), .int (nI v)])).length) Slot.unset).toArray = ls at hl ⊢
  have hl : lv_has ls 6 [(0, .ref (ad 57)), (1, .int (nI i)), (2, .int (nI j)), (3, .int (nI v))] := hl
  show W p l e ({ frames := 3, cells := 0, slots := 0, locals := 73 } : Room) s m ([.ref (ad 57), .int (nI i), .int (nI j), .int (nI v)]).toArray below meth c s.heap [] 0 0 (MQ below (vp_Si (fun r => r = nI (cntB (fun k => firstB (S.2.1 j).2.2.1 (S.1 i).1 k && decide ((S.2.1 j).2.2.1 ((S.1 i).1 k) < (S.2.1 j).2.2.1 v)) (S.1 i).2.2))) ([.ref (ad 57), .int (nI i), .int (nI j), .int (nI v)]).toArray s 0 0 (fun _ => False)) (F0 m 0 ls [])
  have hn := (hI.1 i (by omega)).1
  refine lv_aload_n hx hb dX4_ahead_0 rfl (lv_at hl 0 rfl) ?_
  refine lv_iload_n hx hb dX4_ahead_1 rfl (lv_at hl 1 rfl) ?_
  refine va_csr (va_Run.run (va_runV (As := [.int (nI i)]) (rest := []) ⟨hx, hb, hml, hown, hts⟩ (m_X4_rowAt l dC dI ad S i (by omega)) (cwV 1 hts gX4_ahead_X4_rowAt rfl rfl rfl hdX4_rowAt_1 ⟨Nat.le_of_ble_eq_true rfl, Nat.le_of_ble_eq_true rfl⟩) (hX.preTop 57 6 (by decide) (by decide) rfl rfl) rfl rfl hl.1 rfl (lv_room (Nat.le_of_ble_eq_true rfl)) dX4_ahead_2 ⟨Nat.le_of_ble_eq_true rfl, Nat.le_of_ble_eq_true rfl⟩)) (fun k_ hk_ => ?_)
  rw [hk_]
  refine lv_astore (lv' := [(4, .ref (ad (3 * i))), (0, .ref (ad 57)), (1, .int (nI i)), (2, .int (nI j)), (3, .int (nI v))]) hx hb dX4_ahead_5 hl (by decide) rfl (fun ls hl => ?_)
  refine lv_aload_n hx hb dX4_ahead_7 rfl (lv_at hl 1 rfl) ?_
  refine lv_iload_n hx hb dX4_ahead_8 rfl (lv_at hl 3 rfl) ?_
  refine va_csr (va_Run.run (va_runV (As := [.int (nI j)]) (rest := []) ⟨hx, hb, hml, hown, hts⟩ (m_X4_orderAt l dC dI ad S j (by omega)) (cwV 1 hts gX4_ahead_X4_orderAt rfl rfl rfl hdX4_orderAt_1 ⟨Nat.le_of_ble_eq_true rfl, Nat.le_of_ble_eq_true rfl⟩) (hX.preTop 57 6 (by decide) (by decide) rfl rfl) rfl rfl hl.1 rfl (lv_room (Nat.le_of_ble_eq_true rfl)) dX4_ahead_9 ⟨Nat.le_of_ble_eq_true rfl, Nat.le_of_ble_eq_true rfl⟩)) (fun k_ hk_ => ?_)
  rw [hk_]
  refine lv_astore (lv' := [(5, .ref (ad (24 + 5 * j))), (4, .ref (ad (3 * i))), (0, .ref (ad 57)), (1, .int (nI i)), (2, .int (nI j)), (3, .int (nI v))]) hx hb dX4_ahead_12 hl (by decide) rfl (fun ls hl => ?_)
  refine lv_iload_n hx hb dX4_ahead_14 rfl (lv_at hl 5 rfl) ?_
  refine va_csv (va_Run.run (va_runS (As := [.int (nI v)]) (rest := []) ⟨hx, hb, hml, hown, hts⟩ (m_X4_demandValue l dC dI ad S v (by omega)) (va_cwS 1 hts gX4_ahead_X4_demandValue rfl rfl rfl hdX4_demandValue_1.2 ⟨Nat.le_of_ble_eq_true rfl, Nat.le_of_ble_eq_true rfl⟩) hX.preS rfl rfl hl.1 rfl (lv_room (Nat.le_of_ble_eq_true rfl)) dX4_ahead_15 ⟨Nat.le_of_ble_eq_true rfl, Nat.le_of_ble_eq_true rfl⟩)) (fun _ => ?_)
  refine lv_aload hx hb dX4_ahead_18 (lv_at hl 1 rfl) ?_
  refine lv_aload hx hb dX4_ahead_20 (lv_at hl 0 rfl) ?_
  refine lv_iload_n hx hb dX4_ahead_22 rfl (lv_at hl 5 rfl) ?_
  refine kx_cr (v := nI (cntB (fun k => firstB (S.2.1 j).2.2.1 (S.1 i).1 k && decide ((S.2.1 j).2.2.1 ((S.1 i).1 k) < (S.2.1 j).2.2.1 v)) (S.1 i).2.2)) (va_runV (As := [.ref (ad (24 + 5 * j)), .int (nI v)]) (rest := []) ⟨hx, hb, hml, hown, hts⟩ (m_X2_lotsAhead l dC dI ad S i j v (by omega) (by omega) (hI.1 i (by omega)) (hI.2 j (by omega)) (by omega)) (cwV 2 hts gX4_ahead_X2_lotsAhead rfl rfl rfl hdX2_lotsAhead_2 ⟨Nat.le_of_ble_eq_true rfl, Nat.le_of_ble_eq_true rfl⟩) (hX.preRow (by omega)) rfl rfl hl.1 rfl (lv_room (Nat.le_of_ble_eq_true rfl)) dX4_ahead_23 ⟨Nat.le_of_ble_eq_true rfl, Nat.le_of_ble_eq_true rfl⟩) (fun _ h => h) ?_
  exact W.iret (v := nI (cntB (fun k => firstB (S.2.1 j).2.2.1 (S.1 i).1 k && decide ((S.2.1 j).2.2.1 ((S.1 i).1 k) < (S.2.1 j).2.2.1 v)) (S.1 i).2.2)) hx hb hr (fun t9 ht9 hW9 => ⟨_, rfl, rfl, ht9⟩) (fun _ h => nomatch h) dX4_ahead_26
set_option maxHeartbeats 4000000 in
set_option maxRecDepth 100000 in
theorem m_X4_extreme (l : Launch) (dC : Nat → ClassId) (dI : Nat → Nat → Nat) (ad : Nat → Nat) (S : XS) (i : Nat) (j : Nat) (z : Bool) (hi : i < 3) (hj : j < 4) (hI : InvX S) : Met l yX4_extreme wsX4_extreme ({ frames := 2, cells := 0, slots := 0, locals := 49 } : Room) (va_Pc [.ref (ad 57), .int (nI i), .int (nI j), .int (bI z)] (PX dC dI ad S)) (vp_Si (fun r => r = exI (if z then bestB (fun _ => true) (fun a b => decide ((S.2.1 j).2.2.1 ((S.1 i).1 b) < (S.2.1 j).2.2.1 ((S.1 i).1 a))) (S.1 i).2.2 else bestB (fun _ => true) (fun a b => decide ((S.2.1 j).2.2.1 ((S.1 i).1 a) < (S.2.1 j).2.2.1 ((S.1 i).1 b))) (S.1 i).2.2) (fun b => (S.2.1 j).2.2.2.1 ((S.1 i).1 b)))) 0 0 (fun _ => False) := by
  refine Met.ofW (cc := cX4_extreme) (maxL := 7) (ret := (some .int)) pl_X4 rfl ?_
  intro p e s m args below meth c s₁ B hml hv
  obtain ⟨rfl, hPX⟩ := hv
  have hx := B.exec
  have hb := B.bytes
  have hr := B.returns
  have hts := atoms_spec (ws := wsX4_extreme) B.pre
  have hown : s.vm.findClass RX4 = some m.cls := findClass_of_methodNamed B.named
  have hlocks := B.notSynchronized
  have hX := WX.of hPX
  have hl := lv_entry ([.ref (ad 57), .int (nI i), .int (nI j), .int (bI z)]) (n := 7) (Nat.le_of_ble_eq_true rfl)
  rw [lg_entry_eq]
  generalize (lg_sl ([.ref (ad 57), .int (nI i), .int (nI j), .int (bI z)]) ++ List.replicate (7 - (lg_sl ([.ref (ad 57), .int (nI i), .int (nI j), .int (bI z)])).length) Slot.unset).toArray = ls at hl ⊢
  have hl : lv_has ls 7 [(0, .ref (ad 57)), (1, .int (nI i)), (2, .int (nI j)), (3, .int (bI z))] := hl
  show W p l e ({ frames := 2, cells := 0, slots := 0, locals := 49 } : Room) s m ([.ref (ad 57), .int (nI i), .int (nI j), .int (bI z)]).toArray below meth c s.heap [] 0 0 (MQ below (vp_Si (fun r => r = exI (if z then bestB (fun _ => true) (fun a b => decide ((S.2.1 j).2.2.1 ((S.1 i).1 b) < (S.2.1 j).2.2.1 ((S.1 i).1 a))) (S.1 i).2.2 else bestB (fun _ => true) (fun a b => decide ((S.2.1 j).2.2.1 ((S.1 i).1 a) < (S.2.1 j).2.2.1 ((S.1 i).1 b))) (S.1 i).2.2) (fun b => (S.2.1 j).2.2.2.1 ((S.1 i).1 b)))) ([.ref (ad 57), .int (nI i), .int (nI j), .int (bI z)]).toArray s 0 0 (fun _ => False)) (F0 m 0 ls [])
  have hn := (hI.1 i (by omega)).1
  refine lv_aload_n hx hb dX4_extreme_0 rfl (lv_at hl 0 rfl) ?_
  refine lv_iload_n hx hb dX4_extreme_1 rfl (lv_at hl 1 rfl) ?_
  refine va_csr (va_Run.run (va_runV (As := [.int (nI i)]) (rest := []) ⟨hx, hb, hml, hown, hts⟩ (m_X4_rowAt l dC dI ad S i (by omega)) (cwV 1 hts gX4_extreme_X4_rowAt rfl rfl rfl hdX4_rowAt_1 ⟨Nat.le_of_ble_eq_true rfl, Nat.le_of_ble_eq_true rfl⟩) (hX.preTop 57 6 (by decide) (by decide) rfl rfl) rfl rfl hl.1 rfl (lv_room (Nat.le_of_ble_eq_true rfl)) dX4_extreme_2 ⟨Nat.le_of_ble_eq_true rfl, Nat.le_of_ble_eq_true rfl⟩)) (fun k_ hk_ => ?_)
  rw [hk_]
  refine lv_astore (lv' := [(4, .ref (ad (3 * i))), (0, .ref (ad 57)), (1, .int (nI i)), (2, .int (nI j)), (3, .int (bI z))]) hx hb dX4_extreme_5 hl (by decide) rfl (fun ls hl => ?_)
  refine lv_aload_n hx hb dX4_extreme_7 rfl (lv_at hl 1 rfl) ?_
  refine lv_iload_n hx hb dX4_extreme_8 rfl (lv_at hl 3 rfl) ?_
  refine va_csr (va_Run.run (va_runV (As := [.int (nI j)]) (rest := []) ⟨hx, hb, hml, hown, hts⟩ (m_X4_orderAt l dC dI ad S j (by omega)) (cwV 1 hts gX4_extreme_X4_orderAt rfl rfl rfl hdX4_orderAt_1 ⟨Nat.le_of_ble_eq_true rfl, Nat.le_of_ble_eq_true rfl⟩) (hX.preTop 57 6 (by decide) (by decide) rfl rfl) rfl rfl hl.1 rfl (lv_room (Nat.le_of_ble_eq_true rfl)) dX4_extreme_9 ⟨Nat.le_of_ble_eq_true rfl, Nat.le_of_ble_eq_true rfl⟩)) (fun k_ hk_ => ?_)
  rw [hk_]
  refine lv_astore (lv' := [(5, .ref (ad (24 + 5 * j))), (4, .ref (ad (3 * i))), (0, .ref (ad 57)), (1, .int (nI i)), (2, .int (nI j)), (3, .int (bI z))]) hx hb dX4_extreme_12 hl (by decide) rfl (fun ls hl => ?_)
  refine lv_iload_n hx hb dX4_extreme_14 rfl (lv_at hl 5 rfl) ?_
  refine kb_if_eq (tgt := 28) hx hb dX4_extreme_15 (by decide) (fun k_1 => ?_) (fun k_1 => ?_)
  · skip
    have hz := k_1
    refine lv_aload hx hb dX4_extreme_28 (lv_at hl 1 rfl) ?_
    refine lv_aload hx hb dX4_extreme_30 (lv_at hl 0 rfl) ?_
    refine kx_cr (v := (oI (bestB (fun _ => true) (fun a b => decide ((S.2.1 j).2.2.1 ((S.1 i).1 a) < (S.2.1 j).2.2.1 ((S.1 i).1 b))) (S.1 i).2.2))) (va_runV (As := [.ref (ad (24 + 5 * j))]) (rest := []) ⟨hx, hb, hml, hown, hts⟩ (m_X2_firstPlaceBy l dC dI ad S i j (by omega) (by omega) (hI.1 i (by omega)) (hI.2 j (by omega))) (cwV 1 hts gX4_extreme_X2_firstPlaceBy rfl rfl rfl hdX2_firstPlaceBy_1 ⟨Nat.le_of_ble_eq_true rfl, Nat.le_of_ble_eq_true rfl⟩) (hX.preRow (by omega)) rfl rfl hl.1 rfl (lv_room (Nat.le_of_ble_eq_true rfl)) dX4_extreme_32 ⟨Nat.le_of_ble_eq_true rfl, Nat.le_of_ble_eq_true rfl⟩) (fun _ h => h) ?_
    rcases hq9 : (bestB (fun _ => true) (fun a b => decide ((S.2.1 j).2.2.1 ((S.1 i).1 a) < (S.2.1 j).2.2.1 ((S.1 i).1 b))) (S.1 i).2.2) with _ | bb
    · skip
      refine lv_istore (lv' := [(6, .int (oI none)), (5, .ref (ad (24 + 5 * j))), (4, .ref (ad (3 * i))), (0, .ref (ad 57)), (1, .int (nI i)), (2, .int (nI j)), (3, .int (bI z))]) hx hb dX4_extreme_35 hl (by decide) rfl (fun ls hl => ?_)
      refine lv_iload hx hb dX4_extreme_37 (lv_at hl 0 rfl) ?_
      refine lv_iconst (v := (-1)) hx hb dX4_extreme_39 (by decide) ?_
      refine lv_icmp_ne (tgt := 47) hx hb dX4_extreme_40 (by decide) (fun k_2 => absurd rfl k_2) (fun k_2 => ?_)
      refine lv_iconst (v := (-1)) hx hb dX4_extreme_43 (by decide) ?_
      refine lv_goto (tgt := 59) hx hb dX4_extreme_44 (by decide) ?_
      exact W.iret (v := (-1)) hx hb hr (fun t9 ht9 hW9 => ⟨_, rfl, (by rw [hz, if_neg (by decide)]; first | done | rfl), ht9⟩) (fun _ h => nomatch h) dX4_extreme_59
    · skip
      have hbb := bestB_lt hq9
      have hb1 := hbb.1
      refine lv_istore (lv' := [(6, .int (nI bb)), (5, .ref (ad (24 + 5 * j))), (4, .ref (ad (3 * i))), (0, .ref (ad 57)), (1, .int (nI i)), (2, .int (nI j)), (3, .int (bI z))]) hx hb dX4_extreme_35 hl (by decide) rfl (fun ls hl => ?_)
      refine lv_iload hx hb dX4_extreme_37 (lv_at hl 0 rfl) ?_
      refine lv_iconst (v := (-1)) hx hb dX4_extreme_39 (by decide) ?_
      refine lv_icmp_ne (tgt := 47) hx hb dX4_extreme_40 (by decide) (fun k_3 => ?_) (fun k_3 => absurd k_3 (nI_nm1 (by omega)))
      refine lv_aload hx hb dX4_extreme_47 (lv_at hl 1 rfl) ?_
      refine lv_aload hx hb dX4_extreme_49 (lv_at hl 2 rfl) ?_
      refine lv_iload hx hb dX4_extreme_51 (lv_at hl 0 rfl) ?_
      refine kx_cr (v := nI (((S.1 i).1) bb)) (va_runV (As := [.int (nI bb)]) (rest := [.ref (ad (24 + 5 * j))]) ⟨hx, hb, hml, hown, hts⟩ (m_X2_valueOn l dC dI ad S i bb (by omega) (by omega)) (cwV 1 hts gX4_extreme_X2_valueOn rfl rfl rfl hdX2_valueOn_1 ⟨Nat.le_of_ble_eq_true rfl, Nat.le_of_ble_eq_true rfl⟩) (hX.preRow (by omega)) rfl rfl hl.1 rfl (lv_room (Nat.le_of_ble_eq_true rfl)) dX4_extreme_53 ⟨Nat.le_of_ble_eq_true rfl, Nat.le_of_ble_eq_true rfl⟩) (fun _ h => h) ?_
      refine kx_cr (v := nI (((S.2.1 j).2.2.2.1) (((S.1 i).1) bb))) (va_runV (As := [.int (nI (((S.1 i).1) bb))]) (rest := []) ⟨hx, hb, hml, hown, hts⟩ (m_X1_rankOf l dC dI ad S j (((S.1 i).1) bb) (by omega) ((hI.1 i (by omega)).2 _ (by omega)).1) (cwV 1 hts gX4_extreme_X1_rankOf rfl rfl rfl hdX1_rankOf_1 ⟨Nat.le_of_ble_eq_true rfl, Nat.le_of_ble_eq_true rfl⟩) (hX.preOrd (by omega)) rfl rfl hl.1 rfl (lv_room (Nat.le_of_ble_eq_true rfl)) dX4_extreme_56 ⟨Nat.le_of_ble_eq_true rfl, Nat.le_of_ble_eq_true rfl⟩) (fun _ h => h) ?_
      exact W.iret (v := nI (((S.2.1 j).2.2.2.1) (((S.1 i).1) bb))) hx hb hr (fun t9 ht9 hW9 => ⟨_, rfl, (by rw [hz, if_neg (by decide)]; first | done | rfl), ht9⟩) (fun _ h => nomatch h) dX4_extreme_59
  · skip
    have hz := k_1
    refine lv_aload hx hb dX4_extreme_18 (lv_at hl 1 rfl) ?_
    refine lv_aload hx hb dX4_extreme_20 (lv_at hl 0 rfl) ?_
    refine kx_cr (v := (oI (bestB (fun _ => true) (fun a b => decide ((S.2.1 j).2.2.1 ((S.1 i).1 b) < (S.2.1 j).2.2.1 ((S.1 i).1 a))) (S.1 i).2.2))) (va_runV (As := [.ref (ad (24 + 5 * j))]) (rest := []) ⟨hx, hb, hml, hown, hts⟩ (m_X2_lastPlaceBy l dC dI ad S i j (by omega) (by omega) (hI.1 i (by omega)) (hI.2 j (by omega))) (cwV 1 hts gX4_extreme_X2_lastPlaceBy rfl rfl rfl hdX2_lastPlaceBy_1 ⟨Nat.le_of_ble_eq_true rfl, Nat.le_of_ble_eq_true rfl⟩) (hX.preRow (by omega)) rfl rfl hl.1 rfl (lv_room (Nat.le_of_ble_eq_true rfl)) dX4_extreme_22 ⟨Nat.le_of_ble_eq_true rfl, Nat.le_of_ble_eq_true rfl⟩) (fun _ h => h) ?_
    refine lv_goto (tgt := 35) hx hb dX4_extreme_25 (by decide) ?_
    rcases hq9 : (bestB (fun _ => true) (fun a b => decide ((S.2.1 j).2.2.1 ((S.1 i).1 b) < (S.2.1 j).2.2.1 ((S.1 i).1 a))) (S.1 i).2.2) with _ | bb
    · skip
      refine lv_istore (lv' := [(6, .int (oI none)), (5, .ref (ad (24 + 5 * j))), (4, .ref (ad (3 * i))), (0, .ref (ad 57)), (1, .int (nI i)), (2, .int (nI j)), (3, .int (bI z))]) hx hb dX4_extreme_35 hl (by decide) rfl (fun ls hl => ?_)
      refine lv_iload hx hb dX4_extreme_37 (lv_at hl 0 rfl) ?_
      refine lv_iconst (v := (-1)) hx hb dX4_extreme_39 (by decide) ?_
      refine lv_icmp_ne (tgt := 47) hx hb dX4_extreme_40 (by decide) (fun k_4 => absurd rfl k_4) (fun k_4 => ?_)
      refine lv_iconst (v := (-1)) hx hb dX4_extreme_43 (by decide) ?_
      refine lv_goto (tgt := 59) hx hb dX4_extreme_44 (by decide) ?_
      exact W.iret (v := (-1)) hx hb hr (fun t9 ht9 hW9 => ⟨_, rfl, (by rw [hz, if_pos rfl]; first | done | rfl), ht9⟩) (fun _ h => nomatch h) dX4_extreme_59
    · skip
      have hbb := bestB_lt hq9
      have hb1 := hbb.1
      refine lv_istore (lv' := [(6, .int (nI bb)), (5, .ref (ad (24 + 5 * j))), (4, .ref (ad (3 * i))), (0, .ref (ad 57)), (1, .int (nI i)), (2, .int (nI j)), (3, .int (bI z))]) hx hb dX4_extreme_35 hl (by decide) rfl (fun ls hl => ?_)
      refine lv_iload hx hb dX4_extreme_37 (lv_at hl 0 rfl) ?_
      refine lv_iconst (v := (-1)) hx hb dX4_extreme_39 (by decide) ?_
      refine lv_icmp_ne (tgt := 47) hx hb dX4_extreme_40 (by decide) (fun k_5 => ?_) (fun k_5 => absurd k_5 (nI_nm1 (by omega)))
      refine lv_aload hx hb dX4_extreme_47 (lv_at hl 1 rfl) ?_
      refine lv_aload hx hb dX4_extreme_49 (lv_at hl 2 rfl) ?_
      refine lv_iload hx hb dX4_extreme_51 (lv_at hl 0 rfl) ?_
      refine kx_cr (v := nI (((S.1 i).1) bb)) (va_runV (As := [.int (nI bb)]) (rest := [.ref (ad (24 + 5 * j))]) ⟨hx, hb, hml, hown, hts⟩ (m_X2_valueOn l dC dI ad S i bb (by omega) (by omega)) (cwV 1 hts gX4_extreme_X2_valueOn rfl rfl rfl hdX2_valueOn_1 ⟨Nat.le_of_ble_eq_true rfl, Nat.le_of_ble_eq_true rfl⟩) (hX.preRow (by omega)) rfl rfl hl.1 rfl (lv_room (Nat.le_of_ble_eq_true rfl)) dX4_extreme_53 ⟨Nat.le_of_ble_eq_true rfl, Nat.le_of_ble_eq_true rfl⟩) (fun _ h => h) ?_
      refine kx_cr (v := nI (((S.2.1 j).2.2.2.1) (((S.1 i).1) bb))) (va_runV (As := [.int (nI (((S.1 i).1) bb))]) (rest := []) ⟨hx, hb, hml, hown, hts⟩ (m_X1_rankOf l dC dI ad S j (((S.1 i).1) bb) (by omega) ((hI.1 i (by omega)).2 _ (by omega)).1) (cwV 1 hts gX4_extreme_X1_rankOf rfl rfl rfl hdX1_rankOf_1 ⟨Nat.le_of_ble_eq_true rfl, Nat.le_of_ble_eq_true rfl⟩) (hX.preOrd (by omega)) rfl rfl hl.1 rfl (lv_room (Nat.le_of_ble_eq_true rfl)) dX4_extreme_56 ⟨Nat.le_of_ble_eq_true rfl, Nat.le_of_ble_eq_true rfl⟩) (fun _ h => h) ?_
      exact W.iret (v := nI (((S.2.1 j).2.2.2.1) (((S.1 i).1) bb))) hx hb hr (fun t9 ht9 hW9 => ⟨_, rfl, (by rw [hz, if_pos rfl]; first | done | rfl), ht9⟩) (fun _ h => nomatch h) dX4_extreme_59
set_option maxHeartbeats 4000000 in
set_option maxRecDepth 100000 in
theorem m_X4_near (l : Launch) (dC : Nat → ClassId) (dI : Nat → Nat → Nat) (ad : Nat → Nat) (S : XS) (i : Nat) (j : Nat) (v : Nat) (k : Nat) (hi : i < 3) (hj : j < 4) (hv : v < 16) (hk : k ≤ 3) (hI : InvX S) : Met l yX4_near wsX4_near ({ frames := 3, cells := 0, slots := 0, locals := 76 } : Room) (va_Pc [.ref (ad 57), .int (nI i), .int (nI j), .int (nI v), .int (nI k)] (PX dC dI ad S)) (vp_Si (fun r => r = exI (bestB (fun x => sideB k ((S.2.1 j).2.2.1 ((S.1 i).1 x)) ((S.2.1 j).2.2.1 v)) (fun a b => nearB k ((S.2.1 j).2.2.1 ((S.1 i).1 a)) ((S.2.1 j).2.2.1 ((S.1 i).1 b))) (S.1 i).2.2) (S.1 i).2.1)) 0 0 (fun _ => False) := by
  refine Met.ofW (cc := cX4_near) (maxL := 8) (ret := (some .int)) pl_X4 rfl ?_
  intro p e s m args below meth c s₁ B hml hv
  obtain ⟨rfl, hPX⟩ := hv
  have hx := B.exec
  have hb := B.bytes
  have hr := B.returns
  have hts := atoms_spec (ws := wsX4_near) B.pre
  have hown : s.vm.findClass RX4 = some m.cls := findClass_of_methodNamed B.named
  have hlocks := B.notSynchronized
  have hX := WX.of hPX
  have hl := lv_entry ([.ref (ad 57), .int (nI i), .int (nI j), .int (nI v), .int (nI k)]) (n := 8) (Nat.le_of_ble_eq_true rfl)
  rw [lg_entry_eq]
  generalize (lg_sl ([.ref (ad 57), .int (nI i), .int (nI j), .int (nI v), .int (nI k)]) ++ List.replicate (8 - (lg_sl ([.ref (ad 57), .int (nI i), .int (nI j), .int (nI v), .int (nI k)])).length) Slot.unset).toArray = ls at hl ⊢
  have hl : lv_has ls 8 [(0, .ref (ad 57)), (1, .int (nI i)), (2, .int (nI j)), (3, .int (nI v)), (4, .int (nI k))] := hl
  show W p l e ({ frames := 3, cells := 0, slots := 0, locals := 76 } : Room) s m ([.ref (ad 57), .int (nI i), .int (nI j), .int (nI v), .int (nI k)]).toArray below meth c s.heap [] 0 0 (MQ below (vp_Si (fun r => r = exI (bestB (fun x => sideB k ((S.2.1 j).2.2.1 ((S.1 i).1 x)) ((S.2.1 j).2.2.1 v)) (fun a b => nearB k ((S.2.1 j).2.2.1 ((S.1 i).1 a)) ((S.2.1 j).2.2.1 ((S.1 i).1 b))) (S.1 i).2.2) (S.1 i).2.1)) ([.ref (ad 57), .int (nI i), .int (nI j), .int (nI v), .int (nI k)]).toArray s 0 0 (fun _ => False)) (F0 m 0 ls [])
  have hn := (hI.1 i (by omega)).1
  refine lv_aload_n hx hb dX4_near_0 rfl (lv_at hl 0 rfl) ?_
  refine lv_iload_n hx hb dX4_near_1 rfl (lv_at hl 1 rfl) ?_
  refine va_csr (va_Run.run (va_runV (As := [.int (nI i)]) (rest := []) ⟨hx, hb, hml, hown, hts⟩ (m_X4_rowAt l dC dI ad S i (by omega)) (cwV 1 hts gX4_near_X4_rowAt rfl rfl rfl hdX4_rowAt_1 ⟨Nat.le_of_ble_eq_true rfl, Nat.le_of_ble_eq_true rfl⟩) (hX.preTop 57 6 (by decide) (by decide) rfl rfl) rfl rfl hl.1 rfl (lv_room (Nat.le_of_ble_eq_true rfl)) dX4_near_2 ⟨Nat.le_of_ble_eq_true rfl, Nat.le_of_ble_eq_true rfl⟩)) (fun k_ hk_ => ?_)
  rw [hk_]
  refine lv_astore (lv' := [(5, .ref (ad (3 * i))), (0, .ref (ad 57)), (1, .int (nI i)), (2, .int (nI j)), (3, .int (nI v)), (4, .int (nI k))]) hx hb dX4_near_5 hl (by decide) rfl (fun ls hl => ?_)
  refine lv_aload_n hx hb dX4_near_7 rfl (lv_at hl 1 rfl) ?_
  refine lv_iload_n hx hb dX4_near_8 rfl (lv_at hl 3 rfl) ?_
  refine va_csr (va_Run.run (va_runV (As := [.int (nI j)]) (rest := []) ⟨hx, hb, hml, hown, hts⟩ (m_X4_orderAt l dC dI ad S j (by omega)) (cwV 1 hts gX4_near_X4_orderAt rfl rfl rfl hdX4_orderAt_1 ⟨Nat.le_of_ble_eq_true rfl, Nat.le_of_ble_eq_true rfl⟩) (hX.preTop 57 6 (by decide) (by decide) rfl rfl) rfl rfl hl.1 rfl (lv_room (Nat.le_of_ble_eq_true rfl)) dX4_near_9 ⟨Nat.le_of_ble_eq_true rfl, Nat.le_of_ble_eq_true rfl⟩)) (fun k_ hk_ => ?_)
  rw [hk_]
  refine lv_astore (lv' := [(6, .ref (ad (24 + 5 * j))), (5, .ref (ad (3 * i))), (0, .ref (ad 57)), (1, .int (nI i)), (2, .int (nI j)), (3, .int (nI v)), (4, .int (nI k))]) hx hb dX4_near_12 hl (by decide) rfl (fun ls hl => ?_)
  refine lv_iload_n hx hb dX4_near_14 rfl (lv_at hl 5 rfl) ?_
  refine va_csv (va_Run.run (va_runS (As := [.int (nI v)]) (rest := []) ⟨hx, hb, hml, hown, hts⟩ (m_X4_demandValue l dC dI ad S v (by omega)) (va_cwS 1 hts gX4_near_X4_demandValue rfl rfl rfl hdX4_demandValue_1.2 ⟨Nat.le_of_ble_eq_true rfl, Nat.le_of_ble_eq_true rfl⟩) hX.preS rfl rfl hl.1 rfl (lv_room (Nat.le_of_ble_eq_true rfl)) dX4_near_15 ⟨Nat.le_of_ble_eq_true rfl, Nat.le_of_ble_eq_true rfl⟩)) (fun _ => ?_)
  refine lv_iload hx hb dX4_near_18 (lv_at hl 6 rfl) ?_
  refine lv_iconst (v := nI 3) hx hb dX4_near_20 (by decide) ?_
  refine va_csv (va_Run.run (va_runS (As := [.int (nI k), .int (nI 3)]) (rest := []) ⟨hx, hb, hml, hown, hts⟩ (m_X4_demandWithin l dC dI ad S k 3 (by omega) (by omega)) (va_cwS 2 hts gX4_near_X4_demandWithin rfl rfl rfl hdX4_demandWithin_2.2 ⟨Nat.le_of_ble_eq_true rfl, Nat.le_of_ble_eq_true rfl⟩) hX.preS rfl rfl hl.1 rfl (lv_room (Nat.le_of_ble_eq_true rfl)) dX4_near_21 ⟨Nat.le_of_ble_eq_true rfl, Nat.le_of_ble_eq_true rfl⟩)) (fun _ => ?_)
  refine lv_aload hx hb dX4_near_24 (lv_at hl 1 rfl) ?_
  refine lv_aload hx hb dX4_near_26 (lv_at hl 0 rfl) ?_
  refine lv_iload_n hx hb dX4_near_28 rfl (lv_at hl 5 rfl) ?_
  refine lv_iload hx hb dX4_near_29 (lv_at hl 6 rfl) ?_
  refine kx_cr (v := (oI (bestB (fun x => sideB k ((S.2.1 j).2.2.1 ((S.1 i).1 x)) ((S.2.1 j).2.2.1 v)) (fun a b => nearB k ((S.2.1 j).2.2.1 ((S.1 i).1 a)) ((S.2.1 j).2.2.1 ((S.1 i).1 b))) (S.1 i).2.2))) (va_runV (As := [.ref (ad (24 + 5 * j)), .int (nI v), .int (nI k)]) (rest := []) ⟨hx, hb, hml, hown, hts⟩ (m_X2_nearestPlace l dC dI ad S i j v k (by omega) (by omega) (hI.1 i (by omega)) (hI.2 j (by omega)) (by omega) (by omega)) (cwV 3 hts gX4_near_X2_nearestPlace rfl rfl rfl hdX2_nearestPlace_3 ⟨Nat.le_of_ble_eq_true rfl, Nat.le_of_ble_eq_true rfl⟩) (hX.preRow (by omega)) rfl rfl hl.1 rfl (lv_room (Nat.le_of_ble_eq_true rfl)) dX4_near_31 ⟨Nat.le_of_ble_eq_true rfl, Nat.le_of_ble_eq_true rfl⟩) (fun _ h => h) ?_
  rcases hq9 : (bestB (fun x => sideB k ((S.2.1 j).2.2.1 ((S.1 i).1 x)) ((S.2.1 j).2.2.1 v)) (fun a b => nearB k ((S.2.1 j).2.2.1 ((S.1 i).1 a)) ((S.2.1 j).2.2.1 ((S.1 i).1 b))) (S.1 i).2.2) with _ | bb
  · skip
    refine lv_istore (lv' := [(7, .int (oI none)), (6, .ref (ad (24 + 5 * j))), (5, .ref (ad (3 * i))), (0, .ref (ad 57)), (1, .int (nI i)), (2, .int (nI j)), (3, .int (nI v)), (4, .int (nI k))]) hx hb dX4_near_34 hl (by decide) rfl (fun ls hl => ?_)
    refine lv_iload hx hb dX4_near_36 (lv_at hl 0 rfl) ?_
    refine lv_iconst (v := (-1)) hx hb dX4_near_38 (by decide) ?_
    refine lv_icmp_ne (tgt := 46) hx hb dX4_near_39 (by decide) (fun k_1 => absurd rfl k_1) (fun k_1 => ?_)
    refine lv_iconst (v := (-1)) hx hb dX4_near_42 (by decide) ?_
    refine lv_goto (tgt := 53) hx hb dX4_near_43 (by decide) ?_
    exact W.iret (v := (-1)) hx hb hr (fun t9 ht9 hW9 => ⟨_, rfl, rfl, ht9⟩) (fun _ h => nomatch h) dX4_near_53
  · skip
    have hbb := bestB_lt hq9
    have hb1 := hbb.1
    refine lv_istore (lv' := [(7, .int (nI bb)), (6, .ref (ad (24 + 5 * j))), (5, .ref (ad (3 * i))), (0, .ref (ad 57)), (1, .int (nI i)), (2, .int (nI j)), (3, .int (nI v)), (4, .int (nI k))]) hx hb dX4_near_34 hl (by decide) rfl (fun ls hl => ?_)
    refine lv_iload hx hb dX4_near_36 (lv_at hl 0 rfl) ?_
    refine lv_iconst (v := (-1)) hx hb dX4_near_38 (by decide) ?_
    refine lv_icmp_ne (tgt := 46) hx hb dX4_near_39 (by decide) (fun k_2 => ?_) (fun k_2 => absurd k_2 (nI_nm1 (by omega)))
    refine lv_aload hx hb dX4_near_46 (lv_at hl 2 rfl) ?_
    refine lv_iload hx hb dX4_near_48 (lv_at hl 0 rfl) ?_
    refine kx_cr (v := nI (((S.1 i).2.1) bb)) (va_runV (As := [.int (nI bb)]) (rest := []) ⟨hx, hb, hml, hown, hts⟩ (m_X2_markOn l dC dI ad S i bb (by omega) (by omega)) (cwV 1 hts gX4_near_X2_markOn rfl rfl rfl hdX2_markOn_1 ⟨Nat.le_of_ble_eq_true rfl, Nat.le_of_ble_eq_true rfl⟩) (hX.preRow (by omega)) rfl rfl hl.1 rfl (lv_room (Nat.le_of_ble_eq_true rfl)) dX4_near_50 ⟨Nat.le_of_ble_eq_true rfl, Nat.le_of_ble_eq_true rfl⟩) (fun _ h => h) ?_
    exact W.iret (v := nI (((S.1 i).2.1) bb)) hx hb hr (fun t9 ht9 hW9 => ⟨_, rfl, rfl, ht9⟩) (fun _ h => nomatch h) dX4_near_53
set_option maxHeartbeats 4000000 in
set_option maxRecDepth 100000 in
theorem m_X4_search (l : Launch) (dC : Nat → ClassId) (dI : Nat → Nat → Nat) (ad : Nat → Nat) (S : XS) (i : Nat) (j : Nat) (v : Nat) (hi : i < 3) (hj : j < 4) (hv : v < 16) (hI : InvX S) : Met l yX4_search wsX4_search ({ frames := 2, cells := 0, slots := 0, locals := 50 } : Room) (va_Pc [.ref (ad 57), .int (nI i), .int (nI j), .int (nI v)] (PX dC dI ad S)) (va_Qi (fun r S' => (seqB (S.2.1 j).2.2.1 (S.1 i).1 (S.1 i).2.2 = false ∧ r = -9 ∧ S' = refT S) ∨ (seqB (S.2.1 j).2.2.1 (S.1 i).1 (S.1 i).2.2 = true ∧ r = (if ∃ k, k < (S.1 i).2.2 ∧ (S.2.1 j).2.2.1 ((S.1 i).1 k) = (S.2.1 j).2.2.1 v then 16 else nI (cntB (fun k => decide ((S.2.1 j).2.2.1 ((S.1 i).1 k) < (S.2.1 j).2.2.1 v)) (S.1 i).2.2)) ∧ S' = S)) (PX dC dI ad) (AX ad)) 0 0 (AX ad) := by
  refine Met.ofW (cc := cX4_search) (maxL := 6) (ret := (some .int)) pl_X4 rfl ?_
  intro p e s m args below meth c s₁ B hml hv
  obtain ⟨rfl, hPX⟩ := hv
  have hx := B.exec
  have hb := B.bytes
  have hr := B.returns
  have hts := atoms_spec (ws := wsX4_search) B.pre
  have hown : s.vm.findClass RX4 = some m.cls := findClass_of_methodNamed B.named
  have hlocks := B.notSynchronized
  have hX := WX.of hPX
  have hl := lv_entry ([.ref (ad 57), .int (nI i), .int (nI j), .int (nI v)]) (n := 6) (Nat.le_of_ble_eq_true rfl)
  rw [lg_entry_eq]
  generalize (lg_sl ([.ref (ad 57), .int (nI i), .int (nI j), .int (nI v)]) ++ List.replicate (6 - (lg_sl ([.ref (ad 57), .int (nI i), .int (nI j), .int (nI v)])).length) Slot.unset).toArray = ls at hl ⊢
  have hl : lv_has ls 6 [(0, .ref (ad 57)), (1, .int (nI i)), (2, .int (nI j)), (3, .int (nI v))] := hl
  show W p l e ({ frames := 2, cells := 0, slots := 0, locals := 50 } : Room) s m ([.ref (ad 57), .int (nI i), .int (nI j), .int (nI v)]).toArray below meth c s.heap [] 0 0 (MQ below (va_Qi (fun r S' => (seqB (S.2.1 j).2.2.1 (S.1 i).1 (S.1 i).2.2 = false ∧ r = -9 ∧ S' = refT S) ∨ (seqB (S.2.1 j).2.2.1 (S.1 i).1 (S.1 i).2.2 = true ∧ r = (if ∃ k, k < (S.1 i).2.2 ∧ (S.2.1 j).2.2.1 ((S.1 i).1 k) = (S.2.1 j).2.2.1 v then 16 else nI (cntB (fun k => decide ((S.2.1 j).2.2.1 ((S.1 i).1 k) < (S.2.1 j).2.2.1 v)) (S.1 i).2.2)) ∧ S' = S)) (PX dC dI ad) (AX ad)) ([.ref (ad 57), .int (nI i), .int (nI j), .int (nI v)]).toArray s 0 0 (AX ad)) (F0 m 0 ls [])
  have hn := (hI.1 i (by omega)).1
  refine lv_aload_n hx hb dX4_search_0 rfl (lv_at hl 0 rfl) ?_
  refine lv_iload_n hx hb dX4_search_1 rfl (lv_at hl 1 rfl) ?_
  refine va_csr (va_Run.run (va_runV (As := [.int (nI i)]) (rest := []) ⟨hx, hb, hml, hown, hts⟩ (m_X4_rowAt l dC dI ad S i (by omega)) (cwV 1 hts gX4_search_X4_rowAt rfl rfl rfl hdX4_rowAt_1 ⟨Nat.le_of_ble_eq_true rfl, Nat.le_of_ble_eq_true rfl⟩) (hX.preTop 57 6 (by decide) (by decide) rfl rfl) rfl rfl hl.1 rfl (lv_room (Nat.le_of_ble_eq_true rfl)) dX4_search_2 ⟨Nat.le_of_ble_eq_true rfl, Nat.le_of_ble_eq_true rfl⟩)) (fun k_ hk_ => ?_)
  rw [hk_]
  refine lv_astore (lv' := [(4, .ref (ad (3 * i))), (0, .ref (ad 57)), (1, .int (nI i)), (2, .int (nI j)), (3, .int (nI v))]) hx hb dX4_search_5 hl (by decide) rfl (fun ls hl => ?_)
  refine lv_aload_n hx hb dX4_search_7 rfl (lv_at hl 1 rfl) ?_
  refine lv_iload_n hx hb dX4_search_8 rfl (lv_at hl 3 rfl) ?_
  refine va_csr (va_Run.run (va_runV (As := [.int (nI j)]) (rest := []) ⟨hx, hb, hml, hown, hts⟩ (m_X4_orderAt l dC dI ad S j (by omega)) (cwV 1 hts gX4_search_X4_orderAt rfl rfl rfl hdX4_orderAt_1 ⟨Nat.le_of_ble_eq_true rfl, Nat.le_of_ble_eq_true rfl⟩) (hX.preTop 57 6 (by decide) (by decide) rfl rfl) rfl rfl hl.1 rfl (lv_room (Nat.le_of_ble_eq_true rfl)) dX4_search_9 ⟨Nat.le_of_ble_eq_true rfl, Nat.le_of_ble_eq_true rfl⟩)) (fun k_ hk_ => ?_)
  rw [hk_]
  refine lv_astore (lv' := [(5, .ref (ad (24 + 5 * j))), (4, .ref (ad (3 * i))), (0, .ref (ad 57)), (1, .int (nI i)), (2, .int (nI j)), (3, .int (nI v))]) hx hb dX4_search_12 hl (by decide) rfl (fun ls hl => ?_)
  refine lv_iload_n hx hb dX4_search_14 rfl (lv_at hl 5 rfl) ?_
  refine va_csv (va_Run.run (va_runS (As := [.int (nI v)]) (rest := []) ⟨hx, hb, hml, hown, hts⟩ (m_X4_demandValue l dC dI ad S v (by omega)) (va_cwS 1 hts gX4_search_X4_demandValue rfl rfl rfl hdX4_demandValue_1.2 ⟨Nat.le_of_ble_eq_true rfl, Nat.le_of_ble_eq_true rfl⟩) hX.preS rfl rfl hl.1 rfl (lv_room (Nat.le_of_ble_eq_true rfl)) dX4_search_15 ⟨Nat.le_of_ble_eq_true rfl, Nat.le_of_ble_eq_true rfl⟩)) (fun _ => ?_)
  refine lv_aload hx hb dX4_search_18 (lv_at hl 1 rfl) ?_
  refine lv_aload hx hb dX4_search_20 (lv_at hl 0 rfl) ?_
  refine kx_cr (v := bI (seqB (S.2.1 j).2.2.1 (S.1 i).1 (S.1 i).2.2)) (va_runV (As := [.ref (ad (24 + 5 * j))]) (rest := []) ⟨hx, hb, hml, hown, hts⟩ (m_X2_isInSequenceBy l dC dI ad S i j (by omega) (by omega) (hI.1 i (by omega)) (hI.2 j (by omega))) (cwV 1 hts gX4_search_X2_isInSequenceBy rfl rfl rfl hdX2_isInSequenceBy_1 ⟨Nat.le_of_ble_eq_true rfl, Nat.le_of_ble_eq_true rfl⟩) (hX.preRow (by omega)) rfl rfl hl.1 rfl (lv_room (Nat.le_of_ble_eq_true rfl)) dX4_search_22 ⟨Nat.le_of_ble_eq_true rfl, Nat.le_of_ble_eq_true rfl⟩) (fun _ h => h) ?_
  refine kb_if_ne (tgt := 33) hx hb dX4_search_25 (by decide) (fun k_1 => ?_) (fun k_1 => ?_)
  · skip
    have hs := k_1
    refine lv_aload hx hb dX4_search_33 (lv_at hl 1 rfl) ?_
    refine lv_aload hx hb dX4_search_35 (lv_at hl 0 rfl) ?_
    refine lv_iload_n hx hb dX4_search_37 rfl (lv_at hl 5 rfl) ?_
    refine kx_cr (v := bI (decide (∃ k, k < (S.1 i).2.2 ∧ (S.2.1 j).2.2.1 ((S.1 i).1 k) = (S.2.1 j).2.2.1 v))) (va_runV (As := [.ref (ad (24 + 5 * j)), .int (nI v)]) (rest := []) ⟨hx, hb, hml, hown, hts⟩ (m_X2_hasAlike l dC dI ad S i j v (by omega) (by omega) (hI.1 i (by omega)) (hI.2 j (by omega)) (by omega)) (cwV 2 hts gX4_search_X2_hasAlike rfl rfl rfl hdX2_hasAlike_2 ⟨Nat.le_of_ble_eq_true rfl, Nat.le_of_ble_eq_true rfl⟩) (hX.preRow (by omega)) rfl rfl hl.1 rfl (lv_room (Nat.le_of_ble_eq_true rfl)) dX4_search_38 ⟨Nat.le_of_ble_eq_true rfl, Nat.le_of_ble_eq_true rfl⟩) (fun _ h => h) ?_
    refine kb_if_eq (tgt := 49) hx hb dX4_search_41 (by decide) (fun k_2 => ?_) (fun k_2 => ?_)
    · skip
      have ha := k_2
      refine lv_aload hx hb dX4_search_49 (lv_at hl 1 rfl) ?_
      refine lv_aload hx hb dX4_search_51 (lv_at hl 0 rfl) ?_
      refine lv_iload_n hx hb dX4_search_53 rfl (lv_at hl 5 rfl) ?_
      refine kx_cr (v := nI (cntB (fun k => decide ((S.2.1 j).2.2.1 ((S.1 i).1 k) < (S.2.1 j).2.2.1 v)) (S.1 i).2.2)) (va_runV (As := [.ref (ad (24 + 5 * j)), .int (nI v)]) (rest := []) ⟨hx, hb, hml, hown, hts⟩ (m_X2_thingsAhead l dC dI ad S i j v (by omega) (by omega) (hI.1 i (by omega)) (hI.2 j (by omega)) (by omega)) (cwV 2 hts gX4_search_X2_thingsAhead rfl rfl rfl hdX2_thingsAhead_2 ⟨Nat.le_of_ble_eq_true rfl, Nat.le_of_ble_eq_true rfl⟩) (hX.preRow (by omega)) rfl rfl hl.1 rfl (lv_room (Nat.le_of_ble_eq_true rfl)) dX4_search_54 ⟨Nat.le_of_ble_eq_true rfl, Nat.le_of_ble_eq_true rfl⟩) (fun _ h => h) ?_
      exact W.iret (v := nI (cntB (fun k => decide ((S.2.1 j).2.2.1 ((S.1 i).1 k) < (S.2.1 j).2.2.1 v)) (S.1 i).2.2)) hx hb hr (fun t9 ht9 hW9 => ⟨⟨_, S, rfl, (Or.inr ⟨hs, (if_neg (of_decide_eq_false ha)).symm, rfl⟩), hX.P ht9 hW9⟩, hX.2.2.2.F ht9⟩) hX.2.2.2.2.2 dX4_search_57
    · skip
      have ha := k_2
      refine lv_bipush (v := nI 16) hx hb dX4_search_44 (by decide) ?_
      refine lv_goto (tgt := 57) hx hb dX4_search_46 (by decide) ?_
      exact W.iret (v := nI 16) hx hb hr (fun t9 ht9 hW9 => ⟨⟨_, S, rfl, (Or.inr ⟨hs, (if_pos (of_decide_eq_true ha)).symm, rfl⟩), hX.P ht9 hW9⟩, hX.2.2.2.F ht9⟩) hX.2.2.2.2.2 dX4_search_57
  · skip
    have hs := k_1
    refine lv_aload_n hx hb dX4_search_28 rfl (lv_at hl 2 rfl) ?_
    refine kx_ci (va_runV (As := []) (rest := []) ⟨hx, hb, hml, hown, hts⟩ (m_X4_refuse l dC dI ad S) (cwV 0 hts gX4_search_X4_refuse rfl rfl rfl hdX4_refuse_0 ⟨Nat.le_of_ble_eq_true rfl, Nat.le_of_ble_eq_true rfl⟩) (hX.preTop 57 6 (by decide) (by decide) rfl rfl) rfl rfl hl.1 rfl (lv_room (Nat.le_of_ble_eq_true rfl)) dX4_search_29 ⟨Nat.le_of_ble_eq_true rfl, Nat.le_of_ble_eq_true rfl⟩) hX (fun _ h => h) (fun r_ S_ H locs hw hX => ?_)
    obtain ⟨rfl, rfl⟩ := hw
    exact W.iret (v := (-9)) hx hb hr (fun t9 ht9 hW9 => ⟨⟨_, (xN S (S.2.2.1, S.2.2.2.1 + 1, S.2.2.2.2)), rfl, (Or.inl ⟨hs, rfl, rfl⟩), hX.P ht9 hW9⟩, hX.2.2.2.F ht9⟩) hX.2.2.2.2.2 dX4_search_32
set_option maxHeartbeats 4000000 in
set_option maxRecDepth 100000 in
theorem m_X4_step (l : Launch) (dC : Nat → ClassId) (dI : Nat → Nat → Nat) (ad : Nat → Nat) (S : XS) (j : Nat) (k : Nat) (z : Bool) (hj : j < 4) (hk : k ≤ 7) (hI : InvX S) : Met l yX4_step wsX4_step ({ frames := 4, cells := 0, slots := 0, locals := 91 } : Room) (va_Pc [.ref (ad 57), .int (nI j), .int (nI k), .int (bI z)] (PX dC dI ad S)) (va_Qi (fun r S' => ((S.2.1 j).2.2.2.2.1 < 5 ∧ r = nI (coarseD (S.2.1 j) k z) ∧ S' = xO S j (newO (va_up (S.2.1 j).1 (S.2.1 j).2.2.2.2.1 k) (va_up (S.2.1 j).2.1 (S.2.1 j).2.2.2.2.1 z) ((S.2.1 j).2.2.2.2.1 + 1) (S.2.1 j).2.2.1 (S.2.1 j).2.2.2.1)) ∨ (5 ≤ (S.2.1 j).2.2.2.2.1 ∧ r = -9 ∧ S' = refT S)) (PX dC dI ad) (AX ad)) 0 0 (AX ad) := by
  refine Met.ofW (cc := cX4_step) (maxL := 5) (ret := (some .int)) pl_X4 rfl ?_
  intro p e s m args below meth c s₁ B hml hv
  obtain ⟨rfl, hPX⟩ := hv
  have hx := B.exec
  have hb := B.bytes
  have hr := B.returns
  have hts := atoms_spec (ws := wsX4_step) B.pre
  have hown : s.vm.findClass RX4 = some m.cls := findClass_of_methodNamed B.named
  have hlocks := B.notSynchronized
  have hX := WX.of hPX
  have hl := lv_entry ([.ref (ad 57), .int (nI j), .int (nI k), .int (bI z)]) (n := 5) (Nat.le_of_ble_eq_true rfl)
  rw [lg_entry_eq]
  generalize (lg_sl ([.ref (ad 57), .int (nI j), .int (nI k), .int (bI z)]) ++ List.replicate (5 - (lg_sl ([.ref (ad 57), .int (nI j), .int (nI k), .int (bI z)])).length) Slot.unset).toArray = ls at hl ⊢
  have hl : lv_has ls 5 [(0, .ref (ad 57)), (1, .int (nI j)), (2, .int (nI k)), (3, .int (bI z))] := hl
  show W p l e ({ frames := 4, cells := 0, slots := 0, locals := 91 } : Room) s m ([.ref (ad 57), .int (nI j), .int (nI k), .int (bI z)]).toArray below meth c s.heap [] 0 0 (MQ below (va_Qi (fun r S' => ((S.2.1 j).2.2.2.2.1 < 5 ∧ r = nI (coarseD (S.2.1 j) k z) ∧ S' = xO S j (newO (va_up (S.2.1 j).1 (S.2.1 j).2.2.2.2.1 k) (va_up (S.2.1 j).2.1 (S.2.1 j).2.2.2.2.1 z) ((S.2.1 j).2.2.2.2.1 + 1) (S.2.1 j).2.2.1 (S.2.1 j).2.2.2.1)) ∨ (5 ≤ (S.2.1 j).2.2.2.2.1 ∧ r = -9 ∧ S' = refT S)) (PX dC dI ad) (AX ad)) ([.ref (ad 57), .int (nI j), .int (nI k), .int (bI z)]).toArray s 0 0 (AX ad)) (F0 m 0 ls [])
  have hn := (hI.2 j (by omega)).1.1
  refine lv_aload_n hx hb dX4_step_0 rfl (lv_at hl 0 rfl) ?_
  refine lv_iload_n hx hb dX4_step_1 rfl (lv_at hl 1 rfl) ?_
  refine va_csr (va_Run.run (va_runV (As := [.int (nI j)]) (rest := []) ⟨hx, hb, hml, hown, hts⟩ (m_X4_orderAt l dC dI ad S j (by omega)) (cwV 1 hts gX4_step_X4_orderAt rfl rfl rfl hdX4_orderAt_1 ⟨Nat.le_of_ble_eq_true rfl, Nat.le_of_ble_eq_true rfl⟩) (hX.preTop 57 6 (by decide) (by decide) rfl rfl) rfl rfl hl.1 rfl (lv_room (Nat.le_of_ble_eq_true rfl)) dX4_step_2 ⟨Nat.le_of_ble_eq_true rfl, Nat.le_of_ble_eq_true rfl⟩)) (fun k_ hk_ => ?_)
  rw [hk_]
  refine lv_astore (lv' := [(4, .ref (ad (24 + 5 * j))), (0, .ref (ad 57)), (1, .int (nI j)), (2, .int (nI k)), (3, .int (bI z))]) hx hb dX4_step_5 hl (by decide) rfl (fun ls hl => ?_)
  refine lv_iload_n hx hb dX4_step_7 rfl (lv_at hl 3 rfl) ?_
  refine lv_bipush (v := nI 7) hx hb dX4_step_8 (by decide) ?_
  refine va_csv (va_Run.run (va_runS (As := [.int (nI k), .int (nI 7)]) (rest := []) ⟨hx, hb, hml, hown, hts⟩ (m_X4_demandWithin l dC dI ad S k 7 (by omega) (by omega)) (va_cwS 2 hts gX4_step_X4_demandWithin rfl rfl rfl hdX4_demandWithin_2.2 ⟨Nat.le_of_ble_eq_true rfl, Nat.le_of_ble_eq_true rfl⟩) hX.preS rfl rfl hl.1 rfl (lv_room (Nat.le_of_ble_eq_true rfl)) dX4_step_10 ⟨Nat.le_of_ble_eq_true rfl, Nat.le_of_ble_eq_true rfl⟩)) (fun _ => ?_)
  refine lv_aload hx hb dX4_step_13 (lv_at hl 0 rfl) ?_
  refine kx_cr (v := nI ((S.2.1 j).2.2.2.2.1)) (va_runV (As := []) (rest := []) ⟨hx, hb, hml, hown, hts⟩ (m_X1_length l dC dI ad S j  (by omega)) (cwV 0 hts gX4_step_X1_length rfl rfl rfl hdX1_length_0 ⟨Nat.le_of_ble_eq_true rfl, Nat.le_of_ble_eq_true rfl⟩) (hX.preOrd (by omega)) rfl rfl hl.1 rfl (lv_room (Nat.le_of_ble_eq_true rfl)) dX4_step_15 ⟨Nat.le_of_ble_eq_true rfl, Nat.le_of_ble_eq_true rfl⟩) (fun _ h => h) ?_
  refine lv_iconst (v := nI 5) hx hb dX4_step_18 (by decide) ?_
  refine kn_icmp_lt (tgt := 27) hx hb (by omega) (by omega) dX4_step_19 (by decide) (fun k_1 => ?_) (fun k_1 => ?_)
  · skip
    have hc := k_1
    refine lv_aload hx hb dX4_step_27 (lv_at hl 0 rfl) ?_
    refine lv_iload_n hx hb dX4_step_29 rfl (lv_at hl 3 rfl) ?_
    refine lv_iload_n hx hb dX4_step_30 rfl (lv_at hl 4 rfl) ?_
    refine kx_cv (va_runV (As := [.int (nI k), .int (bI z)]) (rest := []) ⟨hx, hb, hml, hown, hts⟩ (m_X1_append l dC dI ad S j k z (by omega) (hI.2 j (by omega)).1 (show (S.2.1 j).2.2.2.2.1 < 10 by omega) (by omega)) (cwV 2 hts gX4_step_X1_append rfl rfl rfl hdX1_append_2 ⟨Nat.le_of_ble_eq_true rfl, Nat.le_of_ble_eq_true rfl⟩) (hX.preOrd (by omega)) rfl rfl hl.1 rfl (lv_room (Nat.le_of_ble_eq_true rfl)) dX4_step_31 ⟨Nat.le_of_ble_eq_true rfl, Nat.le_of_ble_eq_true rfl⟩) hX (fun _ h => h) (fun S_ H locs hw hX => ?_)
    subst hw
    refine lv_aload hx hb dX4_step_34 (lv_at hl 0 rfl) ?_
    refine kx_cr (v := nI (classC (codeOf (va_up ((S.2.1 j).1) ((S.2.1 j).2.2.2.2.1) k) (va_up ((S.2.1 j).2.1) ((S.2.1 j).2.2.2.2.1) z) ((S.2.1 j).2.2.2.2.1 + 1)))) (va_runV (As := []) (rest := []) ⟨hx, hb, hml, hown, hts⟩ (m_X1_classCount l dC dI ad (xO S j (va_up ((S.2.1 j).1) ((S.2.1 j).2.2.2.2.1) k, va_up ((S.2.1 j).2.1) ((S.2.1 j).2.2.2.2.1) z, ovl (codeOf (va_up ((S.2.1 j).1) ((S.2.1 j).2.2.2.2.1) k) (va_up ((S.2.1 j).2.1) ((S.2.1 j).2.2.2.2.1) z) ((S.2.1 j).2.2.2.2.1 + 1)) ((S.2.1 j).2.2.1) 16, ovl (rankC (codeOf (va_up ((S.2.1 j).1) ((S.2.1 j).2.2.2.2.1) k) (va_up ((S.2.1 j).2.1) ((S.2.1 j).2.2.2.2.1) z) ((S.2.1 j).2.2.2.2.1 + 1))) ((S.2.1 j).2.2.2.1) 16, (S.2.1 j).2.2.2.2.1 + 1, classC (codeOf (va_up ((S.2.1 j).1) ((S.2.1 j).2.2.2.2.1) k) (va_up ((S.2.1 j).2.1) ((S.2.1 j).2.2.2.2.1) z) ((S.2.1 j).2.2.2.2.1 + 1)))) j  (by omega)) (cwV 0 hts gX4_step_X1_classCount rfl rfl rfl hdX1_classCount_0 ⟨Nat.le_of_ble_eq_true rfl, Nat.le_of_ble_eq_true rfl⟩) (hX.preOrd (by omega)) rfl rfl hl.1 rfl (lv_room (Nat.le_of_ble_eq_true rfl)) dX4_step_36 ⟨Nat.le_of_ble_eq_true rfl, Nat.le_of_ble_eq_true rfl⟩) (fun _ h => by rw [h, xO_ord]) ?_
    exact W.iret (v := nI (classC (codeOf (va_up ((S.2.1 j).1) ((S.2.1 j).2.2.2.2.1) k) (va_up ((S.2.1 j).2.1) ((S.2.1 j).2.2.2.2.1) z) ((S.2.1 j).2.2.2.2.1 + 1)))) hx hb hr (fun t9 ht9 hW9 => ⟨⟨_, (xO S j (va_up ((S.2.1 j).1) ((S.2.1 j).2.2.2.2.1) k, va_up ((S.2.1 j).2.1) ((S.2.1 j).2.2.2.2.1) z, ovl (codeOf (va_up ((S.2.1 j).1) ((S.2.1 j).2.2.2.2.1) k) (va_up ((S.2.1 j).2.1) ((S.2.1 j).2.2.2.2.1) z) ((S.2.1 j).2.2.2.2.1 + 1)) ((S.2.1 j).2.2.1) 16, ovl (rankC (codeOf (va_up ((S.2.1 j).1) ((S.2.1 j).2.2.2.2.1) k) (va_up ((S.2.1 j).2.1) ((S.2.1 j).2.2.2.2.1) z) ((S.2.1 j).2.2.2.2.1 + 1))) ((S.2.1 j).2.2.2.1) 16, (S.2.1 j).2.2.2.2.1 + 1, classC (codeOf (va_up ((S.2.1 j).1) ((S.2.1 j).2.2.2.2.1) k) (va_up ((S.2.1 j).2.1) ((S.2.1 j).2.2.2.2.1) z) ((S.2.1 j).2.2.2.2.1 + 1)))), rfl, (Or.inl ⟨hc, rfl, rfl⟩), hX.P ht9 hW9⟩, hX.2.2.2.F ht9⟩) hX.2.2.2.2.2 dX4_step_39
  · skip
    have hc := k_1
    refine lv_aload_n hx hb dX4_step_22 rfl (lv_at hl 1 rfl) ?_
    refine kx_ci (va_runV (As := []) (rest := []) ⟨hx, hb, hml, hown, hts⟩ (m_X4_refuse l dC dI ad S) (cwV 0 hts gX4_step_X4_refuse rfl rfl rfl hdX4_refuse_0 ⟨Nat.le_of_ble_eq_true rfl, Nat.le_of_ble_eq_true rfl⟩) (hX.preTop 57 6 (by decide) (by decide) rfl rfl) rfl rfl hl.1 rfl (lv_room (Nat.le_of_ble_eq_true rfl)) dX4_step_23 ⟨Nat.le_of_ble_eq_true rfl, Nat.le_of_ble_eq_true rfl⟩) hX (fun _ h => h) (fun r_ S_ H locs hw hX => ?_)
    obtain ⟨rfl, rfl⟩ := hw
    exact W.iret (v := (-9)) hx hb hr (fun t9 ht9 hW9 => ⟨⟨_, (xN S (S.2.2.1, S.2.2.2.1 + 1, S.2.2.2.2)), rfl, (Or.inr ⟨hc, rfl, rfl⟩), hX.P ht9 hW9⟩, hX.2.2.2.F ht9⟩) hX.2.2.2.2.2 dX4_step_26
set_option maxHeartbeats 4000000 in
set_option maxRecDepth 100000 in
theorem m_X4_unstep (l : Launch) (dC : Nat → ClassId) (dI : Nat → Nat → Nat) (ad : Nat → Nat) (S : XS) (j : Nat) (hj : j < 4) (hI : InvX S) : Met l yX4_unstep wsX4_unstep ({ frames := 4, cells := 0, slots := 0, locals := 89 } : Room) (va_Pc [.ref (ad 57), .int (nI j)] (PX dC dI ad S)) (va_Qi (fun r S' => ((S.2.1 j).2.2.2.2.1 ≠ 0 ∧ r = nI ((S.2.1 j).1 ((S.2.1 j).2.2.2.2.1 - 1)) ∧ S' = xO S j (newO ((S.2.1 j).1) ((S.2.1 j).2.1) ((S.2.1 j).2.2.2.2.1 - 1) (S.2.1 j).2.2.1 (S.2.1 j).2.2.2.1)) ∨ ((S.2.1 j).2.2.2.2.1 = 0 ∧ r = -9 ∧ S' = refT S)) (PX dC dI ad) (AX ad)) 0 0 (AX ad) := by
  refine Met.ofW (cc := cX4_unstep) (maxL := 4) (ret := (some .int)) pl_X4 rfl ?_
  intro p e s m args below meth c s₁ B hml hv
  obtain ⟨rfl, hPX⟩ := hv
  have hx := B.exec
  have hb := B.bytes
  have hr := B.returns
  have hts := atoms_spec (ws := wsX4_unstep) B.pre
  have hown : s.vm.findClass RX4 = some m.cls := findClass_of_methodNamed B.named
  have hlocks := B.notSynchronized
  have hX := WX.of hPX
  have hl := lv_entry ([.ref (ad 57), .int (nI j)]) (n := 4) (Nat.le_of_ble_eq_true rfl)
  rw [lg_entry_eq]
  generalize (lg_sl ([.ref (ad 57), .int (nI j)]) ++ List.replicate (4 - (lg_sl ([.ref (ad 57), .int (nI j)])).length) Slot.unset).toArray = ls at hl ⊢
  have hl : lv_has ls 4 [(0, .ref (ad 57)), (1, .int (nI j))] := hl
  show W p l e ({ frames := 4, cells := 0, slots := 0, locals := 89 } : Room) s m ([.ref (ad 57), .int (nI j)]).toArray below meth c s.heap [] 0 0 (MQ below (va_Qi (fun r S' => ((S.2.1 j).2.2.2.2.1 ≠ 0 ∧ r = nI ((S.2.1 j).1 ((S.2.1 j).2.2.2.2.1 - 1)) ∧ S' = xO S j (newO ((S.2.1 j).1) ((S.2.1 j).2.1) ((S.2.1 j).2.2.2.2.1 - 1) (S.2.1 j).2.2.1 (S.2.1 j).2.2.2.1)) ∨ ((S.2.1 j).2.2.2.2.1 = 0 ∧ r = -9 ∧ S' = refT S)) (PX dC dI ad) (AX ad)) ([.ref (ad 57), .int (nI j)]).toArray s 0 0 (AX ad)) (F0 m 0 ls [])
  have hn := (hI.2 j (by omega)).1.1
  refine lv_aload_n hx hb dX4_unstep_0 rfl (lv_at hl 0 rfl) ?_
  refine lv_iload_n hx hb dX4_unstep_1 rfl (lv_at hl 1 rfl) ?_
  refine va_csr (va_Run.run (va_runV (As := [.int (nI j)]) (rest := []) ⟨hx, hb, hml, hown, hts⟩ (m_X4_orderAt l dC dI ad S j (by omega)) (cwV 1 hts gX4_unstep_X4_orderAt rfl rfl rfl hdX4_orderAt_1 ⟨Nat.le_of_ble_eq_true rfl, Nat.le_of_ble_eq_true rfl⟩) (hX.preTop 57 6 (by decide) (by decide) rfl rfl) rfl rfl hl.1 rfl (lv_room (Nat.le_of_ble_eq_true rfl)) dX4_unstep_2 ⟨Nat.le_of_ble_eq_true rfl, Nat.le_of_ble_eq_true rfl⟩)) (fun k_ hk_ => ?_)
  rw [hk_]
  refine lv_astore_n (lv' := [(2, .ref (ad (24 + 5 * j))), (0, .ref (ad 57)), (1, .int (nI j))]) hx hb dX4_unstep_5 rfl hl (by decide) rfl (fun ls hl => ?_)
  refine lv_aload_n hx hb dX4_unstep_6 rfl (lv_at hl 0 rfl) ?_
  refine kx_cr (v := nI ((S.2.1 j).2.2.2.2.1)) (va_runV (As := []) (rest := []) ⟨hx, hb, hml, hown, hts⟩ (m_X1_length l dC dI ad S j  (by omega)) (cwV 0 hts gX4_unstep_X1_length rfl rfl rfl hdX1_length_0 ⟨Nat.le_of_ble_eq_true rfl, Nat.le_of_ble_eq_true rfl⟩) (hX.preOrd (by omega)) rfl rfl hl.1 rfl (lv_room (Nat.le_of_ble_eq_true rfl)) dX4_unstep_7 ⟨Nat.le_of_ble_eq_true rfl, Nat.le_of_ble_eq_true rfl⟩) (fun _ h => h) ?_
  refine kn_if_ne (tgt := 18) hx hb (by omega) dX4_unstep_10 (by decide) (fun k_1 => ?_) (fun k_1 => ?_)
  · skip
    have hc := k_1
    refine lv_aload_n hx hb dX4_unstep_18 rfl (lv_at hl 0 rfl) ?_
    refine lv_aload_n hx hb dX4_unstep_19 rfl (lv_at hl 0 rfl) ?_
    refine kx_cr (v := nI ((S.2.1 j).2.2.2.2.1)) (va_runV (As := []) (rest := [.ref (ad (24 + 5 * j))]) ⟨hx, hb, hml, hown, hts⟩ (m_X1_length l dC dI ad S j  (by omega)) (cwV 0 hts gX4_unstep_X1_length rfl rfl rfl hdX1_length_0 ⟨Nat.le_of_ble_eq_true rfl, Nat.le_of_ble_eq_true rfl⟩) (hX.preOrd (by omega)) rfl rfl hl.1 rfl (lv_room (Nat.le_of_ble_eq_true rfl)) dX4_unstep_20 ⟨Nat.le_of_ble_eq_true rfl, Nat.le_of_ble_eq_true rfl⟩) (fun _ h => h) ?_
    refine lv_iconst (v := nI 1) hx hb dX4_unstep_23 (by decide) ?_
    refine kn_isub hx hb (by omega) dX4_unstep_24 ?_
    refine kx_cr (v := nI (((S.2.1 j).1) (((S.2.1 j).2.2.2.2.1) - 1))) (va_runV (As := [.int (nI (((S.2.1 j).2.2.2.2.1) - 1))]) (rest := []) ⟨hx, hb, hml, hown, hts⟩ (m_X1_keyOn l dC dI ad S j (((S.2.1 j).2.2.2.2.1) - 1) (by omega) (by omega)) (cwV 1 hts gX4_unstep_X1_keyOn rfl rfl rfl hdX1_keyOn_1 ⟨Nat.le_of_ble_eq_true rfl, Nat.le_of_ble_eq_true rfl⟩) (hX.preOrd (by omega)) rfl rfl hl.1 rfl (lv_room (Nat.le_of_ble_eq_true rfl)) dX4_unstep_25 ⟨Nat.le_of_ble_eq_true rfl, Nat.le_of_ble_eq_true rfl⟩) (fun _ h => h) ?_
    refine lv_istore_n (lv' := [(3, .int (nI (((S.2.1 j).1) (((S.2.1 j).2.2.2.2.1) - 1)))), (2, .ref (ad (24 + 5 * j))), (0, .ref (ad 57)), (1, .int (nI j))]) hx hb dX4_unstep_28 rfl hl (by decide) rfl (fun ls hl => ?_)
    refine lv_aload_n hx hb dX4_unstep_29 rfl (lv_at hl 1 rfl) ?_
    refine kx_cv (va_runV (As := []) (rest := []) ⟨hx, hb, hml, hown, hts⟩ (m_X1_removeLast l dC dI ad S j (by omega) (hI.2 j (by omega)).1 (by omega)) (cwV 0 hts gX4_unstep_X1_removeLast rfl rfl rfl hdX1_removeLast_0 ⟨Nat.le_of_ble_eq_true rfl, Nat.le_of_ble_eq_true rfl⟩) (hX.preOrd (by omega)) rfl rfl hl.1 rfl (lv_room (Nat.le_of_ble_eq_true rfl)) dX4_unstep_30 ⟨Nat.le_of_ble_eq_true rfl, Nat.le_of_ble_eq_true rfl⟩) hX (fun _ h => h) (fun S_ H locs hw hX => ?_)
    subst hw
    refine lv_iload_n hx hb dX4_unstep_33 rfl (lv_at hl 0 rfl) ?_
    exact W.iret (v := nI (((S.2.1 j).1) (((S.2.1 j).2.2.2.2.1) - 1))) hx hb hr (fun t9 ht9 hW9 => ⟨⟨_, (xO S j ((S.2.1 j).1, (S.2.1 j).2.1, ovl (codeOf ((S.2.1 j).1) ((S.2.1 j).2.1) ((S.2.1 j).2.2.2.2.1 - 1)) ((S.2.1 j).2.2.1) 16, ovl (rankC (codeOf ((S.2.1 j).1) ((S.2.1 j).2.1) ((S.2.1 j).2.2.2.2.1 - 1))) ((S.2.1 j).2.2.2.1) 16, (S.2.1 j).2.2.2.2.1 - 1, classC (codeOf ((S.2.1 j).1) ((S.2.1 j).2.1) ((S.2.1 j).2.2.2.2.1 - 1)))), rfl, (Or.inl ⟨hc, rfl, rfl⟩), hX.P ht9 hW9⟩, hX.2.2.2.F ht9⟩) hX.2.2.2.2.2 dX4_unstep_34
  · skip
    have hc := k_1
    refine lv_aload_n hx hb dX4_unstep_13 rfl (lv_at hl 1 rfl) ?_
    refine kx_ci (va_runV (As := []) (rest := []) ⟨hx, hb, hml, hown, hts⟩ (m_X4_refuse l dC dI ad S) (cwV 0 hts gX4_unstep_X4_refuse rfl rfl rfl hdX4_refuse_0 ⟨Nat.le_of_ble_eq_true rfl, Nat.le_of_ble_eq_true rfl⟩) (hX.preTop 57 6 (by decide) (by decide) rfl rfl) rfl rfl hl.1 rfl (lv_room (Nat.le_of_ble_eq_true rfl)) dX4_unstep_14 ⟨Nat.le_of_ble_eq_true rfl, Nat.le_of_ble_eq_true rfl⟩) hX (fun _ h => h) (fun r_ S_ H locs hw hX => ?_)
    obtain ⟨rfl, rfl⟩ := hw
    exact W.iret (v := (-9)) hx hb hr (fun t9 ht9 hW9 => ⟨⟨_, (xN S (S.2.2.1, S.2.2.2.1 + 1, S.2.2.2.2)), rfl, (Or.inr ⟨hc, rfl, rfl⟩), hX.P ht9 hW9⟩, hX.2.2.2.F ht9⟩) hX.2.2.2.2.2 dX4_unstep_17
set_option maxHeartbeats 4000000 in
set_option maxRecDepth 100000 in
theorem m_X4_wipe (l : Launch) (dC : Nat → ClassId) (dI : Nat → Nat → Nat) (ad : Nat → Nat) (S : XS) (j : Nat) (hj : j < 4) (hI : InvX S) : Met l yX4_wipe wsX4_wipe ({ frames := 4, cells := 0, slots := 0, locals := 89 } : Room) (va_Pc [.ref (ad 57), .int (nI j)] (PX dC dI ad S)) (va_Qi (fun r S' => r = nI (S.2.1 j).2.2.2.2.1 ∧ S' = xO S j (newO ((S.2.1 j).1) ((S.2.1 j).2.1) (0) (S.2.1 j).2.2.1 (S.2.1 j).2.2.2.1)) (PX dC dI ad) (AX ad)) 0 0 (AX ad) := by
  refine Met.ofW (cc := cX4_wipe) (maxL := 4) (ret := (some .int)) pl_X4 rfl ?_
  intro p e s m args below meth c s₁ B hml hv
  obtain ⟨rfl, hPX⟩ := hv
  have hx := B.exec
  have hb := B.bytes
  have hr := B.returns
  have hts := atoms_spec (ws := wsX4_wipe) B.pre
  have hown : s.vm.findClass RX4 = some m.cls := findClass_of_methodNamed B.named
  have hlocks := B.notSynchronized
  have hX := WX.of hPX
  have hl := lv_entry ([.ref (ad 57), .int (nI j)]) (n := 4) (Nat.le_of_ble_eq_true rfl)
  rw [lg_entry_eq]
  generalize (lg_sl ([.ref (ad 57), .int (nI j)]) ++ List.replicate (4 - (lg_sl ([.ref (ad 57), .int (nI j)])).length) Slot.unset).toArray = ls at hl ⊢
  have hl : lv_has ls 4 [(0, .ref (ad 57)), (1, .int (nI j))] := hl
  show W p l e ({ frames := 4, cells := 0, slots := 0, locals := 89 } : Room) s m ([.ref (ad 57), .int (nI j)]).toArray below meth c s.heap [] 0 0 (MQ below (va_Qi (fun r S' => r = nI (S.2.1 j).2.2.2.2.1 ∧ S' = xO S j (newO ((S.2.1 j).1) ((S.2.1 j).2.1) (0) (S.2.1 j).2.2.1 (S.2.1 j).2.2.2.1)) (PX dC dI ad) (AX ad)) ([.ref (ad 57), .int (nI j)]).toArray s 0 0 (AX ad)) (F0 m 0 ls [])
  have hn := (hI.2 j (by omega)).1.1
  refine lv_aload_n hx hb dX4_wipe_0 rfl (lv_at hl 0 rfl) ?_
  refine lv_iload_n hx hb dX4_wipe_1 rfl (lv_at hl 1 rfl) ?_
  refine va_csr (va_Run.run (va_runV (As := [.int (nI j)]) (rest := []) ⟨hx, hb, hml, hown, hts⟩ (m_X4_orderAt l dC dI ad S j (by omega)) (cwV 1 hts gX4_wipe_X4_orderAt rfl rfl rfl hdX4_orderAt_1 ⟨Nat.le_of_ble_eq_true rfl, Nat.le_of_ble_eq_true rfl⟩) (hX.preTop 57 6 (by decide) (by decide) rfl rfl) rfl rfl hl.1 rfl (lv_room (Nat.le_of_ble_eq_true rfl)) dX4_wipe_2 ⟨Nat.le_of_ble_eq_true rfl, Nat.le_of_ble_eq_true rfl⟩)) (fun k_ hk_ => ?_)
  rw [hk_]
  refine lv_astore_n (lv' := [(2, .ref (ad (24 + 5 * j))), (0, .ref (ad 57)), (1, .int (nI j))]) hx hb dX4_wipe_5 rfl hl (by decide) rfl (fun ls hl => ?_)
  refine lv_aload_n hx hb dX4_wipe_6 rfl (lv_at hl 0 rfl) ?_
  refine kx_cr (v := nI ((S.2.1 j).2.2.2.2.1)) (va_runV (As := []) (rest := []) ⟨hx, hb, hml, hown, hts⟩ (m_X1_length l dC dI ad S j  (by omega)) (cwV 0 hts gX4_wipe_X1_length rfl rfl rfl hdX1_length_0 ⟨Nat.le_of_ble_eq_true rfl, Nat.le_of_ble_eq_true rfl⟩) (hX.preOrd (by omega)) rfl rfl hl.1 rfl (lv_room (Nat.le_of_ble_eq_true rfl)) dX4_wipe_7 ⟨Nat.le_of_ble_eq_true rfl, Nat.le_of_ble_eq_true rfl⟩) (fun _ h => h) ?_
  refine lv_istore_n (lv' := [(3, .int (nI ((S.2.1 j).2.2.2.2.1))), (2, .ref (ad (24 + 5 * j))), (0, .ref (ad 57)), (1, .int (nI j))]) hx hb dX4_wipe_10 rfl hl (by decide) rfl (fun ls hl => ?_)
  refine lv_aload_n hx hb dX4_wipe_11 rfl (lv_at hl 1 rfl) ?_
  refine kx_cv (va_runV (As := []) (rest := []) ⟨hx, hb, hml, hown, hts⟩ (m_X1_empty l dC dI ad S j (by omega) (hI.2 j (by omega)).1) (cwV 0 hts gX4_wipe_X1_empty rfl rfl rfl hdX1_empty_0 ⟨Nat.le_of_ble_eq_true rfl, Nat.le_of_ble_eq_true rfl⟩) (hX.preOrd (by omega)) rfl rfl hl.1 rfl (lv_room (Nat.le_of_ble_eq_true rfl)) dX4_wipe_12 ⟨Nat.le_of_ble_eq_true rfl, Nat.le_of_ble_eq_true rfl⟩) hX (fun _ h => h) (fun S_ H locs hw hX => ?_)
  subst hw
  refine lv_iload_n hx hb dX4_wipe_15 rfl (lv_at hl 0 rfl) ?_
  exact W.iret (v := nI ((S.2.1 j).2.2.2.2.1)) hx hb hr (fun t9 ht9 hW9 => ⟨⟨_, (xO S j ((S.2.1 j).1, (S.2.1 j).2.1, ovl (codeOf ((S.2.1 j).1) ((S.2.1 j).2.1) 0) ((S.2.1 j).2.2.1) 16, ovl (rankC (codeOf ((S.2.1 j).1) ((S.2.1 j).2.1) 0)) ((S.2.1 j).2.2.2.1) 16, 0, classC (codeOf ((S.2.1 j).1) ((S.2.1 j).2.1) 0))), rfl, ⟨rfl, rfl⟩, hX.P ht9 hW9⟩, hX.2.2.2.F ht9⟩) hX.2.2.2.2.2 dX4_wipe_16
set_option maxHeartbeats 4000000 in
set_option maxRecDepth 100000 in
theorem m_X4_copyOrder (l : Launch) (dC : Nat → ClassId) (dI : Nat → Nat → Nat) (ad : Nat → Nat) (S : XS) (j : Nat) (j2 : Nat) (hj : j < 4) (hj2 : j2 < 4) (hI : InvX S) : Met l yX4_copyOrder wsX4_copyOrder ({ frames := 4, cells := 0, slots := 0, locals := 91 } : Room) (va_Pc [.ref (ad 57), .int (nI j), .int (nI j2)] (PX dC dI ad S)) (va_Qi (fun r S' => r = nI (S.2.1 j).2.2.2.2.1 ∧ S' = xO S j2 (newO (apn (S.2.1 j2).1 (S.2.1 j).1 0 (S.2.1 j).2.2.2.2.1) (apn (S.2.1 j2).2.1 (S.2.1 j).2.1 0 (S.2.1 j).2.2.2.2.1) (S.2.1 j).2.2.2.2.1 (S.2.1 j2).2.2.1 (S.2.1 j2).2.2.2.1)) (PX dC dI ad) (AX ad)) 0 0 (AX ad) := by
  refine Met.ofW (cc := cX4_copyOrder) (maxL := 5) (ret := (some .int)) pl_X4 rfl ?_
  intro p e s m args below meth c s₁ B hml hv
  obtain ⟨rfl, hPX⟩ := hv
  have hx := B.exec
  have hb := B.bytes
  have hr := B.returns
  have hts := atoms_spec (ws := wsX4_copyOrder) B.pre
  have hown : s.vm.findClass RX4 = some m.cls := findClass_of_methodNamed B.named
  have hlocks := B.notSynchronized
  have hX := WX.of hPX
  have hl := lv_entry ([.ref (ad 57), .int (nI j), .int (nI j2)]) (n := 5) (Nat.le_of_ble_eq_true rfl)
  rw [lg_entry_eq]
  generalize (lg_sl ([.ref (ad 57), .int (nI j), .int (nI j2)]) ++ List.replicate (5 - (lg_sl ([.ref (ad 57), .int (nI j), .int (nI j2)])).length) Slot.unset).toArray = ls at hl ⊢
  have hl : lv_has ls 5 [(0, .ref (ad 57)), (1, .int (nI j)), (2, .int (nI j2))] := hl
  show W p l e ({ frames := 4, cells := 0, slots := 0, locals := 91 } : Room) s m ([.ref (ad 57), .int (nI j), .int (nI j2)]).toArray below meth c s.heap [] 0 0 (MQ below (va_Qi (fun r S' => r = nI (S.2.1 j).2.2.2.2.1 ∧ S' = xO S j2 (newO (apn (S.2.1 j2).1 (S.2.1 j).1 0 (S.2.1 j).2.2.2.2.1) (apn (S.2.1 j2).2.1 (S.2.1 j).2.1 0 (S.2.1 j).2.2.2.2.1) (S.2.1 j).2.2.2.2.1 (S.2.1 j2).2.2.1 (S.2.1 j2).2.2.2.1)) (PX dC dI ad) (AX ad)) ([.ref (ad 57), .int (nI j), .int (nI j2)]).toArray s 0 0 (AX ad)) (F0 m 0 ls [])
  have hn := (hI.2 j (by omega)).1.1
  refine lv_aload_n hx hb dX4_copyOrder_0 rfl (lv_at hl 0 rfl) ?_
  refine lv_iload_n hx hb dX4_copyOrder_1 rfl (lv_at hl 1 rfl) ?_
  refine va_csr (va_Run.run (va_runV (As := [.int (nI j)]) (rest := []) ⟨hx, hb, hml, hown, hts⟩ (m_X4_orderAt l dC dI ad S j (by omega)) (cwV 1 hts gX4_copyOrder_X4_orderAt rfl rfl rfl hdX4_orderAt_1 ⟨Nat.le_of_ble_eq_true rfl, Nat.le_of_ble_eq_true rfl⟩) (hX.preTop 57 6 (by decide) (by decide) rfl rfl) rfl rfl hl.1 rfl (lv_room (Nat.le_of_ble_eq_true rfl)) dX4_copyOrder_2 ⟨Nat.le_of_ble_eq_true rfl, Nat.le_of_ble_eq_true rfl⟩)) (fun k_ hk_ => ?_)
  rw [hk_]
  refine lv_astore_n (lv' := [(3, .ref (ad (24 + 5 * j))), (0, .ref (ad 57)), (1, .int (nI j)), (2, .int (nI j2))]) hx hb dX4_copyOrder_5 rfl hl (by decide) rfl (fun ls hl => ?_)
  refine lv_aload_n hx hb dX4_copyOrder_6 rfl (lv_at hl 1 rfl) ?_
  refine lv_iload_n hx hb dX4_copyOrder_7 rfl (lv_at hl 3 rfl) ?_
  refine va_csr (va_Run.run (va_runV (As := [.int (nI j2)]) (rest := []) ⟨hx, hb, hml, hown, hts⟩ (m_X4_orderAt l dC dI ad S j2 (by omega)) (cwV 1 hts gX4_copyOrder_X4_orderAt rfl rfl rfl hdX4_orderAt_1 ⟨Nat.le_of_ble_eq_true rfl, Nat.le_of_ble_eq_true rfl⟩) (hX.preTop 57 6 (by decide) (by decide) rfl rfl) rfl rfl hl.1 rfl (lv_room (Nat.le_of_ble_eq_true rfl)) dX4_copyOrder_8 ⟨Nat.le_of_ble_eq_true rfl, Nat.le_of_ble_eq_true rfl⟩)) (fun k_ hk_ => ?_)
  rw [hk_]
  refine lv_astore (lv' := [(4, .ref (ad (24 + 5 * j2))), (3, .ref (ad (24 + 5 * j))), (0, .ref (ad 57)), (1, .int (nI j)), (2, .int (nI j2))]) hx hb dX4_copyOrder_11 hl (by decide) rfl (fun ls hl => ?_)
  refine lv_aload hx hb dX4_copyOrder_13 (lv_at hl 0 rfl) ?_
  refine lv_aload_n hx hb dX4_copyOrder_15 rfl (lv_at hl 1 rfl) ?_
  refine kx_cv (va_runV (As := [.ref (ad (24 + 5 * j))]) (rest := []) ⟨hx, hb, hml, hown, hts⟩ (m_X1_becomeCopyOf l dC dI ad S j2 j (by omega) (by omega) (hI.2 j2 (by omega)).1 (hI.2 j (by omega)).1) (cwV 1 hts gX4_copyOrder_X1_becomeCopyOf rfl rfl rfl hdX1_becomeCopyOf_1 ⟨Nat.le_of_ble_eq_true rfl, Nat.le_of_ble_eq_true rfl⟩) (hX.preOrd (by omega)) rfl rfl hl.1 rfl (lv_room (Nat.le_of_ble_eq_true rfl)) dX4_copyOrder_16 ⟨Nat.le_of_ble_eq_true rfl, Nat.le_of_ble_eq_true rfl⟩) hX (fun _ h => h) (fun S_ H locs hw hX => ?_)
  subst hw
  refine lv_aload hx hb dX4_copyOrder_19 (lv_at hl 0 rfl) ?_
  refine kx_cr (v := nI ((S.2.1 j).2.2.2.2.1)) (va_runV (As := []) (rest := []) ⟨hx, hb, hml, hown, hts⟩ (m_X1_length l dC dI ad (xO S j2 (apn ((S.2.1 j2).1) ((S.2.1 j).1) 0 ((S.2.1 j).2.2.2.2.1), apn ((S.2.1 j2).2.1) ((S.2.1 j).2.1) 0 ((S.2.1 j).2.2.2.2.1), ovl (codeOf (apn ((S.2.1 j2).1) ((S.2.1 j).1) 0 ((S.2.1 j).2.2.2.2.1)) (apn ((S.2.1 j2).2.1) ((S.2.1 j).2.1) 0 ((S.2.1 j).2.2.2.2.1)) ((S.2.1 j).2.2.2.2.1)) ((S.2.1 j2).2.2.1) 16, ovl (rankC (codeOf (apn ((S.2.1 j2).1) ((S.2.1 j).1) 0 ((S.2.1 j).2.2.2.2.1)) (apn ((S.2.1 j2).2.1) ((S.2.1 j).2.1) 0 ((S.2.1 j).2.2.2.2.1)) ((S.2.1 j).2.2.2.2.1))) ((S.2.1 j2).2.2.2.1) 16, (S.2.1 j).2.2.2.2.1, classC (codeOf (apn ((S.2.1 j2).1) ((S.2.1 j).1) 0 ((S.2.1 j).2.2.2.2.1)) (apn ((S.2.1 j2).2.1) ((S.2.1 j).2.1) 0 ((S.2.1 j).2.2.2.2.1)) ((S.2.1 j).2.2.2.2.1)))) j2  (by omega)) (cwV 0 hts gX4_copyOrder_X1_length rfl rfl rfl hdX1_length_0 ⟨Nat.le_of_ble_eq_true rfl, Nat.le_of_ble_eq_true rfl⟩) (hX.preOrd (by omega)) rfl rfl hl.1 rfl (lv_room (Nat.le_of_ble_eq_true rfl)) dX4_copyOrder_21 ⟨Nat.le_of_ble_eq_true rfl, Nat.le_of_ble_eq_true rfl⟩) (fun _ h => by rw [h, xO_ord]) ?_
  exact W.iret (v := nI ((S.2.1 j).2.2.2.2.1)) hx hb hr (fun t9 ht9 hW9 => ⟨⟨_, (xO S j2 (apn ((S.2.1 j2).1) ((S.2.1 j).1) 0 ((S.2.1 j).2.2.2.2.1), apn ((S.2.1 j2).2.1) ((S.2.1 j).2.1) 0 ((S.2.1 j).2.2.2.2.1), ovl (codeOf (apn ((S.2.1 j2).1) ((S.2.1 j).1) 0 ((S.2.1 j).2.2.2.2.1)) (apn ((S.2.1 j2).2.1) ((S.2.1 j).2.1) 0 ((S.2.1 j).2.2.2.2.1)) ((S.2.1 j).2.2.2.2.1)) ((S.2.1 j2).2.2.1) 16, ovl (rankC (codeOf (apn ((S.2.1 j2).1) ((S.2.1 j).1) 0 ((S.2.1 j).2.2.2.2.1)) (apn ((S.2.1 j2).2.1) ((S.2.1 j).2.1) 0 ((S.2.1 j).2.2.2.2.1)) ((S.2.1 j).2.2.2.2.1))) ((S.2.1 j2).2.2.2.1) 16, (S.2.1 j).2.2.2.2.1, classC (codeOf (apn ((S.2.1 j2).1) ((S.2.1 j).1) 0 ((S.2.1 j).2.2.2.2.1)) (apn ((S.2.1 j2).2.1) ((S.2.1 j).2.1) 0 ((S.2.1 j).2.2.2.2.1)) ((S.2.1 j).2.2.2.2.1)))), rfl, ⟨rfl, rfl⟩, hX.P ht9 hW9⟩, hX.2.2.2.F ht9⟩) hX.2.2.2.2.2 dX4_copyOrder_24
set_option maxHeartbeats 4000000 in
set_option maxRecDepth 100000 in
theorem m_X4_turn (l : Launch) (dC : Nat → ClassId) (dI : Nat → Nat → Nat) (ad : Nat → Nat) (S : XS) (j : Nat) (hj : j < 4) (hI : InvX S) : Met l yX4_turn wsX4_turn ({ frames := 4, cells := 0, slots := 0, locals := 90 } : Room) (va_Pc [.ref (ad 57), .int (nI j)] (PX dC dI ad S)) (va_Qi (fun r S' => r = nI (cntB (ovl (fun k => !(S.2.1 j).2.1 k) (S.2.1 j).2.1 (S.2.1 j).2.2.2.2.1) (S.2.1 j).2.2.2.2.1) ∧ S' = xO S j (newO ((S.2.1 j).1) (ovl (fun k => !(S.2.1 j).2.1 k) (S.2.1 j).2.1 (S.2.1 j).2.2.2.2.1) ((S.2.1 j).2.2.2.2.1) (S.2.1 j).2.2.1 (S.2.1 j).2.2.2.1)) (PX dC dI ad) (AX ad)) 0 0 (AX ad) := by
  refine Met.ofW (cc := cX4_turn) (maxL := 3) (ret := (some .int)) pl_X4 rfl ?_
  intro p e s m args below meth c s₁ B hml hv
  obtain ⟨rfl, hPX⟩ := hv
  have hx := B.exec
  have hb := B.bytes
  have hr := B.returns
  have hts := atoms_spec (ws := wsX4_turn) B.pre
  have hown : s.vm.findClass RX4 = some m.cls := findClass_of_methodNamed B.named
  have hlocks := B.notSynchronized
  have hX := WX.of hPX
  have hl := lv_entry ([.ref (ad 57), .int (nI j)]) (n := 3) (Nat.le_of_ble_eq_true rfl)
  rw [lg_entry_eq]
  generalize (lg_sl ([.ref (ad 57), .int (nI j)]) ++ List.replicate (3 - (lg_sl ([.ref (ad 57), .int (nI j)])).length) Slot.unset).toArray = ls at hl ⊢
  have hl : lv_has ls 3 [(0, .ref (ad 57)), (1, .int (nI j))] := hl
  show W p l e ({ frames := 4, cells := 0, slots := 0, locals := 90 } : Room) s m ([.ref (ad 57), .int (nI j)]).toArray below meth c s.heap [] 0 0 (MQ below (va_Qi (fun r S' => r = nI (cntB (ovl (fun k => !(S.2.1 j).2.1 k) (S.2.1 j).2.1 (S.2.1 j).2.2.2.2.1) (S.2.1 j).2.2.2.2.1) ∧ S' = xO S j (newO ((S.2.1 j).1) (ovl (fun k => !(S.2.1 j).2.1 k) (S.2.1 j).2.1 (S.2.1 j).2.2.2.2.1) ((S.2.1 j).2.2.2.2.1) (S.2.1 j).2.2.1 (S.2.1 j).2.2.2.1)) (PX dC dI ad) (AX ad)) ([.ref (ad 57), .int (nI j)]).toArray s 0 0 (AX ad)) (F0 m 0 ls [])
  have hn := (hI.2 j (by omega)).1.1
  refine lv_aload_n hx hb dX4_turn_0 rfl (lv_at hl 0 rfl) ?_
  refine lv_iload_n hx hb dX4_turn_1 rfl (lv_at hl 1 rfl) ?_
  refine va_csr (va_Run.run (va_runV (As := [.int (nI j)]) (rest := []) ⟨hx, hb, hml, hown, hts⟩ (m_X4_orderAt l dC dI ad S j (by omega)) (cwV 1 hts gX4_turn_X4_orderAt rfl rfl rfl hdX4_orderAt_1 ⟨Nat.le_of_ble_eq_true rfl, Nat.le_of_ble_eq_true rfl⟩) (hX.preTop 57 6 (by decide) (by decide) rfl rfl) rfl rfl hl.1 rfl (lv_room (Nat.le_of_ble_eq_true rfl)) dX4_turn_2 ⟨Nat.le_of_ble_eq_true rfl, Nat.le_of_ble_eq_true rfl⟩)) (fun k_ hk_ => ?_)
  rw [hk_]
  refine lv_astore_n (lv' := [(2, .ref (ad (24 + 5 * j))), (0, .ref (ad 57)), (1, .int (nI j))]) hx hb dX4_turn_5 rfl hl (by decide) rfl (fun ls hl => ?_)
  refine lv_aload_n hx hb dX4_turn_6 rfl (lv_at hl 0 rfl) ?_
  refine kx_cv (va_runV (As := []) (rest := []) ⟨hx, hb, hml, hown, hts⟩ (m_X1_reverse l dC dI ad S j (by omega) (hI.2 j (by omega)).1) (cwV 0 hts gX4_turn_X1_reverse rfl rfl rfl hdX1_reverse_0 ⟨Nat.le_of_ble_eq_true rfl, Nat.le_of_ble_eq_true rfl⟩) (hX.preOrd (by omega)) rfl rfl hl.1 rfl (lv_room (Nat.le_of_ble_eq_true rfl)) dX4_turn_7 ⟨Nat.le_of_ble_eq_true rfl, Nat.le_of_ble_eq_true rfl⟩) hX (fun _ h => h) (fun S_ H locs hw hX => ?_)
  subst hw
  refine lv_aload_n hx hb dX4_turn_10 rfl (lv_at hl 0 rfl) ?_
  refine kx_cr (v := nI (cntB (ovl (fun k => !((S.2.1 j).2.1) k) ((S.2.1 j).2.1) ((S.2.1 j).2.2.2.2.1)) ((S.2.1 j).2.2.2.2.1))) (va_runV (As := []) (rest := []) ⟨hx, hb, hml, hown, hts⟩ (m_X1_downSteps l dC dI ad (xO S j ((S.2.1 j).1, ovl (fun k => !((S.2.1 j).2.1) k) ((S.2.1 j).2.1) ((S.2.1 j).2.2.2.2.1), ovl (codeOf ((S.2.1 j).1) (ovl (fun k => !((S.2.1 j).2.1) k) ((S.2.1 j).2.1) ((S.2.1 j).2.2.2.2.1)) ((S.2.1 j).2.2.2.2.1)) ((S.2.1 j).2.2.1) 16, ovl (rankC (codeOf ((S.2.1 j).1) (ovl (fun k => !((S.2.1 j).2.1) k) ((S.2.1 j).2.1) ((S.2.1 j).2.2.2.2.1)) ((S.2.1 j).2.2.2.2.1))) ((S.2.1 j).2.2.2.1) 16, (S.2.1 j).2.2.2.2.1, classC (codeOf ((S.2.1 j).1) (ovl (fun k => !((S.2.1 j).2.1) k) ((S.2.1 j).2.1) ((S.2.1 j).2.2.2.2.1)) ((S.2.1 j).2.2.2.2.1)))) j (by omega) (by rw [xO_ord]; exact (hI.2 j (by omega)).1)) (cwV 0 hts gX4_turn_X1_downSteps rfl rfl rfl hdX1_downSteps_0 ⟨Nat.le_of_ble_eq_true rfl, Nat.le_of_ble_eq_true rfl⟩) (hX.preOrd (by omega)) rfl rfl hl.1 rfl (lv_room (Nat.le_of_ble_eq_true rfl)) dX4_turn_11 ⟨Nat.le_of_ble_eq_true rfl, Nat.le_of_ble_eq_true rfl⟩) (fun _ h => by rw [h, xO_ord]) ?_
  exact W.iret (v := nI (cntB (ovl (fun k => !((S.2.1 j).2.1) k) ((S.2.1 j).2.1) ((S.2.1 j).2.2.2.2.1)) ((S.2.1 j).2.2.2.2.1))) hx hb hr (fun t9 ht9 hW9 => ⟨⟨_, (xO S j ((S.2.1 j).1, ovl (fun k => !((S.2.1 j).2.1) k) ((S.2.1 j).2.1) ((S.2.1 j).2.2.2.2.1), ovl (codeOf ((S.2.1 j).1) (ovl (fun k => !((S.2.1 j).2.1) k) ((S.2.1 j).2.1) ((S.2.1 j).2.2.2.2.1)) ((S.2.1 j).2.2.2.2.1)) ((S.2.1 j).2.2.1) 16, ovl (rankC (codeOf ((S.2.1 j).1) (ovl (fun k => !((S.2.1 j).2.1) k) ((S.2.1 j).2.1) ((S.2.1 j).2.2.2.2.1)) ((S.2.1 j).2.2.2.2.1))) ((S.2.1 j).2.2.2.1) 16, (S.2.1 j).2.2.2.2.1, classC (codeOf ((S.2.1 j).1) (ovl (fun k => !((S.2.1 j).2.1) k) ((S.2.1 j).2.1) ((S.2.1 j).2.2.2.2.1)) ((S.2.1 j).2.2.2.2.1)))), rfl, ⟨rfl, rfl⟩, hX.P ht9 hW9⟩, hX.2.2.2.F ht9⟩) hX.2.2.2.2.2 dX4_turn_14
set_option maxHeartbeats 4000000 in
set_option maxRecDepth 100000 in
theorem m_X4_compare (l : Launch) (dC : Nat → ClassId) (dI : Nat → Nat → Nat) (ad : Nat → Nat) (S : XS) (j : Nat) (v : Nat) (v2 : Nat) (hj : j < 4) (hv : v < 16) (hv2 : v2 < 16) (hI : InvX S) : Met l yX4_compare wsX4_compare ({ frames := 2, cells := 0, slots := 0, locals := 41 } : Room) (va_Pc [.ref (ad 57), .int (nI j), .int (nI v), .int (nI v2)] (PX dC dI ad S)) (vp_Si (fun r => r = cmpI ((S.2.1 j).2.2.1 v) ((S.2.1 j).2.2.1 v2))) 0 0 (fun _ => False) := by
  refine Met.ofW (cc := cX4_compare) (maxL := 5) (ret := (some .int)) pl_X4 rfl ?_
  intro p e s m args below meth c s₁ B hml hv
  obtain ⟨rfl, hPX⟩ := hv
  have hx := B.exec
  have hb := B.bytes
  have hr := B.returns
  have hts := atoms_spec (ws := wsX4_compare) B.pre
  have hown : s.vm.findClass RX4 = some m.cls := findClass_of_methodNamed B.named
  have hlocks := B.notSynchronized
  have hX := WX.of hPX
  have hl := lv_entry ([.ref (ad 57), .int (nI j), .int (nI v), .int (nI v2)]) (n := 5) (Nat.le_of_ble_eq_true rfl)
  rw [lg_entry_eq]
  generalize (lg_sl ([.ref (ad 57), .int (nI j), .int (nI v), .int (nI v2)]) ++ List.replicate (5 - (lg_sl ([.ref (ad 57), .int (nI j), .int (nI v), .int (nI v2)])).length) Slot.unset).toArray = ls at hl ⊢
  have hl : lv_has ls 5 [(0, .ref (ad 57)), (1, .int (nI j)), (2, .int (nI v)), (3, .int (nI v2))] := hl
  show W p l e ({ frames := 2, cells := 0, slots := 0, locals := 41 } : Room) s m ([.ref (ad 57), .int (nI j), .int (nI v), .int (nI v2)]).toArray below meth c s.heap [] 0 0 (MQ below (vp_Si (fun r => r = cmpI ((S.2.1 j).2.2.1 v) ((S.2.1 j).2.2.1 v2))) ([.ref (ad 57), .int (nI j), .int (nI v), .int (nI v2)]).toArray s 0 0 (fun _ => False)) (F0 m 0 ls [])
  have hn := (hI.2 j (by omega)).1.1
  refine lv_aload_n hx hb dX4_compare_0 rfl (lv_at hl 0 rfl) ?_
  refine lv_iload_n hx hb dX4_compare_1 rfl (lv_at hl 1 rfl) ?_
  refine va_csr (va_Run.run (va_runV (As := [.int (nI j)]) (rest := []) ⟨hx, hb, hml, hown, hts⟩ (m_X4_orderAt l dC dI ad S j (by omega)) (cwV 1 hts gX4_compare_X4_orderAt rfl rfl rfl hdX4_orderAt_1 ⟨Nat.le_of_ble_eq_true rfl, Nat.le_of_ble_eq_true rfl⟩) (hX.preTop 57 6 (by decide) (by decide) rfl rfl) rfl rfl hl.1 rfl (lv_room (Nat.le_of_ble_eq_true rfl)) dX4_compare_2 ⟨Nat.le_of_ble_eq_true rfl, Nat.le_of_ble_eq_true rfl⟩)) (fun k_ hk_ => ?_)
  rw [hk_]
  refine lv_astore (lv' := [(4, .ref (ad (24 + 5 * j))), (0, .ref (ad 57)), (1, .int (nI j)), (2, .int (nI v)), (3, .int (nI v2))]) hx hb dX4_compare_5 hl (by decide) rfl (fun ls hl => ?_)
  refine lv_iload_n hx hb dX4_compare_7 rfl (lv_at hl 3 rfl) ?_
  refine va_csv (va_Run.run (va_runS (As := [.int (nI v)]) (rest := []) ⟨hx, hb, hml, hown, hts⟩ (m_X4_demandValue l dC dI ad S v (by omega)) (va_cwS 1 hts gX4_compare_X4_demandValue rfl rfl rfl hdX4_demandValue_1.2 ⟨Nat.le_of_ble_eq_true rfl, Nat.le_of_ble_eq_true rfl⟩) hX.preS rfl rfl hl.1 rfl (lv_room (Nat.le_of_ble_eq_true rfl)) dX4_compare_8 ⟨Nat.le_of_ble_eq_true rfl, Nat.le_of_ble_eq_true rfl⟩)) (fun _ => ?_)
  refine lv_iload_n hx hb dX4_compare_11 rfl (lv_at hl 4 rfl) ?_
  refine va_csv (va_Run.run (va_runS (As := [.int (nI v2)]) (rest := []) ⟨hx, hb, hml, hown, hts⟩ (m_X4_demandValue l dC dI ad S v2 (by omega)) (va_cwS 1 hts gX4_compare_X4_demandValue rfl rfl rfl hdX4_demandValue_1.2 ⟨Nat.le_of_ble_eq_true rfl, Nat.le_of_ble_eq_true rfl⟩) hX.preS rfl rfl hl.1 rfl (lv_room (Nat.le_of_ble_eq_true rfl)) dX4_compare_12 ⟨Nat.le_of_ble_eq_true rfl, Nat.le_of_ble_eq_true rfl⟩)) (fun _ => ?_)
  refine lv_aload hx hb dX4_compare_15 (lv_at hl 0 rfl) ?_
  refine lv_iload_n hx hb dX4_compare_17 rfl (lv_at hl 3 rfl) ?_
  refine lv_iload_n hx hb dX4_compare_18 rfl (lv_at hl 4 rfl) ?_
  refine kx_cr (v := cmpI ((S.2.1 j).2.2.1 v) ((S.2.1 j).2.2.1 v2)) (va_runV (As := [.int (nI v), .int (nI v2)]) (rest := []) ⟨hx, hb, hml, hown, hts⟩ (m_X1_compared l dC dI ad S j v v2 (by omega) (hI.2 j (by omega)) (by omega) (by omega)) (cwV 2 hts gX4_compare_X1_compared rfl rfl rfl hdX1_compared_2 ⟨Nat.le_of_ble_eq_true rfl, Nat.le_of_ble_eq_true rfl⟩) (hX.preOrd (by omega)) rfl rfl hl.1 rfl (lv_room (Nat.le_of_ble_eq_true rfl)) dX4_compare_19 ⟨Nat.le_of_ble_eq_true rfl, Nat.le_of_ble_eq_true rfl⟩) (fun _ h => h) ?_
  exact W.iret (v := cmpI ((S.2.1 j).2.2.1 v) ((S.2.1 j).2.2.1 v2)) hx hb hr (fun t9 ht9 hW9 => ⟨_, rfl, rfl, ht9⟩) (fun _ h => nomatch h) dX4_compare_22
set_option maxHeartbeats 4000000 in
set_option maxRecDepth 100000 in
theorem m_X4_both (l : Launch) (dC : Nat → ClassId) (dI : Nat → Nat → Nat) (ad : Nat → Nat) (S : XS) (j : Nat) (j2 : Nat) (v : Nat) (v2 : Nat) (hj : j < 4) (hj2 : j2 < 4) (hv : v < 16) (hv2 : v2 < 16) (hI : InvX S) : Met l yX4_both wsX4_both ({ frames := 2, cells := 0, slots := 0, locals := 51 } : Room) (va_Pc [.ref (ad 57), .int (nI j), .int (nI j2), .int (nI v), .int (nI v2)] (PX dC dI ad S)) (vp_Si (fun r => r = bothI ((S.2.1 j).2.2.1 v) ((S.2.1 j).2.2.1 v2) ((S.2.1 j2).2.2.1 v) ((S.2.1 j2).2.2.1 v2))) 0 0 (fun _ => False) := by
  refine Met.ofW (cc := cX4_both) (maxL := 7) (ret := (some .int)) pl_X4 rfl ?_
  intro p e s m args below meth c s₁ B hml hv
  obtain ⟨rfl, hPX⟩ := hv
  have hx := B.exec
  have hb := B.bytes
  have hr := B.returns
  have hts := atoms_spec (ws := wsX4_both) B.pre
  have hown : s.vm.findClass RX4 = some m.cls := findClass_of_methodNamed B.named
  have hlocks := B.notSynchronized
  have hX := WX.of hPX
  have hl := lv_entry ([.ref (ad 57), .int (nI j), .int (nI j2), .int (nI v), .int (nI v2)]) (n := 7) (Nat.le_of_ble_eq_true rfl)
  rw [lg_entry_eq]
  generalize (lg_sl ([.ref (ad 57), .int (nI j), .int (nI j2), .int (nI v), .int (nI v2)]) ++ List.replicate (7 - (lg_sl ([.ref (ad 57), .int (nI j), .int (nI j2), .int (nI v), .int (nI v2)])).length) Slot.unset).toArray = ls at hl ⊢
  have hl : lv_has ls 7 [(0, .ref (ad 57)), (1, .int (nI j)), (2, .int (nI j2)), (3, .int (nI v)), (4, .int (nI v2))] := hl
  show W p l e ({ frames := 2, cells := 0, slots := 0, locals := 51 } : Room) s m ([.ref (ad 57), .int (nI j), .int (nI j2), .int (nI v), .int (nI v2)]).toArray below meth c s.heap [] 0 0 (MQ below (vp_Si (fun r => r = bothI ((S.2.1 j).2.2.1 v) ((S.2.1 j).2.2.1 v2) ((S.2.1 j2).2.2.1 v) ((S.2.1 j2).2.2.1 v2))) ([.ref (ad 57), .int (nI j), .int (nI j2), .int (nI v), .int (nI v2)]).toArray s 0 0 (fun _ => False)) (F0 m 0 ls [])
  have hn := (hI.2 j (by omega)).1.1
  refine lv_aload_n hx hb dX4_both_0 rfl (lv_at hl 0 rfl) ?_
  refine lv_iload_n hx hb dX4_both_1 rfl (lv_at hl 1 rfl) ?_
  refine va_csr (va_Run.run (va_runV (As := [.int (nI j)]) (rest := []) ⟨hx, hb, hml, hown, hts⟩ (m_X4_orderAt l dC dI ad S j (by omega)) (cwV 1 hts gX4_both_X4_orderAt rfl rfl rfl hdX4_orderAt_1 ⟨Nat.le_of_ble_eq_true rfl, Nat.le_of_ble_eq_true rfl⟩) (hX.preTop 57 6 (by decide) (by decide) rfl rfl) rfl rfl hl.1 rfl (lv_room (Nat.le_of_ble_eq_true rfl)) dX4_both_2 ⟨Nat.le_of_ble_eq_true rfl, Nat.le_of_ble_eq_true rfl⟩)) (fun k_ hk_ => ?_)
  rw [hk_]
  refine lv_astore (lv' := [(5, .ref (ad (24 + 5 * j))), (0, .ref (ad 57)), (1, .int (nI j)), (2, .int (nI j2)), (3, .int (nI v)), (4, .int (nI v2))]) hx hb dX4_both_5 hl (by decide) rfl (fun ls hl => ?_)
  refine lv_aload_n hx hb dX4_both_7 rfl (lv_at hl 1 rfl) ?_
  refine lv_iload_n hx hb dX4_both_8 rfl (lv_at hl 3 rfl) ?_
  refine va_csr (va_Run.run (va_runV (As := [.int (nI j2)]) (rest := []) ⟨hx, hb, hml, hown, hts⟩ (m_X4_orderAt l dC dI ad S j2 (by omega)) (cwV 1 hts gX4_both_X4_orderAt rfl rfl rfl hdX4_orderAt_1 ⟨Nat.le_of_ble_eq_true rfl, Nat.le_of_ble_eq_true rfl⟩) (hX.preTop 57 6 (by decide) (by decide) rfl rfl) rfl rfl hl.1 rfl (lv_room (Nat.le_of_ble_eq_true rfl)) dX4_both_9 ⟨Nat.le_of_ble_eq_true rfl, Nat.le_of_ble_eq_true rfl⟩)) (fun k_ hk_ => ?_)
  rw [hk_]
  refine lv_astore (lv' := [(6, .ref (ad (24 + 5 * j2))), (5, .ref (ad (24 + 5 * j))), (0, .ref (ad 57)), (1, .int (nI j)), (2, .int (nI j2)), (3, .int (nI v)), (4, .int (nI v2))]) hx hb dX4_both_12 hl (by decide) rfl (fun ls hl => ?_)
  refine lv_iload_n hx hb dX4_both_14 rfl (lv_at hl 5 rfl) ?_
  refine va_csv (va_Run.run (va_runS (As := [.int (nI v)]) (rest := []) ⟨hx, hb, hml, hown, hts⟩ (m_X4_demandValue l dC dI ad S v (by omega)) (va_cwS 1 hts gX4_both_X4_demandValue rfl rfl rfl hdX4_demandValue_1.2 ⟨Nat.le_of_ble_eq_true rfl, Nat.le_of_ble_eq_true rfl⟩) hX.preS rfl rfl hl.1 rfl (lv_room (Nat.le_of_ble_eq_true rfl)) dX4_both_15 ⟨Nat.le_of_ble_eq_true rfl, Nat.le_of_ble_eq_true rfl⟩)) (fun _ => ?_)
  refine lv_iload hx hb dX4_both_18 (lv_at hl 6 rfl) ?_
  refine va_csv (va_Run.run (va_runS (As := [.int (nI v2)]) (rest := []) ⟨hx, hb, hml, hown, hts⟩ (m_X4_demandValue l dC dI ad S v2 (by omega)) (va_cwS 1 hts gX4_both_X4_demandValue rfl rfl rfl hdX4_demandValue_1.2 ⟨Nat.le_of_ble_eq_true rfl, Nat.le_of_ble_eq_true rfl⟩) hX.preS rfl rfl hl.1 rfl (lv_room (Nat.le_of_ble_eq_true rfl)) dX4_both_20 ⟨Nat.le_of_ble_eq_true rfl, Nat.le_of_ble_eq_true rfl⟩)) (fun _ => ?_)
  refine lv_aload hx hb dX4_both_23 (lv_at hl 1 rfl) ?_
  refine lv_aload hx hb dX4_both_25 (lv_at hl 0 rfl) ?_
  refine lv_iload_n hx hb dX4_both_27 rfl (lv_at hl 5 rfl) ?_
  refine lv_iload hx hb dX4_both_28 (lv_at hl 6 rfl) ?_
  refine kx_cr (v := (bothI ((S.2.1 j).2.2.1 v) ((S.2.1 j).2.2.1 v2) ((S.2.1 j2).2.2.1 v) ((S.2.1 j2).2.2.1 v2))) (va_runS (As := [.ref (ad (24 + 5 * j)), .ref (ad (24 + 5 * j2)), .int (nI v), .int (nI v2)]) (rest := []) ⟨hx, hb, hml, hown, hts⟩ (m_X4_comparedByBoth l dC dI ad S j j2 v v2 (by omega) (by omega) (hI.2 j (by omega)) (hI.2 j2 (by omega)) (by omega) (by omega)) (va_cwS 4 hts gX4_both_X4_comparedByBoth rfl rfl rfl hdX4_comparedByBoth_4.2 ⟨Nat.le_of_ble_eq_true rfl, Nat.le_of_ble_eq_true rfl⟩) hX.preS rfl rfl hl.1 rfl (lv_room (Nat.le_of_ble_eq_true rfl)) dX4_both_30 ⟨Nat.le_of_ble_eq_true rfl, Nat.le_of_ble_eq_true rfl⟩) (fun _ h => h) ?_
  exact W.iret (v := (bothI ((S.2.1 j).2.2.1 v) ((S.2.1 j).2.2.1 v2) ((S.2.1 j2).2.2.1 v) ((S.2.1 j2).2.2.1 v2))) hx hb hr (fun t9 ht9 hW9 => ⟨_, rfl, rfl, ht9⟩) (fun _ h => nomatch h) dX4_both_33
set_option maxHeartbeats 4000000 in
set_option maxRecDepth 100000 in
theorem m_X4_refines (l : Launch) (dC : Nat → ClassId) (dI : Nat → Nat → Nat) (ad : Nat → Nat) (S : XS) (j : Nat) (j2 : Nat) (hj : j < 4) (hj2 : j2 < 4) (hI : InvX S) : Met l yX4_refines wsX4_refines ({ frames := 2, cells := 0, slots := 0, locals := 49 } : Room) (va_Pc [.ref (ad 57), .int (nI j), .int (nI j2)] (PX dC dI ad S)) (vp_Si (fun r => r = bI (finerB (S.2.1 j).2.2.1 (S.2.1 j2).2.2.1))) 0 0 (fun _ => False) := by
  refine Met.ofW (cc := cX4_refines) (maxL := 4) (ret := (some .boolean)) pl_X4 rfl ?_
  intro p e s m args below meth c s₁ B hml hv
  obtain ⟨rfl, hPX⟩ := hv
  have hx := B.exec
  have hb := B.bytes
  have hr := B.returns
  have hts := atoms_spec (ws := wsX4_refines) B.pre
  have hown : s.vm.findClass RX4 = some m.cls := findClass_of_methodNamed B.named
  have hlocks := B.notSynchronized
  have hX := WX.of hPX
  have hl := lv_entry ([.ref (ad 57), .int (nI j), .int (nI j2)]) (n := 4) (Nat.le_of_ble_eq_true rfl)
  rw [lg_entry_eq]
  generalize (lg_sl ([.ref (ad 57), .int (nI j), .int (nI j2)]) ++ List.replicate (4 - (lg_sl ([.ref (ad 57), .int (nI j), .int (nI j2)])).length) Slot.unset).toArray = ls at hl ⊢
  have hl : lv_has ls 4 [(0, .ref (ad 57)), (1, .int (nI j)), (2, .int (nI j2))] := hl
  show W p l e ({ frames := 2, cells := 0, slots := 0, locals := 49 } : Room) s m ([.ref (ad 57), .int (nI j), .int (nI j2)]).toArray below meth c s.heap [] 0 0 (MQ below (vp_Si (fun r => r = bI (finerB (S.2.1 j).2.2.1 (S.2.1 j2).2.2.1))) ([.ref (ad 57), .int (nI j), .int (nI j2)]).toArray s 0 0 (fun _ => False)) (F0 m 0 ls [])
  have hn := (hI.2 j (by omega)).1.1
  refine lv_aload_n hx hb dX4_refines_0 rfl (lv_at hl 0 rfl) ?_
  refine lv_iload_n hx hb dX4_refines_1 rfl (lv_at hl 1 rfl) ?_
  refine va_csr (va_Run.run (va_runV (As := [.int (nI j)]) (rest := []) ⟨hx, hb, hml, hown, hts⟩ (m_X4_orderAt l dC dI ad S j (by omega)) (cwV 1 hts gX4_refines_X4_orderAt rfl rfl rfl hdX4_orderAt_1 ⟨Nat.le_of_ble_eq_true rfl, Nat.le_of_ble_eq_true rfl⟩) (hX.preTop 57 6 (by decide) (by decide) rfl rfl) rfl rfl hl.1 rfl (lv_room (Nat.le_of_ble_eq_true rfl)) dX4_refines_2 ⟨Nat.le_of_ble_eq_true rfl, Nat.le_of_ble_eq_true rfl⟩)) (fun k_ hk_ => ?_)
  rw [hk_]
  refine lv_astore_n (lv' := [(3, .ref (ad (24 + 5 * j))), (0, .ref (ad 57)), (1, .int (nI j)), (2, .int (nI j2))]) hx hb dX4_refines_5 rfl hl (by decide) rfl (fun ls hl => ?_)
  refine lv_aload_n hx hb dX4_refines_6 rfl (lv_at hl 0 rfl) ?_
  refine lv_aload_n hx hb dX4_refines_7 rfl (lv_at hl 1 rfl) ?_
  refine lv_iload_n hx hb dX4_refines_8 rfl (lv_at hl 3 rfl) ?_
  refine va_csr (va_Run.run (va_runV (As := [.int (nI j2)]) (rest := [.ref (ad (24 + 5 * j))]) ⟨hx, hb, hml, hown, hts⟩ (m_X4_orderAt l dC dI ad S j2 (by omega)) (cwV 1 hts gX4_refines_X4_orderAt rfl rfl rfl hdX4_orderAt_1 ⟨Nat.le_of_ble_eq_true rfl, Nat.le_of_ble_eq_true rfl⟩) (hX.preTop 57 6 (by decide) (by decide) rfl rfl) rfl rfl hl.1 rfl (lv_room (Nat.le_of_ble_eq_true rfl)) dX4_refines_9 ⟨Nat.le_of_ble_eq_true rfl, Nat.le_of_ble_eq_true rfl⟩)) (fun k_ hk_ => ?_)
  rw [hk_]
  refine kx_cr (v := bI (finerB (S.2.1 j).2.2.1 (S.2.1 j2).2.2.1)) (va_runV (As := [.ref (ad (24 + 5 * j2))]) (rest := []) ⟨hx, hb, hml, hown, hts⟩ (m_X1_isFinerThan l dC dI ad S j j2 (by omega) (by omega) (hI.2 j (by omega)) (hI.2 j2 (by omega))) (cwV 1 hts gX4_refines_X1_isFinerThan rfl rfl rfl hdX1_isFinerThan_1 ⟨Nat.le_of_ble_eq_true rfl, Nat.le_of_ble_eq_true rfl⟩) (hX.preOrd (by omega)) rfl rfl hl.1 rfl (lv_room (Nat.le_of_ble_eq_true rfl)) dX4_refines_12 ⟨Nat.le_of_ble_eq_true rfl, Nat.le_of_ble_eq_true rfl⟩) (fun _ h => h) ?_
  exact W.zret (v := bI (finerB (S.2.1 j).2.2.1 (S.2.1 j2).2.2.1)) hx hb hr (bI_narrow _) (fun t9 ht9 hW9 => ⟨_, rfl, rfl, ht9⟩) (fun _ h => nomatch h) dX4_refines_15
set_option maxHeartbeats 4000000 in
set_option maxRecDepth 100000 in
theorem m_X4_areSame (l : Launch) (dC : Nat → ClassId) (dI : Nat → Nat → Nat) (ad : Nat → Nat) (S : XS) (j : Nat) (j2 : Nat) (hj : j < 4) (hj2 : j2 < 4) (hI : InvX S) : Met l yX4_areSame wsX4_areSame ({ frames := 2, cells := 0, slots := 0, locals := 49 } : Room) (va_Pc [.ref (ad 57), .int (nI j), .int (nI j2)] (PX dC dI ad S)) (vp_Si (fun r => r = bI (likeB (S.2.1 j).2.2.1 (S.2.1 j2).2.2.1))) 0 0 (fun _ => False) := by
  refine Met.ofW (cc := cX4_areSame) (maxL := 4) (ret := (some .boolean)) pl_X4 rfl ?_
  intro p e s m args below meth c s₁ B hml hv
  obtain ⟨rfl, hPX⟩ := hv
  have hx := B.exec
  have hb := B.bytes
  have hr := B.returns
  have hts := atoms_spec (ws := wsX4_areSame) B.pre
  have hown : s.vm.findClass RX4 = some m.cls := findClass_of_methodNamed B.named
  have hlocks := B.notSynchronized
  have hX := WX.of hPX
  have hl := lv_entry ([.ref (ad 57), .int (nI j), .int (nI j2)]) (n := 4) (Nat.le_of_ble_eq_true rfl)
  rw [lg_entry_eq]
  generalize (lg_sl ([.ref (ad 57), .int (nI j), .int (nI j2)]) ++ List.replicate (4 - (lg_sl ([.ref (ad 57), .int (nI j), .int (nI j2)])).length) Slot.unset).toArray = ls at hl ⊢
  have hl : lv_has ls 4 [(0, .ref (ad 57)), (1, .int (nI j)), (2, .int (nI j2))] := hl
  show W p l e ({ frames := 2, cells := 0, slots := 0, locals := 49 } : Room) s m ([.ref (ad 57), .int (nI j), .int (nI j2)]).toArray below meth c s.heap [] 0 0 (MQ below (vp_Si (fun r => r = bI (likeB (S.2.1 j).2.2.1 (S.2.1 j2).2.2.1))) ([.ref (ad 57), .int (nI j), .int (nI j2)]).toArray s 0 0 (fun _ => False)) (F0 m 0 ls [])
  have hn := (hI.2 j (by omega)).1.1
  refine lv_aload_n hx hb dX4_areSame_0 rfl (lv_at hl 0 rfl) ?_
  refine lv_iload_n hx hb dX4_areSame_1 rfl (lv_at hl 1 rfl) ?_
  refine va_csr (va_Run.run (va_runV (As := [.int (nI j)]) (rest := []) ⟨hx, hb, hml, hown, hts⟩ (m_X4_orderAt l dC dI ad S j (by omega)) (cwV 1 hts gX4_areSame_X4_orderAt rfl rfl rfl hdX4_orderAt_1 ⟨Nat.le_of_ble_eq_true rfl, Nat.le_of_ble_eq_true rfl⟩) (hX.preTop 57 6 (by decide) (by decide) rfl rfl) rfl rfl hl.1 rfl (lv_room (Nat.le_of_ble_eq_true rfl)) dX4_areSame_2 ⟨Nat.le_of_ble_eq_true rfl, Nat.le_of_ble_eq_true rfl⟩)) (fun k_ hk_ => ?_)
  rw [hk_]
  refine lv_astore_n (lv' := [(3, .ref (ad (24 + 5 * j))), (0, .ref (ad 57)), (1, .int (nI j)), (2, .int (nI j2))]) hx hb dX4_areSame_5 rfl hl (by decide) rfl (fun ls hl => ?_)
  refine lv_aload_n hx hb dX4_areSame_6 rfl (lv_at hl 0 rfl) ?_
  refine lv_aload_n hx hb dX4_areSame_7 rfl (lv_at hl 1 rfl) ?_
  refine lv_iload_n hx hb dX4_areSame_8 rfl (lv_at hl 3 rfl) ?_
  refine va_csr (va_Run.run (va_runV (As := [.int (nI j2)]) (rest := [.ref (ad (24 + 5 * j))]) ⟨hx, hb, hml, hown, hts⟩ (m_X4_orderAt l dC dI ad S j2 (by omega)) (cwV 1 hts gX4_areSame_X4_orderAt rfl rfl rfl hdX4_orderAt_1 ⟨Nat.le_of_ble_eq_true rfl, Nat.le_of_ble_eq_true rfl⟩) (hX.preTop 57 6 (by decide) (by decide) rfl rfl) rfl rfl hl.1 rfl (lv_room (Nat.le_of_ble_eq_true rfl)) dX4_areSame_9 ⟨Nat.le_of_ble_eq_true rfl, Nat.le_of_ble_eq_true rfl⟩)) (fun k_ hk_ => ?_)
  rw [hk_]
  refine kx_cr (v := bI (likeB (S.2.1 j).2.2.1 (S.2.1 j2).2.2.1)) (va_runV (As := [.ref (ad (24 + 5 * j2))]) (rest := []) ⟨hx, hb, hml, hown, hts⟩ (m_X1_comparesLike l dC dI ad S j j2 (by omega) (by omega) (hI.2 j (by omega)) (hI.2 j2 (by omega))) (cwV 1 hts gX4_areSame_X1_comparesLike rfl rfl rfl hdX1_comparesLike_1 ⟨Nat.le_of_ble_eq_true rfl, Nat.le_of_ble_eq_true rfl⟩) (hX.preOrd (by omega)) rfl rfl hl.1 rfl (lv_room (Nat.le_of_ble_eq_true rfl)) dX4_areSame_12 ⟨Nat.le_of_ble_eq_true rfl, Nat.le_of_ble_eq_true rfl⟩) (fun _ h => h) ?_
  exact W.zret (v := bI (likeB (S.2.1 j).2.2.1 (S.2.1 j2).2.2.1)) hx hb hr (bI_narrow _) (fun t9 ht9 hW9 => ⟨_, rfl, rfl, ht9⟩) (fun _ h => nomatch h) dX4_areSame_15
set_option maxHeartbeats 4000000 in
set_option maxRecDepth 100000 in
theorem m_X4_apart (l : Launch) (dC : Nat → ClassId) (dI : Nat → Nat → Nat) (ad : Nat → Nat) (S : XS) (j : Nat) (j2 : Nat) (hj : j < 4) (hj2 : j2 < 4) (hI : InvX S) : Met l yX4_apart wsX4_apart ({ frames := 3, cells := 0, slots := 0, locals := 75 } : Room) (va_Pc [.ref (ad 57), .int (nI j), .int (nI j2)] (PX dC dI ad S)) (vp_Si (fun r => r = nI (apartN (S.2.1 j).2.2.1 (S.2.1 j2).2.2.1))) 0 0 (fun _ => False) := by
  refine Met.ofW (cc := cX4_apart) (maxL := 4) (ret := (some .int)) pl_X4 rfl ?_
  intro p e s m args below meth c s₁ B hml hv
  obtain ⟨rfl, hPX⟩ := hv
  have hx := B.exec
  have hb := B.bytes
  have hr := B.returns
  have hts := atoms_spec (ws := wsX4_apart) B.pre
  have hown : s.vm.findClass RX4 = some m.cls := findClass_of_methodNamed B.named
  have hlocks := B.notSynchronized
  have hX := WX.of hPX
  have hl := lv_entry ([.ref (ad 57), .int (nI j), .int (nI j2)]) (n := 4) (Nat.le_of_ble_eq_true rfl)
  rw [lg_entry_eq]
  generalize (lg_sl ([.ref (ad 57), .int (nI j), .int (nI j2)]) ++ List.replicate (4 - (lg_sl ([.ref (ad 57), .int (nI j), .int (nI j2)])).length) Slot.unset).toArray = ls at hl ⊢
  have hl : lv_has ls 4 [(0, .ref (ad 57)), (1, .int (nI j)), (2, .int (nI j2))] := hl
  show W p l e ({ frames := 3, cells := 0, slots := 0, locals := 75 } : Room) s m ([.ref (ad 57), .int (nI j), .int (nI j2)]).toArray below meth c s.heap [] 0 0 (MQ below (vp_Si (fun r => r = nI (apartN (S.2.1 j).2.2.1 (S.2.1 j2).2.2.1))) ([.ref (ad 57), .int (nI j), .int (nI j2)]).toArray s 0 0 (fun _ => False)) (F0 m 0 ls [])
  have hn := (hI.2 j (by omega)).1.1
  refine lv_aload_n hx hb dX4_apart_0 rfl (lv_at hl 0 rfl) ?_
  refine lv_iload_n hx hb dX4_apart_1 rfl (lv_at hl 1 rfl) ?_
  refine va_csr (va_Run.run (va_runV (As := [.int (nI j)]) (rest := []) ⟨hx, hb, hml, hown, hts⟩ (m_X4_orderAt l dC dI ad S j (by omega)) (cwV 1 hts gX4_apart_X4_orderAt rfl rfl rfl hdX4_orderAt_1 ⟨Nat.le_of_ble_eq_true rfl, Nat.le_of_ble_eq_true rfl⟩) (hX.preTop 57 6 (by decide) (by decide) rfl rfl) rfl rfl hl.1 rfl (lv_room (Nat.le_of_ble_eq_true rfl)) dX4_apart_2 ⟨Nat.le_of_ble_eq_true rfl, Nat.le_of_ble_eq_true rfl⟩)) (fun k_ hk_ => ?_)
  rw [hk_]
  refine lv_astore_n (lv' := [(3, .ref (ad (24 + 5 * j))), (0, .ref (ad 57)), (1, .int (nI j)), (2, .int (nI j2))]) hx hb dX4_apart_5 rfl hl (by decide) rfl (fun ls hl => ?_)
  refine lv_aload_n hx hb dX4_apart_6 rfl (lv_at hl 0 rfl) ?_
  refine lv_aload_n hx hb dX4_apart_7 rfl (lv_at hl 1 rfl) ?_
  refine lv_iload_n hx hb dX4_apart_8 rfl (lv_at hl 3 rfl) ?_
  refine va_csr (va_Run.run (va_runV (As := [.int (nI j2)]) (rest := [.ref (ad (24 + 5 * j))]) ⟨hx, hb, hml, hown, hts⟩ (m_X4_orderAt l dC dI ad S j2 (by omega)) (cwV 1 hts gX4_apart_X4_orderAt rfl rfl rfl hdX4_orderAt_1 ⟨Nat.le_of_ble_eq_true rfl, Nat.le_of_ble_eq_true rfl⟩) (hX.preTop 57 6 (by decide) (by decide) rfl rfl) rfl rfl hl.1 rfl (lv_room (Nat.le_of_ble_eq_true rfl)) dX4_apart_9 ⟨Nat.le_of_ble_eq_true rfl, Nat.le_of_ble_eq_true rfl⟩)) (fun k_ hk_ => ?_)
  rw [hk_]
  refine kx_cr (v := nI (apartN (S.2.1 j).2.2.1 (S.2.1 j2).2.2.1)) (va_runS (As := [.ref (ad (24 + 5 * j)), .ref (ad (24 + 5 * j2))]) (rest := []) ⟨hx, hb, hml, hown, hts⟩ (m_X4_pairsApart l dC dI ad S j j2 (by omega) (by omega) (hI.2 j (by omega)) (hI.2 j2 (by omega))) (va_cwS 2 hts gX4_apart_X4_pairsApart rfl rfl rfl hdX4_pairsApart_2.2 ⟨Nat.le_of_ble_eq_true rfl, Nat.le_of_ble_eq_true rfl⟩) hX.preS rfl rfl hl.1 rfl (lv_room (Nat.le_of_ble_eq_true rfl)) dX4_apart_12 ⟨Nat.le_of_ble_eq_true rfl, Nat.le_of_ble_eq_true rfl⟩) (fun _ h => h) ?_
  exact W.iret (v := nI (apartN (S.2.1 j).2.2.1 (S.2.1 j2).2.2.1)) hx hb hr (fun t9 ht9 hW9 => ⟨_, rfl, rfl, ht9⟩) (fun _ h => nomatch h) dX4_apart_15
set_option maxHeartbeats 4000000 in
set_option maxRecDepth 100000 in
theorem m_X4_classes (l : Launch) (dC : Nat → ClassId) (dI : Nat → Nat → Nat) (ad : Nat → Nat) (S : XS) (j : Nat) (hj : j < 4) (hI : InvX S) : Met l yX4_classes wsX4_classes ({ frames := 1, cells := 0, slots := 0, locals := 22 } : Room) (va_Pc [.ref (ad 57), .int (nI j)] (PX dC dI ad S)) (vp_Si (fun r => r = nI (S.2.1 j).2.2.2.2.2)) 0 0 (fun _ => False) := by
  refine Met.ofW (cc := cX4_classes) (maxL := 2) (ret := (some .int)) pl_X4 rfl ?_
  intro p e s m args below meth c s₁ B hml hv
  obtain ⟨rfl, hPX⟩ := hv
  have hx := B.exec
  have hb := B.bytes
  have hr := B.returns
  have hts := atoms_spec (ws := wsX4_classes) B.pre
  have hown : s.vm.findClass RX4 = some m.cls := findClass_of_methodNamed B.named
  have hlocks := B.notSynchronized
  have hX := WX.of hPX
  have hl := lv_entry ([.ref (ad 57), .int (nI j)]) (n := 2) (Nat.le_of_ble_eq_true rfl)
  rw [lg_entry_eq]
  generalize (lg_sl ([.ref (ad 57), .int (nI j)]) ++ List.replicate (2 - (lg_sl ([.ref (ad 57), .int (nI j)])).length) Slot.unset).toArray = ls at hl ⊢
  have hl : lv_has ls 2 [(0, .ref (ad 57)), (1, .int (nI j))] := hl
  show W p l e ({ frames := 1, cells := 0, slots := 0, locals := 22 } : Room) s m ([.ref (ad 57), .int (nI j)]).toArray below meth c s.heap [] 0 0 (MQ below (vp_Si (fun r => r = nI (S.2.1 j).2.2.2.2.2)) ([.ref (ad 57), .int (nI j)]).toArray s 0 0 (fun _ => False)) (F0 m 0 ls [])
  have hn := (hI.2 j (by omega)).1.1
  refine lv_aload_n hx hb dX4_classes_0 rfl (lv_at hl 0 rfl) ?_
  refine lv_iload_n hx hb dX4_classes_1 rfl (lv_at hl 1 rfl) ?_
  refine va_csr (va_Run.run (va_runV (As := [.int (nI j)]) (rest := []) ⟨hx, hb, hml, hown, hts⟩ (m_X4_orderAt l dC dI ad S j (by omega)) (cwV 1 hts gX4_classes_X4_orderAt rfl rfl rfl hdX4_orderAt_1 ⟨Nat.le_of_ble_eq_true rfl, Nat.le_of_ble_eq_true rfl⟩) (hX.preTop 57 6 (by decide) (by decide) rfl rfl) rfl rfl hl.1 rfl (lv_room (Nat.le_of_ble_eq_true rfl)) dX4_classes_2 ⟨Nat.le_of_ble_eq_true rfl, Nat.le_of_ble_eq_true rfl⟩)) (fun k_ hk_ => ?_)
  rw [hk_]
  refine kx_cr (v := nI ((S.2.1 j).2.2.2.2.2)) (va_runV (As := []) (rest := []) ⟨hx, hb, hml, hown, hts⟩ (m_X1_classCount l dC dI ad S j  (by omega)) (cwV 0 hts gX4_classes_X1_classCount rfl rfl rfl hdX1_classCount_0 ⟨Nat.le_of_ble_eq_true rfl, Nat.le_of_ble_eq_true rfl⟩) (hX.preOrd (by omega)) rfl rfl hl.1 rfl (lv_room (Nat.le_of_ble_eq_true rfl)) dX4_classes_5 ⟨Nat.le_of_ble_eq_true rfl, Nat.le_of_ble_eq_true rfl⟩) (fun _ h => h) ?_
  exact W.iret (v := nI ((S.2.1 j).2.2.2.2.2)) hx hb hr (fun t9 ht9 hW9 => ⟨_, rfl, rfl, ht9⟩) (fun _ h => nomatch h) dX4_classes_8
set_option maxHeartbeats 4000000 in
set_option maxRecDepth 100000 in
theorem m_X4_rank (l : Launch) (dC : Nat → ClassId) (dI : Nat → Nat → Nat) (ad : Nat → Nat) (S : XS) (j : Nat) (v : Nat) (hj : j < 4) (hv : v < 16) (hI : InvX S) : Met l yX4_rank wsX4_rank ({ frames := 2, cells := 0, slots := 0, locals := 41 } : Room) (va_Pc [.ref (ad 57), .int (nI j), .int (nI v)] (PX dC dI ad S)) (vp_Si (fun r => r = nI ((S.2.1 j).2.2.2.1 v))) 0 0 (fun _ => False) := by
  refine Met.ofW (cc := cX4_rank) (maxL := 4) (ret := (some .int)) pl_X4 rfl ?_
  intro p e s m args below meth c s₁ B hml hv
  obtain ⟨rfl, hPX⟩ := hv
  have hx := B.exec
  have hb := B.bytes
  have hr := B.returns
  have hts := atoms_spec (ws := wsX4_rank) B.pre
  have hown : s.vm.findClass RX4 = some m.cls := findClass_of_methodNamed B.named
  have hlocks := B.notSynchronized
  have hX := WX.of hPX
  have hl := lv_entry ([.ref (ad 57), .int (nI j), .int (nI v)]) (n := 4) (Nat.le_of_ble_eq_true rfl)
  rw [lg_entry_eq]
  generalize (lg_sl ([.ref (ad 57), .int (nI j), .int (nI v)]) ++ List.replicate (4 - (lg_sl ([.ref (ad 57), .int (nI j), .int (nI v)])).length) Slot.unset).toArray = ls at hl ⊢
  have hl : lv_has ls 4 [(0, .ref (ad 57)), (1, .int (nI j)), (2, .int (nI v))] := hl
  show W p l e ({ frames := 2, cells := 0, slots := 0, locals := 41 } : Room) s m ([.ref (ad 57), .int (nI j), .int (nI v)]).toArray below meth c s.heap [] 0 0 (MQ below (vp_Si (fun r => r = nI ((S.2.1 j).2.2.2.1 v))) ([.ref (ad 57), .int (nI j), .int (nI v)]).toArray s 0 0 (fun _ => False)) (F0 m 0 ls [])
  have hn := (hI.2 j (by omega)).1.1
  refine lv_aload_n hx hb dX4_rank_0 rfl (lv_at hl 0 rfl) ?_
  refine lv_iload_n hx hb dX4_rank_1 rfl (lv_at hl 1 rfl) ?_
  refine va_csr (va_Run.run (va_runV (As := [.int (nI j)]) (rest := []) ⟨hx, hb, hml, hown, hts⟩ (m_X4_orderAt l dC dI ad S j (by omega)) (cwV 1 hts gX4_rank_X4_orderAt rfl rfl rfl hdX4_orderAt_1 ⟨Nat.le_of_ble_eq_true rfl, Nat.le_of_ble_eq_true rfl⟩) (hX.preTop 57 6 (by decide) (by decide) rfl rfl) rfl rfl hl.1 rfl (lv_room (Nat.le_of_ble_eq_true rfl)) dX4_rank_2 ⟨Nat.le_of_ble_eq_true rfl, Nat.le_of_ble_eq_true rfl⟩)) (fun k_ hk_ => ?_)
  rw [hk_]
  refine lv_astore_n (lv' := [(3, .ref (ad (24 + 5 * j))), (0, .ref (ad 57)), (1, .int (nI j)), (2, .int (nI v))]) hx hb dX4_rank_5 rfl hl (by decide) rfl (fun ls hl => ?_)
  refine lv_iload_n hx hb dX4_rank_6 rfl (lv_at hl 3 rfl) ?_
  refine va_csv (va_Run.run (va_runS (As := [.int (nI v)]) (rest := []) ⟨hx, hb, hml, hown, hts⟩ (m_X4_demandValue l dC dI ad S v (by omega)) (va_cwS 1 hts gX4_rank_X4_demandValue rfl rfl rfl hdX4_demandValue_1.2 ⟨Nat.le_of_ble_eq_true rfl, Nat.le_of_ble_eq_true rfl⟩) hX.preS rfl rfl hl.1 rfl (lv_room (Nat.le_of_ble_eq_true rfl)) dX4_rank_7 ⟨Nat.le_of_ble_eq_true rfl, Nat.le_of_ble_eq_true rfl⟩)) (fun _ => ?_)
  refine lv_aload_n hx hb dX4_rank_10 rfl (lv_at hl 0 rfl) ?_
  refine lv_iload_n hx hb dX4_rank_11 rfl (lv_at hl 3 rfl) ?_
  refine kx_cr (v := nI (((S.2.1 j).2.2.2.1) v)) (va_runV (As := [.int (nI v)]) (rest := []) ⟨hx, hb, hml, hown, hts⟩ (m_X1_rankOf l dC dI ad S j v (by omega) (by omega)) (cwV 1 hts gX4_rank_X1_rankOf rfl rfl rfl hdX1_rankOf_1 ⟨Nat.le_of_ble_eq_true rfl, Nat.le_of_ble_eq_true rfl⟩) (hX.preOrd (by omega)) rfl rfl hl.1 rfl (lv_room (Nat.le_of_ble_eq_true rfl)) dX4_rank_12 ⟨Nat.le_of_ble_eq_true rfl, Nat.le_of_ble_eq_true rfl⟩) (fun _ h => h) ?_
  exact W.iret (v := nI (((S.2.1 j).2.2.2.1) v)) hx hb hr (fun t9 ht9 hW9 => ⟨_, rfl, rfl, ht9⟩) (fun _ h => nomatch h) dX4_rank_15
set_option maxHeartbeats 4000000 in
set_option maxRecDepth 100000 in
theorem m_X4_keyOf (l : Launch) (dC : Nat → ClassId) (dI : Nat → Nat → Nat) (ad : Nat → Nat) (S : XS) (k : Nat) (v : Nat) (hk : k ≤ 7) (hv : v < 16) : Met l yX4_keyOf wsX4_keyOf ({ frames := 2, cells := 0, slots := 0, locals := 41 } : Room) (va_Pc [.ref (ad 57), .int (nI k), .int (nI v)] (PX dC dI ad S)) (vp_Si (fun r => r = nI (numK k v))) 0 0 (fun _ => False) := by
  refine Met.ofW (cc := cX4_keyOf) (maxL := 3) (ret := (some .int)) pl_X4 rfl ?_
  intro p e s m args below meth c s₁ B hml hv
  obtain ⟨rfl, hPX⟩ := hv
  have hx := B.exec
  have hb := B.bytes
  have hr := B.returns
  have hts := atoms_spec (ws := wsX4_keyOf) B.pre
  have hown : s.vm.findClass RX4 = some m.cls := findClass_of_methodNamed B.named
  have hlocks := B.notSynchronized
  have hX := WX.of hPX
  have hl := lv_entry ([.ref (ad 57), .int (nI k), .int (nI v)]) (n := 3) (Nat.le_of_ble_eq_true rfl)
  rw [lg_entry_eq]
  generalize (lg_sl ([.ref (ad 57), .int (nI k), .int (nI v)]) ++ List.replicate (3 - (lg_sl ([.ref (ad 57), .int (nI k), .int (nI v)])).length) Slot.unset).toArray = ls at hl ⊢
  have hl : lv_has ls 3 [(0, .ref (ad 57)), (1, .int (nI k)), (2, .int (nI v))] := hl
  show W p l e ({ frames := 2, cells := 0, slots := 0, locals := 41 } : Room) s m ([.ref (ad 57), .int (nI k), .int (nI v)]).toArray below meth c s.heap [] 0 0 (MQ below (vp_Si (fun r => r = nI (numK k v))) ([.ref (ad 57), .int (nI k), .int (nI v)]).toArray s 0 0 (fun _ => False)) (F0 m 0 ls [])
  refine lv_iload_n hx hb dX4_keyOf_0 rfl (lv_at hl 1 rfl) ?_
  refine lv_bipush (v := nI 7) hx hb dX4_keyOf_1 (by decide) ?_
  refine va_csv (va_Run.run (va_runS (As := [.int (nI k), .int (nI 7)]) (rest := []) ⟨hx, hb, hml, hown, hts⟩ (m_X4_demandWithin l dC dI ad S k 7 (by omega) (by omega)) (va_cwS 2 hts gX4_keyOf_X4_demandWithin rfl rfl rfl hdX4_demandWithin_2.2 ⟨Nat.le_of_ble_eq_true rfl, Nat.le_of_ble_eq_true rfl⟩) hX.preS rfl rfl hl.1 rfl (lv_room (Nat.le_of_ble_eq_true rfl)) dX4_keyOf_3 ⟨Nat.le_of_ble_eq_true rfl, Nat.le_of_ble_eq_true rfl⟩)) (fun _ => ?_)
  refine lv_iload_n hx hb dX4_keyOf_6 rfl (lv_at hl 2 rfl) ?_
  refine va_csv (va_Run.run (va_runS (As := [.int (nI v)]) (rest := []) ⟨hx, hb, hml, hown, hts⟩ (m_X4_demandValue l dC dI ad S v (by omega)) (va_cwS 1 hts gX4_keyOf_X4_demandValue rfl rfl rfl hdX4_demandValue_1.2 ⟨Nat.le_of_ble_eq_true rfl, Nat.le_of_ble_eq_true rfl⟩) hX.preS rfl rfl hl.1 rfl (lv_room (Nat.le_of_ble_eq_true rfl)) dX4_keyOf_7 ⟨Nat.le_of_ble_eq_true rfl, Nat.le_of_ble_eq_true rfl⟩)) (fun _ => ?_)
  refine lv_iload_n hx hb dX4_keyOf_10 rfl (lv_at hl 1 rfl) ?_
  refine lv_iload_n hx hb dX4_keyOf_11 rfl (lv_at hl 2 rfl) ?_
  refine kx_cr (v := nI (numK k v)) (va_runS (As := [.int (nI k), .int (nI v)]) (rest := []) ⟨hx, hb, hml, hown, hts⟩ (m_X1_numberBy l dC dI ad S k v (by omega) (by omega)) (va_cwS 2 hts gX4_keyOf_X1_numberBy rfl rfl rfl hdX1_numberBy_2.2 ⟨Nat.le_of_ble_eq_true rfl, Nat.le_of_ble_eq_true rfl⟩) hX.preS rfl rfl hl.1 rfl (lv_room (Nat.le_of_ble_eq_true rfl)) dX4_keyOf_12 ⟨Nat.le_of_ble_eq_true rfl, Nat.le_of_ble_eq_true rfl⟩) (fun _ h => h) ?_
  exact W.iret (v := nI (numK k v)) hx hb hr (fun t9 ht9 hW9 => ⟨_, rfl, rfl, ht9⟩) (fun _ h => nomatch h) dX4_keyOf_15
set_option maxHeartbeats 4000000 in
set_option maxRecDepth 100000 in
theorem m_X4_house (l : Launch) (dC : Nat → ClassId) (dI : Nat → Nat → Nat) (ad : Nat → Nat) (S : XS) (k : Nat) (hk : k ≤ 4) (hI : InvX S) : Met l yX4_house wsX4_house ({ frames := 3, cells := 0, slots := 0, locals := 65 } : Room) (va_Pc [.ref (ad 57), .int (nI k)] (PX dC dI ad S)) (vp_Si (fun r => r = nI (countX S k))) 0 0 (fun _ => False) := by
  refine Met.ofW (cc := cX4_house) (maxL := 2) (ret := (some .int)) pl_X4 rfl ?_
  intro p e s m args below meth c s₁ B hml hv
  obtain ⟨rfl, hPX⟩ := hv
  have hx := B.exec
  have hb := B.bytes
  have hr := B.returns
  have hts := atoms_spec (ws := wsX4_house) B.pre
  have hown : s.vm.findClass RX4 = some m.cls := findClass_of_methodNamed B.named
  have hlocks := B.notSynchronized
  have hX := WX.of hPX
  have hl := lv_entry ([.ref (ad 57), .int (nI k)]) (n := 2) (Nat.le_of_ble_eq_true rfl)
  rw [lg_entry_eq]
  generalize (lg_sl ([.ref (ad 57), .int (nI k)]) ++ List.replicate (2 - (lg_sl ([.ref (ad 57), .int (nI k)])).length) Slot.unset).toArray = ls at hl ⊢
  have hl : lv_has ls 2 [(0, .ref (ad 57)), (1, .int (nI k))] := hl
  show W p l e ({ frames := 3, cells := 0, slots := 0, locals := 65 } : Room) s m ([.ref (ad 57), .int (nI k)]).toArray below meth c s.heap [] 0 0 (MQ below (vp_Si (fun r => r = nI (countX S k))) ([.ref (ad 57), .int (nI k)]).toArray s 0 0 (fun _ => False)) (F0 m 0 ls [])
  refine lv_iload_n hx hb dX4_house_0 rfl (lv_at hl 1 rfl) ?_
  refine lv_iconst (v := nI 4) hx hb dX4_house_1 (by decide) ?_
  refine va_csv (va_Run.run (va_runS (As := [.int (nI k), .int (nI 4)]) (rest := []) ⟨hx, hb, hml, hown, hts⟩ (m_X4_demandWithin l dC dI ad S k 4 (by omega) (by omega)) (va_cwS 2 hts gX4_house_X4_demandWithin rfl rfl rfl hdX4_demandWithin_2.2 ⟨Nat.le_of_ble_eq_true rfl, Nat.le_of_ble_eq_true rfl⟩) hX.preS rfl rfl hl.1 rfl (lv_room (Nat.le_of_ble_eq_true rfl)) dX4_house_2 ⟨Nat.le_of_ble_eq_true rfl, Nat.le_of_ble_eq_true rfl⟩)) (fun _ => ?_)
  refine lv_aload_n hx hb dX4_house_5 rfl (lv_at hl 0 rfl) ?_
  refine lv_iload_n hx hb dX4_house_6 rfl (lv_at hl 1 rfl) ?_
  refine kx_cr (v := nI (countX S k)) (va_runV (As := [.int (nI k)]) (rest := []) ⟨hx, hb, hml, hown, hts⟩ (m_X4_count l dC dI ad S k (by omega) hI) (cwV 1 hts gX4_house_X4_count rfl rfl rfl hdX4_count_1 ⟨Nat.le_of_ble_eq_true rfl, Nat.le_of_ble_eq_true rfl⟩) (hX.preTop 57 6 (by decide) (by decide) rfl rfl) rfl rfl hl.1 rfl (lv_room (Nat.le_of_ble_eq_true rfl)) dX4_house_7 ⟨Nat.le_of_ble_eq_true rfl, Nat.le_of_ble_eq_true rfl⟩) (fun _ h => h) ?_
  exact W.iret (v := nI (countX S k)) hx hb hr (fun t9 ht9 hW9 => ⟨_, rfl, rfl, ht9⟩) (fun _ h => nomatch h) dX4_house_10
end
section
/-! digests -/
def mixI (d : Int64) (x : Nat) : Int64 := d * lN 31 + lN x
def bN (b : Bool) : Nat := if b then 1 else 0
def iterL (f : Nat → Int64 → Int64) : Nat → Int64 → Int64
  | 0, d => d
  | n + 1, d => f n (iterL f n d)
def mixRow (S : XS) (i : Nat) (d : Int64) : Int64 := iterL (fun k d => mixI (mixI d ((S.1 i).1 k)) ((S.1 i).2.1 k)) (S.1 i).2.2 (mixI d (S.1 i).2.2)
def mixRows (S : XS) (d : Int64) : Int64 := iterL (mixRow S) 3 d
def mixOrd (S : XS) (j : Nat) (d : Int64) : Int64 := iterL (fun v d => mixI d ((S.2.1 j).2.2.2.1 v)) 16 (mixI (iterL (fun k d => mixI (mixI d ((S.2.1 j).1 k)) (bN ((S.2.1 j).2.1 k))) (S.2.1 j).2.2.2.2.1 (mixI d (S.2.1 j).2.2.2.2.1)) (S.2.1 j).2.2.2.2.2)
def mixOrders (S : XS) (d : Int64) : Int64 := iterL (mixOrd S) 4 d
def mixPair (S : XS) (a b : Nat) (d : Int64) : Int64 := mixI (mixI d (apartN (S.2.1 a).2.2.1 (S.2.1 b).2.2.1)) (bN (finerB (S.2.1 a).2.2.1 (S.2.1 b).2.2.1))
def mixPairs (S : XS) (d : Int64) : Int64 := iterL (fun a d => iterL (mixPair S a) 4 d) 4 d
def mixSeq (S : XS) (i j : Nat) (d : Int64) : Int64 := mixI (mixI d (cntB (firstB (S.2.1 j).2.2.1 (S.1 i).1) (S.1 i).2.2)) (bN (seqB (S.2.1 j).2.2.1 (S.1 i).1 (S.1 i).2.2))
def mixSeqs (S : XS) (d : Int64) : Int64 := iterL (fun i d => iterL (mixSeq S i) 4 d) 3 d
theorem sumN_le {f : Nat → Nat} {c : Nat} (h : ∀ k, f k ≤ c) : ∀ n, sumN f n ≤ n * c
  | 0 => Nat.zero_le _
  | n + 1 => by
    have ih := sumN_le h n
    have := h n
    rw [sumN, Nat.add_mul, Nat.one_mul]
    omega
theorem apartN_le (c d : Nat → Nat) : apartN c d ≤ 256 := sumN_le (c := 16) (fun _ => cntB_le _ 16) 16
section KXL
variable {p : Program} {l : Launch} {e : Env} {R : Room} {s : State} {m : MethodId} {args : Array Value} {below : List Frame} {meth : Method} {c : Code} {H : Heap} {locs : List Loc} {cells slots : Nat} {Q : State → Prop}
theorem kx_crl {pc : Nat} {ls : Array Slot} {rest st0 : List Value} {a : Array Value} {v : Int64} {post : Int64 → Prop} (hr : va_Run p l e R s m args below meth c H locs cells slots 0 0 (F0 m pc ls st0) rest (vp_Sl post a) (fun _ => False)) (hv : ∀ r, post r → r = v) (kk : W p l e R s m args below meth c H locs cells slots Q (F0 m (pc + 3) ls (.long v :: rest))) : W p l e R s m args below meth c H locs cells slots Q (F0 m pc ls st0) :=
  vp_callSl (va_Run.run hr) (fun r h => by rw [hv r h]; exact kk)
end KXL
set_option maxHeartbeats 4000000 in
set_option maxRecDepth 100000 in
theorem m_X4_mixed (l : Launch) (dC : Nat → ClassId) (dI : Nat → Nat → Nat) (ad : Nat → Nat) (S : XS) (d : Int64) (x : Nat) (hx3 : x < 2 ^ 31) : Met l yX4_mixed wsX4_mixed ({ frames := 0, cells := 0, slots := 0, locals := 0 } : Room) (va_Pc [.long d, .int (nI x)] (PX dC dI ad S)) (vp_Sl (fun r => r = mixI d x)) 0 0 (fun _ => False) := by
  refine Met.ofW (cc := cX4_mixed) (maxL := 3) (ret := (some .long)) pl_X4 rfl ?_
  intro p e s m args below meth c s₁ B hml hv
  obtain ⟨rfl, hPX⟩ := hv
  have hx := B.exec
  have hb := B.bytes
  have hr := B.returns
  have hts := atoms_spec (ws := wsX4_mixed) B.pre
  have hown : s.vm.findClass RX4 = some m.cls := findClass_of_methodNamed B.named
  have hlocks := B.notSynchronized
  have hX := WX.of hPX
  have hl := lv_entry ([.long d, .int (nI x)]) (n := 3) (Nat.le_of_ble_eq_true rfl)
  rw [lg_entry_eq]
  generalize (lg_sl ([.long d, .int (nI x)]) ++ List.replicate (3 - (lg_sl ([.long d, .int (nI x)])).length) Slot.unset).toArray = ls at hl ⊢
  have hl : lv_has ls 3 [(0, .long d), (2, .int (nI x))] := hl
  show W p l e ({ frames := 0, cells := 0, slots := 0, locals := 0 } : Room) s m ([.long d, .int (nI x)]).toArray below meth c s.heap [] 0 0 (MQ below (vp_Sl (fun r => r = mixI d x)) ([.long d, .int (nI x)]).toArray s 0 0 (fun _ => False)) (F0 m 0 ls [])
  refine lv_lload_n hx hb dX4_mixed_0 rfl (lv_at hl 0 rfl) ?_
  refine lv_ldc2 (v := lN 31) hx hb hown (hts (.constantLong RX4 326 31) (tm 654 (by decide +kernel) rfl)) dX4_mixed_1 ?_
  refine lv_lmul hx hb dX4_mixed_4 ?_
  refine lv_iload_n hx hb dX4_mixed_5 rfl (lv_at hl 1 rfl) ?_
  refine lv_i2l (v := lN x) hx hb dX4_mixed_6 (nI_l (by omega)) ?_
  refine lv_ladd hx hb dX4_mixed_7 ?_
  exact W.lret (v := (d * lN 31) + lN x) hx hb hr (fun t9 ht9 hW9 => ⟨_, rfl, rfl, ht9⟩) (fun _ h => nomatch h) dX4_mixed_8
set_option maxHeartbeats 4000000 in
set_option maxRecDepth 100000 in
theorem m_X4_mixedWithRows (l : Launch) (dC : Nat → ClassId) (dI : Nat → Nat → Nat) (ad : Nat → Nat) (S : XS) (d : Int64) (hI : InvX S) : Met l yX4_mixedWithRows wsX4_mixedWithRows ({ frames := 1, cells := 0, slots := 0, locals := 22 } : Room) (va_Pc [.ref (ad 57), .long d] (PX dC dI ad S)) (vp_Sl (fun r => r = mixRows S d)) 0 0 (fun _ => False) := by
  refine Met.ofW (cc := cX4_mixedWithRows) (maxL := 8) (ret := (some .long)) pl_X4 rfl ?_
  intro p e s m args below meth c s₁ B hml hv
  obtain ⟨rfl, hPX⟩ := hv
  have hx := B.exec
  have hb := B.bytes
  have hr := B.returns
  have hts := atoms_spec (ws := wsX4_mixedWithRows) B.pre
  have hown : s.vm.findClass RX4 = some m.cls := findClass_of_methodNamed B.named
  have hlocks := B.notSynchronized
  have hX := WX.of hPX
  have hl := lv_entry ([.ref (ad 57), .long d]) (n := 8) (Nat.le_of_ble_eq_true rfl)
  rw [lg_entry_eq]
  generalize (lg_sl ([.ref (ad 57), .long d]) ++ List.replicate (8 - (lg_sl ([.ref (ad 57), .long d])).length) Slot.unset).toArray = ls at hl ⊢
  have hl : lv_has ls 8 [(0, .ref (ad 57)), (1, .long d)] := hl
  show W p l e ({ frames := 1, cells := 0, slots := 0, locals := 22 } : Room) s m ([.ref (ad 57), .long d]).toArray below meth c s.heap [] 0 0 (MQ below (vp_Sl (fun r => r = mixRows S d)) ([.ref (ad 57), .long d]).toArray s 0 0 (fun _ => False)) (F0 m 0 ls [])
  refine lv_lload_n hx hb dX4_mixedWithRows_0 rfl (lv_at hl 1 rfl) ?_
  refine lv_lstore_n (lv' := [(3, .long d), (0, .ref (ad 57)), (1, .long d)]) hx hb dX4_mixedWithRows_1 rfl hl (by decide) rfl (fun ls hl => ?_)
  refine lv_iconst (v := nI 0) hx hb dX4_mixedWithRows_2 (by decide) ?_
  refine lv_istore (lv' := [(5, .int (nI 0)), (3, .long d), (0, .ref (ad 57)), (1, .long d)]) hx hb dX4_mixedWithRows_3 hl (by decide) rfl (fun ls hl => ?_)
  have loop5 : ∀ (fuel : Nat) (x5 : Int64) (i : Nat) (hi : i ≤ 3) (hx5 : x5 = iterL (mixRow S) i d), 3 - i < fuel → ∀ ls : Array Slot, lv_has ls 8 [(0, .ref (ad 57)), (1, .long d), (3, .long x5), (5, .int (nI i))] → W p l e ({ frames := 1, cells := 0, slots := 0, locals := 22 } : Room) s m ([.ref (ad 57), .long d]).toArray below meth c s.heap [] 0 0 (MQ below (vp_Sl (fun r => r = mixRows S d)) ([.ref (ad 57), .long d]).toArray s 0 0 (fun _ => False)) (F0 m 5 ls []) := by
    intro fuel
    induction fuel with
    | zero => intro x5 i hi hx5 hf; exact absurd hf (Nat.not_lt_zero _)
    | succ fuel ih5 =>
      intro x5 i hi hx5 hf ls hl
      refine lv_iload hx hb dX4_mixedWithRows_5 (lv_at hl 3 rfl) ?_
      refine lv_iconst (v := nI 3) hx hb dX4_mixedWithRows_7 (by decide) ?_
      refine kn_icmp_ge (tgt := 78) hx hb (by omega) (by omega) dX4_mixedWithRows_8 (by decide) (fun k_1 => ?_) (fun k_1 => ?_)
      · skip
        refine lv_lload_n hx hb dX4_mixedWithRows_78 rfl (lv_at hl 2 rfl) ?_
        exact W.lret (v := x5) hx hb hr (fun t9 ht9 hW9 => ⟨_, rfl, (by rw [hx5, show i = 3 by omega]; rfl), ht9⟩) (fun _ h => nomatch h) dX4_mixedWithRows_79
      · skip
        have hr9 := hI.1 i (by omega)
        have hn9 := hr9.1
        refine lv_aload_n hx hb dX4_mixedWithRows_11 rfl (lv_at hl 0 rfl) ?_
        refine lv_iload hx hb dX4_mixedWithRows_12 (lv_at hl 3 rfl) ?_
        refine va_csr (va_Run.run (va_runV (As := [.int (nI i)]) (rest := []) ⟨hx, hb, hml, hown, hts⟩ (m_X4_rowAt l dC dI ad S i (by omega)) (cwV 1 hts gX4_mixedWithRows_X4_rowAt rfl rfl rfl hdX4_rowAt_1 ⟨Nat.le_of_ble_eq_true rfl, Nat.le_of_ble_eq_true rfl⟩) (hX.preTop 57 6 (by decide) (by decide) rfl rfl) rfl rfl hl.1 rfl (lv_room (Nat.le_of_ble_eq_true rfl)) dX4_mixedWithRows_14 ⟨Nat.le_of_ble_eq_true rfl, Nat.le_of_ble_eq_true rfl⟩)) (fun k_ hk_ => ?_)
        rw [hk_]
        refine lv_astore (lv' := [(6, .ref (ad (3 * i))), (0, .ref (ad 57)), (1, .long d), (3, .long x5), (5, .int (nI i))]) hx hb dX4_mixedWithRows_17 hl (by decide) rfl (fun ls hl => ?_)
        refine lv_lload_n hx hb dX4_mixedWithRows_19 rfl (lv_at hl 3 rfl) ?_
        refine lv_aload hx hb dX4_mixedWithRows_20 (lv_at hl 0 rfl) ?_
        refine kx_cr (v := nI ((S.1 i).2.2)) (va_runV (As := []) (rest := [.long x5]) ⟨hx, hb, hml, hown, hts⟩ (m_X2_length l dC dI ad S i (by omega)) (cwV 0 hts gX4_mixedWithRows_X2_length rfl rfl rfl hdX2_length_0 ⟨Nat.le_of_ble_eq_true rfl, Nat.le_of_ble_eq_true rfl⟩) (hX.preRow (by omega)) rfl rfl hl.1 rfl (lv_room (Nat.le_of_ble_eq_true rfl)) dX4_mixedWithRows_22 ⟨Nat.le_of_ble_eq_true rfl, Nat.le_of_ble_eq_true rfl⟩) (fun _ h => h) ?_
        refine kx_crl (v := mixI x5 ((S.1 i).2.2)) (va_runS (As := [.long x5, .int (nI ((S.1 i).2.2))]) (rest := []) ⟨hx, hb, hml, hown, hts⟩ (m_X4_mixed l dC dI ad S x5 ((S.1 i).2.2) (by omega)) (va_cwS 2 hts gX4_mixedWithRows_X4_mixed rfl rfl rfl hdX4_mixed_2.2 ⟨Nat.le_of_ble_eq_true rfl, Nat.le_of_ble_eq_true rfl⟩) hX.preS rfl rfl hl.1 rfl (lv_room (Nat.le_of_ble_eq_true rfl)) dX4_mixedWithRows_25 ⟨Nat.le_of_ble_eq_true rfl, Nat.le_of_ble_eq_true rfl⟩) (fun _ h => h) ?_
        refine lv_lstore_n (lv' := [(3, .long (mixI x5 ((S.1 i).2.2))), (6, .ref (ad (3 * i))), (0, .ref (ad 57)), (1, .long d), (5, .int (nI i))]) hx hb dX4_mixedWithRows_28 rfl hl (by decide) rfl (fun ls hl => ?_)
        refine lv_iconst (v := nI 0) hx hb dX4_mixedWithRows_29 (by decide) ?_
        refine lv_istore (lv' := [(7, .int (nI 0)), (3, .long (mixI x5 ((S.1 i).2.2))), (6, .ref (ad (3 * i))), (0, .ref (ad 57)), (1, .long d), (5, .int (nI i))]) hx hb dX4_mixedWithRows_30 hl (by decide) rfl (fun ls hl => ?_)
        have loop32 : ∀ (fuel : Nat) (x7 : Int64) (q : Nat) (hq : q ≤ (S.1 i).2.2) (hx7 : x7 = iterL (fun k d => mixI (mixI d ((S.1 i).1 k)) ((S.1 i).2.1 k)) q (mixI x5 (S.1 i).2.2)), (S.1 i).2.2 - q < fuel → ∀ ls : Array Slot, lv_has ls 8 [(0, .ref (ad 57)), (1, .long d), (3, .long x7), (5, .int (nI i)), (6, .ref (ad (3 * i))), (7, .int (nI q))] → W p l e ({ frames := 1, cells := 0, slots := 0, locals := 22 } : Room) s m ([.ref (ad 57), .long d]).toArray below meth c s.heap [] 0 0 (MQ below (vp_Sl (fun r => r = mixRows S d)) ([.ref (ad 57), .long d]).toArray s 0 0 (fun _ => False)) (F0 m 32 ls []) := by
          intro fuel
          induction fuel with
          | zero => intro x7 q hq hx7 hf; exact absurd hf (Nat.not_lt_zero _)
          | succ fuel ih32 =>
            intro x7 q hq hx7 hf ls hl
            refine lv_iload hx hb dX4_mixedWithRows_32 (lv_at hl 5 rfl) ?_
            refine lv_aload hx hb dX4_mixedWithRows_34 (lv_at hl 4 rfl) ?_
            refine kx_cr (v := nI ((S.1 i).2.2)) (va_runV (As := []) (rest := [.int (nI q)]) ⟨hx, hb, hml, hown, hts⟩ (m_X2_length l dC dI ad S i (by omega)) (cwV 0 hts gX4_mixedWithRows_X2_length rfl rfl rfl hdX2_length_0 ⟨Nat.le_of_ble_eq_true rfl, Nat.le_of_ble_eq_true rfl⟩) (hX.preRow (by omega)) rfl rfl hl.1 rfl (lv_room (Nat.le_of_ble_eq_true rfl)) dX4_mixedWithRows_36 ⟨Nat.le_of_ble_eq_true rfl, Nat.le_of_ble_eq_true rfl⟩) (fun _ h => h) ?_
            refine kn_icmp_ge (tgt := 72) hx hb (by omega) (by omega) dX4_mixedWithRows_39 (by decide) (fun k_2 => ?_) (fun k_2 => ?_)
            · skip
              refine lv_iinc (v := nI (i + 1)) (lv' := [(5, .int (nI (i + 1))), (0, .ref (ad 57)), (1, .long d), (3, .long x7), (6, .ref (ad (3 * i))), (7, .int (nI q))]) hx hb dX4_mixedWithRows_72 hl (k := 3) rfl (nI_1 i) (by decide) rfl (fun ls hl => ?_)
              refine lv_goto (tgt := 5) hx hb dX4_mixedWithRows_75 (by decide) ?_
              exact ih5  x7 (i + 1) (by omega) (by rw [hx7, hx5, show q = (S.1 i).2.2 by omega]; rfl) (by omega) _ (lv_sub hl [1, 2, 3, 0] rfl)
            · skip
              refine lv_lload_n hx hb dX4_mixedWithRows_42 rfl (lv_at hl 2 rfl) ?_
              refine lv_aload hx hb dX4_mixedWithRows_43 (lv_at hl 4 rfl) ?_
              refine lv_iload hx hb dX4_mixedWithRows_45 (lv_at hl 5 rfl) ?_
              have hv9 := hr9.2 q (by omega)
              refine kx_cr (v := nI (((S.1 i).1) q)) (va_runV (As := [.int (nI q)]) (rest := [.long x7]) ⟨hx, hb, hml, hown, hts⟩ (m_X2_valueOn l dC dI ad S i q (by omega) (by omega)) (cwV 1 hts gX4_mixedWithRows_X2_valueOn rfl rfl rfl hdX2_valueOn_1 ⟨Nat.le_of_ble_eq_true rfl, Nat.le_of_ble_eq_true rfl⟩) (hX.preRow (by omega)) rfl rfl hl.1 rfl (lv_room (Nat.le_of_ble_eq_true rfl)) dX4_mixedWithRows_47 ⟨Nat.le_of_ble_eq_true rfl, Nat.le_of_ble_eq_true rfl⟩) (fun _ h => h) ?_
              refine kx_crl (v := mixI x7 (((S.1 i).1) q)) (va_runS (As := [.long x7, .int (nI (((S.1 i).1) q))]) (rest := []) ⟨hx, hb, hml, hown, hts⟩ (m_X4_mixed l dC dI ad S x7 (((S.1 i).1) q) (by omega)) (va_cwS 2 hts gX4_mixedWithRows_X4_mixed rfl rfl rfl hdX4_mixed_2.2 ⟨Nat.le_of_ble_eq_true rfl, Nat.le_of_ble_eq_true rfl⟩) hX.preS rfl rfl hl.1 rfl (lv_room (Nat.le_of_ble_eq_true rfl)) dX4_mixedWithRows_50 ⟨Nat.le_of_ble_eq_true rfl, Nat.le_of_ble_eq_true rfl⟩) (fun _ h => h) ?_
              refine lv_lstore_n (lv' := [(3, .long (mixI x7 (((S.1 i).1) q))), (0, .ref (ad 57)), (1, .long d), (5, .int (nI i)), (6, .ref (ad (3 * i))), (7, .int (nI q))]) hx hb dX4_mixedWithRows_53 rfl hl (by decide) rfl (fun ls hl => ?_)
              refine lv_lload_n hx hb dX4_mixedWithRows_54 rfl (lv_at hl 0 rfl) ?_
              refine lv_aload hx hb dX4_mixedWithRows_55 (lv_at hl 4 rfl) ?_
              refine lv_iload hx hb dX4_mixedWithRows_57 (lv_at hl 5 rfl) ?_
              refine kx_cr (v := nI (((S.1 i).2.1) q)) (va_runV (As := [.int (nI q)]) (rest := [.long (mixI x7 (((S.1 i).1) q))]) ⟨hx, hb, hml, hown, hts⟩ (m_X2_markOn l dC dI ad S i q (by omega) (by omega)) (cwV 1 hts gX4_mixedWithRows_X2_markOn rfl rfl rfl hdX2_markOn_1 ⟨Nat.le_of_ble_eq_true rfl, Nat.le_of_ble_eq_true rfl⟩) (hX.preRow (by omega)) rfl rfl hl.1 rfl (lv_room (Nat.le_of_ble_eq_true rfl)) dX4_mixedWithRows_59 ⟨Nat.le_of_ble_eq_true rfl, Nat.le_of_ble_eq_true rfl⟩) (fun _ h => h) ?_
              refine kx_crl (v := mixI (mixI x7 (((S.1 i).1) q)) (((S.1 i).2.1) q)) (va_runS (As := [.long (mixI x7 (((S.1 i).1) q)), .int (nI (((S.1 i).2.1) q))]) (rest := []) ⟨hx, hb, hml, hown, hts⟩ (m_X4_mixed l dC dI ad S (mixI x7 (((S.1 i).1) q)) (((S.1 i).2.1) q) (by omega)) (va_cwS 2 hts gX4_mixedWithRows_X4_mixed rfl rfl rfl hdX4_mixed_2.2 ⟨Nat.le_of_ble_eq_true rfl, Nat.le_of_ble_eq_true rfl⟩) hX.preS rfl rfl hl.1 rfl (lv_room (Nat.le_of_ble_eq_true rfl)) dX4_mixedWithRows_62 ⟨Nat.le_of_ble_eq_true rfl, Nat.le_of_ble_eq_true rfl⟩) (fun _ h => h) ?_
              refine lv_lstore_n (lv' := [(3, .long (mixI (mixI x7 (((S.1 i).1) q)) (((S.1 i).2.1) q))), (0, .ref (ad 57)), (1, .long d), (5, .int (nI i)), (6, .ref (ad (3 * i))), (7, .int (nI q))]) hx hb dX4_mixedWithRows_65 rfl hl (by decide) rfl (fun ls hl => ?_)
              refine lv_iinc (v := nI (q + 1)) (lv' := [(7, .int (nI (q + 1))), (3, .long (mixI (mixI x7 (((S.1 i).1) q)) (((S.1 i).2.1) q))), (0, .ref (ad 57)), (1, .long d), (5, .int (nI i)), (6, .ref (ad (3 * i)))]) hx hb dX4_mixedWithRows_66 hl (k := 5) rfl (nI_1 q) (by decide) rfl (fun ls hl => ?_)
              refine lv_goto (tgt := 32) hx hb dX4_mixedWithRows_69 (by decide) ?_
              exact ih32  (mixI (mixI x7 (((S.1 i).1) q)) (((S.1 i).2.1) q)) (q + 1) (by omega) (by rw [hx7]; rfl) (by omega) _ (lv_sub hl [2, 3, 1, 4, 5, 0] rfl)
        exact loop32 ((S.1 i).2.2 + 1) (mixI x5 ((S.1 i).2.2)) 0 (by omega) rfl (by omega) _ (lv_sub hl [3, 4, 1, 5, 2, 0] rfl)
  exact loop5 (3 + 1) d 0 (by omega) rfl (by omega) _ (lv_sub hl [2, 3, 1, 0] rfl)
set_option maxHeartbeats 4000000 in
set_option maxRecDepth 100000 in
theorem m_X4_mixedWithOrders (l : Launch) (dC : Nat → ClassId) (dI : Nat → Nat → Nat) (ad : Nat → Nat) (S : XS) (d : Int64) (hI : InvX S) : Met l yX4_mixedWithOrders wsX4_mixedWithOrders ({ frames := 1, cells := 0, slots := 0, locals := 22 } : Room) (va_Pc [.ref (ad 57), .long d] (PX dC dI ad S)) (vp_Sl (fun r => r = mixOrders S d)) 0 0 (fun _ => False) := by
  refine Met.ofW (cc := cX4_mixedWithOrders) (maxL := 8) (ret := (some .long)) pl_X4 rfl ?_
  intro p e s m args below meth c s₁ B hml hv
  obtain ⟨rfl, hPX⟩ := hv
  have hx := B.exec
  have hb := B.bytes
  have hr := B.returns
  have hts := atoms_spec (ws := wsX4_mixedWithOrders) B.pre
  have hown : s.vm.findClass RX4 = some m.cls := findClass_of_methodNamed B.named
  have hlocks := B.notSynchronized
  have hX := WX.of hPX
  have hl := lv_entry ([.ref (ad 57), .long d]) (n := 8) (Nat.le_of_ble_eq_true rfl)
  rw [lg_entry_eq]
  generalize (lg_sl ([.ref (ad 57), .long d]) ++ List.replicate (8 - (lg_sl ([.ref (ad 57), .long d])).length) Slot.unset).toArray = ls at hl ⊢
  have hl : lv_has ls 8 [(0, .ref (ad 57)), (1, .long d)] := hl
  show W p l e ({ frames := 1, cells := 0, slots := 0, locals := 22 } : Room) s m ([.ref (ad 57), .long d]).toArray below meth c s.heap [] 0 0 (MQ below (vp_Sl (fun r => r = mixOrders S d)) ([.ref (ad 57), .long d]).toArray s 0 0 (fun _ => False)) (F0 m 0 ls [])
  refine lv_lload_n hx hb dX4_mixedWithOrders_0 rfl (lv_at hl 1 rfl) ?_
  refine lv_lstore_n (lv' := [(3, .long d), (0, .ref (ad 57)), (1, .long d)]) hx hb dX4_mixedWithOrders_1 rfl hl (by decide) rfl (fun ls hl => ?_)
  refine lv_iconst (v := nI 0) hx hb dX4_mixedWithOrders_2 (by decide) ?_
  refine lv_istore (lv' := [(5, .int (nI 0)), (3, .long d), (0, .ref (ad 57)), (1, .long d)]) hx hb dX4_mixedWithOrders_3 hl (by decide) rfl (fun ls hl => ?_)
  have loop5 : ∀ (fuel : Nat) (x5 : Int64) (j : Nat) (hj : j ≤ 4) (hx5 : x5 = iterL (mixOrd S) j d), 4 - j < fuel → ∀ ls : Array Slot, lv_has ls 8 [(0, .ref (ad 57)), (1, .long d), (3, .long x5), (5, .int (nI j))] → W p l e ({ frames := 1, cells := 0, slots := 0, locals := 22 } : Room) s m ([.ref (ad 57), .long d]).toArray below meth c s.heap [] 0 0 (MQ below (vp_Sl (fun r => r = mixOrders S d)) ([.ref (ad 57), .long d]).toArray s 0 0 (fun _ => False)) (F0 m 5 ls []) := by
    intro fuel
    induction fuel with
    | zero => intro x5 j hj hx5 hf; exact absurd hf (Nat.not_lt_zero _)
    | succ fuel ih5 =>
      intro x5 j hj hx5 hf ls hl
      refine lv_iload hx hb dX4_mixedWithOrders_5 (lv_at hl 3 rfl) ?_
      refine lv_iconst (v := nI 4) hx hb dX4_mixedWithOrders_7 (by decide) ?_
      refine kn_icmp_ge (tgt := 124) hx hb (by omega) (by omega) dX4_mixedWithOrders_8 (by decide) (fun k_1 => ?_) (fun k_1 => ?_)
      · skip
        refine lv_lload_n hx hb dX4_mixedWithOrders_124 rfl (lv_at hl 2 rfl) ?_
        exact W.lret (v := x5) hx hb hr (fun t9 ht9 hW9 => ⟨_, rfl, (by rw [hx5, show j = 4 by omega]; rfl), ht9⟩) (fun _ h => nomatch h) dX4_mixedWithOrders_125
      · skip
        have ho9 := hI.2 j (by omega)
        have hn9 := ho9.1.1
        have hc9 := ordOK.cls ho9
        refine lv_aload_n hx hb dX4_mixedWithOrders_11 rfl (lv_at hl 0 rfl) ?_
        refine lv_iload hx hb dX4_mixedWithOrders_12 (lv_at hl 3 rfl) ?_
        refine va_csr (va_Run.run (va_runV (As := [.int (nI j)]) (rest := []) ⟨hx, hb, hml, hown, hts⟩ (m_X4_orderAt l dC dI ad S j (by omega)) (cwV 1 hts gX4_mixedWithOrders_X4_orderAt rfl rfl rfl hdX4_orderAt_1 ⟨Nat.le_of_ble_eq_true rfl, Nat.le_of_ble_eq_true rfl⟩) (hX.preTop 57 6 (by decide) (by decide) rfl rfl) rfl rfl hl.1 rfl (lv_room (Nat.le_of_ble_eq_true rfl)) dX4_mixedWithOrders_14 ⟨Nat.le_of_ble_eq_true rfl, Nat.le_of_ble_eq_true rfl⟩)) (fun k_ hk_ => ?_)
        rw [hk_]
        refine lv_astore (lv' := [(6, .ref (ad (24 + 5 * j))), (0, .ref (ad 57)), (1, .long d), (3, .long x5), (5, .int (nI j))]) hx hb dX4_mixedWithOrders_17 hl (by decide) rfl (fun ls hl => ?_)
        refine lv_lload_n hx hb dX4_mixedWithOrders_19 rfl (lv_at hl 3 rfl) ?_
        refine lv_aload hx hb dX4_mixedWithOrders_20 (lv_at hl 0 rfl) ?_
        refine kx_cr (v := nI ((S.2.1 j).2.2.2.2.1)) (va_runV (As := []) (rest := [.long x5]) ⟨hx, hb, hml, hown, hts⟩ (m_X1_length l dC dI ad S j  (by omega)) (cwV 0 hts gX4_mixedWithOrders_X1_length rfl rfl rfl hdX1_length_0 ⟨Nat.le_of_ble_eq_true rfl, Nat.le_of_ble_eq_true rfl⟩) (hX.preOrd (by omega)) rfl rfl hl.1 rfl (lv_room (Nat.le_of_ble_eq_true rfl)) dX4_mixedWithOrders_22 ⟨Nat.le_of_ble_eq_true rfl, Nat.le_of_ble_eq_true rfl⟩) (fun _ h => h) ?_
        refine kx_crl (v := mixI x5 ((S.2.1 j).2.2.2.2.1)) (va_runS (As := [.long x5, .int (nI ((S.2.1 j).2.2.2.2.1))]) (rest := []) ⟨hx, hb, hml, hown, hts⟩ (m_X4_mixed l dC dI ad S x5 ((S.2.1 j).2.2.2.2.1) (by omega)) (va_cwS 2 hts gX4_mixedWithOrders_X4_mixed rfl rfl rfl hdX4_mixed_2.2 ⟨Nat.le_of_ble_eq_true rfl, Nat.le_of_ble_eq_true rfl⟩) hX.preS rfl rfl hl.1 rfl (lv_room (Nat.le_of_ble_eq_true rfl)) dX4_mixedWithOrders_25 ⟨Nat.le_of_ble_eq_true rfl, Nat.le_of_ble_eq_true rfl⟩) (fun _ h => h) ?_
        refine lv_lstore_n (lv' := [(3, .long (mixI x5 ((S.2.1 j).2.2.2.2.1))), (6, .ref (ad (24 + 5 * j))), (0, .ref (ad 57)), (1, .long d), (5, .int (nI j))]) hx hb dX4_mixedWithOrders_28 rfl hl (by decide) rfl (fun ls hl => ?_)
        refine lv_iconst (v := nI 0) hx hb dX4_mixedWithOrders_29 (by decide) ?_
        refine lv_istore (lv' := [(7, .int (nI 0)), (3, .long (mixI x5 ((S.2.1 j).2.2.2.2.1))), (6, .ref (ad (24 + 5 * j))), (0, .ref (ad 57)), (1, .long d), (5, .int (nI j))]) hx hb dX4_mixedWithOrders_30 hl (by decide) rfl (fun ls hl => ?_)
        have loop32 : ∀ (fuel : Nat) (x7 : Int64) (q : Nat) (hq : q ≤ (S.2.1 j).2.2.2.2.1) (hx7 : x7 = iterL (fun k d => mixI (mixI d ((S.2.1 j).1 k)) (bN ((S.2.1 j).2.1 k))) q (mixI x5 (S.2.1 j).2.2.2.2.1)), (S.2.1 j).2.2.2.2.1 - q < fuel → ∀ ls : Array Slot, lv_has ls 8 [(0, .ref (ad 57)), (1, .long d), (3, .long x7), (5, .int (nI j)), (6, .ref (ad (24 + 5 * j))), (7, .int (nI q))] → W p l e ({ frames := 1, cells := 0, slots := 0, locals := 22 } : Room) s m ([.ref (ad 57), .long d]).toArray below meth c s.heap [] 0 0 (MQ below (vp_Sl (fun r => r = mixOrders S d)) ([.ref (ad 57), .long d]).toArray s 0 0 (fun _ => False)) (F0 m 32 ls []) := by
          intro fuel
          induction fuel with
          | zero => intro x7 q hq hx7 hf; exact absurd hf (Nat.not_lt_zero _)
          | succ fuel ih32 =>
            intro x7 q hq hx7 hf ls hl
            refine lv_iload hx hb dX4_mixedWithOrders_32 (lv_at hl 5 rfl) ?_
            refine lv_aload hx hb dX4_mixedWithOrders_34 (lv_at hl 4 rfl) ?_
            refine kx_cr (v := nI ((S.2.1 j).2.2.2.2.1)) (va_runV (As := []) (rest := [.int (nI q)]) ⟨hx, hb, hml, hown, hts⟩ (m_X1_length l dC dI ad S j  (by omega)) (cwV 0 hts gX4_mixedWithOrders_X1_length rfl rfl rfl hdX1_length_0 ⟨Nat.le_of_ble_eq_true rfl, Nat.le_of_ble_eq_true rfl⟩) (hX.preOrd (by omega)) rfl rfl hl.1 rfl (lv_room (Nat.le_of_ble_eq_true rfl)) dX4_mixedWithOrders_36 ⟨Nat.le_of_ble_eq_true rfl, Nat.le_of_ble_eq_true rfl⟩) (fun _ h => h) ?_
            refine kn_icmp_ge (tgt := 80) hx hb (by omega) (by omega) dX4_mixedWithOrders_39 (by decide) (fun k_2 => ?_) (fun k_2 => ?_)
            · skip
              refine lv_lload_n hx hb dX4_mixedWithOrders_80 rfl (lv_at hl 2 rfl) ?_
              refine lv_aload hx hb dX4_mixedWithOrders_81 (lv_at hl 4 rfl) ?_
              refine kx_cr (v := nI ((S.2.1 j).2.2.2.2.2)) (va_runV (As := []) (rest := [.long x7]) ⟨hx, hb, hml, hown, hts⟩ (m_X1_classCount l dC dI ad S j  (by omega)) (cwV 0 hts gX4_mixedWithOrders_X1_classCount rfl rfl rfl hdX1_classCount_0 ⟨Nat.le_of_ble_eq_true rfl, Nat.le_of_ble_eq_true rfl⟩) (hX.preOrd (by omega)) rfl rfl hl.1 rfl (lv_room (Nat.le_of_ble_eq_true rfl)) dX4_mixedWithOrders_83 ⟨Nat.le_of_ble_eq_true rfl, Nat.le_of_ble_eq_true rfl⟩) (fun _ h => h) ?_
              refine kx_crl (v := mixI x7 ((S.2.1 j).2.2.2.2.2)) (va_runS (As := [.long x7, .int (nI ((S.2.1 j).2.2.2.2.2))]) (rest := []) ⟨hx, hb, hml, hown, hts⟩ (m_X4_mixed l dC dI ad S x7 ((S.2.1 j).2.2.2.2.2) (by omega)) (va_cwS 2 hts gX4_mixedWithOrders_X4_mixed rfl rfl rfl hdX4_mixed_2.2 ⟨Nat.le_of_ble_eq_true rfl, Nat.le_of_ble_eq_true rfl⟩) hX.preS rfl rfl hl.1 rfl (lv_room (Nat.le_of_ble_eq_true rfl)) dX4_mixedWithOrders_86 ⟨Nat.le_of_ble_eq_true rfl, Nat.le_of_ble_eq_true rfl⟩) (fun _ h => h) ?_
              refine lv_lstore_n (lv' := [(3, .long (mixI x7 ((S.2.1 j).2.2.2.2.2))), (0, .ref (ad 57)), (1, .long d), (5, .int (nI j)), (6, .ref (ad (24 + 5 * j))), (7, .int (nI q))]) hx hb dX4_mixedWithOrders_89 rfl hl (by decide) rfl (fun ls hl => ?_)
              refine lv_iconst (v := nI 0) hx hb dX4_mixedWithOrders_90 (by decide) ?_
              refine lv_istore (lv' := [(7, .int (nI 0)), (3, .long (mixI x7 ((S.2.1 j).2.2.2.2.2))), (0, .ref (ad 57)), (1, .long d), (5, .int (nI j)), (6, .ref (ad (24 + 5 * j)))]) hx hb dX4_mixedWithOrders_91 hl (by decide) rfl (fun ls hl => ?_)
              have loop93 : ∀ (fuel : Nat) (y7 : Int64) (v : Nat) (hv : v ≤ 16) (hy7 : y7 = iterL (fun v d => mixI d ((S.2.1 j).2.2.2.1 v)) v (mixI x7 (S.2.1 j).2.2.2.2.2)), 16 - v < fuel → ∀ ls : Array Slot, lv_has ls 8 [(0, .ref (ad 57)), (1, .long d), (3, .long y7), (5, .int (nI j)), (6, .ref (ad (24 + 5 * j))), (7, .int (nI v))] → W p l e ({ frames := 1, cells := 0, slots := 0, locals := 22 } : Room) s m ([.ref (ad 57), .long d]).toArray below meth c s.heap [] 0 0 (MQ below (vp_Sl (fun r => r = mixOrders S d)) ([.ref (ad 57), .long d]).toArray s 0 0 (fun _ => False)) (F0 m 93 ls []) := by
                intro fuel
                induction fuel with
                | zero => intro y7 v hv hy7 hf; exact absurd hf (Nat.not_lt_zero _)
                | succ fuel ih93 =>
                  intro y7 v hv hy7 hf ls hl
                  refine lv_iload hx hb dX4_mixedWithOrders_93 (lv_at hl 5 rfl) ?_
                  refine lv_bipush (v := nI 16) hx hb dX4_mixedWithOrders_95 (by decide) ?_
                  refine kn_icmp_ge (tgt := 118) hx hb (by omega) (by omega) dX4_mixedWithOrders_97 (by decide) (fun k_3 => ?_) (fun k_3 => ?_)
                  · skip
                    refine lv_iinc (v := nI (j + 1)) (lv' := [(5, .int (nI (j + 1))), (0, .ref (ad 57)), (1, .long d), (3, .long y7), (6, .ref (ad (24 + 5 * j))), (7, .int (nI v))]) hx hb dX4_mixedWithOrders_118 hl (k := 3) rfl (nI_1 j) (by decide) rfl (fun ls hl => ?_)
                    refine lv_goto (tgt := 5) hx hb dX4_mixedWithOrders_121 (by decide) ?_
                    exact ih5  y7 (j + 1) (by omega) (by rw [hy7, hx7, hx5, show v = 16 by omega, show q = (S.2.1 j).2.2.2.2.1 by omega]; rfl) (by omega) _ (lv_sub hl [1, 2, 3, 0] rfl)
                  · skip
                    refine lv_lload_n hx hb dX4_mixedWithOrders_100 rfl (lv_at hl 2 rfl) ?_
                    refine lv_aload hx hb dX4_mixedWithOrders_101 (lv_at hl 4 rfl) ?_
                    refine lv_iload hx hb dX4_mixedWithOrders_103 (lv_at hl 5 rfl) ?_
                    refine kx_cr (v := nI (((S.2.1 j).2.2.2.1) v)) (va_runV (As := [.int (nI v)]) (rest := [.long y7]) ⟨hx, hb, hml, hown, hts⟩ (m_X1_rankOf l dC dI ad S j v (by omega) (by omega)) (cwV 1 hts gX4_mixedWithOrders_X1_rankOf rfl rfl rfl hdX1_rankOf_1 ⟨Nat.le_of_ble_eq_true rfl, Nat.le_of_ble_eq_true rfl⟩) (hX.preOrd (by omega)) rfl rfl hl.1 rfl (lv_room (Nat.le_of_ble_eq_true rfl)) dX4_mixedWithOrders_105 ⟨Nat.le_of_ble_eq_true rfl, Nat.le_of_ble_eq_true rfl⟩) (fun _ h => h) ?_
                    have hv9 := ordOK.rnk ho9 (show v < 16 by omega)
                    refine kx_crl (v := mixI y7 (((S.2.1 j).2.2.2.1) v)) (va_runS (As := [.long y7, .int (nI (((S.2.1 j).2.2.2.1) v))]) (rest := []) ⟨hx, hb, hml, hown, hts⟩ (m_X4_mixed l dC dI ad S y7 (((S.2.1 j).2.2.2.1) v) (by omega)) (va_cwS 2 hts gX4_mixedWithOrders_X4_mixed rfl rfl rfl hdX4_mixed_2.2 ⟨Nat.le_of_ble_eq_true rfl, Nat.le_of_ble_eq_true rfl⟩) hX.preS rfl rfl hl.1 rfl (lv_room (Nat.le_of_ble_eq_true rfl)) dX4_mixedWithOrders_108 ⟨Nat.le_of_ble_eq_true rfl, Nat.le_of_ble_eq_true rfl⟩) (fun _ h => h) ?_
                    refine lv_lstore_n (lv' := [(3, .long (mixI y7 (((S.2.1 j).2.2.2.1) v))), (0, .ref (ad 57)), (1, .long d), (5, .int (nI j)), (6, .ref (ad (24 + 5 * j))), (7, .int (nI v))]) hx hb dX4_mixedWithOrders_111 rfl hl (by decide) rfl (fun ls hl => ?_)
                    refine lv_iinc (v := nI (v + 1)) (lv' := [(7, .int (nI (v + 1))), (3, .long (mixI y7 (((S.2.1 j).2.2.2.1) v))), (0, .ref (ad 57)), (1, .long d), (5, .int (nI j)), (6, .ref (ad (24 + 5 * j)))]) hx hb dX4_mixedWithOrders_112 hl (k := 5) rfl (nI_1 v) (by decide) rfl (fun ls hl => ?_)
                    refine lv_goto (tgt := 93) hx hb dX4_mixedWithOrders_115 (by decide) ?_
                    exact ih93  (mixI y7 (((S.2.1 j).2.2.2.1) v)) (v + 1) (by omega) (by rw [hy7]; rfl) (by omega) _ (lv_sub hl [2, 3, 1, 4, 5, 0] rfl)
              exact loop93 (16 + 1) (mixI x7 ((S.2.1 j).2.2.2.2.2)) 0 (by omega) rfl (by omega) _ (lv_sub hl [2, 3, 1, 4, 5, 0] rfl)
            · skip
              refine lv_lload_n hx hb dX4_mixedWithOrders_42 rfl (lv_at hl 2 rfl) ?_
              refine lv_aload hx hb dX4_mixedWithOrders_43 (lv_at hl 4 rfl) ?_
              refine lv_iload hx hb dX4_mixedWithOrders_45 (lv_at hl 5 rfl) ?_
              refine kx_cr (v := nI (((S.2.1 j).1) q)) (va_runV (As := [.int (nI q)]) (rest := [.long x7]) ⟨hx, hb, hml, hown, hts⟩ (m_X1_keyOn l dC dI ad S j q (by omega) (by omega)) (cwV 1 hts gX4_mixedWithOrders_X1_keyOn rfl rfl rfl hdX1_keyOn_1 ⟨Nat.le_of_ble_eq_true rfl, Nat.le_of_ble_eq_true rfl⟩) (hX.preOrd (by omega)) rfl rfl hl.1 rfl (lv_room (Nat.le_of_ble_eq_true rfl)) dX4_mixedWithOrders_47 ⟨Nat.le_of_ble_eq_true rfl, Nat.le_of_ble_eq_true rfl⟩) (fun _ h => h) ?_
              have hk9 := ho9.1.2 q (by omega)
              refine kx_crl (v := mixI x7 (((S.2.1 j).1) q)) (va_runS (As := [.long x7, .int (nI (((S.2.1 j).1) q))]) (rest := []) ⟨hx, hb, hml, hown, hts⟩ (m_X4_mixed l dC dI ad S x7 (((S.2.1 j).1) q) (by omega)) (va_cwS 2 hts gX4_mixedWithOrders_X4_mixed rfl rfl rfl hdX4_mixed_2.2 ⟨Nat.le_of_ble_eq_true rfl, Nat.le_of_ble_eq_true rfl⟩) hX.preS rfl rfl hl.1 rfl (lv_room (Nat.le_of_ble_eq_true rfl)) dX4_mixedWithOrders_50 ⟨Nat.le_of_ble_eq_true rfl, Nat.le_of_ble_eq_true rfl⟩) (fun _ h => h) ?_
              refine lv_lstore_n (lv' := [(3, .long (mixI x7 (((S.2.1 j).1) q))), (0, .ref (ad 57)), (1, .long d), (5, .int (nI j)), (6, .ref (ad (24 + 5 * j))), (7, .int (nI q))]) hx hb dX4_mixedWithOrders_53 rfl hl (by decide) rfl (fun ls hl => ?_)
              refine lv_lload_n hx hb dX4_mixedWithOrders_54 rfl (lv_at hl 0 rfl) ?_
              refine lv_aload hx hb dX4_mixedWithOrders_55 (lv_at hl 4 rfl) ?_
              refine lv_iload hx hb dX4_mixedWithOrders_57 (lv_at hl 5 rfl) ?_
              refine kx_cr (v := bI (((S.2.1 j).2.1) q)) (va_runV (As := [.int (nI q)]) (rest := [.long (mixI x7 (((S.2.1 j).1) q))]) ⟨hx, hb, hml, hown, hts⟩ (m_X1_isDownOn l dC dI ad S j q (by omega) (by omega)) (cwV 1 hts gX4_mixedWithOrders_X1_isDownOn rfl rfl rfl hdX1_isDownOn_1 ⟨Nat.le_of_ble_eq_true rfl, Nat.le_of_ble_eq_true rfl⟩) (hX.preOrd (by omega)) rfl rfl hl.1 rfl (lv_room (Nat.le_of_ble_eq_true rfl)) dX4_mixedWithOrders_59 ⟨Nat.le_of_ble_eq_true rfl, Nat.le_of_ble_eq_true rfl⟩) (fun _ h => h) ?_
              refine kb_if_eq (tgt := 69) hx hb dX4_mixedWithOrders_62 (by decide) (fun k_4 => ?_) (fun k_4 => ?_)
              · skip
                have hc := k_4
                refine lv_iconst (v := nI 0) hx hb dX4_mixedWithOrders_69 (by decide) ?_
                refine kx_crl (v := mixI (mixI x7 (((S.2.1 j).1) q)) 0) (va_runS (As := [.long (mixI x7 (((S.2.1 j).1) q)), .int (nI 0)]) (rest := []) ⟨hx, hb, hml, hown, hts⟩ (m_X4_mixed l dC dI ad S (mixI x7 (((S.2.1 j).1) q)) 0 (by omega)) (va_cwS 2 hts gX4_mixedWithOrders_X4_mixed rfl rfl rfl hdX4_mixed_2.2 ⟨Nat.le_of_ble_eq_true rfl, Nat.le_of_ble_eq_true rfl⟩) hX.preS rfl rfl hl.1 rfl (lv_room (Nat.le_of_ble_eq_true rfl)) dX4_mixedWithOrders_70 ⟨Nat.le_of_ble_eq_true rfl, Nat.le_of_ble_eq_true rfl⟩) (fun _ h => h) ?_
                refine lv_lstore_n (lv' := [(3, .long (mixI (mixI x7 (((S.2.1 j).1) q)) 0)), (0, .ref (ad 57)), (1, .long d), (5, .int (nI j)), (6, .ref (ad (24 + 5 * j))), (7, .int (nI q))]) hx hb dX4_mixedWithOrders_73 rfl hl (by decide) rfl (fun ls hl => ?_)
                refine lv_iinc (v := nI (q + 1)) (lv' := [(7, .int (nI (q + 1))), (3, .long (mixI (mixI x7 (((S.2.1 j).1) q)) 0)), (0, .ref (ad 57)), (1, .long d), (5, .int (nI j)), (6, .ref (ad (24 + 5 * j)))]) hx hb dX4_mixedWithOrders_74 hl (k := 5) rfl (nI_1 q) (by decide) rfl (fun ls hl => ?_)
                refine lv_goto (tgt := 32) hx hb dX4_mixedWithOrders_77 (by decide) ?_
                exact ih32  (mixI (mixI x7 (((S.2.1 j).1) q)) 0) (q + 1) (by omega) (by rw [hx7]; show _ = mixI (mixI _ _) (bN ((S.2.1 j).2.1 q)); rw [hc]; rfl) (by omega) _ (lv_sub hl [2, 3, 1, 4, 5, 0] rfl)
              · skip
                have hc := k_4
                refine lv_iconst (v := nI 1) hx hb dX4_mixedWithOrders_65 (by decide) ?_
                refine lv_goto (tgt := 70) hx hb dX4_mixedWithOrders_66 (by decide) ?_
                refine kx_crl (v := mixI (mixI x7 (((S.2.1 j).1) q)) 1) (va_runS (As := [.long (mixI x7 (((S.2.1 j).1) q)), .int (nI 1)]) (rest := []) ⟨hx, hb, hml, hown, hts⟩ (m_X4_mixed l dC dI ad S (mixI x7 (((S.2.1 j).1) q)) 1 (by omega)) (va_cwS 2 hts gX4_mixedWithOrders_X4_mixed rfl rfl rfl hdX4_mixed_2.2 ⟨Nat.le_of_ble_eq_true rfl, Nat.le_of_ble_eq_true rfl⟩) hX.preS rfl rfl hl.1 rfl (lv_room (Nat.le_of_ble_eq_true rfl)) dX4_mixedWithOrders_70 ⟨Nat.le_of_ble_eq_true rfl, Nat.le_of_ble_eq_true rfl⟩) (fun _ h => h) ?_
                refine lv_lstore_n (lv' := [(3, .long (mixI (mixI x7 (((S.2.1 j).1) q)) 1)), (0, .ref (ad 57)), (1, .long d), (5, .int (nI j)), (6, .ref (ad (24 + 5 * j))), (7, .int (nI q))]) hx hb dX4_mixedWithOrders_73 rfl hl (by decide) rfl (fun ls hl => ?_)
                refine lv_iinc (v := nI (q + 1)) (lv' := [(7, .int (nI (q + 1))), (3, .long (mixI (mixI x7 (((S.2.1 j).1) q)) 1)), (0, .ref (ad 57)), (1, .long d), (5, .int (nI j)), (6, .ref (ad (24 + 5 * j)))]) hx hb dX4_mixedWithOrders_74 hl (k := 5) rfl (nI_1 q) (by decide) rfl (fun ls hl => ?_)
                refine lv_goto (tgt := 32) hx hb dX4_mixedWithOrders_77 (by decide) ?_
                exact ih32  (mixI (mixI x7 (((S.2.1 j).1) q)) 1) (q + 1) (by omega) (by rw [hx7]; show _ = mixI (mixI _ _) (bN ((S.2.1 j).2.1 q)); rw [hc]; rfl) (by omega) _ (lv_sub hl [2, 3, 1, 4, 5, 0] rfl)
        exact loop32 ((S.2.1 j).2.2.2.2.1 + 1) (mixI x5 ((S.2.1 j).2.2.2.2.1)) 0 (by omega) rfl (by omega) _ (lv_sub hl [3, 4, 1, 5, 2, 0] rfl)
  exact loop5 (4 + 1) d 0 (by omega) rfl (by omega) _ (lv_sub hl [2, 3, 1, 0] rfl)
set_option maxHeartbeats 4000000 in
set_option maxRecDepth 100000 in
theorem m_X4_mixedWithPairs (l : Launch) (dC : Nat → ClassId) (dI : Nat → Nat → Nat) (ad : Nat → Nat) (S : XS) (d : Int64) (hI : InvX S) : Met l yX4_mixedWithPairs wsX4_mixedWithPairs ({ frames := 3, cells := 0, slots := 0, locals := 75 } : Room) (va_Pc [.ref (ad 57), .long d] (PX dC dI ad S)) (vp_Sl (fun r => r = mixPairs S d)) 0 0 (fun _ => False) := by
  refine Met.ofW (cc := cX4_mixedWithPairs) (maxL := 7) (ret := (some .long)) pl_X4 rfl ?_
  intro p e s m args below meth c s₁ B hml hv
  obtain ⟨rfl, hPX⟩ := hv
  have hx := B.exec
  have hb := B.bytes
  have hr := B.returns
  have hts := atoms_spec (ws := wsX4_mixedWithPairs) B.pre
  have hown : s.vm.findClass RX4 = some m.cls := findClass_of_methodNamed B.named
  have hlocks := B.notSynchronized
  have hX := WX.of hPX
  have hl := lv_entry ([.ref (ad 57), .long d]) (n := 7) (Nat.le_of_ble_eq_true rfl)
  rw [lg_entry_eq]
  generalize (lg_sl ([.ref (ad 57), .long d]) ++ List.replicate (7 - (lg_sl ([.ref (ad 57), .long d])).length) Slot.unset).toArray = ls at hl ⊢
  have hl : lv_has ls 7 [(0, .ref (ad 57)), (1, .long d)] := hl
  show W p l e ({ frames := 3, cells := 0, slots := 0, locals := 75 } : Room) s m ([.ref (ad 57), .long d]).toArray below meth c s.heap [] 0 0 (MQ below (vp_Sl (fun r => r = mixPairs S d)) ([.ref (ad 57), .long d]).toArray s 0 0 (fun _ => False)) (F0 m 0 ls [])
  refine lv_lload_n hx hb dX4_mixedWithPairs_0 rfl (lv_at hl 1 rfl) ?_
  refine lv_lstore_n (lv' := [(3, .long d), (0, .ref (ad 57)), (1, .long d)]) hx hb dX4_mixedWithPairs_1 rfl hl (by decide) rfl (fun ls hl => ?_)
  refine lv_iconst (v := nI 0) hx hb dX4_mixedWithPairs_2 (by decide) ?_
  refine lv_istore (lv' := [(5, .int (nI 0)), (3, .long d), (0, .ref (ad 57)), (1, .long d)]) hx hb dX4_mixedWithPairs_3 hl (by decide) rfl (fun ls hl => ?_)
  have loop5 : ∀ (fuel : Nat) (x5 : Int64) (a : Nat) (ha : a ≤ 4) (hx5 : x5 = iterL (fun a d => iterL (mixPair S a) 4 d) a d), 4 - a < fuel → ∀ ls : Array Slot, lv_has ls 7 [(0, .ref (ad 57)), (1, .long d), (3, .long x5), (5, .int (nI a))] → W p l e ({ frames := 3, cells := 0, slots := 0, locals := 75 } : Room) s m ([.ref (ad 57), .long d]).toArray below meth c s.heap [] 0 0 (MQ below (vp_Sl (fun r => r = mixPairs S d)) ([.ref (ad 57), .long d]).toArray s 0 0 (fun _ => False)) (F0 m 5 ls []) := by
    intro fuel
    induction fuel with
    | zero => intro x5 a ha hx5 hf; exact absurd hf (Nat.not_lt_zero _)
    | succ fuel ih5 =>
      intro x5 a ha hx5 hf ls hl
      refine lv_iload hx hb dX4_mixedWithPairs_5 (lv_at hl 3 rfl) ?_
      refine lv_iconst (v := nI 4) hx hb dX4_mixedWithPairs_7 (by decide) ?_
      refine kn_icmp_ge (tgt := 80) hx hb (by omega) (by omega) dX4_mixedWithPairs_8 (by decide) (fun k_1 => ?_) (fun k_1 => ?_)
      · skip
        refine lv_lload_n hx hb dX4_mixedWithPairs_80 rfl (lv_at hl 2 rfl) ?_
        exact W.lret (v := x5) hx hb hr (fun t9 ht9 hW9 => ⟨_, rfl, (by rw [hx5, show a = 4 by omega]; rfl), ht9⟩) (fun _ h => nomatch h) dX4_mixedWithPairs_81
      · skip
        refine lv_iconst (v := nI 0) hx hb dX4_mixedWithPairs_11 (by decide) ?_
        refine lv_istore (lv' := [(6, .int (nI 0)), (0, .ref (ad 57)), (1, .long d), (3, .long x5), (5, .int (nI a))]) hx hb dX4_mixedWithPairs_12 hl (by decide) rfl (fun ls hl => ?_)
        have loop14 : ∀ (fuel : Nat) (x6 : Int64) (b9 : Nat) (hb9 : b9 ≤ 4) (hx6 : x6 = iterL (mixPair S a) b9 x5), 4 - b9 < fuel → ∀ ls : Array Slot, lv_has ls 7 [(0, .ref (ad 57)), (1, .long d), (3, .long x6), (5, .int (nI a)), (6, .int (nI b9))] → W p l e ({ frames := 3, cells := 0, slots := 0, locals := 75 } : Room) s m ([.ref (ad 57), .long d]).toArray below meth c s.heap [] 0 0 (MQ below (vp_Sl (fun r => r = mixPairs S d)) ([.ref (ad 57), .long d]).toArray s 0 0 (fun _ => False)) (F0 m 14 ls []) := by
          intro fuel
          induction fuel with
          | zero => intro x6 b9 hb9 hx6 hf; exact absurd hf (Nat.not_lt_zero _)
          | succ fuel ih14 =>
            intro x6 b9 hb9 hx6 hf ls hl
            refine lv_iload hx hb dX4_mixedWithPairs_14 (lv_at hl 4 rfl) ?_
            refine lv_iconst (v := nI 4) hx hb dX4_mixedWithPairs_16 (by decide) ?_
            refine kn_icmp_ge (tgt := 74) hx hb (by omega) (by omega) dX4_mixedWithPairs_17 (by decide) (fun k_2 => ?_) (fun k_2 => ?_)
            · skip
              refine lv_iinc (v := nI (a + 1)) (lv' := [(5, .int (nI (a + 1))), (0, .ref (ad 57)), (1, .long d), (3, .long x6), (6, .int (nI b9))]) hx hb dX4_mixedWithPairs_74 hl (k := 3) rfl (nI_1 a) (by decide) rfl (fun ls hl => ?_)
              refine lv_goto (tgt := 5) hx hb dX4_mixedWithPairs_77 (by decide) ?_
              exact ih5  x6 (a + 1) (by omega) (by rw [hx6, hx5, show b9 = 4 by omega]; rfl) (by omega) _ (lv_sub hl [1, 2, 3, 0] rfl)
            · skip
              refine lv_lload_n hx hb dX4_mixedWithPairs_20 rfl (lv_at hl 2 rfl) ?_
              refine lv_aload_n hx hb dX4_mixedWithPairs_21 rfl (lv_at hl 0 rfl) ?_
              refine lv_iload hx hb dX4_mixedWithPairs_22 (lv_at hl 3 rfl) ?_
              refine va_csr (va_Run.run (va_runV (As := [.int (nI a)]) (rest := [.long x6]) ⟨hx, hb, hml, hown, hts⟩ (m_X4_orderAt l dC dI ad S a (by omega)) (cwV 1 hts gX4_mixedWithPairs_X4_orderAt rfl rfl rfl hdX4_orderAt_1 ⟨Nat.le_of_ble_eq_true rfl, Nat.le_of_ble_eq_true rfl⟩) (hX.preTop 57 6 (by decide) (by decide) rfl rfl) rfl rfl hl.1 rfl (lv_room (Nat.le_of_ble_eq_true rfl)) dX4_mixedWithPairs_24 ⟨Nat.le_of_ble_eq_true rfl, Nat.le_of_ble_eq_true rfl⟩)) (fun k_ hk_ => ?_)
              rw [hk_]
              refine lv_aload_n hx hb dX4_mixedWithPairs_27 rfl (lv_at hl 0 rfl) ?_
              refine lv_iload hx hb dX4_mixedWithPairs_28 (lv_at hl 4 rfl) ?_
              refine va_csr (va_Run.run (va_runV (As := [.int (nI b9)]) (rest := [.ref (ad (24 + 5 * a)), .long x6]) ⟨hx, hb, hml, hown, hts⟩ (m_X4_orderAt l dC dI ad S b9 (by omega)) (cwV 1 hts gX4_mixedWithPairs_X4_orderAt rfl rfl rfl hdX4_orderAt_1 ⟨Nat.le_of_ble_eq_true rfl, Nat.le_of_ble_eq_true rfl⟩) (hX.preTop 57 6 (by decide) (by decide) rfl rfl) rfl rfl hl.1 rfl (lv_room (Nat.le_of_ble_eq_true rfl)) dX4_mixedWithPairs_30 ⟨Nat.le_of_ble_eq_true rfl, Nat.le_of_ble_eq_true rfl⟩)) (fun k_ hk_ => ?_)
              rw [hk_]
              refine kx_cr (v := nI (apartN (S.2.1 a).2.2.1 (S.2.1 b9).2.2.1)) (va_runS (As := [.ref (ad (24 + 5 * a)), .ref (ad (24 + 5 * b9))]) (rest := [.long x6]) ⟨hx, hb, hml, hown, hts⟩ (m_X4_pairsApart l dC dI ad S a b9 (by omega) (by omega) (hI.2 a (by omega)) (hI.2 b9 (by omega))) (va_cwS 2 hts gX4_mixedWithPairs_X4_pairsApart rfl rfl rfl hdX4_pairsApart_2.2 ⟨Nat.le_of_ble_eq_true rfl, Nat.le_of_ble_eq_true rfl⟩) hX.preS rfl rfl hl.1 rfl (lv_room (Nat.le_of_ble_eq_true rfl)) dX4_mixedWithPairs_33 ⟨Nat.le_of_ble_eq_true rfl, Nat.le_of_ble_eq_true rfl⟩) (fun _ h => h) ?_
              have h1 := apartN_le (S.2.1 a).2.2.1 (S.2.1 b9).2.2.1
              refine kx_crl (v := mixI x6 (apartN (S.2.1 a).2.2.1 (S.2.1 b9).2.2.1)) (va_runS (As := [.long x6, .int (nI (apartN (S.2.1 a).2.2.1 (S.2.1 b9).2.2.1))]) (rest := []) ⟨hx, hb, hml, hown, hts⟩ (m_X4_mixed l dC dI ad S x6 (apartN (S.2.1 a).2.2.1 (S.2.1 b9).2.2.1) (by omega)) (va_cwS 2 hts gX4_mixedWithPairs_X4_mixed rfl rfl rfl hdX4_mixed_2.2 ⟨Nat.le_of_ble_eq_true rfl, Nat.le_of_ble_eq_true rfl⟩) hX.preS rfl rfl hl.1 rfl (lv_room (Nat.le_of_ble_eq_true rfl)) dX4_mixedWithPairs_36 ⟨Nat.le_of_ble_eq_true rfl, Nat.le_of_ble_eq_true rfl⟩) (fun _ h => h) ?_
              refine lv_lstore_n (lv' := [(3, .long (mixI x6 (apartN (S.2.1 a).2.2.1 (S.2.1 b9).2.2.1))), (0, .ref (ad 57)), (1, .long d), (5, .int (nI a)), (6, .int (nI b9))]) hx hb dX4_mixedWithPairs_39 rfl hl (by decide) rfl (fun ls hl => ?_)
              refine lv_lload_n hx hb dX4_mixedWithPairs_40 rfl (lv_at hl 0 rfl) ?_
              refine lv_aload_n hx hb dX4_mixedWithPairs_41 rfl (lv_at hl 1 rfl) ?_
              refine lv_iload hx hb dX4_mixedWithPairs_42 (lv_at hl 3 rfl) ?_
              refine va_csr (va_Run.run (va_runV (As := [.int (nI a)]) (rest := [.long (mixI x6 (apartN (S.2.1 a).2.2.1 (S.2.1 b9).2.2.1))]) ⟨hx, hb, hml, hown, hts⟩ (m_X4_orderAt l dC dI ad S a (by omega)) (cwV 1 hts gX4_mixedWithPairs_X4_orderAt rfl rfl rfl hdX4_orderAt_1 ⟨Nat.le_of_ble_eq_true rfl, Nat.le_of_ble_eq_true rfl⟩) (hX.preTop 57 6 (by decide) (by decide) rfl rfl) rfl rfl hl.1 rfl (lv_room (Nat.le_of_ble_eq_true rfl)) dX4_mixedWithPairs_44 ⟨Nat.le_of_ble_eq_true rfl, Nat.le_of_ble_eq_true rfl⟩)) (fun k_ hk_ => ?_)
              rw [hk_]
              refine lv_aload_n hx hb dX4_mixedWithPairs_47 rfl (lv_at hl 1 rfl) ?_
              refine lv_iload hx hb dX4_mixedWithPairs_48 (lv_at hl 4 rfl) ?_
              refine va_csr (va_Run.run (va_runV (As := [.int (nI b9)]) (rest := [.ref (ad (24 + 5 * a)), .long (mixI x6 (apartN (S.2.1 a).2.2.1 (S.2.1 b9).2.2.1))]) ⟨hx, hb, hml, hown, hts⟩ (m_X4_orderAt l dC dI ad S b9 (by omega)) (cwV 1 hts gX4_mixedWithPairs_X4_orderAt rfl rfl rfl hdX4_orderAt_1 ⟨Nat.le_of_ble_eq_true rfl, Nat.le_of_ble_eq_true rfl⟩) (hX.preTop 57 6 (by decide) (by decide) rfl rfl) rfl rfl hl.1 rfl (lv_room (Nat.le_of_ble_eq_true rfl)) dX4_mixedWithPairs_50 ⟨Nat.le_of_ble_eq_true rfl, Nat.le_of_ble_eq_true rfl⟩)) (fun k_ hk_ => ?_)
              rw [hk_]
              refine kx_cr (v := bI (finerB (S.2.1 a).2.2.1 (S.2.1 b9).2.2.1)) (va_runV (As := [.ref (ad (24 + 5 * b9))]) (rest := [.long (mixI x6 (apartN (S.2.1 a).2.2.1 (S.2.1 b9).2.2.1))]) ⟨hx, hb, hml, hown, hts⟩ (m_X1_isFinerThan l dC dI ad S a b9 (by omega) (by omega) (hI.2 a (by omega)) (hI.2 b9 (by omega))) (cwV 1 hts gX4_mixedWithPairs_X1_isFinerThan rfl rfl rfl hdX1_isFinerThan_1 ⟨Nat.le_of_ble_eq_true rfl, Nat.le_of_ble_eq_true rfl⟩) (hX.preOrd (by omega)) rfl rfl hl.1 rfl (lv_room (Nat.le_of_ble_eq_true rfl)) dX4_mixedWithPairs_53 ⟨Nat.le_of_ble_eq_true rfl, Nat.le_of_ble_eq_true rfl⟩) (fun _ h => h) ?_
              refine kb_if_eq (tgt := 63) hx hb dX4_mixedWithPairs_56 (by decide) (fun k_3 => ?_) (fun k_3 => ?_)
              · skip
                have hc := k_3
                refine lv_iconst (v := nI 0) hx hb dX4_mixedWithPairs_63 (by decide) ?_
                refine kx_crl (v := mixI (mixI x6 (apartN (S.2.1 a).2.2.1 (S.2.1 b9).2.2.1)) 0) (va_runS (As := [.long (mixI x6 (apartN (S.2.1 a).2.2.1 (S.2.1 b9).2.2.1)), .int (nI 0)]) (rest := []) ⟨hx, hb, hml, hown, hts⟩ (m_X4_mixed l dC dI ad S (mixI x6 (apartN (S.2.1 a).2.2.1 (S.2.1 b9).2.2.1)) 0 (by omega)) (va_cwS 2 hts gX4_mixedWithPairs_X4_mixed rfl rfl rfl hdX4_mixed_2.2 ⟨Nat.le_of_ble_eq_true rfl, Nat.le_of_ble_eq_true rfl⟩) hX.preS rfl rfl hl.1 rfl (lv_room (Nat.le_of_ble_eq_true rfl)) dX4_mixedWithPairs_64 ⟨Nat.le_of_ble_eq_true rfl, Nat.le_of_ble_eq_true rfl⟩) (fun _ h => h) ?_
                refine lv_lstore_n (lv' := [(3, .long (mixI (mixI x6 (apartN (S.2.1 a).2.2.1 (S.2.1 b9).2.2.1)) 0)), (0, .ref (ad 57)), (1, .long d), (5, .int (nI a)), (6, .int (nI b9))]) hx hb dX4_mixedWithPairs_67 rfl hl (by decide) rfl (fun ls hl => ?_)
                refine lv_iinc (v := nI (b9 + 1)) (lv' := [(6, .int (nI (b9 + 1))), (3, .long (mixI (mixI x6 (apartN (S.2.1 a).2.2.1 (S.2.1 b9).2.2.1)) 0)), (0, .ref (ad 57)), (1, .long d), (5, .int (nI a))]) hx hb dX4_mixedWithPairs_68 hl (k := 4) rfl (nI_1 b9) (by decide) rfl (fun ls hl => ?_)
                refine lv_goto (tgt := 14) hx hb dX4_mixedWithPairs_71 (by decide) ?_
                exact ih14  (mixI (mixI x6 (apartN (S.2.1 a).2.2.1 (S.2.1 b9).2.2.1)) 0) (b9 + 1) (by omega) (by rw [hx6]; show _ = mixI (mixI _ _) (bN (finerB (S.2.1 a).2.2.1 (S.2.1 b9).2.2.1)); rw [hc]; rfl) (by omega) _ (lv_sub hl [2, 3, 1, 4, 0] rfl)
              · skip
                have hc := k_3
                refine lv_iconst (v := nI 1) hx hb dX4_mixedWithPairs_59 (by decide) ?_
                refine lv_goto (tgt := 64) hx hb dX4_mixedWithPairs_60 (by decide) ?_
                refine kx_crl (v := mixI (mixI x6 (apartN (S.2.1 a).2.2.1 (S.2.1 b9).2.2.1)) 1) (va_runS (As := [.long (mixI x6 (apartN (S.2.1 a).2.2.1 (S.2.1 b9).2.2.1)), .int (nI 1)]) (rest := []) ⟨hx, hb, hml, hown, hts⟩ (m_X4_mixed l dC dI ad S (mixI x6 (apartN (S.2.1 a).2.2.1 (S.2.1 b9).2.2.1)) 1 (by omega)) (va_cwS 2 hts gX4_mixedWithPairs_X4_mixed rfl rfl rfl hdX4_mixed_2.2 ⟨Nat.le_of_ble_eq_true rfl, Nat.le_of_ble_eq_true rfl⟩) hX.preS rfl rfl hl.1 rfl (lv_room (Nat.le_of_ble_eq_true rfl)) dX4_mixedWithPairs_64 ⟨Nat.le_of_ble_eq_true rfl, Nat.le_of_ble_eq_true rfl⟩) (fun _ h => h) ?_
                refine lv_lstore_n (lv' := [(3, .long (mixI (mixI x6 (apartN (S.2.1 a).2.2.1 (S.2.1 b9).2.2.1)) 1)), (0, .ref (ad 57)), (1, .long d), (5, .int (nI a)), (6, .int (nI b9))]) hx hb dX4_mixedWithPairs_67 rfl hl (by decide) rfl (fun ls hl => ?_)
                refine lv_iinc (v := nI (b9 + 1)) (lv' := [(6, .int (nI (b9 + 1))), (3, .long (mixI (mixI x6 (apartN (S.2.1 a).2.2.1 (S.2.1 b9).2.2.1)) 1)), (0, .ref (ad 57)), (1, .long d), (5, .int (nI a))]) hx hb dX4_mixedWithPairs_68 hl (k := 4) rfl (nI_1 b9) (by decide) rfl (fun ls hl => ?_)
                refine lv_goto (tgt := 14) hx hb dX4_mixedWithPairs_71 (by decide) ?_
                exact ih14  (mixI (mixI x6 (apartN (S.2.1 a).2.2.1 (S.2.1 b9).2.2.1)) 1) (b9 + 1) (by omega) (by rw [hx6]; show _ = mixI (mixI _ _) (bN (finerB (S.2.1 a).2.2.1 (S.2.1 b9).2.2.1)); rw [hc]; rfl) (by omega) _ (lv_sub hl [2, 3, 1, 4, 0] rfl)
        exact loop14 (4 + 1) x5 0 (by omega) rfl (by omega) _ (lv_sub hl [1, 2, 3, 4, 0] rfl)
  exact loop5 (4 + 1) d 0 (by omega) rfl (by omega) _ (lv_sub hl [2, 3, 1, 0] rfl)
set_option maxHeartbeats 4000000 in
set_option maxRecDepth 100000 in
theorem m_X4_mixedWithSequences (l : Launch) (dC : Nat → ClassId) (dI : Nat → Nat → Nat) (ad : Nat → Nat) (S : XS) (d : Int64) (hI : InvX S) : Met l yX4_mixedWithSequences wsX4_mixedWithSequences ({ frames := 3, cells := 0, slots := 0, locals := 72 } : Room) (va_Pc [.ref (ad 57), .long d] (PX dC dI ad S)) (vp_Sl (fun r => r = mixSeqs S d)) 0 0 (fun _ => False) := by
  refine Met.ofW (cc := cX4_mixedWithSequences) (maxL := 7) (ret := (some .long)) pl_X4 rfl ?_
  intro p e s m args below meth c s₁ B hml hv
  obtain ⟨rfl, hPX⟩ := hv
  have hx := B.exec
  have hb := B.bytes
  have hr := B.returns
  have hts := atoms_spec (ws := wsX4_mixedWithSequences) B.pre
  have hown : s.vm.findClass RX4 = some m.cls := findClass_of_methodNamed B.named
  have hlocks := B.notSynchronized
  have hX := WX.of hPX
  have hl := lv_entry ([.ref (ad 57), .long d]) (n := 7) (Nat.le_of_ble_eq_true rfl)
  rw [lg_entry_eq]
  generalize (lg_sl ([.ref (ad 57), .long d]) ++ List.replicate (7 - (lg_sl ([.ref (ad 57), .long d])).length) Slot.unset).toArray = ls at hl ⊢
  have hl : lv_has ls 7 [(0, .ref (ad 57)), (1, .long d)] := hl
  show W p l e ({ frames := 3, cells := 0, slots := 0, locals := 72 } : Room) s m ([.ref (ad 57), .long d]).toArray below meth c s.heap [] 0 0 (MQ below (vp_Sl (fun r => r = mixSeqs S d)) ([.ref (ad 57), .long d]).toArray s 0 0 (fun _ => False)) (F0 m 0 ls [])
  refine lv_lload_n hx hb dX4_mixedWithSequences_0 rfl (lv_at hl 1 rfl) ?_
  refine lv_lstore_n (lv' := [(3, .long d), (0, .ref (ad 57)), (1, .long d)]) hx hb dX4_mixedWithSequences_1 rfl hl (by decide) rfl (fun ls hl => ?_)
  refine lv_iconst (v := nI 0) hx hb dX4_mixedWithSequences_2 (by decide) ?_
  refine lv_istore (lv' := [(5, .int (nI 0)), (3, .long d), (0, .ref (ad 57)), (1, .long d)]) hx hb dX4_mixedWithSequences_3 hl (by decide) rfl (fun ls hl => ?_)
  have loop5 : ∀ (fuel : Nat) (x5 : Int64) (a : Nat) (ha : a ≤ 3) (hx5 : x5 = iterL (fun i d => iterL (mixSeq S i) 4 d) a d), 3 - a < fuel → ∀ ls : Array Slot, lv_has ls 7 [(0, .ref (ad 57)), (1, .long d), (3, .long x5), (5, .int (nI a))] → W p l e ({ frames := 3, cells := 0, slots := 0, locals := 72 } : Room) s m ([.ref (ad 57), .long d]).toArray below meth c s.heap [] 0 0 (MQ below (vp_Sl (fun r => r = mixSeqs S d)) ([.ref (ad 57), .long d]).toArray s 0 0 (fun _ => False)) (F0 m 5 ls []) := by
    intro fuel
    induction fuel with
    | zero => intro x5 a ha hx5 hf; exact absurd hf (Nat.not_lt_zero _)
    | succ fuel ih5 =>
      intro x5 a ha hx5 hf ls hl
      refine lv_iload hx hb dX4_mixedWithSequences_5 (lv_at hl 3 rfl) ?_
      refine lv_iconst (v := nI 3) hx hb dX4_mixedWithSequences_7 (by decide) ?_
      refine kn_icmp_ge (tgt := 80) hx hb (by omega) (by omega) dX4_mixedWithSequences_8 (by decide) (fun k_1 => ?_) (fun k_1 => ?_)
      · skip
        refine lv_lload_n hx hb dX4_mixedWithSequences_80 rfl (lv_at hl 2 rfl) ?_
        exact W.lret (v := x5) hx hb hr (fun t9 ht9 hW9 => ⟨_, rfl, (by rw [hx5, show a = 3 by omega]; rfl), ht9⟩) (fun _ h => nomatch h) dX4_mixedWithSequences_81
      · skip
        refine lv_iconst (v := nI 0) hx hb dX4_mixedWithSequences_11 (by decide) ?_
        refine lv_istore (lv' := [(6, .int (nI 0)), (0, .ref (ad 57)), (1, .long d), (3, .long x5), (5, .int (nI a))]) hx hb dX4_mixedWithSequences_12 hl (by decide) rfl (fun ls hl => ?_)
        have loop14 : ∀ (fuel : Nat) (x6 : Int64) (b9 : Nat) (hb9 : b9 ≤ 4) (hx6 : x6 = iterL (mixSeq S a) b9 x5), 4 - b9 < fuel → ∀ ls : Array Slot, lv_has ls 7 [(0, .ref (ad 57)), (1, .long d), (3, .long x6), (5, .int (nI a)), (6, .int (nI b9))] → W p l e ({ frames := 3, cells := 0, slots := 0, locals := 72 } : Room) s m ([.ref (ad 57), .long d]).toArray below meth c s.heap [] 0 0 (MQ below (vp_Sl (fun r => r = mixSeqs S d)) ([.ref (ad 57), .long d]).toArray s 0 0 (fun _ => False)) (F0 m 14 ls []) := by
          intro fuel
          induction fuel with
          | zero => intro x6 b9 hb9 hx6 hf; exact absurd hf (Nat.not_lt_zero _)
          | succ fuel ih14 =>
            intro x6 b9 hb9 hx6 hf ls hl
            refine lv_iload hx hb dX4_mixedWithSequences_14 (lv_at hl 4 rfl) ?_
            refine lv_iconst (v := nI 4) hx hb dX4_mixedWithSequences_16 (by decide) ?_
            refine kn_icmp_ge (tgt := 74) hx hb (by omega) (by omega) dX4_mixedWithSequences_17 (by decide) (fun k_2 => ?_) (fun k_2 => ?_)
            · skip
              refine lv_iinc (v := nI (a + 1)) (lv' := [(5, .int (nI (a + 1))), (0, .ref (ad 57)), (1, .long d), (3, .long x6), (6, .int (nI b9))]) hx hb dX4_mixedWithSequences_74 hl (k := 3) rfl (nI_1 a) (by decide) rfl (fun ls hl => ?_)
              refine lv_goto (tgt := 5) hx hb dX4_mixedWithSequences_77 (by decide) ?_
              exact ih5  x6 (a + 1) (by omega) (by rw [hx6, hx5, show b9 = 4 by omega]; rfl) (by omega) _ (lv_sub hl [1, 2, 3, 0] rfl)
            · skip
              refine lv_lload_n hx hb dX4_mixedWithSequences_20 rfl (lv_at hl 2 rfl) ?_
              refine lv_aload_n hx hb dX4_mixedWithSequences_21 rfl (lv_at hl 0 rfl) ?_
              refine lv_iload hx hb dX4_mixedWithSequences_22 (lv_at hl 3 rfl) ?_
              refine va_csr (va_Run.run (va_runV (As := [.int (nI a)]) (rest := [.long x6]) ⟨hx, hb, hml, hown, hts⟩ (m_X4_rowAt l dC dI ad S a (by omega)) (cwV 1 hts gX4_mixedWithSequences_X4_rowAt rfl rfl rfl hdX4_rowAt_1 ⟨Nat.le_of_ble_eq_true rfl, Nat.le_of_ble_eq_true rfl⟩) (hX.preTop 57 6 (by decide) (by decide) rfl rfl) rfl rfl hl.1 rfl (lv_room (Nat.le_of_ble_eq_true rfl)) dX4_mixedWithSequences_24 ⟨Nat.le_of_ble_eq_true rfl, Nat.le_of_ble_eq_true rfl⟩)) (fun k_ hk_ => ?_)
              rw [hk_]
              refine lv_aload_n hx hb dX4_mixedWithSequences_27 rfl (lv_at hl 0 rfl) ?_
              refine lv_iload hx hb dX4_mixedWithSequences_28 (lv_at hl 4 rfl) ?_
              refine va_csr (va_Run.run (va_runV (As := [.int (nI b9)]) (rest := [.ref (ad (3 * a)), .long x6]) ⟨hx, hb, hml, hown, hts⟩ (m_X4_orderAt l dC dI ad S b9 (by omega)) (cwV 1 hts gX4_mixedWithSequences_X4_orderAt rfl rfl rfl hdX4_orderAt_1 ⟨Nat.le_of_ble_eq_true rfl, Nat.le_of_ble_eq_true rfl⟩) (hX.preTop 57 6 (by decide) (by decide) rfl rfl) rfl rfl hl.1 rfl (lv_room (Nat.le_of_ble_eq_true rfl)) dX4_mixedWithSequences_30 ⟨Nat.le_of_ble_eq_true rfl, Nat.le_of_ble_eq_true rfl⟩)) (fun k_ hk_ => ?_)
              rw [hk_]
              refine kx_cr (v := nI (cntB (firstB (S.2.1 b9).2.2.1 (S.1 a).1) (S.1 a).2.2)) (va_runV (As := [.ref (ad (24 + 5 * b9))]) (rest := [.long x6]) ⟨hx, hb, hml, hown, hts⟩ (m_X2_lots l dC dI ad S a b9 (by omega) (by omega) (hI.1 a (by omega)) (hI.2 b9 (by omega))) (cwV 1 hts gX4_mixedWithSequences_X2_lots rfl rfl rfl hdX2_lots_1 ⟨Nat.le_of_ble_eq_true rfl, Nat.le_of_ble_eq_true rfl⟩) (hX.preRow (by omega)) rfl rfl hl.1 rfl (lv_room (Nat.le_of_ble_eq_true rfl)) dX4_mixedWithSequences_33 ⟨Nat.le_of_ble_eq_true rfl, Nat.le_of_ble_eq_true rfl⟩) (fun _ h => h) ?_
              have h1 := cntB_le (firstB (S.2.1 b9).2.2.1 (S.1 a).1) (S.1 a).2.2
              have h2 := (hI.1 a (by omega)).1
              refine kx_crl (v := mixI x6 (cntB (firstB (S.2.1 b9).2.2.1 (S.1 a).1) (S.1 a).2.2)) (va_runS (As := [.long x6, .int (nI (cntB (firstB (S.2.1 b9).2.2.1 (S.1 a).1) (S.1 a).2.2))]) (rest := []) ⟨hx, hb, hml, hown, hts⟩ (m_X4_mixed l dC dI ad S x6 (cntB (firstB (S.2.1 b9).2.2.1 (S.1 a).1) (S.1 a).2.2) (by omega)) (va_cwS 2 hts gX4_mixedWithSequences_X4_mixed rfl rfl rfl hdX4_mixed_2.2 ⟨Nat.le_of_ble_eq_true rfl, Nat.le_of_ble_eq_true rfl⟩) hX.preS rfl rfl hl.1 rfl (lv_room (Nat.le_of_ble_eq_true rfl)) dX4_mixedWithSequences_36 ⟨Nat.le_of_ble_eq_true rfl, Nat.le_of_ble_eq_true rfl⟩) (fun _ h => h) ?_
              refine lv_lstore_n (lv' := [(3, .long (mixI x6 (cntB (firstB (S.2.1 b9).2.2.1 (S.1 a).1) (S.1 a).2.2))), (0, .ref (ad 57)), (1, .long d), (5, .int (nI a)), (6, .int (nI b9))]) hx hb dX4_mixedWithSequences_39 rfl hl (by decide) rfl (fun ls hl => ?_)
              refine lv_lload_n hx hb dX4_mixedWithSequences_40 rfl (lv_at hl 0 rfl) ?_
              refine lv_aload_n hx hb dX4_mixedWithSequences_41 rfl (lv_at hl 1 rfl) ?_
              refine lv_iload hx hb dX4_mixedWithSequences_42 (lv_at hl 3 rfl) ?_
              refine va_csr (va_Run.run (va_runV (As := [.int (nI a)]) (rest := [.long (mixI x6 (cntB (firstB (S.2.1 b9).2.2.1 (S.1 a).1) (S.1 a).2.2))]) ⟨hx, hb, hml, hown, hts⟩ (m_X4_rowAt l dC dI ad S a (by omega)) (cwV 1 hts gX4_mixedWithSequences_X4_rowAt rfl rfl rfl hdX4_rowAt_1 ⟨Nat.le_of_ble_eq_true rfl, Nat.le_of_ble_eq_true rfl⟩) (hX.preTop 57 6 (by decide) (by decide) rfl rfl) rfl rfl hl.1 rfl (lv_room (Nat.le_of_ble_eq_true rfl)) dX4_mixedWithSequences_44 ⟨Nat.le_of_ble_eq_true rfl, Nat.le_of_ble_eq_true rfl⟩)) (fun k_ hk_ => ?_)
              rw [hk_]
              refine lv_aload_n hx hb dX4_mixedWithSequences_47 rfl (lv_at hl 1 rfl) ?_
              refine lv_iload hx hb dX4_mixedWithSequences_48 (lv_at hl 4 rfl) ?_
              refine va_csr (va_Run.run (va_runV (As := [.int (nI b9)]) (rest := [.ref (ad (3 * a)), .long (mixI x6 (cntB (firstB (S.2.1 b9).2.2.1 (S.1 a).1) (S.1 a).2.2))]) ⟨hx, hb, hml, hown, hts⟩ (m_X4_orderAt l dC dI ad S b9 (by omega)) (cwV 1 hts gX4_mixedWithSequences_X4_orderAt rfl rfl rfl hdX4_orderAt_1 ⟨Nat.le_of_ble_eq_true rfl, Nat.le_of_ble_eq_true rfl⟩) (hX.preTop 57 6 (by decide) (by decide) rfl rfl) rfl rfl hl.1 rfl (lv_room (Nat.le_of_ble_eq_true rfl)) dX4_mixedWithSequences_50 ⟨Nat.le_of_ble_eq_true rfl, Nat.le_of_ble_eq_true rfl⟩)) (fun k_ hk_ => ?_)
              rw [hk_]
              refine kx_cr (v := bI (seqB (S.2.1 b9).2.2.1 (S.1 a).1 (S.1 a).2.2)) (va_runV (As := [.ref (ad (24 + 5 * b9))]) (rest := [.long (mixI x6 (cntB (firstB (S.2.1 b9).2.2.1 (S.1 a).1) (S.1 a).2.2))]) ⟨hx, hb, hml, hown, hts⟩ (m_X2_isInSequenceBy l dC dI ad S a b9 (by omega) (by omega) (hI.1 a (by omega)) (hI.2 b9 (by omega))) (cwV 1 hts gX4_mixedWithSequences_X2_isInSequenceBy rfl rfl rfl hdX2_isInSequenceBy_1 ⟨Nat.le_of_ble_eq_true rfl, Nat.le_of_ble_eq_true rfl⟩) (hX.preRow (by omega)) rfl rfl hl.1 rfl (lv_room (Nat.le_of_ble_eq_true rfl)) dX4_mixedWithSequences_53 ⟨Nat.le_of_ble_eq_true rfl, Nat.le_of_ble_eq_true rfl⟩) (fun _ h => h) ?_
              refine kb_if_eq (tgt := 63) hx hb dX4_mixedWithSequences_56 (by decide) (fun k_3 => ?_) (fun k_3 => ?_)
              · skip
                have hc := k_3
                refine lv_iconst (v := nI 0) hx hb dX4_mixedWithSequences_63 (by decide) ?_
                refine kx_crl (v := mixI (mixI x6 (cntB (firstB (S.2.1 b9).2.2.1 (S.1 a).1) (S.1 a).2.2)) 0) (va_runS (As := [.long (mixI x6 (cntB (firstB (S.2.1 b9).2.2.1 (S.1 a).1) (S.1 a).2.2)), .int (nI 0)]) (rest := []) ⟨hx, hb, hml, hown, hts⟩ (m_X4_mixed l dC dI ad S (mixI x6 (cntB (firstB (S.2.1 b9).2.2.1 (S.1 a).1) (S.1 a).2.2)) 0 (by omega)) (va_cwS 2 hts gX4_mixedWithSequences_X4_mixed rfl rfl rfl hdX4_mixed_2.2 ⟨Nat.le_of_ble_eq_true rfl, Nat.le_of_ble_eq_true rfl⟩) hX.preS rfl rfl hl.1 rfl (lv_room (Nat.le_of_ble_eq_true rfl)) dX4_mixedWithSequences_64 ⟨Nat.le_of_ble_eq_true rfl, Nat.le_of_ble_eq_true rfl⟩) (fun _ h => h) ?_
                refine lv_lstore_n (lv' := [(3, .long (mixI (mixI x6 (cntB (firstB (S.2.1 b9).2.2.1 (S.1 a).1) (S.1 a).2.2)) 0)), (0, .ref (ad 57)), (1, .long d), (5, .int (nI a)), (6, .int (nI b9))]) hx hb dX4_mixedWithSequences_67 rfl hl (by decide) rfl (fun ls hl => ?_)
                refine lv_iinc (v := nI (b9 + 1)) (lv' := [(6, .int (nI (b9 + 1))), (3, .long (mixI (mixI x6 (cntB (firstB (S.2.1 b9).2.2.1 (S.1 a).1) (S.1 a).2.2)) 0)), (0, .ref (ad 57)), (1, .long d), (5, .int (nI a))]) hx hb dX4_mixedWithSequences_68 hl (k := 4) rfl (nI_1 b9) (by decide) rfl (fun ls hl => ?_)
                refine lv_goto (tgt := 14) hx hb dX4_mixedWithSequences_71 (by decide) ?_
                exact ih14  (mixI (mixI x6 (cntB (firstB (S.2.1 b9).2.2.1 (S.1 a).1) (S.1 a).2.2)) 0) (b9 + 1) (by omega) (by rw [hx6]; show _ = mixI (mixI _ _) (bN (seqB (S.2.1 b9).2.2.1 (S.1 a).1 (S.1 a).2.2)); rw [hc]; rfl) (by omega) _ (lv_sub hl [2, 3, 1, 4, 0] rfl)
              · skip
                have hc := k_3
                refine lv_iconst (v := nI 1) hx hb dX4_mixedWithSequences_59 (by decide) ?_
                refine lv_goto (tgt := 64) hx hb dX4_mixedWithSequences_60 (by decide) ?_
                refine kx_crl (v := mixI (mixI x6 (cntB (firstB (S.2.1 b9).2.2.1 (S.1 a).1) (S.1 a).2.2)) 1) (va_runS (As := [.long (mixI x6 (cntB (firstB (S.2.1 b9).2.2.1 (S.1 a).1) (S.1 a).2.2)), .int (nI 1)]) (rest := []) ⟨hx, hb, hml, hown, hts⟩ (m_X4_mixed l dC dI ad S (mixI x6 (cntB (firstB (S.2.1 b9).2.2.1 (S.1 a).1) (S.1 a).2.2)) 1 (by omega)) (va_cwS 2 hts gX4_mixedWithSequences_X4_mixed rfl rfl rfl hdX4_mixed_2.2 ⟨Nat.le_of_ble_eq_true rfl, Nat.le_of_ble_eq_true rfl⟩) hX.preS rfl rfl hl.1 rfl (lv_room (Nat.le_of_ble_eq_true rfl)) dX4_mixedWithSequences_64 ⟨Nat.le_of_ble_eq_true rfl, Nat.le_of_ble_eq_true rfl⟩) (fun _ h => h) ?_
                refine lv_lstore_n (lv' := [(3, .long (mixI (mixI x6 (cntB (firstB (S.2.1 b9).2.2.1 (S.1 a).1) (S.1 a).2.2)) 1)), (0, .ref (ad 57)), (1, .long d), (5, .int (nI a)), (6, .int (nI b9))]) hx hb dX4_mixedWithSequences_67 rfl hl (by decide) rfl (fun ls hl => ?_)
                refine lv_iinc (v := nI (b9 + 1)) (lv' := [(6, .int (nI (b9 + 1))), (3, .long (mixI (mixI x6 (cntB (firstB (S.2.1 b9).2.2.1 (S.1 a).1) (S.1 a).2.2)) 1)), (0, .ref (ad 57)), (1, .long d), (5, .int (nI a))]) hx hb dX4_mixedWithSequences_68 hl (k := 4) rfl (nI_1 b9) (by decide) rfl (fun ls hl => ?_)
                refine lv_goto (tgt := 14) hx hb dX4_mixedWithSequences_71 (by decide) ?_
                exact ih14  (mixI (mixI x6 (cntB (firstB (S.2.1 b9).2.2.1 (S.1 a).1) (S.1 a).2.2)) 1) (b9 + 1) (by omega) (by rw [hx6]; show _ = mixI (mixI _ _) (bN (seqB (S.2.1 b9).2.2.1 (S.1 a).1 (S.1 a).2.2)); rw [hc]; rfl) (by omega) _ (lv_sub hl [2, 3, 1, 4, 0] rfl)
        exact loop14 (4 + 1) x5 0 (by omega) rfl (by omega) _ (lv_sub hl [1, 2, 3, 4, 0] rfl)
  exact loop5 (3 + 1) d 0 (by omega) rfl (by omega) _ (lv_sub hl [2, 3, 1, 0] rfl)
end
section
/-! sorting by the object; round and round -/
theorem ofWF {l : Launch} {y : MethodName} {ws ws' : List Cond} {rm : Room} {Pc : Array Value → State → Prop} {Qc : Array Value → State → Outcome → State → Prop} {mc ms : Nat} {free : Addr → Prop} {cc : ByteArray} {maxL : Nat} {ret : Option FieldType} (hy : plainFor y = true) (hw : ws = Cond.code y cc maxL ret :: ws') (go : ∀ p e s m args below meth c s₁, BodyLoose p l y (headSpec ws rm) cc maxL ret e s m args below meth c s₁ → c.maxLocals = maxL → Pc args s → W p l e (headSpec ws rm).room s m args below meth c s.heap [] 0 0 (MQ below Qc args s mc ms free) (entryFrame m args maxL)) : Met l y ws rm Pc Qc mc ms free := by
  refine MetFree.of_bodySF (code := cc) (maxLocals := maxL) (ret := ret) hy (fun args s m h hn => ?_) (fun p e s m args below meth c s₁ B hml hP _ => ?_)
  · have h9 := atoms_spec (ws := ws) h _ (hw ▸ List.mem_cons_self)
    obtain ⟨u, c, h1, h2, h3, h4, h5, h6, -, -⟩ := Cond.code_spec hn h9
    exact ⟨u, c, h1, h2, h3, h4, h5, h6⟩
  · obtain ⟨t, g1, o, g2, g3, g4⟩ := go p e s m args below meth c s₁ B hml hP s₁ (by rw [B.state]; rfl) (Stand.of_body B)
    exact ⟨t, o, g1, g2, g3, g4.1, g4.2⟩
theorem xor_sign (x : Int32) {y : Int32} (hy : 0 ≤ y.toInt) : 0 ≤ (x ^^^ y) ↔ 0 ≤ x := by
  have h1 : ∀ z : Int32, z.toBitVec.msb = decide (z.toInt < 0) := fun z => BitVec.msb_eq_toInt
  have h2 := h1 (x ^^^ y)
  rw [Int32.toBitVec_xor, BitVec.msb_xor, h1 x, h1 y, decide_eq_false (show ¬ y.toInt < 0 by omega), Bool.xor_false] at h2
  have h3 := decide_eq_decide.mp h2
  rw [Int32.le_iff_toInt_le, Int32.le_iff_toInt_le, Int32.toInt_zero]
  omega
theorem fm_pos {x : Int32} {k : Nat} (h0 : 0 < k) (hk : k < 2 ^ 31) (h : 0 ≤ (x ^^^ nI k)) : x - x / nI k * nI k = fmv x (nI k) := by
  have hx : 0 ≤ x := (xor_sign x (by rw [nI_toInt hk]; omega)).mp h
  rw [Int32.le_iff_toInt_le, Int32.toInt_zero] at hx
  refine (if_pos ?_).symm
  rw [Int32.le_iff_toInt_le, rem_toInt, Int32.toInt_zero]
  exact Int.tmod_nonneg _ hx
theorem fm_zero {x : Int32} {k : Nat} (h : x - x / nI k * nI k = 0) : x - x / nI k * nI k = fmv x (nI k) := by
  unfold fmv
  rw [h]
  rfl
theorem fm_neg {x : Int32} {k : Nat} (h0 : 0 < k) (hk : k < 2 ^ 31) (h : ¬ 0 ≤ (x ^^^ nI k)) (h2 : ¬ x - x / nI k * nI k = 0) : x - x / nI k * nI k + nI k = fmv x (nI k) := by
  have hx : ¬ 0 ≤ x := fun z => h ((xor_sign x (by rw [nI_toInt hk]; omega)).mpr z)
  rw [Int32.le_iff_toInt_le, Int32.toInt_zero] at hx
  refine (if_neg ?_).symm
  intro z
  rw [Int32.le_iff_toInt_le, Int32.toInt_zero] at z
  apply h2
  apply Int32.toInt_inj.mp
  rw [Int32.toInt_zero]
  have h3 : (x - x / nI k * nI k).toInt ≤ 0 := by
    rw [rem_toInt]
    have h4 := Int.tmod_nonneg (nI k).toInt (a := -x.toInt) (by omega)
    rw [Int.neg_tmod] at h4
    omega
  omega
/-- what sort and sortPart of row i leave as it was -/
def sortA (S S1 : XS) (i : Nat) : Prop := S1.2 = S.2 ∧ (∀ k, k ≠ i → k ≠ 3 → k ≠ 4 → S1.1 k = S.1 k) ∧ rowOK (S1.1 3) ∧ rowOK (S1.1 4) ∧ rowOK (S1.1 i) ∧ (S1.1 i).2.2 = (S.1 i).2.2
theorem sortA_arr {S S2 S3 : XS} {i : Nat} (hI : InvX S) (e : S2 = xR S 4 (ovl (S.1 i).1 (S.1 4).1 (S.1 i).2.2, ovl (S.1 i).2.1 (S.1 4).2.1 (S.1 i).2.2, (S.1 i).2.2)) (h : keepR S2 S3 i (3 + 2 * 0)) (hi : i < 3) : sortA S S3 i := by
  subst e
  refine ⟨h.1, fun k h1 h2 h3 => ?_, h.2.2.1, ?_, h.2.2.2.1, ?_⟩
  · rw [h.2.1 k h1 h2, xR_ne _ _ h3]
  · rw [h.2.1 4 (by omega) (by decide), xR_row]
    exact rowOK_ovl (hI.1 4 (by decide)) (hI.1 i (by omega))
  · rw [h.2.2.2.2, xR_ne _ _ (by omega)]
theorem sortA_ins {S S2 S3 : XS} {i : Nat} (hI : InvX S) (e : S2 = xR S 4 (ovl (S.1 i).1 (S.1 4).1 (S.1 i).2.2, ovl (S.1 i).2.1 (S.1 4).2.1 (S.1 i).2.2, (S.1 i).2.2)) (h : ∃ r' : RowS, S3 = xR S2 i r' ∧ rowOK r' ∧ r'.2.2 = (S2.1 i).2.2) (hi : i < 3) : sortA S S3 i := by
  obtain ⟨r', rfl, h1, h2⟩ := h
  subst e
  refine ⟨rfl, fun k g1 g2 g3 => ?_, ?_, ?_, ?_, ?_⟩
  · rw [xR_ne _ _ g1, xR_ne _ _ g3]
  · rw [xR_ne _ _ (by omega), xR_ne _ _ (by omega)]; exact hI.1 3 (by decide)
  · rw [xR_ne _ _ (by omega), xR_row]; exact rowOK_ovl (hI.1 4 (by decide)) (hI.1 i (by omega))
  · rw [xR_row]; exact h1
  · rw [xR_row, h2, xR_ne _ _ (by omega)]
theorem rowOK_put {r : RowS} (h : rowOK r) {a v u : Nat} (hv : v < 16 ∧ u < 1000000) : rowOK (va_up r.1 a v, va_up r.2.1 a u, r.2.2) :=
  ⟨h.1, fun _ hk => ⟨up_lt (fun q hq => (h.2 q hq).1) hv.1 hk, up_lt (fun q hq => (h.2 q hq).2) hv.2 hk⟩⟩
set_option maxHeartbeats 4000000 in
set_option maxRecDepth 100000 in
theorem m_J9_floorMod (l : Launch) (dC : Nat → ClassId) (dI : Nat → Nat → Nat) (ad : Nat → Nat) (S : XS) (x : Int32) (k : Nat) (h0 : 0 < k) (hk : k < 2 ^ 31) : Met l yJ9_floorMod_7cf53 wsJ9_floorMod_7cf53 ({ frames := 0, cells := 0, slots := 0, locals := 0 } : Room) (va_Pc [.int x, .int (nI k)] (PX dC dI ad S)) (vp_Si (fun r => r = fmv x (nI k))) 0 0 (fun _ => False) := by
  refine ofWF (cc := cJ9_floorMod_7cf53) (maxL := 3) (ret := (some .int)) (by decide +kernel) rfl ?_
  intro p e s m args below meth c s₁ B hml hv
  obtain ⟨rfl, hPX⟩ := hv
  have hx := B.exec
  have hb := B.bytes
  have hr := B.returns
  have hts := atoms_spec (ws := wsJ9_floorMod_7cf53) B.pre
  have hown : s.vm.findClass RJ9 = some m.cls := findClass_of_methodNamed B.named
  have hlocks := B.notSynchronized
  have hX := WX.of hPX
  have hl := lv_entry ([.int x, .int (nI k)]) (n := 3) (Nat.le_of_ble_eq_true rfl)
  rw [lg_entry_eq]
  generalize (lg_sl ([.int x, .int (nI k)]) ++ List.replicate (3 - (lg_sl ([.int x, .int (nI k)])).length) Slot.unset).toArray = ls at hl ⊢
  have hl : lv_has ls 3 [(0, .int x), (1, .int (nI k))] := hl
  show W p l e ({ frames := 0, cells := 0, slots := 0, locals := 0 } : Room) s m ([.int x, .int (nI k)]).toArray below meth c s.heap [] 0 0 (MQ below (vp_Si (fun r => r = fmv x (nI k))) ([.int x, .int (nI k)]).toArray s 0 0 (fun _ => False)) (F0 m 0 ls [])
  have hy0 := nI_ne0 h0 hk
  refine lv_iload_n hx hb dJ9_floorMod_7cf53_0 rfl (lv_at hl 0 rfl) ?_
  refine lv_iload_n hx hb dJ9_floorMod_7cf53_1 rfl (lv_at hl 1 rfl) ?_
  refine lv_irem hx hb dJ9_floorMod_7cf53_2 hy0 ?_
  refine lv_istore_n (lv' := [(2, .int (x - x / (nI k) * (nI k))), (0, .int x), (1, .int (nI k))]) hx hb dJ9_floorMod_7cf53_3 rfl hl (by decide) rfl (fun ls hl => ?_)
  refine lv_iload_n hx hb dJ9_floorMod_7cf53_4 rfl (lv_at hl 1 rfl) ?_
  refine lv_iload_n hx hb dJ9_floorMod_7cf53_5 rfl (lv_at hl 2 rfl) ?_
  refine lv_ixor hx hb dJ9_floorMod_7cf53_6 ?_
  refine lv_if_ge (tgt := 18) hx hb dJ9_floorMod_7cf53_7 (by decide) (fun k_1 => ?_) (fun k_1 => ?_)
  · skip
    have h1 := k_1
    refine lv_iload_n hx hb dJ9_floorMod_7cf53_18 rfl (lv_at hl 0 rfl) ?_
    exact W.iret (v := (x - x / (nI k) * (nI k))) hx hb hr (fun t9 ht9 hW9 => ⟨_, rfl, (fm_pos h0 hk h1), ht9⟩) (fun _ h => nomatch h) dJ9_floorMod_7cf53_19
  · skip
    have h1 := k_1
    refine lv_iload_n hx hb dJ9_floorMod_7cf53_10 rfl (lv_at hl 0 rfl) ?_
    refine lv_if_eq (tgt := 18) hx hb dJ9_floorMod_7cf53_11 (by decide) (fun k_2 => ?_) (fun k_2 => ?_)
    · skip
      have h2 := k_2
      refine lv_iload_n hx hb dJ9_floorMod_7cf53_18 rfl (lv_at hl 0 rfl) ?_
      exact W.iret (v := (x - x / (nI k) * (nI k))) hx hb hr (fun t9 ht9 hW9 => ⟨_, rfl, (fm_zero h2), ht9⟩) (fun _ h => nomatch h) dJ9_floorMod_7cf53_19
    · skip
      have h2 := k_2
      refine lv_iload_n hx hb dJ9_floorMod_7cf53_14 rfl (lv_at hl 0 rfl) ?_
      refine lv_iload_n hx hb dJ9_floorMod_7cf53_15 rfl (lv_at hl 2 rfl) ?_
      refine lv_iadd hx hb dJ9_floorMod_7cf53_16 ?_
      exact W.iret (v := ((x - x / (nI k) * (nI k)) + nI k)) hx hb hr (fun t9 ht9 hW9 => ⟨_, rfl, (fm_neg h0 hk h1 h2), ht9⟩) (fun _ h => nomatch h) dJ9_floorMod_7cf53_17
end
section
/-! product, tellApart, isSound, digest -/
/-- the product of orders j and j2, made in the spare order -/
def prodO (S : XS) (j j2 : Nat) : OrdS := newO (apn (apn ((S.2.1 4).1) ((S.2.1 j).1) 0 ((S.2.1 j).2.2.2.2.1)) (S.2.1 j2).1 (S.2.1 j).2.2.2.2.1 (S.2.1 j2).2.2.2.2.1) (apn (apn ((S.2.1 4).2.1) ((S.2.1 j).2.1) 0 ((S.2.1 j).2.2.2.2.1)) (S.2.1 j2).2.1 (S.2.1 j).2.2.2.2.1 (S.2.1 j2).2.2.2.2.1) ((S.2.1 j).2.2.2.2.1 + (S.2.1 j2).2.2.2.2.1) (S.2.1 4).2.2.1 (S.2.1 4).2.2.2.1
def copyO (o p : OrdS) : OrdS := newO (apn o.1 p.1 0 p.2.2.2.2.1) (apn o.2.1 p.2.1 0 p.2.2.2.2.1) p.2.2.2.2.1 o.2.2.1 o.2.2.2.1
theorem prodO_ok {S : XS} (hI : InvX S) {j j2 : Nat} (hj : j < 4) (hj2 : j2 < 4) (h : (S.2.1 j).2.2.2.2.1 + (S.2.1 j2).2.2.2.2.1 ≤ 10) : ordOK (prodO S j j2) :=
  newO_ok (stepOK_apn2 (o := S.2.1 4) (o2 := S.2.1 j) (o3 := S.2.1 j2) (D := fun _ => false) (c := fun _ => 0) (r := fun _ => 0) (cl := 0) (hI.2 4 (by decide)).1 (hI.2 j (by omega)).1 (hI.2 j2 (by omega)).1 h)
theorem coarse_lt (cl : Nat → Nat) (p : Nat → Bool) : ∀ n, n ≤ 8 → (coarse cl p n).2 < 8
  | 0, _ => Nat.zero_lt_succ _
  | n + 1, h => by
    have ih := coarse_lt cl p n (by omega)
    rw [coarse]
    split
    · show n < 8; omega
    · exact ih
theorem sumN_lt {f : Nat → Nat} {c : Nat} : ∀ n, (∀ k, k < n → f k ≤ c) → sumN f n ≤ n * c
  | 0, _ => Nat.zero_le _
  | n + 1, h => by
    have ih := sumN_lt n (fun k hk => h k (by omega))
    have := h n (by omega)
    rw [sumN, Nat.add_mul, Nat.one_mul]
    omega
theorem countX_lt {S : XS} (hI : InvX S) (hc : S.2.2.1 < 2 ^ 31 ∧ S.2.2.2.1 < 2 ^ 31 ∧ S.2.2.2.2 < 2 ^ 31) (k : Nat) : countX S k < 2 ^ 31 := by
  have h1 := sumN_lt (f := fun k => (S.1 k).2.2) (c := 16) 3 (fun k hk => (hI.1 k (by omega)).1)
  have h2 := sumN_lt (f := fun k => (S.2.1 k).2.2.2.2.1) (c := 10) 4 (fun k hk => (hI.2 k (by omega)).1.1)
  unfold countX
  split <;> omega
set_option maxHeartbeats 4000000 in
set_option maxRecDepth 100000 in
theorem m_X4_product (l : Launch) (dC : Nat → ClassId) (dI : Nat → Nat → Nat) (ad : Nat → Nat) (S : XS) (j : Nat) (j2 : Nat) (j3 : Nat) (hj : j < 4) (hj2 : j2 < 4) (hj3 : j3 < 4) (hI : InvX S) : Met l yX4_product wsX4_product ({ frames := 4, cells := 0, slots := 0, locals := 91 } : Room) (va_Pc [.ref (ad 57), .int (nI j), .int (nI j2), .int (nI j3)] (PX dC dI ad S)) (va_Qi (fun r S' => ((S.2.1 j).2.2.2.2.1 + (S.2.1 j2).2.2.2.2.1 ≤ 5 ∧ r = nI (copyO (S.2.1 j3) (prodO S j j2)).2.2.2.2.2 ∧ S' = xO (xO S 4 (prodO S j j2)) j3 (copyO (S.2.1 j3) (prodO S j j2))) ∨ (5 < (S.2.1 j).2.2.2.2.1 + (S.2.1 j2).2.2.2.2.1 ∧ r = -9 ∧ S' = refT S)) (PX dC dI ad) (AX ad)) 0 0 (AX ad) := by
  refine Met.ofW (cc := cX4_product) (maxL := 7) (ret := (some .int)) pl_X4 rfl ?_
  intro p e s m args below meth c s₁ B hml hv
  obtain ⟨rfl, hPX⟩ := hv
  have hx := B.exec
  have hb := B.bytes
  have hr := B.returns
  have hts := atoms_spec (ws := wsX4_product) B.pre
  have hown : s.vm.findClass RX4 = some m.cls := findClass_of_methodNamed B.named
  have hlocks := B.notSynchronized
  have hin4 : ∀ w ∈ u_ws RX4 TX4 9, w ∈ wsX4_product := tu 1328 (by decide +kernel) rfl
  have hX := WX.of hPX
  have hl := lv_entry ([.ref (ad 57), .int (nI j), .int (nI j2), .int (nI j3)]) (n := 7) (Nat.le_of_ble_eq_true rfl)
  rw [lg_entry_eq]
  generalize (lg_sl ([.ref (ad 57), .int (nI j), .int (nI j2), .int (nI j3)]) ++ List.replicate (7 - (lg_sl ([.ref (ad 57), .int (nI j), .int (nI j2), .int (nI j3)])).length) Slot.unset).toArray = ls at hl ⊢
  have hl : lv_has ls 7 [(0, .ref (ad 57)), (1, .int (nI j)), (2, .int (nI j2)), (3, .int (nI j3))] := hl
  show W p l e ({ frames := 4, cells := 0, slots := 0, locals := 91 } : Room) s m ([.ref (ad 57), .int (nI j), .int (nI j2), .int (nI j3)]).toArray below meth c s.heap [] 0 0 (MQ below (va_Qi (fun r S' => ((S.2.1 j).2.2.2.2.1 + (S.2.1 j2).2.2.2.2.1 ≤ 5 ∧ r = nI (copyO (S.2.1 j3) (prodO S j j2)).2.2.2.2.2 ∧ S' = xO (xO S 4 (prodO S j j2)) j3 (copyO (S.2.1 j3) (prodO S j j2))) ∨ (5 < (S.2.1 j).2.2.2.2.1 + (S.2.1 j2).2.2.2.2.1 ∧ r = -9 ∧ S' = refT S)) (PX dC dI ad) (AX ad)) ([.ref (ad 57), .int (nI j), .int (nI j2), .int (nI j3)]).toArray s 0 0 (AX ad)) (F0 m 0 ls [])
  have hn := (hI.2 j (by omega)).1.1
  have hn2 := (hI.2 j2 (by omega)).1.1
  refine lv_aload_n hx hb dX4_product_0 rfl (lv_at hl 0 rfl) ?_
  refine lv_iload_n hx hb dX4_product_1 rfl (lv_at hl 1 rfl) ?_
  refine va_csr (va_Run.run (va_runV (As := [.int (nI j)]) (rest := []) ⟨hx, hb, hml, hown, hts⟩ (m_X4_orderAt l dC dI ad S j (by omega)) (cwV 1 hts gX4_product_X4_orderAt rfl rfl rfl hdX4_orderAt_1 ⟨Nat.le_of_ble_eq_true rfl, Nat.le_of_ble_eq_true rfl⟩) (hX.preTop 57 6 (by decide) (by decide) rfl rfl) rfl rfl hl.1 rfl (lv_room (Nat.le_of_ble_eq_true rfl)) dX4_product_2 ⟨Nat.le_of_ble_eq_true rfl, Nat.le_of_ble_eq_true rfl⟩)) (fun k_ hk_ => ?_)
  rw [hk_]
  refine lv_astore (lv' := [(4, .ref (ad (24 + 5 * j))), (0, .ref (ad 57)), (1, .int (nI j)), (2, .int (nI j2)), (3, .int (nI j3))]) hx hb dX4_product_5 hl (by decide) rfl (fun ls hl => ?_)
  refine lv_aload_n hx hb dX4_product_7 rfl (lv_at hl 1 rfl) ?_
  refine lv_iload_n hx hb dX4_product_8 rfl (lv_at hl 3 rfl) ?_
  refine va_csr (va_Run.run (va_runV (As := [.int (nI j2)]) (rest := []) ⟨hx, hb, hml, hown, hts⟩ (m_X4_orderAt l dC dI ad S j2 (by omega)) (cwV 1 hts gX4_product_X4_orderAt rfl rfl rfl hdX4_orderAt_1 ⟨Nat.le_of_ble_eq_true rfl, Nat.le_of_ble_eq_true rfl⟩) (hX.preTop 57 6 (by decide) (by decide) rfl rfl) rfl rfl hl.1 rfl (lv_room (Nat.le_of_ble_eq_true rfl)) dX4_product_9 ⟨Nat.le_of_ble_eq_true rfl, Nat.le_of_ble_eq_true rfl⟩)) (fun k_ hk_ => ?_)
  rw [hk_]
  refine lv_astore (lv' := [(5, .ref (ad (24 + 5 * j2))), (4, .ref (ad (24 + 5 * j))), (0, .ref (ad 57)), (1, .int (nI j)), (2, .int (nI j2)), (3, .int (nI j3))]) hx hb dX4_product_12 hl (by decide) rfl (fun ls hl => ?_)
  refine lv_aload_n hx hb dX4_product_14 rfl (lv_at hl 2 rfl) ?_
  refine lv_iload_n hx hb dX4_product_15 rfl (lv_at hl 5 rfl) ?_
  refine va_csr (va_Run.run (va_runV (As := [.int (nI j3)]) (rest := []) ⟨hx, hb, hml, hown, hts⟩ (m_X4_orderAt l dC dI ad S j3 (by omega)) (cwV 1 hts gX4_product_X4_orderAt rfl rfl rfl hdX4_orderAt_1 ⟨Nat.le_of_ble_eq_true rfl, Nat.le_of_ble_eq_true rfl⟩) (hX.preTop 57 6 (by decide) (by decide) rfl rfl) rfl rfl hl.1 rfl (lv_room (Nat.le_of_ble_eq_true rfl)) dX4_product_16 ⟨Nat.le_of_ble_eq_true rfl, Nat.le_of_ble_eq_true rfl⟩)) (fun k_ hk_ => ?_)
  rw [hk_]
  refine lv_astore (lv' := [(6, .ref (ad (24 + 5 * j3))), (5, .ref (ad (24 + 5 * j2))), (4, .ref (ad (24 + 5 * j))), (0, .ref (ad 57)), (1, .int (nI j)), (2, .int (nI j2)), (3, .int (nI j3))]) hx hb dX4_product_19 hl (by decide) rfl (fun ls hl => ?_)
  refine lv_aload hx hb dX4_product_21 (lv_at hl 2 rfl) ?_
  refine kx_cr (v := nI ((S.2.1 j).2.2.2.2.1)) (va_runV (As := []) (rest := []) ⟨hx, hb, hml, hown, hts⟩ (m_X1_length l dC dI ad S j  (by omega)) (cwV 0 hts gX4_product_X1_length rfl rfl rfl hdX1_length_0 ⟨Nat.le_of_ble_eq_true rfl, Nat.le_of_ble_eq_true rfl⟩) (hX.preOrd (by omega)) rfl rfl hl.1 rfl (lv_room (Nat.le_of_ble_eq_true rfl)) dX4_product_23 ⟨Nat.le_of_ble_eq_true rfl, Nat.le_of_ble_eq_true rfl⟩) (fun _ h => h) ?_
  refine lv_aload hx hb dX4_product_26 (lv_at hl 1 rfl) ?_
  refine kx_cr (v := nI ((S.2.1 j2).2.2.2.2.1)) (va_runV (As := []) (rest := [.int (nI ((S.2.1 j).2.2.2.2.1))]) ⟨hx, hb, hml, hown, hts⟩ (m_X1_length l dC dI ad S j2  (by omega)) (cwV 0 hts gX4_product_X1_length rfl rfl rfl hdX1_length_0 ⟨Nat.le_of_ble_eq_true rfl, Nat.le_of_ble_eq_true rfl⟩) (hX.preOrd (by omega)) rfl rfl hl.1 rfl (lv_room (Nat.le_of_ble_eq_true rfl)) dX4_product_28 ⟨Nat.le_of_ble_eq_true rfl, Nat.le_of_ble_eq_true rfl⟩) (fun _ h => h) ?_
  refine kn_iadd hx hb dX4_product_31 ?_
  refine lv_iconst (v := nI 5) hx hb dX4_product_32 (by decide) ?_
  refine kn_icmp_le (tgt := 41) hx hb (by omega) (by omega) dX4_product_33 (by decide) (fun k_1 => ?_) (fun k_1 => ?_)
  · skip
    have hc := k_1
    refine lv_aload_n hx hb dX4_product_41 rfl (lv_at hl 3 rfl) ?_
    refine kx_gspareOrder hx hb hts hin4 hown hX (hts (.fieldLink RX4 41 "Orderlattice" "spareOrder" "LOrderlattice$Order;") (tm 454 (by decide +kernel) rfl)) dX4_product_42 ?_
    refine lv_aload hx hb dX4_product_45 (lv_at hl 2 rfl) ?_
    refine lv_aload hx hb dX4_product_47 (lv_at hl 1 rfl) ?_
    refine kx_cv (va_runV (As := [.ref (ad (24 + 5 * j)), .ref (ad (24 + 5 * j2))]) (rest := []) ⟨hx, hb, hml, hown, hts⟩ (m_X1_becomeProductOf l dC dI ad S 4 j j2 (by omega) (by omega) (by omega) (hI.2 4 (by decide)).1 (hI.2 j (by omega)).1 (hI.2 j2 (by omega)).1 (by omega) (by omega) (by omega)) (cwV 2 hts gX4_product_X1_becomeProductOf rfl rfl rfl hdX1_becomeProductOf_2 ⟨Nat.le_of_ble_eq_true rfl, Nat.le_of_ble_eq_true rfl⟩) (hX.preOrd (by omega)) rfl rfl hl.1 rfl (lv_room (Nat.le_of_ble_eq_true rfl)) dX4_product_49 ⟨Nat.le_of_ble_eq_true rfl, Nat.le_of_ble_eq_true rfl⟩) hX (fun _ h => h) (fun S_ H locs hw hX => ?_)
    subst hw
    obtain ⟨S2, e_S2⟩ : ∃ z, z = (xO S 4 (apn (apn ((S.2.1 4).1) ((S.2.1 j).1) 0 ((S.2.1 j).2.2.2.2.1)) ((S.2.1 j2).1) ((S.2.1 j).2.2.2.2.1) ((S.2.1 j2).2.2.2.2.1), apn (apn ((S.2.1 4).2.1) ((S.2.1 j).2.1) 0 ((S.2.1 j).2.2.2.2.1)) ((S.2.1 j2).2.1) ((S.2.1 j).2.2.2.2.1) ((S.2.1 j2).2.2.2.2.1), ovl (codeOf (apn (apn ((S.2.1 4).1) ((S.2.1 j).1) 0 ((S.2.1 j).2.2.2.2.1)) ((S.2.1 j2).1) ((S.2.1 j).2.2.2.2.1) ((S.2.1 j2).2.2.2.2.1)) (apn (apn ((S.2.1 4).2.1) ((S.2.1 j).2.1) 0 ((S.2.1 j).2.2.2.2.1)) ((S.2.1 j2).2.1) ((S.2.1 j).2.2.2.2.1) ((S.2.1 j2).2.2.2.2.1)) ((S.2.1 j).2.2.2.2.1 + (S.2.1 j2).2.2.2.2.1)) ((S.2.1 4).2.2.1) 16, ovl (rankC (codeOf (apn (apn ((S.2.1 4).1) ((S.2.1 j).1) 0 ((S.2.1 j).2.2.2.2.1)) ((S.2.1 j2).1) ((S.2.1 j).2.2.2.2.1) ((S.2.1 j2).2.2.2.2.1)) (apn (apn ((S.2.1 4).2.1) ((S.2.1 j).2.1) 0 ((S.2.1 j).2.2.2.2.1)) ((S.2.1 j2).2.1) ((S.2.1 j).2.2.2.2.1) ((S.2.1 j2).2.2.2.2.1)) ((S.2.1 j).2.2.2.2.1 + (S.2.1 j2).2.2.2.2.1))) ((S.2.1 4).2.2.2.1) 16, (S.2.1 j).2.2.2.2.1 + (S.2.1 j2).2.2.2.2.1, classC (codeOf (apn (apn ((S.2.1 4).1) ((S.2.1 j).1) 0 ((S.2.1 j).2.2.2.2.1)) ((S.2.1 j2).1) ((S.2.1 j).2.2.2.2.1) ((S.2.1 j2).2.2.2.2.1)) (apn (apn ((S.2.1 4).2.1) ((S.2.1 j).2.1) 0 ((S.2.1 j).2.2.2.2.1)) ((S.2.1 j2).2.1) ((S.2.1 j).2.2.2.2.1) ((S.2.1 j2).2.2.2.2.1)) ((S.2.1 j).2.2.2.2.1 + (S.2.1 j2).2.2.2.2.1)))) := ⟨_, rfl⟩
    replace hX := WX.eqS e_S2.symm hX
    have h4 : S2.2.1 4 = prodO S j j2 := by rw [e_S2, xO_ord]; rfl
    have e9 : S2 = xO S 4 (prodO S j j2) := e_S2
    have hj3 : S2.2.1 j3 = S.2.1 j3 := by rw [e_S2, xO_ne _ _ (show j3 ≠ 4 by omega)]
    refine lv_aload hx hb dX4_product_52 (lv_at hl 0 rfl) ?_
    refine lv_aload_n hx hb dX4_product_54 rfl (lv_at hl 3 rfl) ?_
    refine kx_gspareOrder hx hb hts hin4 hown hX (hts (.fieldLink RX4 41 "Orderlattice" "spareOrder" "LOrderlattice$Order;") (tm 454 (by decide +kernel) rfl)) dX4_product_55 ?_
    refine kx_cv (va_runV (As := [.ref (ad (24 + 5 * 4))]) (rest := []) ⟨hx, hb, hml, hown, hts⟩ (m_X1_becomeCopyOf l dC dI ad S2 j3 4 (by omega) (by decide) (by rw [hj3]; exact (hI.2 j3 (by omega)).1) (by rw [h4]; exact (prodO_ok hI hj hj2 (by omega)).1)) (cwV 1 hts gX4_product_X1_becomeCopyOf rfl rfl rfl hdX1_becomeCopyOf_1 ⟨Nat.le_of_ble_eq_true rfl, Nat.le_of_ble_eq_true rfl⟩) (hX.preOrd (by omega)) rfl rfl hl.1 rfl (lv_room (Nat.le_of_ble_eq_true rfl)) dX4_product_58 ⟨Nat.le_of_ble_eq_true rfl, Nat.le_of_ble_eq_true rfl⟩) hX (fun _ h => h) (fun S_ H locs hw hX => ?_)
    subst hw
    refine lv_aload hx hb dX4_product_61 (lv_at hl 0 rfl) ?_
    refine kx_cr (v := nI (classC (codeOf (apn ((S2.2.1 j3).1) ((S2.2.1 4).1) 0 ((S2.2.1 4).2.2.2.2.1)) (apn ((S2.2.1 j3).2.1) ((S2.2.1 4).2.1) 0 ((S2.2.1 4).2.2.2.2.1)) ((S2.2.1 4).2.2.2.2.1)))) (va_runV (As := []) (rest := []) ⟨hx, hb, hml, hown, hts⟩ (m_X1_classCount l dC dI ad (xO S2 j3 (apn ((S2.2.1 j3).1) ((S2.2.1 4).1) 0 ((S2.2.1 4).2.2.2.2.1), apn ((S2.2.1 j3).2.1) ((S2.2.1 4).2.1) 0 ((S2.2.1 4).2.2.2.2.1), ovl (codeOf (apn ((S2.2.1 j3).1) ((S2.2.1 4).1) 0 ((S2.2.1 4).2.2.2.2.1)) (apn ((S2.2.1 j3).2.1) ((S2.2.1 4).2.1) 0 ((S2.2.1 4).2.2.2.2.1)) ((S2.2.1 4).2.2.2.2.1)) ((S2.2.1 j3).2.2.1) 16, ovl (rankC (codeOf (apn ((S2.2.1 j3).1) ((S2.2.1 4).1) 0 ((S2.2.1 4).2.2.2.2.1)) (apn ((S2.2.1 j3).2.1) ((S2.2.1 4).2.1) 0 ((S2.2.1 4).2.2.2.2.1)) ((S2.2.1 4).2.2.2.2.1))) ((S2.2.1 j3).2.2.2.1) 16, (S2.2.1 4).2.2.2.2.1, classC (codeOf (apn ((S2.2.1 j3).1) ((S2.2.1 4).1) 0 ((S2.2.1 4).2.2.2.2.1)) (apn ((S2.2.1 j3).2.1) ((S2.2.1 4).2.1) 0 ((S2.2.1 4).2.2.2.2.1)) ((S2.2.1 4).2.2.2.2.1)))) j3  (by omega)) (cwV 0 hts gX4_product_X1_classCount rfl rfl rfl hdX1_classCount_0 ⟨Nat.le_of_ble_eq_true rfl, Nat.le_of_ble_eq_true rfl⟩) (hX.preOrd (by omega)) rfl rfl hl.1 rfl (lv_room (Nat.le_of_ble_eq_true rfl)) dX4_product_63 ⟨Nat.le_of_ble_eq_true rfl, Nat.le_of_ble_eq_true rfl⟩) (fun _ h => by rw [h, xO_ord]) ?_
    exact W.iret (v := nI (classC (codeOf (apn ((S2.2.1 j3).1) ((S2.2.1 4).1) 0 ((S2.2.1 4).2.2.2.2.1)) (apn ((S2.2.1 j3).2.1) ((S2.2.1 4).2.1) 0 ((S2.2.1 4).2.2.2.2.1)) ((S2.2.1 4).2.2.2.2.1)))) hx hb hr (fun t9 ht9 hW9 => ⟨⟨_, (xO S2 j3 (apn ((S2.2.1 j3).1) ((S2.2.1 4).1) 0 ((S2.2.1 4).2.2.2.2.1), apn ((S2.2.1 j3).2.1) ((S2.2.1 4).2.1) 0 ((S2.2.1 4).2.2.2.2.1), ovl (codeOf (apn ((S2.2.1 j3).1) ((S2.2.1 4).1) 0 ((S2.2.1 4).2.2.2.2.1)) (apn ((S2.2.1 j3).2.1) ((S2.2.1 4).2.1) 0 ((S2.2.1 4).2.2.2.2.1)) ((S2.2.1 4).2.2.2.2.1)) ((S2.2.1 j3).2.2.1) 16, ovl (rankC (codeOf (apn ((S2.2.1 j3).1) ((S2.2.1 4).1) 0 ((S2.2.1 4).2.2.2.2.1)) (apn ((S2.2.1 j3).2.1) ((S2.2.1 4).2.1) 0 ((S2.2.1 4).2.2.2.2.1)) ((S2.2.1 4).2.2.2.2.1))) ((S2.2.1 j3).2.2.2.1) 16, (S2.2.1 4).2.2.2.2.1, classC (codeOf (apn ((S2.2.1 j3).1) ((S2.2.1 4).1) 0 ((S2.2.1 4).2.2.2.2.1)) (apn ((S2.2.1 j3).2.1) ((S2.2.1 4).2.1) 0 ((S2.2.1 4).2.2.2.2.1)) ((S2.2.1 4).2.2.2.2.1)))), rfl, (Or.inl ⟨hc, by rw [← hj3, ← h4]; rfl, by rw [← e9, ← hj3, ← h4]; rfl⟩), hX.P ht9 hW9⟩, hX.2.2.2.F ht9⟩) hX.2.2.2.2.2 dX4_product_66
  · skip
    have hc := k_1
    refine lv_aload_n hx hb dX4_product_36 rfl (lv_at hl 3 rfl) ?_
    refine kx_ci (va_runV (As := []) (rest := []) ⟨hx, hb, hml, hown, hts⟩ (m_X4_refuse l dC dI ad S) (cwV 0 hts gX4_product_X4_refuse rfl rfl rfl hdX4_refuse_0 ⟨Nat.le_of_ble_eq_true rfl, Nat.le_of_ble_eq_true rfl⟩) (hX.preTop 57 6 (by decide) (by decide) rfl rfl) rfl rfl hl.1 rfl (lv_room (Nat.le_of_ble_eq_true rfl)) dX4_product_37 ⟨Nat.le_of_ble_eq_true rfl, Nat.le_of_ble_eq_true rfl⟩) hX (fun _ h => h) (fun r_ S_ H locs hw hX => ?_)
    obtain ⟨rfl, rfl⟩ := hw
    exact W.iret (v := (-9)) hx hb hr (fun t9 ht9 hW9 => ⟨⟨_, (xN S (S.2.2.1, S.2.2.2.1 + 1, S.2.2.2.2)), rfl, (Or.inr ⟨by omega, rfl, rfl⟩), hX.P ht9 hW9⟩, hX.2.2.2.F ht9⟩) hX.2.2.2.2.2 dX4_product_40
set_option maxHeartbeats 4000000 in
set_option maxRecDepth 100000 in
theorem m_X4_tellApart (l : Launch) (dC : Nat → ClassId) (dI : Nat → Nat → Nat) (ad : Nat → Nat) (S : XS) (j : Nat) (v : Nat) (v2 : Nat) (hj : j < 4) (hv : v < 16) (hv2 : v2 < 16) (hI : InvX S) : Met l yX4_tellApart wsX4_tellApart ({ frames := 5, cells := 0, slots := 0, locals := 117 } : Room) (va_Pc [.ref (ad 57), .int (nI j), .int (nI v), .int (nI v2)] (PX dC dI ad S)) (va_Qi (fun r S' => (v ≠ v2 ∧ (S.2.1 j).2.2.1 v = (S.2.1 j).2.2.1 v2 ∧ (S.2.1 j).2.2.2.2.1 < 5 ∧ r = nI (coarse (coarseC (S.2.1 j)) (keyApart v v2) 8).2 ∧ ∃ o4, ordOK o4 ∧ S' = xO (xO S 4 o4) j (newO (va_up (S.2.1 j).1 (S.2.1 j).2.2.2.2.1 (coarse (coarseC (S.2.1 j)) (keyApart v v2) 8).2) (va_up (S.2.1 j).2.1 (S.2.1 j).2.2.2.2.1 false) ((S.2.1 j).2.2.2.2.1 + 1) (S.2.1 j).2.2.1 (S.2.1 j).2.2.2.1)) ∨ ((v = v2 ∨ (S.2.1 j).2.2.1 v ≠ (S.2.1 j).2.2.1 v2 ∨ 5 ≤ (S.2.1 j).2.2.2.2.1) ∧ r = -9 ∧ S' = refT S)) (PX dC dI ad) (AX ad)) 0 0 (AX ad) := by
  refine Met.ofW (cc := cX4_tellApart) (maxL := 6) (ret := (some .int)) pl_X4 rfl ?_
  intro p e s m args below meth c s₁ B hml hv
  obtain ⟨rfl, hPX⟩ := hv
  have hx := B.exec
  have hb := B.bytes
  have hr := B.returns
  have hts := atoms_spec (ws := wsX4_tellApart) B.pre
  have hown : s.vm.findClass RX4 = some m.cls := findClass_of_methodNamed B.named
  have hlocks := B.notSynchronized
  have hX := WX.of hPX
  have hl := lv_entry ([.ref (ad 57), .int (nI j), .int (nI v), .int (nI v2)]) (n := 6) (Nat.le_of_ble_eq_true rfl)
  rw [lg_entry_eq]
  generalize (lg_sl ([.ref (ad 57), .int (nI j), .int (nI v), .int (nI v2)]) ++ List.replicate (6 - (lg_sl ([.ref (ad 57), .int (nI j), .int (nI v), .int (nI v2)])).length) Slot.unset).toArray = ls at hl ⊢
  have hl : lv_has ls 6 [(0, .ref (ad 57)), (1, .int (nI j)), (2, .int (nI v)), (3, .int (nI v2))] := hl
  show W p l e ({ frames := 5, cells := 0, slots := 0, locals := 117 } : Room) s m ([.ref (ad 57), .int (nI j), .int (nI v), .int (nI v2)]).toArray below meth c s.heap [] 0 0 (MQ below (va_Qi (fun r S' => (v ≠ v2 ∧ (S.2.1 j).2.2.1 v = (S.2.1 j).2.2.1 v2 ∧ (S.2.1 j).2.2.2.2.1 < 5 ∧ r = nI (coarse (coarseC (S.2.1 j)) (keyApart v v2) 8).2 ∧ ∃ o4, ordOK o4 ∧ S' = xO (xO S 4 o4) j (newO (va_up (S.2.1 j).1 (S.2.1 j).2.2.2.2.1 (coarse (coarseC (S.2.1 j)) (keyApart v v2) 8).2) (va_up (S.2.1 j).2.1 (S.2.1 j).2.2.2.2.1 false) ((S.2.1 j).2.2.2.2.1 + 1) (S.2.1 j).2.2.1 (S.2.1 j).2.2.2.1)) ∨ ((v = v2 ∨ (S.2.1 j).2.2.1 v ≠ (S.2.1 j).2.2.1 v2 ∨ 5 ≤ (S.2.1 j).2.2.2.2.1) ∧ r = -9 ∧ S' = refT S)) (PX dC dI ad) (AX ad)) ([.ref (ad 57), .int (nI j), .int (nI v), .int (nI v2)]).toArray s 0 0 (AX ad)) (F0 m 0 ls [])
  have hn := (hI.2 j (by omega)).1.1
  refine lv_aload_n hx hb dX4_tellApart_0 rfl (lv_at hl 0 rfl) ?_
  refine lv_iload_n hx hb dX4_tellApart_1 rfl (lv_at hl 1 rfl) ?_
  refine va_csr (va_Run.run (va_runV (As := [.int (nI j)]) (rest := []) ⟨hx, hb, hml, hown, hts⟩ (m_X4_orderAt l dC dI ad S j (by omega)) (cwV 1 hts gX4_tellApart_X4_orderAt rfl rfl rfl hdX4_orderAt_1 ⟨Nat.le_of_ble_eq_true rfl, Nat.le_of_ble_eq_true rfl⟩) (hX.preTop 57 6 (by decide) (by decide) rfl rfl) rfl rfl hl.1 rfl (lv_room (Nat.le_of_ble_eq_true rfl)) dX4_tellApart_2 ⟨Nat.le_of_ble_eq_true rfl, Nat.le_of_ble_eq_true rfl⟩)) (fun k_ hk_ => ?_)
  rw [hk_]
  refine lv_astore (lv' := [(4, .ref (ad (24 + 5 * j))), (0, .ref (ad 57)), (1, .int (nI j)), (2, .int (nI v)), (3, .int (nI v2))]) hx hb dX4_tellApart_5 hl (by decide) rfl (fun ls hl => ?_)
  refine lv_iload_n hx hb dX4_tellApart_7 rfl (lv_at hl 3 rfl) ?_
  refine va_csv (va_Run.run (va_runS (As := [.int (nI v)]) (rest := []) ⟨hx, hb, hml, hown, hts⟩ (m_X4_demandValue l dC dI ad S v (by omega)) (va_cwS 1 hts gX4_tellApart_X4_demandValue rfl rfl rfl hdX4_demandValue_1.2 ⟨Nat.le_of_ble_eq_true rfl, Nat.le_of_ble_eq_true rfl⟩) hX.preS rfl rfl hl.1 rfl (lv_room (Nat.le_of_ble_eq_true rfl)) dX4_tellApart_8 ⟨Nat.le_of_ble_eq_true rfl, Nat.le_of_ble_eq_true rfl⟩)) (fun _ => ?_)
  refine lv_iload_n hx hb dX4_tellApart_11 rfl (lv_at hl 4 rfl) ?_
  refine va_csv (va_Run.run (va_runS (As := [.int (nI v2)]) (rest := []) ⟨hx, hb, hml, hown, hts⟩ (m_X4_demandValue l dC dI ad S v2 (by omega)) (va_cwS 1 hts gX4_tellApart_X4_demandValue rfl rfl rfl hdX4_demandValue_1.2 ⟨Nat.le_of_ble_eq_true rfl, Nat.le_of_ble_eq_true rfl⟩) hX.preS rfl rfl hl.1 rfl (lv_room (Nat.le_of_ble_eq_true rfl)) dX4_tellApart_12 ⟨Nat.le_of_ble_eq_true rfl, Nat.le_of_ble_eq_true rfl⟩)) (fun _ => ?_)
  refine lv_iload_n hx hb dX4_tellApart_15 rfl (lv_at hl 3 rfl) ?_
  refine lv_iload_n hx hb dX4_tellApart_16 rfl (lv_at hl 4 rfl) ?_
  refine kn_icmp_eq (tgt := 39) hx hb (by omega) (by omega) dX4_tellApart_17 (by decide) (fun k_1 => ?_) (fun k_1 => ?_)
  · skip
    have ha := k_1
    refine lv_aload_n hx hb dX4_tellApart_39 rfl (lv_at hl 1 rfl) ?_
    refine kx_ci (va_runV (As := []) (rest := []) ⟨hx, hb, hml, hown, hts⟩ (m_X4_refuse l dC dI ad S) (cwV 0 hts gX4_tellApart_X4_refuse rfl rfl rfl hdX4_refuse_0 ⟨Nat.le_of_ble_eq_true rfl, Nat.le_of_ble_eq_true rfl⟩) (hX.preTop 57 6 (by decide) (by decide) rfl rfl) rfl rfl hl.1 rfl (lv_room (Nat.le_of_ble_eq_true rfl)) dX4_tellApart_40 ⟨Nat.le_of_ble_eq_true rfl, Nat.le_of_ble_eq_true rfl⟩) hX (fun _ h => h) (fun r_ S_ H locs hw hX => ?_)
    obtain ⟨rfl, rfl⟩ := hw
    exact W.iret (v := (-9)) hx hb hr (fun t9 ht9 hW9 => ⟨⟨_, (xN S (S.2.2.1, S.2.2.2.1 + 1, S.2.2.2.2)), rfl, (Or.inr ⟨Or.inl ha, rfl, rfl⟩), hX.P ht9 hW9⟩, hX.2.2.2.F ht9⟩) hX.2.2.2.2.2 dX4_tellApart_43
  · skip
    have ha := k_1
    refine lv_aload hx hb dX4_tellApart_20 (lv_at hl 0 rfl) ?_
    refine lv_iload_n hx hb dX4_tellApart_22 rfl (lv_at hl 3 rfl) ?_
    refine lv_iload_n hx hb dX4_tellApart_23 rfl (lv_at hl 4 rfl) ?_
    refine kx_cr (v := cmpI ((S.2.1 j).2.2.1 v) ((S.2.1 j).2.2.1 v2)) (va_runV (As := [.int (nI v), .int (nI v2)]) (rest := []) ⟨hx, hb, hml, hown, hts⟩ (m_X1_compared l dC dI ad S j v v2 (by omega) (hI.2 j (by omega)) (by omega) (by omega)) (cwV 2 hts gX4_tellApart_X1_compared rfl rfl rfl hdX1_compared_2 ⟨Nat.le_of_ble_eq_true rfl, Nat.le_of_ble_eq_true rfl⟩) (hX.preOrd (by omega)) rfl rfl hl.1 rfl (lv_room (Nat.le_of_ble_eq_true rfl)) dX4_tellApart_24 ⟨Nat.le_of_ble_eq_true rfl, Nat.le_of_ble_eq_true rfl⟩) (fun _ h => h) ?_
    refine kc_if_ne (tgt := 39) hx hb dX4_tellApart_27 (by decide) (fun k_2 => ?_) (fun k_2 => ?_)
    · skip
      have hb9 := k_2
      refine lv_aload_n hx hb dX4_tellApart_39 rfl (lv_at hl 1 rfl) ?_
      refine kx_ci (va_runV (As := []) (rest := []) ⟨hx, hb, hml, hown, hts⟩ (m_X4_refuse l dC dI ad S) (cwV 0 hts gX4_tellApart_X4_refuse rfl rfl rfl hdX4_refuse_0 ⟨Nat.le_of_ble_eq_true rfl, Nat.le_of_ble_eq_true rfl⟩) (hX.preTop 57 6 (by decide) (by decide) rfl rfl) rfl rfl hl.1 rfl (lv_room (Nat.le_of_ble_eq_true rfl)) dX4_tellApart_40 ⟨Nat.le_of_ble_eq_true rfl, Nat.le_of_ble_eq_true rfl⟩) hX (fun _ h => h) (fun r_ S_ H locs hw hX => ?_)
      obtain ⟨rfl, rfl⟩ := hw
      exact W.iret (v := (-9)) hx hb hr (fun t9 ht9 hW9 => ⟨⟨_, (xN S (S.2.2.1, S.2.2.2.1 + 1, S.2.2.2.2)), rfl, (Or.inr ⟨Or.inr (Or.inl (hb9)), rfl, rfl⟩), hX.P ht9 hW9⟩, hX.2.2.2.F ht9⟩) hX.2.2.2.2.2 dX4_tellApart_43
    · skip
      have hb9 := k_2
      refine lv_aload hx hb dX4_tellApart_30 (lv_at hl 0 rfl) ?_
      refine kx_cr (v := nI ((S.2.1 j).2.2.2.2.1)) (va_runV (As := []) (rest := []) ⟨hx, hb, hml, hown, hts⟩ (m_X1_length l dC dI ad S j  (by omega)) (cwV 0 hts gX4_tellApart_X1_length rfl rfl rfl hdX1_length_0 ⟨Nat.le_of_ble_eq_true rfl, Nat.le_of_ble_eq_true rfl⟩) (hX.preOrd (by omega)) rfl rfl hl.1 rfl (lv_room (Nat.le_of_ble_eq_true rfl)) dX4_tellApart_32 ⟨Nat.le_of_ble_eq_true rfl, Nat.le_of_ble_eq_true rfl⟩) (fun _ h => h) ?_
      refine lv_iconst (v := nI 5) hx hb dX4_tellApart_35 (by decide) ?_
      refine kn_icmp_lt (tgt := 44) hx hb (by omega) (by omega) dX4_tellApart_36 (by decide) (fun k_3 => ?_) (fun k_3 => ?_)
      · skip
        have hc := k_3
        refine lv_aload_n hx hb dX4_tellApart_44 rfl (lv_at hl 1 rfl) ?_
        refine lv_aload hx hb dX4_tellApart_45 (lv_at hl 0 rfl) ?_
        refine lv_iload_n hx hb dX4_tellApart_47 rfl (lv_at hl 3 rfl) ?_
        refine lv_iload_n hx hb dX4_tellApart_48 rfl (lv_at hl 4 rfl) ?_
        refine kx_ci (va_runV (As := [.ref (ad (24 + 5 * j)), .int (nI v), .int (nI v2)]) (rest := []) ⟨hx, hb, hml, hown, hts⟩ (m_X4_coarsestKey l dC dI ad S j v v2 (by omega) (by omega) (by omega) (by omega) hI) (cwV 3 hts gX4_tellApart_X4_coarsestKey rfl rfl rfl hdX4_coarsestKey_3 ⟨Nat.le_of_ble_eq_true rfl, Nat.le_of_ble_eq_true rfl⟩) (hX.preTop 57 6 (by decide) (by decide) rfl rfl) rfl rfl hl.1 rfl (lv_room (Nat.le_of_ble_eq_true rfl)) dX4_tellApart_49 ⟨Nat.le_of_ble_eq_true rfl, Nat.le_of_ble_eq_true rfl⟩) hX (fun _ h => h) (fun r_ S_ H locs hw hX => ?_)
        obtain ⟨rfl, o4, ho4, rfl⟩ := hw
        obtain ⟨S2, e_S2⟩ : ∃ z, z = (xO S 4 (o4.1, o4.2.1, o4.2.2.1, o4.2.2.2.1, o4.2.2.2.2.1, o4.2.2.2.2.2)) := ⟨_, rfl⟩
        replace hX := WX.eqS e_S2.symm hX
        have hj9 : S2.2.1 j = S.2.1 j := by rw [e_S2, xO_ne _ _ (show j ≠ 4 by omega)]
        have hkk := coarse_lt (coarseC (S.2.1 j)) (keyApart v v2) 8 (Nat.le_refl _)
        refine lv_istore (lv' := [(5, .int (nI ((coarse (coarseC (S.2.1 j)) (keyApart v v2) 8).2))), (4, .ref (ad (24 + 5 * j))), (0, .ref (ad 57)), (1, .int (nI j)), (2, .int (nI v)), (3, .int (nI v2))]) hx hb dX4_tellApart_52 hl (by decide) rfl (fun ls hl => ?_)
        refine lv_aload hx hb dX4_tellApart_54 (lv_at hl 1 rfl) ?_
        refine lv_iload hx hb dX4_tellApart_56 (lv_at hl 0 rfl) ?_
        refine lv_iconst (v := bI false) hx hb dX4_tellApart_58 (by decide) ?_
        refine kx_cv (va_runV (As := [.int (nI ((coarse (coarseC (S.2.1 j)) (keyApart v v2) 8).2)), .int (bI false)]) (rest := []) ⟨hx, hb, hml, hown, hts⟩ (m_X1_append l dC dI ad S2 j ((coarse (coarseC (S.2.1 j)) (keyApart v v2) 8).2) false (by omega) (by rw [hj9]; exact (hI.2 j (by omega)).1) (by rw [hj9]; omega) hkk) (cwV 2 hts gX4_tellApart_X1_append rfl rfl rfl hdX1_append_2 ⟨Nat.le_of_ble_eq_true rfl, Nat.le_of_ble_eq_true rfl⟩) (hX.preOrd (by omega)) rfl rfl hl.1 rfl (lv_room (Nat.le_of_ble_eq_true rfl)) dX4_tellApart_59 ⟨Nat.le_of_ble_eq_true rfl, Nat.le_of_ble_eq_true rfl⟩) hX (fun _ h => h) (fun S_ H locs hw hX => ?_)
        subst hw
        refine lv_iload hx hb dX4_tellApart_62 (lv_at hl 0 rfl) ?_
        exact W.iret (v := nI ((coarse (coarseC (S.2.1 j)) (keyApart v v2) 8).2)) hx hb hr (fun t9 ht9 hW9 => ⟨⟨_, (xO S2 j (va_up ((S2.2.1 j).1) ((S2.2.1 j).2.2.2.2.1) ((coarse (coarseC (S.2.1 j)) (keyApart v v2) 8).2), va_up ((S2.2.1 j).2.1) ((S2.2.1 j).2.2.2.2.1) false, ovl (codeOf (va_up ((S2.2.1 j).1) ((S2.2.1 j).2.2.2.2.1) ((coarse (coarseC (S.2.1 j)) (keyApart v v2) 8).2)) (va_up ((S2.2.1 j).2.1) ((S2.2.1 j).2.2.2.2.1) false) ((S2.2.1 j).2.2.2.2.1 + 1)) ((S2.2.1 j).2.2.1) 16, ovl (rankC (codeOf (va_up ((S2.2.1 j).1) ((S2.2.1 j).2.2.2.2.1) ((coarse (coarseC (S.2.1 j)) (keyApart v v2) 8).2)) (va_up ((S2.2.1 j).2.1) ((S2.2.1 j).2.2.2.2.1) false) ((S2.2.1 j).2.2.2.2.1 + 1))) ((S2.2.1 j).2.2.2.1) 16, (S2.2.1 j).2.2.2.2.1 + 1, classC (codeOf (va_up ((S2.2.1 j).1) ((S2.2.1 j).2.2.2.2.1) ((coarse (coarseC (S.2.1 j)) (keyApart v v2) 8).2)) (va_up ((S2.2.1 j).2.1) ((S2.2.1 j).2.2.2.2.1) false) ((S2.2.1 j).2.2.2.2.1 + 1)))), rfl, (Or.inl ⟨ha, hb9, hc, rfl, o4, ho4, by rw [hj9, e_S2]⟩), hX.P ht9 hW9⟩, hX.2.2.2.F ht9⟩) hX.2.2.2.2.2 dX4_tellApart_64
      · skip
        have hc := k_3
        refine lv_aload_n hx hb dX4_tellApart_39 rfl (lv_at hl 1 rfl) ?_
        refine kx_ci (va_runV (As := []) (rest := []) ⟨hx, hb, hml, hown, hts⟩ (m_X4_refuse l dC dI ad S) (cwV 0 hts gX4_tellApart_X4_refuse rfl rfl rfl hdX4_refuse_0 ⟨Nat.le_of_ble_eq_true rfl, Nat.le_of_ble_eq_true rfl⟩) (hX.preTop 57 6 (by decide) (by decide) rfl rfl) rfl rfl hl.1 rfl (lv_room (Nat.le_of_ble_eq_true rfl)) dX4_tellApart_40 ⟨Nat.le_of_ble_eq_true rfl, Nat.le_of_ble_eq_true rfl⟩) hX (fun _ h => h) (fun r_ S_ H locs hw hX => ?_)
        obtain ⟨rfl, rfl⟩ := hw
        exact W.iret (v := (-9)) hx hb hr (fun t9 ht9 hW9 => ⟨⟨_, (xN S (S.2.2.1, S.2.2.2.1 + 1, S.2.2.2.2)), rfl, (Or.inr ⟨Or.inr (Or.inr (by omega)), rfl, rfl⟩), hX.P ht9 hW9⟩, hX.2.2.2.F ht9⟩) hX.2.2.2.2.2 dX4_tellApart_43
end
section
/-! texts: JDK methods that touch no world -/
theorem pureS {s : State} {H : Heap} {As : List Value} : PreS s H (va_Pc As (fun _ => True)) As := ⟨fun _ _ _ _ h => ⟨h.1, trivial⟩, fun _ _ _ => ⟨rfl, trivial⟩⟩
theorem sb_dg_of {v k : Nat} (hk : 1 ≤ k ∧ k ≤ 9) (h1 : v < 10 ^ k) (h2 : k = 1 ∨ 10 ^ (k - 1) ≤ v) : sb_dg v = k := by
  obtain ⟨a, b⟩ := hk
  rcases (show k = 1 ∨ k = 2 ∨ k = 3 ∨ k = 4 ∨ k = 5 ∨ k = 6 ∨ k = 7 ∨ k = 8 ∨ k = 9 by omega) with rfl | rfl | rfl | rfl | rfl | rfl | rfl | rfl | rfl <;> simp at h1 h2 <;> unfold sb_dg <;> (repeat' split) <;> omega
theorem p10_lt {k : Nat} (hk : k ≤ 9) : 10 ^ k < 2 ^ 31 := by
  have h := Nat.pow_le_pow_right (show 0 < 10 by decide) hk
  have : 10 ^ 9 < 2 ^ 31 := by decide
  omega
theorem sz_mul (k : Nat) : nI 10 * -nI (10 ^ k) = -nI (10 ^ (k + 1)) := by
  rw [Int32.mul_neg, Nat.pow_succ, Nat.mul_comm (10 ^ k) 10]
  show -(Int32.ofNat 10 * Int32.ofNat (10 ^ k)) = -(Int32.ofNat (10 * 10 ^ k))
  rw [Int32.ofNat_mul]
theorem max_nI {a b : Nat} (ha : a < 2 ^ 31) (hb : b < 2 ^ 31) : (if nI a < nI b then nI b else nI a) = nI (max a b) := by
  by_cases h : a < b
  · rw [if_pos (nI_lt h hb), Nat.max_eq_right (Nat.le_of_lt h)]
  · rw [if_neg (nI_nlt (by omega) (by omega)), Nat.max_eq_left (by omega)]
theorem sz_k9 {v k : Nat} (hv : v < 1000000000) (hk : 1 ≤ k ∧ k ≤ 9) (h : -nI v ≤ -nI (10 ^ k)) : 1 ≤ k + 1 ∧ k + 1 ≤ 9 := by
  rw [sb_nle (by omega) (p10_lt hk.2)] at h
  refine ⟨by omega, ?_⟩
  by_cases e : k = 9
  · subst e; omega
  · omega
theorem sz_le9 {v k : Nat} (hv : v < 1000000000) (hk : 1 ≤ k ∧ k ≤ 9) (h : -nI v ≤ -nI (10 ^ k)) : 10 ^ (k + 1 - 1) ≤ v := by
  rw [sb_nle (by omega) (p10_lt hk.2)] at h
  exact h
theorem sz_ret {v k : Nat} (hv : v < 1000000000) (hk : 1 ≤ k ∧ k ≤ 9) (hp : k = 1 ∨ 10 ^ (k - 1) ≤ v) (h : ¬ -nI v ≤ -nI (10 ^ k)) : nI k = nI (sb_dg v) := by
  rw [sb_nle (by omega) (p10_lt hk.2)] at h
  rw [sb_dg_of hk (by omega) hp]
set_option maxHeartbeats 4000000 in
set_option maxRecDepth 100000 in
theorem m_J6_stringSize_0f7a4 (l : Launch) (v : Nat) (hv : v < 1000000000) : Met l yJ6_stringSize_0f7a4 wsJ6_stringSize_0f7a4 ({ frames := 0, cells := 0, slots := 0, locals := 0 } : Room) (va_Pc [.int (nI v)] (fun _ => True)) (vp_Si (fun r => r = nI (sb_dg v))) 0 0 (fun _ => False) := by
  refine ofWF (cc := cJ6_stringSize_0f7a4) (maxL := 4) (ret := (some .int)) (by decide +kernel) rfl ?_
  intro p e s m args below meth c s₁ B hml hv
  obtain ⟨rfl, hPB⟩ := hv
  have hx := B.exec
  have hb := B.bytes
  have hr := B.returns
  have hts := atoms_spec (ws := wsJ6_stringSize_0f7a4) B.pre
  have hown : s.vm.findClass RJ6 = some m.cls := findClass_of_methodNamed B.named
  have hlocks := B.notSynchronized
  have hl := lv_entry ([.int (nI v)]) (n := 4) (Nat.le_of_ble_eq_true rfl)
  rw [lg_entry_eq]
  generalize (lg_sl ([.int (nI v)]) ++ List.replicate (4 - (lg_sl ([.int (nI v)])).length) Slot.unset).toArray = ls at hl ⊢
  have hl : lv_has ls 4 [(0, .int (nI v))] := hl
  show W p l e ({ frames := 0, cells := 0, slots := 0, locals := 0 } : Room) s m ([.int (nI v)]).toArray below meth c s.heap [] 0 0 (MQ below (vp_Si (fun r => r = nI (sb_dg v))) ([.int (nI v)]).toArray s 0 0 (fun _ => False)) (F0 m 0 ls [])
  refine lv_iconst (v := nI 1) hx hb dJ6_stringSize_0f7a4_0 (by decide) ?_
  refine lv_istore_n (lv' := [(1, .int (nI 1)), (0, .int (nI v))]) hx hb dJ6_stringSize_0f7a4_1 rfl hl (by decide) rfl (fun ls hl => ?_)
  refine lv_iload_n hx hb dJ6_stringSize_0f7a4_2 rfl (lv_at hl 1 rfl) ?_
  refine kn_if_lt (tgt := 11) hx hb (by omega) dJ6_stringSize_0f7a4_3 (by decide) ?_
  refine lv_iconst (v := nI 0) hx hb dJ6_stringSize_0f7a4_6 (by decide) ?_
  refine lv_istore_n (lv' := [(1, .int (nI 0)), (0, .int (nI v))]) hx hb dJ6_stringSize_0f7a4_7 rfl hl (by decide) rfl (fun ls hl => ?_)
  refine lv_iload_n hx hb dJ6_stringSize_0f7a4_8 rfl (lv_at hl 1 rfl) ?_
  refine lv_ineg hx hb dJ6_stringSize_0f7a4_9 ?_
  refine lv_istore_n (lv' := [(0, .int (-(nI v))), (1, .int (nI 0))]) hx hb dJ6_stringSize_0f7a4_10 rfl hl (by decide) rfl (fun ls hl => ?_)
  refine lv_bipush (v := -nI (10 ^ 1)) hx hb dJ6_stringSize_0f7a4_11 (by decide) ?_
  refine lv_istore_n (lv' := [(2, .int (-nI (10 ^ 1))), (0, .int (-(nI v))), (1, .int (nI 0))]) hx hb dJ6_stringSize_0f7a4_13 rfl hl (by decide) rfl (fun ls hl => ?_)
  refine lv_iconst (v := nI 1) hx hb dJ6_stringSize_0f7a4_14 (by decide) ?_
  refine lv_istore_n (lv' := [(3, .int (nI 1)), (2, .int (-nI (10 ^ 1))), (0, .int (-(nI v))), (1, .int (nI 0))]) hx hb dJ6_stringSize_0f7a4_15 rfl hl (by decide) rfl (fun ls hl => ?_)
  have loop16 : ∀ (fuel : Nat) (k : Nat) (hk : 1 ≤ k ∧ k ≤ 9) (hp : k = 1 ∨ 10 ^ (k - 1) ≤ v), 10 - k < fuel → ∀ ls : Array Slot, lv_has ls 4 [(0, .int (-nI v)), (1, .int (nI 0)), (2, .int (-nI (10 ^ k))), (3, .int (nI k))] → W p l e ({ frames := 0, cells := 0, slots := 0, locals := 0 } : Room) s m ([.int (nI v)]).toArray below meth c s.heap [] 0 0 (MQ below (vp_Si (fun r => r = nI (sb_dg v))) ([.int (nI v)]).toArray s 0 0 (fun _ => False)) (F0 m 16 ls []) := by
    intro fuel
    induction fuel with
    | zero => intro k hk hp hf; exact absurd hf (Nat.not_lt_zero _)
    | succ fuel ih16 =>
      intro k hk hp hf ls hl
      refine lv_iload_n hx hb dJ6_stringSize_0f7a4_16 rfl (lv_at hl 3 rfl) ?_
      refine lv_bipush (v := nI 10) hx hb dJ6_stringSize_0f7a4_17 (by decide) ?_
      refine kn_icmp_ge (tgt := 42) hx hb (by omega) (by omega) dJ6_stringSize_0f7a4_19 (by decide) (fun k_2 => absurd k_2 (by omega)) (fun k_2 => ?_)
      refine lv_iload_n hx hb dJ6_stringSize_0f7a4_22 rfl (lv_at hl 0 rfl) ?_
      refine lv_iload_n hx hb dJ6_stringSize_0f7a4_23 rfl (lv_at hl 2 rfl) ?_
      refine lv_icmp_le (tgt := 31) hx hb dJ6_stringSize_0f7a4_24 (by decide) (fun k_3 => ?_) (fun k_3 => ?_)
      · skip
        have h9 := k_3
        refine lv_bipush (v := nI 10) hx hb dJ6_stringSize_0f7a4_31 (by decide) ?_
        refine lv_iload_n hx hb dJ6_stringSize_0f7a4_33 rfl (lv_at hl 2 rfl) ?_
        refine lv_imul hx hb dJ6_stringSize_0f7a4_34 ?_
        rw [sz_mul k]
        refine lv_istore_n (lv' := [(2, .int (-nI (10 ^ (k + 1)))), (0, .int (-nI v)), (1, .int (nI 0)), (3, .int (nI k))]) hx hb dJ6_stringSize_0f7a4_35 rfl hl (by decide) rfl (fun ls hl => ?_)
        refine lv_iinc (v := nI (k + 1)) (lv' := [(3, .int (nI (k + 1))), (2, .int (-nI (10 ^ (k + 1)))), (0, .int (-nI v)), (1, .int (nI 0))]) hx hb dJ6_stringSize_0f7a4_36 hl (k := 3) rfl (nI_1 k) (by decide) rfl (fun ls hl => ?_)
        refine lv_goto (tgt := 16) hx hb dJ6_stringSize_0f7a4_39 (by decide) ?_
        exact ih16  (k + 1) (sz_k9 hv hk h9) (Or.inr (sz_le9 hv hk h9)) (by omega) _ (lv_sub hl [2, 3, 1, 0] rfl)
      · skip
        have h9 := k_3
        refine lv_iload_n hx hb dJ6_stringSize_0f7a4_27 rfl (lv_at hl 3 rfl) ?_
        refine lv_iload_n hx hb dJ6_stringSize_0f7a4_28 rfl (lv_at hl 1 rfl) ?_
        refine kn_iadd hx hb dJ6_stringSize_0f7a4_29 ?_
        exact W.iret (v := nI (k + 0)) hx hb hr (fun t9 ht9 hW9 => ⟨_, rfl, (sz_ret hv hk hp h9), ht9⟩) (fun _ h => nomatch h) dJ6_stringSize_0f7a4_30
  exact loop16 (10 + 1) 1 (by omega) (Or.inl rfl) (by omega) _ (lv_sub hl [2, 3, 1, 0] rfl)
set_option maxHeartbeats 4000000 in
set_option maxRecDepth 100000 in
theorem m_J1_canEncode_fc78d (l : Launch) (v : Nat) (hv : v < 256) : Met l yJ1_canEncode_fc78d wsJ1_canEncode_fc78d ({ frames := 0, cells := 0, slots := 0, locals := 0 } : Room) (va_Pc [.int (nI v)] (fun _ => True)) (vp_Si (fun r => r = bI true)) 0 0 (fun _ => False) := by
  refine ofWF (cc := cJ1_canEncode_fc78d) (maxL := 1) (ret := (some .boolean)) (by decide +kernel) rfl ?_
  intro p e s m args below meth c s₁ B hml hv
  obtain ⟨rfl, hPB⟩ := hv
  have hx := B.exec
  have hb := B.bytes
  have hr := B.returns
  have hts := atoms_spec (ws := wsJ1_canEncode_fc78d) B.pre
  have hown : s.vm.findClass RJ1 = some m.cls := findClass_of_methodNamed B.named
  have hlocks := B.notSynchronized
  have hl := lv_entry ([.int (nI v)]) (n := 1) (Nat.le_of_ble_eq_true rfl)
  rw [lg_entry_eq]
  generalize (lg_sl ([.int (nI v)]) ++ List.replicate (1 - (lg_sl ([.int (nI v)])).length) Slot.unset).toArray = ls at hl ⊢
  have hl : lv_has ls 1 [(0, .int (nI v))] := hl
  show W p l e ({ frames := 0, cells := 0, slots := 0, locals := 0 } : Room) s m ([.int (nI v)]).toArray below meth c s.heap [] 0 0 (MQ below (vp_Si (fun r => r = bI true)) ([.int (nI v)]).toArray s 0 0 (fun _ => False)) (F0 m 0 ls [])
  refine lv_iload_n hx hb dJ1_canEncode_fc78d_0 rfl (lv_at hl 0 rfl) ?_
  refine lv_sipush (v := nI 255) hx hb dJ1_canEncode_fc78d_1 (by decide) ?_
  refine kn_icmp_gt (tgt := 11) hx hb (by omega) (by omega) dJ1_canEncode_fc78d_4 (by decide) (fun k_1 => absurd k_1 (by omega)) (fun k_1 => ?_)
  refine lv_iconst (v := bI true) hx hb dJ1_canEncode_fc78d_7 (by decide) ?_
  refine lv_goto (tgt := 12) hx hb dJ1_canEncode_fc78d_8 (by decide) ?_
  exact W.zret (v := bI true) hx hb hr (bI_narrow _) (fun t9 ht9 hW9 => ⟨_, rfl, rfl, ht9⟩) (fun _ h => nomatch h) dJ1_canEncode_fc78d_12
set_option maxHeartbeats 4000000 in
set_option maxRecDepth 100000 in
theorem m_J8_newLength_cabcc (l : Launch) (a b d : Nat) (h1 : a + b < 1000000000) (h2 : a + d < 1000000000) (h3 : 0 < b) : Met l yJ8_newLength_cabcc wsJ8_newLength_cabcc ({ frames := 1, cells := 0, slots := 0, locals := 14 } : Room) (va_Pc [.int (nI a), .int (nI b), .int (nI d)] (fun _ => True)) (vp_Si (fun r => r = nI (a + max b d))) 0 0 (fun _ => False) := by
  refine ofWF (cc := cJ8_newLength_cabcc) (maxL := 4) (ret := (some .int)) (by decide +kernel) rfl ?_
  intro p e s m args below meth c s₁ B hml hv
  obtain ⟨rfl, hPB⟩ := hv
  have hx := B.exec
  have hb := B.bytes
  have hr := B.returns
  have hts := atoms_spec (ws := wsJ8_newLength_cabcc) B.pre
  have hown : s.vm.findClass RJ8 = some m.cls := findClass_of_methodNamed B.named
  have hlocks := B.notSynchronized
  have hl := lv_entry ([.int (nI a), .int (nI b), .int (nI d)]) (n := 4) (Nat.le_of_ble_eq_true rfl)
  rw [lg_entry_eq]
  generalize (lg_sl ([.int (nI a), .int (nI b), .int (nI d)]) ++ List.replicate (4 - (lg_sl ([.int (nI a), .int (nI b), .int (nI d)])).length) Slot.unset).toArray = ls at hl ⊢
  have hl : lv_has ls 4 [(0, .int (nI a)), (1, .int (nI b)), (2, .int (nI d))] := hl
  show W p l e ({ frames := 1, cells := 0, slots := 0, locals := 14 } : Room) s m ([.int (nI a), .int (nI b), .int (nI d)]).toArray below meth c s.heap [] 0 0 (MQ below (vp_Si (fun r => r = nI (a + max b d))) ([.int (nI a), .int (nI b), .int (nI d)]).toArray s 0 0 (fun _ => False)) (F0 m 0 ls [])
  refine lv_iload_n hx hb dJ8_newLength_cabcc_0 rfl (lv_at hl 0 rfl) ?_
  refine lv_iload_n hx hb dJ8_newLength_cabcc_1 rfl (lv_at hl 1 rfl) ?_
  refine lv_iload_n hx hb dJ8_newLength_cabcc_2 rfl (lv_at hl 2 rfl) ?_
  refine va_mmax hx hb (by rw [hml]; exact hl.1.symm) hown (hts (.methodLink RJ8 194 Lib.Math.max.name) (tm 229 (by decide +kernel) rfl)) (hts (.static Lib.Math.max.name) (tm 230 (by decide +kernel) rfl)) (hts (.initialized "java/lang/Math") (tm 152 (by decide +kernel) rfl)) (hts (.code Lib.Math.max.name Lib.Math.max.code 2 (some .int)) (tm 231 (by decide +kernel) rfl)) (Nat.le_of_ble_eq_true rfl) (Nat.le_of_ble_eq_true rfl) (Nat.le_of_ble_eq_true rfl) (Nat.le_of_ble_eq_true rfl) dJ8_newLength_cabcc_3 ?_
  rw [max_nI (a := b) (b := d) (by omega) (by omega)]
  refine kn_iadd hx hb dJ8_newLength_cabcc_6 ?_
  refine lv_istore_n (lv' := [(3, .int (nI (a + (max b d)))), (0, .int (nI a)), (1, .int (nI b)), (2, .int (nI d))]) hx hb dJ8_newLength_cabcc_7 rfl hl (by decide) rfl (fun ls hl => ?_)
  refine lv_iconst (v := nI 0) hx hb dJ8_newLength_cabcc_8 (by decide) ?_
  refine lv_iload_n hx hb dJ8_newLength_cabcc_9 rfl (lv_at hl 0 rfl) ?_
  refine kn_icmp_ge (tgt := 21) hx hb (by omega) (by omega) dJ8_newLength_cabcc_10 (by decide) (fun k_1 => absurd k_1 (by omega)) (fun k_1 => ?_)
  refine lv_iload_n hx hb dJ8_newLength_cabcc_13 rfl (lv_at hl 0 rfl) ?_
  refine lv_ldc (v := nI 2147483639) hx hb hown (hts (.constant RJ8 200 2147483639) (tm 232 (by decide +kernel) rfl)) dJ8_newLength_cabcc_14 ?_
  refine kn_icmp_gt (tgt := 21) hx hb (by omega) (by omega) dJ8_newLength_cabcc_16 (by decide) (fun k_2 => absurd k_2 (by omega)) (fun k_2 => ?_)
  refine lv_iload_n hx hb dJ8_newLength_cabcc_19 rfl (lv_at hl 0 rfl) ?_
  exact W.iret (v := nI (a + (max b d))) hx hb hr (fun t9 ht9 hW9 => ⟨_, rfl, rfl, ht9⟩) (fun _ h => nomatch h) dJ8_newLength_cabcc_20
set_option maxHeartbeats 4000000 in
set_option maxRecDepth 100000 in
theorem m_J7_checkLength_df160 (l : Launch) (a b : Nat) (h1 : a ≤ b) (h2 : b < 1000000000) : Met l yJ7_checkLength_df160 wsJ7_checkLength_df160 ({ frames := 0, cells := 0, slots := 0, locals := 0 } : Room) (va_Pc [.int (nI a), .int (nI b)] (fun _ => True)) (va_Sv (fun _ => True)) 0 0 (fun _ => False) := by
  refine ofWF (cc := cJ7_checkLength_df160) (maxL := 2) (ret := none) (by decide +kernel) rfl ?_
  intro p e s m args below meth c s₁ B hml hv
  obtain ⟨rfl, hPB⟩ := hv
  have hx := B.exec
  have hb := B.bytes
  have hr := B.returns
  have hts := atoms_spec (ws := wsJ7_checkLength_df160) B.pre
  have hown : s.vm.findClass RJ7 = some m.cls := findClass_of_methodNamed B.named
  have hlocks := B.notSynchronized
  have hl := lv_entry ([.int (nI a), .int (nI b)]) (n := 2) (Nat.le_of_ble_eq_true rfl)
  rw [lg_entry_eq]
  generalize (lg_sl ([.int (nI a), .int (nI b)]) ++ List.replicate (2 - (lg_sl ([.int (nI a), .int (nI b)])).length) Slot.unset).toArray = ls at hl ⊢
  have hl : lv_has ls 2 [(0, .int (nI a)), (1, .int (nI b))] := hl
  show W p l e ({ frames := 0, cells := 0, slots := 0, locals := 0 } : Room) s m ([.int (nI a), .int (nI b)]).toArray below meth c s.heap [] 0 0 (MQ below (va_Sv (fun _ => True)) ([.int (nI a), .int (nI b)]).toArray s 0 0 (fun _ => False)) (F0 m 0 ls [])
  refine lv_iload_n hx hb dJ7_checkLength_df160_0 rfl (lv_at hl 1 rfl) ?_
  refine lv_iload_n hx hb dJ7_checkLength_df160_1 rfl (lv_at hl 0 rfl) ?_
  refine kn_icmp_ge (tgt := 37) hx hb (by omega) (by omega) dJ7_checkLength_df160_2 (by decide) (fun k_1 => ?_) (fun k_1 => absurd k_1 (by omega))
  exact W.vret hx hb hr (fun t9 ht9 hW9 => ⟨rfl, trivial, ht9⟩) (fun _ h => nomatch h) dJ7_checkLength_df160_37
end
section
/-! texts: a StringBuilder and its bytes -/
def eSB (b n : Nat) : va_E := .inr (1, [.ref b, .int (nI 0), .int (nI 0), .int (nI n)])
def eBy (cB : ClassId) (m : Nat) (f : Nat → Int32) : va_E := .inl (cB, m, .inl f)
def zB (z q : Nat) : Prop := z ≤ q
def ZBA (A : Nat → Prop) (U : State) (H : Heap) : Prop := va_Z "java/lang/String" "COMPACT_STRINGS" "Z" (.int (nI 1)) A U H ∧ (∃ (t : Nat) (g : Nat → Int32), va_Z "java/lang/Integer" "DigitOnes" "[B" (.ref t) A U H ∧ va_T .byte t 100 (fun j => .int (g j)) A U H) ∧ (∃ (t : Nat) (g : Nat → Int32), va_Z "java/lang/Integer" "DigitTens" "[B" (.ref t) A U H ∧ va_T .byte t 100 (fun j => .int (g j)) A U H) ∧ va_Nw (.castable "[B" "java/lang/Cloneable") U
abbrev ZB (z : Nat) (U : State) (H : Heap) : Prop := ZBA (zB z) U H
theorem ZBA.kept {A : Nat → Prop} {U : State} {H H1 : Heap} (h : ZBA A U H) (hq : ∀ a : Nat, a < H.size → ¬ A a → H1[a]? = H[a]?) : ZBA A U H1 := by
  obtain ⟨h1, ⟨t, g, h2, h3⟩, ⟨t', g', h4, h5⟩, h6⟩ := h
  exact ⟨h1.kept hq, ⟨t, g, h2.kept hq, h3.kept hq⟩, ⟨t', g', h4.kept hq, h5.kept hq⟩, h6⟩
theorem ZBA.warm {A : Nat → Prop} {s U : State} {H : Heap} (hW : s.WarmedH U.vm) (h : ZBA A s H) : ZBA A U H := by
  obtain ⟨h1, ⟨t, g, h2, h3⟩, ⟨t', g', h4, h5⟩, h6⟩ := h
  exact ⟨h1.moved hW.alike, ⟨t, g, h2.moved hW.alike, h3.moved hW.alike⟩, ⟨t', g', h4.moved hW.alike, h5.moved hW.alike⟩, va_Nw.warmC hW h6⟩
theorem ZBA.same {A : Nat → Prop} {s U : State} {H : Heap} (hv : s.vm = U.vm) (h : ZBA A s H) : ZBA A U H := by
  have e : s.vm.Alike U.vm := by rw [hv]; exact Vm.Alike.refl _
  obtain ⟨h1, ⟨t, g, h2, h3⟩, ⟨t', g', h4, h5⟩, h6⟩ := h
  exact ⟨h1.moved e, ⟨t, g, h2.moved e, h3.moved e⟩, ⟨t', g', h4.moved e, h5.moved e⟩, va_Nw.same rfl hv h6⟩
theorem ZBA.narrow {A A' : Nat → Prop} {U : State} {H : Heap} (hn : ∀ q, A' q → A q) (h : ZBA A U H) : ZBA A' U H := by
  obtain ⟨h1, ⟨t, g, h2, h3⟩, ⟨t', g', h4, h5⟩, h6⟩ := h
  exact ⟨h1.narrow hn, ⟨t, g, h2.narrow hn, h3.narrow hn⟩, ⟨t', g', h4.narrow hn, h5.narrow hn⟩, h6⟩
/-- the contract side: a world of its own from address z on -/
def PB (dC : Nat → ClassId) (dI : Nat → Nat → Nat) (cB : ClassId) (z : Nat) (W : va_W) (U : State) : Prop := va_P (dC, dI) vwCl W U.heap ∧ va_K (dC, dI) vwCl [(cB, .byte)] U ∧ va_D (zB z) W ∧ z ≤ U.heap.size ∧ ZB z U U.heap
/-- the walking side -/
def WB (dC : Nat → ClassId) (dI : Nat → Nat → Nat) (cB : ClassId) (z : Nat) (W : va_W) (s : State) (H : Heap) (locs : List Loc) : Prop := va_P (dC, dI) vwCl W H ∧ va_K (dC, dI) vwCl [(cB, .byte)] s ∧ va_D (zB z) W ∧ va_S (zB z) s.heap H locs ∧ z ≤ s.heap.size ∧ ZB z s s.heap
section KB
variable {dC : Nat → ClassId} {dI : Nat → Nat → Nat} {cB : ClassId} {z : Nat} {W : va_W} {s : State} {H : Heap} {locs : List Loc}
theorem WB.of (h : PB dC dI cB z W s) : WB dC dI cB z W s s.heap [] := ⟨h.1, h.2.1, h.2.2.1, va_S.rf, h.2.2.2.1, h.2.2.2.2⟩
theorem WB.P {U : State} (h : WB dC dI cB z W s H locs) (hU : U.heap = H) (hW : s.WarmedH U.vm) : PB dC dI cB z W U := by
  refine ⟨by rw [hU]; exact h.1, va_K.moved hW.alike h.2.1, h.2.2.1, ?_, ?_⟩
  · rw [hU]; exact Nat.le_trans h.2.2.2.2.1 h.2.2.2.1.1
  · rw [hU]; exact (h.2.2.2.2.2.kept h.2.2.2.1.2.1).warm hW
theorem WB.F {t : State} (h : WB dC dI cB z W s H locs) (ht : t.heap = H) : va_F (zB z) s t := h.2.2.2.1.F ht
theorem WB.L (h : WB dC dI cB z W s H locs) : ∀ q ∈ locs, zB z q.base := h.2.2.2.1.2.2
theorem PB.call {U : State} {g : JFrame} {mk : MethodId} {a : Array Value} (h : PB dC dI cB z W U) : PB dC dI cB z W (U.calling g mk a) := ⟨h.1, va_K.moved (u := U) (U := U.calling g mk a) (Vm.Alike.refl U.vm) h.2.1, h.2.2.1, h.2.2.2.1, ZBA.same (s := U) (U := U.calling g mk a) rfl h.2.2.2.2⟩
theorem PB.blind {av : List Value} : FrameBlind (va_Pc av (PB dC dI cB z W)) := fun _ _ _ _ h => ⟨h.1, h.2.call⟩
theorem WB.preV {a : Nat} {fs : List Value} {ci : Nat} {q : vw_C} {As : List Value} (h : WB dC dI cB z W s H locs) (hc : vwCl[ci]? = some q) (k : Nat) (he : W[k]? = some (a, .inr (ci, fs))) : PreV s H q.1 a (va_Pc (Value.ref a :: As) (PB dC dI cB z W)) As :=
  ⟨PB.blind, va_recv h.2.1 h.1 (ci := ci) (q0 := k) hc he, fun _ hU hW => ⟨rfl, h.P hU hW⟩⟩
theorem WB.preS {As : List Value} (h : WB dC dI cB z W s H locs) : PreS s H (va_Pc As (PB dC dI cB z W)) As := ⟨PB.blind, fun _ hU hW => ⟨rfl, h.P hU hW⟩⟩
theorem WB.to {W' : va_W} {H1 : Heap} {locs1 : List Loc} (h : WB dC dI cB z W s H locs) (h1 : va_P (dC, dI) vwCl W' H1) (h2 : va_D (zB z) W') (h3 : va_S (zB z) s.heap H1 locs1) : WB dC dI cB z W' s H1 locs1 := ⟨h1, h.2.1, h2, h3, h.2.2.2.2.1, h.2.2.2.2.2⟩
theorem WB.back {W' : va_W} {t : State} {H1 : Heap} {locs1 : List Loc} (h : WB dC dI cB z W s H locs) (ht : t.heap = H1) (hvm : s.vm.Alike t.vm) (hB : PB dC dI cB z W' t) (hS : va_S (zB z) s.heap H1 locs1) : WB dC dI cB z W' s H1 locs1 := ⟨by rw [← ht]; exact hB.1, h.2.1, hB.2.2.1, hS, h.2.2.2.2.1, h.2.2.2.2.2⟩
end KB
theorem fit_nar (x : Int32) : fits .byte (.int (vp_nar .byte x)) = true := by rw [vp_nar_byte]; exact pk_fb x
section KB2
variable {p : Program} {l : Launch} {e : Env} {R : Room} {s : State} {m : MethodId} {args : Array Value} {below : List Frame} {meth : Method} {c : Code} {H : Heap} {locs : List Loc} {cells slots : Nat} {Q : State → Prop}
variable {cc : ByteArray} {pc : Nat} {ls : Array Slot} {rest st0 : List Value} {dC : Nat → ClassId} {dI : Nat → Nat → Nat} {cB : ClassId} {z : Nat} {G : va_W} {Ts : List Cond} {index a b n k : Nat} {own : String} {mc ms : Nat} {av : Array Value}
theorem kb_put (hx : p.tables.exec = Jvm.exec) (hb : c.code = cc) (hts : ∀ w ∈ Ts, w.before args s = true) (hin : ∀ w ∈ u_ws RJ4 TJ4 4, w ∈ Ts) (hown : s.vm.findClass own = some m.cls) (hB : WB dC dI cB z G s H locs) (q0 : Nat) {fs : List Value} (he : G[q0]? = some (a, .inr (1, fs))) (k : Nat) (hk : k < 4) {ref : String} (hlink : (Cond.fieldLink own index ref (TJ4 k).2.1 (TJ4 k).2.2.1).before args s = true) (hsame : ∀ x, s.fieldFound? (TJ4 k).1 (TJ4 k).2.1 (TJ4 k).2.2.1 = some x → s.fieldFound? ref (TJ4 k).2.1 (TJ4 k).2.2.1 = some x) (hfin : (TJ4 k).2.2.2 = false) {ty : FieldType} {v : Value} (hd : parseFieldDescriptor (TJ4 k).2.2.1 = some ty) (hn : narrow ty v = v) (hfit : fits ty v = true) (hl : k < fs.length) (hdg : decode cc pc = .ok (.putfield index, 3))
    (kk : ∀ (H1 : Heap) (locs1 : List Loc), WB dC dI cB z (G.set q0 (a, .inr (1, fs.set k v))) s H1 locs1 → W p l e R s m args below meth c H1 locs1 cells slots Q (F0 m (pc + 3) ls rest)) : W p l e R s m args below meth c H locs cells slots Q (F0 m pc ls (v :: .ref a :: rest)) :=
  va_put (D := (dC, dI)) (ci := 1) (C := RJ4) (T := TJ4) (N := 4) hx hb hts hin tyJ4 tyJ4_ok nmJ4 hown hB.2.1 hB.1 hB.2.2.1 hB.2.2.2.1 q0 he rfl k hk hlink hsame hfin hd hn hfit hl hdg (fun H1 locs1 h1 h2 h3 => kk H1 locs1 (hB.to h1 h2 h3))
theorem kb_pstr (hx : p.tables.exec = Jvm.exec) (hb : c.code = cc) (hts : ∀ w ∈ Ts, w.before args s = true) (hin : ∀ w ∈ u_ws RJ0 TJ0 4, w ∈ Ts) (hown : s.vm.findClass RJ0 = some m.cls) (hB : WB dC dI cB z G s H locs) (q0 : Nat) {fs : List Value} (he : G[q0]? = some (a, .inr (0, fs))) (k : Nat) (hk : k < 4) (hlink : (Cond.fieldLink RJ0 index RJ0 (TJ0 k).2.1 (TJ0 k).2.2.1).before args s = true) (hsame : ∀ x, s.fieldFound? (TJ0 k).1 (TJ0 k).2.1 (TJ0 k).2.2.1 = some x → s.fieldFound? RJ0 (TJ0 k).2.1 (TJ0 k).2.2.1 = some x) (hfin : (TJ0 k).2.2.2 = true) (hin2 : meth.name = "<init>") (hdecl : (TJ0 k).1 = RJ0) {ty : FieldType} {v : Value} (hd : parseFieldDescriptor (TJ0 k).2.2.1 = some ty) (hn : narrow ty v = v) (hfit : fits ty v = true) (hl : k < fs.length) (hdg : decode cc pc = .ok (.putfield index, 3))
    (kk : ∀ (H1 : Heap) (locs1 : List Loc), WB dC dI cB z (G.set q0 (a, .inr (0, fs.set k v))) s H1 locs1 → W p l e R s m args below meth c H1 locs1 cells slots Q (F0 m (pc + 3) ls rest)) : W p l e R s m args below meth c H locs cells slots Q (F0 m pc ls (v :: .ref a :: rest)) :=
  va_putF (D := (dC, dI)) (ci := 0) (C := RJ0) (T := TJ0) (N := 4) hx hb hts hin tyJ0 tyJ0_ok nmJ0 hown hB.2.1 hB.1 hB.2.2.1 hB.2.2.2.1 q0 he rfl k hk hlink hsame hfin hin2 hdecl hd hn hfit hl hdg (fun H1 locs1 h1 h2 h3 => kk H1 locs1 (hB.to h1 h2 h3))
theorem kb_new (hx : p.tables.exec = Jvm.exec) (hb : c.code = cc) (harr : (Cond.arrayClass .byte).before args s = true) (hB : WB dC dI cB z G s H locs) (hn : n ≤ 65536) (hcells : cells + 1 ≤ R.cells) (hslots : slots + n ≤ R.slots) (hdg : decode cc pc = .ok (.newarray .byte, 2))
    (kk : ∀ (q : Nat) (H1 : Heap), WB dC dI cB z (G ++ [(q, eBy cB n (fun _ => 0))]) s H1 locs → W p l e R s m args below meth c H1 locs (cells + 1) (slots + n) Q (F0 m (pc + 2) ls (.ref q :: rest))) : W p l e R s m args below meth c H locs cells slots Q (F0 m pc ls (.int (nI n) :: rest)) := by
  refine va_newa (atype := .byte) (ty := .byte) (a0 := (n, .inl (fun _ => 0))) hx hb harr rfl hB.2.1 hB.1 hB.2.2.1 hB.2.2.2.1 (fun q hq => Nat.le_trans hB.2.2.2.2.1 hq) (fun cA => ?_) (nI_pos (by omega)) (nI_clamp (by omega)) (by show n * 1 ≤ 536870912; omega) hcells hslots hdg (fun q cA H1 hK1 h1 h2 h3 => ?_)
  · rfl
  · obtain rfl : cA = cB := by
      have e1 := (hK1.2 0 (cB, .byte) rfl).2
      have e2 := (hK1.2 1 (cA, .byte) rfl).2
      exact Option.some.inj (e2.symm.trans e1)
    exact kk q H1 (hB.to h1 h2 h3)
theorem kb_bst (hx : p.tables.exec = Jvm.exec) (hb : c.code = cc) (hB : WB dC dI cB z G s H locs) (q0 : Nat) {f : Nat → Int32} {x : Int32} (ha : G[q0]? = some (a, eBy cB n f)) (hk : k < n) (hn : n ≤ 65536) (hdg : decode cc pc = .ok (.bastore, 1))
    (kk : ∀ (H1 : Heap) (locs1 : List Loc), WB dC dI cB z (G.set q0 (a, eBy cB n (upd f k (vp_nar .byte x)))) s H1 locs1 → W p l e R s m args below meth c H1 locs1 cells slots Q (F0 m (pc + 1) ls rest)) : W p l e R s m args below meth c H locs cells slots Q (F0 m pc ls (.int x :: .int (nI k) :: .ref a :: rest)) :=
  va_bast hx hb hB.2.1 hB.1 hB.2.2.1 hB.2.2.2.1 q0 0 ha rfl (vp_in_nI hk (by omega)) hdg (fun H1 locs1 h1 h2 h3 => kk H1 locs1 (by rw [nI_clamp (by omega)] at h1 h2; exact hB.to h1 h2 h3))
theorem kb_cp (hx : p.tables.exec = Jvm.exec) (hb : c.code = cc) (hml : c.maxLocals = ls.size) (hown : s.vm.findClass own = some m.cls) (hlink : (Cond.methodLink own index arraycopyName).before args s = true) (hnat : (Cond.native arraycopyName).before args s = true) (hstat : (Cond.static arraycopyName).before args s = true) (hini : (Cond.initialized "java/lang/System").before args s = true)
    (hB : WB dC dI cB z G s H locs) (q0 q1 : Nat) {a0 a1 n0 n1 : Nat} {f g : Nat → Int32} (ha0 : G[q0]? = some (a0, eBy cB n0 f)) (ha1 : G[q1]? = some (a1, eBy cB n1 g)) (hf : sb_Fit f) (h4 : n ≤ n0) (h5 : n ≤ n1) (hn : n ≤ 65536) (hframes : 1 ≤ R.frames) (hlocals : (rest.map fun v => v.category).sum + (nativeFrameWords "java/lang/System" "arraycopy" 5 + 11) ≤ R.locals) (hdg : decode cc pc = .ok (.invokestatic index, 3))
    (kk : ∀ (H1 : Heap) (locs1 : List Loc), WB dC dI cB z (G.set q1 (a1, eBy cB n1 (va_cpy f g 0 0 n))) s H1 locs1 → W p l e R s m args below meth c H1 locs1 cells slots Q (F0 m (pc + 3) ls rest)) : W p l e R s m args below meth c H locs cells slots Q (F0 m pc ls (.int (nI n) :: .int (nI 0) :: .ref a1 :: .int (nI 0) :: .ref a0 :: rest)) := by
  have e0 : (nI 0).toNatClampNeg = 0 := nI_clamp (by decide)
  have en : (nI n).toNatClampNeg = n := nI_clamp (by omega)
  refine va_copyi (ty := .byte) hx hb hml hown hlink hnat hstat hini hB.2.1 hB.1 hB.2.2.1 hB.2.2.2.1 q0 q1 0 0 ha0 ha1 rfl rfl rfl (nI_pos (by decide)) (nI_pos (by decide)) (nI_pos (by omega)) (by rw [e0, en]; omega) (by rw [e0, en]; omega) (fun i _ => hf _) hframes hlocals hdg (fun H1 locs1 h1 h2 h3 => kk H1 locs1 ?_)
  rw [e0, en] at h1 h2
  exact hB.to h1 h2 h3
theorem kb_v {S1 : Type} {post : S1 → Prop} {Gf : S1 → va_W} (hr : va_Run p l e R s m args below meth c H locs cells slots mc ms (F0 m pc ls st0) rest (va_Qv post (fun u t => PB dC dI cB z (Gf u) t) (zB z) av) (zB z)) (hB : WB dC dI cB z G s H locs)
    (kk : ∀ (u : S1) (H1 : Heap) (locs1 : List Loc), post u → WB dC dI cB z (Gf u) s H1 locs1 → W p l e R s m args below meth c H1 locs1 (cells + mc) (slots + ms) Q (F0 m (pc + 3) ls rest)) : W p l e R s m args below meth c H locs cells slots Q (F0 m pc ls st0) :=
  va_callv hr hB.2.2.2.1 (fun _ _ h => h) (fun _ h => h) (fun u t H1 locs1 ht hvm hp hb1 _ _ hS => kk u H1 locs1 hp (hB.back ht hvm hb1 hS))
theorem kb_i {S1 : Type} {post : Int32 → S1 → Prop} {Gf : S1 → va_W} (hr : va_Run p l e R s m args below meth c H locs cells slots mc ms (F0 m pc ls st0) rest (va_Qi post (fun u t => PB dC dI cB z (Gf u) t) (zB z) av) (zB z)) (hB : WB dC dI cB z G s H locs)
    (kk : ∀ (r : Int32) (u : S1) (H1 : Heap) (locs1 : List Loc), post r u → WB dC dI cB z (Gf u) s H1 locs1 → W p l e R s m args below meth c H1 locs1 (cells + mc) (slots + ms) Q (F0 m (pc + 3) ls (.int r :: rest))) : W p l e R s m args below meth c H locs cells slots Q (F0 m pc ls st0) :=
  va_calli hr hB.2.2.2.1 (fun _ _ h => h) (fun _ h => h) (fun r u t H1 locs1 ht hvm hp hb1 _ _ hS => kk r u H1 locs1 hp (hB.back ht hvm hb1 hS))
theorem kb_r {S1 : Type} {post : S1 → Prop} {Gf : S1 → Nat → va_W} {ra : S1 → Nat → Prop} (hr : va_Run p l e R s m args below meth c H locs cells slots mc ms (F0 m pc ls st0) rest (va_Qr post (fun u q t => ra u q ∧ PB dC dI cB z (Gf u q) t) (zB z) av) (zB z)) (hB : WB dC dI cB z G s H locs)
    (kk : ∀ (u : S1) (q : Nat) (H1 : Heap) (locs1 : List Loc), post u → ra u q → WB dC dI cB z (Gf u q) s H1 locs1 → W p l e R s m args below meth c H1 locs1 (cells + mc) (slots + ms) Q (F0 m (pc + 3) ls (.ref q :: rest))) : W p l e R s m args below meth c H locs cells slots Q (F0 m pc ls st0) :=
  va_callr hr hB.2.2.2.1 (fun _ _ h => h) (fun _ h => h) (fun u q t H1 locs1 ht hvm hp hb1 _ _ hS => kk u q H1 locs1 hp hb1.1 (hB.back ht hvm hb1.2 hS))
end KB2
end
