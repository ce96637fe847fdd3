/-! sorting by the object; round and round -/
theorem ofWF {l : Launch} {y : MethodName} {ws ws' : List Cond} {rm : Room} {Pc : Array Value → State → Prop} {Qc : Array Value → State → Outcome → State → Prop} {mc ms : Nat} {free : Addr → Prop} {cc : ByteArray} {maxL : Nat} {ret : Option FieldType} (hy : plainFor y = true) (hw : ws = Cond.code y cc maxL ret :: ws') (go : ∀ p e s m args below meth c s₁, BodyLoose p l y (headSpec ws rm) cc maxL ret e s m args below meth c s₁ → c.maxLocals = maxL → Pc args s → W p l e (headSpec ws rm).room s m args below meth c s.heap [] 0 0 (MQ below Qc args s mc ms free) (entryFrame m args maxL)) : Met l y ws rm Pc Qc mc ms free := by
  refine MetFree.of_bodySF (code := cc) (maxLocals := maxL) (ret := ret) hy (fun args s m h hn => ?_) (fun p e s m args below meth c s₁ B hml hP _ => ?_)
  · have h9 := atoms_spec (ws := ws) h _ (hw ▸ List.mem_cons_self)
    obtain ⟨u, c, h1, h2, h3, h4, h5, h6, -, -⟩ := Cond.code_spec hn h9
    exact ⟨u, c, h1, h2, h3, h4, h5, h6⟩
  · obtain ⟨t, g1, o, g2, g3, g4⟩ := go p e s m args below meth c s₁ B hml hP s₁ (by rw [B.state]; rfl) (Stand.of_body B)
    exact ⟨t, o, g1, g2, g3, g4.1, g4.2⟩
theorem xor_sign (x : Int32) {y : Int32} (hy : 0 ≤ y.toInt) : 0 ≤ (x ^^^ y) ↔ 0 ≤ x := by
  have h1 : ∀ z : Int32, z.toBitVec.msb = decide (z.toInt < 0) := fun z => BitVec.msb_eq_toInt
  have h2 := h1 (x ^^^ y)
  rw [Int32.toBitVec_xor, BitVec.msb_xor, h1 x, h1 y, decide_eq_false (show ¬ y.toInt < 0 by omega), Bool.xor_false] at h2
  have h3 := decide_eq_decide.mp h2
  rw [Int32.le_iff_toInt_le, Int32.le_iff_toInt_le, Int32.toInt_zero]
  omega
theorem fm_pos {x : Int32} {k : Nat} (h0 : 0 < k) (hk : k < 2 ^ 31) (h : 0 ≤ (x ^^^ nI k)) : x - x / nI k * nI k = fmv x (nI k) := by
  have hx : 0 ≤ x := (xor_sign x (by rw [nI_toInt hk]; omega)).mp h
  rw [Int32.le_iff_toInt_le, Int32.toInt_zero] at hx
  refine (if_pos ?_).symm
  rw [Int32.le_iff_toInt_le, rem_toInt, Int32.toInt_zero]
  exact Int.tmod_nonneg _ hx
theorem fm_zero {x : Int32} {k : Nat} (h : x - x / nI k * nI k = 0) : x - x / nI k * nI k = fmv x (nI k) := by
  unfold fmv
  rw [h]
  rfl
theorem fm_neg {x : Int32} {k : Nat} (h0 : 0 < k) (hk : k < 2 ^ 31) (h : ¬ 0 ≤ (x ^^^ nI k)) (h2 : ¬ x - x / nI k * nI k = 0) : x - x / nI k * nI k + nI k = fmv x (nI k) := by
  have hx : ¬ 0 ≤ x := fun z => h ((xor_sign x (by rw [nI_toInt hk]; omega)).mpr z)
  rw [Int32.le_iff_toInt_le, Int32.toInt_zero] at hx
  refine (if_neg ?_).symm
  intro z
  rw [Int32.le_iff_toInt_le, Int32.toInt_zero] at z
  apply h2
  apply Int32.toInt_inj.mp
  rw [Int32.toInt_zero]
  have h3 : (x - x / nI k * nI k).toInt ≤ 0 := by
    rw [rem_toInt]
    have h4 := Int.tmod_nonneg (nI k).toInt (a := -x.toInt) (by omega)
    rw [Int.neg_tmod] at h4
    omega
  omega
/-- what sort and sortPart of row i leave as it was -/
def sortA (S S1 : XS) (i : Nat) : Prop := S1.2 = S.2 ∧ (∀ k, k ≠ i → k ≠ 3 → k ≠ 4 → S1.1 k = S.1 k) ∧ rowOK (S1.1 3) ∧ rowOK (S1.1 4) ∧ rowOK (S1.1 i) ∧ (S1.1 i).2.2 = (S.1 i).2.2
theorem sortA_arr {S S2 S3 : XS} {i : Nat} (hI : InvX S) (e : S2 = xR S 4 (ovl (S.1 i).1 (S.1 4).1 (S.1 i).2.2, ovl (S.1 i).2.1 (S.1 4).2.1 (S.1 i).2.2, (S.1 i).2.2)) (h : keepR S2 S3 i (3 + 2 * 0)) (hi : i < 3) : sortA S S3 i := by
  subst e
  refine ⟨h.1, fun k h1 h2 h3 => ?_, h.2.2.1, ?_, h.2.2.2.1, ?_⟩
  · rw [h.2.1 k h1 h2, xR_ne _ _ h3]
  · rw [h.2.1 4 (by omega) (by decide), xR_row]
    exact rowOK_ovl (hI.1 4 (by decide)) (hI.1 i (by omega))
  · rw [h.2.2.2.2, xR_ne _ _ (by omega)]
theorem sortA_ins {S S2 S3 : XS} {i : Nat} (hI : InvX S) (e : S2 = xR S 4 (ovl (S.1 i).1 (S.1 4).1 (S.1 i).2.2, ovl (S.1 i).2.1 (S.1 4).2.1 (S.1 i).2.2, (S.1 i).2.2)) (h : ∃ r' : RowS, S3 = xR S2 i r' ∧ rowOK r' ∧ r'.2.2 = (S2.1 i).2.2) (hi : i < 3) : sortA S S3 i := by
  obtain ⟨r', rfl, h1, h2⟩ := h
  subst e
  refine ⟨rfl, fun k g1 g2 g3 => ?_, ?_, ?_, ?_, ?_⟩
  · rw [xR_ne _ _ g1, xR_ne _ _ g3]
  · rw [xR_ne _ _ (by omega), xR_ne _ _ (by omega)]; exact hI.1 3 (by decide)
  · rw [xR_ne _ _ (by omega), xR_row]; exact rowOK_ovl (hI.1 4 (by decide)) (hI.1 i (by omega))
  · rw [xR_row]; exact h1
  · rw [xR_row, h2, xR_ne _ _ (by omega)]
theorem rowOK_put {r : RowS} (h : rowOK r) {a v u : Nat} (hv : v < 16 ∧ u < 1000000) : rowOK (va_up r.1 a v, va_up r.2.1 a u, r.2.2) :=
  ⟨h.1, fun _ hk => ⟨up_lt (fun q hq => (h.2 q hq).1) hv.1 hk, up_lt (fun q hq => (h.2 q hq).2) hv.2 hk⟩⟩
set_option maxHeartbeats 4000000 in
set_option maxRecDepth 100000 in
theorem m_J9_floorMod (l : Launch) (dC : Nat → ClassId) (dI : Nat → Nat → Nat) (ad : Nat → Nat) (S : XS) (x : Int32) (k : Nat) (h0 : 0 < k) (hk : k < 2 ^ 31) : Met l yJ9_floorMod_7cf53 wsJ9_floorMod_7cf53 ({ frames := 0, cells := 0, slots := 0, locals := 0 } : Room) (va_Pc [.int x, .int (nI k)] (PX dC dI ad S)) (vp_Si (fun r => r = fmv x (nI k))) 0 0 (fun _ => False) := by
  refine ofWF (cc := cJ9_floorMod_7cf53) (maxL := 3) (ret := (some .int)) (by decide +kernel) rfl ?_
  intro p e s m args below meth c s₁ B hml hv
  obtain ⟨rfl, hPX⟩ := hv
  have hx := B.exec
  have hb := B.bytes
  have hr := B.returns
  have hts := atoms_spec (ws := wsJ9_floorMod_7cf53) B.pre
  have hown : s.vm.findClass RJ9 = some m.cls := findClass_of_methodNamed B.named
  have hlocks := B.notSynchronized
  have hX := WX.of hPX
  have hl := lv_entry ([.int x, .int (nI k)]) (n := 3) (Nat.le_of_ble_eq_true rfl)
  rw [lg_entry_eq]
  generalize (lg_sl ([.int x, .int (nI k)]) ++ List.replicate (3 - (lg_sl ([.int x, .int (nI k)])).length) Slot.unset).toArray = ls at hl ⊢
  have hl : lv_has ls 3 [(0, .int x), (1, .int (nI k))] := hl
  show W p l e ({ frames := 0, cells := 0, slots := 0, locals := 0 } : Room) s m ([.int x, .int (nI k)]).toArray below meth c s.heap [] 0 0 (MQ below (vp_Si (fun r => r = fmv x (nI k))) ([.int x, .int (nI k)]).toArray s 0 0 (fun _ => False)) (F0 m 0 ls [])
  have hy0 := nI_ne0 h0 hk
  refine lv_iload_n hx hb dJ9_floorMod_7cf53_0 rfl (lv_at hl 0 rfl) ?_
  refine lv_iload_n hx hb dJ9_floorMod_7cf53_1 rfl (lv_at hl 1 rfl) ?_
  refine lv_irem hx hb dJ9_floorMod_7cf53_2 hy0 ?_
  refine lv_istore_n (lv' := [(2, .int (x - x / (nI k) * (nI k))), (0, .int x), (1, .int (nI k))]) hx hb dJ9_floorMod_7cf53_3 rfl hl (by decide) rfl (fun ls hl => ?_)
  refine lv_iload_n hx hb dJ9_floorMod_7cf53_4 rfl (lv_at hl 1 rfl) ?_
  refine lv_iload_n hx hb dJ9_floorMod_7cf53_5 rfl (lv_at hl 2 rfl) ?_
  refine lv_ixor hx hb dJ9_floorMod_7cf53_6 ?_
  refine lv_if_ge (tgt := 18) hx hb dJ9_floorMod_7cf53_7 (by decide) (fun k_1 => ?_) (fun k_1 => ?_)
  · skip
    have h1 := k_1
    refine lv_iload_n hx hb dJ9_floorMod_7cf53_18 rfl (lv_at hl 0 rfl) ?_
    exact W.iret (v := (x - x / (nI k) * (nI k))) hx hb hr (fun t9 ht9 hW9 => ⟨_, rfl, (fm_pos h0 hk h1), ht9⟩) (fun _ h => nomatch h) dJ9_floorMod_7cf53_19
  · skip
    have h1 := k_1
    refine lv_iload_n hx hb dJ9_floorMod_7cf53_10 rfl (lv_at hl 0 rfl) ?_
    refine lv_if_eq (tgt := 18) hx hb dJ9_floorMod_7cf53_11 (by decide) (fun k_2 => ?_) (fun k_2 => ?_)
    · skip
      have h2 := k_2
      refine lv_iload_n hx hb dJ9_floorMod_7cf53_18 rfl (lv_at hl 0 rfl) ?_
      exact W.iret (v := (x - x / (nI k) * (nI k))) hx hb hr (fun t9 ht9 hW9 => ⟨_, rfl, (fm_zero h2), ht9⟩) (fun _ h => nomatch h) dJ9_floorMod_7cf53_19
    · skip
      have h2 := k_2
      refine lv_iload_n hx hb dJ9_floorMod_7cf53_14 rfl (lv_at hl 0 rfl) ?_
      refine lv_iload_n hx hb dJ9_floorMod_7cf53_15 rfl (lv_at hl 2 rfl) ?_
      refine lv_iadd hx hb dJ9_floorMod_7cf53_16 ?_
      exact W.iret (v := ((x - x / (nI k) * (nI k)) + nI k)) hx hb hr (fun t9 ht9 hW9 => ⟨_, rfl, (fm_neg h0 hk h1 h2), ht9⟩) (fun _ h => nomatch h) dJ9_floorMod_7cf53_17
set_option maxHeartbeats 4000000 in
set_option maxRecDepth 100000 in
theorem m_X4_sort (l : Launch) (dC : Nat → ClassId) (dI : Nat → Nat → Nat) (ad : Nat → Nat) (S : XS) (i : Nat) (j : Nat) (k : Nat) (hi : i < 3) (hj : j < 4) (hk : k ≤ 2) (hI : InvX S) : Met l yX4_sort wsX4_sort ({ frames := 4, cells := 0, slots := 0, locals := 105 } : Room) (va_Pc [.ref (ad 57), .int (nI i), .int (nI j), .int (nI k)] (PX dC dI ad S)) (va_Qi (fun r S' => (∃ x, r = nI x) ∧ sortA S S' i) (PX dC dI ad) (AX ad)) 0 0 (AX ad) := by
  refine Met.ofW (cc := cX4_sort) (maxL := 6) (ret := (some .int)) pl_X4 rfl ?_
  intro p e s m args below meth c s₁ B hml hv
  obtain ⟨rfl, hPX⟩ := hv
  have hx := B.exec
  have hb := B.bytes
  have hr := B.returns
  have hts := atoms_spec (ws := wsX4_sort) B.pre
  have hown : s.vm.findClass RX4 = some m.cls := findClass_of_methodNamed B.named
  have hlocks := B.notSynchronized
  have hin4 : ∀ w ∈ u_ws RX4 TX4 9, w ∈ wsX4_sort := tu 1328 (by decide +kernel) rfl
  have hX := WX.of hPX
  have hl := lv_entry ([.ref (ad 57), .int (nI i), .int (nI j), .int (nI k)]) (n := 6) (Nat.le_of_ble_eq_true rfl)
  rw [lg_entry_eq]
  generalize (lg_sl ([.ref (ad 57), .int (nI i), .int (nI j), .int (nI k)]) ++ List.replicate (6 - (lg_sl ([.ref (ad 57), .int (nI i), .int (nI j), .int (nI k)])).length) Slot.unset).toArray = ls at hl ⊢
  have hl : lv_has ls 6 [(0, .ref (ad 57)), (1, .int (nI i)), (2, .int (nI j)), (3, .int (nI k))] := hl
  show W p l e ({ frames := 4, cells := 0, slots := 0, locals := 105 } : Room) s m ([.ref (ad 57), .int (nI i), .int (nI j), .int (nI k)]).toArray below meth c s.heap [] 0 0 (MQ below (va_Qi (fun r S' => (∃ x, r = nI x) ∧ sortA S S' i) (PX dC dI ad) (AX ad)) ([.ref (ad 57), .int (nI i), .int (nI j), .int (nI k)]).toArray s 0 0 (AX ad)) (F0 m 0 ls [])
  have hn := (hI.1 i (by omega)).1
  refine lv_aload_n hx hb dX4_sort_0 rfl (lv_at hl 0 rfl) ?_
  refine lv_iload_n hx hb dX4_sort_1 rfl (lv_at hl 1 rfl) ?_
  refine va_csr (va_Run.run (va_runV (As := [.int (nI i)]) (rest := []) ⟨hx, hb, hml, hown, hts⟩ (m_X4_rowAt l dC dI ad S i (by omega)) (cwV 1 hts gX4_sort_X4_rowAt rfl rfl rfl hdX4_rowAt_1 ⟨Nat.le_of_ble_eq_true rfl, Nat.le_of_ble_eq_true rfl⟩) (hX.preTop 57 6 (by decide) (by decide) rfl rfl) rfl rfl hl.1 rfl (lv_room (Nat.le_of_ble_eq_true rfl)) dX4_sort_2 ⟨Nat.le_of_ble_eq_true rfl, Nat.le_of_ble_eq_true rfl⟩)) (fun k_ hk_ => ?_)
  rw [hk_]
  refine lv_astore (lv' := [(4, .ref (ad (3 * i))), (0, .ref (ad 57)), (1, .int (nI i)), (2, .int (nI j)), (3, .int (nI k))]) hx hb dX4_sort_5 hl (by decide) rfl (fun ls hl => ?_)
  refine lv_aload_n hx hb dX4_sort_7 rfl (lv_at hl 1 rfl) ?_
  refine lv_iload_n hx hb dX4_sort_8 rfl (lv_at hl 3 rfl) ?_
  refine va_csr (va_Run.run (va_runV (As := [.int (nI j)]) (rest := []) ⟨hx, hb, hml, hown, hts⟩ (m_X4_orderAt l dC dI ad S j (by omega)) (cwV 1 hts gX4_sort_X4_orderAt rfl rfl rfl hdX4_orderAt_1 ⟨Nat.le_of_ble_eq_true rfl, Nat.le_of_ble_eq_true rfl⟩) (hX.preTop 57 6 (by decide) (by decide) rfl rfl) rfl rfl hl.1 rfl (lv_room (Nat.le_of_ble_eq_true rfl)) dX4_sort_9 ⟨Nat.le_of_ble_eq_true rfl, Nat.le_of_ble_eq_true rfl⟩)) (fun k_ hk_ => ?_)
  rw [hk_]
  refine lv_astore (lv' := [(5, .ref (ad (24 + 5 * j))), (4, .ref (ad (3 * i))), (0, .ref (ad 57)), (1, .int (nI i)), (2, .int (nI j)), (3, .int (nI k))]) hx hb dX4_sort_12 hl (by decide) rfl (fun ls hl => ?_)
  refine lv_iload_n hx hb dX4_sort_14 rfl (lv_at hl 5 rfl) ?_
  refine lv_iconst (v := nI 2) hx hb dX4_sort_15 (by decide) ?_
  refine va_csv (va_Run.run (va_runS (As := [.int (nI k), .int (nI 2)]) (rest := []) ⟨hx, hb, hml, hown, hts⟩ (m_X4_demandWithin l dC dI ad S k 2 (by omega) (by omega)) (va_cwS 2 hts gX4_sort_X4_demandWithin rfl rfl rfl hdX4_demandWithin_2.2 ⟨Nat.le_of_ble_eq_true rfl, Nat.le_of_ble_eq_true rfl⟩) hX.preS rfl rfl hl.1 rfl (lv_room (Nat.le_of_ble_eq_true rfl)) dX4_sort_16 ⟨Nat.le_of_ble_eq_true rfl, Nat.le_of_ble_eq_true rfl⟩)) (fun _ => ?_)
  refine lv_aload_n hx hb dX4_sort_19 rfl (lv_at hl 2 rfl) ?_
  refine kx_gspareRow hx hb hts hin4 hown hX (hts (.fieldLink RX4 36 "Orderlattice" "spareRow" "LOrderlattice$Row;") (tm 453 (by decide +kernel) rfl)) dX4_sort_20 ?_
  refine lv_aload hx hb dX4_sort_23 (lv_at hl 1 rfl) ?_
  refine kx_cv (va_runV (As := [.ref (ad (3 * i))]) (rest := []) ⟨hx, hb, hml, hown, hts⟩ (m_X2_becomeCopyOf l dC dI ad S 4 i (by omega) (by omega) (by omega)) (cwV 1 hts gX4_sort_X2_becomeCopyOf rfl rfl rfl hdX2_becomeCopyOf_1 ⟨Nat.le_of_ble_eq_true rfl, Nat.le_of_ble_eq_true rfl⟩) (hX.preRow (by omega)) rfl rfl hl.1 rfl (lv_room (Nat.le_of_ble_eq_true rfl)) dX4_sort_25 ⟨Nat.le_of_ble_eq_true rfl, Nat.le_of_ble_eq_true rfl⟩) hX (fun _ h => h) (fun S_ H locs hw hX => ?_)
  subst hw
  obtain ⟨S2, e_S2⟩ : ∃ z, z = (xR S 4 (ovl ((S.1 i).1) ((S.1 4).1) ((S.1 i).2.2), ovl ((S.1 i).2.1) ((S.1 4).2.1) ((S.1 i).2.2), (S.1 i).2.2)) := ⟨_, rfl⟩
  replace hX := WX.eqS e_S2.symm hX
  have hI2 : InvX S2 := by rw [e_S2]; exact InvX_row hI (rowOK_ovl (hI.1 4 (by decide)) (hI.1 i (by omega)))
  refine lv_aload_n hx hb dX4_sort_28 rfl (lv_at hl 2 rfl) ?_
  refine kx_gsorter hx hb hts hin4 hown hX (hts (.fieldLink RX4 24 "Orderlattice" "sorter" "LOrderlattice$Sorter;") (tm 449 (by decide +kernel) rfl)) dX4_sort_29 ?_
  refine lv_aload hx hb dX4_sort_32 (lv_at hl 1 rfl) ?_
  refine lv_aload hx hb dX4_sort_34 (lv_at hl 0 rfl) ?_
  refine lv_iload_n hx hb dX4_sort_36 rfl (lv_at hl 5 rfl) ?_
  refine kx_cv (va_runV (As := [.ref (ad (3 * i)), .ref (ad (24 + 5 * j)), .int (nI k)]) (rest := []) ⟨hx, hb, hml, hown, hts⟩ (m_X3_arrangeAll l dC dI ad S2 0 i j k (by decide) (by omega) (by omega) (hI2.1 i (by omega)) (hI2.2 j (by omega)) (show i ≠ 3 by omega) (hI2.1 3 (by decide)) (by omega)) (cwV 3 hts gX4_sort_X3_arrangeAll rfl rfl rfl hdX3_arrangeAll_3 ⟨Nat.le_of_ble_eq_true rfl, Nat.le_of_ble_eq_true rfl⟩) (hX.preSor (by omega)) rfl rfl hl.1 rfl (lv_room (Nat.le_of_ble_eq_true rfl)) dX4_sort_37 ⟨Nat.le_of_ble_eq_true rfl, Nat.le_of_ble_eq_true rfl⟩) hX (fun _ h => h) (fun S3 H locs hw hX => ?_)
  have hA := sortA_arr hI e_S2 hw (by omega)
  refine lv_aload hx hb dX4_sort_40 (lv_at hl 1 rfl) ?_
  refine lv_aload_n hx hb dX4_sort_42 rfl (lv_at hl 2 rfl) ?_
  refine kx_gspareRow hx hb hts hin4 hown hX (hts (.fieldLink RX4 36 "Orderlattice" "spareRow" "LOrderlattice$Row;") (tm 453 (by decide +kernel) rfl)) dX4_sort_43 ?_
  refine kx_cr (v := nI (cntB (fun k => decide ((S3.1 i).2.1 k ≠ (S3.1 4).2.1 k)) (S3.1 i).2.2)) (va_runV (As := [.ref (ad (3 * 4))]) (rest := []) ⟨hx, hb, hml, hown, hts⟩ (m_X2_placesUnlike l dC dI ad S3 i 4 (by omega) (by omega) hA.2.2.2.2.1 hA.2.2.2.1) (cwV 1 hts gX4_sort_X2_placesUnlike rfl rfl rfl hdX2_placesUnlike_1 ⟨Nat.le_of_ble_eq_true rfl, Nat.le_of_ble_eq_true rfl⟩) (hX.preRow (by omega)) rfl rfl hl.1 rfl (lv_room (Nat.le_of_ble_eq_true rfl)) dX4_sort_46 ⟨Nat.le_of_ble_eq_true rfl, Nat.le_of_ble_eq_true rfl⟩) (fun _ h => h) ?_
  exact W.iret (v := nI (cntB (fun k => decide ((S3.1 i).2.1 k ≠ (S3.1 4).2.1 k)) (S3.1 i).2.2)) hx hb hr (fun t9 ht9 hW9 => ⟨⟨_, S3, rfl, ⟨⟨_, rfl⟩, hA⟩, hX.P ht9 hW9⟩, hX.2.2.2.F ht9⟩) hX.2.2.2.2.2 dX4_sort_49
set_option maxHeartbeats 4000000 in
set_option maxRecDepth 100000 in
theorem m_X4_sortPart (l : Launch) (dC : Nat → ClassId) (dI : Nat → Nat → Nat) (ad : Nat → Nat) (S : XS) (i : Nat) (j : Nat) (q : Nat) (q2 : Nat) (hi : i < 3) (hj : j < 4) (hq : q ≤ (S.1 i).2.2) (hq2 : q2 ≤ (S.1 i).2.2) (hqq : q ≤ q2) (hI : InvX S) : Met l yX4_sortPart wsX4_sortPart ({ frames := 3, cells := 0, slots := 0, locals := 73 } : Room) (va_Pc [.ref (ad 57), .int (nI i), .int (nI j), .int (nI q), .int (nI q2)] (PX dC dI ad S)) (va_Qi (fun r S' => (∃ x, r = nI x) ∧ sortA S S' i) (PX dC dI ad) (AX ad)) 0 0 (AX ad) := by
  refine Met.ofW (cc := cX4_sortPart) (maxL := 7) (ret := (some .int)) pl_X4 rfl ?_
  intro p e s m args below meth c s₁ B hml hv
  obtain ⟨rfl, hPX⟩ := hv
  have hx := B.exec
  have hb := B.bytes
  have hr := B.returns
  have hts := atoms_spec (ws := wsX4_sortPart) B.pre
  have hown : s.vm.findClass RX4 = some m.cls := findClass_of_methodNamed B.named
  have hlocks := B.notSynchronized
  have hin4 : ∀ w ∈ u_ws RX4 TX4 9, w ∈ wsX4_sortPart := tu 1328 (by decide +kernel) rfl
  have hX := WX.of hPX
  have hl := lv_entry ([.ref (ad 57), .int (nI i), .int (nI j), .int (nI q), .int (nI q2)]) (n := 7) (Nat.le_of_ble_eq_true rfl)
  rw [lg_entry_eq]
  generalize (lg_sl ([.ref (ad 57), .int (nI i), .int (nI j), .int (nI q), .int (nI q2)]) ++ List.replicate (7 - (lg_sl ([.ref (ad 57), .int (nI i), .int (nI j), .int (nI q), .int (nI q2)])).length) Slot.unset).toArray = ls at hl ⊢
  have hl : lv_has ls 7 [(0, .ref (ad 57)), (1, .int (nI i)), (2, .int (nI j)), (3, .int (nI q)), (4, .int (nI q2))] := hl
  show W p l e ({ frames := 3, cells := 0, slots := 0, locals := 73 } : Room) s m ([.ref (ad 57), .int (nI i), .int (nI j), .int (nI q), .int (nI q2)]).toArray below meth c s.heap [] 0 0 (MQ below (va_Qi (fun r S' => (∃ x, r = nI x) ∧ sortA S S' i) (PX dC dI ad) (AX ad)) ([.ref (ad 57), .int (nI i), .int (nI j), .int (nI q), .int (nI q2)]).toArray s 0 0 (AX ad)) (F0 m 0 ls [])
  have hn := (hI.1 i (by omega)).1
  refine lv_aload_n hx hb dX4_sortPart_0 rfl (lv_at hl 0 rfl) ?_
  refine lv_iload_n hx hb dX4_sortPart_1 rfl (lv_at hl 1 rfl) ?_
  refine va_csr (va_Run.run (va_runV (As := [.int (nI i)]) (rest := []) ⟨hx, hb, hml, hown, hts⟩ (m_X4_rowAt l dC dI ad S i (by omega)) (cwV 1 hts gX4_sortPart_X4_rowAt rfl rfl rfl hdX4_rowAt_1 ⟨Nat.le_of_ble_eq_true rfl, Nat.le_of_ble_eq_true rfl⟩) (hX.preTop 57 6 (by decide) (by decide) rfl rfl) rfl rfl hl.1 rfl (lv_room (Nat.le_of_ble_eq_true rfl)) dX4_sortPart_2 ⟨Nat.le_of_ble_eq_true rfl, Nat.le_of_ble_eq_true rfl⟩)) (fun k_ hk_ => ?_)
  rw [hk_]
  refine lv_astore (lv' := [(5, .ref (ad (3 * i))), (0, .ref (ad 57)), (1, .int (nI i)), (2, .int (nI j)), (3, .int (nI q)), (4, .int (nI q2))]) hx hb dX4_sortPart_5 hl (by decide) rfl (fun ls hl => ?_)
  refine lv_aload_n hx hb dX4_sortPart_7 rfl (lv_at hl 1 rfl) ?_
  refine lv_iload_n hx hb dX4_sortPart_8 rfl (lv_at hl 3 rfl) ?_
  refine va_csr (va_Run.run (va_runV (As := [.int (nI j)]) (rest := []) ⟨hx, hb, hml, hown, hts⟩ (m_X4_orderAt l dC dI ad S j (by omega)) (cwV 1 hts gX4_sortPart_X4_orderAt rfl rfl rfl hdX4_orderAt_1 ⟨Nat.le_of_ble_eq_true rfl, Nat.le_of_ble_eq_true rfl⟩) (hX.preTop 57 6 (by decide) (by decide) rfl rfl) rfl rfl hl.1 rfl (lv_room (Nat.le_of_ble_eq_true rfl)) dX4_sortPart_9 ⟨Nat.le_of_ble_eq_true rfl, Nat.le_of_ble_eq_true rfl⟩)) (fun k_ hk_ => ?_)
  rw [hk_]
  refine lv_astore (lv' := [(6, .ref (ad (24 + 5 * j))), (5, .ref (ad (3 * i))), (0, .ref (ad 57)), (1, .int (nI i)), (2, .int (nI j)), (3, .int (nI q)), (4, .int (nI q2))]) hx hb dX4_sortPart_12 hl (by decide) rfl (fun ls hl => ?_)
  refine lv_aload hx hb dX4_sortPart_14 (lv_at hl 1 rfl) ?_
  refine lv_iload_n hx hb dX4_sortPart_16 rfl (lv_at hl 5 rfl) ?_
  refine va_csv (va_Run.run (va_runS (As := [.ref (ad (3 * i)), .int (nI q)]) (rest := []) ⟨hx, hb, hml, hown, hts⟩ (m_X4_demandGap l dC dI ad S i q (by omega) (by omega) (by omega)) (va_cwS 2 hts gX4_sortPart_X4_demandGap rfl rfl rfl hdX4_demandGap_2.2 ⟨Nat.le_of_ble_eq_true rfl, Nat.le_of_ble_eq_true rfl⟩) hX.preS rfl rfl hl.1 rfl (lv_room (Nat.le_of_ble_eq_true rfl)) dX4_sortPart_17 ⟨Nat.le_of_ble_eq_true rfl, Nat.le_of_ble_eq_true rfl⟩)) (fun _ => ?_)
  refine lv_aload hx hb dX4_sortPart_20 (lv_at hl 1 rfl) ?_
  refine lv_iload hx hb dX4_sortPart_22 (lv_at hl 6 rfl) ?_
  refine va_csv (va_Run.run (va_runS (As := [.ref (ad (3 * i)), .int (nI q2)]) (rest := []) ⟨hx, hb, hml, hown, hts⟩ (m_X4_demandGap l dC dI ad S i q2 (by omega) (by omega) (by omega)) (va_cwS 2 hts gX4_sortPart_X4_demandGap rfl rfl rfl hdX4_demandGap_2.2 ⟨Nat.le_of_ble_eq_true rfl, Nat.le_of_ble_eq_true rfl⟩) hX.preS rfl rfl hl.1 rfl (lv_room (Nat.le_of_ble_eq_true rfl)) dX4_sortPart_24 ⟨Nat.le_of_ble_eq_true rfl, Nat.le_of_ble_eq_true rfl⟩)) (fun _ => ?_)
  refine lv_iload_n hx hb dX4_sortPart_27 rfl (lv_at hl 5 rfl) ?_
  refine lv_iload hx hb dX4_sortPart_28 (lv_at hl 6 rfl) ?_
  refine kn_icmp_le (tgt := 43) hx hb (by omega) (by omega) dX4_sortPart_30 (by decide) (fun k_1 => ?_) (fun k_1 => absurd k_1 (by omega))
  refine lv_aload_n hx hb dX4_sortPart_43 rfl (lv_at hl 2 rfl) ?_
  refine kx_gspareRow hx hb hts hin4 hown hX (hts (.fieldLink RX4 36 "Orderlattice" "spareRow" "LOrderlattice$Row;") (tm 453 (by decide +kernel) rfl)) dX4_sortPart_44 ?_
  refine lv_aload hx hb dX4_sortPart_47 (lv_at hl 1 rfl) ?_
  refine kx_cv (va_runV (As := [.ref (ad (3 * i))]) (rest := []) ⟨hx, hb, hml, hown, hts⟩ (m_X2_becomeCopyOf l dC dI ad S 4 i (by omega) (by omega) (by omega)) (cwV 1 hts gX4_sortPart_X2_becomeCopyOf rfl rfl rfl hdX2_becomeCopyOf_1 ⟨Nat.le_of_ble_eq_true rfl, Nat.le_of_ble_eq_true rfl⟩) (hX.preRow (by omega)) rfl rfl hl.1 rfl (lv_room (Nat.le_of_ble_eq_true rfl)) dX4_sortPart_49 ⟨Nat.le_of_ble_eq_true rfl, Nat.le_of_ble_eq_true rfl⟩) hX (fun _ h => h) (fun S_ H locs hw hX => ?_)
  subst hw
  obtain ⟨S2, e_S2⟩ : ∃ z, z = (xR S 4 (ovl ((S.1 i).1) ((S.1 4).1) ((S.1 i).2.2), ovl ((S.1 i).2.1) ((S.1 4).2.1) ((S.1 i).2.2), (S.1 i).2.2)) := ⟨_, rfl⟩
  replace hX := WX.eqS e_S2.symm hX
  have hI2 : InvX S2 := by rw [e_S2]; exact InvX_row hI (rowOK_ovl (hI.1 4 (by decide)) (hI.1 i (by omega)))
  refine lv_aload_n hx hb dX4_sortPart_52 rfl (lv_at hl 2 rfl) ?_
  refine kx_gsorter hx hb hts hin4 hown hX (hts (.fieldLink RX4 24 "Orderlattice" "sorter" "LOrderlattice$Sorter;") (tm 449 (by decide +kernel) rfl)) dX4_sortPart_53 ?_
  refine lv_aload hx hb dX4_sortPart_56 (lv_at hl 1 rfl) ?_
  refine lv_aload hx hb dX4_sortPart_58 (lv_at hl 0 rfl) ?_
  refine lv_iload_n hx hb dX4_sortPart_60 rfl (lv_at hl 5 rfl) ?_
  refine lv_iload hx hb dX4_sortPart_61 (lv_at hl 6 rfl) ?_
  refine kx_cv (va_runV (As := [.ref (ad (3 * i)), .ref (ad (24 + 5 * j)), .int (nI q), .int (nI q2)]) (rest := []) ⟨hx, hb, hml, hown, hts⟩ (m_X3_insertEach l dC dI ad S2 0 i j q q2 (by decide) (by omega) (by omega) (hI2.1 i (by omega)) (hI2.2 j (by omega)) (by omega) (by rw [e_S2, xR_ne _ _ (show i ≠ 4 by omega)]; omega)) (cwV 4 hts gX4_sortPart_X3_insertEach rfl rfl rfl hdX3_insertEach_4 ⟨Nat.le_of_ble_eq_true rfl, Nat.le_of_ble_eq_true rfl⟩) (hX.preSor (by omega)) rfl rfl hl.1 rfl (lv_room (Nat.le_of_ble_eq_true rfl)) dX4_sortPart_63 ⟨Nat.le_of_ble_eq_true rfl, Nat.le_of_ble_eq_true rfl⟩) hX (fun _ h => h) (fun S3 H locs hw hX => ?_)
  have hA := sortA_ins hI e_S2 hw (by omega)
  refine lv_aload hx hb dX4_sortPart_66 (lv_at hl 1 rfl) ?_
  refine lv_aload_n hx hb dX4_sortPart_68 rfl (lv_at hl 2 rfl) ?_
  refine kx_gspareRow hx hb hts hin4 hown hX (hts (.fieldLink RX4 36 "Orderlattice" "spareRow" "LOrderlattice$Row;") (tm 453 (by decide +kernel) rfl)) dX4_sortPart_69 ?_
  refine kx_cr (v := nI (cntB (fun k => decide ((S3.1 i).2.1 k ≠ (S3.1 4).2.1 k)) (S3.1 i).2.2)) (va_runV (As := [.ref (ad (3 * 4))]) (rest := []) ⟨hx, hb, hml, hown, hts⟩ (m_X2_placesUnlike l dC dI ad S3 i 4 (by omega) (by omega) hA.2.2.2.2.1 hA.2.2.2.1) (cwV 1 hts gX4_sortPart_X2_placesUnlike rfl rfl rfl hdX2_placesUnlike_1 ⟨Nat.le_of_ble_eq_true rfl, Nat.le_of_ble_eq_true rfl⟩) (hX.preRow (by omega)) rfl rfl hl.1 rfl (lv_room (Nat.le_of_ble_eq_true rfl)) dX4_sortPart_72 ⟨Nat.le_of_ble_eq_true rfl, Nat.le_of_ble_eq_true rfl⟩) (fun _ h => h) ?_
  exact W.iret (v := nI (cntB (fun k => decide ((S3.1 i).2.1 k ≠ (S3.1 4).2.1 k)) (S3.1 i).2.2)) hx hb hr (fun t9 ht9 hW9 => ⟨⟨_, S3, rfl, ⟨⟨_, rfl⟩, hA⟩, hX.P ht9 hW9⟩, hX.2.2.2.F ht9⟩) hX.2.2.2.2.2 dX4_sortPart_75
set_option maxHeartbeats 4000000 in
set_option maxRecDepth 100000 in
theorem m_X4_wheel (l : Launch) (dC : Nat → ClassId) (dI : Nat → Nat → Nat) (ad : Nat → Nat) (S : XS) (i : Nat) (y : Int32) (hi : i < 3) (hI : InvX S) : Met l yX4_wheel wsX4_wheel ({ frames := 2, cells := 0, slots := 0, locals := 46 } : Room) (va_Pc [.ref (ad 57), .int (nI i), .int y] (PX dC dI ad S)) (va_Qi (fun r S' => ((S.1 i).2.2 = 0 ∧ r = -1 ∧ S' = S) ∨ (0 < (S.1 i).2.2 ∧ ∃ (x sh : Nat) (r4 r' : RowS), r = nI x ∧ sh < (S.1 i).2.2 ∧ nI sh = fmv y (nI (S.1 i).2.2) ∧ S' = xR (xR S 4 r4) i r' ∧ rowOK r4 ∧ rowOK r' ∧ r'.2.2 = (S.1 i).2.2)) (PX dC dI ad) (AX ad)) 0 0 (AX ad) := by
  refine Met.ofW (cc := cX4_wheel) (maxL := 7) (ret := (some .int)) pl_X4 rfl ?_
  intro p e s m args below meth c s₁ B hml hv
  obtain ⟨rfl, hPX⟩ := hv
  have hx := B.exec
  have hb := B.bytes
  have hr := B.returns
  have hts := atoms_spec (ws := wsX4_wheel) B.pre
  have hown : s.vm.findClass RX4 = some m.cls := findClass_of_methodNamed B.named
  have hlocks := B.notSynchronized
  have hin4 : ∀ w ∈ u_ws RX4 TX4 9, w ∈ wsX4_wheel := tu 1328 (by decide +kernel) rfl
  have hX := WX.of hPX
  have hl := lv_entry ([.ref (ad 57), .int (nI i), .int y]) (n := 7) (Nat.le_of_ble_eq_true rfl)
  rw [lg_entry_eq]
  generalize (lg_sl ([.ref (ad 57), .int (nI i), .int y]) ++ List.replicate (7 - (lg_sl ([.ref (ad 57), .int (nI i), .int y])).length) Slot.unset).toArray = ls at hl ⊢
  have hl : lv_has ls 7 [(0, .ref (ad 57)), (1, .int (nI i)), (2, .int y)] := hl
  show W p l e ({ frames := 2, cells := 0, slots := 0, locals := 46 } : Room) s m ([.ref (ad 57), .int (nI i), .int y]).toArray below meth c s.heap [] 0 0 (MQ below (va_Qi (fun r S' => ((S.1 i).2.2 = 0 ∧ r = -1 ∧ S' = S) ∨ (0 < (S.1 i).2.2 ∧ ∃ (x sh : Nat) (r4 r' : RowS), r = nI x ∧ sh < (S.1 i).2.2 ∧ nI sh = fmv y (nI (S.1 i).2.2) ∧ S' = xR (xR S 4 r4) i r' ∧ rowOK r4 ∧ rowOK r' ∧ r'.2.2 = (S.1 i).2.2)) (PX dC dI ad) (AX ad)) ([.ref (ad 57), .int (nI i), .int y]).toArray s 0 0 (AX ad)) (F0 m 0 ls [])
  have hn := (hI.1 i (by omega)).1
  refine lv_aload_n hx hb dX4_wheel_0 rfl (lv_at hl 0 rfl) ?_
  refine lv_iload_n hx hb dX4_wheel_1 rfl (lv_at hl 1 rfl) ?_
  refine va_csr (va_Run.run (va_runV (As := [.int (nI i)]) (rest := []) ⟨hx, hb, hml, hown, hts⟩ (m_X4_rowAt l dC dI ad S i (by omega)) (cwV 1 hts gX4_wheel_X4_rowAt rfl rfl rfl hdX4_rowAt_1 ⟨Nat.le_of_ble_eq_true rfl, Nat.le_of_ble_eq_true rfl⟩) (hX.preTop 57 6 (by decide) (by decide) rfl rfl) rfl rfl hl.1 rfl (lv_room (Nat.le_of_ble_eq_true rfl)) dX4_wheel_2 ⟨Nat.le_of_ble_eq_true rfl, Nat.le_of_ble_eq_true rfl⟩)) (fun k_ hk_ => ?_)
  rw [hk_]
  refine lv_astore_n (lv' := [(3, .ref (ad (3 * i))), (0, .ref (ad 57)), (1, .int (nI i)), (2, .int y)]) hx hb dX4_wheel_5 rfl hl (by decide) rfl (fun ls hl => ?_)
  refine lv_aload_n hx hb dX4_wheel_6 rfl (lv_at hl 0 rfl) ?_
  refine kx_cr (v := nI ((S.1 i).2.2)) (va_runV (As := []) (rest := []) ⟨hx, hb, hml, hown, hts⟩ (m_X2_length l dC dI ad S i (by omega)) (cwV 0 hts gX4_wheel_X2_length rfl rfl rfl hdX2_length_0 ⟨Nat.le_of_ble_eq_true rfl, Nat.le_of_ble_eq_true rfl⟩) (hX.preRow (by omega)) rfl rfl hl.1 rfl (lv_room (Nat.le_of_ble_eq_true rfl)) dX4_wheel_7 ⟨Nat.le_of_ble_eq_true rfl, Nat.le_of_ble_eq_true rfl⟩) (fun _ h => h) ?_
  refine lv_istore (lv' := [(4, .int (nI ((S.1 i).2.2))), (3, .ref (ad (3 * i))), (0, .ref (ad 57)), (1, .int (nI i)), (2, .int y)]) hx hb dX4_wheel_10 hl (by decide) rfl (fun ls hl => ?_)
  refine lv_iload hx hb dX4_wheel_12 (lv_at hl 0 rfl) ?_
  refine kn_if_gt (tgt := 19) hx hb (by omega) dX4_wheel_14 (by decide) (fun k_1 => ?_) (fun k_1 => ?_)
  · skip
    have h0 := k_1
    refine lv_iload_n hx hb dX4_wheel_19 rfl (lv_at hl 4 rfl) ?_
    refine lv_iload hx hb dX4_wheel_20 (lv_at hl 0 rfl) ?_
    refine kx_cr (v := (fmv y (nI ((S.1 i).2.2)))) (va_runS (As := [.int y, .int (nI ((S.1 i).2.2))]) (rest := []) ⟨hx, hb, hml, hown, hts⟩ (m_J9_floorMod l dC dI ad S y ((S.1 i).2.2) (by omega) (by omega)) (va_cwS 2 hts gX4_wheel_J9_floorMod_7cf53 rfl rfl rfl hdJ9_floorMod_7cf53_2.2 ⟨Nat.le_of_ble_eq_true rfl, Nat.le_of_ble_eq_true rfl⟩) hX.preS rfl rfl hl.1 rfl (lv_room (Nat.le_of_ble_eq_true rfl)) dX4_wheel_22 ⟨Nat.le_of_ble_eq_true rfl, Nat.le_of_ble_eq_true rfl⟩) (fun _ h => h) ?_
    obtain ⟨sh, hsh, hsl⟩ := fmv_nat (a := y) (m := nI (S.1 i).2.2) (by rw [nI_toInt (by omega)]; omega)
    have hsl : sh < (S.1 i).2.2 := by rw [nI_toInt (by omega)] at hsl; omega
    refine lv_topi (fun z9 hz9 => ?_)
    obtain rfl : z9 = nI sh := hz9.trans hsh
    refine lv_istore (lv' := [(5, .int (nI sh)), (4, .int (nI ((S.1 i).2.2))), (3, .ref (ad (3 * i))), (0, .ref (ad 57)), (1, .int (nI i)), (2, .int y)]) hx hb dX4_wheel_25 hl (by decide) rfl (fun ls hl => ?_)
    refine lv_aload_n hx hb dX4_wheel_27 rfl (lv_at hl 3 rfl) ?_
    refine kx_gspareRow hx hb hts hin4 hown hX (hts (.fieldLink RX4 36 "Orderlattice" "spareRow" "LOrderlattice$Row;") (tm 453 (by decide +kernel) rfl)) dX4_wheel_28 ?_
    refine lv_aload_n hx hb dX4_wheel_31 rfl (lv_at hl 2 rfl) ?_
    refine kx_cv (va_runV (As := [.ref (ad (3 * i))]) (rest := []) ⟨hx, hb, hml, hown, hts⟩ (m_X2_becomeCopyOf l dC dI ad S 4 i (by omega) (by omega) (by omega)) (cwV 1 hts gX4_wheel_X2_becomeCopyOf rfl rfl rfl hdX2_becomeCopyOf_1 ⟨Nat.le_of_ble_eq_true rfl, Nat.le_of_ble_eq_true rfl⟩) (hX.preRow (by omega)) rfl rfl hl.1 rfl (lv_room (Nat.le_of_ble_eq_true rfl)) dX4_wheel_32 ⟨Nat.le_of_ble_eq_true rfl, Nat.le_of_ble_eq_true rfl⟩) hX (fun _ h => h) (fun S_ H locs hw hX => ?_)
    subst hw
    obtain ⟨S2, e_S2⟩ : ∃ z, z = (xR S 4 (ovl ((S.1 i).1) ((S.1 4).1) ((S.1 i).2.2), ovl ((S.1 i).2.1) ((S.1 4).2.1) ((S.1 i).2.2), (S.1 i).2.2)) := ⟨_, rfl⟩
    replace hX := WX.eqS e_S2.symm hX
    have hI2 : InvX S2 := by rw [e_S2]; exact InvX_row hI (rowOK_ovl (hI.1 4 (by decide)) (hI.1 i (by omega)))
    have hr4 := hI2.1 4 (by decide)
    have hn4 : (S2.1 4).2.2 = (S.1 i).2.2 := by rw [e_S2, xR_row]
    have hi4 : S2.1 i = S.1 i := by rw [e_S2, xR_ne _ _ (show i ≠ 4 by omega)]
    refine lv_iconst (v := nI 0) hx hb dX4_wheel_35 (by decide) ?_
    refine lv_istore (lv' := [(6, .int (nI 0)), (5, .int (nI sh)), (4, .int (nI ((S.1 i).2.2))), (3, .ref (ad (3 * i))), (0, .ref (ad 57)), (1, .int (nI i)), (2, .int y)]) hx hb dX4_wheel_36 hl (by decide) rfl (fun ls hl => ?_)
    have loop38 : ∀ (fuel : Nat) (r : RowS) (a : Nat) (hr9 : rowOK r ∧ r.2.2 = (S.1 i).2.2) (ha : a ≤ (S.1 i).2.2) (H : Heap) (locs : List Loc), (S.1 i).2.2 - a < fuel → WX dC dI ad (xR S2 i (r.1, r.2.1, r.2.2)) (AX ad) s H locs → ∀ ls : Array Slot, lv_has ls 7 [(0, .ref (ad 57)), (1, .int (nI i)), (2, .int y), (3, .ref (ad (3 * i))), (4, .int (nI ((S.1 i).2.2))), (5, .int (nI sh)), (6, .int (nI a))] → W p l e ({ frames := 2, cells := 0, slots := 0, locals := 46 } : Room) s m ([.ref (ad 57), .int (nI i), .int y]).toArray below meth c H locs 0 0 (MQ below (va_Qi (fun r S' => ((S.1 i).2.2 = 0 ∧ r = -1 ∧ S' = S) ∨ (0 < (S.1 i).2.2 ∧ ∃ (x sh : Nat) (r4 r' : RowS), r = nI x ∧ sh < (S.1 i).2.2 ∧ nI sh = fmv y (nI (S.1 i).2.2) ∧ S' = xR (xR S 4 r4) i r' ∧ rowOK r4 ∧ rowOK r' ∧ r'.2.2 = (S.1 i).2.2)) (PX dC dI ad) (AX ad)) ([.ref (ad 57), .int (nI i), .int y]).toArray s 0 0 (AX ad)) (F0 m 38 ls []) := by
      intro fuel
      induction fuel with
      | zero => intro r a hr9 ha H locs hf; exact absurd hf (Nat.not_lt_zero _)
      | succ fuel ih38 =>
        intro r a hr9 ha H locs hf hX ls hl
        refine lv_iload hx hb dX4_wheel_38 (lv_at hl 6 rfl) ?_
        refine lv_iload hx hb dX4_wheel_40 (lv_at hl 4 rfl) ?_
        refine kn_icmp_ge (tgt := 81) hx hb (by omega) (by omega) dX4_wheel_42 (by decide) (fun k_2 => ?_) (fun k_2 => ?_)
        · skip
          refine lv_aload_n hx hb dX4_wheel_81 rfl (lv_at hl 3 rfl) ?_
          refine lv_iconst (v := nI 0) hx hb dX4_wheel_82 (by decide) ?_
          refine kx_cr (v := nI (r.2.1 0)) (va_runV (As := [.int (nI 0)]) (rest := []) ⟨hx, hb, hml, hown, hts⟩ (m_X2_markOn l dC dI ad (xR S2 i (r.1, r.2.1, r.2.2)) i 0 (by omega) (by omega)) (cwV 1 hts gX4_wheel_X2_markOn rfl rfl rfl hdX2_markOn_1 ⟨Nat.le_of_ble_eq_true rfl, Nat.le_of_ble_eq_true rfl⟩) (hX.preRow (by omega)) rfl rfl hl.1 rfl (lv_room (Nat.le_of_ble_eq_true rfl)) dX4_wheel_83 ⟨Nat.le_of_ble_eq_true rfl, Nat.le_of_ble_eq_true rfl⟩) (fun _ h => by rw [h, xR_row]) ?_
          exact W.iret (v := nI (r.2.1 0)) hx hb hr (fun t9 ht9 hW9 => ⟨⟨_, (xR S2 i (r.1, r.2.1, r.2.2)), rfl, (Or.inr ⟨h0, _, sh, _, r, rfl, hsl, hsh.symm, by rw [e_S2], rowOK_ovl (hI.1 4 (by decide)) (hI.1 i (by omega)), hr9.1, hr9.2⟩), hX.P ht9 hW9⟩, hX.2.2.2.F ht9⟩) hX.2.2.2.2.2 dX4_wheel_86
        · skip
          refine lv_aload_n hx hb dX4_wheel_45 rfl (lv_at hl 3 rfl) ?_
          refine lv_iload hx hb dX4_wheel_46 (lv_at hl 6 rfl) ?_
          refine lv_iload hx hb dX4_wheel_48 (lv_at hl 5 rfl) ?_
          refine kn_iadd hx hb dX4_wheel_50 ?_
          refine lv_iload hx hb dX4_wheel_51 (lv_at hl 4 rfl) ?_
          refine kn_irem hx hb (by omega) (by omega) (by omega) dX4_wheel_53 ?_
          refine lv_aload_n hx hb dX4_wheel_54 rfl (lv_at hl 0 rfl) ?_
          refine kx_gspareRow hx hb hts hin4 hown hX (hts (.fieldLink RX4 36 "Orderlattice" "spareRow" "LOrderlattice$Row;") (tm 453 (by decide +kernel) rfl)) dX4_wheel_55 ?_
          refine lv_iload hx hb dX4_wheel_58 (lv_at hl 6 rfl) ?_
          refine kx_cr (v := nI ((S2.1 4).1 a)) (va_runV (As := [.int (nI a)]) (rest := [.int (nI ((a + sh) % ((S.1 i).2.2))), .ref (ad (3 * i))]) ⟨hx, hb, hml, hown, hts⟩ (m_X2_valueOn l dC dI ad (xR S2 i (r.1, r.2.1, r.2.2)) 4 a (by omega) (by omega)) (cwV 1 hts gX4_wheel_X2_valueOn rfl rfl rfl hdX2_valueOn_1 ⟨Nat.le_of_ble_eq_true rfl, Nat.le_of_ble_eq_true rfl⟩) (hX.preRow (by omega)) rfl rfl hl.1 rfl (lv_room (Nat.le_of_ble_eq_true rfl)) dX4_wheel_60 ⟨Nat.le_of_ble_eq_true rfl, Nat.le_of_ble_eq_true rfl⟩) (fun _ h => by rw [h, xR_ne _ _ (show (4 : Nat) ≠ i by omega)]) ?_
          refine lv_aload_n hx hb dX4_wheel_63 rfl (lv_at hl 0 rfl) ?_
          refine kx_gspareRow hx hb hts hin4 hown hX (hts (.fieldLink RX4 36 "Orderlattice" "spareRow" "LOrderlattice$Row;") (tm 453 (by decide +kernel) rfl)) dX4_wheel_64 ?_
          refine lv_iload hx hb dX4_wheel_67 (lv_at hl 6 rfl) ?_
          refine kx_cr (v := nI ((S2.1 4).2.1 a)) (va_runV (As := [.int (nI a)]) (rest := [.int (nI ((S2.1 4).1 a)), .int (nI ((a + sh) % ((S.1 i).2.2))), .ref (ad (3 * i))]) ⟨hx, hb, hml, hown, hts⟩ (m_X2_markOn l dC dI ad (xR S2 i (r.1, r.2.1, r.2.2)) 4 a (by omega) (by omega)) (cwV 1 hts gX4_wheel_X2_markOn rfl rfl rfl hdX2_markOn_1 ⟨Nat.le_of_ble_eq_true rfl, Nat.le_of_ble_eq_true rfl⟩) (hX.preRow (by omega)) rfl rfl hl.1 rfl (lv_room (Nat.le_of_ble_eq_true rfl)) dX4_wheel_69 ⟨Nat.le_of_ble_eq_true rfl, Nat.le_of_ble_eq_true rfl⟩) (fun _ h => by rw [h, xR_ne _ _ (show (4 : Nat) ≠ i by omega)]) ?_
          refine kx_cv (va_runV (As := [.int (nI ((a + sh) % ((S.1 i).2.2))), .int (nI ((S2.1 4).1 a)), .int (nI ((S2.1 4).2.1 a))]) (rest := []) ⟨hx, hb, hml, hown, hts⟩ (m_X2_replace l dC dI ad (xR S2 i (r.1, r.2.1, r.2.2)) i ((a + sh) % ((S.1 i).2.2)) ((S2.1 4).1 a) ((S2.1 4).2.1 a) (by omega) (Nat.lt_of_lt_of_le (Nat.mod_lt _ (by omega)) (by omega))) (cwV 3 hts gX4_wheel_X2_replace rfl rfl rfl hdX2_replace_3 ⟨Nat.le_of_ble_eq_true rfl, Nat.le_of_ble_eq_true rfl⟩) (hX.preRow (by omega)) rfl rfl hl.1 rfl (lv_room (Nat.le_of_ble_eq_true rfl)) dX4_wheel_72 ⟨Nat.le_of_ble_eq_true rfl, Nat.le_of_ble_eq_true rfl⟩) hX (fun _ h => h) (fun S_ H locs hw hX => ?_)
          rw [xR_row, xR_xR] at hw
          subst hw
          refine lv_iinc (v := nI (a + 1)) (lv' := [(6, .int (nI (a + 1))), (0, .ref (ad 57)), (1, .int (nI i)), (2, .int y), (3, .ref (ad (3 * i))), (4, .int (nI ((S.1 i).2.2))), (5, .int (nI sh))]) hx hb dX4_wheel_75 hl (k := 6) rfl (nI_1 a) (by decide) rfl (fun ls hl => ?_)
          refine lv_goto (tgt := 38) hx hb dX4_wheel_78 (by decide) ?_
          exact ih38  (va_up r.1 ((a + sh) % ((S.1 i).2.2)) ((S2.1 4).1 a), va_up r.2.1 ((a + sh) % ((S.1 i).2.2)) ((S2.1 4).2.1 a), r.2.2) (a + 1) ⟨rowOK_put hr9.1 (hr4.2 a (by omega)), hr9.2⟩ (by omega) _ _ (by omega) hX _ (lv_sub hl [1, 2, 3, 4, 5, 6, 0] rfl)
    exact loop38 ((S.1 i).2.2 + 1) (S2.1 i) 0 ⟨hI2.1 i (by omega), by rw [hi4]⟩ (by omega) _ _ (by omega) (WX.eqS (xR_self _ _).symm hX) _ (lv_sub hl [4, 5, 6, 3, 2, 1, 0] rfl)
  · skip
    have h0 := k_1
    refine lv_iconst (v := (-1)) hx hb dX4_wheel_17 (by decide) ?_
    exact W.iret (v := (-1)) hx hb hr (fun t9 ht9 hW9 => ⟨⟨_, S, rfl, (Or.inl ⟨h0, rfl, rfl⟩), hX.P ht9 hW9⟩, hX.2.2.2.F ht9⟩) hX.2.2.2.2.2 dX4_wheel_18
