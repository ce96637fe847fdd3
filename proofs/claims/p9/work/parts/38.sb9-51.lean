section
/-! ranks told -/
/-- the spare row alone may have changed -/
def KR (S S1 : XS) : Prop := S1.2 = S.2 ∧ ∀ k, k ≠ 4 → S1.1 k = S.1 k
theorem KR_refl {S : XS} : KR S S := ⟨rfl, fun _ _ => rfl⟩
theorem KR_row {S S1 : XS} (h : KR S S1) {r : RowS} (_ : rowOK r) : KR S (xR S1 4 r) := ⟨h.1, fun k hk => by rw [xR_ne _ _ hk]; exact h.2 k hk⟩
set_option maxHeartbeats 4000000 in
set_option maxRecDepth 100000 in
theorem m_X4_ranks (l : Launch) (dC : Nat → ClassId) (dI : Nat → Nat → Nat) (cB : ClassId) (ad : Nat → Nat) (S : XS) (i j : Nat) (z : Bool) (hi : i < 3) (hj : j < 4) (hI : InvX S) : Met l yX4_ranks wsX4_ranks ({ frames := 7, cells := 80, slots := 900, locals := 151 } : Room) (va_Pc [.ref (ad 57), .int (nI i), .int (nI j), .int (bI z)] (PT dC dI cB ad S)) (va_Qr (fun S1 : XS => KR S S1) (fun S1 _ t => PX dC dI ad S1 t) (AX ad)) 80 900 (AX ad) := by
  refine Met.ofW (cc := cX4_ranks) (maxL := 9) (ret := (some (.object "java/lang/String"))) pl_X4 rfl ?_
  intro p e s m args below meth c s₁ B hml hv
  obtain ⟨rfl, hPT⟩ := hv
  have hx := B.exec
  have hb := B.bytes
  have hr := B.returns
  have hts := atoms_spec (ws := wsX4_ranks) B.pre
  have hown : s.vm.findClass RX4 = some m.cls := findClass_of_methodNamed B.named
  have hlocks := B.notSynchronized
  have hin4 : ∀ w ∈ u_ws RX4 TX4 9, w ∈ wsX4_ranks := tu 1328 (by decide +kernel) rfl
  have hinJ4 : ∀ w ∈ u_ws RJ4 TJ4 4, w ∈ wsX4_ranks := tu 1326 (by decide +kernel) rfl
  have hN : NT s := hPT.2.2.2
  have hX := WX.ofT hPT
  have hT := TB.of hPT
  have hl := lv_entry ([.ref (ad 57), .int (nI i), .int (nI j), .int (bI z)]) (n := 9) (Nat.le_of_ble_eq_true rfl)
  rw [lg_entry_eq]
  generalize (lg_sl ([.ref (ad 57), .int (nI i), .int (nI j), .int (bI z)]) ++ List.replicate (9 - (lg_sl ([.ref (ad 57), .int (nI i), .int (nI j), .int (bI z)])).length) Slot.unset).toArray = ls at hl ⊢
  have hl : lv_has ls 9 [(0, .ref (ad 57)), (1, .int (nI i)), (2, .int (nI j)), (3, .int (bI z))] := hl
  show W p l e ({ frames := 7, cells := 80, slots := 900, locals := 151 } : Room) s m ([.ref (ad 57), .int (nI i), .int (nI j), .int (bI z)]).toArray below meth c s.heap [] 0 0 (MQ below (va_Qr (fun S1 : XS => KR S S1) (fun S1 _ t => PX dC dI ad S1 t) (AX ad)) ([.ref (ad 57), .int (nI i), .int (nI j), .int (bI z)]).toArray s 80 900 (AX ad)) (F0 m 0 ls [])
  obtain ⟨S0, hS0⟩ : ∃ q : XS, q = S := ⟨_, rfl⟩
  generalize hQ9 : (MQ below (va_Qr (fun S1 : XS => KR S S1) (fun S1 _ t => PX dC dI ad S1 t) (AX ad)) ([.ref (ad 57), .int (nI i), .int (nI j), .int (bI z)]).toArray s 80 900 (AX ad)) = Q9
  refine lv_aload_n hx hb dX4_ranks_0 rfl (lv_at hl 0 rfl) ?_
  refine lv_iload_n hx hb dX4_ranks_1 rfl (lv_at hl 1 rfl) ?_
  refine va_csr (va_Run.run (va_runV (As := [.int (nI i)]) (rest := []) ⟨hx, hb, hml, hown, hts⟩ (m_X4_rowAt l dC dI ad S i (by omega)) (cwV 1 hts gX4_ranks_X4_rowAt rfl rfl rfl hdX4_rowAt_1 ⟨Nat.le_of_ble_eq_true rfl, Nat.le_of_ble_eq_true rfl⟩) (hX.preTop 57 6 (by decide) (by decide) rfl rfl) rfl rfl hl.1 rfl (lv_room (Nat.le_of_ble_eq_true rfl)) dX4_ranks_2 ⟨by show _ ≤ 80; omega, by show _ ≤ 900; omega⟩)) (fun k_ hk_ => ?_)
  rw [hk_]
  refine lv_astore (lv' := [(4, .ref (ad (3 * i))), (0, .ref (ad 57)), (1, .int (nI i)), (2, .int (nI j)), (3, .int (bI z))]) hx hb dX4_ranks_5 hl (by decide) rfl (fun ls hl => ?_)
  refine lv_aload_n hx hb dX4_ranks_7 rfl (lv_at hl 1 rfl) ?_
  refine lv_iload_n hx hb dX4_ranks_8 rfl (lv_at hl 3 rfl) ?_
  refine va_csr (va_Run.run (va_runV (As := [.int (nI j)]) (rest := []) ⟨hx, hb, hml, hown, hts⟩ (m_X4_orderAt l dC dI ad S j (by omega)) (cwV 1 hts gX4_ranks_X4_orderAt rfl rfl rfl hdX4_orderAt_1 ⟨Nat.le_of_ble_eq_true rfl, Nat.le_of_ble_eq_true rfl⟩) (hX.preTop 57 6 (by decide) (by decide) rfl rfl) rfl rfl hl.1 rfl (lv_room (Nat.le_of_ble_eq_true rfl)) dX4_ranks_9 ⟨by show _ ≤ 80; omega, by show _ ≤ 900; omega⟩)) (fun k_ hk_ => ?_)
  rw [hk_]
  refine lv_astore (lv' := [(5, .ref (ad (24 + 5 * j))), (4, .ref (ad (3 * i))), (0, .ref (ad 57)), (1, .int (nI i)), (2, .int (nI j)), (3, .int (bI z))]) hx hb dX4_ranks_12 hl (by decide) rfl (fun ls hl => ?_)
  refine lv_aload_n hx hb dX4_ranks_14 rfl (lv_at hl 2 rfl) ?_
  refine kx_gspareRow hx hb hts hin4 hown hX (hts (.fieldLink RX4 36 "Orderlattice" "spareRow" "LOrderlattice$Row;") (tm 453 (by decide +kernel) rfl)) dX4_ranks_15 ?_
  refine lv_aload hx hb dX4_ranks_18 (lv_at hl 1 rfl) ?_
  refine kt_x (va_runV (As := [.ref (ad (3 * i))]) (rest := []) ⟨hx, hb, hml, hown, hts⟩ (m_X2_becomeCopyOf l dC dI ad S 4 i (by omega) (by omega) (hI.1 i (by omega)).1) (cwV 1 hts gX4_ranks_X2_becomeCopyOf rfl rfl rfl hdX2_becomeCopyOf_1 ⟨Nat.le_of_ble_eq_true rfl, Nat.le_of_ble_eq_true rfl⟩) (hX.preRow (by omega)) rfl rfl hl.1 rfl (lv_room (Nat.le_of_ble_eq_true rfl)) dX4_ranks_20 ⟨by show _ ≤ 80; omega, by show _ ≤ 900; omega⟩) hX hT (fun S2 H locs hw hX hT => ?_)
  have hI2 : InvX S2 := by rw [hw]; exact InvX_row hI (rowOK_ovl (hI.1 4 (by decide)) (hI.1 i (by omega)))
  have hK : KR S0 S2 := by rw [hw, hS0]; exact KR_row KR_refl (rowOK_ovl (hI.1 4 (by decide)) (hI.1 i (by omega)))
  have hn2 : (S2.1 4).2.2 = (S.1 i).2.2 := by rw [hw, xR_row]
  have hn3 := (hI2.1 4 (by decide)).1
  clear hw
  refine kt_new hx hb hts hinJ4 hown (hts (.classLink RX4 187 RJ4) (tm 564 (by decide +kernel) rfl)) (hts (.instantiable RJ4 4) (tm 374 (by decide +kernel) rfl)) (hts (.initialized RJ4) (tm 328 (by decide +kernel) rfl)) hX hT (by show _ ≤ 80; omega) (by show _ ≤ 900; omega) dX4_ranks_23 (fun a9 H hX hT => ?_)
  refine lv_dup hx hb dX4_ranks_26 rfl ?_
  refine kt_v (va_runI (As := []) (rest := [.ref a9]) ⟨hx, hb, hml, hown, hts⟩ (m_J4_init_da8c8 l dC dI cB s.heap.size a9) (cwI 0 hts gX4_ranks_J4_init_da8c8 rfl rfl rfl (hts (.initialized yJ4_init_da8c8.cls) (tm 328 (by decide +kernel) rfl)) (hts (.methodLink RX4 189 yJ4_init_da8c8) (tm 565 (by decide +kernel) rfl)) (hts (.instanceMethod yJ4_init_da8c8) (tm 414 (by decide +kernel) rfl)) rfl (by decide +kernel) ⟨Nat.le_of_ble_eq_true rfl, Nat.le_of_ble_eq_true rfl⟩) (hT.preS hX) rfl rfl hl.1 rfl (lv_room (Nat.le_of_ble_eq_true rfl)) dX4_ranks_27 ⟨by show _ ≤ 80; omega, by show _ ≤ 900; omega⟩) hX hT (fun b0 H locs _ hX hT => ?_)
  refine W.widen (k := 2) (n := 4 + 2 * 16) (by omega) (by omega) ?_
  have hf : sb_Fit (fun _ => 0) := sb_fit0
  refine lv_astore (lv' := [(6, .ref a9), (5, .ref (ad (24 + 5 * j))), (4, .ref (ad (3 * i))), (0, .ref (ad 57)), (1, .int (nI i)), (2, .int (nI j)), (3, .int (bI z))]) hx hb dX4_ranks_30 hl (by decide) rfl (fun ls hl => ?_)
  refine lv_aload_n hx hb dX4_ranks_32 rfl (lv_at hl 3 rfl) ?_
  refine kx_gspareRow hx hb hts hin4 hown hX (hts (.fieldLink RX4 36 "Orderlattice" "spareRow" "LOrderlattice$Row;") (tm 453 (by decide +kernel) rfl)) dX4_ranks_33 ?_
  refine kx_cr (v := nI ((S2.1 4).2.2)) (va_runV (As := []) (rest := []) ⟨hx, hb, hml, hown, hts⟩ (m_X2_length l dC dI ad S2 4 (by omega)) (cwV 0 hts gX4_ranks_X2_length rfl rfl rfl hdX2_length_0 ⟨Nat.le_of_ble_eq_true rfl, Nat.le_of_ble_eq_true rfl⟩) (hX.preRow (by omega)) rfl rfl hl.1 rfl (lv_room (Nat.le_of_ble_eq_true rfl)) dX4_ranks_36 ⟨by show _ ≤ 80; omega, by show _ ≤ 900; omega⟩) (fun _ h => h) ?_
  refine lv_istore (lv' := [(7, .int (nI ((S2.1 4).2.2))), (6, .ref a9), (5, .ref (ad (24 + 5 * j))), (4, .ref (ad (3 * i))), (0, .ref (ad 57)), (1, .int (nI i)), (2, .int (nI j)), (3, .int (bI z))]) hx hb dX4_ranks_39 hl (by decide) rfl (fun ls hl => ?_)
  have loop41 : ∀ (fuel : Nat) (S : XS) (y : Nat) (b1 n1 c1 : Nat) (f1 : Nat → Int32) (hI : InvX S) (hK : KR S0 S) (hy : (S.1 4).2.2 = y ∧ y ≤ 16) (hn1 : n1 + 3 * y ≤ 48) (hnc : n1 ≤ c1 ∧ 16 ≤ c1 ∧ c1 ≤ 320) (hf : sb_Fit f1) (H : Heap) (locs : List Loc), y < fuel → WX dC dI ad S (AZ ad s.heap.size) s H locs → TB dC dI cB ad s.heap.size [(a9, eSB b1 n1), (b1, eBy cB c1 f1)] s H → ∀ ls : Array Slot, lv_has ls 9 [(0, .ref (ad 57)), (3, .int (bI z)), (5, .ref (ad (24 + 5 * j))), (6, .ref a9), (7, .int (nI y))] → W p l e ({ frames := 7, cells := 80, slots := 900, locals := 151 } : Room) s m ([.ref (ad 57), .int (nI i), .int (nI j), .int (bI z)]).toArray below meth c H locs (2 + 2 * (16 - y)) (4 + 2 * c1) Q9 (F0 m 41 ls []) := by
    intro fuel
    induction fuel with
    | zero => intro S y b1 n1 c1 f1 hI hK hy hn1 hnc hf H locs hf9; exact absurd hf9 (Nat.not_lt_zero _)
    | succ fuel ih41 =>
      intro S y b1 n1 c1 f1 hI hK hy hn1 hnc hf H locs hf9 hX hT ls hl
      refine lv_iload hx hb dX4_ranks_41 (lv_at hl 4 rfl) ?_
      refine kn_if_le (tgt := 105) hx hb (by omega) dX4_ranks_43 (by decide) (fun k_1 => ?_) (fun k_1 => ?_)
      · skip
        refine lv_aload hx hb dX4_ranks_105 (lv_at hl 3 rfl) ?_
        refine kt_r (va_runV (As := []) (rest := []) ⟨hx, hb, hml, hown, hts⟩ (m_J4_toString_0e30d l dC dI cB s.heap.size a9 b1 n1 c1 f1 (by omega) (by omega) hf) (cwV 0 hts gX4_ranks_J4_toString_0e30d rfl rfl rfl hdJ4_toString_0e30d_0 ⟨Nat.le_of_ble_eq_true rfl, Nat.le_of_ble_eq_true rfl⟩) (hT.preV hX (ci := 1) (q := (RJ4, TJ4, 4)) rfl 0 rfl) rfl rfl hl.1 rfl (lv_room (Nat.le_of_ble_eq_true rfl)) dX4_ranks_107 ⟨by show _ ≤ 80; omega, by show _ ≤ 900; omega⟩) hX hT (fun _ q9 H locs _ _ hX hT => ?_)
        rw [← hQ9]
        exact W.widen (k := 80) (n := 900) (by omega) (by omega) (W.filt (fun locs1 hl1 => W.aret (v := .ref q9) hx hb hr (Or.inl ⟨_, rfl⟩) (Or.inr ⟨_, rfl⟩) (fun t9 ht9 hW9 => ⟨⟨S, _, rfl, (by rw [← hS0]; exact hK), hX.P ht9 hW9⟩, (hX.2.2.2.F ht9).X⟩) (free_X hX.2.2.2 hl1) dX4_ranks_110))
      · skip
        refine lv_iload_n hx hb dX4_ranks_46 rfl (lv_at hl 1 rfl) ?_
        refine kb_if_eq (tgt := 62) hx hb dX4_ranks_47 (by decide) (fun k_2 => ?_) (fun k_2 => ?_)
        · skip
          refine lv_iconst (v := nI 0) hx hb dX4_ranks_62 (by decide) ?_
          refine lv_istore (lv' := [(8, .int (nI 0)), (0, .ref (ad 57)), (3, .int (bI z)), (5, .ref (ad (24 + 5 * j))), (6, .ref a9), (7, .int (nI y))]) hx hb dX4_ranks_63 hl (by decide) rfl (fun ls hl => ?_)
          refine lv_aload hx hb dX4_ranks_65 (lv_at hl 4 rfl) ?_
          have hcb := cap_b (q := n1 + 1) (cp := c1) (Q := 160) (by omega) (by omega)
          refine kt_gap (sl := 4) 160 (va_runS (As := [.ref a9]) (rest := []) ⟨hx, hb, hml, hown, hts⟩ (m_X4_appendGap l dC dI cB s.heap.size a9 b1 n1 c1 f1 (by omega) (by omega) hf (by omega) (by omega)) (cwS 1 hts gX4_ranks_X4_appendGap rfl rfl rfl (by decide +kernel) ⟨Nat.le_of_ble_eq_true rfl, Nat.le_of_ble_eq_true rfl⟩) (hT.preS hX) rfl rfl hl.1 rfl (lv_room (Nat.le_of_ble_eq_true rfl)) dX4_ranks_67 ⟨by show _ ≤ 80; omega, by show _ ≤ 900; have := gm_pot (n1 + 1) c1; omega⟩) hX hT (by omega) (by omega) (fun b_3 n_3 c_3 f_3 H locs hX hT hf _ _ _ _ => ?_)
          refine lv_aload hx hb dX4_ranks_70 (lv_at hl 4 rfl) ?_
          refine lv_aload hx hb dX4_ranks_72 (lv_at hl 3 rfl) ?_
          refine lv_aload_n hx hb dX4_ranks_74 rfl (lv_at hl 1 rfl) ?_
          refine kx_gspareRow hx hb hts hin4 hown hX (hts (.fieldLink RX4 36 "Orderlattice" "spareRow" "LOrderlattice$Row;") (tm 453 (by decide +kernel) rfl)) dX4_ranks_75 ?_
          refine lv_iload hx hb dX4_ranks_78 (lv_at hl 0 rfl) ?_
          refine kx_cr (v := nI (((S.1 4).1) 0)) (va_runV (As := [.int (nI 0)]) (rest := [.ref (ad (24 + 5 * j)), .ref a9]) ⟨hx, hb, hml, hown, hts⟩ (m_X2_valueOn l dC dI ad S 4 0 (by omega) (by omega)) (cwV 1 hts gX4_ranks_X2_valueOn rfl rfl rfl hdX2_valueOn_1 ⟨Nat.le_of_ble_eq_true rfl, Nat.le_of_ble_eq_true rfl⟩) (hX.preRow (by omega)) rfl rfl hl.1 rfl (lv_room (Nat.le_of_ble_eq_true rfl)) dX4_ranks_80 ⟨by show _ ≤ 80; omega, by show _ ≤ 900; omega⟩) (fun _ h => h) ?_
          have hv9 := (hI.1 4 (by decide)).2 0 (by omega)
          have hrk := ordOK.rnk (hI.2 j (by omega)) hv9.1
          have hd9 := dg2 (v := (S.2.1 j).2.2.2.1 ((S.1 4).1 0)) (by omega)
          refine kx_cr (v := nI (((S.2.1 j).2.2.2.1) (((S.1 4).1) 0))) (va_runV (As := [.int (nI (((S.1 4).1) 0))]) (rest := [.ref a9]) ⟨hx, hb, hml, hown, hts⟩ (m_X1_rankOf l dC dI ad S j (((S.1 4).1) 0) (by omega) (by omega)) (cwV 1 hts gX4_ranks_X1_rankOf rfl rfl rfl hdX1_rankOf_1 ⟨Nat.le_of_ble_eq_true rfl, Nat.le_of_ble_eq_true rfl⟩) (hX.preOrd (by omega)) rfl rfl hl.1 rfl (lv_room (Nat.le_of_ble_eq_true rfl)) dX4_ranks_83 ⟨by show _ ≤ 80; omega, by show _ ≤ 900; omega⟩) (fun _ h => h) ?_
          have hcb := cap_b (q := n_3 + sb_dg (((S.2.1 j).2.2.2.1) (((S.1 4).1) 0))) (cp := c_3) (Q := 160) (by omega) (by omega)
          refine kt_app (sl := 4) (n2 := n_3 + sb_dg (((S.2.1 j).2.2.2.1) (((S.1 4).1) 0))) 160 (va_runV (As := [.int (nI (((S.2.1 j).2.2.2.1) (((S.1 4).1) 0)))]) (rest := []) ⟨hx, hb, hml, hown, hts⟩ (m_J4_append_bf812 l dC dI cB s.heap.size a9 b_3 n_3 c_3 f_3 (by omega) (by omega) hf (((S.2.1 j).2.2.2.1) (((S.1 4).1) 0)) (by omega) (by omega)) (cwV 1 hts gX4_ranks_J4_append_bf812 rfl rfl rfl hdJ4_append_bf812_1 ⟨Nat.le_of_ble_eq_true rfl, Nat.le_of_ble_eq_true rfl⟩) (hT.preV hX (ci := 1) (q := (RJ4, TJ4, 4)) rfl 0 rfl) rfl rfl hl.1 rfl (lv_room (Nat.le_of_ble_eq_true rfl)) dX4_ranks_86 ⟨by show _ ≤ 80; omega, by show _ ≤ 900; have := gm_pot (n_3 + sb_dg (((S.2.1 j).2.2.2.1) (((S.1 4).1) 0))) c_3; omega⟩) hX hT (by omega) (by omega) (fun b_4 c_4 f_4 H locs hX hT hf _ _ _ => ?_)
          refine lv_pop hx hb dX4_ranks_89 rfl ?_
          refine lv_aload_n hx hb dX4_ranks_90 rfl (lv_at hl 1 rfl) ?_
          refine kx_gspareRow hx hb hts hin4 hown hX (hts (.fieldLink RX4 36 "Orderlattice" "spareRow" "LOrderlattice$Row;") (tm 453 (by decide +kernel) rfl)) dX4_ranks_91 ?_
          refine lv_iload hx hb dX4_ranks_94 (lv_at hl 0 rfl) ?_
          refine kt_x (va_runV (As := [.int (nI 0)]) (rest := []) ⟨hx, hb, hml, hown, hts⟩ (m_X2_remove l dC dI ad S 4 0 (by omega) (hI.1 4 (by decide)).1 (by omega)) (cwV 1 hts gX4_ranks_X2_remove rfl rfl rfl hdX2_remove_1 ⟨Nat.le_of_ble_eq_true rfl, Nat.le_of_ble_eq_true rfl⟩) (hX.preRow (by omega)) rfl rfl hl.1 rfl (lv_room (Nat.le_of_ble_eq_true rfl)) dX4_ranks_96 ⟨by show _ ≤ 80; omega, by show _ ≤ 900; omega⟩) hX hT (fun S3 H locs hw hX hT => ?_)
          have hI3 : InvX S3 := by rw [hw]; exact InvX_row hI (rowOK_rem (hI.1 4 (by decide)) (by omega))
          have hK3 : KR S0 S3 := by rw [hw]; exact KR_row hK (rowOK_rem (hI.1 4 (by decide)) (by omega))
          have hn3 : (S3.1 4).2.2 = (S.1 4).2.2 - 1 := by rw [hw, xR_row]
          clear hw
          refine lv_iinc (v := nI (y - 1)) (lv' := [(7, .int (nI (y - 1))), (8, .int (nI 0)), (0, .ref (ad 57)), (3, .int (bI z)), (5, .ref (ad (24 + 5 * j))), (6, .ref a9)]) hx hb dX4_ranks_99 hl (k := 5) rfl (kn_dec (by omega)) (by decide) rfl (fun ls hl => ?_)
          refine lv_goto (tgt := 41) hx hb dX4_ranks_102 (by decide) ?_
          refine W.widen (k := 2 + 2 * (16 - (y - 1))) (n := 4 + 2 * c_4) (by omega) (by omega) ?_
          exact ih41  S3 (y - 1) b_4 (n_3 + sb_dg (((S.2.1 j).2.2.2.1) (((S.1 4).1) 0))) c_4 f_4 hI3 hK3 ⟨by omega, by omega⟩ (by omega) (by omega) hf _ _ (by omega) hX hT _ (lv_sub hl [2, 3, 4, 5, 0] rfl)
        · skip
          refine lv_aload_n hx hb dX4_ranks_50 rfl (lv_at hl 0 rfl) ?_
          refine kx_gspareRow hx hb hts hin4 hown hX (hts (.fieldLink RX4 36 "Orderlattice" "spareRow" "LOrderlattice$Row;") (tm 453 (by decide +kernel) rfl)) dX4_ranks_51 ?_
          refine lv_aload hx hb dX4_ranks_54 (lv_at hl 2 rfl) ?_
          refine kx_cr (v := (oI (bestB (fun _ => true) (fun a b => decide ((S.2.1 j).2.2.1 ((S.1 4).1 a) < (S.2.1 j).2.2.1 ((S.1 4).1 b))) (S.1 4).2.2))) (va_runV (As := [.ref (ad (24 + 5 * j))]) (rest := []) ⟨hx, hb, hml, hown, hts⟩ (m_X2_firstPlaceBy l dC dI ad S 4 j (by omega) (by omega) (hI.1 4 (by omega)) (hI.2 j (by omega))) (cwV 1 hts gX4_ranks_X2_firstPlaceBy rfl rfl rfl hdX2_firstPlaceBy_1 ⟨Nat.le_of_ble_eq_true rfl, Nat.le_of_ble_eq_true rfl⟩) (hX.preRow (by omega)) rfl rfl hl.1 rfl (lv_room (Nat.le_of_ble_eq_true rfl)) dX4_ranks_56 ⟨by show _ ≤ 80; omega, by show _ ≤ 900; omega⟩) (fun _ h => h) ?_
          obtain ⟨bb, hbb⟩ := bestB_some (lt := (fun a b => decide ((S.2.1 j).2.2.1 ((S.1 4).1 a) < (S.2.1 j).2.2.1 ((S.1 4).1 b)))) (show 0 < (S.1 4).2.2 by omega)
          have hb9 := (bestB_lt hbb).1
          rw [hbb]
          refine lv_goto (tgt := 63) hx hb dX4_ranks_59 (by decide) ?_
          refine lv_istore (lv' := [(8, .int (nI bb)), (0, .ref (ad 57)), (3, .int (bI z)), (5, .ref (ad (24 + 5 * j))), (6, .ref a9), (7, .int (nI y))]) hx hb dX4_ranks_63 hl (by decide) rfl (fun ls hl => ?_)
          refine lv_aload hx hb dX4_ranks_65 (lv_at hl 4 rfl) ?_
          have hcb := cap_b (q := n1 + 1) (cp := c1) (Q := 160) (by omega) (by omega)
          refine kt_gap (sl := 4) 160 (va_runS (As := [.ref a9]) (rest := []) ⟨hx, hb, hml, hown, hts⟩ (m_X4_appendGap l dC dI cB s.heap.size a9 b1 n1 c1 f1 (by omega) (by omega) hf (by omega) (by omega)) (cwS 1 hts gX4_ranks_X4_appendGap rfl rfl rfl (by decide +kernel) ⟨Nat.le_of_ble_eq_true rfl, Nat.le_of_ble_eq_true rfl⟩) (hT.preS hX) rfl rfl hl.1 rfl (lv_room (Nat.le_of_ble_eq_true rfl)) dX4_ranks_67 ⟨by show _ ≤ 80; omega, by show _ ≤ 900; have := gm_pot (n1 + 1) c1; omega⟩) hX hT (by omega) (by omega) (fun b_5 n_5 c_5 f_5 H locs hX hT hf _ _ _ _ => ?_)
          refine lv_aload hx hb dX4_ranks_70 (lv_at hl 4 rfl) ?_
          refine lv_aload hx hb dX4_ranks_72 (lv_at hl 3 rfl) ?_
          refine lv_aload_n hx hb dX4_ranks_74 rfl (lv_at hl 1 rfl) ?_
          refine kx_gspareRow hx hb hts hin4 hown hX (hts (.fieldLink RX4 36 "Orderlattice" "spareRow" "LOrderlattice$Row;") (tm 453 (by decide +kernel) rfl)) dX4_ranks_75 ?_
          refine lv_iload hx hb dX4_ranks_78 (lv_at hl 0 rfl) ?_
          refine kx_cr (v := nI (((S.1 4).1) bb)) (va_runV (As := [.int (nI bb)]) (rest := [.ref (ad (24 + 5 * j)), .ref a9]) ⟨hx, hb, hml, hown, hts⟩ (m_X2_valueOn l dC dI ad S 4 bb (by omega) (by omega)) (cwV 1 hts gX4_ranks_X2_valueOn rfl rfl rfl hdX2_valueOn_1 ⟨Nat.le_of_ble_eq_true rfl, Nat.le_of_ble_eq_true rfl⟩) (hX.preRow (by omega)) rfl rfl hl.1 rfl (lv_room (Nat.le_of_ble_eq_true rfl)) dX4_ranks_80 ⟨by show _ ≤ 80; omega, by show _ ≤ 900; omega⟩) (fun _ h => h) ?_
          have hv9 := (hI.1 4 (by decide)).2 bb (by omega)
          have hrk := ordOK.rnk (hI.2 j (by omega)) hv9.1
          have hd9 := dg2 (v := (S.2.1 j).2.2.2.1 ((S.1 4).1 bb)) (by omega)
          refine kx_cr (v := nI (((S.2.1 j).2.2.2.1) (((S.1 4).1) bb))) (va_runV (As := [.int (nI (((S.1 4).1) bb))]) (rest := [.ref a9]) ⟨hx, hb, hml, hown, hts⟩ (m_X1_rankOf l dC dI ad S j (((S.1 4).1) bb) (by omega) (by omega)) (cwV 1 hts gX4_ranks_X1_rankOf rfl rfl rfl hdX1_rankOf_1 ⟨Nat.le_of_ble_eq_true rfl, Nat.le_of_ble_eq_true rfl⟩) (hX.preOrd (by omega)) rfl rfl hl.1 rfl (lv_room (Nat.le_of_ble_eq_true rfl)) dX4_ranks_83 ⟨by show _ ≤ 80; omega, by show _ ≤ 900; omega⟩) (fun _ h => h) ?_
          have hcb := cap_b (q := n_5 + sb_dg (((S.2.1 j).2.2.2.1) (((S.1 4).1) bb))) (cp := c_5) (Q := 160) (by omega) (by omega)
          refine kt_app (sl := 4) (n2 := n_5 + sb_dg (((S.2.1 j).2.2.2.1) (((S.1 4).1) bb))) 160 (va_runV (As := [.int (nI (((S.2.1 j).2.2.2.1) (((S.1 4).1) bb)))]) (rest := []) ⟨hx, hb, hml, hown, hts⟩ (m_J4_append_bf812 l dC dI cB s.heap.size a9 b_5 n_5 c_5 f_5 (by omega) (by omega) hf (((S.2.1 j).2.2.2.1) (((S.1 4).1) bb)) (by omega) (by omega)) (cwV 1 hts gX4_ranks_J4_append_bf812 rfl rfl rfl hdJ4_append_bf812_1 ⟨Nat.le_of_ble_eq_true rfl, Nat.le_of_ble_eq_true rfl⟩) (hT.preV hX (ci := 1) (q := (RJ4, TJ4, 4)) rfl 0 rfl) rfl rfl hl.1 rfl (lv_room (Nat.le_of_ble_eq_true rfl)) dX4_ranks_86 ⟨by show _ ≤ 80; omega, by show _ ≤ 900; have := gm_pot (n_5 + sb_dg (((S.2.1 j).2.2.2.1) (((S.1 4).1) bb))) c_5; omega⟩) hX hT (by omega) (by omega) (fun b_6 c_6 f_6 H locs hX hT hf _ _ _ => ?_)
          refine lv_pop hx hb dX4_ranks_89 rfl ?_
          refine lv_aload_n hx hb dX4_ranks_90 rfl (lv_at hl 1 rfl) ?_
          refine kx_gspareRow hx hb hts hin4 hown hX (hts (.fieldLink RX4 36 "Orderlattice" "spareRow" "LOrderlattice$Row;") (tm 453 (by decide +kernel) rfl)) dX4_ranks_91 ?_
          refine lv_iload hx hb dX4_ranks_94 (lv_at hl 0 rfl) ?_
          refine kt_x (va_runV (As := [.int (nI bb)]) (rest := []) ⟨hx, hb, hml, hown, hts⟩ (m_X2_remove l dC dI ad S 4 bb (by omega) (hI.1 4 (by decide)).1 (by omega)) (cwV 1 hts gX4_ranks_X2_remove rfl rfl rfl hdX2_remove_1 ⟨Nat.le_of_ble_eq_true rfl, Nat.le_of_ble_eq_true rfl⟩) (hX.preRow (by omega)) rfl rfl hl.1 rfl (lv_room (Nat.le_of_ble_eq_true rfl)) dX4_ranks_96 ⟨by show _ ≤ 80; omega, by show _ ≤ 900; omega⟩) hX hT (fun S3 H locs hw hX hT => ?_)
          have hI3 : InvX S3 := by rw [hw]; exact InvX_row hI (rowOK_rem (hI.1 4 (by decide)) (by omega))
          have hK3 : KR S0 S3 := by rw [hw]; exact KR_row hK (rowOK_rem (hI.1 4 (by decide)) (by omega))
          have hn3 : (S3.1 4).2.2 = (S.1 4).2.2 - 1 := by rw [hw, xR_row]
          clear hw
          refine lv_iinc (v := nI (y - 1)) (lv' := [(7, .int (nI (y - 1))), (8, .int (nI bb)), (0, .ref (ad 57)), (3, .int (bI z)), (5, .ref (ad (24 + 5 * j))), (6, .ref a9)]) hx hb dX4_ranks_99 hl (k := 5) rfl (kn_dec (by omega)) (by decide) rfl (fun ls hl => ?_)
          refine lv_goto (tgt := 41) hx hb dX4_ranks_102 (by decide) ?_
          refine W.widen (k := 2 + 2 * (16 - (y - 1))) (n := 4 + 2 * c_6) (by omega) (by omega) ?_
          exact ih41  S3 (y - 1) b_6 (n_5 + sb_dg (((S.2.1 j).2.2.2.1) (((S.1 4).1) bb))) c_6 f_6 hI3 hK3 ⟨by omega, by omega⟩ (by omega) (by omega) hf _ _ (by omega) hX hT _ (lv_sub hl [2, 3, 4, 5, 0] rfl)
  refine W.widen (k := 2 + 2 * (16 - ((S2.1 4).2.2))) (n := 4 + 2 * 16) (by omega) (by omega) ?_
  exact loop41 ((S2.1 4).2.2 + 1) S2 ((S2.1 4).2.2) b0 0 16 (fun _ => 0) hI2 hK ⟨rfl, hn3⟩ (by omega) (by omega) hf _ _ (by omega) hX hT _ (lv_sub hl [4, 7, 2, 1, 0] rfl)
end
section
/-! constructors: new objects on top of any world -/
def NC (U : State) : Prop := va_Nw (.methodLinkNest RX4 23 yX3_init "Orderlattice") U ∧ va_Nw (.methodLinkNest RX4 30 yX0_init "Orderlattice") U ∧ va_Nw (.methodLinkNest RX4 35 yX2_init "Orderlattice") U ∧ va_Nw (.methodLinkNest RX4 40 yX1_init "Orderlattice") U ∧ va_Nw (.methodLinkNest RX0 11 yX3_init "Orderlattice") U ∧ va_Nw (.methodLinkNest RX0 20 yX2_init "Orderlattice") U ∧ va_Nw (.methodLinkNest RX0 30 yX1_init "Orderlattice") U ∧ va_Nw (.methodLinkNest RX3 9 yX2_init "Orderlattice") U
theorem NC.warm {s U : State} (hW : s.WarmedH U.vm) (h : NC s) : NC U := ⟨va_Nw.warmM hW h.1, va_Nw.warmM hW h.2.1, va_Nw.warmM hW h.2.2.1, va_Nw.warmM hW h.2.2.2.1, va_Nw.warmM hW h.2.2.2.2.1, va_Nw.warmM hW h.2.2.2.2.2.1, va_Nw.warmM hW h.2.2.2.2.2.2.1, va_Nw.warmM hW h.2.2.2.2.2.2.2⟩
theorem NC.same {s U : State} (hv : s.vm = U.vm) (h : NC s) : NC U := ⟨va_Nw.same rfl hv h.1, va_Nw.same rfl hv h.2.1, va_Nw.same rfl hv h.2.2.1, va_Nw.same rfl hv h.2.2.2.1, va_Nw.same rfl hv h.2.2.2.2.1, va_Nw.same rfl hv h.2.2.2.2.2.1, va_Nw.same rfl hv h.2.2.2.2.2.2.1, va_Nw.same rfl hv h.2.2.2.2.2.2.2⟩
def PC (dC : Nat → ClassId) (dI : Nat → Nat → Nat) (z : Nat) (G : va_W) (U : State) : Prop := va_P (dC, dI) vwCl G U.heap ∧ va_K (dC, dI) vwCl (tyX dC) U ∧ va_D (zB z) G ∧ z ≤ U.heap.size ∧ NC U
def WC (dC : Nat → ClassId) (dI : Nat → Nat → Nat) (z : Nat) (G : va_W) (s : State) (H : Heap) (locs : List Loc) : Prop := va_P (dC, dI) vwCl G H ∧ va_K (dC, dI) vwCl (tyX dC) s ∧ va_D (zB z) G ∧ va_S (zB z) s.heap H locs ∧ z ≤ s.heap.size ∧ NC s
section KC
variable {dC : Nat → ClassId} {dI : Nat → Nat → Nat} {z : Nat} {G : va_W} {s : State} {H : Heap} {locs : List Loc}
theorem WC.of (h : PC dC dI z G s) : WC dC dI z G s s.heap [] := ⟨h.1, h.2.1, h.2.2.1, va_S.rf, h.2.2.2.1, h.2.2.2.2⟩
theorem WC.P {U : State} (h : WC dC dI z G s H locs) (hU : U.heap = H) (hW : s.WarmedH U.vm) : PC dC dI z G U :=
  ⟨by rw [hU]; exact h.1, va_K.moved hW.alike h.2.1, h.2.2.1, by rw [hU]; exact Nat.le_trans h.2.2.2.2.1 h.2.2.2.1.1, h.2.2.2.2.2.warm hW⟩
theorem WC.F {t : State} (h : WC dC dI z G s H locs) (ht : t.heap = H) : va_F (zB z) s t := h.2.2.2.1.F ht
theorem WC.L (h : WC dC dI z G s H locs) : ∀ q ∈ locs, zB z q.base := h.2.2.2.1.2.2
theorem PC.call {U : State} {g : JFrame} {mk : MethodId} {a : Array Value} (h : PC dC dI z G U) : PC dC dI z G (U.calling g mk a) := ⟨h.1, va_K.moved (u := U) (U := U.calling g mk a) (Vm.Alike.refl U.vm) h.2.1, h.2.2.1, h.2.2.2.1, NC.same (s := U) (U := U.calling g mk a) rfl h.2.2.2.2⟩
theorem PC.blind {av : List Value} : FrameBlind (va_Pc av (PC dC dI z G)) := fun _ _ _ _ h => ⟨h.1, h.2.call⟩
theorem WC.preS {As : List Value} (h : WC dC dI z G s H locs) : PreS s H (va_Pc As (PC dC dI z G)) As := ⟨PC.blind, fun _ hU hW => ⟨rfl, h.P hU hW⟩⟩
theorem WC.to {G' : va_W} {H1 : Heap} {locs1 : List Loc} (h : WC dC dI z G s H locs) (h1 : va_P (dC, dI) vwCl G' H1) (h2 : va_D (zB z) G') (h3 : va_S (zB z) s.heap H1 locs1) : WC dC dI z G' s H1 locs1 := ⟨h1, h.2.1, h2, h3, h.2.2.2.2.1, h.2.2.2.2.2⟩
theorem WC.back {G' : va_W} {t : State} {H1 : Heap} {locs1 : List Loc} (h : WC dC dI z G s H locs) (ht : t.heap = H1) (hB : PC dC dI z G' t) (hS : va_S (zB z) s.heap H1 locs1) : WC dC dI z G' s H1 locs1 := ⟨by rw [← ht]; exact hB.1, h.2.1, hB.2.2.1, hS, h.2.2.2.2.1, h.2.2.2.2.2⟩
theorem WC.eqG {G' : va_W} (e : G = G') (h : WC dC dI z G s H locs) : WC dC dI z G' s H locs := e ▸ h
end KC
theorem cs_get {α : Type} {L M : List α} {j : Nat} : (L ++ M)[L.length + j]? = M[j]? := by
  rw [List.getElem?_append_right (Nat.le_add_right _ _), Nat.add_sub_cancel_left]
theorem cs_set {α : Type} {L M : List α} {j : Nat} {x : α} : (L ++ M).set (L.length + j) x = L ++ M.set j x := by
  induction L with
  | nil => rw [List.nil_append, List.nil_append]; exact congrArg (fun i => M.set i x) (Nat.zero_add j)
  | cons a L ih =>
    rw [List.cons_append, List.length_cons, show L.length + 1 + j = (L.length + j) + 1 by omega]
    exact congrArg (a :: ·) ih
theorem cs_k {α : Type} {G M : List α} {k : Nat} {x : α} (h : k < G.length) : (G.set k x ++ M)[k]? = some x := by
  rw [List.getElem?_append_left (by rw [List.length_set]; exact h), List.getElem?_set_self h]
theorem cs_kset {α : Type} {k : Nat} {x y : α} : ∀ {G M : List α}, k < G.length → (G.set k x ++ M).set k y = G.set k y ++ M := by
  intro G M h
  rw [List.set_append_left _ _ (by rw [List.length_set]; exact h), List.set_set]
section KC2
variable {p : Program} {l : Launch} {e : Env} {R : Room} {s : State} {m : MethodId} {args : Array Value} {below : List Frame} {meth : Method} {c : Code} {H : Heap} {locs : List Loc} {cells slots : Nat} {Q : State → Prop}
variable {cc : ByteArray} {pc : Nat} {ls : Array Slot} {rest st0 : List Value} {dC : Nat → ClassId} {dI : Nat → Nat → Nat} {z : Nat} {G : va_W} {index n : Nat} {own : String} {mc ms : Nat} {av : Array Value}
theorem kc_newI (hx : p.tables.exec = Jvm.exec) (hb : c.code = cc) (harr : (Cond.arrayClass .int).before args s = true) (hC : WC dC dI z G s H locs) (hn : n ≤ 65536) (hcells : cells + 1 ≤ R.cells) (hslots : slots + n ≤ R.slots) (hdg : decode cc pc = .ok (.newarray .int, 2))
    (kk : ∀ (q : Nat) (H1 : Heap), WC dC dI z (G ++ [(q, .inl (dC 20, n, .inl (fun _ => nI 0)))]) s H1 locs → W p l e R s m args below meth c H1 locs (cells + 1) (slots + n) Q (F0 m (pc + 2) ls (.ref q :: rest))) : W p l e R s m args below meth c H locs cells slots Q (F0 m pc ls (.int (nI n) :: rest)) := by
  refine va_newa (atype := .int) (ty := .int) (a0 := (n, .inl (fun _ => nI 0))) hx hb harr rfl hC.2.1 hC.1 hC.2.2.1 hC.2.2.2.1 (fun q hq => Nat.le_trans hC.2.2.2.2.1 hq) (fun cA => ?_) (nI_pos (by omega)) (nI_clamp (by omega)) (by show n * 4 ≤ 536870912; omega) hcells hslots hdg (fun q cA H1 hK1 h1 h2 h3 => ?_)
  · rfl
  · have e0 : cA = dC 20 := by
      have e1 := (hK1.2 0 (dC 20, .int) rfl).2
      have e2 := (hK1.2 5 (cA, .int) rfl).2
      exact Option.some.inj (e2.symm.trans e1)
    subst e0
    exact kk q H1 (hC.to h1 h2 h3)
theorem kc_newZ (hx : p.tables.exec = Jvm.exec) (hb : c.code = cc) (harr : (Cond.arrayClass .boolean).before args s = true) (hC : WC dC dI z G s H locs) (hn : n ≤ 65536) (hcells : cells + 1 ≤ R.cells) (hslots : slots + n ≤ R.slots) (hdg : decode cc pc = .ok (.newarray .boolean, 2))
    (kk : ∀ (q : Nat) (H1 : Heap), WC dC dI z (G ++ [(q, .inl (dC 21, n, .inl (fun _ => bI false)))]) s H1 locs → W p l e R s m args below meth c H1 locs (cells + 1) (slots + n) Q (F0 m (pc + 2) ls (.ref q :: rest))) : W p l e R s m args below meth c H locs cells slots Q (F0 m pc ls (.int (nI n) :: rest)) := by
  refine va_newa (atype := .boolean) (ty := .boolean) (a0 := (n, .inl (fun _ => bI false))) hx hb harr rfl hC.2.1 hC.1 hC.2.2.1 hC.2.2.2.1 (fun q hq => Nat.le_trans hC.2.2.2.2.1 hq) (fun cA => ?_) (nI_pos (by omega)) (nI_clamp (by omega)) (by show n * 1 ≤ 536870912; omega) hcells hslots hdg (fun q cA H1 hK1 h1 h2 h3 => ?_)
  · rfl
  · have e0 : cA = dC 21 := by
      have e1 := (hK1.2 1 (dC 21, .boolean) rfl).2
      have e2 := (hK1.2 5 (cA, .boolean) rfl).2
      exact Option.some.inj (e2.symm.trans e1)
    subst e0
    exact kk q H1 (hC.to h1 h2 h3)
theorem kc_newJ (hx : p.tables.exec = Jvm.exec) (hb : c.code = cc) (harr : (Cond.arrayClass .long).before args s = true) (hC : WC dC dI z G s H locs) (hn : n ≤ 65536) (hcells : cells + 1 ≤ R.cells) (hslots : slots + n ≤ R.slots) (hdg : decode cc pc = .ok (.newarray .long, 2))
    (kk : ∀ (q : Nat) (H1 : Heap), WC dC dI z (G ++ [(q, .inl (dC 22, n, .inr (.inl (fun _ => lN 0))))]) s H1 locs → W p l e R s m args below meth c H1 locs (cells + 1) (slots + n) Q (F0 m (pc + 2) ls (.ref q :: rest))) : W p l e R s m args below meth c H locs cells slots Q (F0 m pc ls (.int (nI n) :: rest)) := by
  refine va_newa (atype := .long) (ty := .long) (a0 := (n, .inr (.inl (fun _ => lN 0)))) hx hb harr rfl hC.2.1 hC.1 hC.2.2.1 hC.2.2.2.1 (fun q hq => Nat.le_trans hC.2.2.2.2.1 hq) (fun cA => ?_) (nI_pos (by omega)) (nI_clamp (by omega)) (by show n * 8 ≤ 536870912; omega) hcells hslots hdg (fun q cA H1 hK1 h1 h2 h3 => ?_)
  · rfl
  · have e0 : cA = dC 22 := by
      have e1 := (hK1.2 2 (dC 22, .long) rfl).2
      have e2 := (hK1.2 5 (cA, .long) rfl).2
      exact Option.some.inj (e2.symm.trans e1)
    subst e0
    exact kk q H1 (hC.to h1 h2 h3)
theorem kc_v {S1 : Type} {post : S1 → Prop} {Gf : S1 → va_W} (hr : va_Run p l e R s m args below meth c H locs cells slots mc ms (F0 m pc ls st0) rest (va_Qv post (fun u t => PC dC dI z (Gf u) t) (zB z) av) (zB z)) (hC : WC dC dI z G s H locs)
    (kk : ∀ (u : S1) (H1 : Heap) (locs1 : List Loc), post u → WC dC dI z (Gf u) s H1 locs1 → W p l e R s m args below meth c H1 locs1 (cells + mc) (slots + ms) Q (F0 m (pc + 3) ls rest)) : W p l e R s m args below meth c H locs cells slots Q (F0 m pc ls st0) :=
  va_callv hr hC.2.2.2.1 (fun _ _ h => h) (fun _ h => h) (fun u t H1 locs1 ht hvm hp hb1 _ _ hS => kk u H1 locs1 hp (hC.back ht hb1 hS))
end KC2
end
section
set_option maxHeartbeats 4000000 in
set_option maxRecDepth 100000 in
theorem m_X2_init (l : Launch) (dC : Nat → ClassId) (dI : Nat → Nat → Nat) (z : Nat) (G : va_W) (k r : Nat) (hG : G[k]? = some (r, .inr (4, [.null, .null, .int (nI 0)]))) : Met l yX2_init wsX2_init ({ frames := 1, cells := 2, slots := 32, locals := 20 } : Room) (va_Pc [.ref r] (PC dC dI z G)) (va_Qv (fun _ : Nat × Nat => True) (fun u t => PC dC dI z (G.set k (r, .inr (4, [.ref u.1, .ref u.2, .int (nI 0)])) ++ [(u.1, .inl (dC 20, 16, .inl (fun _ => nI 0))), (u.2, .inl (dC 20, 16, .inl (fun _ => nI 0)))]) t) (zB z)) 2 32 (zB z) := by
  refine ofWF (cc := cX2_init) (maxL := 1) (ret := none) (by decide +kernel) rfl ?_
  intro p e s m args below meth c s₁ B hml hv
  obtain ⟨rfl, hPC⟩ := hv
  have hx := B.exec
  have hb := B.bytes
  have hr := B.returns
  have hts := atoms_spec (ws := wsX2_init) B.pre
  have hown : s.vm.findClass RX2 = some m.cls := findClass_of_methodNamed B.named
  have hlocks := B.notSynchronized
  have hin2 : meth.name = "<init>" := (name_of_methodNamed B.named B.method).1
  have hinX2 : ∀ w ∈ u_ws RX2 TX2 3, w ∈ wsX2_init := tu 1322 (by decide +kernel) rfl
  have hk : k < G.length := (List.getElem?_eq_some_iff.mp hG).1
  have hC : WC dC dI z (G.set k (r, .inr (4, [.null, .null, .int (nI 0)])) ++ []) s s.heap [] := (WC.of hPC).eqG (by rw [set_same hG, List.append_nil])
  have hl := lv_entry ([.ref r]) (n := 1) (Nat.le_of_ble_eq_true rfl)
  rw [lg_entry_eq]
  generalize (lg_sl ([.ref r]) ++ List.replicate (1 - (lg_sl ([.ref r])).length) Slot.unset).toArray = ls at hl ⊢
  have hl : lv_has ls 1 [(0, .ref r)] := hl
  show W p l e ({ frames := 1, cells := 2, slots := 32, locals := 20 } : Room) s m ([.ref r]).toArray below meth c s.heap [] 0 0 (MQ below (va_Qv (fun _ : Nat × Nat => True) (fun u t => PC dC dI z (G.set k (r, .inr (4, [.ref u.1, .ref u.2, .int (nI 0)])) ++ [(u.1, .inl (dC 20, 16, .inl (fun _ => nI 0))), (u.2, .inl (dC 20, 16, .inl (fun _ => nI 0)))]) t) (zB z)) [.ref r].toArray s 2 32 (zB z)) (F0 m 0 ls [])
  refine lv_aload_n hx hb dX2_init_0 rfl (lv_at hl 0 rfl) ?_
  refine W.objInit hx hb hown (hts (.methodLink RX2 3 objectInit) (tm 23 (by decide +kernel) rfl)) (hts (.instanceMethod objectInit) (tm 1 (by decide +kernel) rfl)) (hts (.code objectInit ⟨#[0xb1]⟩ 1 none) (tm 2 (by decide +kernel) rfl)) (g := F0 m 1 ls [.ref r]) rfl (by rw [hml]; exact hl.1) rfl dX2_init_1 (Nat.le_of_ble_eq_true rfl) (Nat.le_of_ble_eq_true rfl) ?_
  show W p l e _ s m _ below meth c _ _ _ _ _ (F0 m 4 ls [])
  refine lv_aload_n hx hb dX2_init_4 rfl (lv_at hl 0 rfl) ?_
  refine lv_bipush (v := nI 16) hx hb dX2_init_5 (by decide) ?_
  refine kc_newI hx hb (hts (.arrayClass .int) (tm 24 (by decide +kernel) rfl)) hC (by omega) (Nat.le_of_ble_eq_true rfl) (Nat.le_of_ble_eq_true rfl) dX2_init_7 (fun q1 H hC => ?_)
  replace hC : WC dC dI z (G.set k (r, .inr (4, [.null, .null, .int (nI 0)])) ++ [(q1, .inl (dC 20, 16, .inl (fun _ => nI 0)))]) s H _ := hC.eqG (by rw [List.append_assoc]; rfl)
  refine va_putF (D := (dC, dI)) (ci := 4) (C := RX2) (T := TX2) (N := 3) (fs := [.null, .null, .int (nI 0)]) hx hb hts hinX2 tyX2 tyX2_ok nmX2 hown hC.2.1 hC.1 hC.2.2.1 hC.2.2.2.1 k (cs_k hk) rfl 0 (by decide) (hts (.fieldLink RX2 11 "Orderlattice$Row" "values" "[I") (tm 25 (by decide +kernel) rfl)) (fun _ h => h) rfl hin2 rfl rfl rfl rfl (Nat.le_of_ble_eq_true rfl) dX2_init_9 (fun H locs h1 h2 h3 => ?_)
  replace hC : WC dC dI z (G.set k (r, .inr (4, [.ref q1, .null, .int (nI 0)])) ++ [(q1, .inl (dC 20, 16, .inl (fun _ => nI 0)))]) s H locs := (hC.to h1 h2 h3).eqG (by rw [cs_kset hk]; rfl)
  refine lv_aload_n hx hb dX2_init_12 rfl (lv_at hl 0 rfl) ?_
  refine lv_bipush (v := nI 16) hx hb dX2_init_13 (by decide) ?_
  refine kc_newI hx hb (hts (.arrayClass .int) (tm 24 (by decide +kernel) rfl)) hC (by omega) (Nat.le_of_ble_eq_true rfl) (Nat.le_of_ble_eq_true rfl) dX2_init_15 (fun q2 H hC => ?_)
  replace hC : WC dC dI z (G.set k (r, .inr (4, [.ref q1, .null, .int (nI 0)])) ++ [(q1, .inl (dC 20, 16, .inl (fun _ => nI 0))), (q2, .inl (dC 20, 16, .inl (fun _ => nI 0)))]) s H _ := hC.eqG (by rw [List.append_assoc]; rfl)
  refine va_putF (D := (dC, dI)) (ci := 4) (C := RX2) (T := TX2) (N := 3) (fs := [.ref q1, .null, .int (nI 0)]) hx hb hts hinX2 tyX2 tyX2_ok nmX2 hown hC.2.1 hC.1 hC.2.2.1 hC.2.2.2.1 k (cs_k hk) rfl 1 (by decide) (hts (.fieldLink RX2 15 "Orderlattice$Row" "marks" "[I") (tm 26 (by decide +kernel) rfl)) (fun _ h => h) rfl hin2 rfl rfl rfl rfl (Nat.le_of_ble_eq_true rfl) dX2_init_17 (fun H locs h1 h2 h3 => ?_)
  replace hC : WC dC dI z (G.set k (r, .inr (4, [.ref q1, .ref q2, .int (nI 0)])) ++ [(q1, .inl (dC 20, 16, .inl (fun _ => nI 0))), (q2, .inl (dC 20, 16, .inl (fun _ => nI 0)))]) s H locs := (hC.to h1 h2 h3).eqG (by rw [cs_kset hk]; rfl)
  refine lv_aload_n hx hb dX2_init_20 rfl (lv_at hl 0 rfl) ?_
  refine lv_iconst (v := nI 0) hx hb dX2_init_21 (by decide) ?_
  refine va_put (D := (dC, dI)) (ci := 4) (C := RX2) (T := TX2) (N := 3) (fs := [.ref q1, .ref q2, .int (nI 0)]) hx hb hts hinX2 tyX2 tyX2_ok nmX2 hown hC.2.1 hC.1 hC.2.2.1 hC.2.2.2.1 k (cs_k hk) rfl 2 (by decide) (hts (.fieldLink RX2 18 "Orderlattice$Row" "many" "I") (tm 27 (by decide +kernel) rfl)) (fun _ h => h) rfl rfl rfl rfl (Nat.le_of_ble_eq_true rfl) dX2_init_22 (fun H locs h1 h2 h3 => ?_)
  replace hC : WC dC dI z (G.set k (r, .inr (4, [.ref q1, .ref q2, .int (nI 0)])) ++ [(q1, .inl (dC 20, 16, .inl (fun _ => nI 0))), (q2, .inl (dC 20, 16, .inl (fun _ => nI 0)))]) s H locs := (hC.to h1 h2 h3).eqG (by rw [cs_kset hk]; rfl)
  exact W.widen (k := 2) (n := 32) (by simp) (by simp) (W.vret hx hb hr (fun t9 ht9 hW9 => ⟨⟨(q1, q2), rfl, trivial, hC.P ht9 hW9⟩, hC.F ht9⟩) hC.L dX2_init_25)
set_option maxHeartbeats 4000000 in
set_option maxRecDepth 100000 in
theorem m_X1_init (l : Launch) (dC : Nat → ClassId) (dI : Nat → Nat → Nat) (z : Nat) (G : va_W) (k r : Nat) (hG : G[k]? = some (r, .inr (3, [.null, .null, .null, .null, .int (nI 0), .int (nI 0)]))) : Met l yX1_init wsX1_init ({ frames := 1, cells := 4, slots := 52, locals := 20 } : Room) (va_Pc [.ref r] (PC dC dI z G)) (va_Qv (fun _ : Nat × Nat × Nat × Nat => True) (fun u t => PC dC dI z (G.set k (r, .inr (3, [.ref u.1, .ref u.2.1, .ref u.2.2.1, .ref u.2.2.2, .int (nI 0), .int (nI 1)])) ++ [(u.1, .inl (dC 20, 10, .inl (fun _ => nI 0))), (u.2.1, .inl (dC 21, 10, .inl (fun _ => bI false))), (u.2.2.1, .inl (dC 22, 16, .inr (.inl (fun _ => lN 0)))), (u.2.2.2, .inl (dC 20, 16, .inl (fun _ => nI 0)))]) t) (zB z)) 4 52 (zB z) := by
  refine ofWF (cc := cX1_init) (maxL := 1) (ret := none) (by decide +kernel) rfl ?_
  intro p e s m args below meth c s₁ B hml hv
  obtain ⟨rfl, hPC⟩ := hv
  have hx := B.exec
  have hb := B.bytes
  have hr := B.returns
  have hts := atoms_spec (ws := wsX1_init) B.pre
  have hown : s.vm.findClass RX1 = some m.cls := findClass_of_methodNamed B.named
  have hlocks := B.notSynchronized
  have hin2 : meth.name = "<init>" := (name_of_methodNamed B.named B.method).1
  have hinX1 : ∀ w ∈ u_ws RX1 TX1 6, w ∈ wsX1_init := tu 1324 (by decide +kernel) rfl
  have hk : k < G.length := (List.getElem?_eq_some_iff.mp hG).1
  have hC : WC dC dI z (G.set k (r, .inr (3, [.null, .null, .null, .null, .int (nI 0), .int (nI 0)])) ++ []) s s.heap [] := (WC.of hPC).eqG (by rw [set_same hG, List.append_nil])
  have hl := lv_entry ([.ref r]) (n := 1) (Nat.le_of_ble_eq_true rfl)
  rw [lg_entry_eq]
  generalize (lg_sl ([.ref r]) ++ List.replicate (1 - (lg_sl ([.ref r])).length) Slot.unset).toArray = ls at hl ⊢
  have hl : lv_has ls 1 [(0, .ref r)] := hl
  show W p l e ({ frames := 1, cells := 4, slots := 52, locals := 20 } : Room) s m ([.ref r]).toArray below meth c s.heap [] 0 0 (MQ below (va_Qv (fun _ : Nat × Nat × Nat × Nat => True) (fun u t => PC dC dI z (G.set k (r, .inr (3, [.ref u.1, .ref u.2.1, .ref u.2.2.1, .ref u.2.2.2, .int (nI 0), .int (nI 1)])) ++ [(u.1, .inl (dC 20, 10, .inl (fun _ => nI 0))), (u.2.1, .inl (dC 21, 10, .inl (fun _ => bI false))), (u.2.2.1, .inl (dC 22, 16, .inr (.inl (fun _ => lN 0)))), (u.2.2.2, .inl (dC 20, 16, .inl (fun _ => nI 0)))]) t) (zB z)) [.ref r].toArray s 4 52 (zB z)) (F0 m 0 ls [])
  refine lv_aload_n hx hb dX1_init_0 rfl (lv_at hl 0 rfl) ?_
  refine W.objInit hx hb hown (hts (.methodLink RX1 3 objectInit) (tm 30 (by decide +kernel) rfl)) (hts (.instanceMethod objectInit) (tm 1 (by decide +kernel) rfl)) (hts (.code objectInit ⟨#[0xb1]⟩ 1 none) (tm 2 (by decide +kernel) rfl)) (g := F0 m 1 ls [.ref r]) rfl (by rw [hml]; exact hl.1) rfl dX1_init_1 (Nat.le_of_ble_eq_true rfl) (Nat.le_of_ble_eq_true rfl) ?_
  show W p l e _ s m _ below meth c _ _ _ _ _ (F0 m 4 ls [])
  refine lv_aload_n hx hb dX1_init_4 rfl (lv_at hl 0 rfl) ?_
  refine lv_bipush (v := nI 10) hx hb dX1_init_5 (by decide) ?_
  refine kc_newI hx hb (hts (.arrayClass .int) (tm 24 (by decide +kernel) rfl)) hC (by omega) (Nat.le_of_ble_eq_true rfl) (Nat.le_of_ble_eq_true rfl) dX1_init_7 (fun q1 H hC => ?_)
  replace hC : WC dC dI z (G.set k (r, .inr (3, [.null, .null, .null, .null, .int (nI 0), .int (nI 0)])) ++ [(q1, .inl (dC 20, 10, .inl (fun _ => nI 0)))]) s H _ := hC.eqG (by rw [List.append_assoc]; rfl)
  refine va_putF (D := (dC, dI)) (ci := 3) (C := RX1) (T := TX1) (N := 6) (fs := [.null, .null, .null, .null, .int (nI 0), .int (nI 0)]) hx hb hts hinX1 tyX1 tyX1_ok nmX1 hown hC.2.1 hC.1 hC.2.2.1 hC.2.2.2.1 k (cs_k hk) rfl 0 (by decide) (hts (.fieldLink RX1 11 "Orderlattice$Order" "keys" "[I") (tm 31 (by decide +kernel) rfl)) (fun _ h => h) rfl hin2 rfl rfl rfl rfl (Nat.le_of_ble_eq_true rfl) dX1_init_9 (fun H locs h1 h2 h3 => ?_)
  replace hC : WC dC dI z (G.set k (r, .inr (3, [.ref q1, .null, .null, .null, .int (nI 0), .int (nI 0)])) ++ [(q1, .inl (dC 20, 10, .inl (fun _ => nI 0)))]) s H locs := (hC.to h1 h2 h3).eqG (by rw [cs_kset hk]; rfl)
  refine lv_aload_n hx hb dX1_init_12 rfl (lv_at hl 0 rfl) ?_
  refine lv_bipush (v := nI 10) hx hb dX1_init_13 (by decide) ?_
  refine kc_newZ hx hb (hts (.arrayClass .boolean) (tm 32 (by decide +kernel) rfl)) hC (by omega) (Nat.le_of_ble_eq_true rfl) (Nat.le_of_ble_eq_true rfl) dX1_init_15 (fun q2 H hC => ?_)
  replace hC : WC dC dI z (G.set k (r, .inr (3, [.ref q1, .null, .null, .null, .int (nI 0), .int (nI 0)])) ++ [(q1, .inl (dC 20, 10, .inl (fun _ => nI 0))), (q2, .inl (dC 21, 10, .inl (fun _ => bI false)))]) s H _ := hC.eqG (by rw [List.append_assoc]; rfl)
  refine va_putF (D := (dC, dI)) (ci := 3) (C := RX1) (T := TX1) (N := 6) (fs := [.ref q1, .null, .null, .null, .int (nI 0), .int (nI 0)]) hx hb hts hinX1 tyX1 tyX1_ok nmX1 hown hC.2.1 hC.1 hC.2.2.1 hC.2.2.2.1 k (cs_k hk) rfl 1 (by decide) (hts (.fieldLink RX1 15 "Orderlattice$Order" "downs" "[Z") (tm 33 (by decide +kernel) rfl)) (fun _ h => h) rfl hin2 rfl rfl rfl rfl (Nat.le_of_ble_eq_true rfl) dX1_init_17 (fun H locs h1 h2 h3 => ?_)
  replace hC : WC dC dI z (G.set k (r, .inr (3, [.ref q1, .ref q2, .null, .null, .int (nI 0), .int (nI 0)])) ++ [(q1, .inl (dC 20, 10, .inl (fun _ => nI 0))), (q2, .inl (dC 21, 10, .inl (fun _ => bI false)))]) s H locs := (hC.to h1 h2 h3).eqG (by rw [cs_kset hk]; rfl)
  refine lv_aload_n hx hb dX1_init_20 rfl (lv_at hl 0 rfl) ?_
  refine lv_bipush (v := nI 16) hx hb dX1_init_21 (by decide) ?_
  refine kc_newJ hx hb (hts (.arrayClass .long) (tm 34 (by decide +kernel) rfl)) hC (by omega) (Nat.le_of_ble_eq_true rfl) (Nat.le_of_ble_eq_true rfl) dX1_init_23 (fun q3 H hC => ?_)
  replace hC : WC dC dI z (G.set k (r, .inr (3, [.ref q1, .ref q2, .null, .null, .int (nI 0), .int (nI 0)])) ++ [(q1, .inl (dC 20, 10, .inl (fun _ => nI 0))), (q2, .inl (dC 21, 10, .inl (fun _ => bI false))), (q3, .inl (dC 22, 16, .inr (.inl (fun _ => lN 0))))]) s H _ := hC.eqG (by rw [List.append_assoc]; rfl)
  refine va_putF (D := (dC, dI)) (ci := 3) (C := RX1) (T := TX1) (N := 6) (fs := [.ref q1, .ref q2, .null, .null, .int (nI 0), .int (nI 0)]) hx hb hts hinX1 tyX1 tyX1_ok nmX1 hown hC.2.1 hC.1 hC.2.2.1 hC.2.2.2.1 k (cs_k hk) rfl 2 (by decide) (hts (.fieldLink RX1 19 "Orderlattice$Order" "codes" "[J") (tm 35 (by decide +kernel) rfl)) (fun _ h => h) rfl hin2 rfl rfl rfl rfl (Nat.le_of_ble_eq_true rfl) dX1_init_25 (fun H locs h1 h2 h3 => ?_)
  replace hC : WC dC dI z (G.set k (r, .inr (3, [.ref q1, .ref q2, .ref q3, .null, .int (nI 0), .int (nI 0)])) ++ [(q1, .inl (dC 20, 10, .inl (fun _ => nI 0))), (q2, .inl (dC 21, 10, .inl (fun _ => bI false))), (q3, .inl (dC 22, 16, .inr (.inl (fun _ => lN 0))))]) s H locs := (hC.to h1 h2 h3).eqG (by rw [cs_kset hk]; rfl)
  refine lv_aload_n hx hb dX1_init_28 rfl (lv_at hl 0 rfl) ?_
  refine lv_bipush (v := nI 16) hx hb dX1_init_29 (by decide) ?_
  refine kc_newI hx hb (hts (.arrayClass .int) (tm 24 (by decide +kernel) rfl)) hC (by omega) (Nat.le_of_ble_eq_true rfl) (Nat.le_of_ble_eq_true rfl) dX1_init_31 (fun q4 H hC => ?_)
  replace hC : WC dC dI z (G.set k (r, .inr (3, [.ref q1, .ref q2, .ref q3, .null, .int (nI 0), .int (nI 0)])) ++ [(q1, .inl (dC 20, 10, .inl (fun _ => nI 0))), (q2, .inl (dC 21, 10, .inl (fun _ => bI false))), (q3, .inl (dC 22, 16, .inr (.inl (fun _ => lN 0)))), (q4, .inl (dC 20, 16, .inl (fun _ => nI 0)))]) s H _ := hC.eqG (by rw [List.append_assoc]; rfl)
  refine va_putF (D := (dC, dI)) (ci := 3) (C := RX1) (T := TX1) (N := 6) (fs := [.ref q1, .ref q2, .ref q3, .null, .int (nI 0), .int (nI 0)]) hx hb hts hinX1 tyX1 tyX1_ok nmX1 hown hC.2.1 hC.1 hC.2.2.1 hC.2.2.2.1 k (cs_k hk) rfl 3 (by decide) (hts (.fieldLink RX1 23 "Orderlattice$Order" "ranks" "[I") (tm 36 (by decide +kernel) rfl)) (fun _ h => h) rfl hin2 rfl rfl rfl rfl (Nat.le_of_ble_eq_true rfl) dX1_init_33 (fun H locs h1 h2 h3 => ?_)
  replace hC : WC dC dI z (G.set k (r, .inr (3, [.ref q1, .ref q2, .ref q3, .ref q4, .int (nI 0), .int (nI 0)])) ++ [(q1, .inl (dC 20, 10, .inl (fun _ => nI 0))), (q2, .inl (dC 21, 10, .inl (fun _ => bI false))), (q3, .inl (dC 22, 16, .inr (.inl (fun _ => lN 0)))), (q4, .inl (dC 20, 16, .inl (fun _ => nI 0)))]) s H locs := (hC.to h1 h2 h3).eqG (by rw [cs_kset hk]; rfl)
  refine lv_aload_n hx hb dX1_init_36 rfl (lv_at hl 0 rfl) ?_
  refine lv_iconst (v := nI 0) hx hb dX1_init_37 (by decide) ?_
  refine va_put (D := (dC, dI)) (ci := 3) (C := RX1) (T := TX1) (N := 6) (fs := [.ref q1, .ref q2, .ref q3, .ref q4, .int (nI 0), .int (nI 0)]) hx hb hts hinX1 tyX1 tyX1_ok nmX1 hown hC.2.1 hC.1 hC.2.2.1 hC.2.2.2.1 k (cs_k hk) rfl 4 (by decide) (hts (.fieldLink RX1 26 "Orderlattice$Order" "many" "I") (tm 37 (by decide +kernel) rfl)) (fun _ h => h) rfl rfl rfl rfl (Nat.le_of_ble_eq_true rfl) dX1_init_38 (fun H locs h1 h2 h3 => ?_)
  replace hC : WC dC dI z (G.set k (r, .inr (3, [.ref q1, .ref q2, .ref q3, .ref q4, .int (nI 0), .int (nI 0)])) ++ [(q1, .inl (dC 20, 10, .inl (fun _ => nI 0))), (q2, .inl (dC 21, 10, .inl (fun _ => bI false))), (q3, .inl (dC 22, 16, .inr (.inl (fun _ => lN 0)))), (q4, .inl (dC 20, 16, .inl (fun _ => nI 0)))]) s H locs := (hC.to h1 h2 h3).eqG (by rw [cs_kset hk]; rfl)
  refine lv_aload_n hx hb dX1_init_41 rfl (lv_at hl 0 rfl) ?_
  refine lv_iconst (v := nI 1) hx hb dX1_init_42 (by decide) ?_
  refine va_put (D := (dC, dI)) (ci := 3) (C := RX1) (T := TX1) (N := 6) (fs := [.ref q1, .ref q2, .ref q3, .ref q4, .int (nI 0), .int (nI 0)]) hx hb hts hinX1 tyX1 tyX1_ok nmX1 hown hC.2.1 hC.1 hC.2.2.1 hC.2.2.2.1 k (cs_k hk) rfl 5 (by decide) (hts (.fieldLink RX1 30 "Orderlattice$Order" "classes" "I") (tm 38 (by decide +kernel) rfl)) (fun _ h => h) rfl rfl rfl rfl (Nat.le_of_ble_eq_true rfl) dX1_init_43 (fun H locs h1 h2 h3 => ?_)
  replace hC : WC dC dI z (G.set k (r, .inr (3, [.ref q1, .ref q2, .ref q3, .ref q4, .int (nI 0), .int (nI 1)])) ++ [(q1, .inl (dC 20, 10, .inl (fun _ => nI 0))), (q2, .inl (dC 21, 10, .inl (fun _ => bI false))), (q3, .inl (dC 22, 16, .inr (.inl (fun _ => lN 0)))), (q4, .inl (dC 20, 16, .inl (fun _ => nI 0)))]) s H locs := (hC.to h1 h2 h3).eqG (by rw [cs_kset hk]; rfl)
  exact W.widen (k := 4) (n := 52) (by simp) (by simp) (W.vret hx hb hr (fun t9 ht9 hW9 => ⟨⟨(q1, q2, q3, q4), rfl, trivial, hC.P ht9 hW9⟩, hC.F ht9⟩) hC.L dX1_init_46)
set_option maxHeartbeats 4000000 in
set_option maxRecDepth 100000 in
theorem m_X3_init (l : Launch) (dC : Nat → ClassId) (dI : Nat → Nat → Nat) (z : Nat) (G : va_W) (k r : Nat) (hG : G[k]? = some (r, .inr (5, [.null]))) : Met l yX3_init wsX3_init ({ frames := 2, cells := 3, slots := 35, locals := 40 } : Room) (va_Pc [.ref r] (PC dC dI z G)) (va_Qv (fun _ : Nat × Nat × Nat => True) (fun u t => PC dC dI z (G.set k (r, .inr (5, [.ref u.1])) ++ [(u.1, .inr (4, [.ref u.2.1, .ref u.2.2, .int (nI 0)])), (u.2.1, .inl (dC 20, 16, .inl (fun _ => nI 0))), (u.2.2, .inl (dC 20, 16, .inl (fun _ => nI 0)))]) t) (zB z)) 3 35 (zB z) := by
  refine ofWF (cc := cX3_init) (maxL := 1) (ret := none) (by decide +kernel) rfl ?_
  intro p e s m args below meth c s₁ B hml hv
  obtain ⟨rfl, hPC⟩ := hv
  have hx := B.exec
  have hb := B.bytes
  have hr := B.returns
  have hts := atoms_spec (ws := wsX3_init) B.pre
  have hown : s.vm.findClass RX3 = some m.cls := findClass_of_methodNamed B.named
  have hlocks := B.notSynchronized
  have hin2 : meth.name = "<init>" := (name_of_methodNamed B.named B.method).1
  have hinX3 : ∀ w ∈ u_ws RX3 TX3 1, w ∈ wsX3_init := tu 1323 (by decide +kernel) rfl
  have hk : k < G.length := (List.getElem?_eq_some_iff.mp hG).1
  have hC : WC dC dI z (G.set k (r, .inr (5, [.null])) ++ []) s s.heap [] := (WC.of hPC).eqG (by rw [set_same hG, List.append_nil])
  have hl := lv_entry ([.ref r]) (n := 1) (Nat.le_of_ble_eq_true rfl)
  rw [lg_entry_eq]
  generalize (lg_sl ([.ref r]) ++ List.replicate (1 - (lg_sl ([.ref r])).length) Slot.unset).toArray = ls at hl ⊢
  have hl : lv_has ls 1 [(0, .ref r)] := hl
  show W p l e ({ frames := 2, cells := 3, slots := 35, locals := 40 } : Room) s m ([.ref r]).toArray below meth c s.heap [] 0 0 (MQ below (va_Qv (fun _ : Nat × Nat × Nat => True) (fun u t => PC dC dI z (G.set k (r, .inr (5, [.ref u.1])) ++ [(u.1, .inr (4, [.ref u.2.1, .ref u.2.2, .int (nI 0)])), (u.2.1, .inl (dC 20, 16, .inl (fun _ => nI 0))), (u.2.2, .inl (dC 20, 16, .inl (fun _ => nI 0)))]) t) (zB z)) [.ref r].toArray s 3 35 (zB z)) (F0 m 0 ls [])
  refine lv_aload_n hx hb dX3_init_0 rfl (lv_at hl 0 rfl) ?_
  refine W.objInit hx hb hown (hts (.methodLink RX3 1 objectInit) (tm 18 (by decide +kernel) rfl)) (hts (.instanceMethod objectInit) (tm 1 (by decide +kernel) rfl)) (hts (.code objectInit ⟨#[0xb1]⟩ 1 none) (tm 2 (by decide +kernel) rfl)) (g := F0 m 1 ls [.ref r]) rfl (by rw [hml]; exact hl.1) rfl dX3_init_1 (Nat.le_of_ble_eq_true rfl) (Nat.le_of_ble_eq_true rfl) ?_
  show W p l e _ s m _ below meth c _ _ _ _ _ (F0 m 4 ls [])
  refine lv_aload_n hx hb dX3_init_4 rfl (lv_at hl 0 rfl) ?_
  refine va_new (D := (dC, dI)) (ci := 4) (C := RX2) (T := TX2) (N := 3) (fs := [.null, .null, .int (nI 0)]) hx hb hts (by decide +kernel : ∀ w ∈ u_ws RX2 TX2 3, w ∈ wsX3_init) tyX2 tyX2_ok hown (hts (.classLink RX3 7 RX2) (tm 19 (by decide +kernel) rfl)) (hts (.instantiable RX2 3) (tm 8 (by decide +kernel) rfl)) (hts (.initialized RX2) (tm 9 (by decide +kernel) rfl)) hC.2.1 hC.1 hC.2.2.1 hC.2.2.2.1 (fun q hq => Nat.le_trans hC.2.2.2.2.1 hq) rfl (fun j hj => by rcases (show j = 0 ∨ j = 1 ∨ j = 2 by omega) with rfl | rfl | rfl <;> rfl) (Nat.le_of_ble_eq_true rfl) (Nat.le_of_ble_eq_true rfl) dX3_init_5 (fun q1 H h1 h2 h3 => ?_)
  replace hC : WC dC dI z (G.set k (r, .inr (5, [.null])) ++ [(q1, .inr (4, [.null, .null, .int (nI 0)]))]) s H _ := (hC.to h1 h2 h3).eqG (by rw [List.append_assoc]; rfl)
  refine lv_dup hx hb dX3_init_8 rfl ?_
  refine kc_v (va_runIN (As := []) (rest := [.ref q1, .ref r]) ⟨hx, hb, hml, hown, hts⟩ (m_X2_init l dC dI z (G.set k (r, .inr (5, [.null])) ++ [(q1, .inr (4, [.null, .null, .int (nI 0)]))]) ((G.set k (r, .inr (5, [.null]))).length + 0) q1 ((cs_get (L := (G.set k (r, .inr (5, [.null])))) (M := [(q1, .inr (4, [.null, .null, .int (nI 0)]))]) (j := 0)).trans rfl)) ⟨va_cnB 0 hts gX3_init_X2_init_n9 rfl rfl rfl hC.2.2.2.2.2.2.2.2.2.2.2.2 (hts (.initialized RX2) (tm 9 (by decide +kernel) rfl)) (by decide +kernel) ⟨Nat.le_of_ble_eq_true rfl, Nat.le_of_ble_eq_true rfl⟩, rfl, hts (.instanceMethod yX2_init) (by decide +kernel)⟩ hC.preS rfl rfl hl.1 rfl (lv_room (Nat.le_of_ble_eq_true rfl)) dX3_init_9 ⟨Nat.le_of_ble_eq_true rfl, Nat.le_of_ble_eq_true rfl⟩) hC (fun u2 H locs _ hC => ?_)
  replace hC : WC dC dI z (G.set k (r, .inr (5, [.null])) ++ [(q1, .inr (4, [.ref u2.1, .ref u2.2, .int (nI 0)])), (u2.1, .inl (dC 20, 16, .inl (fun _ => nI 0))), (u2.2, .inl (dC 20, 16, .inl (fun _ => nI 0)))]) s H locs := hC.eqG (by rw [cs_set, List.append_assoc]; rfl)
  refine va_putF (D := (dC, dI)) (ci := 5) (C := RX3) (T := TX3) (N := 1) (fs := [.null]) hx hb hts hinX3 tyX3 tyX3_ok nmX3 hown hC.2.1 hC.1 hC.2.2.1 hC.2.2.2.1 k (cs_k hk) rfl 0 (by decide) (hts (.fieldLink RX3 10 "Orderlattice$Sorter" "gathered" "LOrderlattice$Row;") (tm 20 (by decide +kernel) rfl)) (fun _ h => h) rfl hin2 rfl rfl rfl rfl (Nat.le_of_ble_eq_true rfl) dX3_init_12 (fun H locs h1 h2 h3 => ?_)
  replace hC : WC dC dI z (G.set k (r, .inr (5, [.ref q1])) ++ [(q1, .inr (4, [.ref u2.1, .ref u2.2, .int (nI 0)])), (u2.1, .inl (dC 20, 16, .inl (fun _ => nI 0))), (u2.2, .inl (dC 20, 16, .inl (fun _ => nI 0)))]) s H locs := (hC.to h1 h2 h3).eqG (by rw [cs_kset hk]; rfl)
  exact W.widen (k := 3) (n := 35) (by simp) (by simp) (W.vret hx hb hr (fun t9 ht9 hW9 => ⟨⟨(q1, u2), rfl, trivial, hC.P ht9 hW9⟩, hC.F ht9⟩) hC.L dX3_init_15)
set_option maxHeartbeats 4000000 in
set_option maxRecDepth 100000 in
theorem m_X0_init (l : Launch) (dC : Nat → ClassId) (dI : Nat → Nat → Nat) (z : Nat) (G : va_W) (k r : Nat) (hG : G[k]? = some (r, .inr (2, [.null, .null, .null, .null]))) : Met l yX0_init wsX0_init ({ frames := 3, cells := 15, slots := 167, locals := 60 } : Room) (va_Pc [.ref r] (PC dC dI z G)) (va_Qv (fun _ : Nat × (Nat × Nat × Nat) × Nat × (Nat × Nat) × Nat × (Nat × Nat) × Nat × Nat × Nat × Nat × Nat => True) (fun u t => PC dC dI z (G.set k (r, .inr (2, [.ref u.1, .ref u.2.2.1, .ref u.2.2.2.2.1, .ref u.2.2.2.2.2.2.1])) ++ [(u.1, .inr (5, [.ref u.2.1.1])), (u.2.1.1, .inr (4, [.ref u.2.1.2.1, .ref u.2.1.2.2, .int (nI 0)])), (u.2.1.2.1, .inl (dC 20, 16, .inl (fun _ => nI 0))), (u.2.1.2.2, .inl (dC 20, 16, .inl (fun _ => nI 0))), (u.2.2.1, .inr (4, [.ref u.2.2.2.1.1, .ref u.2.2.2.1.2, .int (nI 0)])), (u.2.2.2.1.1, .inl (dC 20, 16, .inl (fun _ => nI 0))), (u.2.2.2.1.2, .inl (dC 20, 16, .inl (fun _ => nI 0))), (u.2.2.2.2.1, .inr (4, [.ref u.2.2.2.2.2.1.1, .ref u.2.2.2.2.2.1.2, .int (nI 0)])), (u.2.2.2.2.2.1.1, .inl (dC 20, 16, .inl (fun _ => nI 0))), (u.2.2.2.2.2.1.2, .inl (dC 20, 16, .inl (fun _ => nI 0))), (u.2.2.2.2.2.2.1, .inr (3, [.ref u.2.2.2.2.2.2.2.1, .ref u.2.2.2.2.2.2.2.2.1, .ref u.2.2.2.2.2.2.2.2.2.1, .ref u.2.2.2.2.2.2.2.2.2.2, .int (nI 0), .int (nI 1)])), (u.2.2.2.2.2.2.2.1, .inl (dC 20, 10, .inl (fun _ => nI 0))), (u.2.2.2.2.2.2.2.2.1, .inl (dC 21, 10, .inl (fun _ => bI false))), (u.2.2.2.2.2.2.2.2.2.1, .inl (dC 22, 16, .inr (.inl (fun _ => lN 0)))), (u.2.2.2.2.2.2.2.2.2.2, .inl (dC 20, 16, .inl (fun _ => nI 0)))]) t) (zB z)) 15 167 (zB z) := by
  refine ofWF (cc := cX0_init) (maxL := 1) (ret := none) (by decide +kernel) rfl ?_
  intro p e s m args below meth c s₁ B hml hv
  obtain ⟨rfl, hPC⟩ := hv
  have hx := B.exec
  have hb := B.bytes
  have hr := B.returns
  have hts := atoms_spec (ws := wsX0_init) B.pre
  have hown : s.vm.findClass RX0 = some m.cls := findClass_of_methodNamed B.named
  have hlocks := B.notSynchronized
  have hin2 : meth.name = "<init>" := (name_of_methodNamed B.named B.method).1
  have hinX0 : ∀ w ∈ u_ws RX0 TX0 4, w ∈ wsX0_init := tu 1325 (by decide +kernel) rfl
  have hk : k < G.length := (List.getElem?_eq_some_iff.mp hG).1
  have hC : WC dC dI z (G.set k (r, .inr (2, [.null, .null, .null, .null])) ++ []) s s.heap [] := (WC.of hPC).eqG (by rw [set_same hG, List.append_nil])
  have hl := lv_entry ([.ref r]) (n := 1) (Nat.le_of_ble_eq_true rfl)
  rw [lg_entry_eq]
  generalize (lg_sl ([.ref r]) ++ List.replicate (1 - (lg_sl ([.ref r])).length) Slot.unset).toArray = ls at hl ⊢
  have hl : lv_has ls 1 [(0, .ref r)] := hl
  show W p l e ({ frames := 3, cells := 15, slots := 167, locals := 60 } : Room) s m ([.ref r]).toArray below meth c s.heap [] 0 0 (MQ below (va_Qv (fun _ : Nat × (Nat × Nat × Nat) × Nat × (Nat × Nat) × Nat × (Nat × Nat) × Nat × Nat × Nat × Nat × Nat => True) (fun u t => PC dC dI z (G.set k (r, .inr (2, [.ref u.1, .ref u.2.2.1, .ref u.2.2.2.2.1, .ref u.2.2.2.2.2.2.1])) ++ [(u.1, .inr (5, [.ref u.2.1.1])), (u.2.1.1, .inr (4, [.ref u.2.1.2.1, .ref u.2.1.2.2, .int (nI 0)])), (u.2.1.2.1, .inl (dC 20, 16, .inl (fun _ => nI 0))), (u.2.1.2.2, .inl (dC 20, 16, .inl (fun _ => nI 0))), (u.2.2.1, .inr (4, [.ref u.2.2.2.1.1, .ref u.2.2.2.1.2, .int (nI 0)])), (u.2.2.2.1.1, .inl (dC 20, 16, .inl (fun _ => nI 0))), (u.2.2.2.1.2, .inl (dC 20, 16, .inl (fun _ => nI 0))), (u.2.2.2.2.1, .inr (4, [.ref u.2.2.2.2.2.1.1, .ref u.2.2.2.2.2.1.2, .int (nI 0)])), (u.2.2.2.2.2.1.1, .inl (dC 20, 16, .inl (fun _ => nI 0))), (u.2.2.2.2.2.1.2, .inl (dC 20, 16, .inl (fun _ => nI 0))), (u.2.2.2.2.2.2.1, .inr (3, [.ref u.2.2.2.2.2.2.2.1, .ref u.2.2.2.2.2.2.2.2.1, .ref u.2.2.2.2.2.2.2.2.2.1, .ref u.2.2.2.2.2.2.2.2.2.2, .int (nI 0), .int (nI 1)])), (u.2.2.2.2.2.2.2.1, .inl (dC 20, 10, .inl (fun _ => nI 0))), (u.2.2.2.2.2.2.2.2.1, .inl (dC 21, 10, .inl (fun _ => bI false))), (u.2.2.2.2.2.2.2.2.2.1, .inl (dC 22, 16, .inr (.inl (fun _ => lN 0)))), (u.2.2.2.2.2.2.2.2.2.2, .inl (dC 20, 16, .inl (fun _ => nI 0)))]) t) (zB z)) [.ref r].toArray s 15 167 (zB z)) (F0 m 0 ls [])
  refine lv_aload_n hx hb dX0_init_0 rfl (lv_at hl 0 rfl) ?_
  refine W.objInit hx hb hown (hts (.methodLink RX0 3 objectInit) (tm 0 (by decide +kernel) rfl)) (hts (.instanceMethod objectInit) (tm 1 (by decide +kernel) rfl)) (hts (.code objectInit ⟨#[0xb1]⟩ 1 none) (tm 2 (by decide +kernel) rfl)) (g := F0 m 1 ls [.ref r]) rfl (by rw [hml]; exact hl.1) rfl dX0_init_1 (Nat.le_of_ble_eq_true rfl) (Nat.le_of_ble_eq_true rfl) ?_
  show W p l e _ s m _ below meth c _ _ _ _ _ (F0 m 4 ls [])
  refine lv_aload_n hx hb dX0_init_4 rfl (lv_at hl 0 rfl) ?_
  refine va_new (D := (dC, dI)) (ci := 5) (C := RX3) (T := TX3) (N := 1) (fs := [.null]) hx hb hts (by decide +kernel : ∀ w ∈ u_ws RX3 TX3 1, w ∈ wsX0_init) tyX3 tyX3_ok hown (hts (.classLink RX0 9 RX3) (tm 3 (by decide +kernel) rfl)) (hts (.instantiable RX3 1) (tm 4 (by decide +kernel) rfl)) (hts (.initialized RX3) (tm 5 (by decide +kernel) rfl)) hC.2.1 hC.1 hC.2.2.1 hC.2.2.2.1 (fun q hq => Nat.le_trans hC.2.2.2.2.1 hq) rfl (fun j hj => by rcases (show j = 0 by omega) with rfl <;> rfl) (Nat.le_of_ble_eq_true rfl) (Nat.le_of_ble_eq_true rfl) dX0_init_5 (fun q1 H h1 h2 h3 => ?_)
  replace hC : WC dC dI z (G.set k (r, .inr (2, [.null, .null, .null, .null])) ++ [(q1, .inr (5, [.null]))]) s H _ := (hC.to h1 h2 h3).eqG (by rw [List.append_assoc]; rfl)
  refine lv_dup hx hb dX0_init_8 rfl ?_
  refine kc_v (va_runIN (As := []) (rest := [.ref q1, .ref r]) ⟨hx, hb, hml, hown, hts⟩ (m_X3_init l dC dI z (G.set k (r, .inr (2, [.null, .null, .null, .null])) ++ [(q1, .inr (5, [.null]))]) ((G.set k (r, .inr (2, [.null, .null, .null, .null]))).length + 0) q1 ((cs_get (L := (G.set k (r, .inr (2, [.null, .null, .null, .null])))) (M := [(q1, .inr (5, [.null]))]) (j := 0)).trans rfl)) ⟨va_cnB 0 hts gX0_init_X3_init_n11 rfl rfl rfl hC.2.2.2.2.2.2.2.2.2.1 (hts (.initialized RX3) (tm 5 (by decide +kernel) rfl)) (by decide +kernel) ⟨Nat.le_of_ble_eq_true rfl, Nat.le_of_ble_eq_true rfl⟩, rfl, hts (.instanceMethod yX3_init) (by decide +kernel)⟩ hC.preS rfl rfl hl.1 rfl (lv_room (Nat.le_of_ble_eq_true rfl)) dX0_init_9 ⟨Nat.le_of_ble_eq_true rfl, Nat.le_of_ble_eq_true rfl⟩) hC (fun u2 H locs _ hC => ?_)
  replace hC : WC dC dI z (G.set k (r, .inr (2, [.null, .null, .null, .null])) ++ [(q1, .inr (5, [.ref u2.1])), (u2.1, .inr (4, [.ref u2.2.1, .ref u2.2.2, .int (nI 0)])), (u2.2.1, .inl (dC 20, 16, .inl (fun _ => nI 0))), (u2.2.2, .inl (dC 20, 16, .inl (fun _ => nI 0)))]) s H locs := hC.eqG (by rw [cs_set, List.append_assoc]; rfl)
  refine va_putF (D := (dC, dI)) (ci := 2) (C := RX0) (T := TX0) (N := 4) (fs := [.null, .null, .null, .null]) hx hb hts hinX0 tyX0 tyX0_ok nmX0 hown hC.2.1 hC.1 hC.2.2.1 hC.2.2.2.1 k (cs_k hk) rfl 0 (by decide) (hts (.fieldLink RX0 12 "Orderlattice$Auditor" "sorter" "LOrderlattice$Sorter;") (tm 6 (by decide +kernel) rfl)) (fun _ h => h) rfl hin2 rfl rfl rfl rfl (Nat.le_of_ble_eq_true rfl) dX0_init_12 (fun H locs h1 h2 h3 => ?_)
  replace hC : WC dC dI z (G.set k (r, .inr (2, [.ref q1, .null, .null, .null])) ++ [(q1, .inr (5, [.ref u2.1])), (u2.1, .inr (4, [.ref u2.2.1, .ref u2.2.2, .int (nI 0)])), (u2.2.1, .inl (dC 20, 16, .inl (fun _ => nI 0))), (u2.2.2, .inl (dC 20, 16, .inl (fun _ => nI 0)))]) s H locs := (hC.to h1 h2 h3).eqG (by rw [cs_kset hk]; rfl)
  refine lv_aload_n hx hb dX0_init_15 rfl (lv_at hl 0 rfl) ?_
  refine va_new (D := (dC, dI)) (ci := 4) (C := RX2) (T := TX2) (N := 3) (fs := [.null, .null, .int (nI 0)]) hx hb hts (by decide +kernel : ∀ w ∈ u_ws RX2 TX2 3, w ∈ wsX0_init) tyX2 tyX2_ok hown (hts (.classLink RX0 18 RX2) (tm 7 (by decide +kernel) rfl)) (hts (.instantiable RX2 3) (tm 8 (by decide +kernel) rfl)) (hts (.initialized RX2) (tm 9 (by decide +kernel) rfl)) hC.2.1 hC.1 hC.2.2.1 hC.2.2.2.1 (fun q hq => Nat.le_trans hC.2.2.2.2.1 hq) rfl (fun j hj => by rcases (show j = 0 ∨ j = 1 ∨ j = 2 by omega) with rfl | rfl | rfl <;> rfl) (Nat.le_of_ble_eq_true rfl) (Nat.le_of_ble_eq_true rfl) dX0_init_16 (fun q3 H h1 h2 h3 => ?_)
  replace hC : WC dC dI z (G.set k (r, .inr (2, [.ref q1, .null, .null, .null])) ++ [(q1, .inr (5, [.ref u2.1])), (u2.1, .inr (4, [.ref u2.2.1, .ref u2.2.2, .int (nI 0)])), (u2.2.1, .inl (dC 20, 16, .inl (fun _ => nI 0))), (u2.2.2, .inl (dC 20, 16, .inl (fun _ => nI 0))), (q3, .inr (4, [.null, .null, .int (nI 0)]))]) s H _ := (hC.to h1 h2 h3).eqG (by rw [List.append_assoc]; rfl)
  refine lv_dup hx hb dX0_init_19 rfl ?_
  refine kc_v (va_runIN (As := []) (rest := [.ref q3, .ref r]) ⟨hx, hb, hml, hown, hts⟩ (m_X2_init l dC dI z (G.set k (r, .inr (2, [.ref q1, .null, .null, .null])) ++ [(q1, .inr (5, [.ref u2.1])), (u2.1, .inr (4, [.ref u2.2.1, .ref u2.2.2, .int (nI 0)])), (u2.2.1, .inl (dC 20, 16, .inl (fun _ => nI 0))), (u2.2.2, .inl (dC 20, 16, .inl (fun _ => nI 0))), (q3, .inr (4, [.null, .null, .int (nI 0)]))]) ((G.set k (r, .inr (2, [.ref q1, .null, .null, .null]))).length + 4) q3 ((cs_get (L := (G.set k (r, .inr (2, [.ref q1, .null, .null, .null])))) (M := [(q1, .inr (5, [.ref u2.1])), (u2.1, .inr (4, [.ref u2.2.1, .ref u2.2.2, .int (nI 0)])), (u2.2.1, .inl (dC 20, 16, .inl (fun _ => nI 0))), (u2.2.2, .inl (dC 20, 16, .inl (fun _ => nI 0))), (q3, .inr (4, [.null, .null, .int (nI 0)]))]) (j := 4)).trans rfl)) ⟨va_cnB 0 hts gX0_init_X2_init_n20 rfl rfl rfl hC.2.2.2.2.2.2.2.2.2.2.1 (hts (.initialized RX2) (tm 9 (by decide +kernel) rfl)) (by decide +kernel) ⟨Nat.le_of_ble_eq_true rfl, Nat.le_of_ble_eq_true rfl⟩, rfl, hts (.instanceMethod yX2_init) (by decide +kernel)⟩ hC.preS rfl rfl hl.1 rfl (lv_room (Nat.le_of_ble_eq_true rfl)) dX0_init_20 ⟨Nat.le_of_ble_eq_true rfl, Nat.le_of_ble_eq_true rfl⟩) hC (fun u4 H locs _ hC => ?_)
  replace hC : WC dC dI z (G.set k (r, .inr (2, [.ref q1, .null, .null, .null])) ++ [(q1, .inr (5, [.ref u2.1])), (u2.1, .inr (4, [.ref u2.2.1, .ref u2.2.2, .int (nI 0)])), (u2.2.1, .inl (dC 20, 16, .inl (fun _ => nI 0))), (u2.2.2, .inl (dC 20, 16, .inl (fun _ => nI 0))), (q3, .inr (4, [.ref u4.1, .ref u4.2, .int (nI 0)])), (u4.1, .inl (dC 20, 16, .inl (fun _ => nI 0))), (u4.2, .inl (dC 20, 16, .inl (fun _ => nI 0)))]) s H locs := hC.eqG (by rw [cs_set, List.append_assoc]; rfl)
  refine va_putF (D := (dC, dI)) (ci := 2) (C := RX0) (T := TX0) (N := 4) (fs := [.ref q1, .null, .null, .null]) hx hb hts hinX0 tyX0 tyX0_ok nmX0 hown hC.2.1 hC.1 hC.2.2.1 hC.2.2.2.1 k (cs_k hk) rfl 1 (by decide) (hts (.fieldLink RX0 21 "Orderlattice$Auditor" "left" "LOrderlattice$Row;") (tm 10 (by decide +kernel) rfl)) (fun _ h => h) rfl hin2 rfl rfl rfl rfl (Nat.le_of_ble_eq_true rfl) dX0_init_23 (fun H locs h1 h2 h3 => ?_)
  replace hC : WC dC dI z (G.set k (r, .inr (2, [.ref q1, .ref q3, .null, .null])) ++ [(q1, .inr (5, [.ref u2.1])), (u2.1, .inr (4, [.ref u2.2.1, .ref u2.2.2, .int (nI 0)])), (u2.2.1, .inl (dC 20, 16, .inl (fun _ => nI 0))), (u2.2.2, .inl (dC 20, 16, .inl (fun _ => nI 0))), (q3, .inr (4, [.ref u4.1, .ref u4.2, .int (nI 0)])), (u4.1, .inl (dC 20, 16, .inl (fun _ => nI 0))), (u4.2, .inl (dC 20, 16, .inl (fun _ => nI 0)))]) s H locs := (hC.to h1 h2 h3).eqG (by rw [cs_kset hk]; rfl)
  refine lv_aload_n hx hb dX0_init_26 rfl (lv_at hl 0 rfl) ?_
  refine va_new (D := (dC, dI)) (ci := 4) (C := RX2) (T := TX2) (N := 3) (fs := [.null, .null, .int (nI 0)]) hx hb hts (by decide +kernel : ∀ w ∈ u_ws RX2 TX2 3, w ∈ wsX0_init) tyX2 tyX2_ok hown (hts (.classLink RX0 18 RX2) (tm 7 (by decide +kernel) rfl)) (hts (.instantiable RX2 3) (tm 8 (by decide +kernel) rfl)) (hts (.initialized RX2) (tm 9 (by decide +kernel) rfl)) hC.2.1 hC.1 hC.2.2.1 hC.2.2.2.1 (fun q hq => Nat.le_trans hC.2.2.2.2.1 hq) rfl (fun j hj => by rcases (show j = 0 ∨ j = 1 ∨ j = 2 by omega) with rfl | rfl | rfl <;> rfl) (Nat.le_of_ble_eq_true rfl) (Nat.le_of_ble_eq_true rfl) dX0_init_27 (fun q5 H h1 h2 h3 => ?_)
  replace hC : WC dC dI z (G.set k (r, .inr (2, [.ref q1, .ref q3, .null, .null])) ++ [(q1, .inr (5, [.ref u2.1])), (u2.1, .inr (4, [.ref u2.2.1, .ref u2.2.2, .int (nI 0)])), (u2.2.1, .inl (dC 20, 16, .inl (fun _ => nI 0))), (u2.2.2, .inl (dC 20, 16, .inl (fun _ => nI 0))), (q3, .inr (4, [.ref u4.1, .ref u4.2, .int (nI 0)])), (u4.1, .inl (dC 20, 16, .inl (fun _ => nI 0))), (u4.2, .inl (dC 20, 16, .inl (fun _ => nI 0))), (q5, .inr (4, [.null, .null, .int (nI 0)]))]) s H _ := (hC.to h1 h2 h3).eqG (by rw [List.append_assoc]; rfl)
  refine lv_dup hx hb dX0_init_30 rfl ?_
  refine kc_v (va_runIN (As := []) (rest := [.ref q5, .ref r]) ⟨hx, hb, hml, hown, hts⟩ (m_X2_init l dC dI z (G.set k (r, .inr (2, [.ref q1, .ref q3, .null, .null])) ++ [(q1, .inr (5, [.ref u2.1])), (u2.1, .inr (4, [.ref u2.2.1, .ref u2.2.2, .int (nI 0)])), (u2.2.1, .inl (dC 20, 16, .inl (fun _ => nI 0))), (u2.2.2, .inl (dC 20, 16, .inl (fun _ => nI 0))), (q3, .inr (4, [.ref u4.1, .ref u4.2, .int (nI 0)])), (u4.1, .inl (dC 20, 16, .inl (fun _ => nI 0))), (u4.2, .inl (dC 20, 16, .inl (fun _ => nI 0))), (q5, .inr (4, [.null, .null, .int (nI 0)]))]) ((G.set k (r, .inr (2, [.ref q1, .ref q3, .null, .null]))).length + 7) q5 ((cs_get (L := (G.set k (r, .inr (2, [.ref q1, .ref q3, .null, .null])))) (M := [(q1, .inr (5, [.ref u2.1])), (u2.1, .inr (4, [.ref u2.2.1, .ref u2.2.2, .int (nI 0)])), (u2.2.1, .inl (dC 20, 16, .inl (fun _ => nI 0))), (u2.2.2, .inl (dC 20, 16, .inl (fun _ => nI 0))), (q3, .inr (4, [.ref u4.1, .ref u4.2, .int (nI 0)])), (u4.1, .inl (dC 20, 16, .inl (fun _ => nI 0))), (u4.2, .inl (dC 20, 16, .inl (fun _ => nI 0))), (q5, .inr (4, [.null, .null, .int (nI 0)]))]) (j := 7)).trans rfl)) ⟨va_cnB 0 hts gX0_init_X2_init_n20 rfl rfl rfl hC.2.2.2.2.2.2.2.2.2.2.1 (hts (.initialized RX2) (tm 9 (by decide +kernel) rfl)) (by decide +kernel) ⟨Nat.le_of_ble_eq_true rfl, Nat.le_of_ble_eq_true rfl⟩, rfl, hts (.instanceMethod yX2_init) (by decide +kernel)⟩ hC.preS rfl rfl hl.1 rfl (lv_room (Nat.le_of_ble_eq_true rfl)) dX0_init_31 ⟨Nat.le_of_ble_eq_true rfl, Nat.le_of_ble_eq_true rfl⟩) hC (fun u6 H locs _ hC => ?_)
  replace hC : WC dC dI z (G.set k (r, .inr (2, [.ref q1, .ref q3, .null, .null])) ++ [(q1, .inr (5, [.ref u2.1])), (u2.1, .inr (4, [.ref u2.2.1, .ref u2.2.2, .int (nI 0)])), (u2.2.1, .inl (dC 20, 16, .inl (fun _ => nI 0))), (u2.2.2, .inl (dC 20, 16, .inl (fun _ => nI 0))), (q3, .inr (4, [.ref u4.1, .ref u4.2, .int (nI 0)])), (u4.1, .inl (dC 20, 16, .inl (fun _ => nI 0))), (u4.2, .inl (dC 20, 16, .inl (fun _ => nI 0))), (q5, .inr (4, [.ref u6.1, .ref u6.2, .int (nI 0)])), (u6.1, .inl (dC 20, 16, .inl (fun _ => nI 0))), (u6.2, .inl (dC 20, 16, .inl (fun _ => nI 0)))]) s H locs := hC.eqG (by rw [cs_set, List.append_assoc]; rfl)
  refine va_putF (D := (dC, dI)) (ci := 2) (C := RX0) (T := TX0) (N := 4) (fs := [.ref q1, .ref q3, .null, .null]) hx hb hts hinX0 tyX0 tyX0_ok nmX0 hown hC.2.1 hC.1 hC.2.2.1 hC.2.2.2.1 k (cs_k hk) rfl 2 (by decide) (hts (.fieldLink RX0 25 "Orderlattice$Auditor" "right" "LOrderlattice$Row;") (tm 11 (by decide +kernel) rfl)) (fun _ h => h) rfl hin2 rfl rfl rfl rfl (Nat.le_of_ble_eq_true rfl) dX0_init_34 (fun H locs h1 h2 h3 => ?_)
  replace hC : WC dC dI z (G.set k (r, .inr (2, [.ref q1, .ref q3, .ref q5, .null])) ++ [(q1, .inr (5, [.ref u2.1])), (u2.1, .inr (4, [.ref u2.2.1, .ref u2.2.2, .int (nI 0)])), (u2.2.1, .inl (dC 20, 16, .inl (fun _ => nI 0))), (u2.2.2, .inl (dC 20, 16, .inl (fun _ => nI 0))), (q3, .inr (4, [.ref u4.1, .ref u4.2, .int (nI 0)])), (u4.1, .inl (dC 20, 16, .inl (fun _ => nI 0))), (u4.2, .inl (dC 20, 16, .inl (fun _ => nI 0))), (q5, .inr (4, [.ref u6.1, .ref u6.2, .int (nI 0)])), (u6.1, .inl (dC 20, 16, .inl (fun _ => nI 0))), (u6.2, .inl (dC 20, 16, .inl (fun _ => nI 0)))]) s H locs := (hC.to h1 h2 h3).eqG (by rw [cs_kset hk]; rfl)
  refine lv_aload_n hx hb dX0_init_37 rfl (lv_at hl 0 rfl) ?_
  refine va_new (D := (dC, dI)) (ci := 3) (C := RX1) (T := TX1) (N := 6) (fs := [.null, .null, .null, .null, .int (nI 0), .int (nI 0)]) hx hb hts (by decide +kernel : ∀ w ∈ u_ws RX1 TX1 6, w ∈ wsX0_init) tyX1 tyX1_ok hown (hts (.classLink RX0 28 RX1) (tm 12 (by decide +kernel) rfl)) (hts (.instantiable RX1 6) (tm 13 (by decide +kernel) rfl)) (hts (.initialized RX1) (tm 14 (by decide +kernel) rfl)) hC.2.1 hC.1 hC.2.2.1 hC.2.2.2.1 (fun q hq => Nat.le_trans hC.2.2.2.2.1 hq) rfl (fun j hj => by rcases (show j = 0 ∨ j = 1 ∨ j = 2 ∨ j = 3 ∨ j = 4 ∨ j = 5 by omega) with rfl | rfl | rfl | rfl | rfl | rfl <;> rfl) (Nat.le_of_ble_eq_true rfl) (Nat.le_of_ble_eq_true rfl) dX0_init_38 (fun q7 H h1 h2 h3 => ?_)
  replace hC : WC dC dI z (G.set k (r, .inr (2, [.ref q1, .ref q3, .ref q5, .null])) ++ [(q1, .inr (5, [.ref u2.1])), (u2.1, .inr (4, [.ref u2.2.1, .ref u2.2.2, .int (nI 0)])), (u2.2.1, .inl (dC 20, 16, .inl (fun _ => nI 0))), (u2.2.2, .inl (dC 20, 16, .inl (fun _ => nI 0))), (q3, .inr (4, [.ref u4.1, .ref u4.2, .int (nI 0)])), (u4.1, .inl (dC 20, 16, .inl (fun _ => nI 0))), (u4.2, .inl (dC 20, 16, .inl (fun _ => nI 0))), (q5, .inr (4, [.ref u6.1, .ref u6.2, .int (nI 0)])), (u6.1, .inl (dC 20, 16, .inl (fun _ => nI 0))), (u6.2, .inl (dC 20, 16, .inl (fun _ => nI 0))), (q7, .inr (3, [.null, .null, .null, .null, .int (nI 0), .int (nI 0)]))]) s H _ := (hC.to h1 h2 h3).eqG (by rw [List.append_assoc]; rfl)
  refine lv_dup hx hb dX0_init_41 rfl ?_
  refine kc_v (va_runIN (As := []) (rest := [.ref q7, .ref r]) ⟨hx, hb, hml, hown, hts⟩ (m_X1_init l dC dI z (G.set k (r, .inr (2, [.ref q1, .ref q3, .ref q5, .null])) ++ [(q1, .inr (5, [.ref u2.1])), (u2.1, .inr (4, [.ref u2.2.1, .ref u2.2.2, .int (nI 0)])), (u2.2.1, .inl (dC 20, 16, .inl (fun _ => nI 0))), (u2.2.2, .inl (dC 20, 16, .inl (fun _ => nI 0))), (q3, .inr (4, [.ref u4.1, .ref u4.2, .int (nI 0)])), (u4.1, .inl (dC 20, 16, .inl (fun _ => nI 0))), (u4.2, .inl (dC 20, 16, .inl (fun _ => nI 0))), (q5, .inr (4, [.ref u6.1, .ref u6.2, .int (nI 0)])), (u6.1, .inl (dC 20, 16, .inl (fun _ => nI 0))), (u6.2, .inl (dC 20, 16, .inl (fun _ => nI 0))), (q7, .inr (3, [.null, .null, .null, .null, .int (nI 0), .int (nI 0)]))]) ((G.set k (r, .inr (2, [.ref q1, .ref q3, .ref q5, .null]))).length + 10) q7 ((cs_get (L := (G.set k (r, .inr (2, [.ref q1, .ref q3, .ref q5, .null])))) (M := [(q1, .inr (5, [.ref u2.1])), (u2.1, .inr (4, [.ref u2.2.1, .ref u2.2.2, .int (nI 0)])), (u2.2.1, .inl (dC 20, 16, .inl (fun _ => nI 0))), (u2.2.2, .inl (dC 20, 16, .inl (fun _ => nI 0))), (q3, .inr (4, [.ref u4.1, .ref u4.2, .int (nI 0)])), (u4.1, .inl (dC 20, 16, .inl (fun _ => nI 0))), (u4.2, .inl (dC 20, 16, .inl (fun _ => nI 0))), (q5, .inr (4, [.ref u6.1, .ref u6.2, .int (nI 0)])), (u6.1, .inl (dC 20, 16, .inl (fun _ => nI 0))), (u6.2, .inl (dC 20, 16, .inl (fun _ => nI 0))), (q7, .inr (3, [.null, .null, .null, .null, .int (nI 0), .int (nI 0)]))]) (j := 10)).trans rfl)) ⟨va_cnB 0 hts gX0_init_X1_init_n30 rfl rfl rfl hC.2.2.2.2.2.2.2.2.2.2.2.1 (hts (.initialized RX1) (tm 14 (by decide +kernel) rfl)) (by decide +kernel) ⟨Nat.le_of_ble_eq_true rfl, Nat.le_of_ble_eq_true rfl⟩, rfl, hts (.instanceMethod yX1_init) (by decide +kernel)⟩ hC.preS rfl rfl hl.1 rfl (lv_room (Nat.le_of_ble_eq_true rfl)) dX0_init_42 ⟨Nat.le_of_ble_eq_true rfl, Nat.le_of_ble_eq_true rfl⟩) hC (fun u8 H locs _ hC => ?_)
  replace hC : WC dC dI z (G.set k (r, .inr (2, [.ref q1, .ref q3, .ref q5, .null])) ++ [(q1, .inr (5, [.ref u2.1])), (u2.1, .inr (4, [.ref u2.2.1, .ref u2.2.2, .int (nI 0)])), (u2.2.1, .inl (dC 20, 16, .inl (fun _ => nI 0))), (u2.2.2, .inl (dC 20, 16, .inl (fun _ => nI 0))), (q3, .inr (4, [.ref u4.1, .ref u4.2, .int (nI 0)])), (u4.1, .inl (dC 20, 16, .inl (fun _ => nI 0))), (u4.2, .inl (dC 20, 16, .inl (fun _ => nI 0))), (q5, .inr (4, [.ref u6.1, .ref u6.2, .int (nI 0)])), (u6.1, .inl (dC 20, 16, .inl (fun _ => nI 0))), (u6.2, .inl (dC 20, 16, .inl (fun _ => nI 0))), (q7, .inr (3, [.ref u8.1, .ref u8.2.1, .ref u8.2.2.1, .ref u8.2.2.2, .int (nI 0), .int (nI 1)])), (u8.1, .inl (dC 20, 10, .inl (fun _ => nI 0))), (u8.2.1, .inl (dC 21, 10, .inl (fun _ => bI false))), (u8.2.2.1, .inl (dC 22, 16, .inr (.inl (fun _ => lN 0)))), (u8.2.2.2, .inl (dC 20, 16, .inl (fun _ => nI 0)))]) s H locs := hC.eqG (by rw [cs_set, List.append_assoc]; rfl)
  refine va_putF (D := (dC, dI)) (ci := 2) (C := RX0) (T := TX0) (N := 4) (fs := [.ref q1, .ref q3, .ref q5, .null]) hx hb hts hinX0 tyX0 tyX0_ok nmX0 hown hC.2.1 hC.1 hC.2.2.1 hC.2.2.2.1 k (cs_k hk) rfl 3 (by decide) (hts (.fieldLink RX0 31 "Orderlattice$Auditor" "made" "LOrderlattice$Order;") (tm 15 (by decide +kernel) rfl)) (fun _ h => h) rfl hin2 rfl rfl rfl rfl (Nat.le_of_ble_eq_true rfl) dX0_init_45 (fun H locs h1 h2 h3 => ?_)
  replace hC : WC dC dI z (G.set k (r, .inr (2, [.ref q1, .ref q3, .ref q5, .ref q7])) ++ [(q1, .inr (5, [.ref u2.1])), (u2.1, .inr (4, [.ref u2.2.1, .ref u2.2.2, .int (nI 0)])), (u2.2.1, .inl (dC 20, 16, .inl (fun _ => nI 0))), (u2.2.2, .inl (dC 20, 16, .inl (fun _ => nI 0))), (q3, .inr (4, [.ref u4.1, .ref u4.2, .int (nI 0)])), (u4.1, .inl (dC 20, 16, .inl (fun _ => nI 0))), (u4.2, .inl (dC 20, 16, .inl (fun _ => nI 0))), (q5, .inr (4, [.ref u6.1, .ref u6.2, .int (nI 0)])), (u6.1, .inl (dC 20, 16, .inl (fun _ => nI 0))), (u6.2, .inl (dC 20, 16, .inl (fun _ => nI 0))), (q7, .inr (3, [.ref u8.1, .ref u8.2.1, .ref u8.2.2.1, .ref u8.2.2.2, .int (nI 0), .int (nI 1)])), (u8.1, .inl (dC 20, 10, .inl (fun _ => nI 0))), (u8.2.1, .inl (dC 21, 10, .inl (fun _ => bI false))), (u8.2.2.1, .inl (dC 22, 16, .inr (.inl (fun _ => lN 0)))), (u8.2.2.2, .inl (dC 20, 16, .inl (fun _ => nI 0)))]) s H locs := (hC.to h1 h2 h3).eqG (by rw [cs_kset hk]; rfl)
  exact W.widen (k := 15) (n := 167) (by simp) (by simp) (W.vret hx hb hr (fun t9 ht9 hW9 => ⟨⟨(q1, u2, q3, u4, q5, u6, q7, u8), rfl, trivial, hC.P ht9 hW9⟩, hC.F ht9⟩) hC.L dX0_init_48)
end
section
/-! THE REFERENCE'S WORLD: 21 cells by index: 0 the object, 1 values, 2 marks, 3 sizes, 4 keys, 5 downs, 6 steps, 7..9 the values of rows, 10..12 the marks of rows, 13..16 the keys of orders, 17..20 the downs of orders -/
abbrev OrdM : Type := (Nat → Nat) × (Nat → Bool) × Nat
abbrev MS : Type := (Nat → RowS) × (Nat → OrdM) × Nat × Nat × Nat × Nat
def mAr (am : Nat → Nat) (n b : Nat) : Nat → Option Nat := fun i => if i < n then some (am (b + i)) else none
theorem mAr_in {am : Nat → Nat} {n b i : Nat} (h : i < n) : mAr am n b i = some (am (b + i)) := if_pos h
def kTopM (dC : Nat → ClassId) (am : Nat → Nat) (M : MS) (k : Nat) : va_E := match k with
  | 0 => .inr (8, [.int (nI M.2.2.1), .ref (am 1), .ref (am 2), .ref (am 3), .ref (am 4), .ref (am 5), .ref (am 6), .int (nI M.2.2.2.1), .int (nI M.2.2.2.2.1), .int (nI M.2.2.2.2.2)])
  | 1 => .inl (dC 25, 3, .inr (.inr (.inr (.inr (mAr am 3 7)))))
  | 2 => .inl (dC 25, 3, .inr (.inr (.inr (.inr (mAr am 3 10)))))
  | 3 => .inl (dC 20, 3, .inl (fun i => nI (M.1 i).2.2))
  | 4 => .inl (dC 25, 4, .inr (.inr (.inr (.inr (mAr am 4 13)))))
  | 5 => .inl (dC 26, 4, .inr (.inr (.inr (.inr (mAr am 4 17)))))
  | _ => .inl (dC 20, 4, .inl (fun j => nI (M.2.1 j).2.2))
def kM (dC : Nat → ClassId) (am : Nat → Nat) (M : MS) (k : Nat) : va_E := if k < 7 then kTopM dC am M k else if k < 10 then .inl (dC 20, 12, .inl (fun q => nI ((M.1 (k - 7)).1 q))) else if k < 13 then .inl (dC 20, 12, .inl (fun q => nI ((M.1 (k - 10)).2.1 q))) else if k < 17 then .inl (dC 20, 5, .inl (fun q => nI ((M.2.1 (k - 13)).1 q))) else .inl (dC 21, 5, .inl (fun q => bI ((M.2.1 (k - 17)).2.1 q)))
def wM (dC : Nat → ClassId) (am : Nat → Nat) (M : MS) : va_W := (List.range 21).map (fun k => (am k, kM dC am M k))
def tyM (dC : Nat → ClassId) : List (ClassId × FieldType) := [(dC 20, .int), (dC 21, .boolean), (dC 25, .array .int), (dC 26, .array .boolean)]
/-- row i becomes r -/
def mR (M : MS) (i : Nat) (r : RowS) : MS := (va_up M.1 i r, M.2)
/-- order j becomes o -/
def mO (M : MS) (j : Nat) (o : OrdM) : MS := (M.1, va_up M.2.1 j o, M.2.2)
/-- the counters: thrown, put, refused, knocks -/
def mN (M : MS) (n : Nat × Nat × Nat × Nat) : MS := (M.1, M.2.1, n)
theorem mR_row (M : MS) (i : Nat) (r : RowS) : (mR M i r).1 i = r := va_up_self _ _ _
theorem mR_ne (M : MS) {i j : Nat} (r : RowS) (h : j ≠ i) : (mR M i r).1 j = M.1 j := va_up_ne _ _ h
theorem mO_ord (M : MS) (i : Nat) (r : OrdM) : (mO M i r).2.1 i = r := va_up_self _ _ _
theorem mO_ne (M : MS) {i j : Nat} (r : OrdM) (h : j ≠ i) : (mO M i r).2.1 j = M.2.1 j := va_up_ne _ _ h
theorem mR_mR (M : MS) (i : Nat) (r r' : RowS) : mR (mR M i r) i r' = mR M i r' := by
  unfold mR
  rw [bx_uu]
theorem mO_mO (M : MS) (i : Nat) (o o' : OrdM) : mO (mO M i o) i o' = mO M i o' := by
  unfold mO
  dsimp only
  rw [bx_uu]
theorem mR_self (M : MS) (i : Nat) : mR M i (M.1 i) = M := by
  unfold mR
  have h : va_up M.1 i (M.1 i) = M.1 := by
    funext j
    unfold va_up
    split
    · rename_i h; rw [h]
    · rfl
  rw [h]
theorem mO_self (M : MS) (i : Nat) : mO M i (M.2.1 i) = M := by
  unfold mO
  have h : va_up M.2.1 i (M.2.1 i) = M.2.1 := by
    funext j
    unfold va_up
    split
    · rename_i h; rw [h]
    · rfl
  rw [h]
theorem kM_v {dC : Nat → ClassId} {am : Nat → Nat} {M : MS} {i : Nat} (hi : i < 3) : kM dC am M (7 + i) = .inl (dC 20, 12, .inl (fun q => nI ((M.1 i).1 q))) := by
  rw [kM, if_neg (by omega), if_pos (by omega), show 7 + i - 7 = i by omega]
theorem kM_m {dC : Nat → ClassId} {am : Nat → Nat} {M : MS} {i : Nat} (hi : i < 3) : kM dC am M (10 + i) = .inl (dC 20, 12, .inl (fun q => nI ((M.1 i).2.1 q))) := by
  rw [kM, if_neg (by omega), if_neg (by omega), if_pos (by omega), show 10 + i - 10 = i by omega]
theorem kM_k {dC : Nat → ClassId} {am : Nat → Nat} {M : MS} {j : Nat} (hj : j < 4) : kM dC am M (13 + j) = .inl (dC 20, 5, .inl (fun q => nI ((M.2.1 j).1 q))) := by
  rw [kM, if_neg (by omega), if_neg (by omega), if_neg (by omega), if_pos (by omega), show 13 + j - 13 = j by omega]
theorem kM_d {dC : Nat → ClassId} {am : Nat → Nat} {M : MS} {j : Nat} (_ : j < 4) : kM dC am M (17 + j) = .inl (dC 21, 5, .inl (fun q => bI ((M.2.1 j).2.1 q))) := by
  rw [kM, if_neg (by omega), if_neg (by omega), if_neg (by omega), if_neg (by omega), show 17 + j - 17 = j by omega]
theorem kM_mR {dC : Nat → ClassId} {am : Nat → Nat} {M : MS} {i j : Nat} {r : RowS} (hi : i < 3) (h3 : j = 3 → r.2.2 = (M.1 i).2.2) (h7 : j = 7 + i → r.1 = (M.1 i).1) (h10 : j = 10 + i → r.2.1 = (M.1 i).2.1) : kM dC am (mR M i r) j = kM dC am M j := by
  by_cases a : j < 7
  · rw [kM, kM, if_pos a, if_pos a]
    by_cases e : j = 3
    · subst e
      have hf : (fun k => nI ((mR M i r).1 k).2.2) = fun k => nI (M.1 k).2.2 := by
        funext k
        by_cases hk : k = i
        · subst hk
          rw [mR_row, h3 rfl]
        · rw [mR_ne _ _ hk]
      show (Sum.inl _ : va_E) = Sum.inl _
      rw [hf]
    · rcases (show j = 0 ∨ j = 1 ∨ j = 2 ∨ j = 4 ∨ j = 5 ∨ j = 6 by omega) with rfl | rfl | rfl | rfl | rfl | rfl <;> rfl
  · by_cases b : j < 10
    · obtain ⟨k, hk, rfl⟩ : ∃ k, k < 3 ∧ j = 7 + k := ⟨j - 7, by omega, by omega⟩
      rw [kM_v hk, kM_v hk]
      by_cases e : k = i
      · subst e
        rw [mR_row, h7 rfl]
      · rw [mR_ne _ _ e]
    · by_cases d : j < 13
      · obtain ⟨k, hk, rfl⟩ : ∃ k, k < 3 ∧ j = 10 + k := ⟨j - 10, by omega, by omega⟩
        rw [kM_m hk, kM_m hk]
        by_cases e : k = i
        · subst e
          rw [mR_row, h10 rfl]
        · rw [mR_ne _ _ e]
      · rw [kM, kM, if_neg a, if_neg a, if_neg b, if_neg b, if_neg d, if_neg d]
        rfl
theorem kM_mO {dC : Nat → ClassId} {am : Nat → Nat} {M : MS} {i j : Nat} {o : OrdM} (hi : i < 4) (h6 : j = 6 → o.2.2 = (M.2.1 i).2.2) (h13 : j = 13 + i → o.1 = (M.2.1 i).1) (h17 : j = 17 + i → o.2.1 = (M.2.1 i).2.1) (hj : j < 21) : kM dC am (mO M i o) j = kM dC am M j := by
  by_cases a : j < 7
  · rw [kM, kM, if_pos a, if_pos a]
    by_cases e : j = 6
    · subst e
      have hf : (fun k => nI ((mO M i o).2.1 k).2.2) = fun k => nI (M.2.1 k).2.2 := by
        funext k
        by_cases hk : k = i
        · subst hk
          rw [mO_ord, h6 rfl]
        · rw [mO_ne _ _ hk]
      show (Sum.inl _ : va_E) = Sum.inl _
      rw [hf]
    · rcases (show j = 0 ∨ j = 1 ∨ j = 2 ∨ j = 3 ∨ j = 4 ∨ j = 5 by omega) with rfl | rfl | rfl | rfl | rfl | rfl <;> rfl
  · by_cases b : j < 13
    · by_cases d : j < 10
      · rw [kM, kM, if_neg a, if_neg a, if_pos d, if_pos d]
        rfl
      · rw [kM, kM, if_neg a, if_neg a, if_neg d, if_neg d, if_pos b, if_pos b]
        rfl
    · by_cases d : j < 17
      · obtain ⟨k, hk, rfl⟩ : ∃ k, k < 4 ∧ j = 13 + k := ⟨j - 13, by omega, by omega⟩
        rw [kM_k hk, kM_k hk]
        by_cases e : k = i
        · subst e
          rw [mO_ord, h13 rfl]
        · rw [mO_ne _ _ e]
      · obtain ⟨k, hk, rfl⟩ : ∃ k, k < 4 ∧ j = 17 + k := ⟨j - 17, by omega, by omega⟩
        rw [kM_d hk, kM_d hk]
        by_cases e : k = i
        · subst e
          rw [mO_ord, h17 rfl]
        · rw [mO_ne _ _ e]
theorem kM_mN {dC : Nat → ClassId} {am : Nat → Nat} {M : MS} {n : Nat × Nat × Nat × Nat} {j : Nat} (hj : j ≠ 0) : kM dC am (mN M n) j = kM dC am M j := by
  by_cases a : j < 7
  · rw [kM, kM, if_pos a, if_pos a]
    rcases (show j = 1 ∨ j = 2 ∨ j = 3 ∨ j = 4 ∨ j = 5 ∨ j = 6 by omega) with rfl | rfl | rfl | rfl | rfl | rfl <;> rfl
  · rw [kM, kM, if_neg a, if_neg a]
    rfl
theorem wM_get {dC : Nat → ClassId} {am : Nat → Nat} {M : MS} {k : Nat} (hk : k < 21) : (wM dC am M)[k]? = some (am k, kM dC am M k) := by
  rw [wM, List.getElem?_map, List.getElem?_range hk]
  rfl
theorem wM_len {dC : Nat → ClassId} {am : Nat → Nat} {M : MS} : (wM dC am M).length = 21 := by rw [wM, List.length_map, List.length_range]
theorem wL_get {dC : Nat → ClassId} {am : Nat → Nat} {M : MS} {L : va_W} {k : Nat} (hk : k < 21) : (wM dC am M ++ L)[k]? = some (am k, kM dC am M k) := by
  rw [List.getElem?_append_left (by rw [wM_len]; exact hk), wM_get hk]
theorem wL_loc {dC : Nat → ClassId} {am : Nat → Nat} {M : MS} {L : va_W} {j : Nat} : (wM dC am M ++ L)[21 + j]? = L[j]? := by
  rw [List.getElem?_append_right (by rw [wM_len]; omega), wM_len, Nat.add_sub_cancel_left]
theorem wM_top {dC : Nat → ClassId} {am : Nat → Nat} {M : MS} {L : va_W} {k : Nat} (hk : k < 7) : (wM dC am M ++ L)[k]? = some (am k, kTopM dC am M k) := by
  rw [wL_get (by omega), kM, if_pos hk]
theorem wM_v {dC : Nat → ClassId} {am : Nat → Nat} {M : MS} {L : va_W} {i : Nat} (hi : i < 3) : (wM dC am M ++ L)[7 + i]? = some (am (7 + i), .inl (dC 20, 12, .inl (fun q => nI ((M.1 i).1 q)))) := by
  rw [wL_get (by omega), kM_v hi]
theorem wM_m {dC : Nat → ClassId} {am : Nat → Nat} {M : MS} {L : va_W} {i : Nat} (hi : i < 3) : (wM dC am M ++ L)[10 + i]? = some (am (10 + i), .inl (dC 20, 12, .inl (fun q => nI ((M.1 i).2.1 q)))) := by
  rw [wL_get (by omega), kM_m hi]
theorem wM_k {dC : Nat → ClassId} {am : Nat → Nat} {M : MS} {L : va_W} {j : Nat} (hj : j < 4) : (wM dC am M ++ L)[13 + j]? = some (am (13 + j), .inl (dC 20, 5, .inl (fun q => nI ((M.2.1 j).1 q)))) := by
  rw [wL_get (by omega), kM_k hj]
theorem wM_d {dC : Nat → ClassId} {am : Nat → Nat} {M : MS} {L : va_W} {j : Nat} (hj : j < 4) : (wM dC am M ++ L)[17 + j]? = some (am (17 + j), .inl (dC 21, 5, .inl (fun q => bI ((M.2.1 j).2.1 q)))) := by
  rw [wL_get (by omega), kM_d hj]
theorem wM_set {dC : Nat → ClassId} {am : Nat → Nat} {M M' : MS} {k : Nat} {e : va_E} (he : kM dC am M' k = e) (h : ∀ j, j < 21 → j ≠ k → kM dC am M' j = kM dC am M j) : (wM dC am M).set k (am k, e) = wM dC am M' := by
  apply List.ext_getElem?
  intro j
  by_cases hj : j < 21
  · rw [wM_get hj, List.getElem?_set]
    by_cases hkj : k = j
    · subst hkj
      rw [if_pos rfl, if_pos (by rw [wM, List.length_map, List.length_range]; exact hj), he]
    · rw [if_neg hkj, wM_get hj, h j hj (Ne.symm hkj)]
  · rw [List.getElem?_eq_none (by rw [List.length_set, wM, List.length_map, List.length_range]; omega), List.getElem?_eq_none (by rw [wM, List.length_map, List.length_range]; omega)]
theorem wL_set {dC : Nat → ClassId} {am : Nat → Nat} {M M' : MS} {L : va_W} {k : Nat} {e : va_E} (hk : k < 21) (he : kM dC am M' k = e) (h : ∀ j, j < 21 → j ≠ k → kM dC am M' j = kM dC am M j) : (wM dC am M ++ L).set k (am k, e) = wM dC am M' ++ L := by
  rw [List.set_append_left _ _ (by rw [wM_len]; exact hk), wM_set he h]
theorem wM_setV {dC : Nat → ClassId} {am : Nat → Nat} {M : MS} {L : va_W} {i : Nat} {f : Nat → Nat} (hi : i < 3) : (wM dC am M ++ L).set (7 + i) (am (7 + i), .inl (dC 20, 12, .inl (fun q => nI (f q)))) = wM dC am (mR M i (f, (M.1 i).2)) ++ L :=
  wL_set (by omega) (by rw [kM_v hi, mR_row]) (fun j _ hne => kM_mR hi (fun _ => rfl) (fun e => absurd e hne) (fun _ => rfl))
theorem wM_setM {dC : Nat → ClassId} {am : Nat → Nat} {M : MS} {L : va_W} {i : Nat} {f : Nat → Nat} (hi : i < 3) : (wM dC am M ++ L).set (10 + i) (am (10 + i), .inl (dC 20, 12, .inl (fun q => nI (f q)))) = wM dC am (mR M i ((M.1 i).1, f, (M.1 i).2.2)) ++ L :=
  wL_set (by omega) (by rw [kM_m hi, mR_row]) (fun j _ hne => kM_mR hi (fun _ => rfl) (fun _ => rfl) (fun e => absurd e hne))
theorem wM_setZ {dC : Nat → ClassId} {am : Nat → Nat} {M : MS} {L : va_W} {i n : Nat} (hi : i < 3) : (wM dC am M ++ L).set 3 (am 3, .inl (dC 20, 3, .inl (fun q => nI (va_up (fun k => (M.1 k).2.2) i n q)))) = wM dC am (mR M i ((M.1 i).1, (M.1 i).2.1, n)) ++ L := by
  refine wL_set (by decide) ?_ (fun j _ hne => kM_mR hi (fun e => absurd e hne) (fun _ => rfl) (fun _ => rfl))
  have hf : (fun k => nI ((mR M i ((M.1 i).1, (M.1 i).2.1, n)).1 k).2.2) = fun q => nI (va_up (fun k => (M.1 k).2.2) i n q) := by
    funext k
    by_cases hk : k = i
    · subst hk
      rw [mR_row, va_up_self]
    · rw [mR_ne _ _ hk, va_up_ne _ _ hk]
  rw [← hf]
  rfl
theorem wM_setK {dC : Nat → ClassId} {am : Nat → Nat} {M : MS} {L : va_W} {i : Nat} {f : Nat → Nat} (hi : i < 4) : (wM dC am M ++ L).set (13 + i) (am (13 + i), .inl (dC 20, 5, .inl (fun q => nI (f q)))) = wM dC am (mO M i (f, (M.2.1 i).2)) ++ L :=
  wL_set (by omega) (by rw [kM_k hi, mO_ord]) (fun j hj hne => kM_mO hi (fun _ => rfl) (fun e => absurd e hne) (fun _ => rfl) hj)
theorem wM_setD {dC : Nat → ClassId} {am : Nat → Nat} {M : MS} {L : va_W} {i : Nat} {f : Nat → Bool} (hi : i < 4) : (wM dC am M ++ L).set (17 + i) (am (17 + i), .inl (dC 21, 5, .inl (fun q => bI (f q)))) = wM dC am (mO M i ((M.2.1 i).1, f, (M.2.1 i).2.2)) ++ L :=
  wL_set (by omega) (by rw [kM_d hi, mO_ord]) (fun j hj hne => kM_mO hi (fun _ => rfl) (fun _ => rfl) (fun e => absurd e hne) hj)
theorem wM_setT {dC : Nat → ClassId} {am : Nat → Nat} {M : MS} {L : va_W} {i n : Nat} (hi : i < 4) : (wM dC am M ++ L).set 6 (am 6, .inl (dC 20, 4, .inl (fun q => nI (va_up (fun k => (M.2.1 k).2.2) i n q)))) = wM dC am (mO M i ((M.2.1 i).1, (M.2.1 i).2.1, n)) ++ L := by
  refine wL_set (by decide) ?_ (fun j hj hne => kM_mO hi (fun e => absurd e hne) (fun _ => rfl) (fun _ => rfl) hj)
  have hf : (fun k => nI ((mO M i ((M.2.1 i).1, (M.2.1 i).2.1, n)).2.1 k).2.2) = fun q => nI (va_up (fun k => (M.2.1 k).2.2) i n q) := by
    funext k
    by_cases hk : k = i
    · subst hk
      rw [mO_ord, va_up_self]
    · rw [mO_ne _ _ hk, va_up_ne _ _ hk]
  rw [← hf]
  rfl
theorem wM_setN {dC : Nat → ClassId} {am : Nat → Nat} {M : MS} {L : va_W} {n : Nat × Nat × Nat × Nat} : (wM dC am M ++ L).set 0 (am 0, kTopM dC am (mN M n) 0) = wM dC am (mN M n) ++ L :=
  wL_set (by decide) rfl (fun j _ hne => kM_mN hne)
/-- what a method of the reference may write -/
def AM (am : Nat → Nat) : Nat → Prop := fun q => ∃ k, k < 21 ∧ q = am k
theorem wM_in {dC : Nat → ClassId} {am : Nat → Nat} {M : MS} (k : Nat) (q : Nat × va_E) (h : (wM dC am M)[k]? = some q) : k < 21 ∧ q.1 = am k := by
  have hk : k < 21 := by
    have := (List.getElem?_eq_some_iff.mp h).1
    rw [wM, List.length_map, List.length_range] at this
    exact this
  rw [wM_get hk] at h
  cases h
  exact ⟨hk, rfl⟩
def PM (dC : Nat → ClassId) (dI : Nat → Nat → Nat) (am : Nat → Nat) (M : MS) (U : State) : Prop := va_P (dC, dI) vwCl (wM dC am M) U.heap ∧ va_K (dC, dI) vwCl (tyM dC) U ∧ va_D (AM am) (wM dC am M)
/-- what a method that makes cells may write -/
def AY (am : Nat → Nat) (z q : Nat) : Prop := AM am q ∨ zB z q
def WM (dC : Nat → ClassId) (dI : Nat → Nat → Nat) (am : Nat → Nat) (M : MS) (L : va_W) (A : Nat → Prop) (s : State) (H : Heap) (locs : List Loc) : Prop := va_P (dC, dI) vwCl (wM dC am M ++ L) H ∧ va_K (dC, dI) vwCl (tyM dC) s ∧ va_D A (wM dC am M ++ L) ∧ va_S A s.heap H locs
section KM0
variable {dC : Nat → ClassId} {dI : Nat → Nat → Nat} {am : Nat → Nat} {M : MS} {L : va_W} {A : Nat → Prop} {s U : State} {H : Heap} {locs : List Loc}
theorem WM.of (h : PM dC dI am M s) : WM dC dI am M [] (AM am) s s.heap [] := ⟨by rw [List.append_nil]; exact h.1, h.2.1, by rw [List.append_nil]; exact h.2.2, va_S.rf⟩
theorem WM.ofY (h : PM dC dI am M s) : WM dC dI am M [] (AY am s.heap.size) s s.heap [] := ⟨by rw [List.append_nil]; exact h.1, h.2.1, by rw [List.append_nil]; exact h.2.2.weaken (fun _ _ _ h => Or.inl h), va_S.rf⟩
theorem PM.call {a : Array Value} {g : JFrame} {mk : MethodId} (h : PM dC dI am M U) : PM dC dI am M (U.calling g mk a) := ⟨h.1, va_K.moved (u := U) (U := U.calling g mk a) (Vm.Alike.refl U.vm) h.2.1, h.2.2⟩
theorem PM.blind {av : List Value} : FrameBlind (va_Pc av (PM dC dI am M)) := fun _ _ _ _ h => ⟨h.1, h.2.call⟩
theorem wM_old {k : Nat} {q : Nat × va_E} (h : (wM dC am M)[k]? = some q) : (wM dC am M ++ L)[k]? = some q := by
  rw [List.getElem?_append_left (by rw [wM_len]; exact (wM_in k q h).1)]
  exact h
theorem WM.D (h : WM dC dI am M L A s H locs) : va_D (AM am) (wM dC am M) := ⟨fun i j p q hi hj e => h.2.2.1.1 i j p q (wM_old hi) (wM_old hj) e, fun k q hk => ⟨k, (wM_in k q hk).1, (wM_in k q hk).2⟩⟩
theorem WM.P (h : WM dC dI am M L A s H locs) (hU : U.heap = H) (hW : s.WarmedH U.vm) : PM dC dI am M U := ⟨by rw [hU]; exact fun k q hk => h.1 k q (wM_old hk), va_K.moved hW.alike h.2.1, h.D⟩
theorem WM.preObj (h : WM dC dI am M L A s H locs) {As : List Value} : PreV s H RX6 (am 0) (va_Pc (Value.ref (am 0) :: As) (PM dC dI am M)) As :=
  ⟨PM.blind, va_recv h.2.1 h.1 (ci := 8) (q0 := 0) rfl (wM_top (by decide)), fun _ hU hW => ⟨rfl, h.P hU hW⟩⟩
theorem WM.preS (h : WM dC dI am M L A s H locs) {As : List Value} : PreS s H (va_Pc As (PM dC dI am M)) As :=
  ⟨PM.blind, fun _ hU hW => ⟨rfl, h.P hU hW⟩⟩
theorem WM.eqS {M' : MS} (e : M = M') (h : WM dC dI am M L A s H locs) : WM dC dI am M' L A s H locs := e ▸ h
theorem WM.eqL {L' : va_W} (e : L = L') (h : WM dC dI am M L A s H locs) : WM dC dI am M L' A s H locs := e ▸ h
theorem WM.to {M' : MS} {ws : va_W} (he : ws = wM dC am M' ++ L) {H1 : Heap} {locs1 : List Loc} (hX : WM dC dI am M L A s H locs) (h1 : va_P (dC, dI) vwCl ws H1) (h2 : va_D A ws) (h3 : va_S A s.heap H1 locs1) : WM dC dI am M' L A s H1 locs1 := by
  subst he
  exact ⟨h1, hX.2.1, h2, h3⟩
theorem WM.toL {L' : va_W} {ws : va_W} (he : ws = wM dC am M ++ L') {H1 : Heap} {locs1 : List Loc} (hX : WM dC dI am M L A s H locs) (h1 : va_P (dC, dI) vwCl ws H1) (h2 : va_D A ws) (h3 : va_S A s.heap H1 locs1) : WM dC dI am M L' A s H1 locs1 := by
  subst he
  exact ⟨h1, hX.2.1, h2, h3⟩
/-- the addresses of the world's cells don't hang on what stands in them -/
theorem wM_addr {M M1 : MS} {k : Nat} {q : Nat × va_E} (h : (wM dC am M1 ++ L)[k]? = some q) : ∃ q', (wM dC am M ++ L)[k]? = some q' ∧ q'.1 = q.1 := by
  by_cases hk : k < 21
  · rw [wL_get hk] at h
    cases h
    exact ⟨_, wL_get hk, rfl⟩
  · obtain ⟨j, rfl⟩ : ∃ j, k = 21 + j := ⟨k - 21, by omega⟩
    rw [wL_loc] at h
    exact ⟨q, by rw [wL_loc]; exact h, rfl⟩
theorem wM_D {M M1 : MS} (h : va_D A (wM dC am M ++ L)) : va_D A (wM dC am M1 ++ L) := ⟨fun i j p q hi hj e => by
    obtain ⟨p', h1, e1⟩ := wM_addr (M := M) hi
    obtain ⟨q', h2, e2⟩ := wM_addr (M := M) hj
    exact h.1 i j p' q' h1 h2 (by rw [e1, e2, e]), fun k q hk => by
    obtain ⟨q', h1, e1⟩ := wM_addr (M := M) hk
    rw [← e1]
    exact h.2 k q' h1⟩
end KM0
section KM
variable {p : Program} {l : Launch} {e : Env} {R : Room} {s : State} {m : MethodId} {args : Array Value} {below : List Frame} {meth : Method} {c : Code} {H : Heap} {locs : List Loc} {cells slots mc ms : Nat} {Q : State → Prop}
variable {cc : ByteArray} {pc : Nat} {ls : Array Slot} {rest st0 : List Value} {a : Array Value} {A : Nat → Prop} {dC : Nat → ClassId} {dI : Nat → Nat → Nat} {am : Nat → Nat} {M : MS} {L : va_W} {Ts : List Cond} {index : Nat} {i k v n : Nat} {z : Bool}
theorem km_back {M1 : MS} {t : State} {H1 : Heap} {locs1 : List Loc} (hX : WM dC dI am M L A s H locs) (ht : t.heap = H1) (hB : PM dC dI am M1 t) (hk : ∀ q, q < H.size → ¬ AM am q → H1[q]? = H[q]?) (hS : va_S A s.heap H1 locs1) : WM dC dI am M1 L A s H1 locs1 := by
  have hD1 : va_D A (wM dC am M1 ++ L) := wM_D hX.2.2.1
  refine ⟨fun k q hq => ?_, hX.2.1, hD1, hS⟩
  by_cases h : k < 21
  · rw [wL_get h] at hq
    rw [← ht]
    exact hB.1 k q (by rw [wM_get h]; exact hq)
  · obtain ⟨j, rfl⟩ : ∃ j, k = 21 + j := ⟨k - 21, by omega⟩
    have hq0 : (wM dC am M ++ L)[21 + j]? = some q := by rw [wL_loc]; rw [wL_loc] at hq; exact hq
    refine (hX.1 _ q hq0).kept (hk q.1 ((hX.1 _ q hq0).lt) ?_)
    rintro ⟨k9, hk9, e9⟩
    have := hX.2.2.1.1 (21 + j) k9 q _ hq0 (wL_get hk9) e9
    omega
theorem km_cv {post : MS → Prop} (hr : va_Run p l e R s m args below meth c H locs cells slots 0 0 (F0 m pc ls st0) rest (va_Qv post (PM dC dI am) (AM am) a) (AM am)) (hX : WM dC dI am M L A s H locs) (hA : ∀ q, AM am q → A q) (kk : ∀ (M1 : MS) (H1 : Heap) (locs1 : List Loc), post M1 → WM dC dI am M1 L A s H1 locs1 → W p l e R s m args below meth c H1 locs1 cells slots Q (F0 m (pc + 3) ls rest)) : W p l e R s m args below meth c H locs cells slots Q (F0 m pc ls st0) :=
  va_callv hr hX.2.2.2 (fun q _ h => hA q h) hA (fun u t H1 locs1 ht hvm hp hB _ hk hS => kk u H1 locs1 hp (km_back hX ht hB hk hS))
theorem km_ci {post : Int32 → MS → Prop} (hr : va_Run p l e R s m args below meth c H locs cells slots 0 0 (F0 m pc ls st0) rest (va_Qi post (PM dC dI am) (AM am) a) (AM am)) (hX : WM dC dI am M L A s H locs) (hA : ∀ q, AM am q → A q) (kk : ∀ (r : Int32) (M1 : MS) (H1 : Heap) (locs1 : List Loc), post r M1 → WM dC dI am M1 L A s H1 locs1 → W p l e R s m args below meth c H1 locs1 cells slots Q (F0 m (pc + 3) ls (.int r :: rest))) : W p l e R s m args below meth c H locs cells slots Q (F0 m pc ls st0) :=
  va_calli hr hX.2.2.2 (fun q _ h => hA q h) hA (fun r u t H1 locs1 ht hvm hp hB _ hk hS => kk r u H1 locs1 hp (km_back hX ht hB hk hS))
theorem km_ciM {post : Int32 → MS → Prop} (hr : va_Run p l e R s m args below meth c H locs cells slots mc ms (F0 m pc ls st0) rest (va_Qi post (PM dC dI am) (AM am) a) (AM am)) (hX : WM dC dI am M L A s H locs) (hA : ∀ q, AM am q → A q) (kk : ∀ (r : Int32) (M1 : MS) (H1 : Heap) (locs1 : List Loc), post r M1 → WM dC dI am M1 L A s H1 locs1 → W p l e R s m args below meth c H1 locs1 (cells + mc) (slots + ms) Q (F0 m (pc + 3) ls (.int r :: rest))) : W p l e R s m args below meth c H locs cells slots Q (F0 m pc ls st0) :=
  va_calli hr hX.2.2.2 (fun q _ h => hA q h) hA (fun r u t H1 locs1 ht hvm hp hB _ hk hS => kk r u H1 locs1 hp (km_back hX ht hB hk hS))
/-- an element of an array of arrays -/
theorem va_aldA (hexec : p.tables.exec = Jvm.exec) (hb : c.code = cc) {D : va_G} {cl : List vw_C} {tys : List (ClassId × FieldType)} {ws : va_W} {a : Nat} (hK : va_K D cl tys s) (hP : va_P D cl ws H) (q0 t0 : Nat) {cA : ClassId} {ty : FieldType} {n : Nat} {f : Nat → Option Nat} (ha : ws[q0]? = some (a, .inl (cA, n, .inr (.inr (.inr (.inr f)))))) (ht : tys[t0]? = some (cA, .array ty)) {i : Int32} (hin : vp_in i n) (hdg : decode cc pc = .ok (.aaload, 1))
    (kk : W p l e R s m args below meth c H locs cells slots Q (F0 m (pc + 1) ls (va_rf (f i.toNatClampNeg) :: rest))) : W p l e R s m args below meth c H locs cells slots Q (F0 m pc ls (.int i :: .ref a :: rest)) := by
  have hlt : i.toNatClampNeg < n := Nat.not_le.mp fun q => hin (Or.inr q)
  exact W.aald (v := va_rf (f i.toNatClampNeg)) (ty := .array ty) hexec hb (hP q0 _ ha) ((hK.2 t0 _ ht).1 n (fun j => va_rf (f j))) rfl (fun q => by cases q) (by show ¬ (i < 0 ∨ (arrV _ _ _).slots.size ≤ _); rw [arrV_size]; exact hin) (by show (arrV _ _ _).slots[_]? = _; rw [arrV_read _ _ hlt]) rfl rfl hdg kk
theorem km_gthrown (hx : p.tables.exec = Jvm.exec) (hb : c.code = cc) (hts : ∀ w ∈ Ts, w.before args s = true) (hin : ∀ w ∈ u_ws RX6 TX6 10, w ∈ Ts) (hown : s.vm.findClass RX6 = some m.cls) (hX : WM dC dI am M L A s H locs) (hn : M.2.2.1 = n) (hlink : (Cond.fieldLink RX6 index "OrderlatticeModel" "thrown" "I").before args s = true) (hdg : decode cc pc = .ok (.getfield index, 3)) (kk : W p l e R s m args below meth c H locs cells slots Q (F0 m (pc + 3) ls (.int (nI n) :: rest))) : W p l e R s m args below meth c H locs cells slots Q (F0 m pc ls (.ref (am 0) :: rest)) :=
  va_get (D := (dC, dI)) (ci := 8) (C := RX6) (T := TX6) (N := 10) hx hb hts hin hown hX.2.1 hX.1 0 (wM_top (by decide)) rfl 0 (by decide) hlink (fun _ h => h) rfl hdg (by rw [hn]; exact kk)
theorem km_pthrown (hx : p.tables.exec = Jvm.exec) (hb : c.code = cc) (hts : ∀ w ∈ Ts, w.before args s = true) (hin : ∀ w ∈ u_ws RX6 TX6 10, w ∈ Ts) (hown : s.vm.findClass RX6 = some m.cls) (hX : WM dC dI am M L A s H locs) {M' : MS} (hS' : mN M (n, M.2.2.2) = M') (hlink : (Cond.fieldLink RX6 index "OrderlatticeModel" "thrown" "I").before args s = true) (hdg : decode cc pc = .ok (.putfield index, 3)) (kk : ∀ (H1 : Heap) (locs1 : List Loc), WM dC dI am M' L A s H1 locs1 → W p l e R s m args below meth c H1 locs1 cells slots Q (F0 m (pc + 3) ls rest)) : W p l e R s m args below meth c H locs cells slots Q (F0 m pc ls (.int (nI n) :: .ref (am 0) :: rest)) := by
  refine va_put (D := (dC, dI)) (ci := 8) (ty := .int) (C := RX6) (T := TX6) (N := 10) hx hb hts hin tyX6 tyX6_ok nmX6 hown hX.2.1 hX.1 hX.2.2.1 hX.2.2.2 0 (wM_top (by decide)) rfl 0 (by decide) hlink (fun _ h => h) rfl (by decide +kernel) rfl rfl (Nat.le_of_ble_eq_true rfl) hdg (fun H1 locs1 hP hD hS => kk H1 locs1 (WM.to ?_ hX hP hD hS))
  rw [← hS']
  exact wM_setN (n := (n, M.2.2.2))
theorem km_gvalues (hx : p.tables.exec = Jvm.exec) (hb : c.code = cc) (hts : ∀ w ∈ Ts, w.before args s = true) (hin : ∀ w ∈ u_ws RX6 TX6 10, w ∈ Ts) (hown : s.vm.findClass RX6 = some m.cls) (hX : WM dC dI am M L A s H locs)  (hlink : (Cond.fieldLink RX6 index "OrderlatticeModel" "values" "[[I").before args s = true) (hdg : decode cc pc = .ok (.getfield index, 3)) (kk : W p l e R s m args below meth c H locs cells slots Q (F0 m (pc + 3) ls (.ref (am 1) :: rest))) : W p l e R s m args below meth c H locs cells slots Q (F0 m pc ls (.ref (am 0) :: rest)) :=
  va_get (D := (dC, dI)) (ci := 8) (C := RX6) (T := TX6) (N := 10) hx hb hts hin hown hX.2.1 hX.1 0 (wM_top (by decide)) rfl 1 (by decide) hlink (fun _ h => h) rfl hdg kk
theorem km_gmarks (hx : p.tables.exec = Jvm.exec) (hb : c.code = cc) (hts : ∀ w ∈ Ts, w.before args s = true) (hin : ∀ w ∈ u_ws RX6 TX6 10, w ∈ Ts) (hown : s.vm.findClass RX6 = some m.cls) (hX : WM dC dI am M L A s H locs)  (hlink : (Cond.fieldLink RX6 index "OrderlatticeModel" "marks" "[[I").before args s = true) (hdg : decode cc pc = .ok (.getfield index, 3)) (kk : W p l e R s m args below meth c H locs cells slots Q (F0 m (pc + 3) ls (.ref (am 2) :: rest))) : W p l e R s m args below meth c H locs cells slots Q (F0 m pc ls (.ref (am 0) :: rest)) :=
  va_get (D := (dC, dI)) (ci := 8) (C := RX6) (T := TX6) (N := 10) hx hb hts hin hown hX.2.1 hX.1 0 (wM_top (by decide)) rfl 2 (by decide) hlink (fun _ h => h) rfl hdg kk
theorem km_gsizes (hx : p.tables.exec = Jvm.exec) (hb : c.code = cc) (hts : ∀ w ∈ Ts, w.before args s = true) (hin : ∀ w ∈ u_ws RX6 TX6 10, w ∈ Ts) (hown : s.vm.findClass RX6 = some m.cls) (hX : WM dC dI am M L A s H locs)  (hlink : (Cond.fieldLink RX6 index "OrderlatticeModel" "sizes" "[I").before args s = true) (hdg : decode cc pc = .ok (.getfield index, 3)) (kk : W p l e R s m args below meth c H locs cells slots Q (F0 m (pc + 3) ls (.ref (am 3) :: rest))) : W p l e R s m args below meth c H locs cells slots Q (F0 m pc ls (.ref (am 0) :: rest)) :=
  va_get (D := (dC, dI)) (ci := 8) (C := RX6) (T := TX6) (N := 10) hx hb hts hin hown hX.2.1 hX.1 0 (wM_top (by decide)) rfl 3 (by decide) hlink (fun _ h => h) rfl hdg kk
theorem km_gkeys (hx : p.tables.exec = Jvm.exec) (hb : c.code = cc) (hts : ∀ w ∈ Ts, w.before args s = true) (hin : ∀ w ∈ u_ws RX6 TX6 10, w ∈ Ts) (hown : s.vm.findClass RX6 = some m.cls) (hX : WM dC dI am M L A s H locs)  (hlink : (Cond.fieldLink RX6 index "OrderlatticeModel" "keys" "[[I").before args s = true) (hdg : decode cc pc = .ok (.getfield index, 3)) (kk : W p l e R s m args below meth c H locs cells slots Q (F0 m (pc + 3) ls (.ref (am 4) :: rest))) : W p l e R s m args below meth c H locs cells slots Q (F0 m pc ls (.ref (am 0) :: rest)) :=
  va_get (D := (dC, dI)) (ci := 8) (C := RX6) (T := TX6) (N := 10) hx hb hts hin hown hX.2.1 hX.1 0 (wM_top (by decide)) rfl 4 (by decide) hlink (fun _ h => h) rfl hdg kk
theorem km_gdowns (hx : p.tables.exec = Jvm.exec) (hb : c.code = cc) (hts : ∀ w ∈ Ts, w.before args s = true) (hin : ∀ w ∈ u_ws RX6 TX6 10, w ∈ Ts) (hown : s.vm.findClass RX6 = some m.cls) (hX : WM dC dI am M L A s H locs)  (hlink : (Cond.fieldLink RX6 index "OrderlatticeModel" "downs" "[[Z").before args s = true) (hdg : decode cc pc = .ok (.getfield index, 3)) (kk : W p l e R s m args below meth c H locs cells slots Q (F0 m (pc + 3) ls (.ref (am 5) :: rest))) : W p l e R s m args below meth c H locs cells slots Q (F0 m pc ls (.ref (am 0) :: rest)) :=
  va_get (D := (dC, dI)) (ci := 8) (C := RX6) (T := TX6) (N := 10) hx hb hts hin hown hX.2.1 hX.1 0 (wM_top (by decide)) rfl 5 (by decide) hlink (fun _ h => h) rfl hdg kk
theorem km_gsteps (hx : p.tables.exec = Jvm.exec) (hb : c.code = cc) (hts : ∀ w ∈ Ts, w.before args s = true) (hin : ∀ w ∈ u_ws RX6 TX6 10, w ∈ Ts) (hown : s.vm.findClass RX6 = some m.cls) (hX : WM dC dI am M L A s H locs)  (hlink : (Cond.fieldLink RX6 index "OrderlatticeModel" "steps" "[I").before args s = true) (hdg : decode cc pc = .ok (.getfield index, 3)) (kk : W p l e R s m args below meth c H locs cells slots Q (F0 m (pc + 3) ls (.ref (am 6) :: rest))) : W p l e R s m args below meth c H locs cells slots Q (F0 m pc ls (.ref (am 0) :: rest)) :=
  va_get (D := (dC, dI)) (ci := 8) (C := RX6) (T := TX6) (N := 10) hx hb hts hin hown hX.2.1 hX.1 0 (wM_top (by decide)) rfl 6 (by decide) hlink (fun _ h => h) rfl hdg kk
theorem km_gput (hx : p.tables.exec = Jvm.exec) (hb : c.code = cc) (hts : ∀ w ∈ Ts, w.before args s = true) (hin : ∀ w ∈ u_ws RX6 TX6 10, w ∈ Ts) (hown : s.vm.findClass RX6 = some m.cls) (hX : WM dC dI am M L A s H locs) (hn : M.2.2.2.1 = n) (hlink : (Cond.fieldLink RX6 index "OrderlatticeModel" "put" "I").before args s = true) (hdg : decode cc pc = .ok (.getfield index, 3)) (kk : W p l e R s m args below meth c H locs cells slots Q (F0 m (pc + 3) ls (.int (nI n) :: rest))) : W p l e R s m args below meth c H locs cells slots Q (F0 m pc ls (.ref (am 0) :: rest)) :=
  va_get (D := (dC, dI)) (ci := 8) (C := RX6) (T := TX6) (N := 10) hx hb hts hin hown hX.2.1 hX.1 0 (wM_top (by decide)) rfl 7 (by decide) hlink (fun _ h => h) rfl hdg (by rw [hn]; exact kk)
theorem km_pput (hx : p.tables.exec = Jvm.exec) (hb : c.code = cc) (hts : ∀ w ∈ Ts, w.before args s = true) (hin : ∀ w ∈ u_ws RX6 TX6 10, w ∈ Ts) (hown : s.vm.findClass RX6 = some m.cls) (hX : WM dC dI am M L A s H locs) {M' : MS} (hS' : mN M (M.2.2.1, n, M.2.2.2.2) = M') (hlink : (Cond.fieldLink RX6 index "OrderlatticeModel" "put" "I").before args s = true) (hdg : decode cc pc = .ok (.putfield index, 3)) (kk : ∀ (H1 : Heap) (locs1 : List Loc), WM dC dI am M' L A s H1 locs1 → W p l e R s m args below meth c H1 locs1 cells slots Q (F0 m (pc + 3) ls rest)) : W p l e R s m args below meth c H locs cells slots Q (F0 m pc ls (.int (nI n) :: .ref (am 0) :: rest)) := by
  refine va_put (D := (dC, dI)) (ci := 8) (ty := .int) (C := RX6) (T := TX6) (N := 10) hx hb hts hin tyX6 tyX6_ok nmX6 hown hX.2.1 hX.1 hX.2.2.1 hX.2.2.2 0 (wM_top (by decide)) rfl 7 (by decide) hlink (fun _ h => h) rfl (by decide +kernel) rfl rfl (Nat.le_of_ble_eq_true rfl) hdg (fun H1 locs1 hP hD hS => kk H1 locs1 (WM.to ?_ hX hP hD hS))
  rw [← hS']
  exact wM_setN (n := (M.2.2.1, n, M.2.2.2.2))
theorem km_grefused (hx : p.tables.exec = Jvm.exec) (hb : c.code = cc) (hts : ∀ w ∈ Ts, w.before args s = true) (hin : ∀ w ∈ u_ws RX6 TX6 10, w ∈ Ts) (hown : s.vm.findClass RX6 = some m.cls) (hX : WM dC dI am M L A s H locs) (hn : M.2.2.2.2.1 = n) (hlink : (Cond.fieldLink RX6 index "OrderlatticeModel" "refused" "I").before args s = true) (hdg : decode cc pc = .ok (.getfield index, 3)) (kk : W p l e R s m args below meth c H locs cells slots Q (F0 m (pc + 3) ls (.int (nI n) :: rest))) : W p l e R s m args below meth c H locs cells slots Q (F0 m pc ls (.ref (am 0) :: rest)) :=
  va_get (D := (dC, dI)) (ci := 8) (C := RX6) (T := TX6) (N := 10) hx hb hts hin hown hX.2.1 hX.1 0 (wM_top (by decide)) rfl 8 (by decide) hlink (fun _ h => h) rfl hdg (by rw [hn]; exact kk)
theorem km_prefused (hx : p.tables.exec = Jvm.exec) (hb : c.code = cc) (hts : ∀ w ∈ Ts, w.before args s = true) (hin : ∀ w ∈ u_ws RX6 TX6 10, w ∈ Ts) (hown : s.vm.findClass RX6 = some m.cls) (hX : WM dC dI am M L A s H locs) {M' : MS} (hS' : mN M (M.2.2.1, M.2.2.2.1, n, M.2.2.2.2.2) = M') (hlink : (Cond.fieldLink RX6 index "OrderlatticeModel" "refused" "I").before args s = true) (hdg : decode cc pc = .ok (.putfield index, 3)) (kk : ∀ (H1 : Heap) (locs1 : List Loc), WM dC dI am M' L A s H1 locs1 → W p l e R s m args below meth c H1 locs1 cells slots Q (F0 m (pc + 3) ls rest)) : W p l e R s m args below meth c H locs cells slots Q (F0 m pc ls (.int (nI n) :: .ref (am 0) :: rest)) := by
  refine va_put (D := (dC, dI)) (ci := 8) (ty := .int) (C := RX6) (T := TX6) (N := 10) hx hb hts hin tyX6 tyX6_ok nmX6 hown hX.2.1 hX.1 hX.2.2.1 hX.2.2.2 0 (wM_top (by decide)) rfl 8 (by decide) hlink (fun _ h => h) rfl (by decide +kernel) rfl rfl (Nat.le_of_ble_eq_true rfl) hdg (fun H1 locs1 hP hD hS => kk H1 locs1 (WM.to ?_ hX hP hD hS))
  rw [← hS']
  exact wM_setN (n := (M.2.2.1, M.2.2.2.1, n, M.2.2.2.2.2))
theorem km_gknocks (hx : p.tables.exec = Jvm.exec) (hb : c.code = cc) (hts : ∀ w ∈ Ts, w.before args s = true) (hin : ∀ w ∈ u_ws RX6 TX6 10, w ∈ Ts) (hown : s.vm.findClass RX6 = some m.cls) (hX : WM dC dI am M L A s H locs) (hn : M.2.2.2.2.2 = n) (hlink : (Cond.fieldLink RX6 index "OrderlatticeModel" "knocks" "I").before args s = true) (hdg : decode cc pc = .ok (.getfield index, 3)) (kk : W p l e R s m args below meth c H locs cells slots Q (F0 m (pc + 3) ls (.int (nI n) :: rest))) : W p l e R s m args below meth c H locs cells slots Q (F0 m pc ls (.ref (am 0) :: rest)) :=
  va_get (D := (dC, dI)) (ci := 8) (C := RX6) (T := TX6) (N := 10) hx hb hts hin hown hX.2.1 hX.1 0 (wM_top (by decide)) rfl 9 (by decide) hlink (fun _ h => h) rfl hdg (by rw [hn]; exact kk)
theorem km_pknocks (hx : p.tables.exec = Jvm.exec) (hb : c.code = cc) (hts : ∀ w ∈ Ts, w.before args s = true) (hin : ∀ w ∈ u_ws RX6 TX6 10, w ∈ Ts) (hown : s.vm.findClass RX6 = some m.cls) (hX : WM dC dI am M L A s H locs) {M' : MS} (hS' : mN M (M.2.2.1, M.2.2.2.1, M.2.2.2.2.1, n) = M') (hlink : (Cond.fieldLink RX6 index "OrderlatticeModel" "knocks" "I").before args s = true) (hdg : decode cc pc = .ok (.putfield index, 3)) (kk : ∀ (H1 : Heap) (locs1 : List Loc), WM dC dI am M' L A s H1 locs1 → W p l e R s m args below meth c H1 locs1 cells slots Q (F0 m (pc + 3) ls rest)) : W p l e R s m args below meth c H locs cells slots Q (F0 m pc ls (.int (nI n) :: .ref (am 0) :: rest)) := by
  refine va_put (D := (dC, dI)) (ci := 8) (ty := .int) (C := RX6) (T := TX6) (N := 10) hx hb hts hin tyX6 tyX6_ok nmX6 hown hX.2.1 hX.1 hX.2.2.1 hX.2.2.2 0 (wM_top (by decide)) rfl 9 (by decide) hlink (fun _ h => h) rfl (by decide +kernel) rfl rfl (Nat.le_of_ble_eq_true rfl) hdg (fun H1 locs1 hP hD hS => kk H1 locs1 (WM.to ?_ hX hP hD hS))
  rw [← hS']
  exact wM_setN (n := (M.2.2.1, M.2.2.2.1, M.2.2.2.2.1, n))
theorem km_av (hx : p.tables.exec = Jvm.exec) (hb : c.code = cc) (hX : WM dC dI am M L A s H locs) (hk : k < 3) (hdg : decode cc pc = .ok (.aaload, 1)) (kk : W p l e R s m args below meth c H locs cells slots Q (F0 m (pc + 1) ls (.ref (am (7 + k)) :: rest))) : W p l e R s m args below meth c H locs cells slots Q (F0 m pc ls (.int (nI k) :: .ref (am 1) :: rest)) := by
  refine va_aldA hx hb hX.2.1 hX.1 1 2 (wM_top (by decide)) rfl (vp_in_nI hk (by decide)) hdg ?_
  have ek : (nI k).toNatClampNeg = k := nI_clamp (by omega)
  rw [ek, mAr_in hk]
  exact kk
theorem km_am (hx : p.tables.exec = Jvm.exec) (hb : c.code = cc) (hX : WM dC dI am M L A s H locs) (hk : k < 3) (hdg : decode cc pc = .ok (.aaload, 1)) (kk : W p l e R s m args below meth c H locs cells slots Q (F0 m (pc + 1) ls (.ref (am (10 + k)) :: rest))) : W p l e R s m args below meth c H locs cells slots Q (F0 m pc ls (.int (nI k) :: .ref (am 2) :: rest)) := by
  refine va_aldA hx hb hX.2.1 hX.1 2 2 (wM_top (by decide)) rfl (vp_in_nI hk (by decide)) hdg ?_
  have ek : (nI k).toNatClampNeg = k := nI_clamp (by omega)
  rw [ek, mAr_in hk]
  exact kk
theorem km_ak (hx : p.tables.exec = Jvm.exec) (hb : c.code = cc) (hX : WM dC dI am M L A s H locs) (hk : k < 4) (hdg : decode cc pc = .ok (.aaload, 1)) (kk : W p l e R s m args below meth c H locs cells slots Q (F0 m (pc + 1) ls (.ref (am (13 + k)) :: rest))) : W p l e R s m args below meth c H locs cells slots Q (F0 m pc ls (.int (nI k) :: .ref (am 4) :: rest)) := by
  refine va_aldA hx hb hX.2.1 hX.1 4 2 (wM_top (by decide)) rfl (vp_in_nI hk (by decide)) hdg ?_
  have ek : (nI k).toNatClampNeg = k := nI_clamp (by omega)
  rw [ek, mAr_in hk]
  exact kk
theorem km_ad (hx : p.tables.exec = Jvm.exec) (hb : c.code = cc) (hX : WM dC dI am M L A s H locs) (hk : k < 4) (hdg : decode cc pc = .ok (.aaload, 1)) (kk : W p l e R s m args below meth c H locs cells slots Q (F0 m (pc + 1) ls (.ref (am (17 + k)) :: rest))) : W p l e R s m args below meth c H locs cells slots Q (F0 m pc ls (.int (nI k) :: .ref (am 5) :: rest)) := by
  refine va_aldA hx hb hX.2.1 hX.1 5 3 (wM_top (by decide)) rfl (vp_in_nI hk (by decide)) hdg ?_
  have ek : (nI k).toNatClampNeg = k := nI_clamp (by omega)
  rw [ek, mAr_in hk]
  exact kk
theorem km_lv (hx : p.tables.exec = Jvm.exec) (hb : c.code = cc) (hX : WM dC dI am M L A s H locs) (hi : i < 3) (hk : k < 12) (hv : (M.1 i).1 k = v) (hdg : decode cc pc = .ok (.iaload, 1)) (kk : W p l e R s m args below meth c H locs cells slots Q (F0 m (pc + 1) ls (.int (nI v) :: rest))) : W p l e R s m args below meth c H locs cells slots Q (F0 m pc ls (.int (nI k) :: .ref (am (7 + i)) :: rest)) := by
  refine va_iald hx hb hX.2.1 hX.1 (7 + i) 0 (wM_v hi) rfl (vp_in_nI hk (by decide)) hdg ?_
  have ek : (nI k).toNatClampNeg = k := nI_clamp (by omega)
  show W p l e R s m args below meth c H locs cells slots Q (F0 m (pc + 1) ls (.int (nI ((M.1 i).1 (nI k).toNatClampNeg)) :: rest))
  rw [ek, hv]
  exact kk
theorem km_lm (hx : p.tables.exec = Jvm.exec) (hb : c.code = cc) (hX : WM dC dI am M L A s H locs) (hi : i < 3) (hk : k < 12) (hv : (M.1 i).2.1 k = v) (hdg : decode cc pc = .ok (.iaload, 1)) (kk : W p l e R s m args below meth c H locs cells slots Q (F0 m (pc + 1) ls (.int (nI v) :: rest))) : W p l e R s m args below meth c H locs cells slots Q (F0 m pc ls (.int (nI k) :: .ref (am (10 + i)) :: rest)) := by
  refine va_iald hx hb hX.2.1 hX.1 (10 + i) 0 (wM_m hi) rfl (vp_in_nI hk (by decide)) hdg ?_
  have ek : (nI k).toNatClampNeg = k := nI_clamp (by omega)
  show W p l e R s m args below meth c H locs cells slots Q (F0 m (pc + 1) ls (.int (nI ((M.1 i).2.1 (nI k).toNatClampNeg)) :: rest))
  rw [ek, hv]
  exact kk
theorem km_lz (hx : p.tables.exec = Jvm.exec) (hb : c.code = cc) (hX : WM dC dI am M L A s H locs)  (hk : k < 3) (hv : (M.1 k).2.2 = v) (hdg : decode cc pc = .ok (.iaload, 1)) (kk : W p l e R s m args below meth c H locs cells slots Q (F0 m (pc + 1) ls (.int (nI v) :: rest))) : W p l e R s m args below meth c H locs cells slots Q (F0 m pc ls (.int (nI k) :: .ref (am 3) :: rest)) := by
  refine va_iald hx hb hX.2.1 hX.1 (3) 0 (wM_top (by decide)) rfl (vp_in_nI hk (by decide)) hdg ?_
  have ek : (nI k).toNatClampNeg = k := nI_clamp (by omega)
  show W p l e R s m args below meth c H locs cells slots Q (F0 m (pc + 1) ls (.int (nI (M.1 (nI k).toNatClampNeg).2.2) :: rest))
  rw [ek, hv]
  exact kk
theorem km_lk (hx : p.tables.exec = Jvm.exec) (hb : c.code = cc) (hX : WM dC dI am M L A s H locs) (hi : i < 4) (hk : k < 5) (hv : (M.2.1 i).1 k = v) (hdg : decode cc pc = .ok (.iaload, 1)) (kk : W p l e R s m args below meth c H locs cells slots Q (F0 m (pc + 1) ls (.int (nI v) :: rest))) : W p l e R s m args below meth c H locs cells slots Q (F0 m pc ls (.int (nI k) :: .ref (am (13 + i)) :: rest)) := by
  refine va_iald hx hb hX.2.1 hX.1 (13 + i) 0 (wM_k hi) rfl (vp_in_nI hk (by decide)) hdg ?_
  have ek : (nI k).toNatClampNeg = k := nI_clamp (by omega)
  show W p l e R s m args below meth c H locs cells slots Q (F0 m (pc + 1) ls (.int (nI ((M.2.1 i).1 (nI k).toNatClampNeg)) :: rest))
  rw [ek, hv]
  exact kk
theorem km_ld (hx : p.tables.exec = Jvm.exec) (hb : c.code = cc) (hX : WM dC dI am M L A s H locs) (hi : i < 4) (hk : k < 5) (hv : (M.2.1 i).2.1 k = z) (hdg : decode cc pc = .ok (.baload, 1)) (kk : W p l e R s m args below meth c H locs cells slots Q (F0 m (pc + 1) ls (.int (bI z) :: rest))) : W p l e R s m args below meth c H locs cells slots Q (F0 m pc ls (.int (nI k) :: .ref (am (17 + i)) :: rest)) := by
  refine va_zald hx hb hX.2.1 hX.1 (17 + i) 1 (wM_d hi) rfl (vp_in_nI hk (by decide)) hdg ?_
  have ek : (nI k).toNatClampNeg = k := nI_clamp (by omega)
  show W p l e R s m args below meth c H locs cells slots Q (F0 m (pc + 1) ls (.int (bI ((M.2.1 i).2.1 (nI k).toNatClampNeg)) :: rest))
  rw [ek, hv]
  exact kk
theorem km_lt (hx : p.tables.exec = Jvm.exec) (hb : c.code = cc) (hX : WM dC dI am M L A s H locs)  (hk : k < 4) (hv : (M.2.1 k).2.2 = v) (hdg : decode cc pc = .ok (.iaload, 1)) (kk : W p l e R s m args below meth c H locs cells slots Q (F0 m (pc + 1) ls (.int (nI v) :: rest))) : W p l e R s m args below meth c H locs cells slots Q (F0 m pc ls (.int (nI k) :: .ref (am 6) :: rest)) := by
  refine va_iald hx hb hX.2.1 hX.1 (6) 0 (wM_top (by decide)) rfl (vp_in_nI hk (by decide)) hdg ?_
  have ek : (nI k).toNatClampNeg = k := nI_clamp (by omega)
  show W p l e R s m args below meth c H locs cells slots Q (F0 m (pc + 1) ls (.int (nI (M.2.1 (nI k).toNatClampNeg).2.2) :: rest))
  rw [ek, hv]
  exact kk
theorem km_nz (hx : p.tables.exec = Jvm.exec) (hb : c.code = cc) (hX : WM dC dI am M L A s H locs) (hdg : decode cc pc = .ok (.arraylength, 1)) (kk : W p l e R s m args below meth c H locs cells slots Q (F0 m (pc + 1) ls (.int (nI 3) :: rest))) : W p l e R s m args below meth c H locs cells slots Q (F0 m pc ls (.ref (am 3) :: rest)) :=
  va_alen hx hb hX.2.1 hX.1 3 0 (wM_top (by decide)) rfl (v := nI 3) rfl hdg kk
theorem km_nt (hx : p.tables.exec = Jvm.exec) (hb : c.code = cc) (hX : WM dC dI am M L A s H locs) (hdg : decode cc pc = .ok (.arraylength, 1)) (kk : W p l e R s m args below meth c H locs cells slots Q (F0 m (pc + 1) ls (.int (nI 4) :: rest))) : W p l e R s m args below meth c H locs cells slots Q (F0 m pc ls (.ref (am 6) :: rest)) :=
  va_alen hx hb hX.2.1 hX.1 6 0 (wM_top (by decide)) rfl (v := nI 4) rfl hdg kk
theorem km_sv (hx : p.tables.exec = Jvm.exec) (hb : c.code = cc) (hX : WM dC dI am M L A s H locs) (hi : i < 3) (hk : k < 12) {M' : MS} (hS' : mR M i (va_up (M.1 i).1 k v, (M.1 i).2) = M') (hdg : decode cc pc = .ok (.iastore, 1)) (kk : ∀ (H1 : Heap) (locs1 : List Loc), WM dC dI am M' L A s H1 locs1 → W p l e R s m args below meth c H1 locs1 cells slots Q (F0 m (pc + 1) ls rest)) : W p l e R s m args below meth c H locs cells slots Q (F0 m pc ls (.int (nI v) :: .int (nI k) :: .ref (am (7 + i)) :: rest)) := by
  refine va_iast hx hb hX.2.1 hX.1 hX.2.2.1 hX.2.2.2 (7 + i) 0 (wM_v hi) rfl (vp_in_nI hk (by decide)) hdg (fun H1 locs1 hP hD hS => kk H1 locs1 (WM.to ?_ hX hP hD hS))
  have ek : (nI k).toNatClampNeg = k := nI_clamp (by omega)
  rw [ek, nI_fun, ← hS']
  exact wM_setV hi
theorem km_sm (hx : p.tables.exec = Jvm.exec) (hb : c.code = cc) (hX : WM dC dI am M L A s H locs) (hi : i < 3) (hk : k < 12) {M' : MS} (hS' : mR M i ((M.1 i).1, va_up (M.1 i).2.1 k v, (M.1 i).2.2) = M') (hdg : decode cc pc = .ok (.iastore, 1)) (kk : ∀ (H1 : Heap) (locs1 : List Loc), WM dC dI am M' L A s H1 locs1 → W p l e R s m args below meth c H1 locs1 cells slots Q (F0 m (pc + 1) ls rest)) : W p l e R s m args below meth c H locs cells slots Q (F0 m pc ls (.int (nI v) :: .int (nI k) :: .ref (am (10 + i)) :: rest)) := by
  refine va_iast hx hb hX.2.1 hX.1 hX.2.2.1 hX.2.2.2 (10 + i) 0 (wM_m hi) rfl (vp_in_nI hk (by decide)) hdg (fun H1 locs1 hP hD hS => kk H1 locs1 (WM.to ?_ hX hP hD hS))
  have ek : (nI k).toNatClampNeg = k := nI_clamp (by omega)
  rw [ek, nI_fun, ← hS']
  exact wM_setM hi
theorem km_sz (hx : p.tables.exec = Jvm.exec) (hb : c.code = cc) (hX : WM dC dI am M L A s H locs)  (hk : k < 3) {M' : MS} (hS' : mR M k ((M.1 k).1, (M.1 k).2.1, v) = M') (hdg : decode cc pc = .ok (.iastore, 1)) (kk : ∀ (H1 : Heap) (locs1 : List Loc), WM dC dI am M' L A s H1 locs1 → W p l e R s m args below meth c H1 locs1 cells slots Q (F0 m (pc + 1) ls rest)) : W p l e R s m args below meth c H locs cells slots Q (F0 m pc ls (.int (nI v) :: .int (nI k) :: .ref (am 3) :: rest)) := by
  refine va_iast hx hb hX.2.1 hX.1 hX.2.2.1 hX.2.2.2 (3) 0 (wM_top (by decide)) rfl (vp_in_nI hk (by decide)) hdg (fun H1 locs1 hP hD hS => kk H1 locs1 (WM.to ?_ hX hP hD hS))
  have ek : (nI k).toNatClampNeg = k := nI_clamp (by omega)
  rw [ek, nI_fun (f := fun k => (M.1 k).2.2), ← hS']
  exact wM_setZ hk
theorem km_sk (hx : p.tables.exec = Jvm.exec) (hb : c.code = cc) (hX : WM dC dI am M L A s H locs) (hi : i < 4) (hk : k < 5) {M' : MS} (hS' : mO M i (va_up (M.2.1 i).1 k v, (M.2.1 i).2) = M') (hdg : decode cc pc = .ok (.iastore, 1)) (kk : ∀ (H1 : Heap) (locs1 : List Loc), WM dC dI am M' L A s H1 locs1 → W p l e R s m args below meth c H1 locs1 cells slots Q (F0 m (pc + 1) ls rest)) : W p l e R s m args below meth c H locs cells slots Q (F0 m pc ls (.int (nI v) :: .int (nI k) :: .ref (am (13 + i)) :: rest)) := by
  refine va_iast hx hb hX.2.1 hX.1 hX.2.2.1 hX.2.2.2 (13 + i) 0 (wM_k hi) rfl (vp_in_nI hk (by decide)) hdg (fun H1 locs1 hP hD hS => kk H1 locs1 (WM.to ?_ hX hP hD hS))
  have ek : (nI k).toNatClampNeg = k := nI_clamp (by omega)
  rw [ek, nI_fun, ← hS']
  exact wM_setK hi
theorem km_sd (hx : p.tables.exec = Jvm.exec) (hb : c.code = cc) (hX : WM dC dI am M L A s H locs) (hi : i < 4) (hk : k < 5) {M' : MS} (hS' : mO M i ((M.2.1 i).1, va_up (M.2.1 i).2.1 k z, (M.2.1 i).2.2) = M') (hdg : decode cc pc = .ok (.bastore, 1)) (kk : ∀ (H1 : Heap) (locs1 : List Loc), WM dC dI am M' L A s H1 locs1 → W p l e R s m args below meth c H1 locs1 cells slots Q (F0 m (pc + 1) ls rest)) : W p l e R s m args below meth c H locs cells slots Q (F0 m pc ls (.int (bI z) :: .int (nI k) :: .ref (am (17 + i)) :: rest)) := by
  refine va_zast hx hb hX.2.1 hX.1 hX.2.2.1 hX.2.2.2 (17 + i) 1 (wM_d hi) rfl (vp_in_nI hk (by decide)) hdg (fun H1 locs1 hP hD hS => kk H1 locs1 (WM.to ?_ hX hP hD hS))
  have ek : (nI k).toNatClampNeg = k := nI_clamp (by omega)
  rw [ek, bI_nar, bI_fun, ← hS']
  exact wM_setD hi
theorem km_st (hx : p.tables.exec = Jvm.exec) (hb : c.code = cc) (hX : WM dC dI am M L A s H locs)  (hk : k < 4) {M' : MS} (hS' : mO M k ((M.2.1 k).1, (M.2.1 k).2.1, v) = M') (hdg : decode cc pc = .ok (.iastore, 1)) (kk : ∀ (H1 : Heap) (locs1 : List Loc), WM dC dI am M' L A s H1 locs1 → W p l e R s m args below meth c H1 locs1 cells slots Q (F0 m (pc + 1) ls rest)) : W p l e R s m args below meth c H locs cells slots Q (F0 m pc ls (.int (nI v) :: .int (nI k) :: .ref (am 6) :: rest)) := by
  refine va_iast hx hb hX.2.1 hX.1 hX.2.2.1 hX.2.2.2 (6) 0 (wM_top (by decide)) rfl (vp_in_nI hk (by decide)) hdg (fun H1 locs1 hP hD hS => kk H1 locs1 (WM.to ?_ hX hP hD hS))
  have ek : (nI k).toNatClampNeg = k := nI_clamp (by omega)
  rw [ek, nI_fun (f := fun k => (M.2.1 k).2.2), ← hS']
  exact wM_setT hk
/-- an array made: behind the world's cells -/
theorem km_lay {H1 : Heap} {q : Nat} {E : va_E} (hX : WM dC dI am M L A s H locs) (h1 : va_P (dC, dI) vwCl ((wM dC am M ++ L) ++ [(q, E)]) H1) (h2 : va_D A ((wM dC am M ++ L) ++ [(q, E)])) (h3 : va_S A s.heap H1 locs) : WM dC dI am M (L ++ [(q, E)]) A s H1 locs := hX.toL (by rw [List.append_assoc]) h1 h2 h3
theorem km_newI (hx : p.tables.exec = Jvm.exec) (hb : c.code = cc) (harr : (Cond.arrayClass .int).before args s = true) (hX : WM dC dI am M L A s H locs) (hA : ∀ q, s.heap.size ≤ q → A q) (hn : n ≤ 65536) (hcells : cells + 1 ≤ R.cells) (hslots : slots + n ≤ R.slots) (hdg : decode cc pc = .ok (.newarray .int, 2))
    (kk : ∀ (q : Nat) (H1 : Heap), WM dC dI am M (L ++ [(q, .inl (dC 20, n, .inl (fun k => nI ((fun _ => 0) k))))]) A s H1 locs → W p l e R s m args below meth c H1 locs (cells + 1) (slots + n) Q (F0 m (pc + 2) ls (.ref q :: rest))) : W p l e R s m args below meth c H locs cells slots Q (F0 m pc ls (.int (nI n) :: rest)) := by
  refine va_newa (atype := .int) (ty := .int) (a0 := (n, .inl (fun _ => nI 0))) hx hb harr rfl hX.2.1 hX.1 hX.2.2.1 hX.2.2.2 hA (fun cA => ?_) (nI_pos (by omega)) (nI_clamp (by omega)) (by show n * 4 ≤ 536870912; omega) hcells hslots hdg (fun q cA H1 hK1 h1 h2 h3 => ?_)
  · rfl
  · have e0 : cA = dC 20 := by
      have e1 := (hK1.2 0 (dC 20, .int) rfl).2
      have e2 := (hK1.2 4 (cA, .int) rfl).2
      exact Option.some.inj (e2.symm.trans e1)
    subst e0
    exact kk q H1 (km_lay hX h1 h2 h3)
theorem km_newZ (hx : p.tables.exec = Jvm.exec) (hb : c.code = cc) (harr : (Cond.arrayClass .boolean).before args s = true) (hX : WM dC dI am M L A s H locs) (hA : ∀ q, s.heap.size ≤ q → A q) (hn : n ≤ 65536) (hcells : cells + 1 ≤ R.cells) (hslots : slots + n ≤ R.slots) (hdg : decode cc pc = .ok (.newarray .boolean, 2))
    (kk : ∀ (q : Nat) (H1 : Heap), WM dC dI am M (L ++ [(q, .inl (dC 21, n, .inl (fun k => bI ((fun _ => false) k))))]) A s H1 locs → W p l e R s m args below meth c H1 locs (cells + 1) (slots + n) Q (F0 m (pc + 2) ls (.ref q :: rest))) : W p l e R s m args below meth c H locs cells slots Q (F0 m pc ls (.int (nI n) :: rest)) := by
  refine va_newa (atype := .boolean) (ty := .boolean) (a0 := (n, .inl (fun _ => bI false))) hx hb harr rfl hX.2.1 hX.1 hX.2.2.1 hX.2.2.2 hA (fun cA => ?_) (nI_pos (by omega)) (nI_clamp (by omega)) (by show n * 1 ≤ 536870912; omega) hcells hslots hdg (fun q cA H1 hK1 h1 h2 h3 => ?_)
  · rfl
  · have e0 : cA = dC 21 := by
      have e1 := (hK1.2 1 (dC 21, .boolean) rfl).2
      have e2 := (hK1.2 4 (cA, .boolean) rfl).2
      exact Option.some.inj (e2.symm.trans e1)
    subst e0
    exact kk q H1 (km_lay hX h1 h2 h3)
theorem kl_li {q j N : Nat} {f : Nat → Nat} (hx : p.tables.exec = Jvm.exec) (hb : c.code = cc) (hX : WM dC dI am M L A s H locs) (hj : L[j]? = some (q, .inl (dC 20, N, .inl (fun k => nI (f k))))) (hk : k < N) (hN : N ≤ 65536) (hdg : decode cc pc = .ok (.iaload, 1)) (kk : W p l e R s m args below meth c H locs cells slots Q (F0 m (pc + 1) ls (.int (nI (f k)) :: rest))) : W p l e R s m args below meth c H locs cells slots Q (F0 m pc ls (.int (nI k) :: .ref q :: rest)) := by
  refine va_iald hx hb hX.2.1 hX.1 (21 + j) 0 (wL_loc.trans hj) rfl (vp_in_nI hk (by omega)) hdg ?_
  have ek : (nI k).toNatClampNeg = k := nI_clamp (by omega)
  show W p l e R s m args below meth c H locs cells slots Q (F0 m (pc + 1) ls (.int (nI (f (nI k).toNatClampNeg)) :: rest))
  rw [ek]
  exact kk
theorem kl_lz {q j N : Nat} {f : Nat → Bool} (hx : p.tables.exec = Jvm.exec) (hb : c.code = cc) (hX : WM dC dI am M L A s H locs) (hj : L[j]? = some (q, .inl (dC 21, N, .inl (fun k => bI (f k))))) (hk : k < N) (hN : N ≤ 65536) (hdg : decode cc pc = .ok (.baload, 1)) (kk : W p l e R s m args below meth c H locs cells slots Q (F0 m (pc + 1) ls (.int (bI (f k)) :: rest))) : W p l e R s m args below meth c H locs cells slots Q (F0 m pc ls (.int (nI k) :: .ref q :: rest)) := by
  refine va_zald hx hb hX.2.1 hX.1 (21 + j) 1 (wL_loc.trans hj) rfl (vp_in_nI hk (by omega)) hdg ?_
  have ek : (nI k).toNatClampNeg = k := nI_clamp (by omega)
  show W p l e R s m args below meth c H locs cells slots Q (F0 m (pc + 1) ls (.int (bI (f (nI k).toNatClampNeg)) :: rest))
  rw [ek]
  exact kk
theorem wL_setL {j : Nat} {x : Nat × va_E} : (wM dC am M ++ L).set (21 + j) x = wM dC am M ++ L.set j x := by
  rw [List.set_append_right _ _ (by rw [wM_len]; omega), wM_len, Nat.add_sub_cancel_left]
theorem kl_si {q j N : Nat} {f : Nat → Nat} (hx : p.tables.exec = Jvm.exec) (hb : c.code = cc) (hX : WM dC dI am M L A s H locs) (hj : L[j]? = some (q, .inl (dC 20, N, .inl (fun k => nI (f k))))) (hk : k < N) (hN : N ≤ 65536) (hdg : decode cc pc = .ok (.iastore, 1)) (kk : ∀ (H1 : Heap) (locs1 : List Loc), WM dC dI am M (L.set j (q, .inl (dC 20, N, .inl (fun x => nI (va_up f k v x))))) A s H1 locs1 → W p l e R s m args below meth c H1 locs1 cells slots Q (F0 m (pc + 1) ls rest)) : W p l e R s m args below meth c H locs cells slots Q (F0 m pc ls (.int (nI v) :: .int (nI k) :: .ref q :: rest)) := by
  refine va_iast hx hb hX.2.1 hX.1 hX.2.2.1 hX.2.2.2 (21 + j) 0 (wL_loc.trans hj) rfl (vp_in_nI hk (by omega)) hdg (fun H1 locs1 hP hD hS => kk H1 locs1 (hX.toL ?_ hP hD hS))
  have ek : (nI k).toNatClampNeg = k := nI_clamp (by omega)
  rw [ek, nI_fun, wL_setL]
theorem kl_sz {q j N : Nat} {f : Nat → Bool} (hx : p.tables.exec = Jvm.exec) (hb : c.code = cc) (hX : WM dC dI am M L A s H locs) (hj : L[j]? = some (q, .inl (dC 21, N, .inl (fun k => bI (f k))))) (hk : k < N) (hN : N ≤ 65536) (hdg : decode cc pc = .ok (.bastore, 1)) (kk : ∀ (H1 : Heap) (locs1 : List Loc), WM dC dI am M (L.set j (q, .inl (dC 21, N, .inl (fun x => bI (va_up f k z x))))) A s H1 locs1 → W p l e R s m args below meth c H1 locs1 cells slots Q (F0 m (pc + 1) ls rest)) : W p l e R s m args below meth c H locs cells slots Q (F0 m pc ls (.int (bI z) :: .int (nI k) :: .ref q :: rest)) := by
  refine va_zast hx hb hX.2.1 hX.1 hX.2.2.1 hX.2.2.2 (21 + j) 1 (wL_loc.trans hj) rfl (vp_in_nI hk (by omega)) hdg (fun H1 locs1 hP hD hS => kk H1 locs1 (hX.toL ?_ hP hD hS))
  have ek : (nI k).toNatClampNeg = k := nI_clamp (by omega)
  rw [ek, bI_nar, bI_fun, wL_setL]
end KM
theorem va_F.Y {am : Nat → Nat} {s t : State} (h : va_F (AY am s.heap.size) s t) : va_F (AM am) s t := ⟨h.1, fun q hq hA => h.2 q hq (fun z => z.elim hA (fun z2 => by have h3 : s.heap.size ≤ q := z2; omega))⟩
theorem free_Y {am : Nat → Nat} {s : State} {H : Heap} {locs locs1 : List Loc} (hS : va_S (AY am s.heap.size) s.heap H locs) (h : ∀ q ∈ locs1, q ∈ locs ∧ q.base < s.heap.size) : ∀ q ∈ locs1, AM am q.base := fun q hq => by
  obtain ⟨h1, h2⟩ := h q hq
  rcases hS.2.2 q h1 with h3 | h3
  · exact h3
  · exact absurd h2 (Nat.not_lt.mpr h3)
end
section
/-! the reference: its invariant, its orders' codes -/
def rowM (r : RowS) : Prop := r.2.2 ≤ 12 ∧ ∀ k, k < 12 → r.1 k < 16 ∧ r.2.1 k < 1000000
def ordM (o : OrdM) : Prop := o.2.2 ≤ 5 ∧ ∀ k, k < 5 → o.1 k < 8
def InvM (M : MS) : Prop := (∀ i, i < 3 → rowM (M.1 i)) ∧ ∀ j, j < 4 → ordM (M.2.1 j)
abbrev cM (M : MS) (j : Nat) : Nat → Nat := codeOf (M.2.1 j).1 (M.2.1 j).2.1 (M.2.1 j).2.2
theorem isNo_ok {k g : Nat} (h : k ≤ g) (hg : g < 2 ^ 31) : bI (decide (nI k < 0 ∨ nI g < nI k)) = bI false := by
  have hk : k < 2 ^ 31 := by omega
  rw [decide_eq_false (fun q => q.elim (fun q => absurd q (nI_pos hk)) (fun q => by rw [nI_ltI hg hk] at q; omega))]
theorem isNo_bad {x g : Int32} (h : x < 0 ∨ g < x) : bI (decide (x < 0 ∨ g < x)) = bI true := by rw [decide_eq_true h]
theorem bI_inj {a b : Bool} (h : bI a = bI b) : a = b := by
  cases a <;> cases b <;> first | rfl | exact absurd h (by decide)
theorem mN_same {M : MS} (h : M.2.2.1 = 0) : M = mN M (0, M.2.2.2) := by
  obtain ⟨a, b, c, d⟩ := M
  cases h
  rfl
theorem code_ext {K : Nat → Nat} {D : Nat → Bool} {k a b : Nat} (ha : a < 16) (hb : b < 16) (h : codeOf K D k a < codeOf K D k b) : ∀ n, k ≤ n → codeOf K D n a < codeOf K D n b
  | 0, hk => by obtain rfl : k = 0 := by omega
                exact h
  | n + 1, hk => by
    by_cases e : k = n + 1
    · subst e; exact h
    · have h1 := code_ext ha hb h n (by omega)
      have h2 := digK_lt (k := K n) (d := D n) ha
      rw [codeOf, codeOf]
      omega
theorem cmpS {K : Nat → Nat} {D : Nat → Bool} {n k a b : Nat} (hk : k < n) (ha : a < 16) (hb : b < 16) (hq : codeOf K D k a = codeOf K D k b) (hne : numK (K k) a ≠ numK (K k) b) : cmpI (codeOf K D n a) (codeOf K D n b) = if decide (numK (K k) a < numK (K k) b) = D k then 1 else -1 := by
  have h1 := numK_lt (k := K k) ha
  have h2 := numK_lt (k := K k) hb
  have e : ∀ v, codeOf K D (k + 1) v = codeOf K D k v * 16 + digK (K k) (D k) v := fun v => rfl
  have hlt : (if D k then numK (K k) b < numK (K k) a else numK (K k) a < numK (K k) b) → codeOf K D n a < codeOf K D n b := fun h => code_ext ha hb (k := k + 1) (by
    rw [e, e, hq]
    unfold digK
    cases hd : D k with
    | false => rw [hd] at h; simp at h ⊢; omega
    | true => rw [hd] at h; simp at h ⊢; omega) n hk
  have hgt : (if D k then numK (K k) a < numK (K k) b else numK (K k) b < numK (K k) a) → codeOf K D n b < codeOf K D n a := fun h => code_ext hb ha (k := k + 1) (by
    rw [e, e, hq]
    unfold digK
    cases hd : D k with
    | false => rw [hd] at h; simp at h ⊢; omega
    | true => rw [hd] at h; simp at h ⊢; omega) n hk
  by_cases hc : numK (K k) a < numK (K k) b
  · rw [decide_eq_true hc]
    cases hd : D k with
    | false => rw [if_neg (by decide), cmpI_lt (hlt (by rw [hd]; exact hc))]
    | true => rw [if_pos rfl, cmpI_gt (hgt (by rw [hd]; exact hc))]
  · rw [decide_eq_false hc]
    have hc2 : numK (K k) b < numK (K k) a := by omega
    cases hd : D k with
    | false => rw [if_pos rfl, cmpI_gt (hgt (by rw [hd]; exact hc2))]
    | true => rw [if_neg (by decide), cmpI_lt (hlt (by rw [hd]; exact hc2))]
theorem cmpS_p {K : Nat → Nat} {D : Nat → Bool} {n k a b : Nat} (hk : k < n) (ha : a < 16) (hb : b < 16) (hq : codeOf K D k a = codeOf K D k b) (hne : numK (K k) a ≠ numK (K k) b) (hz : decide (numK (K k) a < numK (K k) b) = D k) : nI 1 = cmpI (codeOf K D n a) (codeOf K D n b) := by
  rw [cmpS hk ha hb hq hne, if_pos hz]
  rfl
theorem cmpS_n {K : Nat → Nat} {D : Nat → Bool} {n k a b : Nat} (hk : k < n) (ha : a < 16) (hb : b < 16) (hq : codeOf K D k a = codeOf K D k b) (hne : numK (K k) a ≠ numK (K k) b) (hz : ¬ decide (numK (K k) a < numK (K k) b) = D k) : (-1 : Int32) = cmpI (codeOf K D n a) (codeOf K D n b) := by
  rw [cmpS hk ha hb hq hne, if_neg hz]
theorem cmpS_0 {a b : Nat} (h : a = b) : nI 0 = cmpI a b := (cmpI_eq h).symm
theorem cmpI_three (a b : Nat) : (cmpI a b = -1 ∧ a ≠ b) ∨ (cmpI a b = 0 ∧ a = b) ∨ (cmpI a b = 1 ∧ a ≠ b) := by
  rcases Nat.lt_trichotomy a b with h | h | h
  · exact Or.inl ⟨cmpI_lt h, by omega⟩
  · exact Or.inr (Or.inl ⟨cmpI_eq h, h⟩)
  · exact Or.inr (Or.inr ⟨cmpI_gt h, by omega⟩)
theorem bothM_2 {a b c d : Nat} (h : ¬ 0 ≤ cmpI a b * cmpI c d) : nI 2 = bothI a b c d := by
  unfold bothI
  revert h
  rcases cmpI_three a b with ⟨e, f⟩ | ⟨e, f⟩ | ⟨e, f⟩ <;> rcases cmpI_three c d with ⟨g, i⟩ | ⟨g, i⟩ | ⟨g, i⟩ <;> rw [e, g] <;> intro h <;> first | exact absurd (by decide) h | exact (if_pos ⟨f, by decide⟩).symm
theorem bothM_x {a b c d : Nat} (h : 0 ≤ cmpI a b * cmpI c d) (h2 : a ≠ b) : cmpI a b = bothI a b c d := by
  unfold bothI
  rw [if_neg (fun z => ?_), if_pos h2]
  obtain ⟨-, z⟩ := z
  rcases cmpI_three a b with ⟨e, f⟩ | ⟨e, f⟩ | ⟨e, f⟩ <;> rcases cmpI_three c d with ⟨g, i⟩ | ⟨g, i⟩ | ⟨g, i⟩ <;> rw [e, g] at h z <;> first | exact absurd f (fun q => q h2) | exact absurd z (by decide) | exact absurd h (by decide) | exact h2 f
theorem bothM_y {a b c d : Nat} (h2 : a = b) : cmpI c d = bothI a b c d := by
  unfold bothI
  rw [if_neg (fun z => z.1 h2), if_neg (fun z => z h2)]
def apartF (c d : Nat → Nat) (a : Nat) : Nat := cntB (fun b => decide (bothI (c a) (c b) (d a) (d b) = nI 2)) a
def apartM (c d : Nat → Nat) : Nat := sumN (apartF c d) 16
set_option maxHeartbeats 4000000 in
set_option maxRecDepth 100000 in
theorem m_X6_isNo (l : Launch) (dC : Nat → ClassId) (dI : Nat → Nat → Nat) (am : Nat → Nat) (M : MS) (x g : Int32) : Met l yX6_isNo wsX6_isNo ({ frames := 0, cells := 0, slots := 0, locals := 0 } : Room) (va_Pc [.int x, .int g] (PM dC dI am M)) (vp_Si (fun r => r = bI (decide (x < 0 ∨ g < x)))) 0 0 (fun _ => False) := by
  refine Met.ofW (cc := cX6_isNo) (maxL := 2) (ret := (some .boolean)) pl_X6 rfl ?_
  intro p e s m args below meth c s₁ B hml hv
  obtain ⟨rfl, hPX⟩ := hv
  have hx := B.exec
  have hb := B.bytes
  have hr := B.returns
  have hts := atoms_spec (ws := wsX6_isNo) B.pre
  have hown : s.vm.findClass RX6 = some m.cls := findClass_of_methodNamed B.named
  have hlocks := B.notSynchronized
  have hX := WM.of hPX
  have hl := lv_entry ([.int x, .int g]) (n := 2) (Nat.le_of_ble_eq_true rfl)
  rw [lg_entry_eq]
  generalize (lg_sl ([.int x, .int g]) ++ List.replicate (2 - (lg_sl ([.int x, .int g])).length) Slot.unset).toArray = ls at hl ⊢
  have hl : lv_has ls 2 [(0, .int x), (1, .int g)] := hl
  show W p l e ({ frames := 0, cells := 0, slots := 0, locals := 0 } : Room) s m ([.int x, .int g]).toArray below meth c s.heap [] 0 0 (MQ below (vp_Si (fun r => r = bI (decide (x < 0 ∨ g < x)))) ([.int x, .int g]).toArray s 0 0 (fun _ => False)) (F0 m 0 ls [])
  refine lv_iload_n hx hb dX6_isNo_0 rfl (lv_at hl 0 rfl) ?_
  refine lv_if_lt (tgt := 9) hx hb dX6_isNo_1 (by decide) (fun k_1 => ?_) (fun k_1 => ?_)
  · skip
    have h1 := k_1
    refine lv_iconst (v := nI 1) hx hb dX6_isNo_9 (by decide) ?_
    refine lv_goto (tgt := 14) hx hb dX6_isNo_10 (by decide) ?_
    exact W.zret (v := bI true) hx hb hr (bI_narrow _) (fun t9 ht9 hW9 => ⟨_, rfl, (kd_t (Or.inl h1)), ht9⟩) (fun _ h => nomatch h) dX6_isNo_14
  · skip
    have h1 := k_1
    refine lv_iload_n hx hb dX6_isNo_4 rfl (lv_at hl 0 rfl) ?_
    refine lv_iload_n hx hb dX6_isNo_5 rfl (lv_at hl 1 rfl) ?_
    refine lv_icmp_le (tgt := 13) hx hb dX6_isNo_6 (by decide) (fun k_2 => ?_) (fun k_2 => ?_)
    · skip
      have h2 := k_2
      refine lv_iconst (v := nI 0) hx hb dX6_isNo_13 (by decide) ?_
      exact W.zret (v := bI false) hx hb hr (bI_narrow _) (fun t9 ht9 hW9 => ⟨_, rfl, (kd_f (fun z => z.elim h1 (fun z2 => by rw [Int32.lt_iff_toInt_lt] at z2; rw [Int32.le_iff_toInt_le] at h2; omega))), ht9⟩) (fun _ h => nomatch h) dX6_isNo_14
    · skip
      have h2 := k_2
      refine lv_iconst (v := nI 1) hx hb dX6_isNo_9 (by decide) ?_
      refine lv_goto (tgt := 14) hx hb dX6_isNo_10 (by decide) ?_
      exact W.zret (v := bI true) hx hb hr (bI_narrow _) (fun t9 ht9 hW9 => ⟨_, rfl, (kd_t (Or.inr (by rw [Int32.lt_iff_toInt_lt]; rw [Int32.le_iff_toInt_le] at h2; omega))), ht9⟩) (fun _ h => nomatch h) dX6_isNo_14
set_option maxHeartbeats 4000000 in
set_option maxRecDepth 100000 in
theorem m_X6_isNoRow (l : Launch) (dC : Nat → ClassId) (dI : Nat → Nat → Nat) (am : Nat → Nat) (M : MS) (x : Int32) : Met l yX6_isNoRow wsX6_isNoRow ({ frames := 1, cells := 0, slots := 0, locals := 21 } : Room) (va_Pc [.int x] (PM dC dI am M)) (vp_Si (fun r => r = bI (decide (x < 0 ∨ nI 2 < x)))) 0 0 (fun _ => False) := by
  refine Met.ofW (cc := cX6_isNoRow) (maxL := 1) (ret := (some .boolean)) pl_X6 rfl ?_
  intro p e s m args below meth c s₁ B hml hv
  obtain ⟨rfl, hPX⟩ := hv
  have hx := B.exec
  have hb := B.bytes
  have hr := B.returns
  have hts := atoms_spec (ws := wsX6_isNoRow) B.pre
  have hown : s.vm.findClass RX6 = some m.cls := findClass_of_methodNamed B.named
  have hlocks := B.notSynchronized
  have hX := WM.of hPX
  have hl := lv_entry ([.int x]) (n := 1) (Nat.le_of_ble_eq_true rfl)
  rw [lg_entry_eq]
  generalize (lg_sl ([.int x]) ++ List.replicate (1 - (lg_sl ([.int x])).length) Slot.unset).toArray = ls at hl ⊢
  have hl : lv_has ls 1 [(0, .int x)] := hl
  show W p l e ({ frames := 1, cells := 0, slots := 0, locals := 21 } : Room) s m ([.int x]).toArray below meth c s.heap [] 0 0 (MQ below (vp_Si (fun r => r = bI (decide (x < 0 ∨ nI 2 < x)))) ([.int x]).toArray s 0 0 (fun _ => False)) (F0 m 0 ls [])
  refine lv_iload_n hx hb dX6_isNoRow_0 rfl (lv_at hl 0 rfl) ?_
  refine lv_iconst (v := nI 2) hx hb dX6_isNoRow_1 (by decide) ?_
  refine kx_cr (v := bI (decide (x < 0 ∨ nI 2 < x))) (va_runS (As := [.int x, .int (nI 2)]) (rest := []) ⟨hx, hb, hml, hown, hts⟩ (m_X6_isNo l dC dI am M x (nI 2)) (va_cwS 2 hts gX6_isNoRow_X6_isNo rfl rfl rfl hdX6_isNo_2.2 ⟨Nat.le_of_ble_eq_true rfl, Nat.le_of_ble_eq_true rfl⟩) hX.preS rfl rfl hl.1 rfl (lv_room (Nat.le_of_ble_eq_true rfl)) dX6_isNoRow_2 ⟨Nat.le_of_ble_eq_true rfl, Nat.le_of_ble_eq_true rfl⟩) (fun _ h => h) ?_
  exact W.zret (v := bI (decide (x < 0 ∨ nI 2 < x))) hx hb hr (bI_narrow _) (fun t9 ht9 hW9 => ⟨_, rfl, rfl, ht9⟩) (fun _ h => nomatch h) dX6_isNoRow_5
set_option maxHeartbeats 4000000 in
set_option maxRecDepth 100000 in
theorem m_X6_isNoOrder (l : Launch) (dC : Nat → ClassId) (dI : Nat → Nat → Nat) (am : Nat → Nat) (M : MS) (x : Int32) : Met l yX6_isNoOrder wsX6_isNoOrder ({ frames := 1, cells := 0, slots := 0, locals := 21 } : Room) (va_Pc [.int x] (PM dC dI am M)) (vp_Si (fun r => r = bI (decide (x < 0 ∨ nI 3 < x)))) 0 0 (fun _ => False) := by
  refine Met.ofW (cc := cX6_isNoOrder) (maxL := 1) (ret := (some .boolean)) pl_X6 rfl ?_
  intro p e s m args below meth c s₁ B hml hv
  obtain ⟨rfl, hPX⟩ := hv
  have hx := B.exec
  have hb := B.bytes
  have hr := B.returns
  have hts := atoms_spec (ws := wsX6_isNoOrder) B.pre
  have hown : s.vm.findClass RX6 = some m.cls := findClass_of_methodNamed B.named
  have hlocks := B.notSynchronized
  have hX := WM.of hPX
  have hl := lv_entry ([.int x]) (n := 1) (Nat.le_of_ble_eq_true rfl)
  rw [lg_entry_eq]
  generalize (lg_sl ([.int x]) ++ List.replicate (1 - (lg_sl ([.int x])).length) Slot.unset).toArray = ls at hl ⊢
  have hl : lv_has ls 1 [(0, .int x)] := hl
  show W p l e ({ frames := 1, cells := 0, slots := 0, locals := 21 } : Room) s m ([.int x]).toArray below meth c s.heap [] 0 0 (MQ below (vp_Si (fun r => r = bI (decide (x < 0 ∨ nI 3 < x)))) ([.int x]).toArray s 0 0 (fun _ => False)) (F0 m 0 ls [])
  refine lv_iload_n hx hb dX6_isNoOrder_0 rfl (lv_at hl 0 rfl) ?_
  refine lv_iconst (v := nI 3) hx hb dX6_isNoOrder_1 (by decide) ?_
  refine kx_cr (v := bI (decide (x < 0 ∨ nI 3 < x))) (va_runS (As := [.int x, .int (nI 3)]) (rest := []) ⟨hx, hb, hml, hown, hts⟩ (m_X6_isNo l dC dI am M x (nI 3)) (va_cwS 2 hts gX6_isNoOrder_X6_isNo rfl rfl rfl hdX6_isNo_2.2 ⟨Nat.le_of_ble_eq_true rfl, Nat.le_of_ble_eq_true rfl⟩) hX.preS rfl rfl hl.1 rfl (lv_room (Nat.le_of_ble_eq_true rfl)) dX6_isNoOrder_2 ⟨Nat.le_of_ble_eq_true rfl, Nat.le_of_ble_eq_true rfl⟩) (fun _ h => h) ?_
  exact W.zret (v := bI (decide (x < 0 ∨ nI 3 < x))) hx hb hr (bI_narrow _) (fun t9 ht9 hW9 => ⟨_, rfl, rfl, ht9⟩) (fun _ h => nomatch h) dX6_isNoOrder_5
set_option maxHeartbeats 4000000 in
set_option maxRecDepth 100000 in
theorem m_X6_isNoValue (l : Launch) (dC : Nat → ClassId) (dI : Nat → Nat → Nat) (am : Nat → Nat) (M : MS) (x : Int32) : Met l yX6_isNoValue wsX6_isNoValue ({ frames := 1, cells := 0, slots := 0, locals := 21 } : Room) (va_Pc [.int x] (PM dC dI am M)) (vp_Si (fun r => r = bI (decide (x < 0 ∨ nI 15 < x)))) 0 0 (fun _ => False) := by
  refine Met.ofW (cc := cX6_isNoValue) (maxL := 1) (ret := (some .boolean)) pl_X6 rfl ?_
  intro p e s m args below meth c s₁ B hml hv
  obtain ⟨rfl, hPX⟩ := hv
  have hx := B.exec
  have hb := B.bytes
  have hr := B.returns
  have hts := atoms_spec (ws := wsX6_isNoValue) B.pre
  have hown : s.vm.findClass RX6 = some m.cls := findClass_of_methodNamed B.named
  have hlocks := B.notSynchronized
  have hX := WM.of hPX
  have hl := lv_entry ([.int x]) (n := 1) (Nat.le_of_ble_eq_true rfl)
  rw [lg_entry_eq]
  generalize (lg_sl ([.int x]) ++ List.replicate (1 - (lg_sl ([.int x])).length) Slot.unset).toArray = ls at hl ⊢
  have hl : lv_has ls 1 [(0, .int x)] := hl
  show W p l e ({ frames := 1, cells := 0, slots := 0, locals := 21 } : Room) s m ([.int x]).toArray below meth c s.heap [] 0 0 (MQ below (vp_Si (fun r => r = bI (decide (x < 0 ∨ nI 15 < x)))) ([.int x]).toArray s 0 0 (fun _ => False)) (F0 m 0 ls [])
  refine lv_iload_n hx hb dX6_isNoValue_0 rfl (lv_at hl 0 rfl) ?_
  refine lv_bipush (v := nI 15) hx hb dX6_isNoValue_1 (by decide) ?_
  refine kx_cr (v := bI (decide (x < 0 ∨ nI 15 < x))) (va_runS (As := [.int x, .int (nI 15)]) (rest := []) ⟨hx, hb, hml, hown, hts⟩ (m_X6_isNo l dC dI am M x (nI 15)) (va_cwS 2 hts gX6_isNoValue_X6_isNo rfl rfl rfl hdX6_isNo_2.2 ⟨Nat.le_of_ble_eq_true rfl, Nat.le_of_ble_eq_true rfl⟩) hX.preS rfl rfl hl.1 rfl (lv_room (Nat.le_of_ble_eq_true rfl)) dX6_isNoValue_3 ⟨Nat.le_of_ble_eq_true rfl, Nat.le_of_ble_eq_true rfl⟩) (fun _ h => h) ?_
  exact W.zret (v := bI (decide (x < 0 ∨ nI 15 < x))) hx hb hr (bI_narrow _) (fun t9 ht9 hW9 => ⟨_, rfl, rfl, ht9⟩) (fun _ h => nomatch h) dX6_isNoValue_6
set_option maxHeartbeats 4000000 in
set_option maxRecDepth 100000 in
theorem m_X6_refuse (l : Launch) (dC : Nat → ClassId) (dI : Nat → Nat → Nat) (am : Nat → Nat) (M : MS) (z : Bool) (u : Nat) (hu : 0 < u ∧ u < 100) (ht : M.2.2.1 = 0) : Met l yX6_refuse wsX6_refuse ({ frames := 0, cells := 0, slots := 0, locals := 0 } : Room) (va_Pc [.ref (am 0), .int (bI z), .int (nI u)] (PM dC dI am M)) (va_Qi (fun r M' => r = bI z ∧ M' = mN M (cond z u 0, M.2.2.2)) (PM dC dI am) (AM am)) 0 0 (AM am) := by
  refine Met.ofW (cc := cX6_refuse) (maxL := 3) (ret := (some .boolean)) pl_X6 rfl ?_
  intro p e s m args below meth c s₁ B hml hv
  obtain ⟨rfl, hPX⟩ := hv
  have hx := B.exec
  have hb := B.bytes
  have hr := B.returns
  have hts := atoms_spec (ws := wsX6_refuse) B.pre
  have hown : s.vm.findClass RX6 = some m.cls := findClass_of_methodNamed B.named
  have hlocks := B.notSynchronized
  have hin6 : ∀ w ∈ u_ws RX6 TX6 10, w ∈ wsX6_refuse := tu 1331 (by decide +kernel) rfl
  have hX := WM.of hPX
  have hl := lv_entry ([.ref (am 0), .int (bI z), .int (nI u)]) (n := 3) (Nat.le_of_ble_eq_true rfl)
  rw [lg_entry_eq]
  generalize (lg_sl ([.ref (am 0), .int (bI z), .int (nI u)]) ++ List.replicate (3 - (lg_sl ([.ref (am 0), .int (bI z), .int (nI u)])).length) Slot.unset).toArray = ls at hl ⊢
  have hl : lv_has ls 3 [(0, .ref (am 0)), (1, .int (bI z)), (2, .int (nI u))] := hl
  show W p l e ({ frames := 0, cells := 0, slots := 0, locals := 0 } : Room) s m ([.ref (am 0), .int (bI z), .int (nI u)]).toArray below meth c s.heap [] 0 0 (MQ below (va_Qi (fun r M' => r = bI z ∧ M' = mN M (cond z u 0, M.2.2.2)) (PM dC dI am) (AM am)) ([.ref (am 0), .int (bI z), .int (nI u)]).toArray s 0 0 (AM am)) (F0 m 0 ls [])
  refine lv_iload_n hx hb dX6_refuse_0 rfl (lv_at hl 1 rfl) ?_
  refine kb_if_eq (tgt := 16) hx hb dX6_refuse_1 (by decide) (fun k_1 => ?_) (fun k_1 => ?_)
  · skip
    have hz := k_1
    refine lv_aload_n hx hb dX6_refuse_16 rfl (lv_at hl 0 rfl) ?_
    refine km_gthrown (n := M.2.2.1) hx hb hts hin6 hown hX rfl (hts (.fieldLink RX6 32 "OrderlatticeModel" "thrown" "I") (tm 693 (by decide +kernel) rfl)) dX6_refuse_17 ?_
    refine kn_if_le (tgt := 27) hx hb (by omega) dX6_refuse_20 (by decide) (fun k_2 => ?_) (fun k_2 => absurd k_2 (by omega))
    refine lv_iconst (v := nI 0) hx hb dX6_refuse_27 (by decide) ?_
    exact W.zret (v := bI false) hx hb hr (bI_narrow _) (fun t9 ht9 hW9 => ⟨⟨_, M, rfl, ⟨by rw [hz], by rw [hz]; exact mN_same ht⟩, hX.P ht9 hW9⟩, hX.2.2.2.F ht9⟩) hX.2.2.2.2.2 dX6_refuse_28
  · skip
    have hz := k_1
    refine lv_aload_n hx hb dX6_refuse_4 rfl (lv_at hl 0 rfl) ?_
    refine km_gthrown (n := M.2.2.1) hx hb hts hin6 hown hX rfl (hts (.fieldLink RX6 32 "OrderlatticeModel" "thrown" "I") (tm 693 (by decide +kernel) rfl)) dX6_refuse_5 ?_
    refine kn_if_ne (tgt := 16) hx hb (by omega) dX6_refuse_8 (by decide) (fun k_3 => absurd k_3 (by omega)) (fun k_3 => ?_)
    refine lv_aload_n hx hb dX6_refuse_11 rfl (lv_at hl 0 rfl) ?_
    refine lv_iload_n hx hb dX6_refuse_12 rfl (lv_at hl 2 rfl) ?_
    refine km_pthrown (M' := (mN M (u, M.2.2.2.1, M.2.2.2.2.1, M.2.2.2.2.2))) hx hb hts hin6 hown hX rfl (hts (.fieldLink RX6 32 "OrderlatticeModel" "thrown" "I") (tm 693 (by decide +kernel) rfl)) dX6_refuse_13 (fun H locs hX => ?_)
    refine lv_aload_n hx hb dX6_refuse_16 rfl (lv_at hl 0 rfl) ?_
    refine km_gthrown (n := u) hx hb hts hin6 hown hX rfl (hts (.fieldLink RX6 32 "OrderlatticeModel" "thrown" "I") (tm 693 (by decide +kernel) rfl)) dX6_refuse_17 ?_
    refine kn_if_le (tgt := 27) hx hb (by omega) dX6_refuse_20 (by decide) (fun k_4 => absurd k_4 (by omega)) (fun k_4 => ?_)
    refine lv_iconst (v := nI 1) hx hb dX6_refuse_23 (by decide) ?_
    refine lv_goto (tgt := 28) hx hb dX6_refuse_24 (by decide) ?_
    exact W.zret (v := bI true) hx hb hr (bI_narrow _) (fun t9 ht9 hW9 => ⟨⟨_, (mN M (u, M.2.2.2.1, M.2.2.2.2.1, M.2.2.2.2.2)), rfl, ⟨by rw [hz], by rw [hz]; rfl⟩, hX.P ht9 hW9⟩, hX.2.2.2.F ht9⟩) hX.2.2.2.2.2 dX6_refuse_28
set_option maxHeartbeats 4000000 in
set_option maxRecDepth 100000 in
theorem m_X6_start (l : Launch) (dC : Nat → ClassId) (dI : Nat → Nat → Nat) (am : Nat → Nat) (M : MS) (z : Bool) (u : Nat) (hu : 0 < u ∧ u < 100) : Met l yX6_start wsX6_start ({ frames := 1, cells := 0, slots := 0, locals := 22 } : Room) (va_Pc [.ref (am 0), .int (bI z), .int (nI u)] (PM dC dI am M)) (va_Qi (fun r M' => r = bI z ∧ M' = mN M (cond z u 0, M.2.2.2)) (PM dC dI am) (AM am)) 0 0 (AM am) := by
  refine Met.ofW (cc := cX6_start) (maxL := 3) (ret := (some .boolean)) pl_X6 rfl ?_
  intro p e s m args below meth c s₁ B hml hv
  obtain ⟨rfl, hPX⟩ := hv
  have hx := B.exec
  have hb := B.bytes
  have hr := B.returns
  have hts := atoms_spec (ws := wsX6_start) B.pre
  have hown : s.vm.findClass RX6 = some m.cls := findClass_of_methodNamed B.named
  have hlocks := B.notSynchronized
  have hin6 : ∀ w ∈ u_ws RX6 TX6 10, w ∈ wsX6_start := tu 1331 (by decide +kernel) rfl
  have hX := WM.of hPX
  have hl := lv_entry ([.ref (am 0), .int (bI z), .int (nI u)]) (n := 3) (Nat.le_of_ble_eq_true rfl)
  rw [lg_entry_eq]
  generalize (lg_sl ([.ref (am 0), .int (bI z), .int (nI u)]) ++ List.replicate (3 - (lg_sl ([.ref (am 0), .int (bI z), .int (nI u)])).length) Slot.unset).toArray = ls at hl ⊢
  have hl : lv_has ls 3 [(0, .ref (am 0)), (1, .int (bI z)), (2, .int (nI u))] := hl
  show W p l e ({ frames := 1, cells := 0, slots := 0, locals := 22 } : Room) s m ([.ref (am 0), .int (bI z), .int (nI u)]).toArray below meth c s.heap [] 0 0 (MQ below (va_Qi (fun r M' => r = bI z ∧ M' = mN M (cond z u 0, M.2.2.2)) (PM dC dI am) (AM am)) ([.ref (am 0), .int (bI z), .int (nI u)]).toArray s 0 0 (AM am)) (F0 m 0 ls [])
  refine lv_aload_n hx hb dX6_start_0 rfl (lv_at hl 0 rfl) ?_
  refine lv_iconst (v := nI 0) hx hb dX6_start_1 (by decide) ?_
  refine km_pthrown (M' := (mN M (0, M.2.2.2.1, M.2.2.2.2.1, M.2.2.2.2.2))) hx hb hts hin6 hown hX rfl (hts (.fieldLink RX6 32 "OrderlatticeModel" "thrown" "I") (tm 693 (by decide +kernel) rfl)) dX6_start_2 (fun H locs hX => ?_)
  refine lv_aload_n hx hb dX6_start_5 rfl (lv_at hl 0 rfl) ?_
  refine lv_iload_n hx hb dX6_start_6 rfl (lv_at hl 1 rfl) ?_
  refine lv_iload_n hx hb dX6_start_7 rfl (lv_at hl 2 rfl) ?_
  refine km_ci (va_runV (As := [.int (bI z), .int (nI u)]) (rest := []) ⟨hx, hb, hml, hown, hts⟩ (m_X6_refuse l dC dI am (mN M (0, M.2.2.2.1, M.2.2.2.2.1, M.2.2.2.2.2)) z u hu rfl) (cwV 2 hts gX6_start_X6_refuse rfl rfl rfl hdX6_refuse_2 ⟨Nat.le_of_ble_eq_true rfl, Nat.le_of_ble_eq_true rfl⟩) (hX.preObj) rfl rfl hl.1 rfl (lv_room (Nat.le_of_ble_eq_true rfl)) dX6_start_8 ⟨Nat.le_of_ble_eq_true rfl, Nat.le_of_ble_eq_true rfl⟩) hX (fun _ h => h) (fun r_ S_ H locs hw hX => ?_)
  obtain ⟨rfl, rfl⟩ := hw
  exact W.zret (v := bI z) hx hb hr (bI_narrow _) (fun t9 ht9 hW9 => ⟨⟨_, (mN M (cond z u 0, M.2.2.2.1, M.2.2.2.2.1, M.2.2.2.2.2)), rfl, ⟨rfl, rfl⟩, hX.P ht9 hW9⟩, hX.2.2.2.F ht9⟩) hX.2.2.2.2.2 dX6_start_11
set_option maxHeartbeats 4000000 in
set_option maxRecDepth 100000 in
theorem m_X6_no (l : Launch) (dC : Nat → ClassId) (dI : Nat → Nat → Nat) (am : Nat → Nat) (M : MS) : Met l yX6_no wsX6_no ({ frames := 0, cells := 0, slots := 0, locals := 0 } : Room) (va_Pc [.ref (am 0)] (PM dC dI am M)) (va_Qi (fun r M' => r = -9 ∧ M' = mN M (M.2.2.1, M.2.2.2.1, M.2.2.2.2.1 + 1, M.2.2.2.2.2)) (PM dC dI am) (AM am)) 0 0 (AM am) := by
  refine Met.ofW (cc := cX6_no) (maxL := 1) (ret := (some .int)) pl_X6 rfl ?_
  intro p e s m args below meth c s₁ B hml hv
  obtain ⟨rfl, hPX⟩ := hv
  have hx := B.exec
  have hb := B.bytes
  have hr := B.returns
  have hts := atoms_spec (ws := wsX6_no) B.pre
  have hown : s.vm.findClass RX6 = some m.cls := findClass_of_methodNamed B.named
  have hlocks := B.notSynchronized
  have hin6 : ∀ w ∈ u_ws RX6 TX6 10, w ∈ wsX6_no := tu 1331 (by decide +kernel) rfl
  have hX := WM.of hPX
  have hl := lv_entry ([.ref (am 0)]) (n := 1) (Nat.le_of_ble_eq_true rfl)
  rw [lg_entry_eq]
  generalize (lg_sl ([.ref (am 0)]) ++ List.replicate (1 - (lg_sl ([.ref (am 0)])).length) Slot.unset).toArray = ls at hl ⊢
  have hl : lv_has ls 1 [(0, .ref (am 0))] := hl
  show W p l e ({ frames := 0, cells := 0, slots := 0, locals := 0 } : Room) s m ([.ref (am 0)]).toArray below meth c s.heap [] 0 0 (MQ below (va_Qi (fun r M' => r = -9 ∧ M' = mN M (M.2.2.1, M.2.2.2.1, M.2.2.2.2.1 + 1, M.2.2.2.2.2)) (PM dC dI am) (AM am)) ([.ref (am 0)]).toArray s 0 0 (AM am)) (F0 m 0 ls [])
  refine lv_aload_n hx hb dX6_no_0 rfl (lv_at hl 0 rfl) ?_
  refine lv_dup hx hb dX6_no_1 rfl ?_
  refine km_grefused (n := M.2.2.2.2.1) hx hb hts hin6 hown hX rfl (hts (.fieldLink RX6 44 "OrderlatticeModel" "refused" "I") (tm 705 (by decide +kernel) rfl)) dX6_no_2 ?_
  refine lv_iconst (v := nI 1) hx hb dX6_no_5 (by decide) ?_
  refine kn_iadd hx hb dX6_no_6 ?_
  refine km_prefused (M' := (mN M (M.2.2.1, M.2.2.2.1, M.2.2.2.2.1 + 1, M.2.2.2.2.2))) hx hb hts hin6 hown hX rfl (hts (.fieldLink RX6 44 "OrderlatticeModel" "refused" "I") (tm 705 (by decide +kernel) rfl)) dX6_no_7 (fun H locs hX => ?_)
  refine lv_bipush (v := (-9)) hx hb dX6_no_10 (by decide) ?_
  exact W.iret (v := (-9)) hx hb hr (fun t9 ht9 hW9 => ⟨⟨_, (mN M (M.2.2.1, M.2.2.2.1, M.2.2.2.2.1 + 1, M.2.2.2.2.2)), rfl, ⟨rfl, rfl⟩, hX.P ht9 hW9⟩, hX.2.2.2.F ht9⟩) hX.2.2.2.2.2 dX6_no_12
set_option maxHeartbeats 4000000 in
set_option maxRecDepth 100000 in
theorem m_X6_keyNow (l : Launch) (dC : Nat → ClassId) (dI : Nat → Nat → Nat) (am : Nat → Nat) (M : MS) (k v : Nat) (hk : k < 8) (hv : v < 16) : Met l yX6_keyNow wsX6_keyNow ({ frames := 0, cells := 0, slots := 0, locals := 0 } : Room) (va_Pc [.int (nI k), .int (nI v)] (PM dC dI am M)) (vp_Si (fun r => r = nI (numK k v))) 0 0 (fun _ => False) := by
  refine Met.ofW (cc := cX6_keyNow) (maxL := 2) (ret := (some .int)) pl_X6 rfl ?_
  intro p e s m args below meth c s₁ B hml hv
  obtain ⟨rfl, hPX⟩ := hv
  have hx := B.exec
  have hb := B.bytes
  have hr := B.returns
  have hts := atoms_spec (ws := wsX6_keyNow) B.pre
  have hown : s.vm.findClass RX6 = some m.cls := findClass_of_methodNamed B.named
  have hlocks := B.notSynchronized
  have hX := WM.of hPX
  have hl := lv_entry ([.int (nI k), .int (nI v)]) (n := 2) (Nat.le_of_ble_eq_true rfl)
  rw [lg_entry_eq]
  generalize (lg_sl ([.int (nI k), .int (nI v)]) ++ List.replicate (2 - (lg_sl ([.int (nI k), .int (nI v)])).length) Slot.unset).toArray = ls at hl ⊢
  have hl : lv_has ls 2 [(0, .int (nI k)), (1, .int (nI v))] := hl
  show W p l e ({ frames := 0, cells := 0, slots := 0, locals := 0 } : Room) s m ([.int (nI k), .int (nI v)]).toArray below meth c s.heap [] 0 0 (MQ below (vp_Si (fun r => r = nI (numK k v))) ([.int (nI k), .int (nI v)]).toArray s 0 0 (fun _ => False)) (F0 m 0 ls [])
  rcases (show k = 0 ∨ k = 1 ∨ k = 2 ∨ k = 3 ∨ k = 4 ∨ k = 5 ∨ k = 6 ∨ k = 7 by omega) with rfl | rfl | rfl | rfl | rfl | rfl | rfl | rfl
  · skip
    have hl : lv_has ls 2 [(0, .int (nI 0)), (1, .int (nI v))] := hl
    refine lv_iload_n hx hb dX6_keyNow_0 rfl (lv_at hl 0 rfl) ?_
    refine lv_tableIn (x := nI 0) (off := 43) (tgt := 44) hx hb dX6_keyNow_1 (by decide) (by decide) (by decide) (by decide) ?_
    refine lv_iload_n hx hb dX6_keyNow_44 rfl (lv_at hl 1 rfl) ?_
    exact W.iret (v := nI v) hx hb hr (fun t9 ht9 hW9 => ⟨_, rfl, rfl, ht9⟩) (fun _ h => nomatch h) dX6_keyNow_45
  · skip
    have hl : lv_has ls 2 [(0, .int (nI 1)), (1, .int (nI v))] := hl
    refine lv_iload_n hx hb dX6_keyNow_0 rfl (lv_at hl 0 rfl) ?_
    refine lv_tableIn (x := nI 1) (off := 45) (tgt := 46) hx hb dX6_keyNow_1 (by decide) (by decide) (by decide) (by decide) ?_
    refine lv_iload_n hx hb dX6_keyNow_46 rfl (lv_at hl 1 rfl) ?_
    refine lv_iconst (v := nI 4) hx hb dX6_keyNow_47 (by decide) ?_
    refine kn_idiv hx hb (by omega) (by omega) (by omega) dX6_keyNow_48 ?_
    exact W.iret (v := nI (v / 4)) hx hb hr (fun t9 ht9 hW9 => ⟨_, rfl, rfl, ht9⟩) (fun _ h => nomatch h) dX6_keyNow_49
  · skip
    have hl : lv_has ls 2 [(0, .int (nI 2)), (1, .int (nI v))] := hl
    refine lv_iload_n hx hb dX6_keyNow_0 rfl (lv_at hl 0 rfl) ?_
    refine lv_tableIn (x := nI 2) (off := 49) (tgt := 50) hx hb dX6_keyNow_1 (by decide) (by decide) (by decide) (by decide) ?_
    refine lv_iload_n hx hb dX6_keyNow_50 rfl (lv_at hl 1 rfl) ?_
    refine lv_iconst (v := nI 4) hx hb dX6_keyNow_51 (by decide) ?_
    refine kn_irem hx hb (by omega) (by omega) (by omega) dX6_keyNow_52 ?_
    exact W.iret (v := nI (v % 4)) hx hb hr (fun t9 ht9 hW9 => ⟨_, rfl, rfl, ht9⟩) (fun _ h => nomatch h) dX6_keyNow_53
  · skip
    have hl : lv_has ls 2 [(0, .int (nI 3)), (1, .int (nI v))] := hl
    refine lv_iload_n hx hb dX6_keyNow_0 rfl (lv_at hl 0 rfl) ?_
    refine lv_tableIn (x := nI 3) (off := 53) (tgt := 54) hx hb dX6_keyNow_1 (by decide) (by decide) (by decide) (by decide) ?_
    refine lv_iload_n hx hb dX6_keyNow_54 rfl (lv_at hl 1 rfl) ?_
    refine lv_iconst (v := nI 2) hx hb dX6_keyNow_55 (by decide) ?_
    refine kn_irem hx hb (by omega) (by omega) (by omega) dX6_keyNow_56 ?_
    exact W.iret (v := nI (v % 2)) hx hb hr (fun t9 ht9 hW9 => ⟨_, rfl, rfl, ht9⟩) (fun _ h => nomatch h) dX6_keyNow_57
  · skip
    have hl : lv_has ls 2 [(0, .int (nI 4)), (1, .int (nI v))] := hl
    refine lv_iload_n hx hb dX6_keyNow_0 rfl (lv_at hl 0 rfl) ?_
    refine lv_tableIn (x := nI 4) (off := 57) (tgt := 58) hx hb dX6_keyNow_1 (by decide) (by decide) (by decide) (by decide) ?_
    refine lv_iload_n hx hb dX6_keyNow_58 rfl (lv_at hl 1 rfl) ?_
    refine lv_iconst (v := nI 3) hx hb dX6_keyNow_59 (by decide) ?_
    refine kn_irem hx hb (by omega) (by omega) (by omega) dX6_keyNow_60 ?_
    exact W.iret (v := nI (v % 3)) hx hb hr (fun t9 ht9 hW9 => ⟨_, rfl, rfl, ht9⟩) (fun _ h => nomatch h) dX6_keyNow_61
  · skip
    have hl : lv_has ls 2 [(0, .int (nI 5)), (1, .int (nI v))] := hl
    refine lv_iload_n hx hb dX6_keyNow_0 rfl (lv_at hl 0 rfl) ?_
    refine lv_tableIn (x := nI 5) (off := 61) (tgt := 62) hx hb dX6_keyNow_1 (by decide) (by decide) (by decide) (by decide) ?_
    refine lv_iload_n hx hb dX6_keyNow_62 rfl (lv_at hl 1 rfl) ?_
    refine lv_bipush (v := nI 8) hx hb dX6_keyNow_63 (by decide) ?_
    refine kn_icmp_ge (tgt := 75) hx hb (by omega) (by omega) dX6_keyNow_65 (by decide) (fun k_1 => ?_) (fun k_1 => ?_)
    · skip
      refine lv_iload_n hx hb dX6_keyNow_75 rfl (lv_at hl 1 rfl) ?_
      refine lv_bipush (v := nI 8) hx hb dX6_keyNow_76 (by decide) ?_
      refine kn_isub hx hb (by omega) dX6_keyNow_78 ?_
      exact W.iret (v := nI (v - 8)) hx hb hr (fun t9 ht9 hW9 => ⟨_, rfl, (by show _ = nI (if v < 8 then 7 - v else v - 8); rw [if_neg (by omega)]), ht9⟩) (fun _ h => nomatch h) dX6_keyNow_79
    · skip
      refine lv_bipush (v := nI 7) hx hb dX6_keyNow_68 (by decide) ?_
      refine lv_iload_n hx hb dX6_keyNow_70 rfl (lv_at hl 1 rfl) ?_
      refine kn_isub hx hb (by omega) dX6_keyNow_71 ?_
      refine lv_goto (tgt := 79) hx hb dX6_keyNow_72 (by decide) ?_
      exact W.iret (v := nI (7 - v)) hx hb hr (fun t9 ht9 hW9 => ⟨_, rfl, (by show _ = nI (if v < 8 then 7 - v else v - 8); rw [if_pos (by omega)]), ht9⟩) (fun _ h => nomatch h) dX6_keyNow_79
  · skip
    have hl : lv_has ls 2 [(0, .int (nI 6)), (1, .int (nI v))] := hl
    refine lv_iload_n hx hb dX6_keyNow_0 rfl (lv_at hl 0 rfl) ?_
    refine lv_tableIn (x := nI 6) (off := 79) (tgt := 80) hx hb dX6_keyNow_1 (by decide) (by decide) (by decide) (by decide) ?_
    refine lv_iload_n hx hb dX6_keyNow_80 rfl (lv_at hl 1 rfl) ?_
    refine lv_bipush (v := nI 8) hx hb dX6_keyNow_81 (by decide) ?_
    refine kn_idiv hx hb (by omega) (by omega) (by omega) dX6_keyNow_83 ?_
    refine lv_iload_n hx hb dX6_keyNow_84 rfl (lv_at hl 1 rfl) ?_
    refine lv_iconst (v := nI 4) hx hb dX6_keyNow_85 (by decide) ?_
    refine kn_idiv hx hb (by omega) (by omega) (by omega) dX6_keyNow_86 ?_
    refine lv_iconst (v := nI 2) hx hb dX6_keyNow_87 (by decide) ?_
    refine kn_irem hx hb (by omega) (by omega) (by omega) dX6_keyNow_88 ?_
    refine kn_iadd hx hb dX6_keyNow_89 ?_
    refine lv_iload_n hx hb dX6_keyNow_90 rfl (lv_at hl 1 rfl) ?_
    refine lv_iconst (v := nI 2) hx hb dX6_keyNow_91 (by decide) ?_
    refine kn_idiv hx hb (by omega) (by omega) (by omega) dX6_keyNow_92 ?_
    refine lv_iconst (v := nI 2) hx hb dX6_keyNow_93 (by decide) ?_
    refine kn_irem hx hb (by omega) (by omega) (by omega) dX6_keyNow_94 ?_
    refine kn_iadd hx hb dX6_keyNow_95 ?_
    refine lv_iload_n hx hb dX6_keyNow_96 rfl (lv_at hl 1 rfl) ?_
    refine lv_iconst (v := nI 2) hx hb dX6_keyNow_97 (by decide) ?_
    refine kn_irem hx hb (by omega) (by omega) (by omega) dX6_keyNow_98 ?_
    refine kn_iadd hx hb dX6_keyNow_99 ?_
    exact W.iret (v := nI (v / 8 + ((v / 4) % 2) + ((v / 2) % 2) + (v % 2))) hx hb hr (fun t9 ht9 hW9 => ⟨_, rfl, rfl, ht9⟩) (fun _ h => nomatch h) dX6_keyNow_100
  · skip
    have hl : lv_has ls 2 [(0, .int (nI 7)), (1, .int (nI v))] := hl
    refine lv_iload_n hx hb dX6_keyNow_0 rfl (lv_at hl 0 rfl) ?_
    refine lv_tableOut (x := nI 7) (tgt := 101) hx hb dX6_keyNow_1 (by decide) (by decide) ?_
    refine lv_iconst (v := nI 0) hx hb dX6_keyNow_101 (by decide) ?_
    exact W.iret (v := nI 0) hx hb hr (fun t9 ht9 hW9 => ⟨_, rfl, rfl, ht9⟩) (fun _ h => nomatch h) dX6_keyNow_102
set_option maxHeartbeats 4000000 in
set_option maxRecDepth 100000 in
theorem m_X6_compareNow (l : Launch) (dC : Nat → ClassId) (dI : Nat → Nat → Nat) (am : Nat → Nat) (M : MS) (j a b : Nat) (hj : j < 4) (ho : ordM (M.2.1 j)) (ha : a < 16) (hb9 : b < 16) : Met l yX6_compareNow wsX6_compareNow ({ frames := 1, cells := 0, slots := 0, locals := 21 } : Room) (va_Pc [.ref (am 0), .int (nI j), .int (nI a), .int (nI b)] (PM dC dI am M)) (vp_Si (fun r => r = cmpI (cM M j a) (cM M j b))) 0 0 (fun _ => False) := by
  refine Met.ofW (cc := cX6_compareNow) (maxL := 7) (ret := (some .int)) pl_X6 rfl ?_
  intro p e s m args below meth c s₁ B hml hv
  obtain ⟨rfl, hPX⟩ := hv
  have hx := B.exec
  have hb := B.bytes
  have hr := B.returns
  have hts := atoms_spec (ws := wsX6_compareNow) B.pre
  have hown : s.vm.findClass RX6 = some m.cls := findClass_of_methodNamed B.named
  have hlocks := B.notSynchronized
  have hin6 : ∀ w ∈ u_ws RX6 TX6 10, w ∈ wsX6_compareNow := tu 1331 (by decide +kernel) rfl
  have hX := WM.of hPX
  have hl := lv_entry ([.ref (am 0), .int (nI j), .int (nI a), .int (nI b)]) (n := 7) (Nat.le_of_ble_eq_true rfl)
  rw [lg_entry_eq]
  generalize (lg_sl ([.ref (am 0), .int (nI j), .int (nI a), .int (nI b)]) ++ List.replicate (7 - (lg_sl ([.ref (am 0), .int (nI j), .int (nI a), .int (nI b)])).length) Slot.unset).toArray = ls at hl ⊢
  have hl : lv_has ls 7 [(0, .ref (am 0)), (1, .int (nI j)), (2, .int (nI a)), (3, .int (nI b))] := hl
  show W p l e ({ frames := 1, cells := 0, slots := 0, locals := 21 } : Room) s m ([.ref (am 0), .int (nI j), .int (nI a), .int (nI b)]).toArray below meth c s.heap [] 0 0 (MQ below (vp_Si (fun r => r = cmpI (cM M j a) (cM M j b))) ([.ref (am 0), .int (nI j), .int (nI a), .int (nI b)]).toArray s 0 0 (fun _ => False)) (F0 m 0 ls [])
  have hn := ho.1
  refine lv_iconst (v := nI 0) hx hb dX6_compareNow_0 (by decide) ?_
  refine lv_istore (lv' := [(4, .int (nI 0)), (0, .ref (am 0)), (1, .int (nI j)), (2, .int (nI a)), (3, .int (nI b))]) hx hb dX6_compareNow_1 hl (by decide) rfl (fun ls hl => ?_)
  have loop3 : ∀ (fuel : Nat) (k : Nat) (hk : k ≤ (M.2.1 j).2.2) (hq : codeOf (M.2.1 j).1 (M.2.1 j).2.1 k a = codeOf (M.2.1 j).1 (M.2.1 j).2.1 k b), (M.2.1 j).2.2 - k < fuel → ∀ ls : Array Slot, lv_has ls 7 [(0, .ref (am 0)), (1, .int (nI j)), (2, .int (nI a)), (3, .int (nI b)), (4, .int (nI k))] → W p l e ({ frames := 1, cells := 0, slots := 0, locals := 21 } : Room) s m ([.ref (am 0), .int (nI j), .int (nI a), .int (nI b)]).toArray below meth c s.heap [] 0 0 (MQ below (vp_Si (fun r => r = cmpI (cM M j a) (cM M j b))) ([.ref (am 0), .int (nI j), .int (nI a), .int (nI b)]).toArray s 0 0 (fun _ => False)) (F0 m 3 ls []) := by
    intro fuel
    induction fuel with
    | zero => intro k hk hq hf; exact absurd hf (Nat.not_lt_zero _)
    | succ fuel ih3 =>
      intro k hk hq hf ls hl
      refine lv_iload hx hb dX6_compareNow_3 (lv_at hl 4 rfl) ?_
      refine lv_aload_n hx hb dX6_compareNow_5 rfl (lv_at hl 0 rfl) ?_
      refine km_gsteps hx hb hts hin6 hown hX (hts (.fieldLink RX6 29 "OrderlatticeModel" "steps" "[I") (tm 724 (by decide +kernel) rfl)) dX6_compareNow_6 ?_
      refine lv_iload_n hx hb dX6_compareNow_9 rfl (lv_at hl 1 rfl) ?_
      refine km_lt (v := (M.2.1 j).2.2) hx hb hX (by omega) rfl dX6_compareNow_10 ?_
      refine kn_icmp_ge (tgt := 87) hx hb (by omega) (by omega) dX6_compareNow_11 (by decide) (fun k_1 => ?_) (fun k_1 => ?_)
      · skip
        refine lv_iconst (v := nI 0) hx hb dX6_compareNow_87 (by decide) ?_
        exact W.iret (v := nI 0) hx hb hr (fun t9 ht9 hW9 => ⟨_, rfl, (cmpS_0 (by unfold cM; rw [show (M.2.1 j).2.2 = k by omega]; exact hq)), ht9⟩) (fun _ h => nomatch h) dX6_compareNow_88
      · skip
        have hk8 := ho.2 k (by omega)
        have hn1 := numK_lt (k := (M.2.1 j).1 k) ha
        have hn2 := numK_lt (k := (M.2.1 j).1 k) hb9
        refine lv_aload_n hx hb dX6_compareNow_14 rfl (lv_at hl 0 rfl) ?_
        refine km_gkeys hx hb hts hin6 hown hX (hts (.fieldLink RX6 21 "OrderlatticeModel" "keys" "[[I") (tm 725 (by decide +kernel) rfl)) dX6_compareNow_15 ?_
        refine lv_iload_n hx hb dX6_compareNow_18 rfl (lv_at hl 1 rfl) ?_
        refine km_ak hx hb hX (by omega) dX6_compareNow_19 ?_
        refine lv_iload hx hb dX6_compareNow_20 (lv_at hl 4 rfl) ?_
        refine km_lk (v := ((M.2.1 j).1) k) hx hb hX (by omega) (by omega) rfl dX6_compareNow_22 ?_
        refine lv_iload_n hx hb dX6_compareNow_23 rfl (lv_at hl 2 rfl) ?_
        refine kx_cr (v := nI (numK (((M.2.1 j).1) k) a)) (va_runS (As := [.int (nI (((M.2.1 j).1) k)), .int (nI a)]) (rest := []) ⟨hx, hb, hml, hown, hts⟩ (m_X6_keyNow l dC dI am M (((M.2.1 j).1) k) a (by omega) (by omega)) (va_cwS 2 hts gX6_compareNow_X6_keyNow rfl rfl rfl hdX6_keyNow_2.2 ⟨Nat.le_of_ble_eq_true rfl, Nat.le_of_ble_eq_true rfl⟩) hX.preS rfl rfl hl.1 rfl (lv_room (Nat.le_of_ble_eq_true rfl)) dX6_compareNow_24 ⟨Nat.le_of_ble_eq_true rfl, Nat.le_of_ble_eq_true rfl⟩) (fun _ h => h) ?_
        refine lv_istore (lv' := [(5, .int (nI (numK (((M.2.1 j).1) k) a))), (0, .ref (am 0)), (1, .int (nI j)), (2, .int (nI a)), (3, .int (nI b)), (4, .int (nI k))]) hx hb dX6_compareNow_27 hl (by decide) rfl (fun ls hl => ?_)
        refine lv_aload_n hx hb dX6_compareNow_29 rfl (lv_at hl 1 rfl) ?_
        refine km_gkeys hx hb hts hin6 hown hX (hts (.fieldLink RX6 21 "OrderlatticeModel" "keys" "[[I") (tm 725 (by decide +kernel) rfl)) dX6_compareNow_30 ?_
        refine lv_iload_n hx hb dX6_compareNow_33 rfl (lv_at hl 2 rfl) ?_
        refine km_ak hx hb hX (by omega) dX6_compareNow_34 ?_
        refine lv_iload hx hb dX6_compareNow_35 (lv_at hl 5 rfl) ?_
        refine km_lk (v := ((M.2.1 j).1) k) hx hb hX (by omega) (by omega) rfl dX6_compareNow_37 ?_
        refine lv_iload_n hx hb dX6_compareNow_38 rfl (lv_at hl 4 rfl) ?_
        refine kx_cr (v := nI (numK (((M.2.1 j).1) k) b)) (va_runS (As := [.int (nI (((M.2.1 j).1) k)), .int (nI b)]) (rest := []) ⟨hx, hb, hml, hown, hts⟩ (m_X6_keyNow l dC dI am M (((M.2.1 j).1) k) b (by omega) (by omega)) (va_cwS 2 hts gX6_compareNow_X6_keyNow rfl rfl rfl hdX6_keyNow_2.2 ⟨Nat.le_of_ble_eq_true rfl, Nat.le_of_ble_eq_true rfl⟩) hX.preS rfl rfl hl.1 rfl (lv_room (Nat.le_of_ble_eq_true rfl)) dX6_compareNow_39 ⟨Nat.le_of_ble_eq_true rfl, Nat.le_of_ble_eq_true rfl⟩) (fun _ h => h) ?_
        refine lv_istore (lv' := [(6, .int (nI (numK (((M.2.1 j).1) k) b))), (5, .int (nI (numK (((M.2.1 j).1) k) a))), (0, .ref (am 0)), (1, .int (nI j)), (2, .int (nI a)), (3, .int (nI b)), (4, .int (nI k))]) hx hb dX6_compareNow_42 hl (by decide) rfl (fun ls hl => ?_)
        refine lv_iload hx hb dX6_compareNow_44 (lv_at hl 1 rfl) ?_
        refine lv_iload hx hb dX6_compareNow_46 (lv_at hl 0 rfl) ?_
        refine kn_icmp_eq (tgt := 81) hx hb (by omega) (by omega) dX6_compareNow_48 (by decide) (fun k_2 => ?_) (fun k_2 => ?_)
        · skip
          have h48 := k_2
          refine lv_iinc (v := nI (k + 1)) (lv' := [(4, .int (nI (k + 1))), (6, .int (nI (numK (((M.2.1 j).1) k) b))), (5, .int (nI (numK (((M.2.1 j).1) k) a))), (0, .ref (am 0)), (1, .int (nI j)), (2, .int (nI a)), (3, .int (nI b))]) hx hb dX6_compareNow_81 hl (k := 6) rfl (nI_1 k) (by decide) rfl (fun ls hl => ?_)
          refine lv_goto (tgt := 3) hx hb dX6_compareNow_84 (by decide) ?_
          exact ih3  (k + 1) (by omega) (by rw [codeOf, codeOf, hq]; unfold digK; rw [h48]) (by omega) _ (lv_sub hl [3, 4, 5, 6, 0] rfl)
        · skip
          have h48 := k_2
          refine lv_iload hx hb dX6_compareNow_51 (lv_at hl 1 rfl) ?_
          refine lv_iload hx hb dX6_compareNow_53 (lv_at hl 0 rfl) ?_
          refine kn_icmp_ge (tgt := 62) hx hb (by omega) (by omega) dX6_compareNow_55 (by decide) (fun k_3 => ?_) (fun k_3 => ?_)
          · skip
            have h55 := k_3
            refine lv_iconst (v := bI false) hx hb dX6_compareNow_62 (by decide) ?_
            refine lv_aload_n hx hb dX6_compareNow_63 rfl (lv_at hl 2 rfl) ?_
            refine km_gdowns hx hb hts hin6 hown hX (hts (.fieldLink RX6 26 "OrderlatticeModel" "downs" "[[Z") (tm 726 (by decide +kernel) rfl)) dX6_compareNow_64 ?_
            refine lv_iload_n hx hb dX6_compareNow_67 rfl (lv_at hl 3 rfl) ?_
            refine km_ad hx hb hX (by omega) dX6_compareNow_68 ?_
            refine lv_iload hx hb dX6_compareNow_69 (lv_at hl 6 rfl) ?_
            refine km_ld (z := ((M.2.1 j).2.1) k) hx hb hX (by omega) (by omega) rfl dX6_compareNow_71 ?_
            refine lv_icmp_ne (tgt := 79) hx hb dX6_compareNow_72 (by decide) (fun k_4 => ?_) (fun k_4 => ?_)
            · skip
              have h72 := k_4
              refine lv_iconst (v := (-1)) hx hb dX6_compareNow_79 (by decide) ?_
              exact W.iret (v := (-1)) hx hb hr (fun t9 ht9 hW9 => ⟨_, rfl, (cmpS_n (by omega) ha hb9 hq h48 (fun z => h72 (congrArg bI ((decide_eq_false (by omega)).symm.trans z)))), ht9⟩) (fun _ h => nomatch h) dX6_compareNow_80
            · skip
              have h72 := k_4
              refine lv_iconst (v := nI 1) hx hb dX6_compareNow_75 (by decide) ?_
              refine lv_goto (tgt := 80) hx hb dX6_compareNow_76 (by decide) ?_
              exact W.iret (v := nI 1) hx hb hr (fun t9 ht9 hW9 => ⟨_, rfl, (cmpS_p (by omega) ha hb9 hq h48 ((decide_eq_false (by omega)).trans (bI_inj h72))), ht9⟩) (fun _ h => nomatch h) dX6_compareNow_80
          · skip
            have h55 := k_3
            refine lv_iconst (v := bI true) hx hb dX6_compareNow_58 (by decide) ?_
            refine lv_goto (tgt := 63) hx hb dX6_compareNow_59 (by decide) ?_
            refine lv_aload_n hx hb dX6_compareNow_63 rfl (lv_at hl 2 rfl) ?_
            refine km_gdowns hx hb hts hin6 hown hX (hts (.fieldLink RX6 26 "OrderlatticeModel" "downs" "[[Z") (tm 726 (by decide +kernel) rfl)) dX6_compareNow_64 ?_
            refine lv_iload_n hx hb dX6_compareNow_67 rfl (lv_at hl 3 rfl) ?_
            refine km_ad hx hb hX (by omega) dX6_compareNow_68 ?_
            refine lv_iload hx hb dX6_compareNow_69 (lv_at hl 6 rfl) ?_
            refine km_ld (z := ((M.2.1 j).2.1) k) hx hb hX (by omega) (by omega) rfl dX6_compareNow_71 ?_
            refine lv_icmp_ne (tgt := 79) hx hb dX6_compareNow_72 (by decide) (fun k_5 => ?_) (fun k_5 => ?_)
            · skip
              have h72 := k_5
              refine lv_iconst (v := (-1)) hx hb dX6_compareNow_79 (by decide) ?_
              exact W.iret (v := (-1)) hx hb hr (fun t9 ht9 hW9 => ⟨_, rfl, (cmpS_n (by omega) ha hb9 hq h48 (fun z => h72 (congrArg bI ((decide_eq_true h55).symm.trans z)))), ht9⟩) (fun _ h => nomatch h) dX6_compareNow_80
            · skip
              have h72 := k_5
              refine lv_iconst (v := nI 1) hx hb dX6_compareNow_75 (by decide) ?_
              refine lv_goto (tgt := 80) hx hb dX6_compareNow_76 (by decide) ?_
              exact W.iret (v := nI 1) hx hb hr (fun t9 ht9 hW9 => ⟨_, rfl, (cmpS_p (by omega) ha hb9 hq h48 ((decide_eq_true h55).trans (bI_inj h72))), ht9⟩) (fun _ h => nomatch h) dX6_compareNow_80
  exact loop3 ((M.2.1 j).2.2 - 0 + 1) 0 (by omega) rfl (by omega) _ (lv_sub hl [1, 2, 3, 4, 0] rfl)
set_option maxHeartbeats 4000000 in
set_option maxRecDepth 100000 in
theorem m_X6_isFirst (l : Launch) (dC : Nat → ClassId) (dI : Nat → Nat → Nat) (am : Nat → Nat) (M : MS) (j v : Nat) (hj : j < 4) (ho : ordM (M.2.1 j)) (hv : v < 16) : Met l yX6_isFirst wsX6_isFirst ({ frames := 2, cells := 0, slots := 0, locals := 47 } : Room) (va_Pc [.ref (am 0), .int (nI j), .int (nI v)] (PM dC dI am M)) (vp_Si (fun r => r = bI (headB (cM M j) v))) 0 0 (fun _ => False) := by
  refine Met.ofW (cc := cX6_isFirst) (maxL := 4) (ret := (some .boolean)) pl_X6 rfl ?_
  intro p e s m args below meth c s₁ B hml hv
  obtain ⟨rfl, hPX⟩ := hv
  have hx := B.exec
  have hb := B.bytes
  have hr := B.returns
  have hts := atoms_spec (ws := wsX6_isFirst) B.pre
  have hown : s.vm.findClass RX6 = some m.cls := findClass_of_methodNamed B.named
  have hlocks := B.notSynchronized
  have hX := WM.of hPX
  have hl := lv_entry ([.ref (am 0), .int (nI j), .int (nI v)]) (n := 4) (Nat.le_of_ble_eq_true rfl)
  rw [lg_entry_eq]
  generalize (lg_sl ([.ref (am 0), .int (nI j), .int (nI v)]) ++ List.replicate (4 - (lg_sl ([.ref (am 0), .int (nI j), .int (nI v)])).length) Slot.unset).toArray = ls at hl ⊢
  have hl : lv_has ls 4 [(0, .ref (am 0)), (1, .int (nI j)), (2, .int (nI v))] := hl
  show W p l e ({ frames := 2, cells := 0, slots := 0, locals := 47 } : Room) s m ([.ref (am 0), .int (nI j), .int (nI v)]).toArray below meth c s.heap [] 0 0 (MQ below (vp_Si (fun r => r = bI (headB (cM M j) v))) ([.ref (am 0), .int (nI j), .int (nI v)]).toArray s 0 0 (fun _ => False)) (F0 m 0 ls [])
  refine lv_iconst (v := nI 0) hx hb dX6_isFirst_0 (by decide) ?_
  refine lv_istore_n (lv' := [(3, .int (nI 0)), (0, .ref (am 0)), (1, .int (nI j)), (2, .int (nI v))]) hx hb dX6_isFirst_1 rfl hl (by decide) rfl (fun ls hl => ?_)
  have loop2 : ∀ (fuel : Nat) (k : Nat) (hk : k ≤ v) (hq : ∀ q, q < k → cM M j q ≠ cM M j v), v - k < fuel → ∀ ls : Array Slot, lv_has ls 4 [(0, .ref (am 0)), (1, .int (nI j)), (2, .int (nI v)), (3, .int (nI k))] → W p l e ({ frames := 2, cells := 0, slots := 0, locals := 47 } : Room) s m ([.ref (am 0), .int (nI j), .int (nI v)]).toArray below meth c s.heap [] 0 0 (MQ below (vp_Si (fun r => r = bI (headB (cM M j) v))) ([.ref (am 0), .int (nI j), .int (nI v)]).toArray s 0 0 (fun _ => False)) (F0 m 2 ls []) := by
    intro fuel
    induction fuel with
    | zero => intro k hk hq hf; exact absurd hf (Nat.not_lt_zero _)
    | succ fuel ih2 =>
      intro k hk hq hf ls hl
      refine lv_iload_n hx hb dX6_isFirst_2 rfl (lv_at hl 3 rfl) ?_
      refine lv_iload_n hx hb dX6_isFirst_3 rfl (lv_at hl 2 rfl) ?_
      refine kn_icmp_ge (tgt := 25) hx hb (by omega) (by omega) dX6_isFirst_4 (by decide) (fun k_1 => ?_) (fun k_1 => ?_)
      · skip
        refine lv_iconst (v := nI 1) hx hb dX6_isFirst_25 (by decide) ?_
        exact W.zret (v := bI true) hx hb hr (bI_narrow _) (fun t9 ht9 hW9 => ⟨_, rfl, (kd_t (fun q h => hq q (by omega))), ht9⟩) (fun _ h => nomatch h) dX6_isFirst_26
      · skip
        refine lv_aload_n hx hb dX6_isFirst_7 rfl (lv_at hl 0 rfl) ?_
        refine lv_iload_n hx hb dX6_isFirst_8 rfl (lv_at hl 1 rfl) ?_
        refine lv_iload_n hx hb dX6_isFirst_9 rfl (lv_at hl 3 rfl) ?_
        refine lv_iload_n hx hb dX6_isFirst_10 rfl (lv_at hl 2 rfl) ?_
        refine kx_cr (v := cmpI (cM M j k) (cM M j v)) (va_runV (As := [.int (nI j), .int (nI k), .int (nI v)]) (rest := []) ⟨hx, hb, hml, hown, hts⟩ (m_X6_compareNow l dC dI am M j k v (by omega) ho (by omega) (by omega)) (cwV 3 hts gX6_isFirst_X6_compareNow rfl rfl rfl hdX6_compareNow_3 ⟨Nat.le_of_ble_eq_true rfl, Nat.le_of_ble_eq_true rfl⟩) (hX.preObj) rfl rfl hl.1 rfl (lv_room (Nat.le_of_ble_eq_true rfl)) dX6_isFirst_11 ⟨Nat.le_of_ble_eq_true rfl, Nat.le_of_ble_eq_true rfl⟩) (fun _ h => h) ?_
        refine kc_if_ne (tgt := 19) hx hb dX6_isFirst_14 (by decide) (fun k_2 => ?_) (fun k_2 => ?_)
        · skip
          have hc := k_2
          refine lv_iinc (v := nI (k + 1)) (lv' := [(3, .int (nI (k + 1))), (0, .ref (am 0)), (1, .int (nI j)), (2, .int (nI v))]) hx hb dX6_isFirst_19 hl (k := 3) rfl (nI_1 k) (by decide) rfl (fun ls hl => ?_)
          refine lv_goto (tgt := 2) hx hb dX6_isFirst_22 (by decide) ?_
          exact ih2  (k + 1) (by omega) (lt_s hq hc) (by omega) _ (lv_sub hl [1, 2, 3, 0] rfl)
        · skip
          have hc := k_2
          refine lv_iconst (v := nI 0) hx hb dX6_isFirst_17 (by decide) ?_
          exact W.zret (v := bI false) hx hb hr (bI_narrow _) (fun t9 ht9 hW9 => ⟨_, rfl, (kd_f (fun z => z k (by omega) hc)), ht9⟩) (fun _ h => nomatch h) dX6_isFirst_18
  exact loop2 (v - 0 + 1) 0 (by omega) (fun q h => absurd h (Nat.not_lt_zero q)) (by omega) _ (lv_sub hl [1, 2, 3, 0] rfl)
set_option maxHeartbeats 4000000 in
set_option maxRecDepth 100000 in
theorem m_X6_classesNow (l : Launch) (dC : Nat → ClassId) (dI : Nat → Nat → Nat) (am : Nat → Nat) (M : MS) (j : Nat) (hj : j < 4) (ho : ordM (M.2.1 j)) : Met l yX6_classesNow wsX6_classesNow ({ frames := 3, cells := 0, slots := 0, locals := 70 } : Room) (va_Pc [.ref (am 0), .int (nI j)] (PM dC dI am M)) (vp_Si (fun r => r = nI (classC (cM M j)))) 0 0 (fun _ => False) := by
  refine Met.ofW (cc := cX6_classesNow) (maxL := 4) (ret := (some .int)) pl_X6 rfl ?_
  intro p e s m args below meth c s₁ B hml hv
  obtain ⟨rfl, hPX⟩ := hv
  have hx := B.exec
  have hb := B.bytes
  have hr := B.returns
  have hts := atoms_spec (ws := wsX6_classesNow) B.pre
  have hown : s.vm.findClass RX6 = some m.cls := findClass_of_methodNamed B.named
  have hlocks := B.notSynchronized
  have hX := WM.of hPX
  have hl := lv_entry ([.ref (am 0), .int (nI j)]) (n := 4) (Nat.le_of_ble_eq_true rfl)
  rw [lg_entry_eq]
  generalize (lg_sl ([.ref (am 0), .int (nI j)]) ++ List.replicate (4 - (lg_sl ([.ref (am 0), .int (nI j)])).length) Slot.unset).toArray = ls at hl ⊢
  have hl : lv_has ls 4 [(0, .ref (am 0)), (1, .int (nI j))] := hl
  show W p l e ({ frames := 3, cells := 0, slots := 0, locals := 70 } : Room) s m ([.ref (am 0), .int (nI j)]).toArray below meth c s.heap [] 0 0 (MQ below (vp_Si (fun r => r = nI (classC (cM M j)))) ([.ref (am 0), .int (nI j)]).toArray s 0 0 (fun _ => False)) (F0 m 0 ls [])
  refine lv_iconst (v := nI 0) hx hb dX6_classesNow_0 (by decide) ?_
  refine lv_istore_n (lv' := [(2, .int (nI 0)), (0, .ref (am 0)), (1, .int (nI j))]) hx hb dX6_classesNow_1 rfl hl (by decide) rfl (fun ls hl => ?_)
  refine lv_iconst (v := nI 0) hx hb dX6_classesNow_2 (by decide) ?_
  refine lv_istore_n (lv' := [(3, .int (nI 0)), (2, .int (nI 0)), (0, .ref (am 0)), (1, .int (nI j))]) hx hb dX6_classesNow_3 rfl hl (by decide) rfl (fun ls hl => ?_)
  have loop4 : ∀ (fuel : Nat) (q k : Nat) (hk : k ≤ 16) (hq : q = cntB (headB (cM M j)) k), 16 - k < fuel → ∀ ls : Array Slot, lv_has ls 4 [(0, .ref (am 0)), (1, .int (nI j)), (2, .int (nI q)), (3, .int (nI k))] → W p l e ({ frames := 3, cells := 0, slots := 0, locals := 70 } : Room) s m ([.ref (am 0), .int (nI j)]).toArray below meth c s.heap [] 0 0 (MQ below (vp_Si (fun r => r = nI (classC (cM M j)))) ([.ref (am 0), .int (nI j)]).toArray s 0 0 (fun _ => False)) (F0 m 4 ls []) := by
    intro fuel
    induction fuel with
    | zero => intro q k hk hq hf; exact absurd hf (Nat.not_lt_zero _)
    | succ fuel ih4 =>
      intro q k hk hq hf ls hl
      refine lv_iload_n hx hb dX6_classesNow_4 rfl (lv_at hl 3 rfl) ?_
      refine lv_bipush (v := nI 16) hx hb dX6_classesNow_5 (by decide) ?_
      refine kn_icmp_ge (tgt := 33) hx hb (by omega) (by omega) dX6_classesNow_7 (by decide) (fun k_1 => ?_) (fun k_1 => ?_)
      · skip
        refine lv_iload_n hx hb dX6_classesNow_33 rfl (lv_at hl 2 rfl) ?_
        exact W.iret (v := nI q) hx hb hr (fun t9 ht9 hW9 => ⟨_, rfl, (by rw [hq, show k = 16 by omega]; rfl), ht9⟩) (fun _ h => nomatch h) dX6_classesNow_34
      · skip
        refine lv_iload_n hx hb dX6_classesNow_10 rfl (lv_at hl 2 rfl) ?_
        refine lv_aload_n hx hb dX6_classesNow_11 rfl (lv_at hl 0 rfl) ?_
        refine lv_iload_n hx hb dX6_classesNow_12 rfl (lv_at hl 1 rfl) ?_
        refine lv_iload_n hx hb dX6_classesNow_13 rfl (lv_at hl 3 rfl) ?_
        refine kx_cr (v := bI (headB (cM M j) k)) (va_runV (As := [.int (nI j), .int (nI k)]) (rest := [.int (nI q)]) ⟨hx, hb, hml, hown, hts⟩ (m_X6_isFirst l dC dI am M j k (by omega) ho (by omega)) (cwV 2 hts gX6_classesNow_X6_isFirst rfl rfl rfl hdX6_isFirst_2 ⟨Nat.le_of_ble_eq_true rfl, Nat.le_of_ble_eq_true rfl⟩) (hX.preObj) rfl rfl hl.1 rfl (lv_room (Nat.le_of_ble_eq_true rfl)) dX6_classesNow_14 ⟨Nat.le_of_ble_eq_true rfl, Nat.le_of_ble_eq_true rfl⟩) (fun _ h => h) ?_
        refine kb_if_eq (tgt := 24) hx hb dX6_classesNow_17 (by decide) (fun k_2 => ?_) (fun k_2 => ?_)
        · skip
          have hc := k_2
          refine lv_iconst (v := nI 0) hx hb dX6_classesNow_24 (by decide) ?_
          refine kn_iadd hx hb dX6_classesNow_25 ?_
          refine lv_istore_n (lv' := [(2, .int (nI (q + 0))), (0, .ref (am 0)), (1, .int (nI j)), (3, .int (nI k))]) hx hb dX6_classesNow_26 rfl hl (by decide) rfl (fun ls hl => ?_)
          refine lv_iinc (v := nI (k + 1)) (lv' := [(3, .int (nI (k + 1))), (2, .int (nI (q + 0))), (0, .ref (am 0)), (1, .int (nI j))]) hx hb dX6_classesNow_27 hl (k := 3) rfl (nI_1 k) (by decide) rfl (fun ls hl => ?_)
          refine lv_goto (tgt := 4) hx hb dX6_classesNow_30 (by decide) ?_
          exact ih4  (q + 0) (k + 1) (by omega) (by rw [cntB_f hc, hq]; rfl) (by omega) _ (lv_sub hl [2, 3, 1, 0] rfl)
        · skip
          have hc := k_2
          refine lv_iconst (v := nI 1) hx hb dX6_classesNow_20 (by decide) ?_
          refine lv_goto (tgt := 25) hx hb dX6_classesNow_21 (by decide) ?_
          refine kn_iadd hx hb dX6_classesNow_25 ?_
          refine lv_istore_n (lv' := [(2, .int (nI (q + 1))), (0, .ref (am 0)), (1, .int (nI j)), (3, .int (nI k))]) hx hb dX6_classesNow_26 rfl hl (by decide) rfl (fun ls hl => ?_)
          refine lv_iinc (v := nI (k + 1)) (lv' := [(3, .int (nI (k + 1))), (2, .int (nI (q + 1))), (0, .ref (am 0)), (1, .int (nI j))]) hx hb dX6_classesNow_27 hl (k := 3) rfl (nI_1 k) (by decide) rfl (fun ls hl => ?_)
          refine lv_goto (tgt := 4) hx hb dX6_classesNow_30 (by decide) ?_
          exact ih4  (q + 1) (k + 1) (by omega) (by rw [cntB_t hc, hq]) (by omega) _ (lv_sub hl [2, 3, 1, 0] rfl)
  exact loop4 (16 + 1) 0 0 (by omega) rfl (by omega) _ (lv_sub hl [2, 3, 1, 0] rfl)
set_option maxHeartbeats 4000000 in
set_option maxRecDepth 100000 in
theorem m_X6_rankNow (l : Launch) (dC : Nat → ClassId) (dI : Nat → Nat → Nat) (am : Nat → Nat) (M : MS) (j v : Nat) (hj : j < 4) (ho : ordM (M.2.1 j)) (hv : v < 16) : Met l yX6_rankNow wsX6_rankNow ({ frames := 3, cells := 0, slots := 0, locals := 70 } : Room) (va_Pc [.ref (am 0), .int (nI j), .int (nI v)] (PM dC dI am M)) (vp_Si (fun r => r = nI (rankC (cM M j) v))) 0 0 (fun _ => False) := by
  refine Met.ofW (cc := cX6_rankNow) (maxL := 5) (ret := (some .int)) pl_X6 rfl ?_
  intro p e s m args below meth c s₁ B hml hv
  obtain ⟨rfl, hPX⟩ := hv
  have hx := B.exec
  have hb := B.bytes
  have hr := B.returns
  have hts := atoms_spec (ws := wsX6_rankNow) B.pre
  have hown : s.vm.findClass RX6 = some m.cls := findClass_of_methodNamed B.named
  have hlocks := B.notSynchronized
  have hX := WM.of hPX
  have hl := lv_entry ([.ref (am 0), .int (nI j), .int (nI v)]) (n := 5) (Nat.le_of_ble_eq_true rfl)
  rw [lg_entry_eq]
  generalize (lg_sl ([.ref (am 0), .int (nI j), .int (nI v)]) ++ List.replicate (5 - (lg_sl ([.ref (am 0), .int (nI j), .int (nI v)])).length) Slot.unset).toArray = ls at hl ⊢
  have hl : lv_has ls 5 [(0, .ref (am 0)), (1, .int (nI j)), (2, .int (nI v))] := hl
  show W p l e ({ frames := 3, cells := 0, slots := 0, locals := 70 } : Room) s m ([.ref (am 0), .int (nI j), .int (nI v)]).toArray below meth c s.heap [] 0 0 (MQ below (vp_Si (fun r => r = nI (rankC (cM M j) v))) ([.ref (am 0), .int (nI j), .int (nI v)]).toArray s 0 0 (fun _ => False)) (F0 m 0 ls [])
  refine lv_iconst (v := nI 0) hx hb dX6_rankNow_0 (by decide) ?_
  refine lv_istore_n (lv' := [(3, .int (nI 0)), (0, .ref (am 0)), (1, .int (nI j)), (2, .int (nI v))]) hx hb dX6_rankNow_1 rfl hl (by decide) rfl (fun ls hl => ?_)
  refine lv_iconst (v := nI 0) hx hb dX6_rankNow_2 (by decide) ?_
  refine lv_istore (lv' := [(4, .int (nI 0)), (3, .int (nI 0)), (0, .ref (am 0)), (1, .int (nI j)), (2, .int (nI v))]) hx hb dX6_rankNow_3 hl (by decide) rfl (fun ls hl => ?_)
  have loop5 : ∀ (fuel : Nat) (q k : Nat) (hk : k ≤ 16) (hq : q = cntB (fun h => headB (cM M j) h && decide (cM M j h < cM M j v)) k), 16 - k < fuel → ∀ ls : Array Slot, lv_has ls 5 [(0, .ref (am 0)), (1, .int (nI j)), (2, .int (nI v)), (3, .int (nI q)), (4, .int (nI k))] → W p l e ({ frames := 3, cells := 0, slots := 0, locals := 70 } : Room) s m ([.ref (am 0), .int (nI j), .int (nI v)]).toArray below meth c s.heap [] 0 0 (MQ below (vp_Si (fun r => r = nI (rankC (cM M j) v))) ([.ref (am 0), .int (nI j), .int (nI v)]).toArray s 0 0 (fun _ => False)) (F0 m 5 ls []) := by
    intro fuel
    induction fuel with
    | zero => intro q k hk hq hf; exact absurd hf (Nat.not_lt_zero _)
    | succ fuel ih5 =>
      intro q k hk hq hf ls hl
      refine lv_iload hx hb dX6_rankNow_5 (lv_at hl 4 rfl) ?_
      refine lv_bipush (v := nI 16) hx hb dX6_rankNow_7 (by decide) ?_
      refine kn_icmp_ge (tgt := 47) hx hb (by omega) (by omega) dX6_rankNow_9 (by decide) (fun k_1 => ?_) (fun k_1 => ?_)
      · skip
        refine lv_iload_n hx hb dX6_rankNow_47 rfl (lv_at hl 3 rfl) ?_
        exact W.iret (v := nI q) hx hb hr (fun t9 ht9 hW9 => ⟨_, rfl, (by rw [hq, show k = 16 by omega]; rfl), ht9⟩) (fun _ h => nomatch h) dX6_rankNow_48
      · skip
        refine lv_iload_n hx hb dX6_rankNow_12 rfl (lv_at hl 3 rfl) ?_
        refine lv_aload_n hx hb dX6_rankNow_13 rfl (lv_at hl 0 rfl) ?_
        refine lv_iload_n hx hb dX6_rankNow_14 rfl (lv_at hl 1 rfl) ?_
        refine lv_iload hx hb dX6_rankNow_15 (lv_at hl 4 rfl) ?_
        refine kx_cr (v := bI (headB (cM M j) k)) (va_runV (As := [.int (nI j), .int (nI k)]) (rest := [.int (nI q)]) ⟨hx, hb, hml, hown, hts⟩ (m_X6_isFirst l dC dI am M j k (by omega) ho (by omega)) (cwV 2 hts gX6_rankNow_X6_isFirst rfl rfl rfl hdX6_isFirst_2 ⟨Nat.le_of_ble_eq_true rfl, Nat.le_of_ble_eq_true rfl⟩) (hX.preObj) rfl rfl hl.1 rfl (lv_room (Nat.le_of_ble_eq_true rfl)) dX6_rankNow_17 ⟨Nat.le_of_ble_eq_true rfl, Nat.le_of_ble_eq_true rfl⟩) (fun _ h => h) ?_
        refine kb_if_eq (tgt := 38) hx hb dX6_rankNow_20 (by decide) (fun k_2 => ?_) (fun k_2 => ?_)
        · skip
          have hc := k_2
          refine lv_iconst (v := nI 0) hx hb dX6_rankNow_38 (by decide) ?_
          refine kn_iadd hx hb dX6_rankNow_39 ?_
          refine lv_istore_n (lv' := [(3, .int (nI (q + 0))), (0, .ref (am 0)), (1, .int (nI j)), (2, .int (nI v)), (4, .int (nI k))]) hx hb dX6_rankNow_40 rfl hl (by decide) rfl (fun ls hl => ?_)
          refine lv_iinc (v := nI (k + 1)) (lv' := [(4, .int (nI (k + 1))), (3, .int (nI (q + 0))), (0, .ref (am 0)), (1, .int (nI j)), (2, .int (nI v))]) hx hb dX6_rankNow_41 hl (k := 4) rfl (nI_1 k) (by decide) rfl (fun ls hl => ?_)
          refine lv_goto (tgt := 5) hx hb dX6_rankNow_44 (by decide) ?_
          exact ih5  (q + 0) (k + 1) (by omega) (by rw [cntB_f (by rw [hc, Bool.false_and]), hq]; rfl) (by omega) _ (lv_sub hl [2, 3, 4, 1, 0] rfl)
        · skip
          have hc := k_2
          refine lv_aload_n hx hb dX6_rankNow_23 rfl (lv_at hl 0 rfl) ?_
          refine lv_iload_n hx hb dX6_rankNow_24 rfl (lv_at hl 1 rfl) ?_
          refine lv_iload hx hb dX6_rankNow_25 (lv_at hl 4 rfl) ?_
          refine lv_iload_n hx hb dX6_rankNow_27 rfl (lv_at hl 2 rfl) ?_
          refine kx_cr (v := cmpI (cM M j k) (cM M j v)) (va_runV (As := [.int (nI j), .int (nI k), .int (nI v)]) (rest := [.int (nI q)]) ⟨hx, hb, hml, hown, hts⟩ (m_X6_compareNow l dC dI am M j k v (by omega) ho (by omega) (by omega)) (cwV 3 hts gX6_rankNow_X6_compareNow rfl rfl rfl hdX6_compareNow_3 ⟨Nat.le_of_ble_eq_true rfl, Nat.le_of_ble_eq_true rfl⟩) (hX.preObj) rfl rfl hl.1 rfl (lv_room (Nat.le_of_ble_eq_true rfl)) dX6_rankNow_28 ⟨Nat.le_of_ble_eq_true rfl, Nat.le_of_ble_eq_true rfl⟩) (fun _ h => h) ?_
          refine kc_if_ge (tgt := 38) hx hb dX6_rankNow_31 (by decide) (fun k_3 => ?_) (fun k_3 => ?_)
          · skip
            have hd := k_3
            refine lv_iconst (v := nI 0) hx hb dX6_rankNow_38 (by decide) ?_
            refine kn_iadd hx hb dX6_rankNow_39 ?_
            refine lv_istore_n (lv' := [(3, .int (nI (q + 0))), (0, .ref (am 0)), (1, .int (nI j)), (2, .int (nI v)), (4, .int (nI k))]) hx hb dX6_rankNow_40 rfl hl (by decide) rfl (fun ls hl => ?_)
            refine lv_iinc (v := nI (k + 1)) (lv' := [(4, .int (nI (k + 1))), (3, .int (nI (q + 0))), (0, .ref (am 0)), (1, .int (nI j)), (2, .int (nI v))]) hx hb dX6_rankNow_41 hl (k := 4) rfl (nI_1 k) (by decide) rfl (fun ls hl => ?_)
            refine lv_goto (tgt := 5) hx hb dX6_rankNow_44 (by decide) ?_
            exact ih5  (q + 0) (k + 1) (by omega) (by rw [cntB_f (by rw [hc, decide_eq_false (by omega)]; rfl), hq]; rfl) (by omega) _ (lv_sub hl [2, 3, 4, 1, 0] rfl)
          · skip
            have hd := k_3
            refine lv_iconst (v := nI 1) hx hb dX6_rankNow_34 (by decide) ?_
            refine lv_goto (tgt := 39) hx hb dX6_rankNow_35 (by decide) ?_
            refine kn_iadd hx hb dX6_rankNow_39 ?_
            refine lv_istore_n (lv' := [(3, .int (nI (q + 1))), (0, .ref (am 0)), (1, .int (nI j)), (2, .int (nI v)), (4, .int (nI k))]) hx hb dX6_rankNow_40 rfl hl (by decide) rfl (fun ls hl => ?_)
            refine lv_iinc (v := nI (k + 1)) (lv' := [(4, .int (nI (k + 1))), (3, .int (nI (q + 1))), (0, .ref (am 0)), (1, .int (nI j)), (2, .int (nI v))]) hx hb dX6_rankNow_41 hl (k := 4) rfl (nI_1 k) (by decide) rfl (fun ls hl => ?_)
            refine lv_goto (tgt := 5) hx hb dX6_rankNow_44 (by decide) ?_
            exact ih5  (q + 1) (k + 1) (by omega) (by rw [cntB_t (by rw [hc, decide_eq_true hd]; rfl), hq]) (by omega) _ (lv_sub hl [2, 3, 4, 1, 0] rfl)
  exact loop5 (16 + 1) 0 0 (by omega) rfl (by omega) _ (lv_sub hl [2, 3, 4, 1, 0] rfl)
set_option maxHeartbeats 4000000 in
set_option maxRecDepth 100000 in
theorem m_X6_isRefined (l : Launch) (dC : Nat → ClassId) (dI : Nat → Nat → Nat) (am : Nat → Nat) (M : MS) (j t : Nat) (hj : j < 4) (ht : t < 4) (ho : ordM (M.2.1 j)) (ho2 : ordM (M.2.1 t)) : Met l yX6_isRefined wsX6_isRefined ({ frames := 2, cells := 0, slots := 0, locals := 47 } : Room) (va_Pc [.ref (am 0), .int (nI j), .int (nI t)] (PM dC dI am M)) (vp_Si (fun r => r = bI (finerB (cM M j) (cM M t)))) 0 0 (fun _ => False) := by
  refine Met.ofW (cc := cX6_isRefined) (maxL := 5) (ret := (some .boolean)) pl_X6 rfl ?_
  intro p e s m args below meth c s₁ B hml hv
  obtain ⟨rfl, hPX⟩ := hv
  have hx := B.exec
  have hb := B.bytes
  have hr := B.returns
  have hts := atoms_spec (ws := wsX6_isRefined) B.pre
  have hown : s.vm.findClass RX6 = some m.cls := findClass_of_methodNamed B.named
  have hlocks := B.notSynchronized
  have hX := WM.of hPX
  have hl := lv_entry ([.ref (am 0), .int (nI j), .int (nI t)]) (n := 5) (Nat.le_of_ble_eq_true rfl)
  rw [lg_entry_eq]
  generalize (lg_sl ([.ref (am 0), .int (nI j), .int (nI t)]) ++ List.replicate (5 - (lg_sl ([.ref (am 0), .int (nI j), .int (nI t)])).length) Slot.unset).toArray = ls at hl ⊢
  have hl : lv_has ls 5 [(0, .ref (am 0)), (1, .int (nI j)), (2, .int (nI t))] := hl
  show W p l e ({ frames := 2, cells := 0, slots := 0, locals := 47 } : Room) s m ([.ref (am 0), .int (nI j), .int (nI t)]).toArray below meth c s.heap [] 0 0 (MQ below (vp_Si (fun r => r = bI (finerB (cM M j) (cM M t)))) ([.ref (am 0), .int (nI j), .int (nI t)]).toArray s 0 0 (fun _ => False)) (F0 m 0 ls [])
  refine lv_iconst (v := nI 0) hx hb dX6_isRefined_0 (by decide) ?_
  refine lv_istore_n (lv' := [(3, .int (nI 0)), (0, .ref (am 0)), (1, .int (nI j)), (2, .int (nI t))]) hx hb dX6_isRefined_1 rfl hl (by decide) rfl (fun ls hl => ?_)
  have loop2 : ∀ (fuel : Nat) (a : Nat) (ha : a ≤ 16) (hq : ∀ x, x < a → ∀ y, y < 16 → cM M t x < cM M t y → cM M j x < cM M j y), 16 - a < fuel → ∀ ls : Array Slot, lv_has ls 5 [(0, .ref (am 0)), (1, .int (nI j)), (2, .int (nI t)), (3, .int (nI a))] → W p l e ({ frames := 2, cells := 0, slots := 0, locals := 47 } : Room) s m ([.ref (am 0), .int (nI j), .int (nI t)]).toArray below meth c s.heap [] 0 0 (MQ below (vp_Si (fun r => r = bI (finerB (cM M j) (cM M t)))) ([.ref (am 0), .int (nI j), .int (nI t)]).toArray s 0 0 (fun _ => False)) (F0 m 2 ls []) := by
    intro fuel
    induction fuel with
    | zero => intro a ha hq hf; exact absurd hf (Nat.not_lt_zero _)
    | succ fuel ih2 =>
      intro a ha hq hf ls hl
      refine lv_iload_n hx hb dX6_isRefined_2 rfl (lv_at hl 3 rfl) ?_
      refine lv_bipush (v := nI 16) hx hb dX6_isRefined_3 (by decide) ?_
      refine kn_icmp_ge (tgt := 54) hx hb (by omega) (by omega) dX6_isRefined_5 (by decide) (fun k_1 => ?_) (fun k_1 => ?_)
      · skip
        refine lv_iconst (v := nI 1) hx hb dX6_isRefined_54 (by decide) ?_
        exact W.zret (v := bI true) hx hb hr (bI_narrow _) (fun t9 ht9 hW9 => ⟨_, rfl, (kd_t (fun x hx9 y hy9 => hq x (by omega) y hy9)), ht9⟩) (fun _ h => nomatch h) dX6_isRefined_55
      · skip
        refine lv_iconst (v := nI 0) hx hb dX6_isRefined_8 (by decide) ?_
        refine lv_istore (lv' := [(4, .int (nI 0)), (0, .ref (am 0)), (1, .int (nI j)), (2, .int (nI t)), (3, .int (nI a))]) hx hb dX6_isRefined_9 hl (by decide) rfl (fun ls hl => ?_)
        have loop11 : ∀ (fuel : Nat) (b : Nat) (hb3 : b ≤ 16) (hp : ∀ y, y < b → cM M t a < cM M t y → cM M j a < cM M j y), 17 - b < fuel → ∀ ls : Array Slot, lv_has ls 5 [(0, .ref (am 0)), (1, .int (nI j)), (2, .int (nI t)), (3, .int (nI a)), (4, .int (nI b))] → W p l e ({ frames := 2, cells := 0, slots := 0, locals := 47 } : Room) s m ([.ref (am 0), .int (nI j), .int (nI t)]).toArray below meth c s.heap [] 0 0 (MQ below (vp_Si (fun r => r = bI (finerB (cM M j) (cM M t)))) ([.ref (am 0), .int (nI j), .int (nI t)]).toArray s 0 0 (fun _ => False)) (F0 m 11 ls []) := by
          intro fuel
          induction fuel with
          | zero => intro b hb3 hp hf; exact absurd hf (Nat.not_lt_zero _)
          | succ fuel ih11 =>
            intro b hb3 hp hf ls hl
            refine lv_iload hx hb dX6_isRefined_11 (lv_at hl 4 rfl) ?_
            refine lv_bipush (v := nI 16) hx hb dX6_isRefined_13 (by decide) ?_
            refine kn_icmp_ge (tgt := 48) hx hb (by omega) (by omega) dX6_isRefined_15 (by decide) (fun k_2 => ?_) (fun k_2 => ?_)
            · skip
              refine lv_iinc (v := nI (a + 1)) (lv' := [(3, .int (nI (a + 1))), (0, .ref (am 0)), (1, .int (nI j)), (2, .int (nI t)), (4, .int (nI b))]) hx hb dX6_isRefined_48 hl (k := 3) rfl (nI_1 a) (by decide) rfl (fun ls hl => ?_)
              refine lv_goto (tgt := 2) hx hb dX6_isRefined_51 (by decide) ?_
              exact ih2  (a + 1) (by omega) (lt_s hq (fun y hy => hp y (by omega))) (by omega) _ (lv_sub hl [1, 2, 3, 0] rfl)
            · skip
              refine lv_aload_n hx hb dX6_isRefined_18 rfl (lv_at hl 0 rfl) ?_
              refine lv_iload_n hx hb dX6_isRefined_19 rfl (lv_at hl 2 rfl) ?_
              refine lv_iload_n hx hb dX6_isRefined_20 rfl (lv_at hl 3 rfl) ?_
              refine lv_iload hx hb dX6_isRefined_21 (lv_at hl 4 rfl) ?_
              refine kx_cr (v := cmpI (cM M t a) (cM M t b)) (va_runV (As := [.int (nI t), .int (nI a), .int (nI b)]) (rest := []) ⟨hx, hb, hml, hown, hts⟩ (m_X6_compareNow l dC dI am M t a b (by omega) ho2 (by omega) (by omega)) (cwV 3 hts gX6_isRefined_X6_compareNow rfl rfl rfl hdX6_compareNow_3 ⟨Nat.le_of_ble_eq_true rfl, Nat.le_of_ble_eq_true rfl⟩) (hX.preObj) rfl rfl hl.1 rfl (lv_room (Nat.le_of_ble_eq_true rfl)) dX6_isRefined_23 ⟨Nat.le_of_ble_eq_true rfl, Nat.le_of_ble_eq_true rfl⟩) (fun _ h => h) ?_
              refine kc_if_ge (tgt := 42) hx hb dX6_isRefined_26 (by decide) (fun k_3 => ?_) (fun k_3 => ?_)
              · skip
                have h1 := k_3
                refine lv_iinc (v := nI (b + 1)) (lv' := [(4, .int (nI (b + 1))), (0, .ref (am 0)), (1, .int (nI j)), (2, .int (nI t)), (3, .int (nI a))]) hx hb dX6_isRefined_42 hl (k := 4) rfl (nI_1 b) (by decide) rfl (fun ls hl => ?_)
                refine lv_goto (tgt := 11) hx hb dX6_isRefined_45 (by decide) ?_
                exact ih11  (b + 1) (by omega) (lt_s hp (fun h => absurd h (by omega))) (by omega) _ (lv_sub hl [1, 2, 3, 4, 0] rfl)
              · skip
                have h1 := k_3
                refine lv_aload_n hx hb dX6_isRefined_29 rfl (lv_at hl 0 rfl) ?_
                refine lv_iload_n hx hb dX6_isRefined_30 rfl (lv_at hl 1 rfl) ?_
                refine lv_iload_n hx hb dX6_isRefined_31 rfl (lv_at hl 3 rfl) ?_
                refine lv_iload hx hb dX6_isRefined_32 (lv_at hl 4 rfl) ?_
                refine kx_cr (v := cmpI (cM M j a) (cM M j b)) (va_runV (As := [.int (nI j), .int (nI a), .int (nI b)]) (rest := []) ⟨hx, hb, hml, hown, hts⟩ (m_X6_compareNow l dC dI am M j a b (by omega) ho (by omega) (by omega)) (cwV 3 hts gX6_isRefined_X6_compareNow rfl rfl rfl hdX6_compareNow_3 ⟨Nat.le_of_ble_eq_true rfl, Nat.le_of_ble_eq_true rfl⟩) (hX.preObj) rfl rfl hl.1 rfl (lv_room (Nat.le_of_ble_eq_true rfl)) dX6_isRefined_34 ⟨Nat.le_of_ble_eq_true rfl, Nat.le_of_ble_eq_true rfl⟩) (fun _ h => h) ?_
                refine kc_if_lt (tgt := 42) hx hb dX6_isRefined_37 (by decide) (fun k_4 => ?_) (fun k_4 => ?_)
                · skip
                  have h2 := k_4
                  refine lv_iinc (v := nI (b + 1)) (lv' := [(4, .int (nI (b + 1))), (0, .ref (am 0)), (1, .int (nI j)), (2, .int (nI t)), (3, .int (nI a))]) hx hb dX6_isRefined_42 hl (k := 4) rfl (nI_1 b) (by decide) rfl (fun ls hl => ?_)
                  refine lv_goto (tgt := 11) hx hb dX6_isRefined_45 (by decide) ?_
                  exact ih11  (b + 1) (by omega) (lt_s hp (fun _ => h2)) (by omega) _ (lv_sub hl [1, 2, 3, 4, 0] rfl)
                · skip
                  have h2 := k_4
                  refine lv_iconst (v := nI 0) hx hb dX6_isRefined_40 (by decide) ?_
                  exact W.zret (v := bI false) hx hb hr (bI_narrow _) (fun t9 ht9 hW9 => ⟨_, rfl, (kd_f (fun z => absurd (z a (by omega) b (by omega) h1) (by omega))), ht9⟩) (fun _ h => nomatch h) dX6_isRefined_41
        exact loop11 (17 + 1) 0 (by omega) (fun y h => absurd h (Nat.not_lt_zero y)) (by omega) _ (lv_sub hl [1, 2, 3, 4, 0] rfl)
  exact loop2 (16 + 1) 0 (by omega) (fun x h => absurd h (Nat.not_lt_zero x)) (by omega) _ (lv_sub hl [1, 2, 3, 0] rfl)
set_option maxHeartbeats 4000000 in
set_option maxRecDepth 100000 in
theorem m_X6_bothNow (l : Launch) (dC : Nat → ClassId) (dI : Nat → Nat → Nat) (am : Nat → Nat) (M : MS) (j t v u : Nat) (hj : j < 4) (ht : t < 4) (ho : ordM (M.2.1 j)) (ho2 : ordM (M.2.1 t)) (hv : v < 16) (hu : u < 16) : Met l yX6_bothNow wsX6_bothNow ({ frames := 2, cells := 0, slots := 0, locals := 47 } : Room) (va_Pc [.ref (am 0), .int (nI j), .int (nI t), .int (nI v), .int (nI u)] (PM dC dI am M)) (vp_Si (fun r => r = bothI (cM M j v) (cM M j u) (cM M t v) (cM M t u))) 0 0 (fun _ => False) := by
  refine Met.ofW (cc := cX6_bothNow) (maxL := 7) (ret := (some .int)) pl_X6 rfl ?_
  intro p e s m args below meth c s₁ B hml hv
  obtain ⟨rfl, hPX⟩ := hv
  have hx := B.exec
  have hb := B.bytes
  have hr := B.returns
  have hts := atoms_spec (ws := wsX6_bothNow) B.pre
  have hown : s.vm.findClass RX6 = some m.cls := findClass_of_methodNamed B.named
  have hlocks := B.notSynchronized
  have hX := WM.of hPX
  have hl := lv_entry ([.ref (am 0), .int (nI j), .int (nI t), .int (nI v), .int (nI u)]) (n := 7) (Nat.le_of_ble_eq_true rfl)
  rw [lg_entry_eq]
  generalize (lg_sl ([.ref (am 0), .int (nI j), .int (nI t), .int (nI v), .int (nI u)]) ++ List.replicate (7 - (lg_sl ([.ref (am 0), .int (nI j), .int (nI t), .int (nI v), .int (nI u)])).length) Slot.unset).toArray = ls at hl ⊢
  have hl : lv_has ls 7 [(0, .ref (am 0)), (1, .int (nI j)), (2, .int (nI t)), (3, .int (nI v)), (4, .int (nI u))] := hl
  show W p l e ({ frames := 2, cells := 0, slots := 0, locals := 47 } : Room) s m ([.ref (am 0), .int (nI j), .int (nI t), .int (nI v), .int (nI u)]).toArray below meth c s.heap [] 0 0 (MQ below (vp_Si (fun r => r = bothI (cM M j v) (cM M j u) (cM M t v) (cM M t u))) ([.ref (am 0), .int (nI j), .int (nI t), .int (nI v), .int (nI u)]).toArray s 0 0 (fun _ => False)) (F0 m 0 ls [])
  refine lv_aload_n hx hb dX6_bothNow_0 rfl (lv_at hl 0 rfl) ?_
  refine lv_iload_n hx hb dX6_bothNow_1 rfl (lv_at hl 1 rfl) ?_
  refine lv_iload_n hx hb dX6_bothNow_2 rfl (lv_at hl 3 rfl) ?_
  refine lv_iload hx hb dX6_bothNow_3 (lv_at hl 4 rfl) ?_
  refine kx_cr (v := cmpI (cM M j v) (cM M j u)) (va_runV (As := [.int (nI j), .int (nI v), .int (nI u)]) (rest := []) ⟨hx, hb, hml, hown, hts⟩ (m_X6_compareNow l dC dI am M j v u (by omega) ho (by omega) (by omega)) (cwV 3 hts gX6_bothNow_X6_compareNow rfl rfl rfl hdX6_compareNow_3 ⟨Nat.le_of_ble_eq_true rfl, Nat.le_of_ble_eq_true rfl⟩) (hX.preObj) rfl rfl hl.1 rfl (lv_room (Nat.le_of_ble_eq_true rfl)) dX6_bothNow_5 ⟨Nat.le_of_ble_eq_true rfl, Nat.le_of_ble_eq_true rfl⟩) (fun _ h => h) ?_
  refine lv_istore (lv' := [(5, .int (cmpI (cM M j v) (cM M j u))), (0, .ref (am 0)), (1, .int (nI j)), (2, .int (nI t)), (3, .int (nI v)), (4, .int (nI u))]) hx hb dX6_bothNow_8 hl (by decide) rfl (fun ls hl => ?_)
  refine lv_aload_n hx hb dX6_bothNow_10 rfl (lv_at hl 1 rfl) ?_
  refine lv_iload_n hx hb dX6_bothNow_11 rfl (lv_at hl 3 rfl) ?_
  refine lv_iload_n hx hb dX6_bothNow_12 rfl (lv_at hl 4 rfl) ?_
  refine lv_iload hx hb dX6_bothNow_13 (lv_at hl 5 rfl) ?_
  refine kx_cr (v := cmpI (cM M t v) (cM M t u)) (va_runV (As := [.int (nI t), .int (nI v), .int (nI u)]) (rest := []) ⟨hx, hb, hml, hown, hts⟩ (m_X6_compareNow l dC dI am M t v u (by omega) ho2 (by omega) (by omega)) (cwV 3 hts gX6_bothNow_X6_compareNow rfl rfl rfl hdX6_compareNow_3 ⟨Nat.le_of_ble_eq_true rfl, Nat.le_of_ble_eq_true rfl⟩) (hX.preObj) rfl rfl hl.1 rfl (lv_room (Nat.le_of_ble_eq_true rfl)) dX6_bothNow_15 ⟨Nat.le_of_ble_eq_true rfl, Nat.le_of_ble_eq_true rfl⟩) (fun _ h => h) ?_
  refine lv_istore (lv' := [(6, .int (cmpI (cM M t v) (cM M t u))), (5, .int (cmpI (cM M j v) (cM M j u))), (0, .ref (am 0)), (1, .int (nI j)), (2, .int (nI t)), (3, .int (nI v)), (4, .int (nI u))]) hx hb dX6_bothNow_18 hl (by decide) rfl (fun ls hl => ?_)
  refine lv_iload hx hb dX6_bothNow_20 (lv_at hl 1 rfl) ?_
  refine lv_iload hx hb dX6_bothNow_22 (lv_at hl 0 rfl) ?_
  refine lv_imul hx hb dX6_bothNow_24 ?_
  refine lv_if_ge (tgt := 32) hx hb dX6_bothNow_25 (by decide) (fun k_1 => ?_) (fun k_1 => ?_)
  · skip
    have h1 := k_1
    refine lv_iload hx hb dX6_bothNow_32 (lv_at hl 1 rfl) ?_
    refine kc_if_eq (tgt := 42) hx hb dX6_bothNow_34 (by decide) (fun k_2 => ?_) (fun k_2 => ?_)
    · skip
      have h2 := k_2
      refine lv_iload hx hb dX6_bothNow_42 (lv_at hl 0 rfl) ?_
      exact W.iret (v := cmpI (cM M t v) (cM M t u)) hx hb hr (fun t9 ht9 hW9 => ⟨_, rfl, (bothM_y h2), ht9⟩) (fun _ h => nomatch h) dX6_bothNow_44
    · skip
      have h2 := k_2
      refine lv_iload hx hb dX6_bothNow_37 (lv_at hl 1 rfl) ?_
      refine lv_goto (tgt := 44) hx hb dX6_bothNow_39 (by decide) ?_
      exact W.iret (v := cmpI (cM M j v) (cM M j u)) hx hb hr (fun t9 ht9 hW9 => ⟨_, rfl, (bothM_x h1 h2), ht9⟩) (fun _ h => nomatch h) dX6_bothNow_44
  · skip
    have h1 := k_1
    refine lv_iconst (v := nI 2) hx hb dX6_bothNow_28 (by decide) ?_
    refine lv_goto (tgt := 44) hx hb dX6_bothNow_29 (by decide) ?_
    exact W.iret (v := nI 2) hx hb hr (fun t9 ht9 hW9 => ⟨_, rfl, (bothM_2 h1), ht9⟩) (fun _ h => nomatch h) dX6_bothNow_44
set_option maxHeartbeats 4000000 in
set_option maxRecDepth 100000 in
theorem m_X6_apartNow (l : Launch) (dC : Nat → ClassId) (dI : Nat → Nat → Nat) (am : Nat → Nat) (M : MS) (j t : Nat) (hj : j < 4) (ht : t < 4) (ho : ordM (M.2.1 j)) (ho2 : ordM (M.2.1 t)) : Met l yX6_apartNow wsX6_apartNow ({ frames := 3, cells := 0, slots := 0, locals := 73 } : Room) (va_Pc [.ref (am 0), .int (nI j), .int (nI t)] (PM dC dI am M)) (vp_Si (fun r => r = nI (apartM (cM M j) (cM M t)))) 0 0 (fun _ => False) := by
  refine Met.ofW (cc := cX6_apartNow) (maxL := 6) (ret := (some .int)) pl_X6 rfl ?_
  intro p e s m args below meth c s₁ B hml hv
  obtain ⟨rfl, hPX⟩ := hv
  have hx := B.exec
  have hb := B.bytes
  have hr := B.returns
  have hts := atoms_spec (ws := wsX6_apartNow) B.pre
  have hown : s.vm.findClass RX6 = some m.cls := findClass_of_methodNamed B.named
  have hlocks := B.notSynchronized
  have hX := WM.of hPX
  have hl := lv_entry ([.ref (am 0), .int (nI j), .int (nI t)]) (n := 6) (Nat.le_of_ble_eq_true rfl)
  rw [lg_entry_eq]
  generalize (lg_sl ([.ref (am 0), .int (nI j), .int (nI t)]) ++ List.replicate (6 - (lg_sl ([.ref (am 0), .int (nI j), .int (nI t)])).length) Slot.unset).toArray = ls at hl ⊢
  have hl : lv_has ls 6 [(0, .ref (am 0)), (1, .int (nI j)), (2, .int (nI t))] := hl
  show W p l e ({ frames := 3, cells := 0, slots := 0, locals := 73 } : Room) s m ([.ref (am 0), .int (nI j), .int (nI t)]).toArray below meth c s.heap [] 0 0 (MQ below (vp_Si (fun r => r = nI (apartM (cM M j) (cM M t)))) ([.ref (am 0), .int (nI j), .int (nI t)]).toArray s 0 0 (fun _ => False)) (F0 m 0 ls [])
  refine lv_iconst (v := nI 0) hx hb dX6_apartNow_0 (by decide) ?_
  refine lv_istore_n (lv' := [(3, .int (nI 0)), (0, .ref (am 0)), (1, .int (nI j)), (2, .int (nI t))]) hx hb dX6_apartNow_1 rfl hl (by decide) rfl (fun ls hl => ?_)
  refine lv_iconst (v := nI 0) hx hb dX6_apartNow_2 (by decide) ?_
  refine lv_istore (lv' := [(4, .int (nI 0)), (3, .int (nI 0)), (0, .ref (am 0)), (1, .int (nI j)), (2, .int (nI t))]) hx hb dX6_apartNow_3 hl (by decide) rfl (fun ls hl => ?_)
  have loop5 : ∀ (fuel : Nat) (q a : Nat) (ha : a ≤ 16) (hq : q = sumN (apartF (cM M j) (cM M t)) a), 16 - a < fuel → ∀ ls : Array Slot, lv_has ls 6 [(0, .ref (am 0)), (1, .int (nI j)), (2, .int (nI t)), (3, .int (nI q)), (4, .int (nI a))] → W p l e ({ frames := 3, cells := 0, slots := 0, locals := 73 } : Room) s m ([.ref (am 0), .int (nI j), .int (nI t)]).toArray below meth c s.heap [] 0 0 (MQ below (vp_Si (fun r => r = nI (apartM (cM M j) (cM M t)))) ([.ref (am 0), .int (nI j), .int (nI t)]).toArray s 0 0 (fun _ => False)) (F0 m 5 ls []) := by
    intro fuel
    induction fuel with
    | zero => intro q a ha hq hf; exact absurd hf (Nat.not_lt_zero _)
    | succ fuel ih5 =>
      intro q a ha hq hf ls hl
      refine lv_iload hx hb dX6_apartNow_5 (lv_at hl 4 rfl) ?_
      refine lv_bipush (v := nI 16) hx hb dX6_apartNow_7 (by decide) ?_
      refine kn_icmp_ge (tgt := 56) hx hb (by omega) (by omega) dX6_apartNow_9 (by decide) (fun k_1 => ?_) (fun k_1 => ?_)
      · skip
        refine lv_iload_n hx hb dX6_apartNow_56 rfl (lv_at hl 3 rfl) ?_
        exact W.iret (v := nI q) hx hb hr (fun t9 ht9 hW9 => ⟨_, rfl, (by rw [hq, show a = 16 by omega]; rfl), ht9⟩) (fun _ h => nomatch h) dX6_apartNow_57
      · skip
        refine lv_iconst (v := nI 0) hx hb dX6_apartNow_12 (by decide) ?_
        refine lv_istore (lv' := [(5, .int (nI 0)), (0, .ref (am 0)), (1, .int (nI j)), (2, .int (nI t)), (3, .int (nI q)), (4, .int (nI a))]) hx hb dX6_apartNow_13 hl (by decide) rfl (fun ls hl => ?_)
        have loop15 : ∀ (fuel : Nat) (x b : Nat) (hb3 : b ≤ a ∧ a < 16) (hp : x = sumN (apartF (cM M j) (cM M t)) a + cntB (fun b => decide (bothI (cM M j a) (cM M j b) (cM M t a) (cM M t b) = nI 2)) b), 17 - b < fuel → ∀ ls : Array Slot, lv_has ls 6 [(0, .ref (am 0)), (1, .int (nI j)), (2, .int (nI t)), (3, .int (nI x)), (4, .int (nI a)), (5, .int (nI b))] → W p l e ({ frames := 3, cells := 0, slots := 0, locals := 73 } : Room) s m ([.ref (am 0), .int (nI j), .int (nI t)]).toArray below meth c s.heap [] 0 0 (MQ below (vp_Si (fun r => r = nI (apartM (cM M j) (cM M t)))) ([.ref (am 0), .int (nI j), .int (nI t)]).toArray s 0 0 (fun _ => False)) (F0 m 15 ls []) := by
          intro fuel
          induction fuel with
          | zero => intro x b hb3 hp hf; exact absurd hf (Nat.not_lt_zero _)
          | succ fuel ih15 =>
            intro x b hb3 hp hf ls hl
            refine lv_iload hx hb dX6_apartNow_15 (lv_at hl 5 rfl) ?_
            refine lv_iload hx hb dX6_apartNow_17 (lv_at hl 4 rfl) ?_
            refine kn_icmp_ge (tgt := 50) hx hb (by omega) (by omega) dX6_apartNow_19 (by decide) (fun k_2 => ?_) (fun k_2 => ?_)
            · skip
              refine lv_iinc (v := nI (a + 1)) (lv' := [(4, .int (nI (a + 1))), (0, .ref (am 0)), (1, .int (nI j)), (2, .int (nI t)), (3, .int (nI x)), (5, .int (nI b))]) hx hb dX6_apartNow_50 hl (k := 4) rfl (nI_1 a) (by decide) rfl (fun ls hl => ?_)
              refine lv_goto (tgt := 5) hx hb dX6_apartNow_53 (by decide) ?_
              exact ih5  x (a + 1) (by omega) (by rw [hp, show b = a by omega]; rfl) (by omega) _ (lv_sub hl [1, 2, 3, 4, 0] rfl)
            · skip
              refine lv_iload_n hx hb dX6_apartNow_22 rfl (lv_at hl 3 rfl) ?_
              refine lv_aload_n hx hb dX6_apartNow_23 rfl (lv_at hl 0 rfl) ?_
              refine lv_iload_n hx hb dX6_apartNow_24 rfl (lv_at hl 1 rfl) ?_
              refine lv_iload_n hx hb dX6_apartNow_25 rfl (lv_at hl 2 rfl) ?_
              refine lv_iload hx hb dX6_apartNow_26 (lv_at hl 4 rfl) ?_
              refine lv_iload hx hb dX6_apartNow_28 (lv_at hl 5 rfl) ?_
              refine kx_cr (v := (bothI (cM M j a) (cM M j b) (cM M t a) (cM M t b))) (va_runV (As := [.int (nI j), .int (nI t), .int (nI a), .int (nI b)]) (rest := [.int (nI x)]) ⟨hx, hb, hml, hown, hts⟩ (m_X6_bothNow l dC dI am M j t a b (by omega) (by omega) ho ho2 (by omega) (by omega)) (cwV 4 hts gX6_apartNow_X6_bothNow rfl rfl rfl hdX6_bothNow_4 ⟨Nat.le_of_ble_eq_true rfl, Nat.le_of_ble_eq_true rfl⟩) (hX.preObj) rfl rfl hl.1 rfl (lv_room (Nat.le_of_ble_eq_true rfl)) dX6_apartNow_30 ⟨Nat.le_of_ble_eq_true rfl, Nat.le_of_ble_eq_true rfl⟩) (fun _ h => h) ?_
              refine lv_iconst (v := nI 2) hx hb dX6_apartNow_33 (by decide) ?_
              refine lv_icmp_ne (tgt := 41) hx hb dX6_apartNow_34 (by decide) (fun k_3 => ?_) (fun k_3 => ?_)
              · skip
                have hc := k_3
                refine lv_iconst (v := nI 0) hx hb dX6_apartNow_41 (by decide) ?_
                refine kn_iadd hx hb dX6_apartNow_42 ?_
                refine lv_istore_n (lv' := [(3, .int (nI (x + 0))), (0, .ref (am 0)), (1, .int (nI j)), (2, .int (nI t)), (4, .int (nI a)), (5, .int (nI b))]) hx hb dX6_apartNow_43 rfl hl (by decide) rfl (fun ls hl => ?_)
                refine lv_iinc (v := nI (b + 1)) (lv' := [(5, .int (nI (b + 1))), (3, .int (nI (x + 0))), (0, .ref (am 0)), (1, .int (nI j)), (2, .int (nI t)), (4, .int (nI a))]) hx hb dX6_apartNow_44 hl (k := 5) rfl (nI_1 b) (by decide) rfl (fun ls hl => ?_)
                refine lv_goto (tgt := 15) hx hb dX6_apartNow_47 (by decide) ?_
                exact ih15  (x + 0) (b + 1) (by omega) (by rw [hp, cntB_f (decide_eq_false hc)]; rfl) (by omega) _ (lv_sub hl [2, 3, 4, 1, 5, 0] rfl)
              · skip
                have hc := k_3
                refine lv_iconst (v := nI 1) hx hb dX6_apartNow_37 (by decide) ?_
                refine lv_goto (tgt := 42) hx hb dX6_apartNow_38 (by decide) ?_
                refine kn_iadd hx hb dX6_apartNow_42 ?_
                refine lv_istore_n (lv' := [(3, .int (nI (x + 1))), (0, .ref (am 0)), (1, .int (nI j)), (2, .int (nI t)), (4, .int (nI a)), (5, .int (nI b))]) hx hb dX6_apartNow_43 rfl hl (by decide) rfl (fun ls hl => ?_)
                refine lv_iinc (v := nI (b + 1)) (lv' := [(5, .int (nI (b + 1))), (3, .int (nI (x + 1))), (0, .ref (am 0)), (1, .int (nI j)), (2, .int (nI t)), (4, .int (nI a))]) hx hb dX6_apartNow_44 hl (k := 5) rfl (nI_1 b) (by decide) rfl (fun ls hl => ?_)
                refine lv_goto (tgt := 15) hx hb dX6_apartNow_47 (by decide) ?_
                exact ih15  (x + 1) (b + 1) (by omega) (by rw [hp, cntB_t (decide_eq_true hc), Nat.add_assoc]) (by omega) _ (lv_sub hl [2, 3, 4, 1, 5, 0] rfl)
        exact loop15 (17 + 1) q 0 (by omega) (by rw [hq]; rfl) (by omega) _ (lv_sub hl [1, 2, 3, 4, 5, 0] rfl)
  exact loop5 (16 + 1) 0 0 (by omega) rfl (by omega) _ (lv_sub hl [2, 3, 4, 1, 0] rfl)
end
