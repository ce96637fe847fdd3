/-! ranks told -/
/-- the spare row alone may have changed -/
def KR (S S1 : XS) : Prop := S1.2 = S.2 ∧ ∀ k, k ≠ 4 → S1.1 k = S.1 k
theorem KR_refl {S : XS} : KR S S := ⟨rfl, fun _ _ => rfl⟩
theorem KR_row {S S1 : XS} (h : KR S S1) {r : RowS} (_ : rowOK r) : KR S (xR S1 4 r) := ⟨h.1, fun k hk => by rw [xR_ne _ _ hk]; exact h.2 k hk⟩
set_option maxHeartbeats 4000000 in
set_option maxRecDepth 100000 in
theorem m_X4_ranks (l : Launch) (dC : Nat → ClassId) (dI : Nat → Nat → Nat) (cB : ClassId) (ad : Nat → Nat) (S : XS) (i j : Nat) (z : Bool) (hi : i < 3) (hj : j < 4) (hI : InvX S) : Met l yX4_ranks wsX4_ranks ({ frames := 7, cells := 80, slots := 900, locals := 151 } : Room) (va_Pc [.ref (ad 57), .int (nI i), .int (nI j), .int (bI z)] (PT dC dI cB ad S)) (va_Qr (fun S1 : XS => KR S S1) (fun S1 _ t => PX dC dI ad S1 t) (AX ad)) 80 900 (AX ad) := by
  refine Met.ofW (cc := cX4_ranks) (maxL := 9) (ret := (some (.object "java/lang/String"))) pl_X4 rfl ?_
  intro p e s m args below meth c s₁ B hml hv
  obtain ⟨rfl, hPT⟩ := hv
  have hx := B.exec
  have hb := B.bytes
  have hr := B.returns
  have hts := atoms_spec (ws := wsX4_ranks) B.pre
  have hown : s.vm.findClass RX4 = some m.cls := findClass_of_methodNamed B.named
  have hlocks := B.notSynchronized
  have hin4 : ∀ w ∈ u_ws RX4 TX4 9, w ∈ wsX4_ranks := tu 1328 (by decide +kernel) rfl
  have hinJ4 : ∀ w ∈ u_ws RJ4 TJ4 4, w ∈ wsX4_ranks := tu 1326 (by decide +kernel) rfl
  have hN : NT s := hPT.2.2.2
  have hX := WX.ofT hPT
  have hT := TB.of hPT
  have hl := lv_entry ([.ref (ad 57), .int (nI i), .int (nI j), .int (bI z)]) (n := 9) (Nat.le_of_ble_eq_true rfl)
  rw [lg_entry_eq]
  generalize (lg_sl ([.ref (ad 57), .int (nI i), .int (nI j), .int (bI z)]) ++ List.replicate (9 - (lg_sl ([.ref (ad 57), .int (nI i), .int (nI j), .int (bI z)])).length) Slot.unset).toArray = ls at hl ⊢
  have hl : lv_has ls 9 [(0, .ref (ad 57)), (1, .int (nI i)), (2, .int (nI j)), (3, .int (bI z))] := hl
  show W p l e ({ frames := 7, cells := 80, slots := 900, locals := 151 } : Room) s m ([.ref (ad 57), .int (nI i), .int (nI j), .int (bI z)]).toArray below meth c s.heap [] 0 0 (MQ below (va_Qr (fun S1 : XS => KR S S1) (fun S1 _ t => PX dC dI ad S1 t) (AX ad)) ([.ref (ad 57), .int (nI i), .int (nI j), .int (bI z)]).toArray s 80 900 (AX ad)) (F0 m 0 ls [])
  obtain ⟨S0, hS0⟩ : ∃ q : XS, q = S := ⟨_, rfl⟩
  generalize hQ9 : (MQ below (va_Qr (fun S1 : XS => KR S S1) (fun S1 _ t => PX dC dI ad S1 t) (AX ad)) ([.ref (ad 57), .int (nI i), .int (nI j), .int (bI z)]).toArray s 80 900 (AX ad)) = Q9
  refine lv_aload_n hx hb dX4_ranks_0 rfl (lv_at hl 0 rfl) ?_
  refine lv_iload_n hx hb dX4_ranks_1 rfl (lv_at hl 1 rfl) ?_
  refine va_csr (va_Run.run (va_runV (As := [.int (nI i)]) (rest := []) ⟨hx, hb, hml, hown, hts⟩ (m_X4_rowAt l dC dI ad S i (by omega)) (cwV 1 hts gX4_ranks_X4_rowAt rfl rfl rfl hdX4_rowAt_1 ⟨Nat.le_of_ble_eq_true rfl, Nat.le_of_ble_eq_true rfl⟩) (hX.preTop 57 6 (by decide) (by decide) rfl rfl) rfl rfl hl.1 rfl (lv_room (Nat.le_of_ble_eq_true rfl)) dX4_ranks_2 ⟨by show _ ≤ 80; omega, by show _ ≤ 900; omega⟩)) (fun k_ hk_ => ?_)
  rw [hk_]
  refine lv_astore (lv' := [(4, .ref (ad (3 * i))), (0, .ref (ad 57)), (1, .int (nI i)), (2, .int (nI j)), (3, .int (bI z))]) hx hb dX4_ranks_5 hl (by decide) rfl (fun ls hl => ?_)
  refine lv_aload_n hx hb dX4_ranks_7 rfl (lv_at hl 1 rfl) ?_
  refine lv_iload_n hx hb dX4_ranks_8 rfl (lv_at hl 3 rfl) ?_
  refine va_csr (va_Run.run (va_runV (As := [.int (nI j)]) (rest := []) ⟨hx, hb, hml, hown, hts⟩ (m_X4_orderAt l dC dI ad S j (by omega)) (cwV 1 hts gX4_ranks_X4_orderAt rfl rfl rfl hdX4_orderAt_1 ⟨Nat.le_of_ble_eq_true rfl, Nat.le_of_ble_eq_true rfl⟩) (hX.preTop 57 6 (by decide) (by decide) rfl rfl) rfl rfl hl.1 rfl (lv_room (Nat.le_of_ble_eq_true rfl)) dX4_ranks_9 ⟨by show _ ≤ 80; omega, by show _ ≤ 900; omega⟩)) (fun k_ hk_ => ?_)
  rw [hk_]
  refine lv_astore (lv' := [(5, .ref (ad (24 + 5 * j))), (4, .ref (ad (3 * i))), (0, .ref (ad 57)), (1, .int (nI i)), (2, .int (nI j)), (3, .int (bI z))]) hx hb dX4_ranks_12 hl (by decide) rfl (fun ls hl => ?_)
  refine lv_aload_n hx hb dX4_ranks_14 rfl (lv_at hl 2 rfl) ?_
  refine kx_gspareRow hx hb hts hin4 hown hX (hts (.fieldLink RX4 36 "Orderlattice" "spareRow" "LOrderlattice$Row;") (tm 453 (by decide +kernel) rfl)) dX4_ranks_15 ?_
  refine lv_aload hx hb dX4_ranks_18 (lv_at hl 1 rfl) ?_
  refine kt_x (va_runV (As := [.ref (ad (3 * i))]) (rest := []) ⟨hx, hb, hml, hown, hts⟩ (m_X2_becomeCopyOf l dC dI ad S 4 i (by omega) (by omega) (hI.1 i (by omega)).1) (cwV 1 hts gX4_ranks_X2_becomeCopyOf rfl rfl rfl hdX2_becomeCopyOf_1 ⟨Nat.le_of_ble_eq_true rfl, Nat.le_of_ble_eq_true rfl⟩) (hX.preRow (by omega)) rfl rfl hl.1 rfl (lv_room (Nat.le_of_ble_eq_true rfl)) dX4_ranks_20 ⟨by show _ ≤ 80; omega, by show _ ≤ 900; omega⟩) hX hT (fun S2 H locs hw hX hT => ?_)
  have hI2 : InvX S2 := by rw [hw]; exact InvX_row hI (rowOK_ovl (hI.1 4 (by decide)) (hI.1 i (by omega)))
  have hK : KR S0 S2 := by rw [hw, hS0]; exact KR_row KR_refl (rowOK_ovl (hI.1 4 (by decide)) (hI.1 i (by omega)))
  have hn2 : (S2.1 4).2.2 = (S.1 i).2.2 := by rw [hw, xR_row]
  have hn3 := (hI2.1 4 (by decide)).1
  clear hw
  refine kt_new hx hb hts hinJ4 hown (hts (.classLink RX4 187 RJ4) (tm 564 (by decide +kernel) rfl)) (hts (.instantiable RJ4 4) (tm 374 (by decide +kernel) rfl)) (hts (.initialized RJ4) (tm 328 (by decide +kernel) rfl)) hX hT (by show _ ≤ 80; omega) (by show _ ≤ 900; omega) dX4_ranks_23 (fun a9 H hX hT => ?_)
  refine lv_dup hx hb dX4_ranks_26 rfl ?_
  refine kt_v (va_runI (As := []) (rest := [.ref a9]) ⟨hx, hb, hml, hown, hts⟩ (m_J4_init_da8c8 l dC dI cB s.heap.size a9) (cwI 0 hts gX4_ranks_J4_init_da8c8 rfl rfl rfl (hts (.initialized yJ4_init_da8c8.cls) (tm 328 (by decide +kernel) rfl)) (hts (.methodLink RX4 189 yJ4_init_da8c8) (tm 565 (by decide +kernel) rfl)) (hts (.instanceMethod yJ4_init_da8c8) (tm 414 (by decide +kernel) rfl)) rfl (by decide +kernel) ⟨Nat.le_of_ble_eq_true rfl, Nat.le_of_ble_eq_true rfl⟩) (hT.preS hX) rfl rfl hl.1 rfl (lv_room (Nat.le_of_ble_eq_true rfl)) dX4_ranks_27 ⟨by show _ ≤ 80; omega, by show _ ≤ 900; omega⟩) hX hT (fun b0 H locs _ hX hT => ?_)
  refine W.widen (k := 2) (n := 4 + 2 * 16) (by omega) (by omega) ?_
  have hf : sb_Fit (fun _ => 0) := sb_fit0
  refine lv_astore (lv' := [(6, .ref a9), (5, .ref (ad (24 + 5 * j))), (4, .ref (ad (3 * i))), (0, .ref (ad 57)), (1, .int (nI i)), (2, .int (nI j)), (3, .int (bI z))]) hx hb dX4_ranks_30 hl (by decide) rfl (fun ls hl => ?_)
  refine lv_aload_n hx hb dX4_ranks_32 rfl (lv_at hl 3 rfl) ?_
  refine kx_gspareRow hx hb hts hin4 hown hX (hts (.fieldLink RX4 36 "Orderlattice" "spareRow" "LOrderlattice$Row;") (tm 453 (by decide +kernel) rfl)) dX4_ranks_33 ?_
  refine kx_cr (v := nI ((S2.1 4).2.2)) (va_runV (As := []) (rest := []) ⟨hx, hb, hml, hown, hts⟩ (m_X2_length l dC dI ad S2 4 (by omega)) (cwV 0 hts gX4_ranks_X2_length rfl rfl rfl hdX2_length_0 ⟨Nat.le_of_ble_eq_true rfl, Nat.le_of_ble_eq_true rfl⟩) (hX.preRow (by omega)) rfl rfl hl.1 rfl (lv_room (Nat.le_of_ble_eq_true rfl)) dX4_ranks_36 ⟨by show _ ≤ 80; omega, by show _ ≤ 900; omega⟩) (fun _ h => h) ?_
  refine lv_istore (lv' := [(7, .int (nI ((S2.1 4).2.2))), (6, .ref a9), (5, .ref (ad (24 + 5 * j))), (4, .ref (ad (3 * i))), (0, .ref (ad 57)), (1, .int (nI i)), (2, .int (nI j)), (3, .int (bI z))]) hx hb dX4_ranks_39 hl (by decide) rfl (fun ls hl => ?_)
  have loop41 : ∀ (fuel : Nat) (S : XS) (y : Nat) (b1 n1 c1 : Nat) (f1 : Nat → Int32) (hI : InvX S) (hK : KR S0 S) (hy : (S.1 4).2.2 = y ∧ y ≤ 16) (hn1 : n1 + 3 * y ≤ 48) (hnc : n1 ≤ c1 ∧ 16 ≤ c1 ∧ c1 ≤ 320) (hf : sb_Fit f1) (H : Heap) (locs : List Loc), y < fuel → WX dC dI ad S (AZ ad s.heap.size) s H locs → TB dC dI cB ad s.heap.size [(a9, eSB b1 n1), (b1, eBy cB c1 f1)] s H → ∀ ls : Array Slot, lv_has ls 9 [(0, .ref (ad 57)), (3, .int (bI z)), (5, .ref (ad (24 + 5 * j))), (6, .ref a9), (7, .int (nI y))] → W p l e ({ frames := 7, cells := 80, slots := 900, locals := 151 } : Room) s m ([.ref (ad 57), .int (nI i), .int (nI j), .int (bI z)]).toArray below meth c H locs (2 + 2 * (16 - y)) (4 + 2 * c1) Q9 (F0 m 41 ls []) := by
    intro fuel
    induction fuel with
    | zero => intro S y b1 n1 c1 f1 hI hK hy hn1 hnc hf H locs hf9; exact absurd hf9 (Nat.not_lt_zero _)
    | succ fuel ih41 =>
      intro S y b1 n1 c1 f1 hI hK hy hn1 hnc hf H locs hf9 hX hT ls hl
      refine lv_iload hx hb dX4_ranks_41 (lv_at hl 4 rfl) ?_
      refine kn_if_le (tgt := 105) hx hb (by omega) dX4_ranks_43 (by decide) (fun k_1 => ?_) (fun k_1 => ?_)
      · skip
        refine lv_aload hx hb dX4_ranks_105 (lv_at hl 3 rfl) ?_
        refine kt_r (va_runV (As := []) (rest := []) ⟨hx, hb, hml, hown, hts⟩ (m_J4_toString_0e30d l dC dI cB s.heap.size a9 b1 n1 c1 f1 (by omega) (by omega) hf) (cwV 0 hts gX4_ranks_J4_toString_0e30d rfl rfl rfl hdJ4_toString_0e30d_0 ⟨Nat.le_of_ble_eq_true rfl, Nat.le_of_ble_eq_true rfl⟩) (hT.preV hX (ci := 1) (q := (RJ4, TJ4, 4)) rfl 0 rfl) rfl rfl hl.1 rfl (lv_room (Nat.le_of_ble_eq_true rfl)) dX4_ranks_107 ⟨by show _ ≤ 80; omega, by show _ ≤ 900; omega⟩) hX hT (fun _ q9 H locs _ _ hX hT => ?_)
        rw [← hQ9]
        exact W.widen (k := 80) (n := 900) (by omega) (by omega) (W.filt (fun locs1 hl1 => W.aret (v := .ref q9) hx hb hr (Or.inl ⟨_, rfl⟩) (Or.inr ⟨_, rfl⟩) (fun t9 ht9 hW9 => ⟨⟨S, _, rfl, (by rw [← hS0]; exact hK), hX.P ht9 hW9⟩, (hX.2.2.2.F ht9).X⟩) (free_X hX.2.2.2 hl1) dX4_ranks_110))
      · skip
        refine lv_iload_n hx hb dX4_ranks_46 rfl (lv_at hl 1 rfl) ?_
        refine kb_if_eq (tgt := 62) hx hb dX4_ranks_47 (by decide) (fun k_2 => ?_) (fun k_2 => ?_)
        · skip
          refine lv_iconst (v := nI 0) hx hb dX4_ranks_62 (by decide) ?_
          refine lv_istore (lv' := [(8, .int (nI 0)), (0, .ref (ad 57)), (3, .int (bI z)), (5, .ref (ad (24 + 5 * j))), (6, .ref a9), (7, .int (nI y))]) hx hb dX4_ranks_63 hl (by decide) rfl (fun ls hl => ?_)
          refine lv_aload hx hb dX4_ranks_65 (lv_at hl 4 rfl) ?_
          have hcb := cap_b (q := n1 + 1) (cp := c1) (Q := 160) (by omega) (by omega)
          refine kt_gap (sl := 4) 160 (va_runS (As := [.ref a9]) (rest := []) ⟨hx, hb, hml, hown, hts⟩ (m_X4_appendGap l dC dI cB s.heap.size a9 b1 n1 c1 f1 (by omega) (by omega) hf (by omega) (by omega)) (cwS 1 hts gX4_ranks_X4_appendGap rfl rfl rfl (by decide +kernel) ⟨Nat.le_of_ble_eq_true rfl, Nat.le_of_ble_eq_true rfl⟩) (hT.preS hX) rfl rfl hl.1 rfl (lv_room (Nat.le_of_ble_eq_true rfl)) dX4_ranks_67 ⟨by show _ ≤ 80; omega, by show _ ≤ 900; have := gm_pot (n1 + 1) c1; omega⟩) hX hT (by omega) (by omega) (fun b_3 n_3 c_3 f_3 H locs hX hT hf _ _ _ _ => ?_)
          refine lv_aload hx hb dX4_ranks_70 (lv_at hl 4 rfl) ?_
          refine lv_aload hx hb dX4_ranks_72 (lv_at hl 3 rfl) ?_
          refine lv_aload_n hx hb dX4_ranks_74 rfl (lv_at hl 1 rfl) ?_
          refine kx_gspareRow hx hb hts hin4 hown hX (hts (.fieldLink RX4 36 "Orderlattice" "spareRow" "LOrderlattice$Row;") (tm 453 (by decide +kernel) rfl)) dX4_ranks_75 ?_
          refine lv_iload hx hb dX4_ranks_78 (lv_at hl 0 rfl) ?_
          refine kx_cr (v := nI (((S.1 4).1) 0)) (va_runV (As := [.int (nI 0)]) (rest := [.ref (ad (24 + 5 * j)), .ref a9]) ⟨hx, hb, hml, hown, hts⟩ (m_X2_valueOn l dC dI ad S 4 0 (by omega) (by omega)) (cwV 1 hts gX4_ranks_X2_valueOn rfl rfl rfl hdX2_valueOn_1 ⟨Nat.le_of_ble_eq_true rfl, Nat.le_of_ble_eq_true rfl⟩) (hX.preRow (by omega)) rfl rfl hl.1 rfl (lv_room (Nat.le_of_ble_eq_true rfl)) dX4_ranks_80 ⟨by show _ ≤ 80; omega, by show _ ≤ 900; omega⟩) (fun _ h => h) ?_
          have hv9 := (hI.1 4 (by decide)).2 0 (by omega)
          have hrk := ordOK.rnk (hI.2 j (by omega)) hv9.1
          have hd9 := dg2 (v := (S.2.1 j).2.2.2.1 ((S.1 4).1 0)) (by omega)
          refine kx_cr (v := nI (((S.2.1 j).2.2.2.1) (((S.1 4).1) 0))) (va_runV (As := [.int (nI (((S.1 4).1) 0))]) (rest := [.ref a9]) ⟨hx, hb, hml, hown, hts⟩ (m_X1_rankOf l dC dI ad S j (((S.1 4).1) 0) (by omega) (by omega)) (cwV 1 hts gX4_ranks_X1_rankOf rfl rfl rfl hdX1_rankOf_1 ⟨Nat.le_of_ble_eq_true rfl, Nat.le_of_ble_eq_true rfl⟩) (hX.preOrd (by omega)) rfl rfl hl.1 rfl (lv_room (Nat.le_of_ble_eq_true rfl)) dX4_ranks_83 ⟨by show _ ≤ 80; omega, by show _ ≤ 900; omega⟩) (fun _ h => h) ?_
          have hcb := cap_b (q := n_3 + sb_dg (((S.2.1 j).2.2.2.1) (((S.1 4).1) 0))) (cp := c_3) (Q := 160) (by omega) (by omega)
          refine kt_app (sl := 4) (n2 := n_3 + sb_dg (((S.2.1 j).2.2.2.1) (((S.1 4).1) 0))) 160 (va_runV (As := [.int (nI (((S.2.1 j).2.2.2.1) (((S.1 4).1) 0)))]) (rest := []) ⟨hx, hb, hml, hown, hts⟩ (m_J4_append_bf812 l dC dI cB s.heap.size a9 b_3 n_3 c_3 f_3 (by omega) (by omega) hf (((S.2.1 j).2.2.2.1) (((S.1 4).1) 0)) (by omega) (by omega)) (cwV 1 hts gX4_ranks_J4_append_bf812 rfl rfl rfl hdJ4_append_bf812_1 ⟨Nat.le_of_ble_eq_true rfl, Nat.le_of_ble_eq_true rfl⟩) (hT.preV hX (ci := 1) (q := (RJ4, TJ4, 4)) rfl 0 rfl) rfl rfl hl.1 rfl (lv_room (Nat.le_of_ble_eq_true rfl)) dX4_ranks_86 ⟨by show _ ≤ 80; omega, by show _ ≤ 900; have := gm_pot (n_3 + sb_dg (((S.2.1 j).2.2.2.1) (((S.1 4).1) 0))) c_3; omega⟩) hX hT (by omega) (by omega) (fun b_4 c_4 f_4 H locs hX hT hf _ _ _ => ?_)
          refine lv_pop hx hb dX4_ranks_89 rfl ?_
          refine lv_aload_n hx hb dX4_ranks_90 rfl (lv_at hl 1 rfl) ?_
          refine kx_gspareRow hx hb hts hin4 hown hX (hts (.fieldLink RX4 36 "Orderlattice" "spareRow" "LOrderlattice$Row;") (tm 453 (by decide +kernel) rfl)) dX4_ranks_91 ?_
          refine lv_iload hx hb dX4_ranks_94 (lv_at hl 0 rfl) ?_
          refine kt_x (va_runV (As := [.int (nI 0)]) (rest := []) ⟨hx, hb, hml, hown, hts⟩ (m_X2_remove l dC dI ad S 4 0 (by omega) (hI.1 4 (by decide)).1 (by omega)) (cwV 1 hts gX4_ranks_X2_remove rfl rfl rfl hdX2_remove_1 ⟨Nat.le_of_ble_eq_true rfl, Nat.le_of_ble_eq_true rfl⟩) (hX.preRow (by omega)) rfl rfl hl.1 rfl (lv_room (Nat.le_of_ble_eq_true rfl)) dX4_ranks_96 ⟨by show _ ≤ 80; omega, by show _ ≤ 900; omega⟩) hX hT (fun S3 H locs hw hX hT => ?_)
          have hI3 : InvX S3 := by rw [hw]; exact InvX_row hI (rowOK_rem (hI.1 4 (by decide)) (by omega))
          have hK3 : KR S0 S3 := by rw [hw]; exact KR_row hK (rowOK_rem (hI.1 4 (by decide)) (by omega))
          have hn3 : (S3.1 4).2.2 = (S.1 4).2.2 - 1 := by rw [hw, xR_row]
          clear hw
          refine lv_iinc (v := nI (y - 1)) (lv' := [(7, .int (nI (y - 1))), (8, .int (nI 0)), (0, .ref (ad 57)), (3, .int (bI z)), (5, .ref (ad (24 + 5 * j))), (6, .ref a9)]) hx hb dX4_ranks_99 hl (k := 5) rfl (kn_dec (by omega)) (by decide) rfl (fun ls hl => ?_)
          refine lv_goto (tgt := 41) hx hb dX4_ranks_102 (by decide) ?_
          refine W.widen (k := 2 + 2 * (16 - (y - 1))) (n := 4 + 2 * c_4) (by omega) (by omega) ?_
          exact ih41  S3 (y - 1) b_4 (n_3 + sb_dg (((S.2.1 j).2.2.2.1) (((S.1 4).1) 0))) c_4 f_4 hI3 hK3 ⟨by omega, by omega⟩ (by omega) (by omega) hf _ _ (by omega) hX hT _ (lv_sub hl [2, 3, 4, 5, 0] rfl)
        · skip
          refine lv_aload_n hx hb dX4_ranks_50 rfl (lv_at hl 0 rfl) ?_
          refine kx_gspareRow hx hb hts hin4 hown hX (hts (.fieldLink RX4 36 "Orderlattice" "spareRow" "LOrderlattice$Row;") (tm 453 (by decide +kernel) rfl)) dX4_ranks_51 ?_
          refine lv_aload hx hb dX4_ranks_54 (lv_at hl 2 rfl) ?_
          refine kx_cr (v := (oI (bestB (fun _ => true) (fun a b => decide ((S.2.1 j).2.2.1 ((S.1 4).1 a) < (S.2.1 j).2.2.1 ((S.1 4).1 b))) (S.1 4).2.2))) (va_runV (As := [.ref (ad (24 + 5 * j))]) (rest := []) ⟨hx, hb, hml, hown, hts⟩ (m_X2_firstPlaceBy l dC dI ad S 4 j (by omega) (by omega) (hI.1 4 (by omega)) (hI.2 j (by omega))) (cwV 1 hts gX4_ranks_X2_firstPlaceBy rfl rfl rfl hdX2_firstPlaceBy_1 ⟨Nat.le_of_ble_eq_true rfl, Nat.le_of_ble_eq_true rfl⟩) (hX.preRow (by omega)) rfl rfl hl.1 rfl (lv_room (Nat.le_of_ble_eq_true rfl)) dX4_ranks_56 ⟨by show _ ≤ 80; omega, by show _ ≤ 900; omega⟩) (fun _ h => h) ?_
          obtain ⟨bb, hbb⟩ := bestB_some (lt := (fun a b => decide ((S.2.1 j).2.2.1 ((S.1 4).1 a) < (S.2.1 j).2.2.1 ((S.1 4).1 b)))) (show 0 < (S.1 4).2.2 by omega)
          have hb9 := (bestB_lt hbb).1
          rw [hbb]
          refine lv_goto (tgt := 63) hx hb dX4_ranks_59 (by decide) ?_
          refine lv_istore (lv' := [(8, .int (nI bb)), (0, .ref (ad 57)), (3, .int (bI z)), (5, .ref (ad (24 + 5 * j))), (6, .ref a9), (7, .int (nI y))]) hx hb dX4_ranks_63 hl (by decide) rfl (fun ls hl => ?_)
          refine lv_aload hx hb dX4_ranks_65 (lv_at hl 4 rfl) ?_
          have hcb := cap_b (q := n1 + 1) (cp := c1) (Q := 160) (by omega) (by omega)
          refine kt_gap (sl := 4) 160 (va_runS (As := [.ref a9]) (rest := []) ⟨hx, hb, hml, hown, hts⟩ (m_X4_appendGap l dC dI cB s.heap.size a9 b1 n1 c1 f1 (by omega) (by omega) hf (by omega) (by omega)) (cwS 1 hts gX4_ranks_X4_appendGap rfl rfl rfl (by decide +kernel) ⟨Nat.le_of_ble_eq_true rfl, Nat.le_of_ble_eq_true rfl⟩) (hT.preS hX) rfl rfl hl.1 rfl (lv_room (Nat.le_of_ble_eq_true rfl)) dX4_ranks_67 ⟨by show _ ≤ 80; omega, by show _ ≤ 900; have := gm_pot (n1 + 1) c1; omega⟩) hX hT (by omega) (by omega) (fun b_5 n_5 c_5 f_5 H locs hX hT hf _ _ _ _ => ?_)
          refine lv_aload hx hb dX4_ranks_70 (lv_at hl 4 rfl) ?_
          refine lv_aload hx hb dX4_ranks_72 (lv_at hl 3 rfl) ?_
          refine lv_aload_n hx hb dX4_ranks_74 rfl (lv_at hl 1 rfl) ?_
          refine kx_gspareRow hx hb hts hin4 hown hX (hts (.fieldLink RX4 36 "Orderlattice" "spareRow" "LOrderlattice$Row;") (tm 453 (by decide +kernel) rfl)) dX4_ranks_75 ?_
          refine lv_iload hx hb dX4_ranks_78 (lv_at hl 0 rfl) ?_
          refine kx_cr (v := nI (((S.1 4).1) bb)) (va_runV (As := [.int (nI bb)]) (rest := [.ref (ad (24 + 5 * j)), .ref a9]) ⟨hx, hb, hml, hown, hts⟩ (m_X2_valueOn l dC dI ad S 4 bb (by omega) (by omega)) (cwV 1 hts gX4_ranks_X2_valueOn rfl rfl rfl hdX2_valueOn_1 ⟨Nat.le_of_ble_eq_true rfl, Nat.le_of_ble_eq_true rfl⟩) (hX.preRow (by omega)) rfl rfl hl.1 rfl (lv_room (Nat.le_of_ble_eq_true rfl)) dX4_ranks_80 ⟨by show _ ≤ 80; omega, by show _ ≤ 900; omega⟩) (fun _ h => h) ?_
          have hv9 := (hI.1 4 (by decide)).2 bb (by omega)
          have hrk := ordOK.rnk (hI.2 j (by omega)) hv9.1
          have hd9 := dg2 (v := (S.2.1 j).2.2.2.1 ((S.1 4).1 bb)) (by omega)
          refine kx_cr (v := nI (((S.2.1 j).2.2.2.1) (((S.1 4).1) bb))) (va_runV (As := [.int (nI (((S.1 4).1) bb))]) (rest := [.ref a9]) ⟨hx, hb, hml, hown, hts⟩ (m_X1_rankOf l dC dI ad S j (((S.1 4).1) bb) (by omega) (by omega)) (cwV 1 hts gX4_ranks_X1_rankOf rfl rfl rfl hdX1_rankOf_1 ⟨Nat.le_of_ble_eq_true rfl, Nat.le_of_ble_eq_true rfl⟩) (hX.preOrd (by omega)) rfl rfl hl.1 rfl (lv_room (Nat.le_of_ble_eq_true rfl)) dX4_ranks_83 ⟨by show _ ≤ 80; omega, by show _ ≤ 900; omega⟩) (fun _ h => h) ?_
          have hcb := cap_b (q := n_5 + sb_dg (((S.2.1 j).2.2.2.1) (((S.1 4).1) bb))) (cp := c_5) (Q := 160) (by omega) (by omega)
          refine kt_app (sl := 4) (n2 := n_5 + sb_dg (((S.2.1 j).2.2.2.1) (((S.1 4).1) bb))) 160 (va_runV (As := [.int (nI (((S.2.1 j).2.2.2.1) (((S.1 4).1) bb)))]) (rest := []) ⟨hx, hb, hml, hown, hts⟩ (m_J4_append_bf812 l dC dI cB s.heap.size a9 b_5 n_5 c_5 f_5 (by omega) (by omega) hf (((S.2.1 j).2.2.2.1) (((S.1 4).1) bb)) (by omega) (by omega)) (cwV 1 hts gX4_ranks_J4_append_bf812 rfl rfl rfl hdJ4_append_bf812_1 ⟨Nat.le_of_ble_eq_true rfl, Nat.le_of_ble_eq_true rfl⟩) (hT.preV hX (ci := 1) (q := (RJ4, TJ4, 4)) rfl 0 rfl) rfl rfl hl.1 rfl (lv_room (Nat.le_of_ble_eq_true rfl)) dX4_ranks_86 ⟨by show _ ≤ 80; omega, by show _ ≤ 900; have := gm_pot (n_5 + sb_dg (((S.2.1 j).2.2.2.1) (((S.1 4).1) bb))) c_5; omega⟩) hX hT (by omega) (by omega) (fun b_6 c_6 f_6 H locs hX hT hf _ _ _ => ?_)
          refine lv_pop hx hb dX4_ranks_89 rfl ?_
          refine lv_aload_n hx hb dX4_ranks_90 rfl (lv_at hl 1 rfl) ?_
          refine kx_gspareRow hx hb hts hin4 hown hX (hts (.fieldLink RX4 36 "Orderlattice" "spareRow" "LOrderlattice$Row;") (tm 453 (by decide +kernel) rfl)) dX4_ranks_91 ?_
          refine lv_iload hx hb dX4_ranks_94 (lv_at hl 0 rfl) ?_
          refine kt_x (va_runV (As := [.int (nI bb)]) (rest := []) ⟨hx, hb, hml, hown, hts⟩ (m_X2_remove l dC dI ad S 4 bb (by omega) (hI.1 4 (by decide)).1 (by omega)) (cwV 1 hts gX4_ranks_X2_remove rfl rfl rfl hdX2_remove_1 ⟨Nat.le_of_ble_eq_true rfl, Nat.le_of_ble_eq_true rfl⟩) (hX.preRow (by omega)) rfl rfl hl.1 rfl (lv_room (Nat.le_of_ble_eq_true rfl)) dX4_ranks_96 ⟨by show _ ≤ 80; omega, by show _ ≤ 900; omega⟩) hX hT (fun S3 H locs hw hX hT => ?_)
          have hI3 : InvX S3 := by rw [hw]; exact InvX_row hI (rowOK_rem (hI.1 4 (by decide)) (by omega))
          have hK3 : KR S0 S3 := by rw [hw]; exact KR_row hK (rowOK_rem (hI.1 4 (by decide)) (by omega))
          have hn3 : (S3.1 4).2.2 = (S.1 4).2.2 - 1 := by rw [hw, xR_row]
          clear hw
          refine lv_iinc (v := nI (y - 1)) (lv' := [(7, .int (nI (y - 1))), (8, .int (nI bb)), (0, .ref (ad 57)), (3, .int (bI z)), (5, .ref (ad (24 + 5 * j))), (6, .ref a9)]) hx hb dX4_ranks_99 hl (k := 5) rfl (kn_dec (by omega)) (by decide) rfl (fun ls hl => ?_)
          refine lv_goto (tgt := 41) hx hb dX4_ranks_102 (by decide) ?_
          refine W.widen (k := 2 + 2 * (16 - (y - 1))) (n := 4 + 2 * c_6) (by omega) (by omega) ?_
          exact ih41  S3 (y - 1) b_6 (n_5 + sb_dg (((S.2.1 j).2.2.2.1) (((S.1 4).1) bb))) c_6 f_6 hI3 hK3 ⟨by omega, by omega⟩ (by omega) (by omega) hf _ _ (by omega) hX hT _ (lv_sub hl [2, 3, 4, 5, 0] rfl)
  refine W.widen (k := 2 + 2 * (16 - ((S2.1 4).2.2))) (n := 4 + 2 * 16) (by omega) (by omega) ?_
  exact loop41 ((S2.1 4).2.2 + 1) S2 ((S2.1 4).2.2) b0 0 16 (fun _ => 0) hI2 hK ⟨rfl, hn3⟩ (by omega) (by omega) hf _ _ (by omega) hX hT _ (lv_sub hl [4, 7, 2, 1, 0] rfl)
