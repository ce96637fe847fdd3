set_option maxHeartbeats 4000000 in
set_option maxRecDepth 100000 in
theorem u_X4_isSound (l : Launch) (dC : Nat → ClassId) (dI : Nat → Nat → Nat) (ad : Nat → Nat) (S : XS) (hI : InvX S) (h5 : ∀ j, j < 4 → (S.2.1 j).2.2.2.2.1 ≤ 5) : Met l yX4_isSound wsX4_isSound ({ frames := 5, cells := 0, slots := 0, locals := 129 } : Room) (va_Pc [.ref (ad 57)] (PX dC dI ad S)) (va_Qi (fun r S' => r = bI true ∧ KA S S') (PX dC dI ad) (AX ad)) 0 0 (AX ad) := by
  refine Met.ofW (cc := cX4_isSound) (maxL := 7) (ret := (some .boolean)) pl_X4 rfl ?_
  intro p e s m args below meth c s₁ B hml hv
  obtain ⟨rfl, hPX⟩ := hv
  have hx := B.exec
  have hb := B.bytes
  have hr := B.returns
  have hts := atoms_spec (ws := wsX4_isSound) B.pre
  have hown : s.vm.findClass RX4 = some m.cls := findClass_of_methodNamed B.named
  have hlocks := B.notSynchronized
  have hin4 : ∀ w ∈ u_ws RX4 TX4 9, w ∈ wsX4_isSound := tu 1328 (by decide +kernel) rfl
  have hX := WX.of hPX
  have hl := lv_entry ([.ref (ad 57)]) (n := 7) (Nat.le_of_ble_eq_true rfl)
  rw [lg_entry_eq]
  generalize (lg_sl ([.ref (ad 57)]) ++ List.replicate (7 - (lg_sl ([.ref (ad 57)])).length) Slot.unset).toArray = ls at hl ⊢
  have hl : lv_has ls 7 [(0, .ref (ad 57))] := hl
  show W p l e ({ frames := 5, cells := 0, slots := 0, locals := 129 } : Room) s m ([.ref (ad 57)]).toArray below meth c s.heap [] 0 0 (MQ below (va_Qi (fun r S' => r = bI true ∧ KA S S') (PX dC dI ad) (AX ad)) ([.ref (ad 57)]).toArray s 0 0 (AX ad)) (F0 m 0 ls [])
  have hK := KA_refl hI
  refine lv_iconst (v := bI true) hx hb dX4_isSound_0 (by decide) ?_
  refine lv_istore_n (lv' := [(1, .int (bI true)), (0, .ref (ad 57))]) hx hb dX4_isSound_1 rfl hl (by decide) rfl (fun ls hl => ?_)
  refine lv_iconst (v := nI 0) hx hb dX4_isSound_2 (by decide) ?_
  refine lv_istore_n (lv' := [(2, .int (nI 0)), (1, .int (bI true)), (0, .ref (ad 57))]) hx hb dX4_isSound_3 rfl hl (by decide) rfl (fun ls hl => ?_)
  have loop4 : ∀ (fuel : Nat) (S1 : XS) (a : Nat) (hK : KA S S1) (ha : a ≤ 4) (H : Heap) (locs : List Loc), 4 - a < fuel → WX dC dI ad S1 (AX ad) s H locs → ∀ ls : Array Slot, lv_has ls 7 [(0, .ref (ad 57)), (1, .int (bI true)), (2, .int (nI a))] → W p l e ({ frames := 5, cells := 0, slots := 0, locals := 129 } : Room) s m ([.ref (ad 57)]).toArray below meth c H locs 0 0 (MQ below (va_Qi (fun r S' => r = bI true ∧ KA S S') (PX dC dI ad) (AX ad)) ([.ref (ad 57)]).toArray s 0 0 (AX ad)) (F0 m 4 ls []) := by
    intro fuel
    induction fuel with
    | zero => intro S1 a hK ha H locs hf; exact absurd hf (Nat.not_lt_zero _)
    | succ fuel ih4 =>
      intro S1 a hK ha H locs hf hX ls hl
      refine lv_iload_n hx hb dX4_isSound_4 rfl (lv_at hl 1 rfl) ?_
      refine kb_if_eq (tgt := 212) hx hb dX4_isSound_5 (by decide) (fun k_1 => absurd k_1 (by decide)) (fun k_1 => ?_)
      refine lv_iload_n hx hb dX4_isSound_8 rfl (lv_at hl 2 rfl) ?_
      refine lv_iconst (v := nI 4) hx hb dX4_isSound_9 (by decide) ?_
      refine kn_icmp_ge (tgt := 212) hx hb (by omega) (by omega) dX4_isSound_10 (by decide) (fun k_2 => ?_) (fun k_2 => ?_)
      · skip
        refine lv_iload_n hx hb dX4_isSound_212 rfl (lv_at hl 1 rfl) ?_
        exact W.zret (v := bI true) hx hb hr (bI_narrow _) (fun t9 ht9 hW9 => ⟨⟨_, S1, rfl, ⟨rfl, hK⟩, hX.P ht9 hW9⟩, hX.2.2.2.F ht9⟩) hX.2.2.2.2.2 dX4_isSound_213
      · skip
        refine lv_aload_n hx hb dX4_isSound_13 rfl (lv_at hl 0 rfl) ?_
        refine lv_iload_n hx hb dX4_isSound_14 rfl (lv_at hl 2 rfl) ?_
        refine va_csr (va_Run.run (va_runV (As := [.int (nI a)]) (rest := []) ⟨hx, hb, hml, hown, hts⟩ (m_X4_orderAt l dC dI ad S1 a (by omega)) (cwV 1 hts gX4_isSound_X4_orderAt rfl rfl rfl hdX4_orderAt_1 ⟨Nat.le_of_ble_eq_true rfl, Nat.le_of_ble_eq_true rfl⟩) (hX.preTop 57 6 (by decide) (by decide) rfl rfl) rfl rfl hl.1 rfl (lv_room (Nat.le_of_ble_eq_true rfl)) dX4_isSound_15 ⟨Nat.le_of_ble_eq_true rfl, Nat.le_of_ble_eq_true rfl⟩)) (fun k_ hk_ => ?_)
        rw [hk_]
        refine lv_astore_n (lv' := [(3, .ref (ad (24 + 5 * a))), (0, .ref (ad 57)), (1, .int (bI true)), (2, .int (nI a))]) hx hb dX4_isSound_18 rfl hl (by decide) rfl (fun ls hl => ?_)
        refine lv_aload_n hx hb dX4_isSound_19 rfl (lv_at hl 1 rfl) ?_
        refine kx_gauditor hx hb hts hin4 hown hX (hts (.fieldLink RX4 31 "Orderlattice" "auditor" "LOrderlattice$Auditor;") (tm 452 (by decide +kernel) rfl)) dX4_isSound_20 ?_
        refine lv_aload_n hx hb dX4_isSound_23 rfl (lv_at hl 0 rfl) ?_
        refine kx_cr (v := bI true) (va_runV (As := [.ref (ad (24 + 5 * a))]) (rest := []) ⟨hx, hb, hml, hown, hts⟩ (m_X0_areSignsTurned l dC dI ad S1 a (by omega) (hK.1.2 a (by omega))) (cwV 1 hts gX4_isSound_X0_areSignsTurned rfl rfl rfl hdX0_areSignsTurned_1 ⟨Nat.le_of_ble_eq_true rfl, Nat.le_of_ble_eq_true rfl⟩) (hX.preTop 56 2 (by decide) (by decide) rfl rfl) rfl rfl hl.1 rfl (lv_room (Nat.le_of_ble_eq_true rfl)) dX4_isSound_24 ⟨Nat.le_of_ble_eq_true rfl, Nat.le_of_ble_eq_true rfl⟩) (fun _ h => h) ?_
        refine kb_if_eq (tgt := 45) hx hb dX4_isSound_27 (by decide) (fun k_3 => absurd k_3 (by decide)) (fun k_3 => ?_)
        refine lv_aload_n hx hb dX4_isSound_30 rfl (lv_at hl 1 rfl) ?_
        refine kx_gauditor hx hb hts hin4 hown hX (hts (.fieldLink RX4 31 "Orderlattice" "auditor" "LOrderlattice$Auditor;") (tm 452 (by decide +kernel) rfl)) dX4_isSound_31 ?_
        refine lv_aload_n hx hb dX4_isSound_34 rfl (lv_at hl 0 rfl) ?_
        refine kx_cr (v := bI true) (va_runV (As := [.ref (ad (24 + 5 * a))]) (rest := []) ⟨hx, hb, hml, hown, hts⟩ (m_X0_areRanksAsClasses l dC dI ad S1 a (by omega) (hK.1.2 a (by omega))) (cwV 1 hts gX4_isSound_X0_areRanksAsClasses rfl rfl rfl hdX0_areRanksAsClasses_1 ⟨Nat.le_of_ble_eq_true rfl, Nat.le_of_ble_eq_true rfl⟩) (hX.preTop 56 2 (by decide) (by decide) rfl rfl) rfl rfl hl.1 rfl (lv_room (Nat.le_of_ble_eq_true rfl)) dX4_isSound_35 ⟨Nat.le_of_ble_eq_true rfl, Nat.le_of_ble_eq_true rfl⟩) (fun _ h => h.trans (congrArg bI (decide_eq_true (rank_all (hK.1.2 a (by omega)))))) ?_
        refine kb_if_eq (tgt := 45) hx hb dX4_isSound_38 (by decide) (fun k_4 => absurd k_4 (by decide)) (fun k_4 => ?_)
        refine lv_iconst (v := bI true) hx hb dX4_isSound_41 (by decide) ?_
        refine lv_goto (tgt := 46) hx hb dX4_isSound_42 (by decide) ?_
        refine lv_istore_n (lv' := [(1, .int (bI true)), (3, .ref (ad (24 + 5 * a))), (0, .ref (ad 57)), (2, .int (nI a))]) hx hb dX4_isSound_46 rfl hl (by decide) rfl (fun ls hl => ?_)
        refine lv_iconst (v := nI 0) hx hb dX4_isSound_47 (by decide) ?_
        refine lv_istore (lv' := [(4, .int (nI 0)), (1, .int (bI true)), (3, .ref (ad (24 + 5 * a))), (0, .ref (ad 57)), (2, .int (nI a))]) hx hb dX4_isSound_48 hl (by decide) rfl (fun ls hl => ?_)
        have loop50 : ∀ (fuel : Nat) (S2 : XS) (b9 : Nat) (hK : KA S S2) (hb9 : b9 ≤ 3) (H : Heap) (locs : List Loc), 3 - b9 < fuel → WX dC dI ad S2 (AX ad) s H locs → ∀ ls : Array Slot, lv_has ls 7 [(0, .ref (ad 57)), (1, .int (bI true)), (2, .int (nI a)), (3, .ref (ad (24 + 5 * a))), (4, .int (nI b9))] → W p l e ({ frames := 5, cells := 0, slots := 0, locals := 129 } : Room) s m ([.ref (ad 57)]).toArray below meth c H locs 0 0 (MQ below (va_Qi (fun r S' => r = bI true ∧ KA S S') (PX dC dI ad) (AX ad)) ([.ref (ad 57)]).toArray s 0 0 (AX ad)) (F0 m 50 ls []) := by
          intro fuel
          induction fuel with
          | zero => intro S2 b9 hK hb9 H locs hf; exact absurd hf (Nat.not_lt_zero _)
          | succ fuel ih50 =>
            intro S2 b9 hK hb9 H locs hf hX ls hl
            refine lv_iload_n hx hb dX4_isSound_50 rfl (lv_at hl 1 rfl) ?_
            refine kb_if_eq (tgt := 132) hx hb dX4_isSound_51 (by decide) (fun k_5 => absurd k_5 (by decide)) (fun k_5 => ?_)
            refine lv_iload hx hb dX4_isSound_54 (lv_at hl 4 rfl) ?_
            refine lv_iconst (v := nI 3) hx hb dX4_isSound_56 (by decide) ?_
            refine kn_icmp_ge (tgt := 132) hx hb (by omega) (by omega) dX4_isSound_57 (by decide) (fun k_6 => ?_) (fun k_6 => ?_)
            · skip
              refine lv_iconst (v := nI 0) hx hb dX4_isSound_132 (by decide) ?_
              refine lv_istore (lv' := [(4, .int (nI 0)), (0, .ref (ad 57)), (1, .int (bI true)), (2, .int (nI a)), (3, .ref (ad (24 + 5 * a)))]) hx hb dX4_isSound_133 hl (by decide) rfl (fun ls hl => ?_)
              have loop135 : ∀ (fuel : Nat) (S3 : XS) (c9 : Nat) (hK : KA S S3) (hc9 : c9 ≤ 4) (H : Heap) (locs : List Loc), 4 - c9 < fuel → WX dC dI ad S3 (AX ad) s H locs → ∀ ls : Array Slot, lv_has ls 7 [(0, .ref (ad 57)), (1, .int (bI true)), (2, .int (nI a)), (3, .ref (ad (24 + 5 * a))), (4, .int (nI c9))] → W p l e ({ frames := 5, cells := 0, slots := 0, locals := 129 } : Room) s m ([.ref (ad 57)]).toArray below meth c H locs 0 0 (MQ below (va_Qi (fun r S' => r = bI true ∧ KA S S') (PX dC dI ad) (AX ad)) ([.ref (ad 57)]).toArray s 0 0 (AX ad)) (F0 m 135 ls []) := by
                intro fuel
                induction fuel with
                | zero => intro S3 c9 hK hc9 H locs hf; exact absurd hf (Nat.not_lt_zero _)
                | succ fuel ih135 =>
                  intro S3 c9 hK hc9 H locs hf hX ls hl
                  refine lv_iload_n hx hb dX4_isSound_135 rfl (lv_at hl 1 rfl) ?_
                  refine kb_if_eq (tgt := 206) hx hb dX4_isSound_136 (by decide) (fun k_7 => absurd k_7 (by decide)) (fun k_7 => ?_)
                  refine lv_iload hx hb dX4_isSound_139 (lv_at hl 4 rfl) ?_
                  refine lv_iconst (v := nI 4) hx hb dX4_isSound_141 (by decide) ?_
                  refine kn_icmp_ge (tgt := 206) hx hb (by omega) (by omega) dX4_isSound_142 (by decide) (fun k_8 => ?_) (fun k_8 => ?_)
                  · skip
                    refine lv_iinc (v := nI (a + 1)) (lv' := [(2, .int (nI (a + 1))), (0, .ref (ad 57)), (1, .int (bI true)), (3, .ref (ad (24 + 5 * a))), (4, .int (nI c9))]) hx hb dX4_isSound_206 hl (k := 2) rfl (nI_1 a) (by decide) rfl (fun ls hl => ?_)
                    refine lv_goto (tgt := 4) hx hb dX4_isSound_209 (by decide) ?_
                    exact ih4  S3 (a + 1) hK (by omega) _ _ (by omega) hX _ (lv_sub hl [1, 2, 0] rfl)
                  · skip
                    refine lv_aload_n hx hb dX4_isSound_145 rfl (lv_at hl 0 rfl) ?_
                    refine lv_iload hx hb dX4_isSound_146 (lv_at hl 4 rfl) ?_
                    refine va_csr (va_Run.run (va_runV (As := [.int (nI c9)]) (rest := []) ⟨hx, hb, hml, hown, hts⟩ (m_X4_orderAt l dC dI ad S3 c9 (by omega)) (cwV 1 hts gX4_isSound_X4_orderAt rfl rfl rfl hdX4_orderAt_1 ⟨Nat.le_of_ble_eq_true rfl, Nat.le_of_ble_eq_true rfl⟩) (hX.preTop 57 6 (by decide) (by decide) rfl rfl) rfl rfl hl.1 rfl (lv_room (Nat.le_of_ble_eq_true rfl)) dX4_isSound_148 ⟨Nat.le_of_ble_eq_true rfl, Nat.le_of_ble_eq_true rfl⟩)) (fun k_ hk_ => ?_)
                    rw [hk_]
                    refine lv_astore (lv' := [(5, .ref (ad (24 + 5 * c9))), (0, .ref (ad 57)), (1, .int (bI true)), (2, .int (nI a)), (3, .ref (ad (24 + 5 * a))), (4, .int (nI c9))]) hx hb dX4_isSound_151 hl (by decide) rfl (fun ls hl => ?_)
                    refine lv_aload_n hx hb dX4_isSound_153 rfl (lv_at hl 1 rfl) ?_
                    refine kx_gauditor hx hb hts hin4 hown hX (hts (.fieldLink RX4 31 "Orderlattice" "auditor" "LOrderlattice$Auditor;") (tm 452 (by decide +kernel) rfl)) dX4_isSound_154 ?_
                    refine lv_aload_n hx hb dX4_isSound_157 rfl (lv_at hl 4 rfl) ?_
                    refine lv_aload hx hb dX4_isSound_158 (lv_at hl 0 rfl) ?_
                    refine kx_ci (va_runV (As := [.ref (ad (24 + 5 * a)), .ref (ad (24 + 5 * c9))]) (rest := []) ⟨hx, hb, hml, hown, hts⟩ (u_X0_isRefiningSound l dC dI ad S3 a c9 (by omega) (by omega) hK.1 (by rw [hK.2.2.2 a (by omega)]; exact h5 a (by omega)) (by rw [hK.2.2.2 c9 (by omega)]; exact h5 c9 (by omega))) (cwV 2 hts gX4_isSound_X0_isRefiningSound rfl rfl rfl hdX0_isRefiningSound_2 ⟨Nat.le_of_ble_eq_true rfl, Nat.le_of_ble_eq_true rfl⟩) (hX.preTop 56 2 (by decide) (by decide) rfl rfl) rfl rfl hl.1 rfl (lv_room (Nat.le_of_ble_eq_true rfl)) dX4_isSound_160 ⟨Nat.le_of_ble_eq_true rfl, Nat.le_of_ble_eq_true rfl⟩) hX (fun _ h => h) (fun r_ S_9 H locs hw hX => ?_)
                    obtain ⟨rfl, hK9⟩ := hw
                    replace hK := KA_trans hK hK9
                    refine lv_istore_n (lv' := [(1, .int (bI true)), (5, .ref (ad (24 + 5 * c9))), (0, .ref (ad 57)), (2, .int (nI a)), (3, .ref (ad (24 + 5 * a))), (4, .int (nI c9))]) hx hb dX4_isSound_163 rfl hl (by decide) rfl (fun ls hl => ?_)
                    refine lv_iconst (v := nI 0) hx hb dX4_isSound_164 (by decide) ?_
                    refine lv_istore (lv' := [(6, .int (nI 0)), (1, .int (bI true)), (5, .ref (ad (24 + 5 * c9))), (0, .ref (ad 57)), (2, .int (nI a)), (3, .ref (ad (24 + 5 * a))), (4, .int (nI c9))]) hx hb dX4_isSound_165 hl (by decide) rfl (fun ls hl => ?_)
                    have loop167 : ∀ (fuel : Nat) (S4 : XS) (d9 : Nat) (hK : KA S S4) (hd9 : d9 ≤ 3) (H : Heap) (locs : List Loc), 3 - d9 < fuel → WX dC dI ad S4 (AX ad) s H locs → ∀ ls : Array Slot, lv_has ls 7 [(0, .ref (ad 57)), (1, .int (bI true)), (2, .int (nI a)), (3, .ref (ad (24 + 5 * a))), (4, .int (nI c9)), (5, .ref (ad (24 + 5 * c9))), (6, .int (nI d9))] → W p l e ({ frames := 5, cells := 0, slots := 0, locals := 129 } : Room) s m ([.ref (ad 57)]).toArray below meth c H locs 0 0 (MQ below (va_Qi (fun r S' => r = bI true ∧ KA S S') (PX dC dI ad) (AX ad)) ([.ref (ad 57)]).toArray s 0 0 (AX ad)) (F0 m 167 ls []) := by
                      intro fuel
                      induction fuel with
                      | zero => intro S4 d9 hK hd9 H locs hf; exact absurd hf (Nat.not_lt_zero _)
                      | succ fuel ih167 =>
                        intro S4 d9 hK hd9 H locs hf hX ls hl
                        refine lv_iload_n hx hb dX4_isSound_167 rfl (lv_at hl 1 rfl) ?_
                        refine kb_if_eq (tgt := 200) hx hb dX4_isSound_168 (by decide) (fun k_10 => absurd k_10 (by decide)) (fun k_10 => ?_)
                        refine lv_iload hx hb dX4_isSound_171 (lv_at hl 6 rfl) ?_
                        refine lv_iconst (v := nI 3) hx hb dX4_isSound_173 (by decide) ?_
                        refine kn_icmp_ge (tgt := 200) hx hb (by omega) (by omega) dX4_isSound_174 (by decide) (fun k_11 => ?_) (fun k_11 => ?_)
                        · skip
                          refine lv_iinc (v := nI (c9 + 1)) (lv' := [(4, .int (nI (c9 + 1))), (0, .ref (ad 57)), (1, .int (bI true)), (2, .int (nI a)), (3, .ref (ad (24 + 5 * a))), (5, .ref (ad (24 + 5 * c9))), (6, .int (nI d9))]) hx hb dX4_isSound_200 hl (k := 4) rfl (nI_1 c9) (by decide) rfl (fun ls hl => ?_)
                          refine lv_goto (tgt := 135) hx hb dX4_isSound_203 (by decide) ?_
                          exact ih135  S4 (c9 + 1) hK (by omega) _ _ (by omega) hX _ (lv_sub hl [1, 2, 3, 4, 0] rfl)
                        · skip
                          refine lv_aload_n hx hb dX4_isSound_177 rfl (lv_at hl 0 rfl) ?_
                          refine kx_gauditor hx hb hts hin4 hown hX (hts (.fieldLink RX4 31 "Orderlattice" "auditor" "LOrderlattice$Auditor;") (tm 452 (by decide +kernel) rfl)) dX4_isSound_178 ?_
                          refine lv_aload_n hx hb dX4_isSound_181 rfl (lv_at hl 0 rfl) ?_
                          refine lv_iload hx hb dX4_isSound_182 (lv_at hl 6 rfl) ?_
                          refine va_csr (va_Run.run (va_runV (As := [.int (nI d9)]) (rest := [.ref (ad 56)]) ⟨hx, hb, hml, hown, hts⟩ (m_X4_rowAt l dC dI ad S4 d9 (by omega)) (cwV 1 hts gX4_isSound_X4_rowAt rfl rfl rfl hdX4_rowAt_1 ⟨Nat.le_of_ble_eq_true rfl, Nat.le_of_ble_eq_true rfl⟩) (hX.preTop 57 6 (by decide) (by decide) rfl rfl) rfl rfl hl.1 rfl (lv_room (Nat.le_of_ble_eq_true rfl)) dX4_isSound_184 ⟨Nat.le_of_ble_eq_true rfl, Nat.le_of_ble_eq_true rfl⟩)) (fun k_ hk_ => ?_)
                          rw [hk_]
                          refine lv_aload_n hx hb dX4_isSound_187 rfl (lv_at hl 3 rfl) ?_
                          refine lv_aload hx hb dX4_isSound_188 (lv_at hl 5 rfl) ?_
                          refine kx_ci (va_runV (As := [.ref (ad (3 * d9)), .ref (ad (24 + 5 * a)), .ref (ad (24 + 5 * c9))]) (rest := []) ⟨hx, hb, hml, hown, hts⟩ (u_X0_isProductAlike l dC dI ad S4 d9 a c9 (by omega) (by omega) (by omega) hK.1 (by rw [hK.2.2.2 a (by omega)]; exact h5 a (by omega)) (by rw [hK.2.2.2 c9 (by omega)]; exact h5 c9 (by omega))) (cwV 3 hts gX4_isSound_X0_isProductAlike rfl rfl rfl hdX0_isProductAlike_3 ⟨Nat.le_of_ble_eq_true rfl, Nat.le_of_ble_eq_true rfl⟩) (hX.preTop 56 2 (by decide) (by decide) rfl rfl) rfl rfl hl.1 rfl (lv_room (Nat.le_of_ble_eq_true rfl)) dX4_isSound_190 ⟨Nat.le_of_ble_eq_true rfl, Nat.le_of_ble_eq_true rfl⟩) hX (fun _ h => h) (fun r_ S_12 H locs hw hX => ?_)
                          obtain ⟨rfl, hK9⟩ := hw
                          replace hK := KA_trans hK hK9
                          refine lv_istore_n (lv' := [(1, .int (bI true)), (0, .ref (ad 57)), (2, .int (nI a)), (3, .ref (ad (24 + 5 * a))), (4, .int (nI c9)), (5, .ref (ad (24 + 5 * c9))), (6, .int (nI d9))]) hx hb dX4_isSound_193 rfl hl (by decide) rfl (fun ls hl => ?_)
                          refine lv_iinc (v := nI (d9 + 1)) (lv' := [(6, .int (nI (d9 + 1))), (1, .int (bI true)), (0, .ref (ad 57)), (2, .int (nI a)), (3, .ref (ad (24 + 5 * a))), (4, .int (nI c9)), (5, .ref (ad (24 + 5 * c9)))]) hx hb dX4_isSound_194 hl (k := 6) rfl (nI_1 d9) (by decide) rfl (fun ls hl => ?_)
                          refine lv_goto (tgt := 167) hx hb dX4_isSound_197 (by decide) ?_
                          exact ih167  S_12 (d9 + 1) hK (by omega) _ _ (by omega) hX _ (lv_sub hl [2, 1, 3, 4, 5, 6, 0] rfl)
                    exact loop167 (3 + 1) S_9 0 hK (by omega) _ _ (by omega) (WX.eqS rfl hX) _ (lv_sub hl [3, 1, 4, 5, 6, 2, 0] rfl)
              exact loop135 (4 + 1) S2 0 hK (by omega) _ _ (by omega) (WX.eqS rfl hX) _ (lv_sub hl [1, 2, 3, 4, 0] rfl)
            · skip
              refine lv_aload_n hx hb dX4_isSound_60 rfl (lv_at hl 0 rfl) ?_
              refine lv_iload hx hb dX4_isSound_61 (lv_at hl 4 rfl) ?_
              refine va_csr (va_Run.run (va_runV (As := [.int (nI b9)]) (rest := []) ⟨hx, hb, hml, hown, hts⟩ (m_X4_rowAt l dC dI ad S2 b9 (by omega)) (cwV 1 hts gX4_isSound_X4_rowAt rfl rfl rfl hdX4_rowAt_1 ⟨Nat.le_of_ble_eq_true rfl, Nat.le_of_ble_eq_true rfl⟩) (hX.preTop 57 6 (by decide) (by decide) rfl rfl) rfl rfl hl.1 rfl (lv_room (Nat.le_of_ble_eq_true rfl)) dX4_isSound_63 ⟨Nat.le_of_ble_eq_true rfl, Nat.le_of_ble_eq_true rfl⟩)) (fun k_ hk_ => ?_)
              rw [hk_]
              refine lv_astore (lv' := [(5, .ref (ad (3 * b9))), (0, .ref (ad 57)), (1, .int (bI true)), (2, .int (nI a)), (3, .ref (ad (24 + 5 * a))), (4, .int (nI b9))]) hx hb dX4_isSound_66 hl (by decide) rfl (fun ls hl => ?_)
              refine lv_aload_n hx hb dX4_isSound_68 rfl (lv_at hl 1 rfl) ?_
              refine kx_gauditor hx hb hts hin4 hown hX (hts (.fieldLink RX4 31 "Orderlattice" "auditor" "LOrderlattice$Auditor;") (tm 452 (by decide +kernel) rfl)) dX4_isSound_69 ?_
              refine lv_aload hx hb dX4_isSound_72 (lv_at hl 0 rfl) ?_
              refine lv_aload_n hx hb dX4_isSound_74 rfl (lv_at hl 4 rfl) ?_
              refine kx_ci (va_runV (As := [.ref (ad (3 * b9)), .ref (ad (24 + 5 * a))]) (rest := []) ⟨hx, hb, hml, hown, hts⟩ (u_X0_areWaysAgreed l dC dI ad S2 b9 a (by omega) (by omega) hK.1) (cwV 2 hts gX4_isSound_X0_areWaysAgreed rfl rfl rfl hdX0_areWaysAgreed_2 ⟨Nat.le_of_ble_eq_true rfl, Nat.le_of_ble_eq_true rfl⟩) (hX.preTop 56 2 (by decide) (by decide) rfl rfl) rfl rfl hl.1 rfl (lv_room (Nat.le_of_ble_eq_true rfl)) dX4_isSound_75 ⟨Nat.le_of_ble_eq_true rfl, Nat.le_of_ble_eq_true rfl⟩) hX (fun _ h => h) (fun r_ S_13 H locs hw hX => ?_)
              obtain ⟨rfl, hK9⟩ := hw
              replace hK := KA_trans hK hK9
              refine kb_if_eq (tgt := 124) hx hb dX4_isSound_78 (by decide) (fun k_14 => absurd k_14 (by decide)) (fun k_14 => ?_)
              refine lv_aload_n hx hb dX4_isSound_81 rfl (lv_at hl 1 rfl) ?_
              refine kx_gauditor hx hb hts hin4 hown hX (hts (.fieldLink RX4 31 "Orderlattice" "auditor" "LOrderlattice$Auditor;") (tm 452 (by decide +kernel) rfl)) dX4_isSound_82 ?_
              refine lv_aload hx hb dX4_isSound_85 (lv_at hl 0 rfl) ?_
              refine lv_aload_n hx hb dX4_isSound_87 rfl (lv_at hl 4 rfl) ?_
              refine kx_ci (va_runV (As := [.ref (ad (3 * b9)), .ref (ad (24 + 5 * a))]) (rest := []) ⟨hx, hb, hml, hown, hts⟩ (u_X0_staysSorted l dC dI ad S_13 b9 a (by omega) (by omega) hK.1) (cwV 2 hts gX4_isSound_X0_staysSorted rfl rfl rfl hdX0_staysSorted_2 ⟨Nat.le_of_ble_eq_true rfl, Nat.le_of_ble_eq_true rfl⟩) (hX.preTop 56 2 (by decide) (by decide) rfl rfl) rfl rfl hl.1 rfl (lv_room (Nat.le_of_ble_eq_true rfl)) dX4_isSound_88 ⟨Nat.le_of_ble_eq_true rfl, Nat.le_of_ble_eq_true rfl⟩) hX (fun _ h => h) (fun r_ S_15 H locs hw hX => ?_)
              obtain ⟨rfl, hK9⟩ := hw
              replace hK := KA_trans hK hK9
              refine kb_if_eq (tgt := 124) hx hb dX4_isSound_91 (by decide) (fun k_16 => absurd k_16 (by decide)) (fun k_16 => ?_)
              refine lv_aload_n hx hb dX4_isSound_94 rfl (lv_at hl 1 rfl) ?_
              refine kx_gauditor hx hb hts hin4 hown hX (hts (.fieldLink RX4 31 "Orderlattice" "auditor" "LOrderlattice$Auditor;") (tm 452 (by decide +kernel) rfl)) dX4_isSound_95 ?_
              refine lv_aload hx hb dX4_isSound_98 (lv_at hl 0 rfl) ?_
              refine lv_aload_n hx hb dX4_isSound_100 rfl (lv_at hl 4 rfl) ?_
              refine kx_ci (va_runV (As := [.ref (ad (3 * b9)), .ref (ad (24 + 5 * a))]) (rest := []) ⟨hx, hb, hml, hown, hts⟩ (u_X0_isTurnedAlike l dC dI ad S_15 b9 a (by omega) (by omega) hK.1) (cwV 2 hts gX4_isSound_X0_isTurnedAlike rfl rfl rfl hdX0_isTurnedAlike_2 ⟨Nat.le_of_ble_eq_true rfl, Nat.le_of_ble_eq_true rfl⟩) (hX.preTop 56 2 (by decide) (by decide) rfl rfl) rfl rfl hl.1 rfl (lv_room (Nat.le_of_ble_eq_true rfl)) dX4_isSound_101 ⟨Nat.le_of_ble_eq_true rfl, Nat.le_of_ble_eq_true rfl⟩) hX (fun _ h => h) (fun r_ S_17 H locs hw hX => ?_)
              obtain ⟨rfl, hK9⟩ := hw
              replace hK := KA_trans hK hK9
              refine kb_if_eq (tgt := 124) hx hb dX4_isSound_104 (by decide) (fun k_18 => absurd k_18 (by decide)) (fun k_18 => ?_)
              refine lv_aload_n hx hb dX4_isSound_107 rfl (lv_at hl 1 rfl) ?_
              refine kx_gauditor hx hb hts hin4 hown hX (hts (.fieldLink RX4 31 "Orderlattice" "auditor" "LOrderlattice$Auditor;") (tm 452 (by decide +kernel) rfl)) dX4_isSound_108 ?_
              refine lv_aload hx hb dX4_isSound_111 (lv_at hl 0 rfl) ?_
              refine lv_aload_n hx hb dX4_isSound_113 rfl (lv_at hl 4 rfl) ?_
              refine kx_ci (va_runV (As := [.ref (ad (3 * b9)), .ref (ad (24 + 5 * a))]) (rest := []) ⟨hx, hb, hml, hown, hts⟩ (u_X0_isQueuedAlike l dC dI ad S_17 b9 a (by omega) (by omega) hK.1) (cwV 2 hts gX4_isSound_X0_isQueuedAlike rfl rfl rfl hdX0_isQueuedAlike_2 ⟨Nat.le_of_ble_eq_true rfl, Nat.le_of_ble_eq_true rfl⟩) (hX.preTop 56 2 (by decide) (by decide) rfl rfl) rfl rfl hl.1 rfl (lv_room (Nat.le_of_ble_eq_true rfl)) dX4_isSound_114 ⟨Nat.le_of_ble_eq_true rfl, Nat.le_of_ble_eq_true rfl⟩) hX (fun _ h => h) (fun r_ S_19 H locs hw hX => ?_)
              obtain ⟨rfl, hK9⟩ := hw
              replace hK := KA_trans hK hK9
              refine kb_if_eq (tgt := 124) hx hb dX4_isSound_117 (by decide) (fun k_20 => absurd k_20 (by decide)) (fun k_20 => ?_)
              refine lv_iconst (v := bI true) hx hb dX4_isSound_120 (by decide) ?_
              refine lv_goto (tgt := 125) hx hb dX4_isSound_121 (by decide) ?_
              refine lv_istore_n (lv' := [(1, .int (bI true)), (5, .ref (ad (3 * b9))), (0, .ref (ad 57)), (2, .int (nI a)), (3, .ref (ad (24 + 5 * a))), (4, .int (nI b9))]) hx hb dX4_isSound_125 rfl hl (by decide) rfl (fun ls hl => ?_)
              refine lv_iinc (v := nI (b9 + 1)) (lv' := [(4, .int (nI (b9 + 1))), (1, .int (bI true)), (5, .ref (ad (3 * b9))), (0, .ref (ad 57)), (2, .int (nI a)), (3, .ref (ad (24 + 5 * a)))]) hx hb dX4_isSound_126 hl (k := 5) rfl (nI_1 b9) (by decide) rfl (fun ls hl => ?_)
              refine lv_goto (tgt := 50) hx hb dX4_isSound_129 (by decide) ?_
              exact ih50  S_19 (b9 + 1) hK (by omega) _ _ (by omega) hX _ (lv_sub hl [3, 1, 4, 5, 0] rfl)
        exact loop50 (3 + 1) S1 0 hK (by omega) _ _ (by omega) (WX.eqS rfl hX) _ (lv_sub hl [3, 1, 4, 2, 0] rfl)
  exact loop4 (4 + 1) S 0 hK (by omega) _ _ (by omega) (WX.eqS rfl hX) _ (lv_sub hl [2, 1, 0] rfl)
set_option maxHeartbeats 4000000 in
set_option maxRecDepth 100000 in
theorem u_X4_digest (l : Launch) (dC : Nat → ClassId) (dI : Nat → Nat → Nat) (ad : Nat → Nat) (S : XS) (hI : InvX S) (h5 : ∀ j, j < 4 → (S.2.1 j).2.2.2.2.1 ≤ 5) (hc : S.2.2.1 < 2 ^ 31 ∧ S.2.2.2.1 < 2 ^ 31 ∧ S.2.2.2.2 < 2 ^ 31) : Met l yX4_digest wsX4_digest ({ frames := 6, cells := 0, slots := 0, locals := 155 } : Room) (va_Pc [.ref (ad 57)] (PX dC dI ad S)) (va_Ql (fun r S' => r = mixI (mixSeqs S (mixPairs S (mixOrders S (mixRows S (iterL (fun k d => mixI d (countX S k)) 5 (lN 7842)))))) (bN true) ∧ KA S S') (PX dC dI ad) (AX ad)) 0 0 (AX ad) := by
  refine Met.ofW (cc := cX4_digest) (maxL := 4) (ret := (some .long)) pl_X4 rfl ?_
  intro p e s m args below meth c s₁ B hml hv
  obtain ⟨rfl, hPX⟩ := hv
  have hx := B.exec
  have hb := B.bytes
  have hr := B.returns
  have hts := atoms_spec (ws := wsX4_digest) B.pre
  have hown : s.vm.findClass RX4 = some m.cls := findClass_of_methodNamed B.named
  have hlocks := B.notSynchronized
  have hX := WX.of hPX
  have hl := lv_entry ([.ref (ad 57)]) (n := 4) (Nat.le_of_ble_eq_true rfl)
  rw [lg_entry_eq]
  generalize (lg_sl ([.ref (ad 57)]) ++ List.replicate (4 - (lg_sl ([.ref (ad 57)])).length) Slot.unset).toArray = ls at hl ⊢
  have hl : lv_has ls 4 [(0, .ref (ad 57))] := hl
  show W p l e ({ frames := 6, cells := 0, slots := 0, locals := 155 } : Room) s m ([.ref (ad 57)]).toArray below meth c s.heap [] 0 0 (MQ below (va_Ql (fun r S' => r = mixI (mixSeqs S (mixPairs S (mixOrders S (mixRows S (iterL (fun k d => mixI d (countX S k)) 5 (lN 7842)))))) (bN true) ∧ KA S S') (PX dC dI ad) (AX ad)) ([.ref (ad 57)]).toArray s 0 0 (AX ad)) (F0 m 0 ls [])
  refine lv_ldc2 (v := lN 7842) hx hb hown (hts (.constantLong RX4 279 7842) (tm 660 (by decide +kernel) rfl)) dX4_digest_0 ?_
  refine lv_lstore_n (lv' := [(1, .long (lN 7842)), (0, .ref (ad 57))]) hx hb dX4_digest_3 rfl hl (by decide) rfl (fun ls hl => ?_)
  refine lv_iconst (v := nI 0) hx hb dX4_digest_4 (by decide) ?_
  refine lv_istore_n (lv' := [(3, .int (nI 0)), (1, .long (lN 7842)), (0, .ref (ad 57))]) hx hb dX4_digest_5 rfl hl (by decide) rfl (fun ls hl => ?_)
  have loop6 : ∀ (fuel : Nat) (x : Int64) (k : Nat) (hk : k ≤ 5) (hx9 : x = iterL (fun k d => mixI d (countX S k)) k (lN 7842)), 5 - k < fuel → ∀ ls : Array Slot, lv_has ls 4 [(0, .ref (ad 57)), (1, .long x), (3, .int (nI k))] → W p l e ({ frames := 6, cells := 0, slots := 0, locals := 155 } : Room) s m ([.ref (ad 57)]).toArray below meth c s.heap [] 0 0 (MQ below (va_Ql (fun r S' => r = mixI (mixSeqs S (mixPairs S (mixOrders S (mixRows S (iterL (fun k d => mixI d (countX S k)) 5 (lN 7842)))))) (bN true) ∧ KA S S') (PX dC dI ad) (AX ad)) ([.ref (ad 57)]).toArray s 0 0 (AX ad)) (F0 m 6 ls []) := by
    intro fuel
    induction fuel with
    | zero => intro x k hk hx9 hf; exact absurd hf (Nat.not_lt_zero _)
    | succ fuel ih6 =>
      intro x k hk hx9 hf ls hl
      refine lv_iload_n hx hb dX4_digest_6 rfl (lv_at hl 2 rfl) ?_
      refine lv_iconst (v := nI 5) hx hb dX4_digest_7 (by decide) ?_
      refine kn_icmp_ge (tgt := 27) hx hb (by omega) (by omega) dX4_digest_8 (by decide) (fun k_1 => ?_) (fun k_1 => ?_)
      · skip
        refine lv_aload_n hx hb dX4_digest_27 rfl (lv_at hl 0 rfl) ?_
        refine lv_lload_n hx hb dX4_digest_28 rfl (lv_at hl 1 rfl) ?_
        refine kx_crl (v := mixRows S x) (va_runV (As := [.long x]) (rest := []) ⟨hx, hb, hml, hown, hts⟩ (m_X4_mixedWithRows l dC dI ad S x hI) (cwV 1 hts gX4_digest_X4_mixedWithRows rfl rfl rfl hdX4_mixedWithRows_1 ⟨Nat.le_of_ble_eq_true rfl, Nat.le_of_ble_eq_true rfl⟩) (hX.preTop 57 6 (by decide) (by decide) rfl rfl) rfl rfl hl.1 rfl (lv_room (Nat.le_of_ble_eq_true rfl)) dX4_digest_29 ⟨Nat.le_of_ble_eq_true rfl, Nat.le_of_ble_eq_true rfl⟩) (fun _ h => h) ?_
        refine lv_lstore_n (lv' := [(1, .long (mixRows S x)), (0, .ref (ad 57)), (3, .int (nI k))]) hx hb dX4_digest_32 rfl hl (by decide) rfl (fun ls hl => ?_)
        refine lv_aload_n hx hb dX4_digest_33 rfl (lv_at hl 1 rfl) ?_
        refine lv_lload_n hx hb dX4_digest_34 rfl (lv_at hl 0 rfl) ?_
        refine kx_crl (v := mixOrders S (mixRows S x)) (va_runV (As := [.long (mixRows S x)]) (rest := []) ⟨hx, hb, hml, hown, hts⟩ (m_X4_mixedWithOrders l dC dI ad S (mixRows S x) hI) (cwV 1 hts gX4_digest_X4_mixedWithOrders rfl rfl rfl hdX4_mixedWithOrders_1 ⟨Nat.le_of_ble_eq_true rfl, Nat.le_of_ble_eq_true rfl⟩) (hX.preTop 57 6 (by decide) (by decide) rfl rfl) rfl rfl hl.1 rfl (lv_room (Nat.le_of_ble_eq_true rfl)) dX4_digest_35 ⟨Nat.le_of_ble_eq_true rfl, Nat.le_of_ble_eq_true rfl⟩) (fun _ h => h) ?_
        refine lv_lstore_n (lv' := [(1, .long (mixOrders S (mixRows S x))), (0, .ref (ad 57)), (3, .int (nI k))]) hx hb dX4_digest_38 rfl hl (by decide) rfl (fun ls hl => ?_)
        refine lv_aload_n hx hb dX4_digest_39 rfl (lv_at hl 1 rfl) ?_
        refine lv_lload_n hx hb dX4_digest_40 rfl (lv_at hl 0 rfl) ?_
        refine kx_crl (v := mixPairs S (mixOrders S (mixRows S x))) (va_runV (As := [.long (mixOrders S (mixRows S x))]) (rest := []) ⟨hx, hb, hml, hown, hts⟩ (m_X4_mixedWithPairs l dC dI ad S (mixOrders S (mixRows S x)) hI) (cwV 1 hts gX4_digest_X4_mixedWithPairs rfl rfl rfl hdX4_mixedWithPairs_1 ⟨Nat.le_of_ble_eq_true rfl, Nat.le_of_ble_eq_true rfl⟩) (hX.preTop 57 6 (by decide) (by decide) rfl rfl) rfl rfl hl.1 rfl (lv_room (Nat.le_of_ble_eq_true rfl)) dX4_digest_41 ⟨Nat.le_of_ble_eq_true rfl, Nat.le_of_ble_eq_true rfl⟩) (fun _ h => h) ?_
        refine lv_lstore_n (lv' := [(1, .long (mixPairs S (mixOrders S (mixRows S x)))), (0, .ref (ad 57)), (3, .int (nI k))]) hx hb dX4_digest_44 rfl hl (by decide) rfl (fun ls hl => ?_)
        refine lv_aload_n hx hb dX4_digest_45 rfl (lv_at hl 1 rfl) ?_
        refine lv_lload_n hx hb dX4_digest_46 rfl (lv_at hl 0 rfl) ?_
        refine kx_crl (v := mixSeqs S (mixPairs S (mixOrders S (mixRows S x)))) (va_runV (As := [.long (mixPairs S (mixOrders S (mixRows S x)))]) (rest := []) ⟨hx, hb, hml, hown, hts⟩ (m_X4_mixedWithSequences l dC dI ad S (mixPairs S (mixOrders S (mixRows S x))) hI) (cwV 1 hts gX4_digest_X4_mixedWithSequences rfl rfl rfl hdX4_mixedWithSequences_1 ⟨Nat.le_of_ble_eq_true rfl, Nat.le_of_ble_eq_true rfl⟩) (hX.preTop 57 6 (by decide) (by decide) rfl rfl) rfl rfl hl.1 rfl (lv_room (Nat.le_of_ble_eq_true rfl)) dX4_digest_47 ⟨Nat.le_of_ble_eq_true rfl, Nat.le_of_ble_eq_true rfl⟩) (fun _ h => h) ?_
        refine lv_lstore_n (lv' := [(1, .long (mixSeqs S (mixPairs S (mixOrders S (mixRows S x))))), (0, .ref (ad 57)), (3, .int (nI k))]) hx hb dX4_digest_50 rfl hl (by decide) rfl (fun ls hl => ?_)
        refine lv_lload_n hx hb dX4_digest_51 rfl (lv_at hl 0 rfl) ?_
        refine lv_aload_n hx hb dX4_digest_52 rfl (lv_at hl 1 rfl) ?_
        refine kx_ci (va_runV (As := []) (rest := [.long (mixSeqs S (mixPairs S (mixOrders S (mixRows S x))))]) ⟨hx, hb, hml, hown, hts⟩ (u_X4_isSound l dC dI ad S hI h5) (cwV 0 hts gX4_digest_X4_isSound rfl rfl rfl hdX4_isSound_0 ⟨Nat.le_of_ble_eq_true rfl, Nat.le_of_ble_eq_true rfl⟩) (hX.preTop 57 6 (by decide) (by decide) rfl rfl) rfl rfl hl.1 rfl (lv_room (Nat.le_of_ble_eq_true rfl)) dX4_digest_53 ⟨Nat.le_of_ble_eq_true rfl, Nat.le_of_ble_eq_true rfl⟩) hX (fun _ h => h) (fun r_ S_2 H locs hw hX => ?_)
        obtain ⟨rfl, hK⟩ := hw
        refine kb_if_eq (tgt := 63) hx hb dX4_digest_56 (by decide) (fun k_3 => absurd k_3 (by decide)) (fun k_3 => ?_)
        refine lv_iconst (v := nI 1) hx hb dX4_digest_59 (by decide) ?_
        refine lv_goto (tgt := 64) hx hb dX4_digest_60 (by decide) ?_
        refine kx_crl (v := mixI (mixSeqs S (mixPairs S (mixOrders S (mixRows S x)))) 1) (va_runS (As := [.long (mixSeqs S (mixPairs S (mixOrders S (mixRows S x)))), .int (nI 1)]) (rest := []) ⟨hx, hb, hml, hown, hts⟩ (m_X4_mixed l dC dI ad S_2 (mixSeqs S (mixPairs S (mixOrders S (mixRows S x)))) 1 (by omega)) (va_cwS 2 hts gX4_digest_X4_mixed rfl rfl rfl hdX4_mixed_2.2 ⟨Nat.le_of_ble_eq_true rfl, Nat.le_of_ble_eq_true rfl⟩) hX.preS rfl rfl hl.1 rfl (lv_room (Nat.le_of_ble_eq_true rfl)) dX4_digest_64 ⟨Nat.le_of_ble_eq_true rfl, Nat.le_of_ble_eq_true rfl⟩) (fun _ h => h) ?_
        exact W.lret (v := mixI (mixSeqs S (mixPairs S (mixOrders S (mixRows S x)))) 1) hx hb hr (fun t9 ht9 hW9 => ⟨⟨_, S_2, rfl, ⟨by rw [hx9, show k = 5 by omega]; rfl, hK⟩, hX.P ht9 hW9⟩, hX.2.2.2.F ht9⟩) hX.2.2.2.2.2 dX4_digest_67
      · skip
        refine lv_lload_n hx hb dX4_digest_11 rfl (lv_at hl 1 rfl) ?_
        refine lv_aload_n hx hb dX4_digest_12 rfl (lv_at hl 0 rfl) ?_
        refine lv_iload_n hx hb dX4_digest_13 rfl (lv_at hl 2 rfl) ?_
        have hcx : countX S k < 2 ^ 31 := countX_lt hI hc k
        refine kx_cr (v := nI (countX S k)) (va_runV (As := [.int (nI k)]) (rest := [.long x]) ⟨hx, hb, hml, hown, hts⟩ (m_X4_count l dC dI ad S k (by omega) hI) (cwV 1 hts gX4_digest_X4_count rfl rfl rfl hdX4_count_1 ⟨Nat.le_of_ble_eq_true rfl, Nat.le_of_ble_eq_true rfl⟩) (hX.preTop 57 6 (by decide) (by decide) rfl rfl) rfl rfl hl.1 rfl (lv_room (Nat.le_of_ble_eq_true rfl)) dX4_digest_14 ⟨Nat.le_of_ble_eq_true rfl, Nat.le_of_ble_eq_true rfl⟩) (fun _ h => h) ?_
        refine kx_crl (v := mixI x (countX S k)) (va_runS (As := [.long x, .int (nI (countX S k))]) (rest := []) ⟨hx, hb, hml, hown, hts⟩ (m_X4_mixed l dC dI ad S x (countX S k) (by omega)) (va_cwS 2 hts gX4_digest_X4_mixed rfl rfl rfl hdX4_mixed_2.2 ⟨Nat.le_of_ble_eq_true rfl, Nat.le_of_ble_eq_true rfl⟩) hX.preS rfl rfl hl.1 rfl (lv_room (Nat.le_of_ble_eq_true rfl)) dX4_digest_17 ⟨Nat.le_of_ble_eq_true rfl, Nat.le_of_ble_eq_true rfl⟩) (fun _ h => h) ?_
        refine lv_lstore_n (lv' := [(1, .long (mixI x (countX S k))), (0, .ref (ad 57)), (3, .int (nI k))]) hx hb dX4_digest_20 rfl hl (by decide) rfl (fun ls hl => ?_)
        refine lv_iinc (v := nI (k + 1)) (lv' := [(3, .int (nI (k + 1))), (1, .long (mixI x (countX S k))), (0, .ref (ad 57))]) hx hb dX4_digest_21 hl (k := 2) rfl (nI_1 k) (by decide) rfl (fun ls hl => ?_)
        refine lv_goto (tgt := 6) hx hb dX4_digest_24 (by decide) ?_
        exact ih6  (mixI x (countX S k)) (k + 1) (by omega) (by rw [hx9]; rfl) (by omega) _ (lv_sub hl [2, 1, 0] rfl)
  exact loop6 (5 + 1) (lN 7842) 0 (by omega) rfl (by omega) _ (lv_sub hl [2, 1, 0] rfl)
