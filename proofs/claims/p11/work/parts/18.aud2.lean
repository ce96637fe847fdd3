/-! what the auditor leaves as it was -/
def InvX (S : XS) : Prop := (∀ i, i < 8 → rowOK (S.1 i)) ∧ ∀ j, j < 6 → ordOK (S.2.1 j)
def KA (S S1 : XS) : Prop := InvX S1 ∧ S1.2.2 = S.2.2 ∧ (∀ k, k < 5 → S1.1 k = S.1 k) ∧ ∀ k, k < 5 → S1.2.1 k = S.2.1 k
theorem KA_refl {S : XS} (h : InvX S) : KA S S := ⟨h, rfl, fun _ _ => rfl, fun _ _ => rfl⟩
theorem KA_trans {S S1 S2 : XS} (h : KA S S1) (h2 : KA S1 S2) : KA S S2 := ⟨h2.1, h2.2.1.trans h.2.1, fun k hk => (h2.2.2.1 k hk).trans (h.2.2.1 k hk), fun k hk => (h2.2.2.2 k hk).trans (h.2.2.2 k hk)⟩
theorem InvX_row {S : XS} (h : InvX S) {i : Nat} {r : RowS} (hr : rowOK r) : InvX (xR S i r) :=
  ⟨fun k hk => by
    by_cases e : k = i
    · subst e; rw [xR_row]; exact hr
    · rw [xR_ne _ _ e]; exact h.1 k hk, h.2⟩
theorem InvX_ord {S : XS} (h : InvX S) {j : Nat} {o : OrdS} (ho : ordOK o) : InvX (xO S j o) :=
  ⟨h.1, fun k hk => by
    by_cases e : k = j
    · subst e; rw [xO_ord]; exact ho
    · rw [xO_ne _ _ e]; exact h.2 k hk⟩
theorem KA_row {S S1 : XS} (h : KA S S1) {i : Nat} (h1 : 5 ≤ i) (h2 : i < 8) {r : RowS} (hr : rowOK r) : KA S (xR S1 i r) :=
  ⟨InvX_row h.1 hr, h.2.1, fun k hk => by rw [xR_ne _ _ (by omega)]; exact h.2.2.1 k hk, h.2.2.2⟩
theorem KA_ord {S S1 : XS} (h : KA S S1) {o : OrdS} (ho : ordOK o) : KA S (xO S1 5 o) :=
  ⟨InvX_ord h.1 ho, h.2.1, h.2.2.1, fun k hk => by rw [xO_ne _ _ (by omega)]; exact h.2.2.2 k hk⟩
theorem KA_arr {S S1 S2 : XS} (h : KA S S1) {i : Nat} (hk : keepR S1 S2 i (3 + 2 * 1)) (h1 : 5 < i) (h2 : i < 8) : KA S S2 :=
  ⟨⟨fun k hk8 => by
      by_cases e : k = i
      · subst e; exact hk.2.2.2.1
      · by_cases e2 : k = 5
        · subst e2; exact hk.2.2.1
        · rw [hk.2.1 k e e2]; exact h.1.1 k hk8, fun k hk6 => by rw [hk.1]; exact h.1.2 k hk6⟩,
    by rw [hk.1]; exact h.2.1, fun k hk5 => by rw [hk.2.1 k (by omega) (by omega)]; exact h.2.2.1 k hk5, fun k hk5 => by rw [hk.1]; exact h.2.2.2 k hk5⟩
theorem rowOK_rev {r : RowS} (h : rowOK r) : rowOK (rev r.1 r.2.2 r.2.2, rev r.2.1 r.2.2 r.2.2, r.2.2) :=
  ⟨h.1, fun k hk => by
    have hn := h.1
    dsimp only
    unfold rev
    split
    · exact h.2 _ (by omega)
    · exact h.2 k hk⟩
theorem rowOK_all {r : RowS} (h : rowOK r) : rowOK (ovl (fun k => k) r.1 16, ovl (fun k => k) r.2.1 16, 16) :=
  ⟨Nat.le_refl _, fun k hk => by
    dsimp only
    rw [ovl_in hk, ovl_in hk]
    omega⟩
theorem rowOK_rem {r : RowS} (h : rowOK r) {q : Nat} (hq : q < r.2.2) : rowOK (shl r.1 q (r.2.2 - 1), shl r.2.1 q (r.2.2 - 1), r.2.2 - 1) := by
  have hn := h.1
  refine ⟨Nat.le_trans (Nat.sub_le _ _) hn, fun k hk => ?_⟩
  dsimp only
  unfold shl
  split
  · exact h.2 _ (by omega)
  · exact h.2 k hk
theorem ordOK.cls {o : OrdS} (h : ordOK o) : o.2.2.2.2.2 ≤ 16 := by rw [h.2.2.2]; exact classC_le _
theorem ordOK.rnk {o : OrdS} (h : ordOK o) {v : Nat} (hv : v < 16) : o.2.2.2.1 v ≤ 16 := by rw [h.2.2.1 v hv]; exact rankC_le _ _
set_option maxHeartbeats 4000000 in
set_option maxRecDepth 100000 in
theorem m_X0_isFinerBySorting (l : Launch) (dC : Nat → ClassId) (dI : Nat → Nat → Nat) (ad : Nat → Nat) (S : XS) (j t : Nat) (hj : j < 5) (ht : t < 5) (hI : InvX S) : Met l yX0_isFinerBySorting wsX0_isFinerBySorting ({ frames := 3, cells := 0, slots := 0, locals := 73 } : Room) (va_Pc [.ref (ad 56), .ref (ad (24 + 5 * j)), .ref (ad (24 + 5 * t))] (PX dC dI ad S)) (va_Qi (fun r S' => (∃ z, r = bI z) ∧ KA S S') (PX dC dI ad) (AX ad)) 0 0 (AX ad) := by
  refine Met.ofW (cc := cX0_isFinerBySorting) (maxL := 3) (ret := (some .boolean)) pl_X0 rfl ?_
  intro p e s m args below meth c s₁ B hml hv
  obtain ⟨rfl, hPX⟩ := hv
  have hx := B.exec
  have hb := B.bytes
  have hr := B.returns
  have hts := atoms_spec (ws := wsX0_isFinerBySorting) B.pre
  have hown : s.vm.findClass RX0 = some m.cls := findClass_of_methodNamed B.named
  have hlocks := B.notSynchronized
  have hin0 : ∀ w ∈ u_ws RX0 TX0 4, w ∈ wsX0_isFinerBySorting := tu 1325 (by decide +kernel) rfl
  have hX := WX.of hPX
  have hl := lv_entry ([.ref (ad 56), .ref (ad (24 + 5 * j)), .ref (ad (24 + 5 * t))]) (n := 3) (Nat.le_of_ble_eq_true rfl)
  rw [lg_entry_eq]
  generalize (lg_sl ([.ref (ad 56), .ref (ad (24 + 5 * j)), .ref (ad (24 + 5 * t))]) ++ List.replicate (3 - (lg_sl ([.ref (ad 56), .ref (ad (24 + 5 * j)), .ref (ad (24 + 5 * t))])).length) Slot.unset).toArray = ls at hl ⊢
  have hl : lv_has ls 3 [(0, .ref (ad 56)), (1, .ref (ad (24 + 5 * j))), (2, .ref (ad (24 + 5 * t)))] := hl
  show W p l e ({ frames := 3, cells := 0, slots := 0, locals := 73 } : Room) s m ([.ref (ad 56), .ref (ad (24 + 5 * j)), .ref (ad (24 + 5 * t))]).toArray below meth c s.heap [] 0 0 (MQ below (va_Qi (fun r S' => (∃ z, r = bI z) ∧ KA S S') (PX dC dI ad) (AX ad)) ([.ref (ad 56), .ref (ad (24 + 5 * j)), .ref (ad (24 + 5 * t))]).toArray s 0 0 (AX ad)) (F0 m 0 ls [])
  have hK := KA_refl hI
  have h6 : (S.1 6).2.2 = (S.1 6).2.2 := rfl
  have h7 : (S.1 7).2.2 = (S.1 7).2.2 := rfl
  refine lv_aload_n hx hb dX0_isFinerBySorting_0 rfl (lv_at hl 0 rfl) ?_
  refine ka_gl hx hb hts hin0 hown hX (hts (.fieldLink RX0 21 "Orderlattice$Auditor" "left" "LOrderlattice$Row;") (tm 10 (by decide +kernel) rfl)) dX0_isFinerBySorting_1 ?_
  refine kx_cv (va_runV (As := []) (rest := []) ⟨hx, hb, hml, hown, hts⟩ (m_X2_becomeAllValues l dC dI ad S 6 (by omega)) (cwV 0 hts gX0_isFinerBySorting_X2_becomeAllValues rfl rfl rfl hdX2_becomeAllValues_0 ⟨Nat.le_of_ble_eq_true rfl, Nat.le_of_ble_eq_true rfl⟩) (hX.preRow (by omega)) rfl rfl hl.1 rfl (lv_room (Nat.le_of_ble_eq_true rfl)) dX0_isFinerBySorting_4 ⟨Nat.le_of_ble_eq_true rfl, Nat.le_of_ble_eq_true rfl⟩) hX (fun _ h => h) (fun S_1 H locs hw hX => ?_)
  replace h6 := (show (S_1.1 6).2.2 = 16 by rw [hw, xR_row])
  replace h7 := (show (S_1.1 7).2.2 = (S.1 7).2.2 by rw [hw, xR_ne _ _ (by decide)]).trans h7
  replace hK := (show KA S S_1 by rw [hw]; exact KA_row hK (by decide) (by decide) (rowOK_all (hK.1.1 6 (by omega))))
  clear hw
  refine lv_aload_n hx hb dX0_isFinerBySorting_7 rfl (lv_at hl 0 rfl) ?_
  refine ka_gs hx hb hts hin0 hown hX (hts (.fieldLink RX0 12 "Orderlattice$Auditor" "sorter" "LOrderlattice$Sorter;") (tm 6 (by decide +kernel) rfl)) dX0_isFinerBySorting_8 ?_
  refine lv_aload_n hx hb dX0_isFinerBySorting_11 rfl (lv_at hl 0 rfl) ?_
  refine ka_gl hx hb hts hin0 hown hX (hts (.fieldLink RX0 21 "Orderlattice$Auditor" "left" "LOrderlattice$Row;") (tm 10 (by decide +kernel) rfl)) dX0_isFinerBySorting_12 ?_
  refine lv_aload_n hx hb dX0_isFinerBySorting_15 rfl (lv_at hl 1 rfl) ?_
  refine lv_iconst (v := nI 0) hx hb dX0_isFinerBySorting_16 (by decide) ?_
  refine lv_aload_n hx hb dX0_isFinerBySorting_17 rfl (lv_at hl 0 rfl) ?_
  refine ka_gl hx hb hts hin0 hown hX (hts (.fieldLink RX0 21 "Orderlattice$Auditor" "left" "LOrderlattice$Row;") (tm 10 (by decide +kernel) rfl)) dX0_isFinerBySorting_18 ?_
  refine kx_cr (v := nI 16) (va_runV (As := []) (rest := [.int (nI 0), .ref (ad (24 + 5 * j)), .ref (ad (3 * 6)), .ref (ad (54 + 1))]) ⟨hx, hb, hml, hown, hts⟩ (m_X2_length l dC dI ad S_1 6 (by omega)) (cwV 0 hts gX0_isFinerBySorting_X2_length rfl rfl rfl hdX2_length_0 ⟨Nat.le_of_ble_eq_true rfl, Nat.le_of_ble_eq_true rfl⟩) (hX.preRow (by omega)) rfl rfl hl.1 rfl (lv_room (Nat.le_of_ble_eq_true rfl)) dX0_isFinerBySorting_21 ⟨Nat.le_of_ble_eq_true rfl, Nat.le_of_ble_eq_true rfl⟩) (fun _ h => by rw [h, h6]) ?_
  refine kx_cv (va_runV (As := [.ref (ad (3 * 6)), .ref (ad (24 + 5 * j)), .int (nI 0), .int (nI 16)]) (rest := []) ⟨hx, hb, hml, hown, hts⟩ (m_X3_insertEach l dC dI ad S_1 1 6 j 0 16 (by decide) (by omega) (by omega) (hK.1.1 6 (by omega)) (hK.1.2 j (by omega)) (Nat.zero_le _) (Nat.le_of_eq h6.symm)) (cwV 4 hts gX0_isFinerBySorting_X3_insertEach rfl rfl rfl hdX3_insertEach_4 ⟨Nat.le_of_ble_eq_true rfl, Nat.le_of_ble_eq_true rfl⟩) (hX.preSor (by omega)) rfl rfl hl.1 rfl (lv_room (Nat.le_of_ble_eq_true rfl)) dX0_isFinerBySorting_24 ⟨Nat.le_of_ble_eq_true rfl, Nat.le_of_ble_eq_true rfl⟩) hX (fun _ h => h) (fun S_2 H locs hw hX => ?_)
  obtain ⟨r2, hw, hr2⟩ := hw
  replace h6 := (show (S_2.1 6).2.2 = (S_1.1 6).2.2 by rw [hw, xR_row]; exact hr2.2).trans h6
  replace h7 := (show (S_2.1 7).2.2 = (S_1.1 7).2.2 by rw [hw, xR_ne _ _ (by decide)]).trans h7
  replace hK := (show KA S S_2 by rw [hw]; exact KA_row hK (by decide) (by decide) hr2.1)
  clear hw
  refine lv_aload_n hx hb dX0_isFinerBySorting_27 rfl (lv_at hl 0 rfl) ?_
  refine ka_gl hx hb hts hin0 hown hX (hts (.fieldLink RX0 21 "Orderlattice$Auditor" "left" "LOrderlattice$Row;") (tm 10 (by decide +kernel) rfl)) dX0_isFinerBySorting_28 ?_
  refine lv_aload_n hx hb dX0_isFinerBySorting_31 rfl (lv_at hl 2 rfl) ?_
  refine kx_cr (v := bI (seqB (S_2.2.1 t).2.2.1 (S_2.1 6).1 (S_2.1 6).2.2)) (va_runV (As := [.ref (ad (24 + 5 * t))]) (rest := []) ⟨hx, hb, hml, hown, hts⟩ (m_X2_isInSequenceBy l dC dI ad S_2 6 t (by omega) (by omega) (hK.1.1 6 (by omega)) (hK.1.2 t (by omega))) (cwV 1 hts gX0_isFinerBySorting_X2_isInSequenceBy rfl rfl rfl hdX2_isInSequenceBy_1 ⟨Nat.le_of_ble_eq_true rfl, Nat.le_of_ble_eq_true rfl⟩) (hX.preRow (by omega)) rfl rfl hl.1 rfl (lv_room (Nat.le_of_ble_eq_true rfl)) dX0_isFinerBySorting_32 ⟨Nat.le_of_ble_eq_true rfl, Nat.le_of_ble_eq_true rfl⟩) (fun _ h => h) ?_
  refine kb_if_eq (tgt := 50) hx hb dX0_isFinerBySorting_35 (by decide) (fun k_3 => ?_) (fun k_3 => ?_)
  · skip
    refine lv_iconst (v := bI false) hx hb dX0_isFinerBySorting_50 (by decide) ?_
    exact W.zret (v := bI false) hx hb hr (bI_narrow _) (fun t9 ht9 hW9 => ⟨⟨_, S_2, rfl, ⟨⟨_, rfl⟩, hK⟩, hX.P ht9 hW9⟩, hX.2.2.2.F ht9⟩) hX.2.2.2.2.2 dX0_isFinerBySorting_51
  · skip
    refine lv_aload_n hx hb dX0_isFinerBySorting_38 rfl (lv_at hl 1 rfl) ?_
    refine lv_aload_n hx hb dX0_isFinerBySorting_39 rfl (lv_at hl 2 rfl) ?_
    refine kx_cr (v := bI (alikeB (S_2.2.1 j).2.2.1 (S_2.2.1 t).2.2.1)) (va_runS (As := [.ref (ad (24 + 5 * j)), .ref (ad (24 + 5 * t))]) (rest := []) ⟨hx, hb, hml, hown, hts⟩ (m_X0_areAlikeAlike l dC dI ad S_2 j t (by omega) (by omega) (hK.1.2 j (by omega)) (hK.1.2 t (by omega))) (va_cwS 2 hts gX0_isFinerBySorting_X0_areAlikeAlike rfl rfl rfl hdX0_areAlikeAlike_2.2 ⟨Nat.le_of_ble_eq_true rfl, Nat.le_of_ble_eq_true rfl⟩) hX.preS rfl rfl hl.1 rfl (lv_room (Nat.le_of_ble_eq_true rfl)) dX0_isFinerBySorting_40 ⟨Nat.le_of_ble_eq_true rfl, Nat.le_of_ble_eq_true rfl⟩) (fun _ h => h) ?_
    refine kb_if_eq (tgt := 50) hx hb dX0_isFinerBySorting_43 (by decide) (fun k_4 => ?_) (fun k_4 => ?_)
    · skip
      refine lv_iconst (v := bI false) hx hb dX0_isFinerBySorting_50 (by decide) ?_
      exact W.zret (v := bI false) hx hb hr (bI_narrow _) (fun t9 ht9 hW9 => ⟨⟨_, S_2, rfl, ⟨⟨_, rfl⟩, hK⟩, hX.P ht9 hW9⟩, hX.2.2.2.F ht9⟩) hX.2.2.2.2.2 dX0_isFinerBySorting_51
    · skip
      refine lv_iconst (v := bI true) hx hb dX0_isFinerBySorting_46 (by decide) ?_
      refine lv_goto (tgt := 51) hx hb dX0_isFinerBySorting_47 (by decide) ?_
      exact W.zret (v := bI true) hx hb hr (bI_narrow _) (fun t9 ht9 hW9 => ⟨⟨_, S_2, rfl, ⟨⟨_, rfl⟩, hK⟩, hX.P ht9 hW9⟩, hX.2.2.2.F ht9⟩) hX.2.2.2.2.2 dX0_isFinerBySorting_51
set_option maxHeartbeats 4000000 in
set_option maxRecDepth 100000 in
theorem m_X0_isRefiningSound (l : Launch) (dC : Nat → ClassId) (dI : Nat → Nat → Nat) (ad : Nat → Nat) (S : XS) (j t : Nat) (hj : j < 5) (ht : t < 5) (hI : InvX S) (h5j : (S.2.1 j).2.2.2.2.1 ≤ 5) (h5t : (S.2.1 t).2.2.2.2.1 ≤ 5) : Met l yX0_isRefiningSound wsX0_isRefiningSound ({ frames := 4, cells := 0, slots := 0, locals := 95 } : Room) (va_Pc [.ref (ad 56), .ref (ad (24 + 5 * j)), .ref (ad (24 + 5 * t))] (PX dC dI ad S)) (va_Qi (fun r S' => (∃ z, r = bI z) ∧ KA S S') (PX dC dI ad) (AX ad)) 0 0 (AX ad) := by
  refine Met.ofW (cc := cX0_isRefiningSound) (maxL := 4) (ret := (some .boolean)) pl_X0 rfl ?_
  intro p e s m args below meth c s₁ B hml hv
  obtain ⟨rfl, hPX⟩ := hv
  have hx := B.exec
  have hb := B.bytes
  have hr := B.returns
  have hts := atoms_spec (ws := wsX0_isRefiningSound) B.pre
  have hown : s.vm.findClass RX0 = some m.cls := findClass_of_methodNamed B.named
  have hlocks := B.notSynchronized
  have hin0 : ∀ w ∈ u_ws RX0 TX0 4, w ∈ wsX0_isRefiningSound := tu 1325 (by decide +kernel) rfl
  have hX := WX.of hPX
  have hl := lv_entry ([.ref (ad 56), .ref (ad (24 + 5 * j)), .ref (ad (24 + 5 * t))]) (n := 4) (Nat.le_of_ble_eq_true rfl)
  rw [lg_entry_eq]
  generalize (lg_sl ([.ref (ad 56), .ref (ad (24 + 5 * j)), .ref (ad (24 + 5 * t))]) ++ List.replicate (4 - (lg_sl ([.ref (ad 56), .ref (ad (24 + 5 * j)), .ref (ad (24 + 5 * t))])).length) Slot.unset).toArray = ls at hl ⊢
  have hl : lv_has ls 4 [(0, .ref (ad 56)), (1, .ref (ad (24 + 5 * j))), (2, .ref (ad (24 + 5 * t)))] := hl
  show W p l e ({ frames := 4, cells := 0, slots := 0, locals := 95 } : Room) s m ([.ref (ad 56), .ref (ad (24 + 5 * j)), .ref (ad (24 + 5 * t))]).toArray below meth c s.heap [] 0 0 (MQ below (va_Qi (fun r S' => (∃ z, r = bI z) ∧ KA S S') (PX dC dI ad) (AX ad)) ([.ref (ad 56), .ref (ad (24 + 5 * j)), .ref (ad (24 + 5 * t))]).toArray s 0 0 (AX ad)) (F0 m 0 ls [])
  have hK := KA_refl hI
  have h6 : (S.1 6).2.2 = (S.1 6).2.2 := rfl
  have h7 : (S.1 7).2.2 = (S.1 7).2.2 := rfl
  refine lv_aload_n hx hb dX0_isRefiningSound_0 rfl (lv_at hl 1 rfl) ?_
  refine lv_aload_n hx hb dX0_isRefiningSound_1 rfl (lv_at hl 2 rfl) ?_
  refine kx_cr (v := bI (finerB (S.2.1 j).2.2.1 (S.2.1 t).2.2.1)) (va_runV (As := [.ref (ad (24 + 5 * t))]) (rest := []) ⟨hx, hb, hml, hown, hts⟩ (m_X1_isFinerThan l dC dI ad S j t (by omega) (by omega) (hK.1.2 j (by omega)) (hK.1.2 t (by omega))) (cwV 1 hts gX0_isRefiningSound_X1_isFinerThan rfl rfl rfl hdX1_isFinerThan_1 ⟨Nat.le_of_ble_eq_true rfl, Nat.le_of_ble_eq_true rfl⟩) (hX.preOrd (by omega)) rfl rfl hl.1 rfl (lv_room (Nat.le_of_ble_eq_true rfl)) dX0_isRefiningSound_2 ⟨Nat.le_of_ble_eq_true rfl, Nat.le_of_ble_eq_true rfl⟩) (fun _ h => h) ?_
  refine lv_istore_n (lv' := [(3, .int (bI (finerB (S.2.1 j).2.2.1 (S.2.1 t).2.2.1))), (0, .ref (ad 56)), (1, .ref (ad (24 + 5 * j))), (2, .ref (ad (24 + 5 * t)))]) hx hb dX0_isRefiningSound_5 rfl hl (by decide) rfl (fun ls hl => ?_)
  refine lv_aload_n hx hb dX0_isRefiningSound_6 rfl (lv_at hl 1 rfl) ?_
  refine ka_gm hx hb hts hin0 hown hX (hts (.fieldLink RX0 31 "Orderlattice$Auditor" "made" "LOrderlattice$Order;") (tm 15 (by decide +kernel) rfl)) dX0_isRefiningSound_7 ?_
  refine lv_aload_n hx hb dX0_isRefiningSound_10 rfl (lv_at hl 2 rfl) ?_
  refine lv_aload_n hx hb dX0_isRefiningSound_11 rfl (lv_at hl 3 rfl) ?_
  refine kx_cv (va_runV (As := [.ref (ad (24 + 5 * j)), .ref (ad (24 + 5 * t))]) (rest := []) ⟨hx, hb, hml, hown, hts⟩ (m_X1_becomeProductOf l dC dI ad S 5 j t (by decide) (by omega) (by omega) (hK.1.2 5 (by decide)).1 (hK.1.2 j (by omega)).1 (hK.1.2 t (by omega)).1 (by omega) (by omega) (by rw [hK.2.2.2 j (by omega), hK.2.2.2 t (by omega)]; omega)) (cwV 2 hts gX0_isRefiningSound_X1_becomeProductOf rfl rfl rfl hdX1_becomeProductOf_2 ⟨Nat.le_of_ble_eq_true rfl, Nat.le_of_ble_eq_true rfl⟩) (hX.preOrd (by omega)) rfl rfl hl.1 rfl (lv_room (Nat.le_of_ble_eq_true rfl)) dX0_isRefiningSound_12 ⟨Nat.le_of_ble_eq_true rfl, Nat.le_of_ble_eq_true rfl⟩) hX (fun _ h => h) (fun S_1 H locs hw hX => ?_)
  replace h6 := (show (S_1.1 6).2.2 = (S.1 6).2.2 by rw [hw, xO_row]).trans h6
  replace h7 := (show (S_1.1 7).2.2 = (S.1 7).2.2 by rw [hw, xO_row]).trans h7
  replace hK := (show KA S S_1 by rw [hw]; exact KA_ord hK (newO_ok (stepOK_apn2 (D := fun _ => false) (c := fun _ => 0) (r := fun _ => 0) (cl := 0) (hK.1.2 5 (by decide)).1 (hK.1.2 j (by omega)).1 (hK.1.2 t (by omega)).1 (by rw [hK.2.2.2 j (by omega), hK.2.2.2 t (by omega)]; omega))))
  clear hw
  refine lv_iload_n hx hb dX0_isRefiningSound_15 rfl (lv_at hl 0 rfl) ?_
  refine lv_aload_n hx hb dX0_isRefiningSound_16 rfl (lv_at hl 1 rfl) ?_
  refine lv_aload_n hx hb dX0_isRefiningSound_17 rfl (lv_at hl 2 rfl) ?_
  refine lv_aload_n hx hb dX0_isRefiningSound_18 rfl (lv_at hl 3 rfl) ?_
  refine kx_ci (va_runV (As := [.ref (ad (24 + 5 * j)), .ref (ad (24 + 5 * t))]) (rest := [.int (bI (finerB (S.2.1 j).2.2.1 (S.2.1 t).2.2.1))]) ⟨hx, hb, hml, hown, hts⟩ (m_X0_isFinerBySorting l dC dI ad S_1 j t (by omega) (by omega) hK.1) (cwV 2 hts gX0_isRefiningSound_X0_isFinerBySorting rfl rfl rfl hdX0_isFinerBySorting_2 ⟨Nat.le_of_ble_eq_true rfl, Nat.le_of_ble_eq_true rfl⟩) (hX.preTop 56 2 (by decide) (by decide) rfl rfl) rfl rfl hl.1 rfl (lv_room (Nat.le_of_ble_eq_true rfl)) dX0_isRefiningSound_19 ⟨Nat.le_of_ble_eq_true rfl, Nat.le_of_ble_eq_true rfl⟩) hX (fun _ h => h) (fun r_ S_2 H locs hw hX => ?_)
  obtain ⟨⟨z_3, rfl⟩, hK9⟩ := hw
  replace hK := KA_trans hK hK9
  refine lv_icmp_ne (tgt := 55) hx hb dX0_isRefiningSound_22 (by decide) (fun k_4 => ?_) (fun k_4 => ?_)
  · skip
    refine lv_iconst (v := bI false) hx hb dX0_isRefiningSound_55 (by decide) ?_
    exact W.zret (v := bI false) hx hb hr (bI_narrow _) (fun t9 ht9 hW9 => ⟨⟨_, S_2, rfl, ⟨⟨_, rfl⟩, hK⟩, hX.P ht9 hW9⟩, hX.2.2.2.F ht9⟩) hX.2.2.2.2.2 dX0_isRefiningSound_56
  · skip
    refine lv_iload_n hx hb dX0_isRefiningSound_25 rfl (lv_at hl 0 rfl) ?_
    refine kb_if_eq (tgt := 40) hx hb dX0_isRefiningSound_26 (by decide) (fun k_5 => ?_) (fun k_5 => ?_)
    · skip
      refine lv_aload_n hx hb dX0_isRefiningSound_40 rfl (lv_at hl 1 rfl) ?_
      refine ka_gm hx hb hts hin0 hown hX (hts (.fieldLink RX0 31 "Orderlattice$Auditor" "made" "LOrderlattice$Order;") (tm 15 (by decide +kernel) rfl)) dX0_isRefiningSound_41 ?_
      refine lv_aload_n hx hb dX0_isRefiningSound_44 rfl (lv_at hl 2 rfl) ?_
      refine kx_cr (v := bI (finerB (S_2.2.1 5).2.2.1 (S_2.2.1 j).2.2.1)) (va_runV (As := [.ref (ad (24 + 5 * j))]) (rest := []) ⟨hx, hb, hml, hown, hts⟩ (m_X1_isFinerThan l dC dI ad S_2 5 j (by omega) (by omega) (hK.1.2 5 (by omega)) (hK.1.2 j (by omega))) (cwV 1 hts gX0_isRefiningSound_X1_isFinerThan rfl rfl rfl hdX1_isFinerThan_1 ⟨Nat.le_of_ble_eq_true rfl, Nat.le_of_ble_eq_true rfl⟩) (hX.preOrd (by omega)) rfl rfl hl.1 rfl (lv_room (Nat.le_of_ble_eq_true rfl)) dX0_isRefiningSound_45 ⟨Nat.le_of_ble_eq_true rfl, Nat.le_of_ble_eq_true rfl⟩) (fun _ h => h) ?_
      refine kb_if_eq (tgt := 55) hx hb dX0_isRefiningSound_48 (by decide) (fun k_6 => ?_) (fun k_6 => ?_)
      · skip
        refine lv_iconst (v := bI false) hx hb dX0_isRefiningSound_55 (by decide) ?_
        exact W.zret (v := bI false) hx hb hr (bI_narrow _) (fun t9 ht9 hW9 => ⟨⟨_, S_2, rfl, ⟨⟨_, rfl⟩, hK⟩, hX.P ht9 hW9⟩, hX.2.2.2.F ht9⟩) hX.2.2.2.2.2 dX0_isRefiningSound_56
      · skip
        refine lv_iconst (v := bI true) hx hb dX0_isRefiningSound_51 (by decide) ?_
        refine lv_goto (tgt := 56) hx hb dX0_isRefiningSound_52 (by decide) ?_
        exact W.zret (v := bI true) hx hb hr (bI_narrow _) (fun t9 ht9 hW9 => ⟨⟨_, S_2, rfl, ⟨⟨_, rfl⟩, hK⟩, hX.P ht9 hW9⟩, hX.2.2.2.F ht9⟩) hX.2.2.2.2.2 dX0_isRefiningSound_56
    · skip
      refine lv_aload_n hx hb dX0_isRefiningSound_29 rfl (lv_at hl 2 rfl) ?_
      refine kx_cr (v := nI ((S_2.2.1 j).2.2.2.2.2)) (va_runV (As := []) (rest := []) ⟨hx, hb, hml, hown, hts⟩ (m_X1_classCount l dC dI ad S_2 j (by omega)) (cwV 0 hts gX0_isRefiningSound_X1_classCount rfl rfl rfl hdX1_classCount_0 ⟨Nat.le_of_ble_eq_true rfl, Nat.le_of_ble_eq_true rfl⟩) (hX.preOrd (by omega)) rfl rfl hl.1 rfl (lv_room (Nat.le_of_ble_eq_true rfl)) dX0_isRefiningSound_30 ⟨Nat.le_of_ble_eq_true rfl, Nat.le_of_ble_eq_true rfl⟩) (fun _ h => h) ?_
      refine lv_aload_n hx hb dX0_isRefiningSound_33 rfl (lv_at hl 3 rfl) ?_
      refine kx_cr (v := nI ((S_2.2.1 t).2.2.2.2.2)) (va_runV (As := []) (rest := [.int (nI ((S_2.2.1 j).2.2.2.2.2))]) ⟨hx, hb, hml, hown, hts⟩ (m_X1_classCount l dC dI ad S_2 t (by omega)) (cwV 0 hts gX0_isRefiningSound_X1_classCount rfl rfl rfl hdX1_classCount_0 ⟨Nat.le_of_ble_eq_true rfl, Nat.le_of_ble_eq_true rfl⟩) (hX.preOrd (by omega)) rfl rfl hl.1 rfl (lv_room (Nat.le_of_ble_eq_true rfl)) dX0_isRefiningSound_34 ⟨Nat.le_of_ble_eq_true rfl, Nat.le_of_ble_eq_true rfl⟩) (fun _ h => h) ?_
      have hc1 := ordOK.cls (hK.1.2 j (by omega))
      have hc2 := ordOK.cls (hK.1.2 t (by omega))
      refine kn_icmp_lt (tgt := 55) hx hb (by omega) (by omega) dX0_isRefiningSound_37 (by decide) (fun k_7 => ?_) (fun k_7 => ?_)
      · skip
        refine lv_iconst (v := bI false) hx hb dX0_isRefiningSound_55 (by decide) ?_
        exact W.zret (v := bI false) hx hb hr (bI_narrow _) (fun t9 ht9 hW9 => ⟨⟨_, S_2, rfl, ⟨⟨_, rfl⟩, hK⟩, hX.P ht9 hW9⟩, hX.2.2.2.F ht9⟩) hX.2.2.2.2.2 dX0_isRefiningSound_56
      · skip
        refine lv_aload_n hx hb dX0_isRefiningSound_40 rfl (lv_at hl 1 rfl) ?_
        refine ka_gm hx hb hts hin0 hown hX (hts (.fieldLink RX0 31 "Orderlattice$Auditor" "made" "LOrderlattice$Order;") (tm 15 (by decide +kernel) rfl)) dX0_isRefiningSound_41 ?_
        refine lv_aload_n hx hb dX0_isRefiningSound_44 rfl (lv_at hl 2 rfl) ?_
        refine kx_cr (v := bI (finerB (S_2.2.1 5).2.2.1 (S_2.2.1 j).2.2.1)) (va_runV (As := [.ref (ad (24 + 5 * j))]) (rest := []) ⟨hx, hb, hml, hown, hts⟩ (m_X1_isFinerThan l dC dI ad S_2 5 j (by omega) (by omega) (hK.1.2 5 (by omega)) (hK.1.2 j (by omega))) (cwV 1 hts gX0_isRefiningSound_X1_isFinerThan rfl rfl rfl hdX1_isFinerThan_1 ⟨Nat.le_of_ble_eq_true rfl, Nat.le_of_ble_eq_true rfl⟩) (hX.preOrd (by omega)) rfl rfl hl.1 rfl (lv_room (Nat.le_of_ble_eq_true rfl)) dX0_isRefiningSound_45 ⟨Nat.le_of_ble_eq_true rfl, Nat.le_of_ble_eq_true rfl⟩) (fun _ h => h) ?_
        refine kb_if_eq (tgt := 55) hx hb dX0_isRefiningSound_48 (by decide) (fun k_8 => ?_) (fun k_8 => ?_)
        · skip
          refine lv_iconst (v := bI false) hx hb dX0_isRefiningSound_55 (by decide) ?_
          exact W.zret (v := bI false) hx hb hr (bI_narrow _) (fun t9 ht9 hW9 => ⟨⟨_, S_2, rfl, ⟨⟨_, rfl⟩, hK⟩, hX.P ht9 hW9⟩, hX.2.2.2.F ht9⟩) hX.2.2.2.2.2 dX0_isRefiningSound_56
        · skip
          refine lv_iconst (v := bI true) hx hb dX0_isRefiningSound_51 (by decide) ?_
          refine lv_goto (tgt := 56) hx hb dX0_isRefiningSound_52 (by decide) ?_
          exact W.zret (v := bI true) hx hb hr (bI_narrow _) (fun t9 ht9 hW9 => ⟨⟨_, S_2, rfl, ⟨⟨_, rfl⟩, hK⟩, hX.P ht9 hW9⟩, hX.2.2.2.F ht9⟩) hX.2.2.2.2.2 dX0_isRefiningSound_56
set_option maxHeartbeats 4000000 in
set_option maxRecDepth 100000 in
theorem m_X0_isProductAlike (l : Launch) (dC : Nat → ClassId) (dI : Nat → Nat → Nat) (ad : Nat → Nat) (S : XS) (i j t : Nat) (hi : i < 5) (hj : j < 5) (ht : t < 5) (hI : InvX S) (h5j : (S.2.1 j).2.2.2.2.1 ≤ 5) (h5t : (S.2.1 t).2.2.2.2.1 ≤ 5) : Met l yX0_isProductAlike wsX0_isProductAlike ({ frames := 4, cells := 0, slots := 0, locals := 105 } : Room) (va_Pc [.ref (ad 56), .ref (ad (3 * i)), .ref (ad (24 + 5 * j)), .ref (ad (24 + 5 * t))] (PX dC dI ad S)) (va_Qi (fun r S' => (∃ z, r = bI z) ∧ KA S S') (PX dC dI ad) (AX ad)) 0 0 (AX ad) := by
  refine Met.ofW (cc := cX0_isProductAlike) (maxL := 4) (ret := (some .boolean)) pl_X0 rfl ?_
  intro p e s m args below meth c s₁ B hml hv
  obtain ⟨rfl, hPX⟩ := hv
  have hx := B.exec
  have hb := B.bytes
  have hr := B.returns
  have hts := atoms_spec (ws := wsX0_isProductAlike) B.pre
  have hown : s.vm.findClass RX0 = some m.cls := findClass_of_methodNamed B.named
  have hlocks := B.notSynchronized
  have hin0 : ∀ w ∈ u_ws RX0 TX0 4, w ∈ wsX0_isProductAlike := tu 1325 (by decide +kernel) rfl
  have hX := WX.of hPX
  have hl := lv_entry ([.ref (ad 56), .ref (ad (3 * i)), .ref (ad (24 + 5 * j)), .ref (ad (24 + 5 * t))]) (n := 4) (Nat.le_of_ble_eq_true rfl)
  rw [lg_entry_eq]
  generalize (lg_sl ([.ref (ad 56), .ref (ad (3 * i)), .ref (ad (24 + 5 * j)), .ref (ad (24 + 5 * t))]) ++ List.replicate (4 - (lg_sl ([.ref (ad 56), .ref (ad (3 * i)), .ref (ad (24 + 5 * j)), .ref (ad (24 + 5 * t))])).length) Slot.unset).toArray = ls at hl ⊢
  have hl : lv_has ls 4 [(0, .ref (ad 56)), (1, .ref (ad (3 * i))), (2, .ref (ad (24 + 5 * j))), (3, .ref (ad (24 + 5 * t)))] := hl
  show W p l e ({ frames := 4, cells := 0, slots := 0, locals := 105 } : Room) s m ([.ref (ad 56), .ref (ad (3 * i)), .ref (ad (24 + 5 * j)), .ref (ad (24 + 5 * t))]).toArray below meth c s.heap [] 0 0 (MQ below (va_Qi (fun r S' => (∃ z, r = bI z) ∧ KA S S') (PX dC dI ad) (AX ad)) ([.ref (ad 56), .ref (ad (3 * i)), .ref (ad (24 + 5 * j)), .ref (ad (24 + 5 * t))]).toArray s 0 0 (AX ad)) (F0 m 0 ls [])
  have hK := KA_refl hI
  have h6 : (S.1 6).2.2 = (S.1 6).2.2 := rfl
  have h7 : (S.1 7).2.2 = (S.1 7).2.2 := rfl
  refine lv_aload_n hx hb dX0_isProductAlike_0 rfl (lv_at hl 0 rfl) ?_
  refine ka_gl hx hb hts hin0 hown hX (hts (.fieldLink RX0 21 "Orderlattice$Auditor" "left" "LOrderlattice$Row;") (tm 10 (by decide +kernel) rfl)) dX0_isProductAlike_1 ?_
  refine lv_aload_n hx hb dX0_isProductAlike_4 rfl (lv_at hl 1 rfl) ?_
  refine kx_cv (va_runV (As := [.ref (ad (3 * i))]) (rest := []) ⟨hx, hb, hml, hown, hts⟩ (m_X2_becomeCopyOf l dC dI ad S 6 i (by omega) (by omega) (hK.1.1 i (by omega)).1) (cwV 1 hts gX0_isProductAlike_X2_becomeCopyOf rfl rfl rfl hdX2_becomeCopyOf_1 ⟨Nat.le_of_ble_eq_true rfl, Nat.le_of_ble_eq_true rfl⟩) (hX.preRow (by omega)) rfl rfl hl.1 rfl (lv_room (Nat.le_of_ble_eq_true rfl)) dX0_isProductAlike_5 ⟨Nat.le_of_ble_eq_true rfl, Nat.le_of_ble_eq_true rfl⟩) hX (fun _ h => h) (fun S_1 H locs hw hX => ?_)
  replace h7 := (show (S_1.1 7).2.2 = (S.1 7).2.2 by rw [hw, xR_ne _ _ (by decide)]).trans h7
  replace h6 := (show (S_1.1 6).2.2 = (S.1 i).2.2 by rw [hw, xR_row]).trans (congrArg (fun r : RowS => r.2.2) (hK.2.2.1 i (by omega)))
  replace hK := (show KA S S_1 by rw [hw]; exact KA_row hK (by decide) (by decide) (rowOK_ovl (hK.1.1 6 (by omega)) (hK.1.1 i (by omega))))
  clear hw
  refine lv_aload_n hx hb dX0_isProductAlike_8 rfl (lv_at hl 0 rfl) ?_
  refine ka_gs hx hb hts hin0 hown hX (hts (.fieldLink RX0 12 "Orderlattice$Auditor" "sorter" "LOrderlattice$Sorter;") (tm 6 (by decide +kernel) rfl)) dX0_isProductAlike_9 ?_
  refine lv_aload_n hx hb dX0_isProductAlike_12 rfl (lv_at hl 0 rfl) ?_
  refine ka_gl hx hb hts hin0 hown hX (hts (.fieldLink RX0 21 "Orderlattice$Auditor" "left" "LOrderlattice$Row;") (tm 10 (by decide +kernel) rfl)) dX0_isProductAlike_13 ?_
  refine lv_aload_n hx hb dX0_isProductAlike_16 rfl (lv_at hl 2 rfl) ?_
  refine lv_iconst (v := nI 0) hx hb dX0_isProductAlike_17 (by decide) ?_
  refine kx_cv (va_runV (As := [.ref (ad (3 * 6)), .ref (ad (24 + 5 * j)), .int (nI 0)]) (rest := []) ⟨hx, hb, hml, hown, hts⟩ (m_X3_arrangeAll l dC dI ad S_1 1 6 j 0 (by decide) (by omega) (by omega) (hK.1.1 6 (by omega)) (hK.1.2 j (by omega)) (by decide) (hK.1.1 5 (by decide)) (by omega)) (cwV 3 hts gX0_isProductAlike_X3_arrangeAll rfl rfl rfl hdX3_arrangeAll_3 ⟨Nat.le_of_ble_eq_true rfl, Nat.le_of_ble_eq_true rfl⟩) (hX.preSor (by omega)) rfl rfl hl.1 rfl (lv_room (Nat.le_of_ble_eq_true rfl)) dX0_isProductAlike_18 ⟨Nat.le_of_ble_eq_true rfl, Nat.le_of_ble_eq_true rfl⟩) hX (fun _ h => h) (fun S_2 H locs hw hX => ?_)
  replace h6 := hw.2.2.2.2.trans h6
  replace h7 := (show (S_2.1 7).2.2 = (S_1.1 7).2.2 by rw [hw.2.1 7 (by decide) (by decide)]).trans h7
  replace hK := KA_arr hK hw (by decide) (by decide)
  clear hw
  refine lv_aload_n hx hb dX0_isProductAlike_21 rfl (lv_at hl 0 rfl) ?_
  refine ka_gs hx hb hts hin0 hown hX (hts (.fieldLink RX0 12 "Orderlattice$Auditor" "sorter" "LOrderlattice$Sorter;") (tm 6 (by decide +kernel) rfl)) dX0_isProductAlike_22 ?_
  refine lv_aload_n hx hb dX0_isProductAlike_25 rfl (lv_at hl 0 rfl) ?_
  refine ka_gl hx hb hts hin0 hown hX (hts (.fieldLink RX0 21 "Orderlattice$Auditor" "left" "LOrderlattice$Row;") (tm 10 (by decide +kernel) rfl)) dX0_isProductAlike_26 ?_
  refine lv_aload_n hx hb dX0_isProductAlike_29 rfl (lv_at hl 3 rfl) ?_
  refine lv_iconst (v := nI 0) hx hb dX0_isProductAlike_30 (by decide) ?_
  refine kx_cv (va_runV (As := [.ref (ad (3 * 6)), .ref (ad (24 + 5 * t)), .int (nI 0)]) (rest := []) ⟨hx, hb, hml, hown, hts⟩ (m_X3_arrangeAll l dC dI ad S_2 1 6 t 0 (by decide) (by omega) (by omega) (hK.1.1 6 (by omega)) (hK.1.2 t (by omega)) (by decide) (hK.1.1 5 (by decide)) (by omega)) (cwV 3 hts gX0_isProductAlike_X3_arrangeAll rfl rfl rfl hdX3_arrangeAll_3 ⟨Nat.le_of_ble_eq_true rfl, Nat.le_of_ble_eq_true rfl⟩) (hX.preSor (by omega)) rfl rfl hl.1 rfl (lv_room (Nat.le_of_ble_eq_true rfl)) dX0_isProductAlike_31 ⟨Nat.le_of_ble_eq_true rfl, Nat.le_of_ble_eq_true rfl⟩) hX (fun _ h => h) (fun S_3 H locs hw hX => ?_)
  replace h6 := hw.2.2.2.2.trans h6
  replace h7 := (show (S_3.1 7).2.2 = (S_2.1 7).2.2 by rw [hw.2.1 7 (by decide) (by decide)]).trans h7
  replace hK := KA_arr hK hw (by decide) (by decide)
  clear hw
  refine lv_aload_n hx hb dX0_isProductAlike_34 rfl (lv_at hl 0 rfl) ?_
  refine ka_gm hx hb hts hin0 hown hX (hts (.fieldLink RX0 31 "Orderlattice$Auditor" "made" "LOrderlattice$Order;") (tm 15 (by decide +kernel) rfl)) dX0_isProductAlike_35 ?_
  refine lv_aload_n hx hb dX0_isProductAlike_38 rfl (lv_at hl 3 rfl) ?_
  refine lv_aload_n hx hb dX0_isProductAlike_39 rfl (lv_at hl 2 rfl) ?_
  refine kx_cv (va_runV (As := [.ref (ad (24 + 5 * t)), .ref (ad (24 + 5 * j))]) (rest := []) ⟨hx, hb, hml, hown, hts⟩ (m_X1_becomeProductOf l dC dI ad S_3 5 t j (by decide) (by omega) (by omega) (hK.1.2 5 (by decide)).1 (hK.1.2 t (by omega)).1 (hK.1.2 j (by omega)).1 (by omega) (by omega) (by rw [hK.2.2.2 t (by omega), hK.2.2.2 j (by omega)]; omega)) (cwV 2 hts gX0_isProductAlike_X1_becomeProductOf rfl rfl rfl hdX1_becomeProductOf_2 ⟨Nat.le_of_ble_eq_true rfl, Nat.le_of_ble_eq_true rfl⟩) (hX.preOrd (by omega)) rfl rfl hl.1 rfl (lv_room (Nat.le_of_ble_eq_true rfl)) dX0_isProductAlike_40 ⟨Nat.le_of_ble_eq_true rfl, Nat.le_of_ble_eq_true rfl⟩) hX (fun _ h => h) (fun S_4 H locs hw hX => ?_)
  replace h6 := (show (S_4.1 6).2.2 = (S_3.1 6).2.2 by rw [hw, xO_row]).trans h6
  replace h7 := (show (S_4.1 7).2.2 = (S_3.1 7).2.2 by rw [hw, xO_row]).trans h7
  replace hK := (show KA S S_4 by rw [hw]; exact KA_ord hK (newO_ok (stepOK_apn2 (D := fun _ => false) (c := fun _ => 0) (r := fun _ => 0) (cl := 0) (hK.1.2 5 (by decide)).1 (hK.1.2 t (by omega)).1 (hK.1.2 j (by omega)).1 (by rw [hK.2.2.2 t (by omega), hK.2.2.2 j (by omega)]; omega))))
  clear hw
  refine lv_aload_n hx hb dX0_isProductAlike_43 rfl (lv_at hl 0 rfl) ?_
  refine ka_gr hx hb hts hin0 hown hX (hts (.fieldLink RX0 25 "Orderlattice$Auditor" "right" "LOrderlattice$Row;") (tm 11 (by decide +kernel) rfl)) dX0_isProductAlike_44 ?_
  refine lv_aload_n hx hb dX0_isProductAlike_47 rfl (lv_at hl 1 rfl) ?_
  refine kx_cv (va_runV (As := [.ref (ad (3 * i))]) (rest := []) ⟨hx, hb, hml, hown, hts⟩ (m_X2_becomeCopyOf l dC dI ad S_4 7 i (by omega) (by omega) (hK.1.1 i (by omega)).1) (cwV 1 hts gX0_isProductAlike_X2_becomeCopyOf rfl rfl rfl hdX2_becomeCopyOf_1 ⟨Nat.le_of_ble_eq_true rfl, Nat.le_of_ble_eq_true rfl⟩) (hX.preRow (by omega)) rfl rfl hl.1 rfl (lv_room (Nat.le_of_ble_eq_true rfl)) dX0_isProductAlike_48 ⟨Nat.le_of_ble_eq_true rfl, Nat.le_of_ble_eq_true rfl⟩) hX (fun _ h => h) (fun S_5 H locs hw hX => ?_)
  replace h6 := (show (S_5.1 6).2.2 = (S_4.1 6).2.2 by rw [hw, xR_ne _ _ (by decide)]).trans h6
  replace h7 := (show (S_5.1 7).2.2 = (S_4.1 i).2.2 by rw [hw, xR_row]).trans (congrArg (fun r : RowS => r.2.2) (hK.2.2.1 i (by omega)))
  replace hK := (show KA S S_5 by rw [hw]; exact KA_row hK (by decide) (by decide) (rowOK_ovl (hK.1.1 7 (by omega)) (hK.1.1 i (by omega))))
  clear hw
  refine lv_aload_n hx hb dX0_isProductAlike_51 rfl (lv_at hl 0 rfl) ?_
  refine ka_gs hx hb hts hin0 hown hX (hts (.fieldLink RX0 12 "Orderlattice$Auditor" "sorter" "LOrderlattice$Sorter;") (tm 6 (by decide +kernel) rfl)) dX0_isProductAlike_52 ?_
  refine lv_aload_n hx hb dX0_isProductAlike_55 rfl (lv_at hl 0 rfl) ?_
  refine ka_gr hx hb hts hin0 hown hX (hts (.fieldLink RX0 25 "Orderlattice$Auditor" "right" "LOrderlattice$Row;") (tm 11 (by decide +kernel) rfl)) dX0_isProductAlike_56 ?_
  refine lv_aload_n hx hb dX0_isProductAlike_59 rfl (lv_at hl 0 rfl) ?_
  refine ka_gm hx hb hts hin0 hown hX (hts (.fieldLink RX0 31 "Orderlattice$Auditor" "made" "LOrderlattice$Order;") (tm 15 (by decide +kernel) rfl)) dX0_isProductAlike_60 ?_
  refine lv_iconst (v := nI 0) hx hb dX0_isProductAlike_63 (by decide) ?_
  refine kx_cv (va_runV (As := [.ref (ad (3 * 7)), .ref (ad (24 + 5 * 5)), .int (nI 0)]) (rest := []) ⟨hx, hb, hml, hown, hts⟩ (m_X3_arrangeAll l dC dI ad S_5 1 7 5 0 (by decide) (by omega) (by omega) (hK.1.1 7 (by omega)) (hK.1.2 5 (by omega)) (by decide) (hK.1.1 5 (by decide)) (by omega)) (cwV 3 hts gX0_isProductAlike_X3_arrangeAll rfl rfl rfl hdX3_arrangeAll_3 ⟨Nat.le_of_ble_eq_true rfl, Nat.le_of_ble_eq_true rfl⟩) (hX.preSor (by omega)) rfl rfl hl.1 rfl (lv_room (Nat.le_of_ble_eq_true rfl)) dX0_isProductAlike_64 ⟨Nat.le_of_ble_eq_true rfl, Nat.le_of_ble_eq_true rfl⟩) hX (fun _ h => h) (fun S_6 H locs hw hX => ?_)
  replace h7 := hw.2.2.2.2.trans h7
  replace h6 := (show (S_6.1 6).2.2 = (S_5.1 6).2.2 by rw [hw.2.1 6 (by decide) (by decide)]).trans h6
  replace hK := KA_arr hK hw (by decide) (by decide)
  clear hw
  refine lv_aload_n hx hb dX0_isProductAlike_67 rfl (lv_at hl 0 rfl) ?_
  refine ka_gl hx hb hts hin0 hown hX (hts (.fieldLink RX0 21 "Orderlattice$Auditor" "left" "LOrderlattice$Row;") (tm 10 (by decide +kernel) rfl)) dX0_isProductAlike_68 ?_
  refine lv_aload_n hx hb dX0_isProductAlike_71 rfl (lv_at hl 0 rfl) ?_
  refine ka_gr hx hb hts hin0 hown hX (hts (.fieldLink RX0 25 "Orderlattice$Auditor" "right" "LOrderlattice$Row;") (tm 11 (by decide +kernel) rfl)) dX0_isProductAlike_72 ?_
  refine kx_cr (v := bI (decide ((S_6.1 6).2.2 = (S_6.1 7).2.2 ∧ ∀ k, k < (S_6.1 6).2.2 → (S_6.1 6).2.1 k = (S_6.1 7).2.1 k ∧ (S_6.1 6).1 k = (S_6.1 7).1 k))) (va_runV (As := [.ref (ad (3 * 7))]) (rest := []) ⟨hx, hb, hml, hown, hts⟩ (m_X2_isLike l dC dI ad S_6 6 7 (by omega) (by omega) (hK.1.1 6 (by omega)) (hK.1.1 7 (by omega))) (cwV 1 hts gX0_isProductAlike_X2_isLike rfl rfl rfl hdX2_isLike_1 ⟨Nat.le_of_ble_eq_true rfl, Nat.le_of_ble_eq_true rfl⟩) (hX.preRow (by omega)) rfl rfl hl.1 rfl (lv_room (Nat.le_of_ble_eq_true rfl)) dX0_isProductAlike_75 ⟨Nat.le_of_ble_eq_true rfl, Nat.le_of_ble_eq_true rfl⟩) (fun _ h => h) ?_
  exact W.zret (v := bI (decide ((S_6.1 6).2.2 = (S_6.1 7).2.2 ∧ ∀ k, k < (S_6.1 6).2.2 → (S_6.1 6).2.1 k = (S_6.1 7).2.1 k ∧ (S_6.1 6).1 k = (S_6.1 7).1 k))) hx hb hr (bI_narrow _) (fun t9 ht9 hW9 => ⟨⟨_, S_6, rfl, ⟨⟨_, rfl⟩, hK⟩, hX.P ht9 hW9⟩, hX.2.2.2.F ht9⟩) hX.2.2.2.2.2 dX0_isProductAlike_78
set_option maxHeartbeats 4000000 in
set_option maxRecDepth 100000 in
theorem m_X0_staysSorted (l : Launch) (dC : Nat → ClassId) (dI : Nat → Nat → Nat) (ad : Nat → Nat) (S : XS) (i j : Nat) (hi : i < 5) (hj : j < 5) (hI : InvX S) : Met l yX0_staysSorted wsX0_staysSorted ({ frames := 4, cells := 0, slots := 0, locals := 105 } : Room) (va_Pc [.ref (ad 56), .ref (ad (3 * i)), .ref (ad (24 + 5 * j))] (PX dC dI ad S)) (va_Qi (fun r S' => (∃ z, r = bI z) ∧ KA S S') (PX dC dI ad) (AX ad)) 0 0 (AX ad) := by
  refine Met.ofW (cc := cX0_staysSorted) (maxL := 3) (ret := (some .boolean)) pl_X0 rfl ?_
  intro p e s m args below meth c s₁ B hml hv
  obtain ⟨rfl, hPX⟩ := hv
  have hx := B.exec
  have hb := B.bytes
  have hr := B.returns
  have hts := atoms_spec (ws := wsX0_staysSorted) B.pre
  have hown : s.vm.findClass RX0 = some m.cls := findClass_of_methodNamed B.named
  have hlocks := B.notSynchronized
  have hin0 : ∀ w ∈ u_ws RX0 TX0 4, w ∈ wsX0_staysSorted := tu 1325 (by decide +kernel) rfl
  have hX := WX.of hPX
  have hl := lv_entry ([.ref (ad 56), .ref (ad (3 * i)), .ref (ad (24 + 5 * j))]) (n := 3) (Nat.le_of_ble_eq_true rfl)
  rw [lg_entry_eq]
  generalize (lg_sl ([.ref (ad 56), .ref (ad (3 * i)), .ref (ad (24 + 5 * j))]) ++ List.replicate (3 - (lg_sl ([.ref (ad 56), .ref (ad (3 * i)), .ref (ad (24 + 5 * j))])).length) Slot.unset).toArray = ls at hl ⊢
  have hl : lv_has ls 3 [(0, .ref (ad 56)), (1, .ref (ad (3 * i))), (2, .ref (ad (24 + 5 * j)))] := hl
  show W p l e ({ frames := 4, cells := 0, slots := 0, locals := 105 } : Room) s m ([.ref (ad 56), .ref (ad (3 * i)), .ref (ad (24 + 5 * j))]).toArray below meth c s.heap [] 0 0 (MQ below (va_Qi (fun r S' => (∃ z, r = bI z) ∧ KA S S') (PX dC dI ad) (AX ad)) ([.ref (ad 56), .ref (ad (3 * i)), .ref (ad (24 + 5 * j))]).toArray s 0 0 (AX ad)) (F0 m 0 ls [])
  have hK := KA_refl hI
  have h6 : (S.1 6).2.2 = (S.1 6).2.2 := rfl
  have h7 : (S.1 7).2.2 = (S.1 7).2.2 := rfl
  refine lv_aload_n hx hb dX0_staysSorted_0 rfl (lv_at hl 0 rfl) ?_
  refine ka_gl hx hb hts hin0 hown hX (hts (.fieldLink RX0 21 "Orderlattice$Auditor" "left" "LOrderlattice$Row;") (tm 10 (by decide +kernel) rfl)) dX0_staysSorted_1 ?_
  refine lv_aload_n hx hb dX0_staysSorted_4 rfl (lv_at hl 1 rfl) ?_
  refine kx_cv (va_runV (As := [.ref (ad (3 * i))]) (rest := []) ⟨hx, hb, hml, hown, hts⟩ (m_X2_becomeCopyOf l dC dI ad S 6 i (by omega) (by omega) (hK.1.1 i (by omega)).1) (cwV 1 hts gX0_staysSorted_X2_becomeCopyOf rfl rfl rfl hdX2_becomeCopyOf_1 ⟨Nat.le_of_ble_eq_true rfl, Nat.le_of_ble_eq_true rfl⟩) (hX.preRow (by omega)) rfl rfl hl.1 rfl (lv_room (Nat.le_of_ble_eq_true rfl)) dX0_staysSorted_5 ⟨Nat.le_of_ble_eq_true rfl, Nat.le_of_ble_eq_true rfl⟩) hX (fun _ h => h) (fun S_1 H locs hw hX => ?_)
  replace h7 := (show (S_1.1 7).2.2 = (S.1 7).2.2 by rw [hw, xR_ne _ _ (by decide)]).trans h7
  replace h6 := (show (S_1.1 6).2.2 = (S.1 i).2.2 by rw [hw, xR_row]).trans (congrArg (fun r : RowS => r.2.2) (hK.2.2.1 i (by omega)))
  replace hK := (show KA S S_1 by rw [hw]; exact KA_row hK (by decide) (by decide) (rowOK_ovl (hK.1.1 6 (by omega)) (hK.1.1 i (by omega))))
  clear hw
  refine lv_aload_n hx hb dX0_staysSorted_8 rfl (lv_at hl 0 rfl) ?_
  refine ka_gs hx hb hts hin0 hown hX (hts (.fieldLink RX0 12 "Orderlattice$Auditor" "sorter" "LOrderlattice$Sorter;") (tm 6 (by decide +kernel) rfl)) dX0_staysSorted_9 ?_
  refine lv_aload_n hx hb dX0_staysSorted_12 rfl (lv_at hl 0 rfl) ?_
  refine ka_gl hx hb hts hin0 hown hX (hts (.fieldLink RX0 21 "Orderlattice$Auditor" "left" "LOrderlattice$Row;") (tm 10 (by decide +kernel) rfl)) dX0_staysSorted_13 ?_
  refine lv_aload_n hx hb dX0_staysSorted_16 rfl (lv_at hl 2 rfl) ?_
  refine lv_iconst (v := nI 0) hx hb dX0_staysSorted_17 (by decide) ?_
  refine kx_cv (va_runV (As := [.ref (ad (3 * 6)), .ref (ad (24 + 5 * j)), .int (nI 0)]) (rest := []) ⟨hx, hb, hml, hown, hts⟩ (m_X3_arrangeAll l dC dI ad S_1 1 6 j 0 (by decide) (by omega) (by omega) (hK.1.1 6 (by omega)) (hK.1.2 j (by omega)) (by decide) (hK.1.1 5 (by decide)) (by omega)) (cwV 3 hts gX0_staysSorted_X3_arrangeAll rfl rfl rfl hdX3_arrangeAll_3 ⟨Nat.le_of_ble_eq_true rfl, Nat.le_of_ble_eq_true rfl⟩) (hX.preSor (by omega)) rfl rfl hl.1 rfl (lv_room (Nat.le_of_ble_eq_true rfl)) dX0_staysSorted_18 ⟨Nat.le_of_ble_eq_true rfl, Nat.le_of_ble_eq_true rfl⟩) hX (fun _ h => h) (fun S_2 H locs hw hX => ?_)
  replace h6 := hw.2.2.2.2.trans h6
  replace h7 := (show (S_2.1 7).2.2 = (S_1.1 7).2.2 by rw [hw.2.1 7 (by decide) (by decide)]).trans h7
  replace hK := KA_arr hK hw (by decide) (by decide)
  clear hw
  refine lv_aload_n hx hb dX0_staysSorted_21 rfl (lv_at hl 0 rfl) ?_
  refine ka_gr hx hb hts hin0 hown hX (hts (.fieldLink RX0 25 "Orderlattice$Auditor" "right" "LOrderlattice$Row;") (tm 11 (by decide +kernel) rfl)) dX0_staysSorted_22 ?_
  refine lv_aload_n hx hb dX0_staysSorted_25 rfl (lv_at hl 0 rfl) ?_
  refine ka_gl hx hb hts hin0 hown hX (hts (.fieldLink RX0 21 "Orderlattice$Auditor" "left" "LOrderlattice$Row;") (tm 10 (by decide +kernel) rfl)) dX0_staysSorted_26 ?_
  refine kx_cv (va_runV (As := [.ref (ad (3 * 6))]) (rest := []) ⟨hx, hb, hml, hown, hts⟩ (m_X2_becomeCopyOf l dC dI ad S_2 7 6 (by omega) (by omega) (hK.1.1 6 (by omega)).1) (cwV 1 hts gX0_staysSorted_X2_becomeCopyOf rfl rfl rfl hdX2_becomeCopyOf_1 ⟨Nat.le_of_ble_eq_true rfl, Nat.le_of_ble_eq_true rfl⟩) (hX.preRow (by omega)) rfl rfl hl.1 rfl (lv_room (Nat.le_of_ble_eq_true rfl)) dX0_staysSorted_29 ⟨Nat.le_of_ble_eq_true rfl, Nat.le_of_ble_eq_true rfl⟩) hX (fun _ h => h) (fun S_3 H locs hw hX => ?_)
  replace h7 := (show (S_3.1 7).2.2 = (S_2.1 6).2.2 by rw [hw, xR_row]).trans h6
  replace h6 := (show (S_3.1 6).2.2 = (S_2.1 6).2.2 by rw [hw, xR_ne _ _ (by decide)]).trans h6
  replace hK := (show KA S S_3 by rw [hw]; exact KA_row hK (by decide) (by decide) (rowOK_ovl (hK.1.1 7 (by omega)) (hK.1.1 6 (by omega))))
  clear hw
  refine lv_aload_n hx hb dX0_staysSorted_32 rfl (lv_at hl 0 rfl) ?_
  refine ka_gs hx hb hts hin0 hown hX (hts (.fieldLink RX0 12 "Orderlattice$Auditor" "sorter" "LOrderlattice$Sorter;") (tm 6 (by decide +kernel) rfl)) dX0_staysSorted_33 ?_
  refine lv_aload_n hx hb dX0_staysSorted_36 rfl (lv_at hl 0 rfl) ?_
  refine ka_gr hx hb hts hin0 hown hX (hts (.fieldLink RX0 25 "Orderlattice$Auditor" "right" "LOrderlattice$Row;") (tm 11 (by decide +kernel) rfl)) dX0_staysSorted_37 ?_
  refine lv_aload_n hx hb dX0_staysSorted_40 rfl (lv_at hl 2 rfl) ?_
  refine lv_iconst (v := nI 0) hx hb dX0_staysSorted_41 (by decide) ?_
  refine kx_cv (va_runV (As := [.ref (ad (3 * 7)), .ref (ad (24 + 5 * j)), .int (nI 0)]) (rest := []) ⟨hx, hb, hml, hown, hts⟩ (m_X3_arrangeAll l dC dI ad S_3 1 7 j 0 (by decide) (by omega) (by omega) (hK.1.1 7 (by omega)) (hK.1.2 j (by omega)) (by decide) (hK.1.1 5 (by decide)) (by omega)) (cwV 3 hts gX0_staysSorted_X3_arrangeAll rfl rfl rfl hdX3_arrangeAll_3 ⟨Nat.le_of_ble_eq_true rfl, Nat.le_of_ble_eq_true rfl⟩) (hX.preSor (by omega)) rfl rfl hl.1 rfl (lv_room (Nat.le_of_ble_eq_true rfl)) dX0_staysSorted_42 ⟨Nat.le_of_ble_eq_true rfl, Nat.le_of_ble_eq_true rfl⟩) hX (fun _ h => h) (fun S_4 H locs hw hX => ?_)
  replace h7 := hw.2.2.2.2.trans h7
  replace h6 := (show (S_4.1 6).2.2 = (S_3.1 6).2.2 by rw [hw.2.1 6 (by decide) (by decide)]).trans h6
  replace hK := KA_arr hK hw (by decide) (by decide)
  clear hw
  refine lv_aload_n hx hb dX0_staysSorted_45 rfl (lv_at hl 0 rfl) ?_
  refine ka_gl hx hb hts hin0 hown hX (hts (.fieldLink RX0 21 "Orderlattice$Auditor" "left" "LOrderlattice$Row;") (tm 10 (by decide +kernel) rfl)) dX0_staysSorted_46 ?_
  refine lv_aload_n hx hb dX0_staysSorted_49 rfl (lv_at hl 2 rfl) ?_
  refine kx_cr (v := bI (seqB (S_4.2.1 j).2.2.1 (S_4.1 6).1 (S_4.1 6).2.2)) (va_runV (As := [.ref (ad (24 + 5 * j))]) (rest := []) ⟨hx, hb, hml, hown, hts⟩ (m_X2_isInSequenceBy l dC dI ad S_4 6 j (by omega) (by omega) (hK.1.1 6 (by omega)) (hK.1.2 j (by omega))) (cwV 1 hts gX0_staysSorted_X2_isInSequenceBy rfl rfl rfl hdX2_isInSequenceBy_1 ⟨Nat.le_of_ble_eq_true rfl, Nat.le_of_ble_eq_true rfl⟩) (hX.preRow (by omega)) rfl rfl hl.1 rfl (lv_room (Nat.le_of_ble_eq_true rfl)) dX0_staysSorted_50 ⟨Nat.le_of_ble_eq_true rfl, Nat.le_of_ble_eq_true rfl⟩) (fun _ h => h) ?_
  refine kb_if_eq (tgt := 74) hx hb dX0_staysSorted_53 (by decide) (fun k_5 => ?_) (fun k_5 => ?_)
  · skip
    refine lv_iconst (v := bI false) hx hb dX0_staysSorted_74 (by decide) ?_
    exact W.zret (v := bI false) hx hb hr (bI_narrow _) (fun t9 ht9 hW9 => ⟨⟨_, S_4, rfl, ⟨⟨_, rfl⟩, hK⟩, hX.P ht9 hW9⟩, hX.2.2.2.F ht9⟩) hX.2.2.2.2.2 dX0_staysSorted_75
  · skip
    refine lv_aload_n hx hb dX0_staysSorted_56 rfl (lv_at hl 0 rfl) ?_
    refine ka_gl hx hb hts hin0 hown hX (hts (.fieldLink RX0 21 "Orderlattice$Auditor" "left" "LOrderlattice$Row;") (tm 10 (by decide +kernel) rfl)) dX0_staysSorted_57 ?_
    refine lv_aload_n hx hb dX0_staysSorted_60 rfl (lv_at hl 0 rfl) ?_
    refine ka_gr hx hb hts hin0 hown hX (hts (.fieldLink RX0 25 "Orderlattice$Auditor" "right" "LOrderlattice$Row;") (tm 11 (by decide +kernel) rfl)) dX0_staysSorted_61 ?_
    refine kx_cr (v := bI (decide ((S_4.1 6).2.2 = (S_4.1 7).2.2 ∧ ∀ k, k < (S_4.1 6).2.2 → (S_4.1 6).2.1 k = (S_4.1 7).2.1 k ∧ (S_4.1 6).1 k = (S_4.1 7).1 k))) (va_runV (As := [.ref (ad (3 * 7))]) (rest := []) ⟨hx, hb, hml, hown, hts⟩ (m_X2_isLike l dC dI ad S_4 6 7 (by omega) (by omega) (hK.1.1 6 (by omega)) (hK.1.1 7 (by omega))) (cwV 1 hts gX0_staysSorted_X2_isLike rfl rfl rfl hdX2_isLike_1 ⟨Nat.le_of_ble_eq_true rfl, Nat.le_of_ble_eq_true rfl⟩) (hX.preRow (by omega)) rfl rfl hl.1 rfl (lv_room (Nat.le_of_ble_eq_true rfl)) dX0_staysSorted_64 ⟨Nat.le_of_ble_eq_true rfl, Nat.le_of_ble_eq_true rfl⟩) (fun _ h => h) ?_
    refine kb_if_eq (tgt := 74) hx hb dX0_staysSorted_67 (by decide) (fun k_6 => ?_) (fun k_6 => ?_)
    · skip
      refine lv_iconst (v := bI false) hx hb dX0_staysSorted_74 (by decide) ?_
      exact W.zret (v := bI false) hx hb hr (bI_narrow _) (fun t9 ht9 hW9 => ⟨⟨_, S_4, rfl, ⟨⟨_, rfl⟩, hK⟩, hX.P ht9 hW9⟩, hX.2.2.2.F ht9⟩) hX.2.2.2.2.2 dX0_staysSorted_75
    · skip
      refine lv_iconst (v := bI true) hx hb dX0_staysSorted_70 (by decide) ?_
      refine lv_goto (tgt := 75) hx hb dX0_staysSorted_71 (by decide) ?_
      exact W.zret (v := bI true) hx hb hr (bI_narrow _) (fun t9 ht9 hW9 => ⟨⟨_, S_4, rfl, ⟨⟨_, rfl⟩, hK⟩, hX.P ht9 hW9⟩, hX.2.2.2.F ht9⟩) hX.2.2.2.2.2 dX0_staysSorted_75
set_option maxHeartbeats 4000000 in
set_option maxRecDepth 100000 in
theorem m_X0_isTurnedAlike (l : Launch) (dC : Nat → ClassId) (dI : Nat → Nat → Nat) (ad : Nat → Nat) (S : XS) (i j : Nat) (hi : i < 5) (hj : j < 5) (hI : InvX S) : Met l yX0_isTurnedAlike wsX0_isTurnedAlike ({ frames := 4, cells := 0, slots := 0, locals := 105 } : Room) (va_Pc [.ref (ad 56), .ref (ad (3 * i)), .ref (ad (24 + 5 * j))] (PX dC dI ad S)) (va_Qi (fun r S' => (∃ z, r = bI z) ∧ KA S S') (PX dC dI ad) (AX ad)) 0 0 (AX ad) := by
  refine Met.ofW (cc := cX0_isTurnedAlike) (maxL := 3) (ret := (some .boolean)) pl_X0 rfl ?_
  intro p e s m args below meth c s₁ B hml hv
  obtain ⟨rfl, hPX⟩ := hv
  have hx := B.exec
  have hb := B.bytes
  have hr := B.returns
  have hts := atoms_spec (ws := wsX0_isTurnedAlike) B.pre
  have hown : s.vm.findClass RX0 = some m.cls := findClass_of_methodNamed B.named
  have hlocks := B.notSynchronized
  have hin0 : ∀ w ∈ u_ws RX0 TX0 4, w ∈ wsX0_isTurnedAlike := tu 1325 (by decide +kernel) rfl
  have hX := WX.of hPX
  have hl := lv_entry ([.ref (ad 56), .ref (ad (3 * i)), .ref (ad (24 + 5 * j))]) (n := 3) (Nat.le_of_ble_eq_true rfl)
  rw [lg_entry_eq]
  generalize (lg_sl ([.ref (ad 56), .ref (ad (3 * i)), .ref (ad (24 + 5 * j))]) ++ List.replicate (3 - (lg_sl ([.ref (ad 56), .ref (ad (3 * i)), .ref (ad (24 + 5 * j))])).length) Slot.unset).toArray = ls at hl ⊢
  have hl : lv_has ls 3 [(0, .ref (ad 56)), (1, .ref (ad (3 * i))), (2, .ref (ad (24 + 5 * j)))] := hl
  show W p l e ({ frames := 4, cells := 0, slots := 0, locals := 105 } : Room) s m ([.ref (ad 56), .ref (ad (3 * i)), .ref (ad (24 + 5 * j))]).toArray below meth c s.heap [] 0 0 (MQ below (va_Qi (fun r S' => (∃ z, r = bI z) ∧ KA S S') (PX dC dI ad) (AX ad)) ([.ref (ad 56), .ref (ad (3 * i)), .ref (ad (24 + 5 * j))]).toArray s 0 0 (AX ad)) (F0 m 0 ls [])
  have hK := KA_refl hI
  have h6 : (S.1 6).2.2 = (S.1 6).2.2 := rfl
  have h7 : (S.1 7).2.2 = (S.1 7).2.2 := rfl
  refine lv_aload_n hx hb dX0_isTurnedAlike_0 rfl (lv_at hl 0 rfl) ?_
  refine ka_gl hx hb hts hin0 hown hX (hts (.fieldLink RX0 21 "Orderlattice$Auditor" "left" "LOrderlattice$Row;") (tm 10 (by decide +kernel) rfl)) dX0_isTurnedAlike_1 ?_
  refine lv_aload_n hx hb dX0_isTurnedAlike_4 rfl (lv_at hl 1 rfl) ?_
  refine kx_cv (va_runV (As := [.ref (ad (3 * i))]) (rest := []) ⟨hx, hb, hml, hown, hts⟩ (m_X2_becomeCopyOf l dC dI ad S 6 i (by omega) (by omega) (hK.1.1 i (by omega)).1) (cwV 1 hts gX0_isTurnedAlike_X2_becomeCopyOf rfl rfl rfl hdX2_becomeCopyOf_1 ⟨Nat.le_of_ble_eq_true rfl, Nat.le_of_ble_eq_true rfl⟩) (hX.preRow (by omega)) rfl rfl hl.1 rfl (lv_room (Nat.le_of_ble_eq_true rfl)) dX0_isTurnedAlike_5 ⟨Nat.le_of_ble_eq_true rfl, Nat.le_of_ble_eq_true rfl⟩) hX (fun _ h => h) (fun S_1 H locs hw hX => ?_)
  replace h7 := (show (S_1.1 7).2.2 = (S.1 7).2.2 by rw [hw, xR_ne _ _ (by decide)]).trans h7
  replace h6 := (show (S_1.1 6).2.2 = (S.1 i).2.2 by rw [hw, xR_row]).trans (congrArg (fun r : RowS => r.2.2) (hK.2.2.1 i (by omega)))
  replace hK := (show KA S S_1 by rw [hw]; exact KA_row hK (by decide) (by decide) (rowOK_ovl (hK.1.1 6 (by omega)) (hK.1.1 i (by omega))))
  clear hw
  refine lv_aload_n hx hb dX0_isTurnedAlike_8 rfl (lv_at hl 0 rfl) ?_
  refine ka_gl hx hb hts hin0 hown hX (hts (.fieldLink RX0 21 "Orderlattice$Auditor" "left" "LOrderlattice$Row;") (tm 10 (by decide +kernel) rfl)) dX0_isTurnedAlike_9 ?_
  refine kx_cv (va_runV (As := []) (rest := []) ⟨hx, hb, hml, hown, hts⟩ (m_X2_reverse l dC dI ad S_1 6 (by omega) (hK.1.1 6 (by omega)).1) (cwV 0 hts gX0_isTurnedAlike_X2_reverse rfl rfl rfl hdX2_reverse_0 ⟨Nat.le_of_ble_eq_true rfl, Nat.le_of_ble_eq_true rfl⟩) (hX.preRow (by omega)) rfl rfl hl.1 rfl (lv_room (Nat.le_of_ble_eq_true rfl)) dX0_isTurnedAlike_12 ⟨Nat.le_of_ble_eq_true rfl, Nat.le_of_ble_eq_true rfl⟩) hX (fun _ h => h) (fun S_2 H locs hw hX => ?_)
  replace h6 := (show (S_2.1 6).2.2 = (S_1.1 6).2.2 by rw [hw, xR_row]).trans h6
  replace h7 := (show (S_2.1 7).2.2 = (S_1.1 7).2.2 by rw [hw, xR_ne _ _ (by decide)]).trans h7
  replace hK := (show KA S S_2 by rw [hw]; exact KA_row hK (by decide) (by decide) (rowOK_rev (hK.1.1 6 (by omega))))
  clear hw
  refine lv_aload_n hx hb dX0_isTurnedAlike_15 rfl (lv_at hl 0 rfl) ?_
  refine ka_gs hx hb hts hin0 hown hX (hts (.fieldLink RX0 12 "Orderlattice$Auditor" "sorter" "LOrderlattice$Sorter;") (tm 6 (by decide +kernel) rfl)) dX0_isTurnedAlike_16 ?_
  refine lv_aload_n hx hb dX0_isTurnedAlike_19 rfl (lv_at hl 0 rfl) ?_
  refine ka_gl hx hb hts hin0 hown hX (hts (.fieldLink RX0 21 "Orderlattice$Auditor" "left" "LOrderlattice$Row;") (tm 10 (by decide +kernel) rfl)) dX0_isTurnedAlike_20 ?_
  refine lv_aload_n hx hb dX0_isTurnedAlike_23 rfl (lv_at hl 2 rfl) ?_
  refine lv_iconst (v := nI 0) hx hb dX0_isTurnedAlike_24 (by decide) ?_
  refine kx_cv (va_runV (As := [.ref (ad (3 * 6)), .ref (ad (24 + 5 * j)), .int (nI 0)]) (rest := []) ⟨hx, hb, hml, hown, hts⟩ (m_X3_arrangeAll l dC dI ad S_2 1 6 j 0 (by decide) (by omega) (by omega) (hK.1.1 6 (by omega)) (hK.1.2 j (by omega)) (by decide) (hK.1.1 5 (by decide)) (by omega)) (cwV 3 hts gX0_isTurnedAlike_X3_arrangeAll rfl rfl rfl hdX3_arrangeAll_3 ⟨Nat.le_of_ble_eq_true rfl, Nat.le_of_ble_eq_true rfl⟩) (hX.preSor (by omega)) rfl rfl hl.1 rfl (lv_room (Nat.le_of_ble_eq_true rfl)) dX0_isTurnedAlike_25 ⟨Nat.le_of_ble_eq_true rfl, Nat.le_of_ble_eq_true rfl⟩) hX (fun _ h => h) (fun S_3 H locs hw hX => ?_)
  replace h6 := hw.2.2.2.2.trans h6
  replace h7 := (show (S_3.1 7).2.2 = (S_2.1 7).2.2 by rw [hw.2.1 7 (by decide) (by decide)]).trans h7
  replace hK := KA_arr hK hw (by decide) (by decide)
  clear hw
  refine lv_aload_n hx hb dX0_isTurnedAlike_28 rfl (lv_at hl 0 rfl) ?_
  refine ka_gl hx hb hts hin0 hown hX (hts (.fieldLink RX0 21 "Orderlattice$Auditor" "left" "LOrderlattice$Row;") (tm 10 (by decide +kernel) rfl)) dX0_isTurnedAlike_29 ?_
  refine kx_cv (va_runV (As := []) (rest := []) ⟨hx, hb, hml, hown, hts⟩ (m_X2_reverse l dC dI ad S_3 6 (by omega) (hK.1.1 6 (by omega)).1) (cwV 0 hts gX0_isTurnedAlike_X2_reverse rfl rfl rfl hdX2_reverse_0 ⟨Nat.le_of_ble_eq_true rfl, Nat.le_of_ble_eq_true rfl⟩) (hX.preRow (by omega)) rfl rfl hl.1 rfl (lv_room (Nat.le_of_ble_eq_true rfl)) dX0_isTurnedAlike_32 ⟨Nat.le_of_ble_eq_true rfl, Nat.le_of_ble_eq_true rfl⟩) hX (fun _ h => h) (fun S_4 H locs hw hX => ?_)
  replace h6 := (show (S_4.1 6).2.2 = (S_3.1 6).2.2 by rw [hw, xR_row]).trans h6
  replace h7 := (show (S_4.1 7).2.2 = (S_3.1 7).2.2 by rw [hw, xR_ne _ _ (by decide)]).trans h7
  replace hK := (show KA S S_4 by rw [hw]; exact KA_row hK (by decide) (by decide) (rowOK_rev (hK.1.1 6 (by omega))))
  clear hw
  refine lv_aload_n hx hb dX0_isTurnedAlike_35 rfl (lv_at hl 0 rfl) ?_
  refine ka_gm hx hb hts hin0 hown hX (hts (.fieldLink RX0 31 "Orderlattice$Auditor" "made" "LOrderlattice$Order;") (tm 15 (by decide +kernel) rfl)) dX0_isTurnedAlike_36 ?_
  refine lv_aload_n hx hb dX0_isTurnedAlike_39 rfl (lv_at hl 2 rfl) ?_
  refine kx_cv (va_runV (As := [.ref (ad (24 + 5 * j))]) (rest := []) ⟨hx, hb, hml, hown, hts⟩ (m_X1_becomeCopyOf l dC dI ad S_4 5 j (by decide) (by omega) (hK.1.2 5 (by decide)).1 (hK.1.2 j (by omega)).1) (cwV 1 hts gX0_isTurnedAlike_X1_becomeCopyOf rfl rfl rfl hdX1_becomeCopyOf_1 ⟨Nat.le_of_ble_eq_true rfl, Nat.le_of_ble_eq_true rfl⟩) (hX.preOrd (by omega)) rfl rfl hl.1 rfl (lv_room (Nat.le_of_ble_eq_true rfl)) dX0_isTurnedAlike_40 ⟨Nat.le_of_ble_eq_true rfl, Nat.le_of_ble_eq_true rfl⟩) hX (fun _ h => h) (fun S_5 H locs hw hX => ?_)
  replace h6 := (show (S_5.1 6).2.2 = (S_4.1 6).2.2 by rw [hw, xO_row]).trans h6
  replace h7 := (show (S_5.1 7).2.2 = (S_4.1 7).2.2 by rw [hw, xO_row]).trans h7
  replace hK := (show KA S S_5 by rw [hw]; exact KA_ord hK (newO_ok (stepOK_apn0 (D := fun _ => false) (c := fun _ => 0) (r := fun _ => 0) (cl := 0) (hK.1.2 5 (by decide)).1 (hK.1.2 j (by omega)).1)))
  clear hw
  refine lv_aload_n hx hb dX0_isTurnedAlike_43 rfl (lv_at hl 0 rfl) ?_
  refine ka_gm hx hb hts hin0 hown hX (hts (.fieldLink RX0 31 "Orderlattice$Auditor" "made" "LOrderlattice$Order;") (tm 15 (by decide +kernel) rfl)) dX0_isTurnedAlike_44 ?_
  refine kx_cv (va_runV (As := []) (rest := []) ⟨hx, hb, hml, hown, hts⟩ (m_X1_reverse l dC dI ad S_5 5 (by decide) (hK.1.2 5 (by decide)).1) (cwV 0 hts gX0_isTurnedAlike_X1_reverse rfl rfl rfl hdX1_reverse_0 ⟨Nat.le_of_ble_eq_true rfl, Nat.le_of_ble_eq_true rfl⟩) (hX.preOrd (by omega)) rfl rfl hl.1 rfl (lv_room (Nat.le_of_ble_eq_true rfl)) dX0_isTurnedAlike_47 ⟨Nat.le_of_ble_eq_true rfl, Nat.le_of_ble_eq_true rfl⟩) hX (fun _ h => h) (fun S_6 H locs hw hX => ?_)
  replace h6 := (show (S_6.1 6).2.2 = (S_5.1 6).2.2 by rw [hw, xO_row]).trans h6
  replace h7 := (show (S_6.1 7).2.2 = (S_5.1 7).2.2 by rw [hw, xO_row]).trans h7
  replace hK := (show KA S S_6 by rw [hw]; exact KA_ord hK (newO_ok (hK.1.2 5 (by decide)).1))
  clear hw
  refine lv_aload_n hx hb dX0_isTurnedAlike_50 rfl (lv_at hl 0 rfl) ?_
  refine ka_gr hx hb hts hin0 hown hX (hts (.fieldLink RX0 25 "Orderlattice$Auditor" "right" "LOrderlattice$Row;") (tm 11 (by decide +kernel) rfl)) dX0_isTurnedAlike_51 ?_
  refine lv_aload_n hx hb dX0_isTurnedAlike_54 rfl (lv_at hl 1 rfl) ?_
  refine kx_cv (va_runV (As := [.ref (ad (3 * i))]) (rest := []) ⟨hx, hb, hml, hown, hts⟩ (m_X2_becomeCopyOf l dC dI ad S_6 7 i (by omega) (by omega) (hK.1.1 i (by omega)).1) (cwV 1 hts gX0_isTurnedAlike_X2_becomeCopyOf rfl rfl rfl hdX2_becomeCopyOf_1 ⟨Nat.le_of_ble_eq_true rfl, Nat.le_of_ble_eq_true rfl⟩) (hX.preRow (by omega)) rfl rfl hl.1 rfl (lv_room (Nat.le_of_ble_eq_true rfl)) dX0_isTurnedAlike_55 ⟨Nat.le_of_ble_eq_true rfl, Nat.le_of_ble_eq_true rfl⟩) hX (fun _ h => h) (fun S_7 H locs hw hX => ?_)
  replace h6 := (show (S_7.1 6).2.2 = (S_6.1 6).2.2 by rw [hw, xR_ne _ _ (by decide)]).trans h6
  replace h7 := (show (S_7.1 7).2.2 = (S_6.1 i).2.2 by rw [hw, xR_row]).trans (congrArg (fun r : RowS => r.2.2) (hK.2.2.1 i (by omega)))
  replace hK := (show KA S S_7 by rw [hw]; exact KA_row hK (by decide) (by decide) (rowOK_ovl (hK.1.1 7 (by omega)) (hK.1.1 i (by omega))))
  clear hw
  refine lv_aload_n hx hb dX0_isTurnedAlike_58 rfl (lv_at hl 0 rfl) ?_
  refine ka_gs hx hb hts hin0 hown hX (hts (.fieldLink RX0 12 "Orderlattice$Auditor" "sorter" "LOrderlattice$Sorter;") (tm 6 (by decide +kernel) rfl)) dX0_isTurnedAlike_59 ?_
  refine lv_aload_n hx hb dX0_isTurnedAlike_62 rfl (lv_at hl 0 rfl) ?_
  refine ka_gr hx hb hts hin0 hown hX (hts (.fieldLink RX0 25 "Orderlattice$Auditor" "right" "LOrderlattice$Row;") (tm 11 (by decide +kernel) rfl)) dX0_isTurnedAlike_63 ?_
  refine lv_aload_n hx hb dX0_isTurnedAlike_66 rfl (lv_at hl 0 rfl) ?_
  refine ka_gm hx hb hts hin0 hown hX (hts (.fieldLink RX0 31 "Orderlattice$Auditor" "made" "LOrderlattice$Order;") (tm 15 (by decide +kernel) rfl)) dX0_isTurnedAlike_67 ?_
  refine lv_iconst (v := nI 0) hx hb dX0_isTurnedAlike_70 (by decide) ?_
  refine kx_cv (va_runV (As := [.ref (ad (3 * 7)), .ref (ad (24 + 5 * 5)), .int (nI 0)]) (rest := []) ⟨hx, hb, hml, hown, hts⟩ (m_X3_arrangeAll l dC dI ad S_7 1 7 5 0 (by decide) (by omega) (by omega) (hK.1.1 7 (by omega)) (hK.1.2 5 (by omega)) (by decide) (hK.1.1 5 (by decide)) (by omega)) (cwV 3 hts gX0_isTurnedAlike_X3_arrangeAll rfl rfl rfl hdX3_arrangeAll_3 ⟨Nat.le_of_ble_eq_true rfl, Nat.le_of_ble_eq_true rfl⟩) (hX.preSor (by omega)) rfl rfl hl.1 rfl (lv_room (Nat.le_of_ble_eq_true rfl)) dX0_isTurnedAlike_71 ⟨Nat.le_of_ble_eq_true rfl, Nat.le_of_ble_eq_true rfl⟩) hX (fun _ h => h) (fun S_8 H locs hw hX => ?_)
  replace h7 := hw.2.2.2.2.trans h7
  replace h6 := (show (S_8.1 6).2.2 = (S_7.1 6).2.2 by rw [hw.2.1 6 (by decide) (by decide)]).trans h6
  replace hK := KA_arr hK hw (by decide) (by decide)
  clear hw
  refine lv_aload_n hx hb dX0_isTurnedAlike_74 rfl (lv_at hl 0 rfl) ?_
  refine ka_gl hx hb hts hin0 hown hX (hts (.fieldLink RX0 21 "Orderlattice$Auditor" "left" "LOrderlattice$Row;") (tm 10 (by decide +kernel) rfl)) dX0_isTurnedAlike_75 ?_
  refine lv_aload_n hx hb dX0_isTurnedAlike_78 rfl (lv_at hl 0 rfl) ?_
  refine ka_gr hx hb hts hin0 hown hX (hts (.fieldLink RX0 25 "Orderlattice$Auditor" "right" "LOrderlattice$Row;") (tm 11 (by decide +kernel) rfl)) dX0_isTurnedAlike_79 ?_
  refine kx_cr (v := bI (decide ((S_8.1 6).2.2 = (S_8.1 7).2.2 ∧ ∀ k, k < (S_8.1 6).2.2 → (S_8.1 6).2.1 k = (S_8.1 7).2.1 k ∧ (S_8.1 6).1 k = (S_8.1 7).1 k))) (va_runV (As := [.ref (ad (3 * 7))]) (rest := []) ⟨hx, hb, hml, hown, hts⟩ (m_X2_isLike l dC dI ad S_8 6 7 (by omega) (by omega) (hK.1.1 6 (by omega)) (hK.1.1 7 (by omega))) (cwV 1 hts gX0_isTurnedAlike_X2_isLike rfl rfl rfl hdX2_isLike_1 ⟨Nat.le_of_ble_eq_true rfl, Nat.le_of_ble_eq_true rfl⟩) (hX.preRow (by omega)) rfl rfl hl.1 rfl (lv_room (Nat.le_of_ble_eq_true rfl)) dX0_isTurnedAlike_82 ⟨Nat.le_of_ble_eq_true rfl, Nat.le_of_ble_eq_true rfl⟩) (fun _ h => h) ?_
  exact W.zret (v := bI (decide ((S_8.1 6).2.2 = (S_8.1 7).2.2 ∧ ∀ k, k < (S_8.1 6).2.2 → (S_8.1 6).2.1 k = (S_8.1 7).2.1 k ∧ (S_8.1 6).1 k = (S_8.1 7).1 k))) hx hb hr (bI_narrow _) (fun t9 ht9 hW9 => ⟨⟨_, S_8, rfl, ⟨⟨_, rfl⟩, hK⟩, hX.P ht9 hW9⟩, hX.2.2.2.F ht9⟩) hX.2.2.2.2.2 dX0_isTurnedAlike_85
set_option maxHeartbeats 4000000 in
set_option maxRecDepth 100000 in
theorem m_X0_areWaysAgreed (l : Launch) (dC : Nat → ClassId) (dI : Nat → Nat → Nat) (ad : Nat → Nat) (S : XS) (i j : Nat) (hi : i < 5) (hj : j < 5) (hI : InvX S) : Met l yX0_areWaysAgreed wsX0_areWaysAgreed ({ frames := 4, cells := 0, slots := 0, locals := 105 } : Room) (va_Pc [.ref (ad 56), .ref (ad (3 * i)), .ref (ad (24 + 5 * j))] (PX dC dI ad S)) (va_Qi (fun r S' => (∃ z, r = bI z) ∧ KA S S') (PX dC dI ad) (AX ad)) 0 0 (AX ad) := by
  refine Met.ofW (cc := cX0_areWaysAgreed) (maxL := 4) (ret := (some .boolean)) pl_X0 rfl ?_
  intro p e s m args below meth c s₁ B hml hv
  obtain ⟨rfl, hPX⟩ := hv
  have hx := B.exec
  have hb := B.bytes
  have hr := B.returns
  have hts := atoms_spec (ws := wsX0_areWaysAgreed) B.pre
  have hown : s.vm.findClass RX0 = some m.cls := findClass_of_methodNamed B.named
  have hlocks := B.notSynchronized
  have hin0 : ∀ w ∈ u_ws RX0 TX0 4, w ∈ wsX0_areWaysAgreed := tu 1325 (by decide +kernel) rfl
  have hX := WX.of hPX
  have hl := lv_entry ([.ref (ad 56), .ref (ad (3 * i)), .ref (ad (24 + 5 * j))]) (n := 4) (Nat.le_of_ble_eq_true rfl)
  rw [lg_entry_eq]
  generalize (lg_sl ([.ref (ad 56), .ref (ad (3 * i)), .ref (ad (24 + 5 * j))]) ++ List.replicate (4 - (lg_sl ([.ref (ad 56), .ref (ad (3 * i)), .ref (ad (24 + 5 * j))])).length) Slot.unset).toArray = ls at hl ⊢
  have hl : lv_has ls 4 [(0, .ref (ad 56)), (1, .ref (ad (3 * i))), (2, .ref (ad (24 + 5 * j)))] := hl
  show W p l e ({ frames := 4, cells := 0, slots := 0, locals := 105 } : Room) s m ([.ref (ad 56), .ref (ad (3 * i)), .ref (ad (24 + 5 * j))]).toArray below meth c s.heap [] 0 0 (MQ below (va_Qi (fun r S' => (∃ z, r = bI z) ∧ KA S S') (PX dC dI ad) (AX ad)) ([.ref (ad 56), .ref (ad (3 * i)), .ref (ad (24 + 5 * j))]).toArray s 0 0 (AX ad)) (F0 m 0 ls [])
  have hK := KA_refl hI
  have h6 : (S.1 6).2.2 = (S.1 6).2.2 := rfl
  have h7 : (S.1 7).2.2 = (S.1 7).2.2 := rfl
  refine lv_aload_n hx hb dX0_areWaysAgreed_0 rfl (lv_at hl 0 rfl) ?_
  refine ka_gl hx hb hts hin0 hown hX (hts (.fieldLink RX0 21 "Orderlattice$Auditor" "left" "LOrderlattice$Row;") (tm 10 (by decide +kernel) rfl)) dX0_areWaysAgreed_1 ?_
  refine lv_aload_n hx hb dX0_areWaysAgreed_4 rfl (lv_at hl 1 rfl) ?_
  refine kx_cv (va_runV (As := [.ref (ad (3 * i))]) (rest := []) ⟨hx, hb, hml, hown, hts⟩ (m_X2_becomeCopyOf l dC dI ad S 6 i (by omega) (by omega) (hK.1.1 i (by omega)).1) (cwV 1 hts gX0_areWaysAgreed_X2_becomeCopyOf rfl rfl rfl hdX2_becomeCopyOf_1 ⟨Nat.le_of_ble_eq_true rfl, Nat.le_of_ble_eq_true rfl⟩) (hX.preRow (by omega)) rfl rfl hl.1 rfl (lv_room (Nat.le_of_ble_eq_true rfl)) dX0_areWaysAgreed_5 ⟨Nat.le_of_ble_eq_true rfl, Nat.le_of_ble_eq_true rfl⟩) hX (fun _ h => h) (fun S_1 H locs hw hX => ?_)
  replace h7 := (show (S_1.1 7).2.2 = (S.1 7).2.2 by rw [hw, xR_ne _ _ (by decide)]).trans h7
  replace h6 := (show (S_1.1 6).2.2 = (S.1 i).2.2 by rw [hw, xR_row]).trans (congrArg (fun r : RowS => r.2.2) (hK.2.2.1 i (by omega)))
  replace hK := (show KA S S_1 by rw [hw]; exact KA_row hK (by decide) (by decide) (rowOK_ovl (hK.1.1 6 (by omega)) (hK.1.1 i (by omega))))
  clear hw
  refine lv_aload_n hx hb dX0_areWaysAgreed_8 rfl (lv_at hl 0 rfl) ?_
  refine ka_gs hx hb hts hin0 hown hX (hts (.fieldLink RX0 12 "Orderlattice$Auditor" "sorter" "LOrderlattice$Sorter;") (tm 6 (by decide +kernel) rfl)) dX0_areWaysAgreed_9 ?_
  refine lv_aload_n hx hb dX0_areWaysAgreed_12 rfl (lv_at hl 0 rfl) ?_
  refine ka_gl hx hb hts hin0 hown hX (hts (.fieldLink RX0 21 "Orderlattice$Auditor" "left" "LOrderlattice$Row;") (tm 10 (by decide +kernel) rfl)) dX0_areWaysAgreed_13 ?_
  refine lv_aload_n hx hb dX0_areWaysAgreed_16 rfl (lv_at hl 2 rfl) ?_
  refine lv_iconst (v := nI 0) hx hb dX0_areWaysAgreed_17 (by decide) ?_
  refine kx_cv (va_runV (As := [.ref (ad (3 * 6)), .ref (ad (24 + 5 * j)), .int (nI 0)]) (rest := []) ⟨hx, hb, hml, hown, hts⟩ (m_X3_arrangeAll l dC dI ad S_1 1 6 j 0 (by decide) (by omega) (by omega) (hK.1.1 6 (by omega)) (hK.1.2 j (by omega)) (by decide) (hK.1.1 5 (by decide)) (by omega)) (cwV 3 hts gX0_areWaysAgreed_X3_arrangeAll rfl rfl rfl hdX3_arrangeAll_3 ⟨Nat.le_of_ble_eq_true rfl, Nat.le_of_ble_eq_true rfl⟩) (hX.preSor (by omega)) rfl rfl hl.1 rfl (lv_room (Nat.le_of_ble_eq_true rfl)) dX0_areWaysAgreed_18 ⟨Nat.le_of_ble_eq_true rfl, Nat.le_of_ble_eq_true rfl⟩) hX (fun _ h => h) (fun S_2 H locs hw hX => ?_)
  replace h6 := hw.2.2.2.2.trans h6
  replace h7 := (show (S_2.1 7).2.2 = (S_1.1 7).2.2 by rw [hw.2.1 7 (by decide) (by decide)]).trans h7
  replace hK := KA_arr hK hw (by decide) (by decide)
  clear hw
  refine lv_iconst (v := nI 1) hx hb dX0_areWaysAgreed_21 (by decide) ?_
  refine lv_istore_n (lv' := [(3, .int (nI 1)), (0, .ref (ad 56)), (1, .ref (ad (3 * i))), (2, .ref (ad (24 + 5 * j)))]) hx hb dX0_areWaysAgreed_22 rfl hl (by decide) rfl (fun ls hl => ?_)
  have loop23 : ∀ (fuel : Nat) (S1 : XS) (y : Nat) (hK : KA S S1) (h67 : ∃ a b, (S1.1 6).2.2 = a ∧ (S1.1 7).2.2 = b) (hy : 1 ≤ y ∧ y ≤ 3) (H : Heap) (locs : List Loc), 3 - y < fuel → WX dC dI ad S1 (AX ad) s H locs → ∀ ls : Array Slot, lv_has ls 4 [(0, .ref (ad 56)), (1, .ref (ad (3 * i))), (2, .ref (ad (24 + 5 * j))), (3, .int (nI y))] → W p l e ({ frames := 4, cells := 0, slots := 0, locals := 105 } : Room) s m ([.ref (ad 56), .ref (ad (3 * i)), .ref (ad (24 + 5 * j))]).toArray below meth c H locs 0 0 (MQ below (va_Qi (fun r S' => (∃ z, r = bI z) ∧ KA S S') (PX dC dI ad) (AX ad)) ([.ref (ad 56), .ref (ad (3 * i)), .ref (ad (24 + 5 * j))]).toArray s 0 0 (AX ad)) (F0 m 23 ls []) := by
    intro fuel
    induction fuel with
    | zero => intro S1 y hK h67 hy H locs hf; exact absurd hf (Nat.not_lt_zero _)
    | succ fuel ih23 =>
      intro S1 y hK h67 hy H locs hf hX ls hl
      obtain ⟨_, _, h6, h7⟩ := h67
      refine lv_iload_n hx hb dX0_areWaysAgreed_23 rfl (lv_at hl 3 rfl) ?_
      refine lv_iconst (v := nI 3) hx hb dX0_areWaysAgreed_24 (by decide) ?_
      refine kn_icmp_ge (tgt := 71) hx hb (by omega) (by omega) dX0_areWaysAgreed_25 (by decide) (fun k_3 => ?_) (fun k_3 => ?_)
      · skip
        refine lv_iconst (v := bI true) hx hb dX0_areWaysAgreed_71 (by decide) ?_
        exact W.zret (v := bI true) hx hb hr (bI_narrow _) (fun t9 ht9 hW9 => ⟨⟨_, S1, rfl, ⟨⟨_, rfl⟩, hK⟩, hX.P ht9 hW9⟩, hX.2.2.2.F ht9⟩) hX.2.2.2.2.2 dX0_areWaysAgreed_72
      · skip
        refine lv_aload_n hx hb dX0_areWaysAgreed_28 rfl (lv_at hl 0 rfl) ?_
        refine ka_gr hx hb hts hin0 hown hX (hts (.fieldLink RX0 25 "Orderlattice$Auditor" "right" "LOrderlattice$Row;") (tm 11 (by decide +kernel) rfl)) dX0_areWaysAgreed_29 ?_
        refine lv_aload_n hx hb dX0_areWaysAgreed_32 rfl (lv_at hl 1 rfl) ?_
        refine kx_cv (va_runV (As := [.ref (ad (3 * i))]) (rest := []) ⟨hx, hb, hml, hown, hts⟩ (m_X2_becomeCopyOf l dC dI ad S1 7 i (by omega) (by omega) (hK.1.1 i (by omega)).1) (cwV 1 hts gX0_areWaysAgreed_X2_becomeCopyOf rfl rfl rfl hdX2_becomeCopyOf_1 ⟨Nat.le_of_ble_eq_true rfl, Nat.le_of_ble_eq_true rfl⟩) (hX.preRow (by omega)) rfl rfl hl.1 rfl (lv_room (Nat.le_of_ble_eq_true rfl)) dX0_areWaysAgreed_33 ⟨Nat.le_of_ble_eq_true rfl, Nat.le_of_ble_eq_true rfl⟩) hX (fun _ h => h) (fun S_4 H locs hw hX => ?_)
        replace h6 := (show (S_4.1 6).2.2 = (S1.1 6).2.2 by rw [hw, xR_ne _ _ (by decide)]).trans h6
        replace h7 := (show (S_4.1 7).2.2 = (S1.1 i).2.2 by rw [hw, xR_row]).trans (congrArg (fun r : RowS => r.2.2) (hK.2.2.1 i (by omega)))
        replace hK := (show KA S S_4 by rw [hw]; exact KA_row hK (by decide) (by decide) (rowOK_ovl (hK.1.1 7 (by omega)) (hK.1.1 i (by omega))))
        clear hw
        refine lv_aload_n hx hb dX0_areWaysAgreed_36 rfl (lv_at hl 0 rfl) ?_
        refine ka_gs hx hb hts hin0 hown hX (hts (.fieldLink RX0 12 "Orderlattice$Auditor" "sorter" "LOrderlattice$Sorter;") (tm 6 (by decide +kernel) rfl)) dX0_areWaysAgreed_37 ?_
        refine lv_aload_n hx hb dX0_areWaysAgreed_40 rfl (lv_at hl 0 rfl) ?_
        refine ka_gr hx hb hts hin0 hown hX (hts (.fieldLink RX0 25 "Orderlattice$Auditor" "right" "LOrderlattice$Row;") (tm 11 (by decide +kernel) rfl)) dX0_areWaysAgreed_41 ?_
        refine lv_aload_n hx hb dX0_areWaysAgreed_44 rfl (lv_at hl 2 rfl) ?_
        refine lv_iload_n hx hb dX0_areWaysAgreed_45 rfl (lv_at hl 3 rfl) ?_
        refine kx_cv (va_runV (As := [.ref (ad (3 * 7)), .ref (ad (24 + 5 * j)), .int (nI y)]) (rest := []) ⟨hx, hb, hml, hown, hts⟩ (m_X3_arrangeAll l dC dI ad S_4 1 7 j y (by decide) (by omega) (by omega) (hK.1.1 7 (by omega)) (hK.1.2 j (by omega)) (by decide) (hK.1.1 5 (by decide)) (by omega)) (cwV 3 hts gX0_areWaysAgreed_X3_arrangeAll rfl rfl rfl hdX3_arrangeAll_3 ⟨Nat.le_of_ble_eq_true rfl, Nat.le_of_ble_eq_true rfl⟩) (hX.preSor (by omega)) rfl rfl hl.1 rfl (lv_room (Nat.le_of_ble_eq_true rfl)) dX0_areWaysAgreed_46 ⟨Nat.le_of_ble_eq_true rfl, Nat.le_of_ble_eq_true rfl⟩) hX (fun _ h => h) (fun S_5 H locs hw hX => ?_)
        replace h7 := hw.2.2.2.2.trans h7
        replace h6 := (show (S_5.1 6).2.2 = (S_4.1 6).2.2 by rw [hw.2.1 6 (by decide) (by decide)]).trans h6
        replace hK := KA_arr hK hw (by decide) (by decide)
        clear hw
        refine lv_aload_n hx hb dX0_areWaysAgreed_49 rfl (lv_at hl 0 rfl) ?_
        refine ka_gl hx hb hts hin0 hown hX (hts (.fieldLink RX0 21 "Orderlattice$Auditor" "left" "LOrderlattice$Row;") (tm 10 (by decide +kernel) rfl)) dX0_areWaysAgreed_50 ?_
        refine lv_aload_n hx hb dX0_areWaysAgreed_53 rfl (lv_at hl 0 rfl) ?_
        refine ka_gr hx hb hts hin0 hown hX (hts (.fieldLink RX0 25 "Orderlattice$Auditor" "right" "LOrderlattice$Row;") (tm 11 (by decide +kernel) rfl)) dX0_areWaysAgreed_54 ?_
        refine kx_cr (v := bI (decide ((S_5.1 6).2.2 = (S_5.1 7).2.2 ∧ ∀ k, k < (S_5.1 6).2.2 → (S_5.1 6).2.1 k = (S_5.1 7).2.1 k ∧ (S_5.1 6).1 k = (S_5.1 7).1 k))) (va_runV (As := [.ref (ad (3 * 7))]) (rest := []) ⟨hx, hb, hml, hown, hts⟩ (m_X2_isLike l dC dI ad S_5 6 7 (by omega) (by omega) (hK.1.1 6 (by omega)) (hK.1.1 7 (by omega))) (cwV 1 hts gX0_areWaysAgreed_X2_isLike rfl rfl rfl hdX2_isLike_1 ⟨Nat.le_of_ble_eq_true rfl, Nat.le_of_ble_eq_true rfl⟩) (hX.preRow (by omega)) rfl rfl hl.1 rfl (lv_room (Nat.le_of_ble_eq_true rfl)) dX0_areWaysAgreed_57 ⟨Nat.le_of_ble_eq_true rfl, Nat.le_of_ble_eq_true rfl⟩) (fun _ h => h) ?_
        refine kb_if_ne (tgt := 65) hx hb dX0_areWaysAgreed_60 (by decide) (fun k_6 => ?_) (fun k_6 => ?_)
        · skip
          refine lv_iinc (v := nI (y + 1)) (lv' := [(3, .int (nI (y + 1))), (0, .ref (ad 56)), (1, .ref (ad (3 * i))), (2, .ref (ad (24 + 5 * j)))]) hx hb dX0_areWaysAgreed_65 hl (k := 3) rfl (nI_1 y) (by decide) rfl (fun ls hl => ?_)
          refine lv_goto (tgt := 23) hx hb dX0_areWaysAgreed_68 (by decide) ?_
          exact ih23  S_5 (y + 1) hK ⟨_, _, h6, h7⟩ (by omega) _ _ (by omega) hX _ (lv_sub hl [1, 2, 3, 0] rfl)
        · skip
          refine lv_iconst (v := bI false) hx hb dX0_areWaysAgreed_63 (by decide) ?_
          exact W.zret (v := bI false) hx hb hr (bI_narrow _) (fun t9 ht9 hW9 => ⟨⟨_, S_5, rfl, ⟨⟨_, rfl⟩, hK⟩, hX.P ht9 hW9⟩, hX.2.2.2.F ht9⟩) hX.2.2.2.2.2 dX0_areWaysAgreed_64
  exact loop23 (3 + 1) S_2 1 hK ⟨_, _, h6, h7⟩ (by omega) _ _ (by omega) (WX.eqS rfl hX) _ (lv_sub hl [1, 2, 3, 0] rfl)
set_option maxHeartbeats 4000000 in
set_option maxRecDepth 100000 in
theorem m_X0_isQueuedAlike (l : Launch) (dC : Nat → ClassId) (dI : Nat → Nat → Nat) (ad : Nat → Nat) (S : XS) (i j : Nat) (hi : i < 5) (hj : j < 5) (hI : InvX S) : Met l yX0_isQueuedAlike wsX0_isQueuedAlike ({ frames := 4, cells := 0, slots := 0, locals := 105 } : Room) (va_Pc [.ref (ad 56), .ref (ad (3 * i)), .ref (ad (24 + 5 * j))] (PX dC dI ad S)) (va_Qi (fun r S' => (∃ z, r = bI z) ∧ KA S S') (PX dC dI ad) (AX ad)) 0 0 (AX ad) := by
  refine Met.ofW (cc := cX0_isQueuedAlike) (maxL := 5) (ret := (some .boolean)) pl_X0 rfl ?_
  intro p e s m args below meth c s₁ B hml hv
  obtain ⟨rfl, hPX⟩ := hv
  have hx := B.exec
  have hb := B.bytes
  have hr := B.returns
  have hts := atoms_spec (ws := wsX0_isQueuedAlike) B.pre
  have hown : s.vm.findClass RX0 = some m.cls := findClass_of_methodNamed B.named
  have hlocks := B.notSynchronized
  have hin0 : ∀ w ∈ u_ws RX0 TX0 4, w ∈ wsX0_isQueuedAlike := tu 1325 (by decide +kernel) rfl
  have hX := WX.of hPX
  have hl := lv_entry ([.ref (ad 56), .ref (ad (3 * i)), .ref (ad (24 + 5 * j))]) (n := 5) (Nat.le_of_ble_eq_true rfl)
  rw [lg_entry_eq]
  generalize (lg_sl ([.ref (ad 56), .ref (ad (3 * i)), .ref (ad (24 + 5 * j))]) ++ List.replicate (5 - (lg_sl ([.ref (ad 56), .ref (ad (3 * i)), .ref (ad (24 + 5 * j))])).length) Slot.unset).toArray = ls at hl ⊢
  have hl : lv_has ls 5 [(0, .ref (ad 56)), (1, .ref (ad (3 * i))), (2, .ref (ad (24 + 5 * j)))] := hl
  show W p l e ({ frames := 4, cells := 0, slots := 0, locals := 105 } : Room) s m ([.ref (ad 56), .ref (ad (3 * i)), .ref (ad (24 + 5 * j))]).toArray below meth c s.heap [] 0 0 (MQ below (va_Qi (fun r S' => (∃ z, r = bI z) ∧ KA S S') (PX dC dI ad) (AX ad)) ([.ref (ad 56), .ref (ad (3 * i)), .ref (ad (24 + 5 * j))]).toArray s 0 0 (AX ad)) (F0 m 0 ls [])
  have hK := KA_refl hI
  have h6 : (S.1 6).2.2 = (S.1 6).2.2 := rfl
  have h7 : (S.1 7).2.2 = (S.1 7).2.2 := rfl
  have hn9 := (hI.1 i (by omega)).1
  refine lv_aload_n hx hb dX0_isQueuedAlike_0 rfl (lv_at hl 0 rfl) ?_
  refine ka_gl hx hb hts hin0 hown hX (hts (.fieldLink RX0 21 "Orderlattice$Auditor" "left" "LOrderlattice$Row;") (tm 10 (by decide +kernel) rfl)) dX0_isQueuedAlike_1 ?_
  refine lv_aload_n hx hb dX0_isQueuedAlike_4 rfl (lv_at hl 1 rfl) ?_
  refine kx_cv (va_runV (As := [.ref (ad (3 * i))]) (rest := []) ⟨hx, hb, hml, hown, hts⟩ (m_X2_becomeCopyOf l dC dI ad S 6 i (by omega) (by omega) (hK.1.1 i (by omega)).1) (cwV 1 hts gX0_isQueuedAlike_X2_becomeCopyOf rfl rfl rfl hdX2_becomeCopyOf_1 ⟨Nat.le_of_ble_eq_true rfl, Nat.le_of_ble_eq_true rfl⟩) (hX.preRow (by omega)) rfl rfl hl.1 rfl (lv_room (Nat.le_of_ble_eq_true rfl)) dX0_isQueuedAlike_5 ⟨Nat.le_of_ble_eq_true rfl, Nat.le_of_ble_eq_true rfl⟩) hX (fun _ h => h) (fun S_1 H locs hw hX => ?_)
  replace h7 := (show (S_1.1 7).2.2 = (S.1 7).2.2 by rw [hw, xR_ne _ _ (by decide)]).trans h7
  replace h6 := (show (S_1.1 6).2.2 = (S.1 i).2.2 by rw [hw, xR_row]).trans (congrArg (fun r : RowS => r.2.2) (hK.2.2.1 i (by omega)))
  replace hK := (show KA S S_1 by rw [hw]; exact KA_row hK (by decide) (by decide) (rowOK_ovl (hK.1.1 6 (by omega)) (hK.1.1 i (by omega))))
  clear hw
  refine lv_aload_n hx hb dX0_isQueuedAlike_8 rfl (lv_at hl 0 rfl) ?_
  refine ka_gs hx hb hts hin0 hown hX (hts (.fieldLink RX0 12 "Orderlattice$Auditor" "sorter" "LOrderlattice$Sorter;") (tm 6 (by decide +kernel) rfl)) dX0_isQueuedAlike_9 ?_
  refine lv_aload_n hx hb dX0_isQueuedAlike_12 rfl (lv_at hl 0 rfl) ?_
  refine ka_gl hx hb hts hin0 hown hX (hts (.fieldLink RX0 21 "Orderlattice$Auditor" "left" "LOrderlattice$Row;") (tm 10 (by decide +kernel) rfl)) dX0_isQueuedAlike_13 ?_
  refine lv_aload_n hx hb dX0_isQueuedAlike_16 rfl (lv_at hl 2 rfl) ?_
  refine lv_iconst (v := nI 0) hx hb dX0_isQueuedAlike_17 (by decide) ?_
  refine kx_cv (va_runV (As := [.ref (ad (3 * 6)), .ref (ad (24 + 5 * j)), .int (nI 0)]) (rest := []) ⟨hx, hb, hml, hown, hts⟩ (m_X3_arrangeAll l dC dI ad S_1 1 6 j 0 (by decide) (by omega) (by omega) (hK.1.1 6 (by omega)) (hK.1.2 j (by omega)) (by decide) (hK.1.1 5 (by decide)) (by omega)) (cwV 3 hts gX0_isQueuedAlike_X3_arrangeAll rfl rfl rfl hdX3_arrangeAll_3 ⟨Nat.le_of_ble_eq_true rfl, Nat.le_of_ble_eq_true rfl⟩) (hX.preSor (by omega)) rfl rfl hl.1 rfl (lv_room (Nat.le_of_ble_eq_true rfl)) dX0_isQueuedAlike_18 ⟨Nat.le_of_ble_eq_true rfl, Nat.le_of_ble_eq_true rfl⟩) hX (fun _ h => h) (fun S_2 H locs hw hX => ?_)
  replace h6 := hw.2.2.2.2.trans h6
  replace h7 := (show (S_2.1 7).2.2 = (S_1.1 7).2.2 by rw [hw.2.1 7 (by decide) (by decide)]).trans h7
  replace hK := KA_arr hK hw (by decide) (by decide)
  clear hw
  refine lv_aload_n hx hb dX0_isQueuedAlike_21 rfl (lv_at hl 0 rfl) ?_
  refine ka_gr hx hb hts hin0 hown hX (hts (.fieldLink RX0 25 "Orderlattice$Auditor" "right" "LOrderlattice$Row;") (tm 11 (by decide +kernel) rfl)) dX0_isQueuedAlike_22 ?_
  refine lv_aload_n hx hb dX0_isQueuedAlike_25 rfl (lv_at hl 1 rfl) ?_
  refine kx_cv (va_runV (As := [.ref (ad (3 * i))]) (rest := []) ⟨hx, hb, hml, hown, hts⟩ (m_X2_becomeCopyOf l dC dI ad S_2 7 i (by omega) (by omega) (hK.1.1 i (by omega)).1) (cwV 1 hts gX0_isQueuedAlike_X2_becomeCopyOf rfl rfl rfl hdX2_becomeCopyOf_1 ⟨Nat.le_of_ble_eq_true rfl, Nat.le_of_ble_eq_true rfl⟩) (hX.preRow (by omega)) rfl rfl hl.1 rfl (lv_room (Nat.le_of_ble_eq_true rfl)) dX0_isQueuedAlike_26 ⟨Nat.le_of_ble_eq_true rfl, Nat.le_of_ble_eq_true rfl⟩) hX (fun _ h => h) (fun S_3 H locs hw hX => ?_)
  replace h6 := (show (S_3.1 6).2.2 = (S_2.1 6).2.2 by rw [hw, xR_ne _ _ (by decide)]).trans h6
  replace h7 := (show (S_3.1 7).2.2 = (S_2.1 i).2.2 by rw [hw, xR_row]).trans (congrArg (fun r : RowS => r.2.2) (hK.2.2.1 i (by omega)))
  replace hK := (show KA S S_3 by rw [hw]; exact KA_row hK (by decide) (by decide) (rowOK_ovl (hK.1.1 7 (by omega)) (hK.1.1 i (by omega))))
  clear hw
  refine lv_iconst (v := nI 0) hx hb dX0_isQueuedAlike_29 (by decide) ?_
  refine lv_istore_n (lv' := [(3, .int (nI 0)), (0, .ref (ad 56)), (1, .ref (ad (3 * i))), (2, .ref (ad (24 + 5 * j)))]) hx hb dX0_isQueuedAlike_30 rfl hl (by decide) rfl (fun ls hl => ?_)
  have loop31 : ∀ (fuel : Nat) (S1 : XS) (q : Nat) (hK : KA S S1) (h6 : (S1.1 6).2.2 = (S.1 i).2.2) (h7 : (S1.1 7).2.2 = (S.1 i).2.2 - q) (hq : q ≤ (S.1 i).2.2) (H : Heap) (locs : List Loc), (S.1 i).2.2 - q < fuel → WX dC dI ad S1 (AX ad) s H locs → ∀ ls : Array Slot, lv_has ls 5 [(0, .ref (ad 56)), (1, .ref (ad (3 * i))), (2, .ref (ad (24 + 5 * j))), (3, .int (nI q))] → W p l e ({ frames := 4, cells := 0, slots := 0, locals := 105 } : Room) s m ([.ref (ad 56), .ref (ad (3 * i)), .ref (ad (24 + 5 * j))]).toArray below meth c H locs 0 0 (MQ below (va_Qi (fun r S' => (∃ z, r = bI z) ∧ KA S S') (PX dC dI ad) (AX ad)) ([.ref (ad 56), .ref (ad (3 * i)), .ref (ad (24 + 5 * j))]).toArray s 0 0 (AX ad)) (F0 m 31 ls []) := by
    intro fuel
    induction fuel with
    | zero => intro S1 q hK h6 h7 hq H locs hf; exact absurd hf (Nat.not_lt_zero _)
    | succ fuel ih31 =>
      intro S1 q hK h6 h7 hq H locs hf hX ls hl
      refine lv_iload_n hx hb dX0_isQueuedAlike_31 rfl (lv_at hl 3 rfl) ?_
      refine lv_aload_n hx hb dX0_isQueuedAlike_32 rfl (lv_at hl 0 rfl) ?_
      refine ka_gl hx hb hts hin0 hown hX (hts (.fieldLink RX0 21 "Orderlattice$Auditor" "left" "LOrderlattice$Row;") (tm 10 (by decide +kernel) rfl)) dX0_isQueuedAlike_33 ?_
      refine kx_cr (v := nI ((S.1 i).2.2)) (va_runV (As := []) (rest := [.int (nI q)]) ⟨hx, hb, hml, hown, hts⟩ (m_X2_length l dC dI ad S1 6 (by omega)) (cwV 0 hts gX0_isQueuedAlike_X2_length rfl rfl rfl hdX2_length_0 ⟨Nat.le_of_ble_eq_true rfl, Nat.le_of_ble_eq_true rfl⟩) (hX.preRow (by omega)) rfl rfl hl.1 rfl (lv_room (Nat.le_of_ble_eq_true rfl)) dX0_isQueuedAlike_36 ⟨Nat.le_of_ble_eq_true rfl, Nat.le_of_ble_eq_true rfl⟩) (fun _ h => by rw [h, h6]) ?_
      refine kn_icmp_ge (tgt := 97) hx hb (by omega) (by omega) dX0_isQueuedAlike_39 (by decide) (fun k_4 => ?_) (fun k_4 => ?_)
      · skip
        refine lv_iconst (v := bI true) hx hb dX0_isQueuedAlike_97 (by decide) ?_
        exact W.zret (v := bI true) hx hb hr (bI_narrow _) (fun t9 ht9 hW9 => ⟨⟨_, S1, rfl, ⟨⟨_, rfl⟩, hK⟩, hX.P ht9 hW9⟩, hX.2.2.2.F ht9⟩) hX.2.2.2.2.2 dX0_isQueuedAlike_98
      · skip
        refine lv_aload_n hx hb dX0_isQueuedAlike_42 rfl (lv_at hl 0 rfl) ?_
        refine ka_gr hx hb hts hin0 hown hX (hts (.fieldLink RX0 25 "Orderlattice$Auditor" "right" "LOrderlattice$Row;") (tm 11 (by decide +kernel) rfl)) dX0_isQueuedAlike_43 ?_
        refine lv_aload_n hx hb dX0_isQueuedAlike_46 rfl (lv_at hl 2 rfl) ?_
        refine kx_cr (v := (oI (bestB (fun _ => true) (fun a b => decide ((S1.2.1 j).2.2.1 ((S1.1 7).1 a) < (S1.2.1 j).2.2.1 ((S1.1 7).1 b))) (S1.1 7).2.2))) (va_runV (As := [.ref (ad (24 + 5 * j))]) (rest := []) ⟨hx, hb, hml, hown, hts⟩ (m_X2_firstPlaceBy l dC dI ad S1 7 j (by omega) (by omega) (hK.1.1 7 (by omega)) (hK.1.2 j (by omega))) (cwV 1 hts gX0_isQueuedAlike_X2_firstPlaceBy rfl rfl rfl hdX2_firstPlaceBy_1 ⟨Nat.le_of_ble_eq_true rfl, Nat.le_of_ble_eq_true rfl⟩) (hX.preRow (by omega)) rfl rfl hl.1 rfl (lv_room (Nat.le_of_ble_eq_true rfl)) dX0_isQueuedAlike_47 ⟨Nat.le_of_ble_eq_true rfl, Nat.le_of_ble_eq_true rfl⟩) (fun _ h => h) ?_
        obtain ⟨bb, hbb⟩ := bestB_some (lt := (fun a b => decide ((S1.2.1 j).2.2.1 ((S1.1 7).1 a) < (S1.2.1 j).2.2.1 ((S1.1 7).1 b)))) (show 0 < (S1.1 7).2.2 by rw [h7]; omega)
        have hb9 := (bestB_lt hbb).1
        rw [h7] at hb9
        rw [hbb]
        refine lv_istore (lv' := [(4, .int (nI bb)), (0, .ref (ad 56)), (1, .ref (ad (3 * i))), (2, .ref (ad (24 + 5 * j))), (3, .int (nI q))]) hx hb dX0_isQueuedAlike_50 hl (by decide) rfl (fun ls hl => ?_)
        refine lv_aload_n hx hb dX0_isQueuedAlike_52 rfl (lv_at hl 3 rfl) ?_
        refine lv_aload_n hx hb dX0_isQueuedAlike_53 rfl (lv_at hl 1 rfl) ?_
        refine ka_gr hx hb hts hin0 hown hX (hts (.fieldLink RX0 25 "Orderlattice$Auditor" "right" "LOrderlattice$Row;") (tm 11 (by decide +kernel) rfl)) dX0_isQueuedAlike_54 ?_
        refine lv_iload hx hb dX0_isQueuedAlike_57 (lv_at hl 0 rfl) ?_
        refine kx_cr (v := nI ((S1.1 7).1 bb)) (va_runV (As := [.int (nI bb)]) (rest := [.ref (ad (24 + 5 * j))]) ⟨hx, hb, hml, hown, hts⟩ (m_X2_valueOn l dC dI ad S1 7 bb (by omega) (by omega)) (cwV 1 hts gX0_isQueuedAlike_X2_valueOn rfl rfl rfl hdX2_valueOn_1 ⟨Nat.le_of_ble_eq_true rfl, Nat.le_of_ble_eq_true rfl⟩) (hX.preRow (by omega)) rfl rfl hl.1 rfl (lv_room (Nat.le_of_ble_eq_true rfl)) dX0_isQueuedAlike_59 ⟨Nat.le_of_ble_eq_true rfl, Nat.le_of_ble_eq_true rfl⟩) (fun _ h => h) ?_
        refine kx_cr (v := nI ((S1.2.1 j).2.2.2.1 ((S1.1 7).1 bb))) (va_runV (As := [.int (nI ((S1.1 7).1 bb))]) (rest := []) ⟨hx, hb, hml, hown, hts⟩ (m_X1_rankOf l dC dI ad S1 j ((S1.1 7).1 bb) (by omega) ((hK.1.1 7 (by omega)).2 _ (by omega)).1) (cwV 1 hts gX0_isQueuedAlike_X1_rankOf rfl rfl rfl hdX1_rankOf_1 ⟨Nat.le_of_ble_eq_true rfl, Nat.le_of_ble_eq_true rfl⟩) (hX.preOrd (by omega)) rfl rfl hl.1 rfl (lv_room (Nat.le_of_ble_eq_true rfl)) dX0_isQueuedAlike_62 ⟨Nat.le_of_ble_eq_true rfl, Nat.le_of_ble_eq_true rfl⟩) (fun _ h => h) ?_
        refine lv_aload_n hx hb dX0_isQueuedAlike_65 rfl (lv_at hl 3 rfl) ?_
        refine lv_aload_n hx hb dX0_isQueuedAlike_66 rfl (lv_at hl 1 rfl) ?_
        refine ka_gl hx hb hts hin0 hown hX (hts (.fieldLink RX0 21 "Orderlattice$Auditor" "left" "LOrderlattice$Row;") (tm 10 (by decide +kernel) rfl)) dX0_isQueuedAlike_67 ?_
        refine lv_iload_n hx hb dX0_isQueuedAlike_70 rfl (lv_at hl 4 rfl) ?_
        refine kx_cr (v := nI ((S1.1 6).1 q)) (va_runV (As := [.int (nI q)]) (rest := [.ref (ad (24 + 5 * j)), .int (nI ((S1.2.1 j).2.2.2.1 ((S1.1 7).1 bb)))]) ⟨hx, hb, hml, hown, hts⟩ (m_X2_valueOn l dC dI ad S1 6 q (by omega) (by omega)) (cwV 1 hts gX0_isQueuedAlike_X2_valueOn rfl rfl rfl hdX2_valueOn_1 ⟨Nat.le_of_ble_eq_true rfl, Nat.le_of_ble_eq_true rfl⟩) (hX.preRow (by omega)) rfl rfl hl.1 rfl (lv_room (Nat.le_of_ble_eq_true rfl)) dX0_isQueuedAlike_71 ⟨Nat.le_of_ble_eq_true rfl, Nat.le_of_ble_eq_true rfl⟩) (fun _ h => h) ?_
        refine kx_cr (v := nI ((S1.2.1 j).2.2.2.1 ((S1.1 6).1 q))) (va_runV (As := [.int (nI ((S1.1 6).1 q))]) (rest := [.int (nI ((S1.2.1 j).2.2.2.1 ((S1.1 7).1 bb)))]) ⟨hx, hb, hml, hown, hts⟩ (m_X1_rankOf l dC dI ad S1 j ((S1.1 6).1 q) (by omega) ((hK.1.1 6 (by omega)).2 _ (by omega)).1) (cwV 1 hts gX0_isQueuedAlike_X1_rankOf rfl rfl rfl hdX1_rankOf_1 ⟨Nat.le_of_ble_eq_true rfl, Nat.le_of_ble_eq_true rfl⟩) (hX.preOrd (by omega)) rfl rfl hl.1 rfl (lv_room (Nat.le_of_ble_eq_true rfl)) dX0_isQueuedAlike_74 ⟨Nat.le_of_ble_eq_true rfl, Nat.le_of_ble_eq_true rfl⟩) (fun _ h => h) ?_
        have hr1 := ordOK.rnk (hK.1.2 j (by omega)) ((hK.1.1 7 (by omega)).2 bb (by omega)).1
        have hr2 := ordOK.rnk (hK.1.2 j (by omega)) ((hK.1.1 6 (by omega)).2 q (by omega)).1
        refine kn_icmp_eq (tgt := 82) hx hb (by omega) (by omega) dX0_isQueuedAlike_77 (by decide) (fun k_5 => ?_) (fun k_5 => ?_)
        · skip
          refine lv_aload_n hx hb dX0_isQueuedAlike_82 rfl (lv_at hl 1 rfl) ?_
          refine ka_gr hx hb hts hin0 hown hX (hts (.fieldLink RX0 25 "Orderlattice$Auditor" "right" "LOrderlattice$Row;") (tm 11 (by decide +kernel) rfl)) dX0_isQueuedAlike_83 ?_
          refine lv_iload hx hb dX0_isQueuedAlike_86 (lv_at hl 0 rfl) ?_
          refine kx_cv (va_runV (As := [.int (nI bb)]) (rest := []) ⟨hx, hb, hml, hown, hts⟩ (m_X2_remove l dC dI ad S1 7 bb (by omega) (hK.1.1 7 (by omega)).1 (by rw [h7]; omega)) (cwV 1 hts gX0_isQueuedAlike_X2_remove rfl rfl rfl hdX2_remove_1 ⟨Nat.le_of_ble_eq_true rfl, Nat.le_of_ble_eq_true rfl⟩) (hX.preRow (by omega)) rfl rfl hl.1 rfl (lv_room (Nat.le_of_ble_eq_true rfl)) dX0_isQueuedAlike_88 ⟨Nat.le_of_ble_eq_true rfl, Nat.le_of_ble_eq_true rfl⟩) hX (fun _ h => h) (fun S_6 H locs hw hX => ?_)
          replace hK := (show KA S S_6 by rw [hw]; exact KA_row hK (by decide) (by decide) (rowOK_rem (hK.1.1 7 (by omega)) (by rw [h7]; omega)))
          replace h7 := (show (S_6.1 7).2.2 = (S1.1 7).2.2 - 1 by rw [hw, xR_row]).trans (congrArg (· - 1) h7)
          replace h6 := (show (S_6.1 6).2.2 = (S1.1 6).2.2 by rw [hw, xR_ne _ _ (by decide)]).trans h6
          clear hw
          refine lv_iinc (v := nI (q + 1)) (lv' := [(3, .int (nI (q + 1))), (4, .int (nI bb)), (0, .ref (ad 56)), (1, .ref (ad (3 * i))), (2, .ref (ad (24 + 5 * j)))]) hx hb dX0_isQueuedAlike_91 hl (k := 4) rfl (nI_1 q) (by decide) rfl (fun ls hl => ?_)
          refine lv_goto (tgt := 31) hx hb dX0_isQueuedAlike_94 (by decide) ?_
          exact ih31  S_6 (q + 1) hK h6 h7 (by omega) _ _ (by omega) hX _ (lv_sub hl [2, 3, 4, 0] rfl)
        · skip
          refine lv_iconst (v := bI false) hx hb dX0_isQueuedAlike_80 (by decide) ?_
          exact W.zret (v := bI false) hx hb hr (bI_narrow _) (fun t9 ht9 hW9 => ⟨⟨_, S1, rfl, ⟨⟨_, rfl⟩, hK⟩, hX.P ht9 hW9⟩, hX.2.2.2.F ht9⟩) hX.2.2.2.2.2 dX0_isQueuedAlike_81
  exact loop31 ((S.1 i).2.2 + 1) S_3 0 hK h6 h7 (by omega) _ _ (by omega) (WX.eqS rfl hX) _ (lv_sub hl [1, 2, 3, 0] rfl)
