theorem cl_fit {cA : ClassId} {f : Nat → Int32} {n : Nat} (hf : sb_Fit f) : ∀ (i : Nat) (v : Value), (vp_cell cA (n, .inl f)).slots[i]? = some v → fits .byte v = true := by
  intro i v h
  have hlt : i < n := by
    have := (Array.getElem?_eq_some_iff.mp h).1
    rw [vp_cell_i, arrV_size] at this
    exact this
  rw [vp_cell_i, arrV_read _ _ hlt] at h
  cases h
  exact hf i
set_option maxHeartbeats 4000000 in
set_option maxRecDepth 100000 in
theorem m_J5_append_3fe6f (l : Launch) (dC : Nat → ClassId) (dI : Nat → Nat → Nat) (cB : ClassId) (z : Nat) (a b n cp : Nat) (f : Nat → Int32) (hnm : n ≤ cp) (hm : cp ≤ 65536) (hf : sb_Fit f) (v : Nat) (hv : v < 256) (hcap : sb_cap (n + 1) cp ≤ 65536) : Met l yJ5_append_3fe6f wsJ5_append_3fe6f ({ frames := 4, cells := 1, slots := (gm (n + 1) cp), locals := 84 } : Room) (va_Pc [.ref a, .int (nI v)] (PB dC dI cB z [(a, eSB b n), (b, eBy cB cp f)])) (va_Qr (fun u : Nat × (Nat → Int32) => sb_Fit u.2) (fun u q9 t => q9 = a ∧ PB dC dI cB z [(a, eSB u.1 (n + 1)), (u.1, eBy cB (sb_cap (n + 1) cp) u.2)] t) (zB z)) 1 (gm (n + 1) cp) (zB z) := by
  refine ofWF (cc := cJ5_append_3fe6f) (maxL := 2) (ret := (some (.object "java/lang/AbstractStringBuilder"))) (by decide +kernel) rfl ?_
  intro p e s m args below meth c s₁ B hml hv
  obtain ⟨rfl, hPB⟩ := hv
  have hx := B.exec
  have hb := B.bytes
  have hr := B.returns
  have hts := atoms_spec (ws := wsJ5_append_3fe6f) B.pre
  have hown : s.vm.findClass RJ5 = some m.cls := findClass_of_methodNamed B.named
  have hlocks := B.notSynchronized
  have hinJ4 : ∀ w ∈ u_ws RJ4 TJ4 4, w ∈ wsJ5_append_3fe6f := tu 1326 (by decide +kernel) rfl
  have hB := WB.of hPB
  have hl := lv_entry ([.ref a, .int (nI v)]) (n := 2) (Nat.le_of_ble_eq_true rfl)
  rw [lg_entry_eq]
  generalize (lg_sl ([.ref a, .int (nI v)]) ++ List.replicate (2 - (lg_sl ([.ref a, .int (nI v)])).length) Slot.unset).toArray = ls at hl ⊢
  have hl : lv_has ls 2 [(0, .ref a), (1, .int (nI v))] := hl
  show W p l e ({ frames := 4, cells := 1, slots := (gm (n + 1) cp), locals := 84 } : Room) s m ([.ref a, .int (nI v)]).toArray below meth c s.heap [] 0 0 (MQ below (va_Qr (fun u : Nat × (Nat → Int32) => sb_Fit u.2) (fun u q9 t => q9 = a ∧ PB dC dI cB z [(a, eSB u.1 (n + 1)), (u.1, eBy cB (sb_cap (n + 1) cp) u.2)] t) (zB z)) ([.ref a, .int (nI v)]).toArray s 1 (gm (n + 1) cp) (zB z)) (F0 m 0 ls [])
  have hge9 := sb_cap_ge (n + 1) cp
  have hat := KatJ4 hPB
  refine lv_aload_n hx hb dJ5_append_3fe6f_0 rfl (lv_at hl 0 rfl) ?_
  refine lv_aload_n hx hb dJ5_append_3fe6f_1 rfl (lv_at hl 0 rfl) ?_
  refine va_get (D := (dC, dI)) (ci := 1) (C := RJ4) (T := TJ4) (N := 4) (fs := [.ref b, .int (nI 0), .int (nI 0), .int (nI n)]) hx hb hts hinJ4 hown hB.2.1 hB.1 0 rfl rfl 3 (by decide) (hts (.fieldLink RJ5 79 "java/lang/AbstractStringBuilder" "count" "I") (tm 277 (by decide +kernel) rfl)) (fun _ h => h) rfl dJ5_append_3fe6f_2 ?_
  refine lv_iconst (v := nI 1) hx hb dJ5_append_3fe6f_5 (by decide) ?_
  refine kn_iadd hx hb dJ5_append_3fe6f_6 ?_
  refine kb_v (va_runU (As := [.int (nI (n + 1))]) (rest := []) ⟨hx, hb, hml, hown, hts⟩ (m_J5_ensureCapacityInternal_d00df l dC dI cB z a b n cp f (n + 1) (by omega) (by omega) hf hcap) (va_cwU 1 hts gJ5_append_3fe6f_J5_ensureCapacityInternal_d00df_u100J4 rfl rfl rfl rfl (by decide +kernel) ⟨Nat.le_of_ble_eq_true rfl, Nat.le_of_ble_eq_true rfl⟩) (hB.preV (ci := 1) (q := (RJ4, TJ4, 4)) rfl 0 rfl) rfl rfl hl.1 rfl (lv_room (Nat.le_of_ble_eq_true rfl)) dJ5_append_3fe6f_7 ⟨by simp, by simp⟩) hB (fun u H locs hu hB => ?_)
  obtain ⟨b2, f2⟩ := u
  replace hB : WB dC dI cB z [(a, eSB b2 n), (b2, eBy cB (sb_cap (n + 1) cp) f2)] s H locs := hB
  have hf : sb_Fit f2 := hu
  have hge := sb_cap_ge (n + 1) cp
  refine lv_aload_n hx hb dJ5_append_3fe6f_10 rfl (lv_at hl 0 rfl) ?_
  refine kx_cr (v := bI true) (va_runU (As := []) (rest := []) ⟨hx, hb, hml, hown, hts⟩ (m_J5_isLatin1_aae02 l dC dI cB z ([(a, eSB b2 n), (b2, eBy cB (sb_cap (n + 1) cp) f2)]) a b2 n rfl) (va_cwU 0 hts gJ5_append_3fe6f_J5_isLatin1_aae02_u83J4 rfl rfl rfl rfl (by decide +kernel) ⟨Nat.le_of_ble_eq_true rfl, Nat.le_of_ble_eq_true rfl⟩) (hB.preV (ci := 1) (q := (RJ4, TJ4, 4)) rfl 0 rfl) rfl rfl hl.1 rfl (lv_room (Nat.le_of_ble_eq_true rfl)) dJ5_append_3fe6f_11 ⟨by simp, by simp⟩) (fun _ h => h) ?_
  refine kb_if_eq (tgt := 45) hx hb dJ5_append_3fe6f_14 (by decide) (fun k_1 => absurd k_1 (by decide)) (fun k_1 => ?_)
  refine lv_iload_n hx hb dJ5_append_3fe6f_17 rfl (lv_at hl 1 rfl) ?_
  refine kx_cr (v := bI true) (va_runS (As := [.int (nI v)]) (rest := []) ⟨hx, hb, hml, hown, hts⟩ (m_J1_canEncode_fc78d l v (by omega)) (va_cwS 1 hts gJ5_append_3fe6f_J1_canEncode_fc78d rfl rfl rfl hdJ1_canEncode_fc78d_1.2 ⟨Nat.le_of_ble_eq_true rfl, Nat.le_of_ble_eq_true rfl⟩) (pureS) rfl rfl hl.1 rfl (lv_room (Nat.le_of_ble_eq_true rfl)) dJ5_append_3fe6f_18 ⟨by simp, by simp⟩) (fun _ h => h) ?_
  refine kb_if_eq (tgt := 45) hx hb dJ5_append_3fe6f_21 (by decide) (fun k_2 => absurd k_2 (by decide)) (fun k_2 => ?_)
  refine lv_aload_n hx hb dJ5_append_3fe6f_24 rfl (lv_at hl 0 rfl) ?_
  refine va_get (D := (dC, dI)) (ci := 1) (C := RJ4) (T := TJ4) (N := 4) (fs := [.ref b2, .int (nI 0), .int (nI 0), .int (nI n)]) hx hb hts hinJ4 hown hB.2.1 hB.1 0 rfl rfl 0 (by decide) (hts (.fieldLink RJ5 15 "java/lang/AbstractStringBuilder" "value" "[B") (tm 216 (by decide +kernel) rfl)) (fun _ h => h) rfl dJ5_append_3fe6f_25 ?_
  refine lv_aload_n hx hb dJ5_append_3fe6f_28 rfl (lv_at hl 0 rfl) ?_
  refine lv_dup hx hb dJ5_append_3fe6f_29 rfl ?_
  refine va_get (D := (dC, dI)) (ci := 1) (C := RJ4) (T := TJ4) (N := 4) (fs := [.ref b2, .int (nI 0), .int (nI 0), .int (nI n)]) hx hb hts hinJ4 hown hB.2.1 hB.1 0 rfl rfl 3 (by decide) (hts (.fieldLink RJ5 79 "java/lang/AbstractStringBuilder" "count" "I") (tm 277 (by decide +kernel) rfl)) (fun _ h => h) rfl dJ5_append_3fe6f_30 ?_
  refine lv_dup_x1 hx hb dJ5_append_3fe6f_33 rfl rfl ?_
  refine lv_iconst (v := nI 1) hx hb dJ5_append_3fe6f_34 (by decide) ?_
  refine kn_iadd hx hb dJ5_append_3fe6f_35 ?_
  refine kb_put (fs := [.ref b2, .int (nI 0), .int (nI 0), .int (nI n)]) hx hb hts hinJ4 hown hB 0 rfl 3 (by decide) (hts (.fieldLink RJ5 79 "java/lang/AbstractStringBuilder" "count" "I") (tm 277 (by decide +kernel) rfl)) (fun _ h => h) rfl rfl rfl rfl (Nat.le_of_ble_eq_true rfl) dJ5_append_3fe6f_36 (fun H locs hB => ?_)
  replace hB : WB dC dI cB z [(a, eSB b2 (n + 1)), (b2, eBy cB (sb_cap (n + 1) cp) f2)] s H locs := hB
  refine lv_iload_n hx hb dJ5_append_3fe6f_39 rfl (lv_at hl 1 rfl) ?_
  refine lv_i2b hx hb dJ5_append_3fe6f_40 rfl ?_
  refine kb_bst (n := (sb_cap (n + 1) cp)) (f := f2) hx hb hB 1 rfl (by omega) (by omega) dJ5_append_3fe6f_41 (fun H locs hB => ?_)
  obtain ⟨f_3, hf, hB⟩ : ∃ g9, sb_Fit g9 ∧ WB dC dI cB z [(a, eSB b2 (n + 1)), (b2, eBy cB (sb_cap (n + 1) cp) g9)] s H locs := ⟨_, sb_fitU hf (fit_nar _), hB⟩
  refine lv_goto (tgt := 75) hx hb dJ5_append_3fe6f_42 (by decide) ?_
  refine lv_aload_n hx hb dJ5_append_3fe6f_75 rfl (lv_at hl 0 rfl) ?_
  exact W.widen (k := 1) (n := (gm (n + 1) cp)) (by simp) (by simp) (W.aret (v := .ref a) hx hb hr (Or.inl ⟨_, rfl⟩) (Or.inr ⟨_, rfl⟩) (fun t9 ht9 hW9 => ⟨⟨(b2, f_3), _, rfl, hf, rfl, hB.P ht9 hW9⟩, hB.F ht9⟩) hB.L dJ5_append_3fe6f_76)
set_option maxHeartbeats 4000000 in
set_option maxRecDepth 100000 in
theorem m_J4_append_cf468 (l : Launch) (dC : Nat → ClassId) (dI : Nat → Nat → Nat) (cB : ClassId) (z : Nat) (a b n cp : Nat) (f : Nat → Int32) (hnm : n ≤ cp) (hm : cp ≤ 65536) (hf : sb_Fit f) (v : Nat) (hv : v < 256) (hcap : sb_cap (n + 1) cp ≤ 65536) : Met l yJ4_append_cf468 wsJ4_append_cf468 ({ frames := 5, cells := 1, slots := (gm (n + 1) cp), locals := 105 } : Room) (va_Pc [.ref a, .int (nI v)] (PB dC dI cB z [(a, eSB b n), (b, eBy cB cp f)])) (va_Qr (fun u : Nat × (Nat → Int32) => sb_Fit u.2) (fun u q9 t => q9 = a ∧ PB dC dI cB z [(a, eSB u.1 (n + 1)), (u.1, eBy cB (sb_cap (n + 1) cp) u.2)] t) (zB z)) 1 (gm (n + 1) cp) (zB z) := by
  refine ofWF (cc := cJ4_append_cf468) (maxL := 2) (ret := (some (.object "java/lang/StringBuilder"))) (by decide +kernel) rfl ?_
  intro p e s m args below meth c s₁ B hml hv
  obtain ⟨rfl, hPB⟩ := hv
  have hx := B.exec
  have hb := B.bytes
  have hr := B.returns
  have hts := atoms_spec (ws := wsJ4_append_cf468) B.pre
  have hown : s.vm.findClass RJ4 = some m.cls := findClass_of_methodNamed B.named
  have hlocks := B.notSynchronized
  have hB := WB.of hPB
  have hl := lv_entry ([.ref a, .int (nI v)]) (n := 2) (Nat.le_of_ble_eq_true rfl)
  rw [lg_entry_eq]
  generalize (lg_sl ([.ref a, .int (nI v)]) ++ List.replicate (2 - (lg_sl ([.ref a, .int (nI v)])).length) Slot.unset).toArray = ls at hl ⊢
  have hl : lv_has ls 2 [(0, .ref a), (1, .int (nI v))] := hl
  show W p l e ({ frames := 5, cells := 1, slots := (gm (n + 1) cp), locals := 105 } : Room) s m ([.ref a, .int (nI v)]).toArray below meth c s.heap [] 0 0 (MQ below (va_Qr (fun u : Nat × (Nat → Int32) => sb_Fit u.2) (fun u q9 t => q9 = a ∧ PB dC dI cB z [(a, eSB u.1 (n + 1)), (u.1, eBy cB (sb_cap (n + 1) cp) u.2)] t) (zB z)) ([.ref a, .int (nI v)]).toArray s 1 (gm (n + 1) cp) (zB z)) (F0 m 0 ls [])
  have hat := KatJ4 hPB
  refine lv_aload_n hx hb dJ4_append_cf468_0 rfl (lv_at hl 0 rfl) ?_
  refine lv_iload_n hx hb dJ4_append_cf468_1 rfl (lv_at hl 1 rfl) ?_
  refine kb_r (va_runSU (As := [.int (nI v)]) (rest := []) (C := RJ4) hat ⟨hx, hb, hml, hown, hts⟩ (m_J5_append_3fe6f l dC dI cB z a b n cp f (by omega) (by omega) hf v (by omega) hcap) (va_cwSU 1 hts gJ4_append_cf468_J5_append_3fe6f_s50 rfl rfl rfl (by decide +kernel) ⟨Nat.le_of_ble_eq_true rfl, Nat.le_of_ble_eq_true rfl⟩) (hB.preV (ci := 1) (q := (RJ4, TJ4, 4)) rfl 0 rfl) rfl rfl hl.1 rfl (lv_room (Nat.le_of_ble_eq_true rfl)) dJ4_append_cf468_2 ⟨by simp, by simp⟩) hB (fun u q9 H locs hu hq hB => ?_)
  obtain ⟨b3, f3⟩ := u
  rw [hq]
  replace hB : WB dC dI cB z [(a, eSB b3 (n + 1)), (b3, eBy cB (sb_cap (n + 1) cp) f3)] s H locs := hB
  have hf : sb_Fit f3 := hu
  refine lv_pop hx hb dJ4_append_cf468_5 rfl ?_
  refine lv_aload_n hx hb dJ4_append_cf468_6 rfl (lv_at hl 0 rfl) ?_
  exact W.widen (k := 1) (n := (gm (n + 1) cp)) (by simp) (by simp) (W.aret (v := .ref a) hx hb hr (Or.inl ⟨_, rfl⟩) (Or.inr ⟨_, rfl⟩) (fun t9 ht9 hW9 => ⟨⟨(b3, f3), _, rfl, hf, rfl, hB.P ht9 hW9⟩, hB.F ht9⟩) hB.L dJ4_append_cf468_7)
set_option maxHeartbeats 4000000 in
set_option maxRecDepth 100000 in
theorem m_J5_append_c97b9 (l : Launch) (dC : Nat → ClassId) (dI : Nat → Nat → Nat) (cB : ClassId) (z : Nat) (a b n cp : Nat) (f : Nat → Int32) (hnm : n ≤ cp) (hm : cp ≤ 65536) (hf : sb_Fit f) (v : Nat) (hv : v < 1000000000) (hcap : sb_cap (n + sb_dg v) cp ≤ 65536) : Met l yJ5_append_c97b9 wsJ5_append_c97b9 ({ frames := 4, cells := 1, slots := (gm (n + sb_dg v) cp), locals := 84 } : Room) (va_Pc [.ref a, .int (nI v)] (PB dC dI cB z [(a, eSB b n), (b, eBy cB cp f)])) (va_Qr (fun u : Nat × (Nat → Int32) => sb_Fit u.2) (fun u q9 t => q9 = a ∧ PB dC dI cB z [(a, eSB u.1 (n + sb_dg v)), (u.1, eBy cB (sb_cap (n + sb_dg v) cp) u.2)] t) (zB z)) 1 (gm (n + sb_dg v) cp) (zB z) := by
  refine ofWF (cc := cJ5_append_c97b9) (maxL := 4) (ret := (some (.object "java/lang/AbstractStringBuilder"))) (by decide +kernel) rfl ?_
  intro p e s m args below meth c s₁ B hml hv
  obtain ⟨rfl, hPB⟩ := hv
  have hx := B.exec
  have hb := B.bytes
  have hr := B.returns
  have hts := atoms_spec (ws := wsJ5_append_c97b9) B.pre
  have hown : s.vm.findClass RJ5 = some m.cls := findClass_of_methodNamed B.named
  have hlocks := B.notSynchronized
  have hinJ4 : ∀ w ∈ u_ws RJ4 TJ4 4, w ∈ wsJ5_append_c97b9 := tu 1326 (by decide +kernel) rfl
  have hB := WB.of hPB
  have hl := lv_entry ([.ref a, .int (nI v)]) (n := 4) (Nat.le_of_ble_eq_true rfl)
  rw [lg_entry_eq]
  generalize (lg_sl ([.ref a, .int (nI v)]) ++ List.replicate (4 - (lg_sl ([.ref a, .int (nI v)])).length) Slot.unset).toArray = ls at hl ⊢
  have hl : lv_has ls 4 [(0, .ref a), (1, .int (nI v))] := hl
  show W p l e ({ frames := 4, cells := 1, slots := (gm (n + sb_dg v) cp), locals := 84 } : Room) s m ([.ref a, .int (nI v)]).toArray below meth c s.heap [] 0 0 (MQ below (va_Qr (fun u : Nat × (Nat → Int32) => sb_Fit u.2) (fun u q9 t => q9 = a ∧ PB dC dI cB z [(a, eSB u.1 (n + sb_dg v)), (u.1, eBy cB (sb_cap (n + sb_dg v) cp) u.2)] t) (zB z)) ([.ref a, .int (nI v)]).toArray s 1 (gm (n + sb_dg v) cp) (zB z)) (F0 m 0 ls [])
  have hge9 := sb_cap_ge (n + sb_dg v) cp
  have hd9 := sb_dg_in v
  refine lv_aload_n hx hb dJ5_append_c97b9_0 rfl (lv_at hl 0 rfl) ?_
  refine va_get (D := (dC, dI)) (ci := 1) (C := RJ4) (T := TJ4) (N := 4) (fs := [.ref b, .int (nI 0), .int (nI 0), .int (nI n)]) hx hb hts hinJ4 hown hB.2.1 hB.1 0 rfl rfl 3 (by decide) (hts (.fieldLink RJ5 79 "java/lang/AbstractStringBuilder" "count" "I") (tm 277 (by decide +kernel) rfl)) (fun _ h => h) rfl dJ5_append_c97b9_1 ?_
  refine lv_istore_n (lv' := [(2, .int (nI n)), (0, .ref a), (1, .int (nI v))]) hx hb dJ5_append_c97b9_4 rfl hl (by decide) rfl (fun ls hl => ?_)
  refine lv_iload_n hx hb dJ5_append_c97b9_5 rfl (lv_at hl 0 rfl) ?_
  refine lv_iload_n hx hb dJ5_append_c97b9_6 rfl (lv_at hl 2 rfl) ?_
  refine kx_cr (v := nI (sb_dg v)) (va_runS (As := [.int (nI v)]) (rest := [.int (nI n)]) ⟨hx, hb, hml, hown, hts⟩ (m_J6_stringSize_0f7a4 l v (by omega)) (va_cwS 1 hts gJ5_append_c97b9_J6_stringSize_0f7a4 rfl rfl rfl hdJ6_stringSize_0f7a4_1.2 ⟨Nat.le_of_ble_eq_true rfl, Nat.le_of_ble_eq_true rfl⟩) (pureS) rfl rfl hl.1 rfl (lv_room (Nat.le_of_ble_eq_true rfl)) dJ5_append_c97b9_7 ⟨by simp, by simp⟩) (fun _ h => h) ?_
  refine kn_iadd hx hb dJ5_append_c97b9_10 ?_
  refine lv_istore_n (lv' := [(3, .int (nI (n + (sb_dg v)))), (2, .int (nI n)), (0, .ref a), (1, .int (nI v))]) hx hb dJ5_append_c97b9_11 rfl hl (by decide) rfl (fun ls hl => ?_)
  refine lv_aload_n hx hb dJ5_append_c97b9_12 rfl (lv_at hl 2 rfl) ?_
  refine lv_iload_n hx hb dJ5_append_c97b9_13 rfl (lv_at hl 0 rfl) ?_
  refine kb_v (va_runU (As := [.int (nI (n + (sb_dg v)))]) (rest := []) ⟨hx, hb, hml, hown, hts⟩ (m_J5_ensureCapacityInternal_d00df l dC dI cB z a b n cp f (n + (sb_dg v)) (by omega) (by omega) hf hcap) (va_cwU 1 hts gJ5_append_c97b9_J5_ensureCapacityInternal_d00df_u100J4 rfl rfl rfl rfl (by decide +kernel) ⟨Nat.le_of_ble_eq_true rfl, Nat.le_of_ble_eq_true rfl⟩) (hB.preV (ci := 1) (q := (RJ4, TJ4, 4)) rfl 0 rfl) rfl rfl hl.1 rfl (lv_room (Nat.le_of_ble_eq_true rfl)) dJ5_append_c97b9_14 ⟨by simp, by simp⟩) hB (fun u H locs hu hB => ?_)
  obtain ⟨b2, f2⟩ := u
  replace hB : WB dC dI cB z [(a, eSB b2 n), (b2, eBy cB (sb_cap (n + (sb_dg v)) cp) f2)] s H locs := hB
  have hf : sb_Fit f2 := hu
  have hge := sb_cap_ge (n + (sb_dg v)) cp
  refine lv_aload_n hx hb dJ5_append_c97b9_17 rfl (lv_at hl 2 rfl) ?_
  refine kx_cr (v := bI true) (va_runU (As := []) (rest := []) ⟨hx, hb, hml, hown, hts⟩ (m_J5_isLatin1_aae02 l dC dI cB z ([(a, eSB b2 n), (b2, eBy cB (sb_cap (n + (sb_dg v)) cp) f2)]) a b2 n rfl) (va_cwU 0 hts gJ5_append_c97b9_J5_isLatin1_aae02_u83J4 rfl rfl rfl rfl (by decide +kernel) ⟨Nat.le_of_ble_eq_true rfl, Nat.le_of_ble_eq_true rfl⟩) (hB.preV (ci := 1) (q := (RJ4, TJ4, 4)) rfl 0 rfl) rfl rfl hl.1 rfl (lv_room (Nat.le_of_ble_eq_true rfl)) dJ5_append_c97b9_18 ⟨by simp, by simp⟩) (fun _ h => h) ?_
  refine kb_if_eq (tgt := 37) hx hb dJ5_append_c97b9_21 (by decide) (fun k_1 => absurd k_1 (by decide)) (fun k_1 => ?_)
  refine lv_iload_n hx hb dJ5_append_c97b9_24 rfl (lv_at hl 3 rfl) ?_
  refine lv_iload_n hx hb dJ5_append_c97b9_25 rfl (lv_at hl 0 rfl) ?_
  refine lv_aload_n hx hb dJ5_append_c97b9_26 rfl (lv_at hl 2 rfl) ?_
  refine va_get (D := (dC, dI)) (ci := 1) (C := RJ4) (T := TJ4) (N := 4) (fs := [.ref b2, .int (nI 0), .int (nI 0), .int (nI n)]) hx hb hts hinJ4 hown hB.2.1 hB.1 0 rfl rfl 0 (by decide) (hts (.fieldLink RJ5 15 "java/lang/AbstractStringBuilder" "value" "[B") (tm 216 (by decide +kernel) rfl)) (fun _ h => h) rfl dJ5_append_c97b9_27 ?_
  refine kb_i (va_runS (As := [.int (nI v), .int (nI (n + (sb_dg v))), .ref b2]) (rest := []) ⟨hx, hb, hml, hown, hts⟩ (m_J6_getChars_ba4f3 l dC dI cB z ([(a, eSB b2 n), (b2, eBy cB (sb_cap (n + (sb_dg v)) cp) f2)]) b2 (sb_cap (n + (sb_dg v)) cp) f2 rfl v (n + (sb_dg v)) hf (by omega) (by omega) (by omega) (by omega)) (va_cwS 3 hts gJ5_append_c97b9_J6_getChars_ba4f3 rfl rfl rfl hdJ6_getChars_ba4f3_3.2 ⟨Nat.le_of_ble_eq_true rfl, Nat.le_of_ble_eq_true rfl⟩) (hB.preS) rfl rfl hl.1 rfl (lv_room (Nat.le_of_ble_eq_true rfl)) dJ5_append_c97b9_30 ⟨by simp, by simp⟩) hB (fun r9 u H locs hu hB => ?_)
  obtain ⟨f3, hf, hB⟩ : ∃ g9, sb_Fit g9 ∧ WB dC dI cB z [(a, eSB b2 n), (b2, eBy cB (sb_cap (n + (sb_dg v)) cp) g9)] s H locs := ⟨u, hu, hB⟩
  refine lv_pop hx hb dJ5_append_c97b9_33 rfl ?_
  refine lv_goto (tgt := 48) hx hb dJ5_append_c97b9_34 (by decide) ?_
  refine lv_aload_n hx hb dJ5_append_c97b9_48 rfl (lv_at hl 2 rfl) ?_
  refine lv_iload_n hx hb dJ5_append_c97b9_49 rfl (lv_at hl 0 rfl) ?_
  refine kb_put (fs := [.ref b2, .int (nI 0), .int (nI 0), .int (nI n)]) hx hb hts hinJ4 hown hB 0 rfl 3 (by decide) (hts (.fieldLink RJ5 79 "java/lang/AbstractStringBuilder" "count" "I") (tm 277 (by decide +kernel) rfl)) (fun _ h => h) rfl rfl rfl rfl (Nat.le_of_ble_eq_true rfl) dJ5_append_c97b9_50 (fun H locs hB => ?_)
  replace hB : WB dC dI cB z [(a, eSB b2 (n + (sb_dg v))), (b2, eBy cB (sb_cap (n + (sb_dg v)) cp) f3)] s H locs := hB
  refine lv_aload_n hx hb dJ5_append_c97b9_53 rfl (lv_at hl 2 rfl) ?_
  exact W.widen (k := 1) (n := (gm (n + sb_dg v) cp)) (by simp) (by simp) (W.aret (v := .ref a) hx hb hr (Or.inl ⟨_, rfl⟩) (Or.inr ⟨_, rfl⟩) (fun t9 ht9 hW9 => ⟨⟨(b2, f3), _, rfl, hf, rfl, hB.P ht9 hW9⟩, hB.F ht9⟩) hB.L dJ5_append_c97b9_54)
set_option maxHeartbeats 4000000 in
set_option maxRecDepth 100000 in
theorem m_J4_append_bf812 (l : Launch) (dC : Nat → ClassId) (dI : Nat → Nat → Nat) (cB : ClassId) (z : Nat) (a b n cp : Nat) (f : Nat → Int32) (hnm : n ≤ cp) (hm : cp ≤ 65536) (hf : sb_Fit f) (v : Nat) (hv : v < 1000000000) (hcap : sb_cap (n + sb_dg v) cp ≤ 65536) : Met l yJ4_append_bf812 wsJ4_append_bf812 ({ frames := 5, cells := 1, slots := (gm (n + sb_dg v) cp), locals := 107 } : Room) (va_Pc [.ref a, .int (nI v)] (PB dC dI cB z [(a, eSB b n), (b, eBy cB cp f)])) (va_Qr (fun u : Nat × (Nat → Int32) => sb_Fit u.2) (fun u q9 t => q9 = a ∧ PB dC dI cB z [(a, eSB u.1 (n + sb_dg v)), (u.1, eBy cB (sb_cap (n + sb_dg v) cp) u.2)] t) (zB z)) 1 (gm (n + sb_dg v) cp) (zB z) := by
  refine ofWF (cc := cJ4_append_bf812) (maxL := 2) (ret := (some (.object "java/lang/StringBuilder"))) (by decide +kernel) rfl ?_
  intro p e s m args below meth c s₁ B hml hv
  obtain ⟨rfl, hPB⟩ := hv
  have hx := B.exec
  have hb := B.bytes
  have hr := B.returns
  have hts := atoms_spec (ws := wsJ4_append_bf812) B.pre
  have hown : s.vm.findClass RJ4 = some m.cls := findClass_of_methodNamed B.named
  have hlocks := B.notSynchronized
  have hB := WB.of hPB
  have hl := lv_entry ([.ref a, .int (nI v)]) (n := 2) (Nat.le_of_ble_eq_true rfl)
  rw [lg_entry_eq]
  generalize (lg_sl ([.ref a, .int (nI v)]) ++ List.replicate (2 - (lg_sl ([.ref a, .int (nI v)])).length) Slot.unset).toArray = ls at hl ⊢
  have hl : lv_has ls 2 [(0, .ref a), (1, .int (nI v))] := hl
  show W p l e ({ frames := 5, cells := 1, slots := (gm (n + sb_dg v) cp), locals := 107 } : Room) s m ([.ref a, .int (nI v)]).toArray below meth c s.heap [] 0 0 (MQ below (va_Qr (fun u : Nat × (Nat → Int32) => sb_Fit u.2) (fun u q9 t => q9 = a ∧ PB dC dI cB z [(a, eSB u.1 (n + sb_dg v)), (u.1, eBy cB (sb_cap (n + sb_dg v) cp) u.2)] t) (zB z)) ([.ref a, .int (nI v)]).toArray s 1 (gm (n + sb_dg v) cp) (zB z)) (F0 m 0 ls [])
  have hat := KatJ4 hPB
  refine lv_aload_n hx hb dJ4_append_bf812_0 rfl (lv_at hl 0 rfl) ?_
  refine lv_iload_n hx hb dJ4_append_bf812_1 rfl (lv_at hl 1 rfl) ?_
  refine kb_r (va_runSU (As := [.int (nI v)]) (rest := []) (C := RJ4) hat ⟨hx, hb, hml, hown, hts⟩ (m_J5_append_c97b9 l dC dI cB z a b n cp f (by omega) (by omega) hf v (by omega) hcap) (va_cwSU 1 hts gJ4_append_bf812_J5_append_c97b9_s53 rfl rfl rfl (by decide +kernel) ⟨Nat.le_of_ble_eq_true rfl, Nat.le_of_ble_eq_true rfl⟩) (hB.preV (ci := 1) (q := (RJ4, TJ4, 4)) rfl 0 rfl) rfl rfl hl.1 rfl (lv_room (Nat.le_of_ble_eq_true rfl)) dJ4_append_bf812_2 ⟨by simp, by simp⟩) hB (fun u q9 H locs hu hq hB => ?_)
  obtain ⟨b3, f3⟩ := u
  rw [hq]
  replace hB : WB dC dI cB z [(a, eSB b3 (n + sb_dg v)), (b3, eBy cB (sb_cap (n + sb_dg v) cp) f3)] s H locs := hB
  have hf : sb_Fit f3 := hu
  refine lv_pop hx hb dJ4_append_bf812_5 rfl ?_
  refine lv_aload_n hx hb dJ4_append_bf812_6 rfl (lv_at hl 0 rfl) ?_
  exact W.widen (k := 1) (n := (gm (n + sb_dg v) cp)) (by simp) (by simp) (W.aret (v := .ref a) hx hb hr (Or.inl ⟨_, rfl⟩) (Or.inr ⟨_, rfl⟩) (fun t9 ht9 hW9 => ⟨⟨(b3, f3), _, rfl, hf, rfl, hB.P ht9 hW9⟩, hB.F ht9⟩) hB.L dJ4_append_bf812_7)
set_option maxHeartbeats 4000000 in
set_option maxRecDepth 100000 in
theorem m_J5_init_d00df (l : Launch) (dC : Nat → ClassId) (dI : Nat → Nat → Nat) (cB : ClassId) (z : Nat) (a k : Nat) (hk : k ≤ 65536) : Met l yJ5_init_d00df wsJ5_init_d00df ({ frames := 1, cells := 1, slots := k, locals := 20 } : Room) (va_Pc [.ref a, .int (nI k)] (PB dC dI cB z [(a, .inr (1, [.null, .int (nI 0), .int (nI 0), .int (nI 0)]))])) (va_Qv (fun _ : Nat => True) (fun u t => PB dC dI cB z [(a, eSB u 0), (u, eBy cB k (fun _ => 0))] t) (zB z)) 1 k (zB z) := by
  refine ofWF (cc := cJ5_init_d00df) (maxL := 2) (ret := none) (by decide +kernel) rfl ?_
  intro p e s m args below meth c s₁ B hml hv
  obtain ⟨rfl, hPB⟩ := hv
  have hx := B.exec
  have hb := B.bytes
  have hr := B.returns
  have hts := atoms_spec (ws := wsJ5_init_d00df) B.pre
  have hown : s.vm.findClass RJ5 = some m.cls := findClass_of_methodNamed B.named
  have hlocks := B.notSynchronized
  have hinJ4 : ∀ w ∈ u_ws RJ4 TJ4 4, w ∈ wsJ5_init_d00df := tu 1326 (by decide +kernel) rfl
  have hB := WB.of hPB
  have hl := lv_entry ([.ref a, .int (nI k)]) (n := 2) (Nat.le_of_ble_eq_true rfl)
  rw [lg_entry_eq]
  generalize (lg_sl ([.ref a, .int (nI k)]) ++ List.replicate (2 - (lg_sl ([.ref a, .int (nI k)])).length) Slot.unset).toArray = ls at hl ⊢
  have hl : lv_has ls 2 [(0, .ref a), (1, .int (nI k))] := hl
  show W p l e ({ frames := 1, cells := 1, slots := k, locals := 20 } : Room) s m ([.ref a, .int (nI k)]).toArray below meth c s.heap [] 0 0 (MQ below (va_Qv (fun _ : Nat => True) (fun u t => PB dC dI cB z [(a, eSB u 0), (u, eBy cB k (fun _ => 0))] t) (zB z)) ([.ref a, .int (nI k)]).toArray s 1 k (zB z)) (F0 m 0 ls [])
  refine lv_aload_n hx hb dJ5_init_d00df_0 rfl (lv_at hl 0 rfl) ?_
  refine W.objInit hx hb hown (hts (.methodLink RJ5 3 objectInit) (tm 419 (by decide +kernel) rfl)) (hts (.instanceMethod objectInit) (tm 1 (by decide +kernel) rfl)) (hts (.code objectInit ⟨#[0xb1]⟩ 1 none) (tm 2 (by decide +kernel) rfl)) (g := F0 m 1 ls [.ref a]) rfl (by rw [hml]; exact hl.1) rfl dJ5_init_d00df_1 (Nat.le_of_ble_eq_true rfl) (Nat.le_of_ble_eq_true rfl) ?_
  show W p l e _ s m _ below meth c _ _ _ _ _ (F0 m 4 ls [])
  refine va_gets hx hb hB.2.2.2.2.2.1 hB.2.2.2.1 hown (hts (.fieldLink RJ5 18 "java/lang/String" "COMPACT_STRINGS" "Z") (tm 283 (by decide +kernel) rfl)) (fun _ h => h) dJ5_init_d00df_4 ?_
  refine kn_if_eq (tgt := 25) hx hb (by omega) dJ5_init_d00df_7 (by decide) (fun k_1 => absurd k_1 (by omega)) (fun k_1 => ?_)
  refine lv_aload_n hx hb dJ5_init_d00df_10 rfl (lv_at hl 0 rfl) ?_
  refine lv_iload_n hx hb dJ5_init_d00df_11 rfl (lv_at hl 1 rfl) ?_
  refine kb_new hx hb (hts (.arrayClass .byte) (tm 246 (by decide +kernel) rfl)) hB (by omega) (Nat.le_refl _) (by simp) dJ5_init_d00df_12 (fun q_2 H hB => ?_)
  replace hB : WB dC dI cB z [(a, .inr (1, [.null, .int (nI 0), .int (nI 0), .int (nI 0)])), (q_2, eBy cB k (fun _ => 0))] s H _ := hB
  refine kb_put (fs := [.null, .int (nI 0), .int (nI 0), .int (nI 0)]) hx hb hts hinJ4 hown hB 0 rfl 0 (by decide) (hts (.fieldLink RJ5 15 "java/lang/AbstractStringBuilder" "value" "[B") (tm 216 (by decide +kernel) rfl)) (fun _ h => h) rfl rfl rfl rfl (Nat.le_of_ble_eq_true rfl) dJ5_init_d00df_14 (fun H locs hB => ?_)
  replace hB : WB dC dI cB z [(a, eSB q_2 0), (q_2, eBy cB k (fun _ => 0))] s H locs := hB
  refine lv_aload_n hx hb dJ5_init_d00df_17 rfl (lv_at hl 0 rfl) ?_
  refine lv_iconst (v := nI 0) hx hb dJ5_init_d00df_18 (by decide) ?_
  refine kb_put (fs := [.ref q_2, .int (nI 0), .int (nI 0), .int (nI 0)]) hx hb hts hinJ4 hown hB 0 rfl 1 (by decide) (hts (.fieldLink RJ5 22 "java/lang/AbstractStringBuilder" "coder" "B") (tm 217 (by decide +kernel) rfl)) (fun _ h => h) rfl rfl (by decide) (by decide) (Nat.le_of_ble_eq_true rfl) dJ5_init_d00df_19 (fun H locs hB => ?_)
  replace hB : WB dC dI cB z [(a, eSB q_2 0), (q_2, eBy cB k (fun _ => 0))] s H locs := hB
  refine lv_goto (tgt := 38) hx hb dJ5_init_d00df_22 (by decide) ?_
  exact W.widen (k := 1) (n := k) (by simp) (by simp) (W.vret hx hb hr (fun t9 ht9 hW9 => ⟨⟨q_2, rfl, trivial, hB.P ht9 hW9⟩, hB.F ht9⟩) hB.L dJ5_init_d00df_38)
set_option maxHeartbeats 4000000 in
set_option maxRecDepth 100000 in
theorem m_J4_init_da8c8 (l : Launch) (dC : Nat → ClassId) (dI : Nat → Nat → Nat) (cB : ClassId) (z : Nat) (a : Nat) : Met l yJ4_init_da8c8 wsJ4_init_da8c8 ({ frames := 2, cells := 1, slots := 16, locals := 41 } : Room) (va_Pc [.ref a] (PB dC dI cB z [(a, .inr (1, [.null, .int (nI 0), .int (nI 0), .int (nI 0)]))])) (va_Qv (fun _ : Nat => True) (fun u t => PB dC dI cB z [(a, eSB u 0), (u, eBy cB 16 (fun _ => 0))] t) (zB z)) 1 16 (zB z) := by
  refine ofWF (cc := cJ4_init_da8c8) (maxL := 1) (ret := none) (by decide +kernel) rfl ?_
  intro p e s m args below meth c s₁ B hml hv
  obtain ⟨rfl, hPB⟩ := hv
  have hx := B.exec
  have hb := B.bytes
  have hr := B.returns
  have hts := atoms_spec (ws := wsJ4_init_da8c8) B.pre
  have hown : s.vm.findClass RJ4 = some m.cls := findClass_of_methodNamed B.named
  have hlocks := B.notSynchronized
  have hB := WB.of hPB
  have hl := lv_entry ([.ref a]) (n := 1) (Nat.le_of_ble_eq_true rfl)
  rw [lg_entry_eq]
  generalize (lg_sl ([.ref a]) ++ List.replicate (1 - (lg_sl ([.ref a])).length) Slot.unset).toArray = ls at hl ⊢
  have hl : lv_has ls 1 [(0, .ref a)] := hl
  show W p l e ({ frames := 2, cells := 1, slots := 16, locals := 41 } : Room) s m ([.ref a]).toArray below meth c s.heap [] 0 0 (MQ below (va_Qv (fun _ : Nat => True) (fun u t => PB dC dI cB z [(a, eSB u 0), (u, eBy cB 16 (fun _ => 0))] t) (zB z)) ([.ref a]).toArray s 1 16 (zB z)) (F0 m 0 ls [])
  refine lv_aload_n hx hb dJ4_init_da8c8_0 rfl (lv_at hl 0 rfl) ?_
  refine lv_bipush (v := nI 16) hx hb dJ4_init_da8c8_1 (by decide) ?_
  refine kb_v (va_runI (As := [.int (nI 16)]) (rest := []) ⟨hx, hb, hml, hown, hts⟩ (m_J5_init_d00df l dC dI cB z a 16 (by omega)) (cwI 1 hts gJ4_init_da8c8_J5_init_d00df rfl rfl rfl (hts (.initialized yJ5_init_d00df.cls) (tm 222 (by decide +kernel) rfl)) (hts (.methodLink RJ4 1 yJ5_init_d00df) (tm 416 (by decide +kernel) rfl)) (hts (.instanceMethod yJ5_init_d00df) (tm 417 (by decide +kernel) rfl)) rfl (by decide +kernel) ⟨Nat.le_of_ble_eq_true rfl, Nat.le_of_ble_eq_true rfl⟩) (hB.preS) rfl rfl hl.1 rfl (lv_room (Nat.le_of_ble_eq_true rfl)) dJ4_init_da8c8_3 ⟨Nat.le_of_ble_eq_true rfl, Nat.le_of_ble_eq_true rfl⟩) hB (fun u H locs hu hB => ?_)
  replace hB : WB dC dI cB z [(a, eSB u 0), (u, eBy cB 16 (fun _ => 0))] s H locs := hB
  exact W.widen (k := 1) (n := 16) (by simp) (by simp) (W.vret hx hb hr (fun t9 ht9 hW9 => ⟨⟨u, rfl, trivial, hB.P ht9 hW9⟩, hB.F ht9⟩) hB.L dJ4_init_da8c8_6)
set_option maxHeartbeats 4000000 in
set_option maxRecDepth 100000 in
theorem m_J7_copyOfRangeByte_39247 (l : Launch) (dC : Nat → ClassId) (dI : Nat → Nat → Nat) (cB : ClassId) (z : Nat) (G : va_W) (b cp : Nat) (f : Nat → Int32) (hG2 : G[1]? = some (b, eBy cB cp f)) (n : Nat) (hn : n ≤ cp) (hm : cp ≤ 65536) (hf : sb_Fit f) : Met l yJ7_copyOfRangeByte_39247 wsJ7_copyOfRangeByte_39247 ({ frames := 1, cells := 1, slots := n, locals := 40 } : Room) (va_Pc [.ref b, .int (nI 0), .int (nI n)] (PB dC dI cB z G)) (va_Qr (fun u : Nat → Int32 => sb_Fit u) (fun u q9 t => True ∧ PB dC dI cB z (G ++ [(q9, eBy cB n u)]) t) (zB z)) 1 n (zB z) := by
  refine ofWF (cc := cJ7_copyOfRangeByte_39247) (maxL := 5) (ret := (some (.array .byte))) (by decide +kernel) rfl ?_
  intro p e s m args below meth c s₁ B hml hv
  obtain ⟨rfl, hPB⟩ := hv
  have hx := B.exec
  have hb := B.bytes
  have hr := B.returns
  have hts := atoms_spec (ws := wsJ7_copyOfRangeByte_39247) B.pre
  have hown : s.vm.findClass RJ7 = some m.cls := findClass_of_methodNamed B.named
  have hlocks := B.notSynchronized
  have hB := WB.of hPB
  have hl := lv_entry ([.ref b, .int (nI 0), .int (nI n)]) (n := 5) (Nat.le_of_ble_eq_true rfl)
  rw [lg_entry_eq]
  generalize (lg_sl ([.ref b, .int (nI 0), .int (nI n)]) ++ List.replicate (5 - (lg_sl ([.ref b, .int (nI 0), .int (nI n)])).length) Slot.unset).toArray = ls at hl ⊢
  have hl : lv_has ls 5 [(0, .ref b), (1, .int (nI 0)), (2, .int (nI n))] := hl
  show W p l e ({ frames := 1, cells := 1, slots := n, locals := 40 } : Room) s m ([.ref b, .int (nI 0), .int (nI n)]).toArray below meth c s.heap [] 0 0 (MQ below (va_Qr (fun u : Nat → Int32 => sb_Fit u) (fun u q9 t => True ∧ PB dC dI cB z (G ++ [(q9, eBy cB n u)]) t) (zB z)) ([.ref b, .int (nI 0), .int (nI n)]).toArray s 1 n (zB z)) (F0 m 0 ls [])
  refine lv_iload_n hx hb dJ7_copyOfRangeByte_39247_0 rfl (lv_at hl 1 rfl) ?_
  refine lv_iload_n hx hb dJ7_copyOfRangeByte_39247_1 rfl (lv_at hl 2 rfl) ?_
  refine va_csv (va_Run.run (va_runS (As := [.int (nI 0), .int (nI n)]) (rest := []) ⟨hx, hb, hml, hown, hts⟩ (m_J7_checkLength_df160 l 0 n (by omega) (by omega)) (va_cwS 2 hts gJ7_copyOfRangeByte_39247_J7_checkLength_df160 rfl rfl rfl hdJ7_checkLength_df160_2.2 ⟨Nat.le_of_ble_eq_true rfl, Nat.le_of_ble_eq_true rfl⟩) (pureS) rfl rfl hl.1 rfl (lv_room (Nat.le_of_ble_eq_true rfl)) dJ7_copyOfRangeByte_39247_2 ⟨Nat.le_of_ble_eq_true rfl, Nat.le_of_ble_eq_true rfl⟩)) (fun _ => ?_)
  refine lv_iload_n hx hb dJ7_copyOfRangeByte_39247_5 rfl (lv_at hl 2 rfl) ?_
  refine lv_iload_n hx hb dJ7_copyOfRangeByte_39247_6 rfl (lv_at hl 1 rfl) ?_
  refine kn_isub hx hb (by omega) dJ7_copyOfRangeByte_39247_7 ?_
  rw [Nat.sub_zero]
  refine lv_istore_n (lv' := [(3, .int (nI n)), (0, .ref b), (1, .int (nI 0)), (2, .int (nI n))]) hx hb dJ7_copyOfRangeByte_39247_8 rfl hl (by decide) rfl (fun ls hl => ?_)
  refine lv_iload_n hx hb dJ7_copyOfRangeByte_39247_9 rfl (lv_at hl 0 rfl) ?_
  refine kb_new hx hb (hts (.arrayClass .byte) (tm 246 (by decide +kernel) rfl)) hB (by omega) (Nat.le_refl _) (by simp) dJ7_copyOfRangeByte_39247_10 (fun q_1 H hB => ?_)
  refine lv_astore (lv' := [(4, .ref q_1), (3, .int (nI n)), (0, .ref b), (1, .int (nI 0)), (2, .int (nI n))]) hx hb dJ7_copyOfRangeByte_39247_12 hl (by decide) rfl (fun ls hl => ?_)
  refine lv_aload_n hx hb dJ7_copyOfRangeByte_39247_14 rfl (lv_at hl 2 rfl) ?_
  refine lv_iload_n hx hb dJ7_copyOfRangeByte_39247_15 rfl (lv_at hl 3 rfl) ?_
  refine lv_aload hx hb dJ7_copyOfRangeByte_39247_16 (lv_at hl 0 rfl) ?_
  refine lv_iconst (v := nI 0) hx hb dJ7_copyOfRangeByte_39247_18 (by decide) ?_
  refine lv_aload_n hx hb dJ7_copyOfRangeByte_39247_19 rfl (lv_at hl 2 rfl) ?_
  refine va_alen (cA := cB) (x := (cp, .inl f)) hx hb hB.2.1 hB.1 1 0 (app_old hG2) rfl (v := nI cp) rfl dJ7_copyOfRangeByte_39247_20 ?_
  refine lv_iload_n hx hb dJ7_copyOfRangeByte_39247_21 rfl (lv_at hl 3 rfl) ?_
  refine kn_isub hx hb (by omega) dJ7_copyOfRangeByte_39247_22 ?_
  rw [Nat.sub_zero]
  refine lv_iload_n hx hb dJ7_copyOfRangeByte_39247_23 rfl (lv_at hl 1 rfl) ?_
  refine kn_min hx hb (by rw [hml]; exact hl.1.symm) hown (hts (.methodLink RJ7 304 Lib.Math.min.name) (tm 247 (by decide +kernel) rfl)) (hts (.static Lib.Math.min.name) (tm 151 (by decide +kernel) rfl)) (hts (.initialized "java/lang/Math") (tm 152 (by decide +kernel) rfl)) (hts (.code Lib.Math.min.name Lib.Math.min.code 2 (some .int)) (tm 153 (by decide +kernel) rfl)) (Nat.le_of_ble_eq_true rfl) (Nat.le_of_ble_eq_true rfl) (by simp) (by simp) (by omega) (by omega) dJ7_copyOfRangeByte_39247_24 ?_
  refine kb_cp hx hb (by rw [hml]; exact hl.1.symm) hown (hts (.methodLink RJ7 150 arraycopyName) (tm 248 (by decide +kernel) rfl)) (hts (.native arraycopyName) (tm 249 (by decide +kernel) rfl)) (hts (.static arraycopyName) (tm 250 (by decide +kernel) rfl)) (hts (.initialized "java/lang/System") (tm 251 (by decide +kernel) rfl)) hB 1 G.length (f := f) (g := (fun _ => 0)) (app_old hG2) app_new hf (by omega) (by omega) (by omega) (Nat.le_of_ble_eq_true rfl) (Nat.le_of_ble_eq_true rfl) dJ7_copyOfRangeByte_39247_27 (fun H locs hB => ?_)
  rw [app_set] at hB
  refine lv_aload hx hb dJ7_copyOfRangeByte_39247_30 (lv_at hl 0 rfl) ?_
  exact W.widen (k := 1) (n := n) (by simp) (by simp) (W.aret (v := .ref q_1) hx hb hr (Or.inr ⟨_, rfl⟩) (Or.inr ⟨_, rfl⟩) (fun t9 ht9 hW9 => ⟨⟨_, _, rfl, sb_fitC hf sb_fit0, trivial, hB.P ht9 hW9⟩, hB.F ht9⟩) hB.L dJ7_copyOfRangeByte_39247_32)
set_option maxHeartbeats 4000000 in
set_option maxRecDepth 100000 in
theorem m_J7_copyOfRange_39247 (l : Launch) (dC : Nat → ClassId) (dI : Nat → Nat → Nat) (cB : ClassId) (z : Nat) (G : va_W) (b cp : Nat) (f : Nat → Int32) (hG2 : G[1]? = some (b, eBy cB cp f)) (n : Nat) (hn : n ≤ cp) (hm : cp ≤ 65536) (hf : sb_Fit f) : Met l yJ7_copyOfRange_39247 wsJ7_copyOfRange_39247 ({ frames := 2, cells := 1, slots := n, locals := 64 } : Room) (va_Pc [.ref b, .int (nI 0), .int (nI n)] (PB dC dI cB z G)) (va_Qr (fun u : Nat → Int32 => sb_Fit u) (fun u q9 t => True ∧ PB dC dI cB z (G ++ [(q9, eBy cB n u)]) t) (zB z)) 1 n (zB z) := by
  refine ofWF (cc := cJ7_copyOfRange_39247) (maxL := 3) (ret := (some (.array .byte))) (by decide +kernel) rfl ?_
  intro p e s m args below meth c s₁ B hml hv
  obtain ⟨rfl, hPB⟩ := hv
  have hx := B.exec
  have hb := B.bytes
  have hr := B.returns
  have hts := atoms_spec (ws := wsJ7_copyOfRange_39247) B.pre
  have hown : s.vm.findClass RJ7 = some m.cls := findClass_of_methodNamed B.named
  have hlocks := B.notSynchronized
  have hB := WB.of hPB
  have hl := lv_entry ([.ref b, .int (nI 0), .int (nI n)]) (n := 3) (Nat.le_of_ble_eq_true rfl)
  rw [lg_entry_eq]
  generalize (lg_sl ([.ref b, .int (nI 0), .int (nI n)]) ++ List.replicate (3 - (lg_sl ([.ref b, .int (nI 0), .int (nI n)])).length) Slot.unset).toArray = ls at hl ⊢
  have hl : lv_has ls 3 [(0, .ref b), (1, .int (nI 0)), (2, .int (nI n))] := hl
  show W p l e ({ frames := 2, cells := 1, slots := n, locals := 64 } : Room) s m ([.ref b, .int (nI 0), .int (nI n)]).toArray below meth c s.heap [] 0 0 (MQ below (va_Qr (fun u : Nat → Int32 => sb_Fit u) (fun u q9 t => True ∧ PB dC dI cB z (G ++ [(q9, eBy cB n u)]) t) (zB z)) ([.ref b, .int (nI 0), .int (nI n)]).toArray s 1 n (zB z)) (F0 m 0 ls [])
  refine lv_iload_n hx hb dJ7_copyOfRange_39247_0 rfl (lv_at hl 1 rfl) ?_
  refine kn_if_ne (tgt := 10) hx hb (by omega) dJ7_copyOfRange_39247_1 (by decide) (fun k_1 => absurd k_1 (by omega)) (fun k_1 => ?_)
  refine lv_iload_n hx hb dJ7_copyOfRange_39247_4 rfl (lv_at hl 2 rfl) ?_
  refine lv_aload_n hx hb dJ7_copyOfRange_39247_5 rfl (lv_at hl 0 rfl) ?_
  refine va_alen (cA := cB) (x := (cp, .inl f)) hx hb hB.2.1 hB.1 1 0 hG2 rfl (v := nI cp) rfl dJ7_copyOfRange_39247_6 ?_
  refine kn_icmp_eq (tgt := 17) hx hb (by omega) (by omega) dJ7_copyOfRange_39247_7 (by decide) (fun k_2 => ?_) (fun k_2 => ?_)
  · skip
    refine lv_aload_n hx hb dJ7_copyOfRange_39247_17 rfl (lv_at hl 0 rfl) ?_
    obtain rfl : n = cp := by omega
    refine va_clone (ty := .byte) (x := (n, .inl f)) hx hb (by rw [hml]; exact hl.1.symm) hown (hts (.methodLink RJ7 310 ⟨"[B", "clone", "()Ljava/lang/Object;"⟩) (tm 240 (by decide +kernel) rfl)) (hts (.sameMethod "[B" "java/lang/Object" "clone" "()Ljava/lang/Object;") (tm 241 (by decide +kernel) rfl)) (hts (.native ⟨"java/lang/Object", "clone", "()Ljava/lang/Object;"⟩) (tm 242 (by decide +kernel) rfl)) (hts (.instanceMethod ⟨"java/lang/Object", "clone", "()Ljava/lang/Object;"⟩) (tm 243 (by decide +kernel) rfl)) (hts (.selects "[B" ⟨"[B", "clone", "()Ljava/lang/Object;"⟩ ⟨"java/lang/Object", "clone", "()Ljava/lang/Object;"⟩) (tm 244 (by decide +kernel) rfl)) hB.2.2.2.2.2.2.2.2 hB.2.1 hB.1 hB.2.2.1 hB.2.2.2.1 (fun q hq => Nat.le_trans hB.2.2.2.2.1 hq) 1 0 hG2 rfl (hB.2.1.2 0 _ rfl).2 (cl_fit hf) (Nat.le_of_ble_eq_true rfl) (Nat.le_of_ble_eq_true rfl) (by simp) (by simp) dJ7_copyOfRange_39247_18 (fun q9 H _ h1 h2 h3 => ?_)
    replace hB : WB dC dI cB z (G ++ [(q9, eBy cB n f)]) s H [] := hB.to h1 h2 h3
    refine va_castA hx hb hown (hts (.classLink RJ7 311 "[B") (tm 245 (by decide +kernel) rfl)) hB.1 G.length (x := (n, .inl f)) app_new (hB.2.1.2 0 _ rfl).2 dJ7_copyOfRange_39247_21 ?_
    exact W.widen (k := 1) (n := n) (by simp) (by simp) (W.aret (v := .ref q9) hx hb hr (Or.inr ⟨_, rfl⟩) (Or.inr ⟨_, rfl⟩) (fun t9 ht9 hW9 => ⟨⟨_, _, rfl, hf, trivial, hB.P ht9 hW9⟩, hB.F ht9⟩) hB.L dJ7_copyOfRange_39247_24)
  · skip
    refine lv_aload_n hx hb dJ7_copyOfRange_39247_10 rfl (lv_at hl 0 rfl) ?_
    refine lv_iload_n hx hb dJ7_copyOfRange_39247_11 rfl (lv_at hl 1 rfl) ?_
    refine lv_iload_n hx hb dJ7_copyOfRange_39247_12 rfl (lv_at hl 2 rfl) ?_
    refine kb_r (va_runS (As := [.ref b, .int (nI 0), .int (nI n)]) (rest := []) ⟨hx, hb, hml, hown, hts⟩ (m_J7_copyOfRangeByte_39247 l dC dI cB z G b cp f hG2 n (by omega) (by omega) hf) (va_cwS 3 hts gJ7_copyOfRange_39247_J7_copyOfRangeByte_39247 rfl rfl rfl hdJ7_copyOfRangeByte_39247_3.2 ⟨Nat.le_of_ble_eq_true rfl, Nat.le_of_ble_eq_true rfl⟩) (hB.preS) rfl rfl hl.1 rfl (lv_room (Nat.le_of_ble_eq_true rfl)) dJ7_copyOfRange_39247_13 ⟨by simp, by simp⟩) hB (fun u q9 H locs hu hq hB => ?_)
    replace hB : WB dC dI cB z (G ++ [(q9, eBy cB n u)]) s H locs := hB
    have hf : sb_Fit u := hu
    exact W.widen (k := 1) (n := n) (by simp) (by simp) (W.aret (v := .ref q9) hx hb hr (Or.inr ⟨_, rfl⟩) (Or.inr ⟨_, rfl⟩) (fun t9 ht9 hW9 => ⟨⟨_, _, rfl, hf, trivial, hB.P ht9 hW9⟩, hB.F ht9⟩) hB.L dJ7_copyOfRange_39247_16)
