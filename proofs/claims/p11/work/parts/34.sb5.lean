set_option maxHeartbeats 4000000 in
set_option maxRecDepth 100000 in
theorem m_J0_init_db425 (l : Launch) (dC : Nat → ClassId) (dI : Nat → Nat → Nat) (cB : ClassId) (z : Nat) (a b n cp : Nat) (f : Nat → Int32) (r : Nat) (hnm : n ≤ cp) (hm : cp ≤ 65536) (hf : sb_Fit f) : Met l yJ0_init_db425 wsJ0_init_db425 ({ frames := 3, cells := 1, slots := n, locals := 86 } : Room) (va_Pc [.ref r, .ref a, .null] (PB dC dI cB z [(a, eSB b n), (b, eBy cB cp f), (r, .inr (0, [.null, .int (nI 0), .int (nI 0), .int (nI 0)]))])) (va_Qv (fun _ : Unit => True) (fun _ t => PB dC dI cB z [(a, eSB b n), (b, eBy cB cp f)] t) (zB z)) 1 n (zB z) := by
  refine ofWF (cc := cJ0_init_db425) (maxL := 5) (ret := none) (by decide +kernel) rfl ?_
  intro p e s m args below meth c s₁ B hml hv
  obtain ⟨rfl, hPB⟩ := hv
  have hx := B.exec
  have hb := B.bytes
  have hr := B.returns
  have hts := atoms_spec (ws := wsJ0_init_db425) B.pre
  have hown : s.vm.findClass RJ0 = some m.cls := findClass_of_methodNamed B.named
  have hlocks := B.notSynchronized
  have hB := WB.of hPB
  have hl := lv_entry ([.ref r, .ref a, .null]) (n := 5) (Nat.le_of_ble_eq_true rfl)
  rw [lg_entry_eq]
  generalize (lg_sl ([.ref r, .ref a, .null]) ++ List.replicate (5 - (lg_sl ([.ref r, .ref a, .null])).length) Slot.unset).toArray = ls at hl ⊢
  have hl : lv_has ls 5 [(0, .ref r), (1, .ref a), (2, .null)] := hl
  show W p l e ({ frames := 3, cells := 1, slots := n, locals := 86 } : Room) s m ([.ref r, .ref a, .null]).toArray below meth c s.heap [] 0 0 (MQ below (va_Qv (fun _ : Unit => True) (fun _ t => PB dC dI cB z [(a, eSB b n), (b, eBy cB cp f)] t) (zB z)) ([.ref r, .ref a, .null]).toArray s 1 n (zB z)) (F0 m 0 ls [])
  have hin2 : meth.name = "<init>" := (name_of_methodNamed B.named B.method).1
  have hinJ0 : ∀ w ∈ u_ws RJ0 TJ0 4, w ∈ wsJ0_init_db425 := tu 1327 (by decide +kernel) rfl
  have hat := KatJ4 hPB
  refine lv_aload_n hx hb dJ0_init_db425_0 rfl (lv_at hl 0 rfl) ?_
  refine W.objInit hx hb hown (hts (.methodLink RJ0 1 objectInit) (tm 384 (by decide +kernel) rfl)) (hts (.instanceMethod objectInit) (tm 1 (by decide +kernel) rfl)) (hts (.code objectInit ⟨#[0xb1]⟩ 1 none) (tm 2 (by decide +kernel) rfl)) (g := F0 m 1 ls [.ref r]) rfl (by rw [hml]; exact hl.1) rfl dJ0_init_db425_1 (Nat.le_of_ble_eq_true rfl) (Nat.le_of_ble_eq_true rfl) ?_
  show W p l e _ s m _ below meth c _ _ _ _ _ (F0 m 4 ls [])
  refine lv_aload_n hx hb dJ0_init_db425_4 rfl (lv_at hl 1 rfl) ?_
  refine va_csr (va_Run.run (va_runU (As := []) (rest := []) ⟨hx, hb, hml, hown, hts⟩ (m_J5_getValue_6d5f1 l dC dI cB z ([(a, eSB b n), (b, eBy cB cp f), (r, .inr (0, [.null, .int (nI 0), .int (nI 0), .int (nI 0)]))]) a b n rfl) (va_cwU 0 hts gJ0_init_db425_J5_getValue_6d5f1_u552J4 rfl rfl rfl rfl (by decide +kernel) ⟨Nat.le_of_ble_eq_true rfl, Nat.le_of_ble_eq_true rfl⟩) (hB.preV (ci := 1) (q := (RJ4, TJ4, 4)) rfl 0 rfl) rfl rfl hl.1 rfl (lv_room (Nat.le_of_ble_eq_true rfl)) dJ0_init_db425_5 ⟨Nat.le_of_ble_eq_true rfl, Nat.le_of_ble_eq_true rfl⟩)) (fun k_ hk_ => ?_)
  rw [hk_]
  refine lv_astore_n (lv' := [(3, .ref b), (0, .ref r), (1, .ref a), (2, .null)]) hx hb dJ0_init_db425_8 rfl hl (by decide) rfl (fun ls hl => ?_)
  refine lv_aload_n hx hb dJ0_init_db425_9 rfl (lv_at hl 2 rfl) ?_
  refine kx_cr (v := nI n) (va_runU (As := []) (rest := []) ⟨hx, hb, hml, hown, hts⟩ (m_J4_length_8abf5 l dC dI cB z ([(a, eSB b n), (b, eBy cB cp f), (r, .inr (0, [.null, .int (nI 0), .int (nI 0), .int (nI 0)]))]) a b n rfl) (va_cwO 0 hts gJ0_init_db425_J4_length_8abf5_u549J4 rfl rfl rfl (b0 := cJ5_length_8abf5) (m0 := 1) (r0 := some .int) (by decide +kernel) (by decide +kernel) ⟨Nat.le_of_ble_eq_true rfl, Nat.le_of_ble_eq_true rfl⟩) (hB.preV (ci := 1) (q := (RJ4, TJ4, 4)) rfl 0 rfl) rfl rfl hl.1 rfl (lv_room (Nat.le_of_ble_eq_true rfl)) dJ0_init_db425_10 ⟨Nat.le_of_ble_eq_true rfl, Nat.le_of_ble_eq_true rfl⟩) (fun _ h => h) ?_
  refine lv_istore (lv' := [(4, .int (nI n)), (3, .ref b), (0, .ref r), (1, .ref a), (2, .null)]) hx hb dJ0_init_db425_13 hl (by decide) rfl (fun ls hl => ?_)
  refine lv_aload_n hx hb dJ0_init_db425_15 rfl (lv_at hl 3 rfl) ?_
  refine kx_cr (v := bI true) (va_runU (As := []) (rest := []) ⟨hx, hb, hml, hown, hts⟩ (m_J5_isLatin1_aae02 l dC dI cB z ([(a, eSB b n), (b, eBy cB cp f), (r, .inr (0, [.null, .int (nI 0), .int (nI 0), .int (nI 0)]))]) a b n rfl) (va_cwU 0 hts gJ0_init_db425_J5_isLatin1_aae02_u1047J4 rfl rfl rfl rfl (by decide +kernel) ⟨Nat.le_of_ble_eq_true rfl, Nat.le_of_ble_eq_true rfl⟩) (hB.preV (ci := 1) (q := (RJ4, TJ4, 4)) rfl 0 rfl) rfl rfl hl.1 rfl (lv_room (Nat.le_of_ble_eq_true rfl)) dJ0_init_db425_16 ⟨Nat.le_of_ble_eq_true rfl, Nat.le_of_ble_eq_true rfl⟩) (fun _ h => h) ?_
  refine kb_if_eq (tgt := 41) hx hb dJ0_init_db425_19 (by decide) (fun k_1 => absurd k_1 (by decide)) (fun k_1 => ?_)
  refine lv_aload_n hx hb dJ0_init_db425_22 rfl (lv_at hl 2 rfl) ?_
  refine lv_iconst (v := nI 0) hx hb dJ0_init_db425_23 (by decide) ?_
  refine kb_pstr (fs := [.null, .int (nI 0), .int (nI 0), .int (nI 0)]) hx hb hts hinJ0 hown hB 2 rfl 1 (by decide) (hts (.fieldLink RJ0 15 "java/lang/String" "coder" "B") (tm 385 (by decide +kernel) rfl)) (fun _ h => h) rfl hin2 rfl rfl (by decide) (by decide) (Nat.le_of_ble_eq_true rfl) dJ0_init_db425_24 (fun H locs hB => ?_)
  replace hB : WB dC dI cB z [(a, eSB b n), (b, eBy cB cp f), (r, .inr (0, [.null, .int (nI 0), .int (nI 0), .int (nI 0)]))] s H locs := hB
  refine lv_aload_n hx hb dJ0_init_db425_27 rfl (lv_at hl 2 rfl) ?_
  refine lv_aload_n hx hb dJ0_init_db425_28 rfl (lv_at hl 1 rfl) ?_
  refine lv_iconst (v := nI 0) hx hb dJ0_init_db425_29 (by decide) ?_
  refine lv_iload hx hb dJ0_init_db425_30 (lv_at hl 0 rfl) ?_
  refine kb_r (va_runS (As := [.ref b, .int (nI 0), .int (nI n)]) (rest := [.ref r]) ⟨hx, hb, hml, hown, hts⟩ (m_J7_copyOfRange_39247 l dC dI cB z ([(a, eSB b n), (b, eBy cB cp f), (r, .inr (0, [.null, .int (nI 0), .int (nI 0), .int (nI 0)]))]) b cp f rfl n (by omega) (by omega) hf) (va_cwS 3 hts gJ0_init_db425_J7_copyOfRange_39247 rfl rfl rfl hdJ7_copyOfRange_39247_3.2 ⟨Nat.le_of_ble_eq_true rfl, Nat.le_of_ble_eq_true rfl⟩) (hB.preS) rfl rfl hl.1 rfl (lv_room (Nat.le_of_ble_eq_true rfl)) dJ0_init_db425_32 ⟨by simp, by simp⟩) hB (fun u q9 H locs hu hq hB => ?_)
  replace hB : WB dC dI cB z [(a, eSB b n), (b, eBy cB cp f), (r, .inr (0, [.null, .int (nI 0), .int (nI 0), .int (nI 0)])), (q9, eBy cB n u)] s H locs := hB
  refine kb_pstr (fs := [.null, .int (nI 0), .int (nI 0), .int (nI 0)]) hx hb hts hinJ0 hown hB 2 rfl 0 (by decide) (hts (.fieldLink RJ0 9 "java/lang/String" "value" "[B") (tm 386 (by decide +kernel) rfl)) (fun _ h => h) rfl hin2 rfl rfl rfl rfl (Nat.le_of_ble_eq_true rfl) dJ0_init_db425_35 (fun H locs hB => ?_)
  replace hB : WB dC dI cB z [(a, eSB b n), (b, eBy cB cp f), (r, .inr (0, [.ref q9, .int (nI 0), .int (nI 0), .int (nI 0)])), (q9, eBy cB n u)] s H locs := hB
  refine lv_goto (tgt := 97) hx hb dJ0_init_db425_38 (by decide) ?_
  replace hB : WB dC dI cB z [(a, eSB b n), (b, eBy cB cp f)] s H locs := hB.to (hB.1.sub [0, 1] rfl) (hB.2.2.1.sub [0, 1] (by decide) rfl) hB.2.2.2.1
  exact W.widen (k := 1) (n := n) (by simp) (by simp) (W.vret hx hb hr (fun t9 ht9 hW9 => ⟨⟨(), rfl, trivial, hB.P ht9 hW9⟩, hB.F ht9⟩) hB.L dJ0_init_db425_97)
set_option maxHeartbeats 4000000 in
set_option maxRecDepth 100000 in
theorem m_J0_init_81219 (l : Launch) (dC : Nat → ClassId) (dI : Nat → Nat → Nat) (cB : ClassId) (z : Nat) (a b n cp : Nat) (f : Nat → Int32) (r : Nat) (hnm : n ≤ cp) (hm : cp ≤ 65536) (hf : sb_Fit f) : Met l yJ0_init_81219 wsJ0_init_81219 ({ frames := 4, cells := 1, slots := n, locals := 110 } : Room) (va_Pc [.ref r, .ref a] (PB dC dI cB z [(a, eSB b n), (b, eBy cB cp f), (r, .inr (0, [.null, .int (nI 0), .int (nI 0), .int (nI 0)]))])) (va_Qv (fun _ : Unit => True) (fun _ t => PB dC dI cB z [(a, eSB b n), (b, eBy cB cp f)] t) (zB z)) 1 n (zB z) := by
  refine ofWF (cc := cJ0_init_81219) (maxL := 2) (ret := none) (by decide +kernel) rfl ?_
  intro p e s m args below meth c s₁ B hml hv
  obtain ⟨rfl, hPB⟩ := hv
  have hx := B.exec
  have hb := B.bytes
  have hr := B.returns
  have hts := atoms_spec (ws := wsJ0_init_81219) B.pre
  have hown : s.vm.findClass RJ0 = some m.cls := findClass_of_methodNamed B.named
  have hlocks := B.notSynchronized
  have hB := WB.of hPB
  have hl := lv_entry ([.ref r, .ref a]) (n := 2) (Nat.le_of_ble_eq_true rfl)
  rw [lg_entry_eq]
  generalize (lg_sl ([.ref r, .ref a]) ++ List.replicate (2 - (lg_sl ([.ref r, .ref a])).length) Slot.unset).toArray = ls at hl ⊢
  have hl : lv_has ls 2 [(0, .ref r), (1, .ref a)] := hl
  show W p l e ({ frames := 4, cells := 1, slots := n, locals := 110 } : Room) s m ([.ref r, .ref a]).toArray below meth c s.heap [] 0 0 (MQ below (va_Qv (fun _ : Unit => True) (fun _ t => PB dC dI cB z [(a, eSB b n), (b, eBy cB cp f)] t) (zB z)) ([.ref r, .ref a]).toArray s 1 n (zB z)) (F0 m 0 ls [])
  refine lv_aload_n hx hb dJ0_init_81219_0 rfl (lv_at hl 0 rfl) ?_
  refine lv_aload_n hx hb dJ0_init_81219_1 rfl (lv_at hl 1 rfl) ?_
  refine lv_null hx hb dJ0_init_81219_2 ?_
  refine kb_v (va_runI (As := [.ref a, .null]) (rest := []) ⟨hx, hb, hml, hown, hts⟩ (m_J0_init_db425 l dC dI cB z a b n cp f r hnm hm hf) (cwI 2 hts gJ0_init_81219_J0_init_db425 rfl rfl rfl (hts (.initialized yJ0_init_db425.cls) (tm 264 (by decide +kernel) rfl)) (hts (.methodLink RJ0 489 yJ0_init_db425) (tm 404 (by decide +kernel) rfl)) (hts (.instanceMethod yJ0_init_db425) (tm 405 (by decide +kernel) rfl)) rfl (by decide +kernel) ⟨Nat.le_of_ble_eq_true rfl, Nat.le_of_ble_eq_true rfl⟩) (hB.preS) rfl rfl hl.1 rfl (lv_room (Nat.le_of_ble_eq_true rfl)) dJ0_init_81219_3 ⟨by simp, by simp⟩) hB (fun u H locs hu hB => ?_)
  replace hB : WB dC dI cB z [(a, eSB b n), (b, eBy cB cp f)] s H locs := hB
  exact W.widen (k := 1) (n := n) (by simp) (by simp) (W.vret hx hb hr (fun t9 ht9 hW9 => ⟨⟨(), rfl, trivial, hB.P ht9 hW9⟩, hB.F ht9⟩) hB.L dJ0_init_81219_6)
set_option maxHeartbeats 4000000 in
set_option maxRecDepth 100000 in
theorem m_J4_toString_0e30d (l : Launch) (dC : Nat → ClassId) (dI : Nat → Nat → Nat) (cB : ClassId) (z : Nat) (a b n cp : Nat) (f : Nat → Int32) (hnm : n ≤ cp) (hm : cp ≤ 65536) (hf : sb_Fit f) : Met l yJ4_toString_0e30d wsJ4_toString_0e30d ({ frames := 5, cells := 2, slots := (4 + n), locals := 131 } : Room) (va_Pc [.ref a] (PB dC dI cB z [(a, eSB b n), (b, eBy cB cp f)])) (va_Qr (fun _ : Unit => True) (fun _ _ t => True ∧ PB dC dI cB z [(a, eSB b n), (b, eBy cB cp f)] t) (zB z)) 2 (4 + n) (zB z) := by
  refine ofWF (cc := cJ4_toString_0e30d) (maxL := 1) (ret := (some (.object "java/lang/String"))) (by decide +kernel) rfl ?_
  intro p e s m args below meth c s₁ B hml hv
  obtain ⟨rfl, hPB⟩ := hv
  have hx := B.exec
  have hb := B.bytes
  have hr := B.returns
  have hts := atoms_spec (ws := wsJ4_toString_0e30d) B.pre
  have hown : s.vm.findClass RJ4 = some m.cls := findClass_of_methodNamed B.named
  have hlocks := B.notSynchronized
  have hB := WB.of hPB
  have hl := lv_entry ([.ref a]) (n := 1) (Nat.le_of_ble_eq_true rfl)
  rw [lg_entry_eq]
  generalize (lg_sl ([.ref a]) ++ List.replicate (1 - (lg_sl ([.ref a])).length) Slot.unset).toArray = ls at hl ⊢
  have hl : lv_has ls 1 [(0, .ref a)] := hl
  show W p l e ({ frames := 5, cells := 2, slots := (4 + n), locals := 131 } : Room) s m ([.ref a]).toArray below meth c s.heap [] 0 0 (MQ below (va_Qr (fun _ : Unit => True) (fun _ _ t => True ∧ PB dC dI cB z [(a, eSB b n), (b, eBy cB cp f)] t) (zB z)) ([.ref a]).toArray s 2 (4 + n) (zB z)) (F0 m 0 ls [])
  have hinJ0 : ∀ w ∈ u_ws RJ0 TJ0 4, w ∈ wsJ4_toString_0e30d := tu 1327 (by decide +kernel) rfl
  refine va_new (D := (dC, dI)) (ci := 0) (C := RJ0) (T := TJ0) (N := 4) (fs := [.null, .int (nI 0), .int (nI 0), .int (nI 0)]) hx hb hts hinJ0 tyJ0 tyJ0_ok hown (hts (.classLink RJ4 18 RJ0) (tm 407 (by decide +kernel) rfl)) (hts (.instantiable RJ0 4) (tm 408 (by decide +kernel) rfl)) (hts (.initialized RJ0) (tm 264 (by decide +kernel) rfl)) hB.2.1 hB.1 hB.2.2.1 hB.2.2.2.1 (fun q hq => Nat.le_trans hB.2.2.2.2.1 hq) rfl (fun j hj => by rcases (show j = 0 ∨ j = 1 ∨ j = 2 ∨ j = 3 by omega) with rfl | rfl | rfl | rfl <;> rfl) (by simp) (by simp) dJ4_toString_0e30d_0 (fun r H h1 h2 h3 => ?_)
  replace hB : WB dC dI cB z [(a, eSB b n), (b, eBy cB cp f), (r, .inr (0, [.null, .int (nI 0), .int (nI 0), .int (nI 0)]))] s H _ := hB.to h1 h2 h3
  refine lv_dup hx hb dJ4_toString_0e30d_3 rfl ?_
  refine lv_aload_n hx hb dJ4_toString_0e30d_4 rfl (lv_at hl 0 rfl) ?_
  refine kb_v (va_runI (As := [.ref a]) (rest := [.ref r]) ⟨hx, hb, hml, hown, hts⟩ (m_J0_init_81219 l dC dI cB z a b n cp f r hnm hm hf) (cwI 1 hts gJ4_toString_0e30d_J0_init_81219 rfl rfl rfl (hts (.initialized yJ0_init_81219.cls) (tm 264 (by decide +kernel) rfl)) (hts (.methodLink RJ4 137 yJ0_init_81219) (tm 409 (by decide +kernel) rfl)) (hts (.instanceMethod yJ0_init_81219) (tm 410 (by decide +kernel) rfl)) rfl (by decide +kernel) ⟨Nat.le_of_ble_eq_true rfl, Nat.le_of_ble_eq_true rfl⟩) (hB.preS) rfl rfl hl.1 rfl (lv_room (Nat.le_of_ble_eq_true rfl)) dJ4_toString_0e30d_5 ⟨by simp, by simp⟩) hB (fun u H locs hu hB => ?_)
  replace hB : WB dC dI cB z [(a, eSB b n), (b, eBy cB cp f)] s H locs := hB
  exact W.widen (k := 2) (n := (4 + n)) (by simp) (by simp) (W.aret (v := .ref r) hx hb hr (Or.inl ⟨_, rfl⟩) (Or.inr ⟨_, rfl⟩) (fun t9 ht9 hW9 => ⟨⟨(), _, rfl, trivial, trivial, hB.P ht9 hW9⟩, hB.F ht9⟩) hB.L dJ4_toString_0e30d_8)
