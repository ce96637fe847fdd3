section
/-! texts: the builder's methods -/
theorem KatJ4 {dC : Nat → ClassId} {dI : Nat → Nat → Nat} {cB : ClassId} {z : Nat} {G : va_W} {U : State} (h : PB dC dI cB z G U) : ClassAt U RJ4 (dC 1) := by
  obtain ⟨-, hf, hk⟩ := h.2.1.1 1 (RJ4, TJ4, 4) rfl
  exact ⟨hf, hk.choose, hk.choose_spec.1, hk.choose_spec.2⟩
def gm (q m : Nat) : Nat := if q ≤ m then 0 else sb_cap q m
theorem gm_le {q m : Nat} (h : m < q) : sb_cap q m ≤ gm q m := by rw [gm, if_neg (by omega)]; exact Nat.le_refl _
theorem gm0 {q m : Nat} (h : m < q) : 0 + sb_cap q m ≤ gm q m := by rw [Nat.zero_add]; exact gm_le h
theorem app_old {α : Type} {G : List α} {x y : α} {k : Nat} (h : G[k]? = some y) : (G ++ [x])[k]? = some y := by
  rw [List.getElem?_append_left (List.getElem?_eq_some_iff.mp h).1]; exact h
theorem app_new {α : Type} {G : List α} {x : α} : (G ++ [x])[G.length]? = some x := by
  rw [List.getElem?_append_right (Nat.le_refl _), Nat.sub_self]; rfl
theorem app_set {α : Type} {G : List α} {x y : α} : (G ++ [x]).set G.length y = G ++ [y] := by
  induction G with
  | nil => rfl
  | cons g G ih => exact congrArg (g :: ·) ih
theorem set1 {α : Type} {G : List α} {x y : α} (h : G[1]? = some x) : (G.set 1 y)[1]? = some y := by
  rw [List.getElem?_set_self (List.getElem?_eq_some_iff.mp h).1]
theorem cap_eq {q m : Nat} (h : m < q) : m + max (q - m) (m + 2) = sb_cap q m := by
  unfold sb_cap
  rw [if_neg (by omega)]
  split <;> omega
theorem sub_le0 {q m : Nat} (hq : q ≤ 65536) (hm : m ≤ 65536) : nI q - nI m ≤ 0 ↔ q ≤ m := by
  have e1 : (nI q - nI m).toInt = (q : Int) - m := pk_sub_toInt (by omega) (by omega)
  rw [Int32.le_iff_toInt_le, e1, Int32.toInt_zero]
  omega
theorem WB.drop1 {dC : Nat → ClassId} {dI : Nat → Nat → Nat} {cB : ClassId} {z : Nat} {x y w : Nat × va_E} {s : State} {H : Heap} {locs : List Loc} (h : WB dC dI cB z [x, y, w] s H locs) : WB dC dI cB z [x, w] s H locs :=
  h.to (h.1.sub [0, 2] rfl) (h.2.2.1.sub [0, 2] (by decide) rfl) h.2.2.2.1
theorem set_same {α : Type} {G : List α} {x : α} {k : Nat} (h : G[k]? = some x) : G.set k x = G := by
  obtain ⟨h1, h2⟩ := List.getElem?_eq_some_iff.mp h
  rw [← h2, List.set_getElem_self]
set_option maxHeartbeats 4000000 in
set_option maxRecDepth 100000 in
theorem m_J5_isLatin1_aae02 (l : Launch) (dC : Nat → ClassId) (dI : Nat → Nat → Nat) (cB : ClassId) (z : Nat) (G : va_W) (a b n : Nat) (hG : G[0]? = some (a, eSB b n)) : Met l yJ5_isLatin1_aae02 wsJ5_isLatin1_aae02 ({ frames := 0, cells := 0, slots := 0, locals := 0 } : Room) (va_Pc [.ref a] (PB dC dI cB z G)) (vp_Si (fun r => r = bI true)) 0 0 (fun _ => False) := by
  refine ofWF (cc := cJ5_isLatin1_aae02) (maxL := 1) (ret := (some .boolean)) (by decide +kernel) rfl ?_
  intro p e s m args below meth c s₁ B hml hv
  obtain ⟨rfl, hPB⟩ := hv
  have hx := B.exec
  have hb := B.bytes
  have hr := B.returns
  have hts := atoms_spec (ws := wsJ5_isLatin1_aae02) B.pre
  have hown : s.vm.findClass RJ5 = some m.cls := findClass_of_methodNamed B.named
  have hlocks := B.notSynchronized
  have hinJ4 : ∀ w ∈ u_ws RJ4 TJ4 4, w ∈ wsJ5_isLatin1_aae02 := tu 1326 (by decide +kernel) rfl
  have hB := WB.of hPB
  have hl := lv_entry ([.ref a]) (n := 1) (Nat.le_of_ble_eq_true rfl)
  rw [lg_entry_eq]
  generalize (lg_sl ([.ref a]) ++ List.replicate (1 - (lg_sl ([.ref a])).length) Slot.unset).toArray = ls at hl ⊢
  have hl : lv_has ls 1 [(0, .ref a)] := hl
  show W p l e ({ frames := 0, cells := 0, slots := 0, locals := 0 } : Room) s m ([.ref a]).toArray below meth c s.heap [] 0 0 (MQ below (vp_Si (fun r => r = bI true)) ([.ref a]).toArray s 0 0 (fun _ => False)) (F0 m 0 ls [])
  refine va_gets hx hb hB.2.2.2.2.2.1 hB.2.2.2.1 hown (hts (.fieldLink RJ5 18 "java/lang/String" "COMPACT_STRINGS" "Z") (tm 283 (by decide +kernel) rfl)) (fun _ h => h) dJ5_isLatin1_aae02_0 ?_
  refine kn_if_eq (tgt := 17) hx hb (by omega) dJ5_isLatin1_aae02_3 (by decide) (fun k_1 => absurd k_1 (by omega)) (fun k_1 => ?_)
  refine lv_aload_n hx hb dJ5_isLatin1_aae02_6 rfl (lv_at hl 0 rfl) ?_
  refine va_get (D := (dC, dI)) (ci := 1) (C := RJ4) (T := TJ4) (N := 4) (fs := [.ref b, .int (nI 0), .int (nI 0), .int (nI n)]) hx hb hts hinJ4 hown hB.2.1 hB.1 0 hG rfl 1 (by decide) (hts (.fieldLink RJ5 22 "java/lang/AbstractStringBuilder" "coder" "B") (tm 217 (by decide +kernel) rfl)) (fun _ h => h) rfl dJ5_isLatin1_aae02_7 ?_
  refine kn_if_ne (tgt := 17) hx hb (by omega) dJ5_isLatin1_aae02_10 (by decide) (fun k_2 => absurd k_2 (by omega)) (fun k_2 => ?_)
  refine lv_iconst (v := bI true) hx hb dJ5_isLatin1_aae02_13 (by decide) ?_
  refine lv_goto (tgt := 18) hx hb dJ5_isLatin1_aae02_14 (by decide) ?_
  exact W.zret (v := bI true) hx hb hr (bI_narrow _) (fun t9 ht9 hW9 => ⟨_, rfl, rfl, ht9⟩) (fun _ h => nomatch h) dJ5_isLatin1_aae02_18
set_option maxHeartbeats 4000000 in
set_option maxRecDepth 100000 in
theorem m_J5_length_8abf5 (l : Launch) (dC : Nat → ClassId) (dI : Nat → Nat → Nat) (cB : ClassId) (z : Nat) (G : va_W) (a b n : Nat) (hG : G[0]? = some (a, eSB b n)) : Met l yJ5_length_8abf5 wsJ5_length_8abf5 ({ frames := 0, cells := 0, slots := 0, locals := 0 } : Room) (va_Pc [.ref a] (PB dC dI cB z G)) (vp_Si (fun r => r = nI n)) 0 0 (fun _ => False) := by
  refine ofWF (cc := cJ5_length_8abf5) (maxL := 1) (ret := (some .int)) (by decide +kernel) rfl ?_
  intro p e s m args below meth c s₁ B hml hv
  obtain ⟨rfl, hPB⟩ := hv
  have hx := B.exec
  have hb := B.bytes
  have hr := B.returns
  have hts := atoms_spec (ws := wsJ5_length_8abf5) B.pre
  have hown : s.vm.findClass RJ5 = some m.cls := findClass_of_methodNamed B.named
  have hlocks := B.notSynchronized
  have hinJ4 : ∀ w ∈ u_ws RJ4 TJ4 4, w ∈ wsJ5_length_8abf5 := tu 1326 (by decide +kernel) rfl
  have hB := WB.of hPB
  have hl := lv_entry ([.ref a]) (n := 1) (Nat.le_of_ble_eq_true rfl)
  rw [lg_entry_eq]
  generalize (lg_sl ([.ref a]) ++ List.replicate (1 - (lg_sl ([.ref a])).length) Slot.unset).toArray = ls at hl ⊢
  have hl : lv_has ls 1 [(0, .ref a)] := hl
  show W p l e ({ frames := 0, cells := 0, slots := 0, locals := 0 } : Room) s m ([.ref a]).toArray below meth c s.heap [] 0 0 (MQ below (vp_Si (fun r => r = nI n)) ([.ref a]).toArray s 0 0 (fun _ => False)) (F0 m 0 ls [])
  refine lv_aload_n hx hb dJ5_length_8abf5_0 rfl (lv_at hl 0 rfl) ?_
  refine va_get (D := (dC, dI)) (ci := 1) (C := RJ4) (T := TJ4) (N := 4) (fs := [.ref b, .int (nI 0), .int (nI 0), .int (nI n)]) hx hb hts hinJ4 hown hB.2.1 hB.1 0 hG rfl 3 (by decide) (hts (.fieldLink RJ5 79 "java/lang/AbstractStringBuilder" "count" "I") (tm 277 (by decide +kernel) rfl)) (fun _ h => h) rfl dJ5_length_8abf5_1 ?_
  exact W.iret (v := nI n) hx hb hr (fun t9 ht9 hW9 => ⟨_, rfl, rfl, ht9⟩) (fun _ h => nomatch h) dJ5_length_8abf5_4
set_option maxHeartbeats 4000000 in
set_option maxRecDepth 100000 in
theorem m_J4_length_8abf5 (l : Launch) (dC : Nat → ClassId) (dI : Nat → Nat → Nat) (cB : ClassId) (z : Nat) (G : va_W) (a b n : Nat) (hG : G[0]? = some (a, eSB b n)) : Met l yJ4_length_8abf5 wsJ4_length_8abf5 ({ frames := 1, cells := 0, slots := 0, locals := 20 } : Room) (va_Pc [.ref a] (PB dC dI cB z G)) (vp_Si (fun r => r = nI n)) 0 0 (fun _ => False) := by
  refine ofWF (cc := cJ4_length_8abf5) (maxL := 1) (ret := (some .int)) (by decide +kernel) rfl ?_
  intro p e s m args below meth c s₁ B hml hv
  obtain ⟨rfl, hPB⟩ := hv
  have hx := B.exec
  have hb := B.bytes
  have hr := B.returns
  have hts := atoms_spec (ws := wsJ4_length_8abf5) B.pre
  have hown : s.vm.findClass RJ4 = some m.cls := findClass_of_methodNamed B.named
  have hlocks := B.notSynchronized
  have hB := WB.of hPB
  have hl := lv_entry ([.ref a]) (n := 1) (Nat.le_of_ble_eq_true rfl)
  rw [lg_entry_eq]
  generalize (lg_sl ([.ref a]) ++ List.replicate (1 - (lg_sl ([.ref a])).length) Slot.unset).toArray = ls at hl ⊢
  have hl : lv_has ls 1 [(0, .ref a)] := hl
  show W p l e ({ frames := 1, cells := 0, slots := 0, locals := 20 } : Room) s m ([.ref a]).toArray below meth c s.heap [] 0 0 (MQ below (vp_Si (fun r => r = nI n)) ([.ref a]).toArray s 0 0 (fun _ => False)) (F0 m 0 ls [])
  have hat := KatJ4 hPB
  refine lv_aload_n hx hb dJ4_length_8abf5_0 rfl (lv_at hl 0 rfl) ?_
  refine kx_cr (v := nI n) (va_runSU (As := []) (rest := []) (C := RJ4) hat ⟨hx, hb, hml, hown, hts⟩ (m_J5_length_8abf5 l dC dI cB z G a b n hG) (va_cwSU 0 hts gJ4_length_8abf5_J5_length_8abf5_s343 rfl rfl rfl (by decide +kernel) ⟨Nat.le_of_ble_eq_true rfl, Nat.le_of_ble_eq_true rfl⟩) (hB.preV (ci := 1) (q := (RJ4, TJ4, 4)) rfl 0 hG) rfl rfl hl.1 rfl (lv_room (Nat.le_of_ble_eq_true rfl)) dJ4_length_8abf5_1 ⟨Nat.le_of_ble_eq_true rfl, Nat.le_of_ble_eq_true rfl⟩) (fun _ h => h) ?_
  exact W.iret (v := nI n) hx hb hr (fun t9 ht9 hW9 => ⟨_, rfl, rfl, ht9⟩) (fun _ h => nomatch h) dJ4_length_8abf5_4
set_option maxHeartbeats 4000000 in
set_option maxRecDepth 100000 in
theorem m_J5_getValue_6d5f1 (l : Launch) (dC : Nat → ClassId) (dI : Nat → Nat → Nat) (cB : ClassId) (z : Nat) (G : va_W) (a b n : Nat) (hG : G[0]? = some (a, eSB b n)) : Met l yJ5_getValue_6d5f1 wsJ5_getValue_6d5f1 ({ frames := 0, cells := 0, slots := 0, locals := 0 } : Room) (va_Pc [.ref a] (PB dC dI cB z G)) (va_Sr (fun k => k = b) (fun k => .ref k)) 0 0 (fun _ => False) := by
  refine ofWF (cc := cJ5_getValue_6d5f1) (maxL := 1) (ret := (some (.array .byte))) (by decide +kernel) rfl ?_
  intro p e s m args below meth c s₁ B hml hv
  obtain ⟨rfl, hPB⟩ := hv
  have hx := B.exec
  have hb := B.bytes
  have hr := B.returns
  have hts := atoms_spec (ws := wsJ5_getValue_6d5f1) B.pre
  have hown : s.vm.findClass RJ5 = some m.cls := findClass_of_methodNamed B.named
  have hlocks := B.notSynchronized
  have hinJ4 : ∀ w ∈ u_ws RJ4 TJ4 4, w ∈ wsJ5_getValue_6d5f1 := tu 1326 (by decide +kernel) rfl
  have hB := WB.of hPB
  have hl := lv_entry ([.ref a]) (n := 1) (Nat.le_of_ble_eq_true rfl)
  rw [lg_entry_eq]
  generalize (lg_sl ([.ref a]) ++ List.replicate (1 - (lg_sl ([.ref a])).length) Slot.unset).toArray = ls at hl ⊢
  have hl : lv_has ls 1 [(0, .ref a)] := hl
  show W p l e ({ frames := 0, cells := 0, slots := 0, locals := 0 } : Room) s m ([.ref a]).toArray below meth c s.heap [] 0 0 (MQ below (va_Sr (fun k => k = b) (fun k => .ref k)) ([.ref a]).toArray s 0 0 (fun _ => False)) (F0 m 0 ls [])
  refine lv_aload_n hx hb dJ5_getValue_6d5f1_0 rfl (lv_at hl 0 rfl) ?_
  refine va_get (D := (dC, dI)) (ci := 1) (C := RJ4) (T := TJ4) (N := 4) (fs := [.ref b, .int (nI 0), .int (nI 0), .int (nI n)]) hx hb hts hinJ4 hown hB.2.1 hB.1 0 hG rfl 0 (by decide) (hts (.fieldLink RJ5 15 "java/lang/AbstractStringBuilder" "value" "[B") (tm 216 (by decide +kernel) rfl)) (fun _ h => h) rfl dJ5_getValue_6d5f1_1 ?_
  exact W.aret (v := .ref b) hx hb hr (Or.inr ⟨_, rfl⟩) (Or.inr ⟨_, rfl⟩) (fun t9 ht9 hW9 => ⟨_, rfl, rfl, ht9⟩) (fun _ h => nomatch h) dJ5_getValue_6d5f1_4
set_option maxHeartbeats 4000000 in
set_option maxRecDepth 100000 in
theorem m_J5_newCapacity_0f7a4 (l : Launch) (dC : Nat → ClassId) (dI : Nat → Nat → Nat) (cB : ClassId) (z : Nat) (G : va_W) (a b n cp : Nat) (f : Nat → Int32) (hG : G[0]? = some (a, eSB b n)) (hG2 : G[1]? = some (b, eBy cB cp f)) (q : Nat) (h1 : cp < q) (h2 : q ≤ 65536) (h3 : cp ≤ 65536) : Met l yJ5_newCapacity_0f7a4 wsJ5_newCapacity_0f7a4 ({ frames := 2, cells := 0, slots := 0, locals := 37 } : Room) (va_Pc [.ref a, .int (nI q)] (PB dC dI cB z G)) (vp_Si (fun r => r = nI (sb_cap q cp))) 0 0 (fun _ => False) := by
  refine ofWF (cc := cJ5_newCapacity_0f7a4) (maxL := 6) (ret := (some .int)) (by decide +kernel) rfl ?_
  intro p e s m args below meth c s₁ B hml hv
  obtain ⟨rfl, hPB⟩ := hv
  have hx := B.exec
  have hb := B.bytes
  have hr := B.returns
  have hts := atoms_spec (ws := wsJ5_newCapacity_0f7a4) B.pre
  have hown : s.vm.findClass RJ5 = some m.cls := findClass_of_methodNamed B.named
  have hlocks := B.notSynchronized
  have hinJ4 : ∀ w ∈ u_ws RJ4 TJ4 4, w ∈ wsJ5_newCapacity_0f7a4 := tu 1326 (by decide +kernel) rfl
  have hB := WB.of hPB
  have hl := lv_entry ([.ref a, .int (nI q)]) (n := 6) (Nat.le_of_ble_eq_true rfl)
  rw [lg_entry_eq]
  generalize (lg_sl ([.ref a, .int (nI q)]) ++ List.replicate (6 - (lg_sl ([.ref a, .int (nI q)])).length) Slot.unset).toArray = ls at hl ⊢
  have hl : lv_has ls 6 [(0, .ref a), (1, .int (nI q))] := hl
  show W p l e ({ frames := 2, cells := 0, slots := 0, locals := 37 } : Room) s m ([.ref a, .int (nI q)]).toArray below meth c s.heap [] 0 0 (MQ below (vp_Si (fun r => r = nI (sb_cap q cp))) ([.ref a, .int (nI q)]).toArray s 0 0 (fun _ => False)) (F0 m 0 ls [])
  refine lv_aload_n hx hb dJ5_newCapacity_0f7a4_0 rfl (lv_at hl 0 rfl) ?_
  refine va_get (D := (dC, dI)) (ci := 1) (C := RJ4) (T := TJ4) (N := 4) (fs := [.ref b, .int (nI 0), .int (nI 0), .int (nI n)]) hx hb hts hinJ4 hown hB.2.1 hB.1 0 hG rfl 0 (by decide) (hts (.fieldLink RJ5 15 "java/lang/AbstractStringBuilder" "value" "[B") (tm 216 (by decide +kernel) rfl)) (fun _ h => h) rfl dJ5_newCapacity_0f7a4_1 ?_
  refine va_alen (cA := cB) (x := (cp, .inl f)) hx hb hB.2.1 hB.1 1 0 hG2 rfl (v := nI cp) rfl dJ5_newCapacity_0f7a4_4 ?_
  refine lv_istore_n (lv' := [(2, .int (nI cp)), (0, .ref a), (1, .int (nI q))]) hx hb dJ5_newCapacity_0f7a4_5 rfl hl (by decide) rfl (fun ls hl => ?_)
  refine lv_iload_n hx hb dJ5_newCapacity_0f7a4_6 rfl (lv_at hl 2 rfl) ?_
  refine lv_aload_n hx hb dJ5_newCapacity_0f7a4_7 rfl (lv_at hl 1 rfl) ?_
  refine va_get (D := (dC, dI)) (ci := 1) (C := RJ4) (T := TJ4) (N := 4) (fs := [.ref b, .int (nI 0), .int (nI 0), .int (nI n)]) hx hb hts hinJ4 hown hB.2.1 hB.1 0 hG rfl 1 (by decide) (hts (.fieldLink RJ5 22 "java/lang/AbstractStringBuilder" "coder" "B") (tm 217 (by decide +kernel) rfl)) (fun _ h => h) rfl dJ5_newCapacity_0f7a4_8 ?_
  refine lv_ishl hx hb dJ5_newCapacity_0f7a4_11 ?_
  rw [show (nI q) <<< ((nI 0) &&& 31) = nI q from sb_shl0 _]
  refine lv_istore_n (lv' := [(3, .int (nI q)), (2, .int (nI cp)), (0, .ref a), (1, .int (nI q))]) hx hb dJ5_newCapacity_0f7a4_12 rfl hl (by decide) rfl (fun ls hl => ?_)
  refine lv_iload_n hx hb dJ5_newCapacity_0f7a4_13 rfl (lv_at hl 0 rfl) ?_
  refine lv_iload_n hx hb dJ5_newCapacity_0f7a4_14 rfl (lv_at hl 1 rfl) ?_
  refine kn_isub hx hb (by omega) dJ5_newCapacity_0f7a4_15 ?_
  refine lv_istore (lv' := [(4, .int (nI (q - cp))), (3, .int (nI q)), (2, .int (nI cp)), (0, .ref a), (1, .int (nI q))]) hx hb dJ5_newCapacity_0f7a4_16 hl (by decide) rfl (fun ls hl => ?_)
  refine lv_iload_n hx hb dJ5_newCapacity_0f7a4_18 rfl (lv_at hl 2 rfl) ?_
  refine lv_iload hx hb dJ5_newCapacity_0f7a4_19 (lv_at hl 0 rfl) ?_
  refine lv_iload_n hx hb dJ5_newCapacity_0f7a4_21 rfl (lv_at hl 2 rfl) ?_
  refine lv_iconst (v := nI 2) hx hb dJ5_newCapacity_0f7a4_22 (by decide) ?_
  refine lv_aload_n hx hb dJ5_newCapacity_0f7a4_23 rfl (lv_at hl 3 rfl) ?_
  refine va_get (D := (dC, dI)) (ci := 1) (C := RJ4) (T := TJ4) (N := 4) (fs := [.ref b, .int (nI 0), .int (nI 0), .int (nI n)]) hx hb hts hinJ4 hown hB.2.1 hB.1 0 hG rfl 1 (by decide) (hts (.fieldLink RJ5 22 "java/lang/AbstractStringBuilder" "coder" "B") (tm 217 (by decide +kernel) rfl)) (fun _ h => h) rfl dJ5_newCapacity_0f7a4_24 ?_
  refine lv_ishl hx hb dJ5_newCapacity_0f7a4_27 ?_
  rw [show (nI 2) <<< ((nI 0) &&& 31) = nI 2 from sb_shl0 _]
  refine kn_iadd hx hb dJ5_newCapacity_0f7a4_28 ?_
  refine kx_cr (v := nI (cp + max (q - cp) (cp + 2))) (va_runS (As := [.int (nI cp), .int (nI (q - cp)), .int (nI (cp + 2))]) (rest := []) ⟨hx, hb, hml, hown, hts⟩ (m_J8_newLength_cabcc l cp (q - cp) (cp + 2) (by omega) (by omega) (by omega)) (va_cwS 3 hts gJ5_newCapacity_0f7a4_J8_newLength_cabcc rfl rfl rfl hdJ8_newLength_cabcc_3.2 ⟨Nat.le_of_ble_eq_true rfl, Nat.le_of_ble_eq_true rfl⟩) (pureS) rfl rfl hl.1 rfl (lv_room (Nat.le_of_ble_eq_true rfl)) dJ5_newCapacity_0f7a4_29 ⟨Nat.le_of_ble_eq_true rfl, Nat.le_of_ble_eq_true rfl⟩) (fun _ h => h) ?_
  refine lv_istore (lv' := [(5, .int (nI (cp + max (q - cp) (cp + 2)))), (4, .int (nI (q - cp))), (3, .int (nI q)), (2, .int (nI cp)), (0, .ref a), (1, .int (nI q))]) hx hb dJ5_newCapacity_0f7a4_32 hl (by decide) rfl (fun ls hl => ?_)
  refine lv_iload hx hb dJ5_newCapacity_0f7a4_34 (lv_at hl 0 rfl) ?_
  refine lv_ldc (v := nI 2147483647) hx hb hown (hts (.constant RJ5 39 2147483647) (tm 224 (by decide +kernel) rfl)) dJ5_newCapacity_0f7a4_36 ?_
  refine kn_icmp_ne (tgt := 51) hx hb (by omega) (by omega) dJ5_newCapacity_0f7a4_38 (by decide) (fun k_1 => ?_) (fun k_1 => absurd k_1 (by omega))
  refine lv_iload hx hb dJ5_newCapacity_0f7a4_51 (lv_at hl 0 rfl) ?_
  refine lv_aload_n hx hb dJ5_newCapacity_0f7a4_53 rfl (lv_at hl 4 rfl) ?_
  refine va_get (D := (dC, dI)) (ci := 1) (C := RJ4) (T := TJ4) (N := 4) (fs := [.ref b, .int (nI 0), .int (nI 0), .int (nI n)]) hx hb hts hinJ4 hown hB.2.1 hB.1 0 hG rfl 1 (by decide) (hts (.fieldLink RJ5 22 "java/lang/AbstractStringBuilder" "coder" "B") (tm 217 (by decide +kernel) rfl)) (fun _ h => h) rfl dJ5_newCapacity_0f7a4_54 ?_
  refine lv_ishr hx hb dJ5_newCapacity_0f7a4_57 ?_
  rw [show (nI (cp + max (q - cp) (cp + 2))) >>> ((nI 0) &&& 31) = nI (cp + max (q - cp) (cp + 2)) from sb_shr0 _]
  exact W.iret (v := nI (cp + max (q - cp) (cp + 2))) hx hb hr (fun t9 ht9 hW9 => ⟨_, rfl, (congrArg nI (cap_eq h1)), ht9⟩) (fun _ h => nomatch h) dJ5_newCapacity_0f7a4_58
set_option maxHeartbeats 4000000 in
set_option maxRecDepth 100000 in
theorem m_J7_copyOf_9075b (l : Launch) (dC : Nat → ClassId) (dI : Nat → Nat → Nat) (cB : ClassId) (z : Nat) (G : va_W) (b cp : Nat) (f : Nat → Int32) (hG2 : G[1]? = some (b, eBy cB cp f)) (q : Nat) (hf : sb_Fit f) (h1 : cp < q) (h2 : q ≤ 65536) : Met l yJ7_copyOf_9075b wsJ7_copyOf_9075b ({ frames := 1, cells := 1, slots := q, locals := 40 } : Room) (va_Pc [.ref b, .int (nI q)] (PB dC dI cB z G)) (va_Qr (fun u : Nat → Int32 => sb_Fit u) (fun u q9 t => True ∧ PB dC dI cB z (G ++ [(q9, eBy cB q u)]) t) (zB z)) 1 q (zB z) := by
  refine ofWF (cc := cJ7_copyOf_9075b) (maxL := 3) (ret := (some (.array .byte))) (by decide +kernel) rfl ?_
  intro p e s m args below meth c s₁ B hml hv
  obtain ⟨rfl, hPB⟩ := hv
  have hx := B.exec
  have hb := B.bytes
  have hr := B.returns
  have hts := atoms_spec (ws := wsJ7_copyOf_9075b) B.pre
  have hown : s.vm.findClass RJ7 = some m.cls := findClass_of_methodNamed B.named
  have hlocks := B.notSynchronized
  have hB := WB.of hPB
  have hl := lv_entry ([.ref b, .int (nI q)]) (n := 3) (Nat.le_of_ble_eq_true rfl)
  rw [lg_entry_eq]
  generalize (lg_sl ([.ref b, .int (nI q)]) ++ List.replicate (3 - (lg_sl ([.ref b, .int (nI q)])).length) Slot.unset).toArray = ls at hl ⊢
  have hl : lv_has ls 3 [(0, .ref b), (1, .int (nI q))] := hl
  show W p l e ({ frames := 1, cells := 1, slots := q, locals := 40 } : Room) s m ([.ref b, .int (nI q)]).toArray below meth c s.heap [] 0 0 (MQ below (va_Qr (fun u : Nat → Int32 => sb_Fit u) (fun u q9 t => True ∧ PB dC dI cB z (G ++ [(q9, eBy cB q u)]) t) (zB z)) ([.ref b, .int (nI q)]).toArray s 1 q (zB z)) (F0 m 0 ls [])
  refine lv_iload_n hx hb dJ7_copyOf_9075b_0 rfl (lv_at hl 1 rfl) ?_
  refine lv_aload_n hx hb dJ7_copyOf_9075b_1 rfl (lv_at hl 0 rfl) ?_
  refine va_alen (cA := cB) (x := (cp, .inl f)) hx hb hB.2.1 hB.1 1 0 hG2 rfl (v := nI cp) rfl dJ7_copyOf_9075b_2 ?_
  refine kn_icmp_ne (tgt := 14) hx hb (by omega) (by omega) dJ7_copyOf_9075b_3 (by decide) (fun k_1 => ?_) (fun k_1 => absurd k_1 (by omega))
  refine lv_iload_n hx hb dJ7_copyOf_9075b_14 rfl (lv_at hl 1 rfl) ?_
  refine kb_new hx hb (hts (.arrayClass .byte) (tm 246 (by decide +kernel) rfl)) hB (by omega) (Nat.le_refl _) (by show 0 + q ≤ q; omega) dJ7_copyOf_9075b_15 (fun q_2 H hB => ?_)
  refine lv_astore_n (lv' := [(2, .ref q_2), (0, .ref b), (1, .int (nI q))]) hx hb dJ7_copyOf_9075b_17 rfl hl (by decide) rfl (fun ls hl => ?_)
  refine lv_aload_n hx hb dJ7_copyOf_9075b_18 rfl (lv_at hl 1 rfl) ?_
  refine lv_iconst (v := nI 0) hx hb dJ7_copyOf_9075b_19 (by decide) ?_
  refine lv_aload_n hx hb dJ7_copyOf_9075b_20 rfl (lv_at hl 0 rfl) ?_
  refine lv_iconst (v := nI 0) hx hb dJ7_copyOf_9075b_21 (by decide) ?_
  refine lv_aload_n hx hb dJ7_copyOf_9075b_22 rfl (lv_at hl 1 rfl) ?_
  refine va_alen (cA := cB) (x := (cp, .inl f)) hx hb hB.2.1 hB.1 1 0 (app_old hG2) rfl (v := nI cp) rfl dJ7_copyOf_9075b_23 ?_
  refine lv_iload_n hx hb dJ7_copyOf_9075b_24 rfl (lv_at hl 2 rfl) ?_
  refine kn_min hx hb (by rw [hml]; exact hl.1.symm) hown (hts (.methodLink RJ7 304 Lib.Math.min.name) (tm 247 (by decide +kernel) rfl)) (hts (.static Lib.Math.min.name) (tm 151 (by decide +kernel) rfl)) (hts (.initialized "java/lang/Math") (tm 152 (by decide +kernel) rfl)) (hts (.code Lib.Math.min.name Lib.Math.min.code 2 (some .int)) (tm 153 (by decide +kernel) rfl)) (Nat.le_of_ble_eq_true rfl) (Nat.le_of_ble_eq_true rfl) (by simp) (by simp) (by omega) (by omega) dJ7_copyOf_9075b_25 ?_
  refine kb_cp hx hb (by rw [hml]; exact hl.1.symm) hown (hts (.methodLink RJ7 150 arraycopyName) (tm 248 (by decide +kernel) rfl)) (hts (.native arraycopyName) (tm 249 (by decide +kernel) rfl)) (hts (.static arraycopyName) (tm 250 (by decide +kernel) rfl)) (hts (.initialized "java/lang/System") (tm 251 (by decide +kernel) rfl)) hB 1 G.length (f := f) (g := (fun _ => 0)) (app_old hG2) app_new hf (by omega) (by omega) (by omega) (Nat.le_of_ble_eq_true rfl) (Nat.le_of_ble_eq_true rfl) dJ7_copyOf_9075b_28 (fun H locs hB => ?_)
  rw [app_set] at hB
  refine lv_aload_n hx hb dJ7_copyOf_9075b_31 rfl (lv_at hl 0 rfl) ?_
  exact W.widen (k := 1) (n := q) (by omega) (by omega) (W.aret (v := .ref q_2) hx hb hr (Or.inr ⟨_, rfl⟩) (Or.inr ⟨_, rfl⟩) (fun t9 ht9 hW9 => ⟨⟨_, _, rfl, sb_fitC hf sb_fit0, trivial, hB.P ht9 hW9⟩, hB.F ht9⟩) hB.L dJ7_copyOf_9075b_32)
set_option maxHeartbeats 4000000 in
set_option maxRecDepth 100000 in
theorem m_J6_getChars_ba4f3 (l : Launch) (dC : Nat → ClassId) (dI : Nat → Nat → Nat) (cB : ClassId) (z : Nat) (G : va_W) (b cp : Nat) (f : Nat → Int32) (hG2 : G[1]? = some (b, eBy cB cp f)) (v i9 : Nat) (hf : sb_Fit f) (hv : v < 1000000000) (hi : sb_dg v ≤ i9) (him : i9 ≤ cp) (hm : cp ≤ 65536) : Met l yJ6_getChars_ba4f3 wsJ6_getChars_ba4f3 ({ frames := 0, cells := 0, slots := 0, locals := 0 } : Room) (va_Pc [.int (nI v), .int (nI i9), .ref b] (PB dC dI cB z G)) (va_Qi (fun (_ : Int32) (u : Nat → Int32) => sb_Fit u) (fun u t => PB dC dI cB z (G.set 1 (b, eBy cB cp u)) t) (zB z)) 0 0 (zB z) := by
  refine ofWF (cc := cJ6_getChars_ba4f3) (maxL := 7) (ret := (some .int)) (by decide +kernel) rfl ?_
  intro p e s m args below meth c s₁ B hml hv
  obtain ⟨rfl, hPB⟩ := hv
  have hx := B.exec
  have hb := B.bytes
  have hr := B.returns
  have hts := atoms_spec (ws := wsJ6_getChars_ba4f3) B.pre
  have hown : s.vm.findClass RJ6 = some m.cls := findClass_of_methodNamed B.named
  have hlocks := B.notSynchronized
  have hB := WB.of hPB
  have hl := lv_entry ([.int (nI v), .int (nI i9), .ref b]) (n := 7) (Nat.le_of_ble_eq_true rfl)
  rw [lg_entry_eq]
  generalize (lg_sl ([.int (nI v), .int (nI i9), .ref b]) ++ List.replicate (7 - (lg_sl ([.int (nI v), .int (nI i9), .ref b])).length) Slot.unset).toArray = ls at hl ⊢
  have hl : lv_has ls 7 [(0, .int (nI v)), (1, .int (nI i9)), (2, .ref b)] := hl
  show W p l e ({ frames := 0, cells := 0, slots := 0, locals := 0 } : Room) s m ([.int (nI v), .int (nI i9), .ref b]).toArray below meth c s.heap [] 0 0 (MQ below (va_Qi (fun (_ : Int32) (u : Nat → Int32) => sb_Fit u) (fun u t => PB dC dI cB z (G.set 1 (b, eBy cB cp u)) t) (zB z)) ([.int (nI v), .int (nI i9), .ref b]).toArray s 0 0 (zB z)) (F0 m 0 ls [])
  replace hB : WB dC dI cB z (G.set 1 (b, eBy cB cp f)) s s.heap [] := by rw [set_same hG2]; exact hB
  obtain ⟨-, ⟨t1, g1, hZ1, hT1⟩, ⟨t2, g2, hZ2, hT2⟩, -⟩ := hB.2.2.2.2.2
  refine lv_iload_n hx hb dJ6_getChars_ba4f3_0 rfl (lv_at hl 1 rfl) ?_
  refine lv_istore (lv' := [(5, .int (nI i9)), (0, .int (nI v)), (1, .int (nI i9)), (2, .ref b)]) hx hb dJ6_getChars_ba4f3_1 hl (by decide) rfl (fun ls hl => ?_)
  refine lv_iload_n hx hb dJ6_getChars_ba4f3_3 rfl (lv_at hl 1 rfl) ?_
  refine kn_if_ge (tgt := 11) hx hb (by omega) dJ6_getChars_ba4f3_4 (by decide) ?_
  refine lv_iconst (v := nI 0) hx hb dJ6_getChars_ba4f3_11 (by decide) ?_
  refine lv_istore (lv' := [(6, .int (nI 0)), (5, .int (nI i9)), (0, .int (nI v)), (1, .int (nI i9)), (2, .ref b)]) hx hb dJ6_getChars_ba4f3_12 hl (by decide) rfl (fun ls hl => ?_)
  refine lv_iload hx hb dJ6_getChars_ba4f3_14 (lv_at hl 0 rfl) ?_
  refine kn_if_ne (tgt := 22) hx hb (by omega) dJ6_getChars_ba4f3_16 (by decide) (fun k_2 => absurd k_2 (by omega)) (fun k_2 => ?_)
  refine lv_iload_n hx hb dJ6_getChars_ba4f3_19 rfl (lv_at hl 2 rfl) ?_
  refine lv_ineg hx hb dJ6_getChars_ba4f3_20 ?_
  refine lv_istore_n (lv' := [(0, .int (-(nI v))), (6, .int (nI 0)), (5, .int (nI i9)), (1, .int (nI i9)), (2, .ref b)]) hx hb dJ6_getChars_ba4f3_21 rfl hl (by decide) rfl (fun ls hl => ?_)
  have loop22 : ∀ (fuel : Nat) (w p9 : Nat) (f9 : Nat → Int32) (hf : sb_Fit f9) (hw : w < 1000000000) (hp : sb_dg w ≤ p9) (hpm : p9 ≤ cp) (H : Heap) (locs : List Loc), w < fuel → WB dC dI cB z (G.set 1 (b, eBy cB cp f9)) s H locs → ∀ ls : Array Slot, lv_has ls 7 [(0, .int (-nI w)), (2, .ref b), (5, .int (nI p9)), (6, .int (nI 0))] → W p l e ({ frames := 0, cells := 0, slots := 0, locals := 0 } : Room) s m ([.int (nI v), .int (nI i9), .ref b]).toArray below meth c H locs 0 0 (MQ below (va_Qi (fun (_ : Int32) (u : Nat → Int32) => sb_Fit u) (fun u t => PB dC dI cB z (G.set 1 (b, eBy cB cp u)) t) (zB z)) ([.int (nI v), .int (nI i9), .ref b]).toArray s 0 0 (zB z)) (F0 m 22 ls []) := by
    intro fuel
    induction fuel with
    | zero => intro w p9 f9 hf hw hp hpm H locs hf9; exact absurd hf9 (Nat.not_lt_zero _)
    | succ fuel ih22 =>
      intro w p9 f9 hf hw hp hpm H locs hf9 hB ls hl
      refine lv_iload_n hx hb dJ6_getChars_ba4f3_22 rfl (lv_at hl 0 rfl) ?_
      refine lv_bipush (v := -nI 100) hx hb dJ6_getChars_ba4f3_23 (by decide) ?_
      refine lv_icmp_gt (tgt := 72) hx hb dJ6_getChars_ba4f3_25 (by decide) (fun k_3 => ?_) (fun k_3 => ?_)
      · skip
        have hc9 : w < 100 := (sb_nlt (by decide) (by omega)).mp k_3
        have hd1 := (sb_dg_in w).1
        refine lv_aload_n hx hb dJ6_getChars_ba4f3_72 rfl (lv_at hl 1 rfl) ?_
        refine lv_iinc (v := nI (p9 - 1)) (lv' := [(5, .int (nI (p9 - 1))), (0, .int (-nI w)), (2, .ref b), (6, .int (nI 0))]) hx hb dJ6_getChars_ba4f3_73 hl (k := 2) rfl (kn_dec (by omega)) (by decide) rfl (fun ls hl => ?_)
        refine lv_iload hx hb dJ6_getChars_ba4f3_76 (lv_at hl 0 rfl) ?_
        refine va_gets hx hb hZ1 hB.2.2.2.1 hown (hts (.fieldLink RJ6 83 "java/lang/Integer" "DigitOnes" "[B") (tm 358 (by decide +kernel) rfl)) (fun _ h => h) dJ6_getChars_ba4f3_78 ?_
        refine lv_iload_n hx hb dJ6_getChars_ba4f3_81 rfl (lv_at hl 1 rfl) ?_
        refine lv_ineg hx hb dJ6_getChars_ba4f3_82 ?_
        rw [Int32.neg_neg]
        refine va_tb hx hb hT1 hB.2.2.2.1 (vp_in_nI (by omega) (by omega)) rfl dJ6_getChars_ba4f3_83 ?_
        refine kb_bst (n := cp) (f := f9) hx hb hB 1 (set1 hG2) (by omega) (by omega) dJ6_getChars_ba4f3_84 (fun H locs hB => ?_)
        obtain ⟨f_4, hf, hB⟩ : ∃ g9, sb_Fit g9 ∧ WB dC dI cB z (G.set 1 (b, eBy cB cp g9)) s H locs := ⟨_, sb_fitU hf (fit_nar _), (by rw [List.set_set] at hB; exact hB)⟩
        refine lv_iload_n hx hb dJ6_getChars_ba4f3_85 rfl (lv_at hl 1 rfl) ?_
        refine lv_bipush (v := -nI 9) hx hb dJ6_getChars_ba4f3_86 (by decide) ?_
        refine lv_icmp_ge (tgt := 104) hx hb dJ6_getChars_ba4f3_88 (by decide) (fun k_5 => ?_) (fun k_5 => ?_)
        · skip
          refine lv_iload hx hb dJ6_getChars_ba4f3_104 (lv_at hl 3 rfl) ?_
          refine kn_if_eq (tgt := 118) hx hb (by omega) dJ6_getChars_ba4f3_106 (by decide) (fun k_6 => ?_) (fun k_6 => absurd k_6 (by omega))
          refine lv_iload hx hb dJ6_getChars_ba4f3_118 (lv_at hl 0 rfl) ?_
          exact W.iret (v := nI (p9 - 1)) hx hb hr (fun t9 ht9 hW9 => ⟨⟨_, f_4, rfl, hf, hB.P ht9 hW9⟩, hB.F ht9⟩) hB.L dJ6_getChars_ba4f3_120
        · skip
          have hc8 : ¬ w ≤ 9 := fun z9 => k_5 ((sb_nle (by decide) (by omega)).mpr z9)
          have hd7 : 2 ≤ sb_dg w := by unfold sb_dg; (repeat' split) <;> omega
          refine lv_aload_n hx hb dJ6_getChars_ba4f3_91 rfl (lv_at hl 2 rfl) ?_
          refine lv_iinc (v := nI (p9 - 1 - 1)) (lv' := [(5, .int (nI (p9 - 1 - 1))), (0, .int (-nI w)), (2, .ref b), (6, .int (nI 0))]) hx hb dJ6_getChars_ba4f3_92 hl (k := 0) rfl (kn_dec (by omega)) (by decide) rfl (fun ls hl => ?_)
          refine lv_iload hx hb dJ6_getChars_ba4f3_95 (lv_at hl 0 rfl) ?_
          refine va_gets hx hb hZ2 hB.2.2.2.1 hown (hts (.fieldLink RJ6 87 "java/lang/Integer" "DigitTens" "[B") (tm 359 (by decide +kernel) rfl)) (fun _ h => h) dJ6_getChars_ba4f3_97 ?_
          refine lv_iload_n hx hb dJ6_getChars_ba4f3_100 rfl (lv_at hl 1 rfl) ?_
          refine lv_ineg hx hb dJ6_getChars_ba4f3_101 ?_
          rw [Int32.neg_neg]
          refine va_tb hx hb hT2 hB.2.2.2.1 (vp_in_nI (by omega) (by omega)) rfl dJ6_getChars_ba4f3_102 ?_
          refine kb_bst (n := cp) (f := f_4) hx hb hB 1 (set1 hG2) (by omega) (by omega) dJ6_getChars_ba4f3_103 (fun H locs hB => ?_)
          obtain ⟨f_7, hf, hB⟩ : ∃ g9, sb_Fit g9 ∧ WB dC dI cB z (G.set 1 (b, eBy cB cp g9)) s H locs := ⟨_, sb_fitU hf (fit_nar _), (by rw [List.set_set] at hB; exact hB)⟩
          refine lv_iload hx hb dJ6_getChars_ba4f3_104 (lv_at hl 3 rfl) ?_
          refine kn_if_eq (tgt := 118) hx hb (by omega) dJ6_getChars_ba4f3_106 (by decide) (fun k_8 => ?_) (fun k_8 => absurd k_8 (by omega))
          refine lv_iload hx hb dJ6_getChars_ba4f3_118 (lv_at hl 0 rfl) ?_
          exact W.iret (v := nI (p9 - 1 - 1)) hx hb hr (fun t9 ht9 hW9 => ⟨⟨_, f_7, rfl, hf, hB.P ht9 hW9⟩, hB.F ht9⟩) hB.L dJ6_getChars_ba4f3_120
      · skip
        have hc9 : ¬ w < 100 := fun z9 => k_3 ((sb_nlt (by decide) (by omega)).mpr z9)
        have hd9 := sb_dg100 (w := w) (by omega) (by omega)
        have hd8 := sb_dg_in (w / 100)
        refine lv_iload_n hx hb dJ6_getChars_ba4f3_28 rfl (lv_at hl 0 rfl) ?_
        refine lv_bipush (v := nI 100) hx hb dJ6_getChars_ba4f3_29 (by decide) ?_
        refine lv_idiv hx hb dJ6_getChars_ba4f3_31 (by decide) ?_
        rw [show -nI w / nI 100 = -nI (w / 100) from sb_ndiv (by omega)]
        refine lv_istore_n (lv' := [(3, .int (-nI (w / 100))), (0, .int (-nI w)), (2, .ref b), (5, .int (nI p9)), (6, .int (nI 0))]) hx hb dJ6_getChars_ba4f3_32 rfl hl (by decide) rfl (fun ls hl => ?_)
        refine lv_iload_n hx hb dJ6_getChars_ba4f3_33 rfl (lv_at hl 0 rfl) ?_
        refine lv_bipush (v := nI 100) hx hb dJ6_getChars_ba4f3_34 (by decide) ?_
        refine lv_imul hx hb dJ6_getChars_ba4f3_36 ?_
        refine lv_iload_n hx hb dJ6_getChars_ba4f3_37 rfl (lv_at hl 1 rfl) ?_
        refine lv_isub hx hb dJ6_getChars_ba4f3_38 ?_
        rw [show -nI (w / 100) * nI 100 - -nI w = nI (w % 100) from sb_nrem (by omega)]
        refine lv_istore (lv' := [(4, .int (nI (w % 100))), (3, .int (-nI (w / 100))), (0, .int (-nI w)), (2, .ref b), (5, .int (nI p9)), (6, .int (nI 0))]) hx hb dJ6_getChars_ba4f3_39 hl (by decide) rfl (fun ls hl => ?_)
        refine lv_iload_n hx hb dJ6_getChars_ba4f3_41 rfl (lv_at hl 1 rfl) ?_
        refine lv_istore_n (lv' := [(0, .int (-nI (w / 100))), (4, .int (nI (w % 100))), (3, .int (-nI (w / 100))), (2, .ref b), (5, .int (nI p9)), (6, .int (nI 0))]) hx hb dJ6_getChars_ba4f3_42 rfl hl (by decide) rfl (fun ls hl => ?_)
        refine lv_aload_n hx hb dJ6_getChars_ba4f3_43 rfl (lv_at hl 3 rfl) ?_
        refine lv_iinc (v := nI (p9 - 1)) (lv' := [(5, .int (nI (p9 - 1))), (0, .int (-nI (w / 100))), (4, .int (nI (w % 100))), (3, .int (-nI (w / 100))), (2, .ref b), (6, .int (nI 0))]) hx hb dJ6_getChars_ba4f3_44 hl (k := 4) rfl (kn_dec (by omega)) (by decide) rfl (fun ls hl => ?_)
        refine lv_iload hx hb dJ6_getChars_ba4f3_47 (lv_at hl 0 rfl) ?_
        refine va_gets hx hb hZ1 hB.2.2.2.1 hown (hts (.fieldLink RJ6 83 "java/lang/Integer" "DigitOnes" "[B") (tm 358 (by decide +kernel) rfl)) (fun _ h => h) dJ6_getChars_ba4f3_49 ?_
        refine lv_iload hx hb dJ6_getChars_ba4f3_52 (lv_at hl 2 rfl) ?_
        refine va_tb hx hb hT1 hB.2.2.2.1 (vp_in_nI (by omega) (by omega)) rfl dJ6_getChars_ba4f3_54 ?_
        refine kb_bst (n := cp) (f := f9) hx hb hB 1 (set1 hG2) (by omega) (by omega) dJ6_getChars_ba4f3_55 (fun H locs hB => ?_)
        obtain ⟨f_9, hf, hB⟩ : ∃ g9, sb_Fit g9 ∧ WB dC dI cB z (G.set 1 (b, eBy cB cp g9)) s H locs := ⟨_, sb_fitU hf (fit_nar _), (by rw [List.set_set] at hB; exact hB)⟩
        refine lv_aload_n hx hb dJ6_getChars_ba4f3_56 rfl (lv_at hl 4 rfl) ?_
        refine lv_iinc (v := nI (p9 - 1 - 1)) (lv' := [(5, .int (nI (p9 - 1 - 1))), (0, .int (-nI (w / 100))), (4, .int (nI (w % 100))), (3, .int (-nI (w / 100))), (2, .ref b), (6, .int (nI 0))]) hx hb dJ6_getChars_ba4f3_57 hl (k := 0) rfl (kn_dec (by omega)) (by decide) rfl (fun ls hl => ?_)
        refine lv_iload hx hb dJ6_getChars_ba4f3_60 (lv_at hl 0 rfl) ?_
        refine va_gets hx hb hZ2 hB.2.2.2.1 hown (hts (.fieldLink RJ6 87 "java/lang/Integer" "DigitTens" "[B") (tm 359 (by decide +kernel) rfl)) (fun _ h => h) dJ6_getChars_ba4f3_62 ?_
        refine lv_iload hx hb dJ6_getChars_ba4f3_65 (lv_at hl 2 rfl) ?_
        refine va_tb hx hb hT2 hB.2.2.2.1 (vp_in_nI (by omega) (by omega)) rfl dJ6_getChars_ba4f3_67 ?_
        refine kb_bst (n := cp) (f := f_9) hx hb hB 1 (set1 hG2) (by omega) (by omega) dJ6_getChars_ba4f3_68 (fun H locs hB => ?_)
        obtain ⟨f_10, hf, hB⟩ : ∃ g9, sb_Fit g9 ∧ WB dC dI cB z (G.set 1 (b, eBy cB cp g9)) s H locs := ⟨_, sb_fitU hf (fit_nar _), (by rw [List.set_set] at hB; exact hB)⟩
        refine lv_goto (tgt := 22) hx hb dJ6_getChars_ba4f3_69 (by decide) ?_
        exact ih22  (w / 100) (p9 - 1 - 1) f_10 hf (by omega) (by omega) (by omega) _ _ (by omega) hB _ (lv_sub hl [1, 4, 0, 5] rfl)
  exact loop22 (v + 1) v i9 f hf (by omega) (by omega) (by omega) _ _ (by omega) hB _ (lv_sub hl [0, 4, 2, 1] rfl)
set_option maxHeartbeats 4000000 in
set_option maxRecDepth 100000 in
theorem m_J5_ensureCapacityInternal_d00df (l : Launch) (dC : Nat → ClassId) (dI : Nat → Nat → Nat) (cB : ClassId) (z : Nat) (a b n cp : Nat) (f : Nat → Int32) (q : Nat) (hm : cp ≤ 65536) (hq : q ≤ 65536) (hf : sb_Fit f) (hcap : sb_cap q cp ≤ 65536) : Met l yJ5_ensureCapacityInternal_d00df wsJ5_ensureCapacityInternal_d00df ({ frames := 3, cells := 1, slots := (gm q cp), locals := 62 } : Room) (va_Pc [.ref a, .int (nI q)] (PB dC dI cB z [(a, eSB b n), (b, eBy cB cp f)])) (va_Qv (fun u : Nat × (Nat → Int32) => sb_Fit u.2) (fun u t => PB dC dI cB z [(a, eSB u.1 n), (u.1, eBy cB (sb_cap q cp) u.2)] t) (zB z)) 1 (gm q cp) (zB z) := by
  refine ofWF (cc := cJ5_ensureCapacityInternal_d00df) (maxL := 3) (ret := none) (by decide +kernel) rfl ?_
  intro p e s m args below meth c s₁ B hml hv
  obtain ⟨rfl, hPB⟩ := hv
  have hx := B.exec
  have hb := B.bytes
  have hr := B.returns
  have hts := atoms_spec (ws := wsJ5_ensureCapacityInternal_d00df) B.pre
  have hown : s.vm.findClass RJ5 = some m.cls := findClass_of_methodNamed B.named
  have hlocks := B.notSynchronized
  have hinJ4 : ∀ w ∈ u_ws RJ4 TJ4 4, w ∈ wsJ5_ensureCapacityInternal_d00df := tu 1326 (by decide +kernel) rfl
  have hB := WB.of hPB
  have hl := lv_entry ([.ref a, .int (nI q)]) (n := 3) (Nat.le_of_ble_eq_true rfl)
  rw [lg_entry_eq]
  generalize (lg_sl ([.ref a, .int (nI q)]) ++ List.replicate (3 - (lg_sl ([.ref a, .int (nI q)])).length) Slot.unset).toArray = ls at hl ⊢
  have hl : lv_has ls 3 [(0, .ref a), (1, .int (nI q))] := hl
  show W p l e ({ frames := 3, cells := 1, slots := (gm q cp), locals := 62 } : Room) s m ([.ref a, .int (nI q)]).toArray below meth c s.heap [] 0 0 (MQ below (va_Qv (fun u : Nat × (Nat → Int32) => sb_Fit u.2) (fun u t => PB dC dI cB z [(a, eSB u.1 n), (u.1, eBy cB (sb_cap q cp) u.2)] t) (zB z)) ([.ref a, .int (nI q)]).toArray s 1 (gm q cp) (zB z)) (F0 m 0 ls [])
  refine lv_aload_n hx hb dJ5_ensureCapacityInternal_d00df_0 rfl (lv_at hl 0 rfl) ?_
  refine va_get (D := (dC, dI)) (ci := 1) (C := RJ4) (T := TJ4) (N := 4) (fs := [.ref b, .int (nI 0), .int (nI 0), .int (nI n)]) hx hb hts hinJ4 hown hB.2.1 hB.1 0 rfl rfl 0 (by decide) (hts (.fieldLink RJ5 15 "java/lang/AbstractStringBuilder" "value" "[B") (tm 216 (by decide +kernel) rfl)) (fun _ h => h) rfl dJ5_ensureCapacityInternal_d00df_1 ?_
  refine va_alen (cA := cB) (x := (cp, .inl f)) hx hb hB.2.1 hB.1 1 0 rfl rfl (v := nI cp) rfl dJ5_ensureCapacityInternal_d00df_4 ?_
  refine lv_aload_n hx hb dJ5_ensureCapacityInternal_d00df_5 rfl (lv_at hl 0 rfl) ?_
  refine va_get (D := (dC, dI)) (ci := 1) (C := RJ4) (T := TJ4) (N := 4) (fs := [.ref b, .int (nI 0), .int (nI 0), .int (nI n)]) hx hb hts hinJ4 hown hB.2.1 hB.1 0 rfl rfl 1 (by decide) (hts (.fieldLink RJ5 22 "java/lang/AbstractStringBuilder" "coder" "B") (tm 217 (by decide +kernel) rfl)) (fun _ h => h) rfl dJ5_ensureCapacityInternal_d00df_6 ?_
  refine lv_ishr hx hb dJ5_ensureCapacityInternal_d00df_9 ?_
  rw [show (nI cp) >>> ((nI 0) &&& 31) = nI cp from sb_shr0 _]
  refine lv_istore_n (lv' := [(2, .int (nI cp)), (0, .ref a), (1, .int (nI q))]) hx hb dJ5_ensureCapacityInternal_d00df_10 rfl hl (by decide) rfl (fun ls hl => ?_)
  refine lv_iload_n hx hb dJ5_ensureCapacityInternal_d00df_11 rfl (lv_at hl 2 rfl) ?_
  refine lv_iload_n hx hb dJ5_ensureCapacityInternal_d00df_12 rfl (lv_at hl 0 rfl) ?_
  refine lv_isub hx hb dJ5_ensureCapacityInternal_d00df_13 ?_
  refine lv_if_le (tgt := 38) hx hb dJ5_ensureCapacityInternal_d00df_14 (by decide) (fun k_1 => ?_) (fun k_1 => ?_)
  · skip
    have hle : q ≤ cp := (sub_le0 hq hm).mp k_1
    have e9 : sb_cap q cp = cp := if_pos hle
    replace hB : WB dC dI cB z [(a, eSB b n), (b, eBy cB (sb_cap q cp) f)] s s.heap [] := by rw [e9]; exact hB
    exact W.widen (k := 1) (n := (gm q cp)) (by omega) (by first | exact Nat.zero_le _ | exact gm0 (by omega)) (W.vret hx hb hr (fun t9 ht9 hW9 => ⟨⟨(b, f), rfl, hf, hB.P ht9 hW9⟩, hB.F ht9⟩) hB.L dJ5_ensureCapacityInternal_d00df_38)
  · skip
    have hle : ¬ q ≤ cp := fun z9 => k_1 ((sub_le0 hq hm).mpr z9)
    have hge := sb_cap_ge q cp
    refine lv_aload_n hx hb dJ5_ensureCapacityInternal_d00df_17 rfl (lv_at hl 1 rfl) ?_
    refine lv_aload_n hx hb dJ5_ensureCapacityInternal_d00df_18 rfl (lv_at hl 1 rfl) ?_
    refine va_get (D := (dC, dI)) (ci := 1) (C := RJ4) (T := TJ4) (N := 4) (fs := [.ref b, .int (nI 0), .int (nI 0), .int (nI n)]) hx hb hts hinJ4 hown hB.2.1 hB.1 0 rfl rfl 0 (by decide) (hts (.fieldLink RJ5 15 "java/lang/AbstractStringBuilder" "value" "[B") (tm 216 (by decide +kernel) rfl)) (fun _ h => h) rfl dJ5_ensureCapacityInternal_d00df_19 ?_
    refine lv_aload_n hx hb dJ5_ensureCapacityInternal_d00df_22 rfl (lv_at hl 1 rfl) ?_
    refine lv_iload_n hx hb dJ5_ensureCapacityInternal_d00df_23 rfl (lv_at hl 2 rfl) ?_
    refine kx_cr (v := nI (sb_cap q cp)) (va_runU (As := [.int (nI q)]) (rest := [.ref b, .ref a]) ⟨hx, hb, hml, hown, hts⟩ (m_J5_newCapacity_0f7a4 l dC dI cB z ([(a, eSB b n), (b, eBy cB cp f)]) a b n cp f rfl rfl q (by omega) (by omega) (by omega)) (va_cwU 1 hts gJ5_ensureCapacityInternal_d00df_J5_newCapacity_0f7a4_u104J4 rfl rfl rfl rfl (by decide +kernel) ⟨Nat.le_of_ble_eq_true rfl, Nat.le_of_ble_eq_true rfl⟩) (hB.preV (ci := 1) (q := (RJ4, TJ4, 4)) rfl 0 rfl) rfl rfl hl.1 rfl (lv_room (Nat.le_of_ble_eq_true rfl)) dJ5_ensureCapacityInternal_d00df_24 ⟨Nat.le_of_ble_eq_true rfl, Nat.le_of_ble_eq_true rfl⟩) (fun _ h => h) ?_
    refine lv_aload_n hx hb dJ5_ensureCapacityInternal_d00df_27 rfl (lv_at hl 1 rfl) ?_
    refine va_get (D := (dC, dI)) (ci := 1) (C := RJ4) (T := TJ4) (N := 4) (fs := [.ref b, .int (nI 0), .int (nI 0), .int (nI n)]) hx hb hts hinJ4 hown hB.2.1 hB.1 0 rfl rfl 1 (by decide) (hts (.fieldLink RJ5 22 "java/lang/AbstractStringBuilder" "coder" "B") (tm 217 (by decide +kernel) rfl)) (fun _ h => h) rfl dJ5_ensureCapacityInternal_d00df_28 ?_
    refine lv_ishl hx hb dJ5_ensureCapacityInternal_d00df_31 ?_
    rw [show (nI (sb_cap q cp)) <<< ((nI 0) &&& 31) = nI (sb_cap q cp) from sb_shl0 _]
    refine kb_r (va_runS (As := [.ref b, .int (nI (sb_cap q cp))]) (rest := [.ref a]) ⟨hx, hb, hml, hown, hts⟩ (m_J7_copyOf_9075b l dC dI cB z ([(a, eSB b n), (b, eBy cB cp f)]) b cp f rfl (sb_cap q cp) hf (by omega) (by omega)) (va_cwS 2 hts gJ5_ensureCapacityInternal_d00df_J7_copyOf_9075b rfl rfl rfl hdJ7_copyOf_9075b_2.2 ⟨Nat.le_of_ble_eq_true rfl, Nat.le_of_ble_eq_true rfl⟩) (hB.preS) rfl rfl hl.1 rfl (lv_room (Nat.le_of_ble_eq_true rfl)) dJ5_ensureCapacityInternal_d00df_32 ⟨Nat.le_refl _, gm0 (by omega)⟩) hB (fun u q9 H locs hu hq hB => ?_)
    replace hB : WB dC dI cB z [(a, eSB b n), (b, eBy cB cp f), (q9, eBy cB (sb_cap q cp) u)] s H locs := hB
    have hf := hu
    refine kb_put (fs := [.ref b, .int (nI 0), .int (nI 0), .int (nI n)]) hx hb hts hinJ4 hown hB 0 rfl 0 (by decide) (hts (.fieldLink RJ5 15 "java/lang/AbstractStringBuilder" "value" "[B") (tm 216 (by decide +kernel) rfl)) (fun _ h => h) rfl rfl rfl rfl (Nat.le_of_ble_eq_true rfl) dJ5_ensureCapacityInternal_d00df_35 (fun H locs hB => ?_)
    replace hB : WB dC dI cB z [(a, eSB q9 n), (b, eBy cB cp f), (q9, eBy cB (sb_cap q cp) u)] s H locs := hB
    replace hB := hB.drop1
    exact W.widen (k := 1) (n := (gm q cp)) (by omega) (by first | exact Nat.zero_le _ | exact gm0 (by omega)) (W.vret hx hb hr (fun t9 ht9 hW9 => ⟨⟨(q9, u), rfl, hf, hB.P ht9 hW9⟩, hB.F ht9⟩) hB.L dJ5_ensureCapacityInternal_d00df_38)
end
section
theorem cl_fit {cA : ClassId} {f : Nat → Int32} {n : Nat} (hf : sb_Fit f) : ∀ (i : Nat) (v : Value), (vp_cell cA (n, .inl f)).slots[i]? = some v → fits .byte v = true := by
  intro i v h
  have hlt : i < n := by
    have := (Array.getElem?_eq_some_iff.mp h).1
    rw [vp_cell_i, arrV_size] at this
    exact this
  rw [vp_cell_i, arrV_read _ _ hlt] at h
  cases h
  exact hf i
set_option maxHeartbeats 4000000 in
set_option maxRecDepth 100000 in
theorem m_J5_append_3fe6f (l : Launch) (dC : Nat → ClassId) (dI : Nat → Nat → Nat) (cB : ClassId) (z : Nat) (a b n cp : Nat) (f : Nat → Int32) (hnm : n ≤ cp) (hm : cp ≤ 65536) (hf : sb_Fit f) (v : Nat) (hv : v < 256) (hcap : sb_cap (n + 1) cp ≤ 65536) : Met l yJ5_append_3fe6f wsJ5_append_3fe6f ({ frames := 4, cells := 1, slots := (gm (n + 1) cp), locals := 84 } : Room) (va_Pc [.ref a, .int (nI v)] (PB dC dI cB z [(a, eSB b n), (b, eBy cB cp f)])) (va_Qr (fun u : Nat × (Nat → Int32) => sb_Fit u.2) (fun u q9 t => q9 = a ∧ PB dC dI cB z [(a, eSB u.1 (n + 1)), (u.1, eBy cB (sb_cap (n + 1) cp) u.2)] t) (zB z)) 1 (gm (n + 1) cp) (zB z) := by
  refine ofWF (cc := cJ5_append_3fe6f) (maxL := 2) (ret := (some (.object "java/lang/AbstractStringBuilder"))) (by decide +kernel) rfl ?_
  intro p e s m args below meth c s₁ B hml hv
  obtain ⟨rfl, hPB⟩ := hv
  have hx := B.exec
  have hb := B.bytes
  have hr := B.returns
  have hts := atoms_spec (ws := wsJ5_append_3fe6f) B.pre
  have hown : s.vm.findClass RJ5 = some m.cls := findClass_of_methodNamed B.named
  have hlocks := B.notSynchronized
  have hinJ4 : ∀ w ∈ u_ws RJ4 TJ4 4, w ∈ wsJ5_append_3fe6f := tu 1326 (by decide +kernel) rfl
  have hB := WB.of hPB
  have hl := lv_entry ([.ref a, .int (nI v)]) (n := 2) (Nat.le_of_ble_eq_true rfl)
  rw [lg_entry_eq]
  generalize (lg_sl ([.ref a, .int (nI v)]) ++ List.replicate (2 - (lg_sl ([.ref a, .int (nI v)])).length) Slot.unset).toArray = ls at hl ⊢
  have hl : lv_has ls 2 [(0, .ref a), (1, .int (nI v))] := hl
  show W p l e ({ frames := 4, cells := 1, slots := (gm (n + 1) cp), locals := 84 } : Room) s m ([.ref a, .int (nI v)]).toArray below meth c s.heap [] 0 0 (MQ below (va_Qr (fun u : Nat × (Nat → Int32) => sb_Fit u.2) (fun u q9 t => q9 = a ∧ PB dC dI cB z [(a, eSB u.1 (n + 1)), (u.1, eBy cB (sb_cap (n + 1) cp) u.2)] t) (zB z)) ([.ref a, .int (nI v)]).toArray s 1 (gm (n + 1) cp) (zB z)) (F0 m 0 ls [])
  have hge9 := sb_cap_ge (n + 1) cp
  have hat := KatJ4 hPB
  refine lv_aload_n hx hb dJ5_append_3fe6f_0 rfl (lv_at hl 0 rfl) ?_
  refine lv_aload_n hx hb dJ5_append_3fe6f_1 rfl (lv_at hl 0 rfl) ?_
  refine va_get (D := (dC, dI)) (ci := 1) (C := RJ4) (T := TJ4) (N := 4) (fs := [.ref b, .int (nI 0), .int (nI 0), .int (nI n)]) hx hb hts hinJ4 hown hB.2.1 hB.1 0 rfl rfl 3 (by decide) (hts (.fieldLink RJ5 79 "java/lang/AbstractStringBuilder" "count" "I") (tm 277 (by decide +kernel) rfl)) (fun _ h => h) rfl dJ5_append_3fe6f_2 ?_
  refine lv_iconst (v := nI 1) hx hb dJ5_append_3fe6f_5 (by decide) ?_
  refine kn_iadd hx hb dJ5_append_3fe6f_6 ?_
  refine kb_v (va_runU (As := [.int (nI (n + 1))]) (rest := []) ⟨hx, hb, hml, hown, hts⟩ (m_J5_ensureCapacityInternal_d00df l dC dI cB z a b n cp f (n + 1) (by omega) (by omega) hf hcap) (va_cwU 1 hts gJ5_append_3fe6f_J5_ensureCapacityInternal_d00df_u100J4 rfl rfl rfl rfl (by decide +kernel) ⟨Nat.le_of_ble_eq_true rfl, Nat.le_of_ble_eq_true rfl⟩) (hB.preV (ci := 1) (q := (RJ4, TJ4, 4)) rfl 0 rfl) rfl rfl hl.1 rfl (lv_room (Nat.le_of_ble_eq_true rfl)) dJ5_append_3fe6f_7 ⟨by simp, by simp⟩) hB (fun u H locs hu hB => ?_)
  obtain ⟨b2, f2⟩ := u
  replace hB : WB dC dI cB z [(a, eSB b2 n), (b2, eBy cB (sb_cap (n + 1) cp) f2)] s H locs := hB
  have hf : sb_Fit f2 := hu
  have hge := sb_cap_ge (n + 1) cp
  refine lv_aload_n hx hb dJ5_append_3fe6f_10 rfl (lv_at hl 0 rfl) ?_
  refine kx_cr (v := bI true) (va_runU (As := []) (rest := []) ⟨hx, hb, hml, hown, hts⟩ (m_J5_isLatin1_aae02 l dC dI cB z ([(a, eSB b2 n), (b2, eBy cB (sb_cap (n + 1) cp) f2)]) a b2 n rfl) (va_cwU 0 hts gJ5_append_3fe6f_J5_isLatin1_aae02_u83J4 rfl rfl rfl rfl (by decide +kernel) ⟨Nat.le_of_ble_eq_true rfl, Nat.le_of_ble_eq_true rfl⟩) (hB.preV (ci := 1) (q := (RJ4, TJ4, 4)) rfl 0 rfl) rfl rfl hl.1 rfl (lv_room (Nat.le_of_ble_eq_true rfl)) dJ5_append_3fe6f_11 ⟨by simp, by simp⟩) (fun _ h => h) ?_
  refine kb_if_eq (tgt := 45) hx hb dJ5_append_3fe6f_14 (by decide) (fun k_1 => absurd k_1 (by decide)) (fun k_1 => ?_)
  refine lv_iload_n hx hb dJ5_append_3fe6f_17 rfl (lv_at hl 1 rfl) ?_
  refine kx_cr (v := bI true) (va_runS (As := [.int (nI v)]) (rest := []) ⟨hx, hb, hml, hown, hts⟩ (m_J1_canEncode_fc78d l v (by omega)) (va_cwS 1 hts gJ5_append_3fe6f_J1_canEncode_fc78d rfl rfl rfl hdJ1_canEncode_fc78d_1.2 ⟨Nat.le_of_ble_eq_true rfl, Nat.le_of_ble_eq_true rfl⟩) (pureS) rfl rfl hl.1 rfl (lv_room (Nat.le_of_ble_eq_true rfl)) dJ5_append_3fe6f_18 ⟨by simp, by simp⟩) (fun _ h => h) ?_
  refine kb_if_eq (tgt := 45) hx hb dJ5_append_3fe6f_21 (by decide) (fun k_2 => absurd k_2 (by decide)) (fun k_2 => ?_)
  refine lv_aload_n hx hb dJ5_append_3fe6f_24 rfl (lv_at hl 0 rfl) ?_
  refine va_get (D := (dC, dI)) (ci := 1) (C := RJ4) (T := TJ4) (N := 4) (fs := [.ref b2, .int (nI 0), .int (nI 0), .int (nI n)]) hx hb hts hinJ4 hown hB.2.1 hB.1 0 rfl rfl 0 (by decide) (hts (.fieldLink RJ5 15 "java/lang/AbstractStringBuilder" "value" "[B") (tm 216 (by decide +kernel) rfl)) (fun _ h => h) rfl dJ5_append_3fe6f_25 ?_
  refine lv_aload_n hx hb dJ5_append_3fe6f_28 rfl (lv_at hl 0 rfl) ?_
  refine lv_dup hx hb dJ5_append_3fe6f_29 rfl ?_
  refine va_get (D := (dC, dI)) (ci := 1) (C := RJ4) (T := TJ4) (N := 4) (fs := [.ref b2, .int (nI 0), .int (nI 0), .int (nI n)]) hx hb hts hinJ4 hown hB.2.1 hB.1 0 rfl rfl 3 (by decide) (hts (.fieldLink RJ5 79 "java/lang/AbstractStringBuilder" "count" "I") (tm 277 (by decide +kernel) rfl)) (fun _ h => h) rfl dJ5_append_3fe6f_30 ?_
  refine lv_dup_x1 hx hb dJ5_append_3fe6f_33 rfl rfl ?_
  refine lv_iconst (v := nI 1) hx hb dJ5_append_3fe6f_34 (by decide) ?_
  refine kn_iadd hx hb dJ5_append_3fe6f_35 ?_
  refine kb_put (fs := [.ref b2, .int (nI 0), .int (nI 0), .int (nI n)]) hx hb hts hinJ4 hown hB 0 rfl 3 (by decide) (hts (.fieldLink RJ5 79 "java/lang/AbstractStringBuilder" "count" "I") (tm 277 (by decide +kernel) rfl)) (fun _ h => h) rfl rfl rfl rfl (Nat.le_of_ble_eq_true rfl) dJ5_append_3fe6f_36 (fun H locs hB => ?_)
  replace hB : WB dC dI cB z [(a, eSB b2 (n + 1)), (b2, eBy cB (sb_cap (n + 1) cp) f2)] s H locs := hB
  refine lv_iload_n hx hb dJ5_append_3fe6f_39 rfl (lv_at hl 1 rfl) ?_
  refine lv_i2b hx hb dJ5_append_3fe6f_40 rfl ?_
  refine kb_bst (n := (sb_cap (n + 1) cp)) (f := f2) hx hb hB 1 rfl (by omega) (by omega) dJ5_append_3fe6f_41 (fun H locs hB => ?_)
  obtain ⟨f_3, hf, hB⟩ : ∃ g9, sb_Fit g9 ∧ WB dC dI cB z [(a, eSB b2 (n + 1)), (b2, eBy cB (sb_cap (n + 1) cp) g9)] s H locs := ⟨_, sb_fitU hf (fit_nar _), hB⟩
  refine lv_goto (tgt := 75) hx hb dJ5_append_3fe6f_42 (by decide) ?_
  refine lv_aload_n hx hb dJ5_append_3fe6f_75 rfl (lv_at hl 0 rfl) ?_
  exact W.widen (k := 1) (n := (gm (n + 1) cp)) (by simp) (by simp) (W.aret (v := .ref a) hx hb hr (Or.inl ⟨_, rfl⟩) (Or.inr ⟨_, rfl⟩) (fun t9 ht9 hW9 => ⟨⟨(b2, f_3), _, rfl, hf, rfl, hB.P ht9 hW9⟩, hB.F ht9⟩) hB.L dJ5_append_3fe6f_76)
set_option maxHeartbeats 4000000 in
set_option maxRecDepth 100000 in
theorem m_J4_append_cf468 (l : Launch) (dC : Nat → ClassId) (dI : Nat → Nat → Nat) (cB : ClassId) (z : Nat) (a b n cp : Nat) (f : Nat → Int32) (hnm : n ≤ cp) (hm : cp ≤ 65536) (hf : sb_Fit f) (v : Nat) (hv : v < 256) (hcap : sb_cap (n + 1) cp ≤ 65536) : Met l yJ4_append_cf468 wsJ4_append_cf468 ({ frames := 5, cells := 1, slots := (gm (n + 1) cp), locals := 105 } : Room) (va_Pc [.ref a, .int (nI v)] (PB dC dI cB z [(a, eSB b n), (b, eBy cB cp f)])) (va_Qr (fun u : Nat × (Nat → Int32) => sb_Fit u.2) (fun u q9 t => q9 = a ∧ PB dC dI cB z [(a, eSB u.1 (n + 1)), (u.1, eBy cB (sb_cap (n + 1) cp) u.2)] t) (zB z)) 1 (gm (n + 1) cp) (zB z) := by
  refine ofWF (cc := cJ4_append_cf468) (maxL := 2) (ret := (some (.object "java/lang/StringBuilder"))) (by decide +kernel) rfl ?_
  intro p e s m args below meth c s₁ B hml hv
  obtain ⟨rfl, hPB⟩ := hv
  have hx := B.exec
  have hb := B.bytes
  have hr := B.returns
  have hts := atoms_spec (ws := wsJ4_append_cf468) B.pre
  have hown : s.vm.findClass RJ4 = some m.cls := findClass_of_methodNamed B.named
  have hlocks := B.notSynchronized
  have hB := WB.of hPB
  have hl := lv_entry ([.ref a, .int (nI v)]) (n := 2) (Nat.le_of_ble_eq_true rfl)
  rw [lg_entry_eq]
  generalize (lg_sl ([.ref a, .int (nI v)]) ++ List.replicate (2 - (lg_sl ([.ref a, .int (nI v)])).length) Slot.unset).toArray = ls at hl ⊢
  have hl : lv_has ls 2 [(0, .ref a), (1, .int (nI v))] := hl
  show W p l e ({ frames := 5, cells := 1, slots := (gm (n + 1) cp), locals := 105 } : Room) s m ([.ref a, .int (nI v)]).toArray below meth c s.heap [] 0 0 (MQ below (va_Qr (fun u : Nat × (Nat → Int32) => sb_Fit u.2) (fun u q9 t => q9 = a ∧ PB dC dI cB z [(a, eSB u.1 (n + 1)), (u.1, eBy cB (sb_cap (n + 1) cp) u.2)] t) (zB z)) ([.ref a, .int (nI v)]).toArray s 1 (gm (n + 1) cp) (zB z)) (F0 m 0 ls [])
  have hat := KatJ4 hPB
  refine lv_aload_n hx hb dJ4_append_cf468_0 rfl (lv_at hl 0 rfl) ?_
  refine lv_iload_n hx hb dJ4_append_cf468_1 rfl (lv_at hl 1 rfl) ?_
  refine kb_r (va_runSU (As := [.int (nI v)]) (rest := []) (C := RJ4) hat ⟨hx, hb, hml, hown, hts⟩ (m_J5_append_3fe6f l dC dI cB z a b n cp f (by omega) (by omega) hf v (by omega) hcap) (va_cwSU 1 hts gJ4_append_cf468_J5_append_3fe6f_s50 rfl rfl rfl (by decide +kernel) ⟨Nat.le_of_ble_eq_true rfl, Nat.le_of_ble_eq_true rfl⟩) (hB.preV (ci := 1) (q := (RJ4, TJ4, 4)) rfl 0 rfl) rfl rfl hl.1 rfl (lv_room (Nat.le_of_ble_eq_true rfl)) dJ4_append_cf468_2 ⟨by simp, by simp⟩) hB (fun u q9 H locs hu hq hB => ?_)
  obtain ⟨b3, f3⟩ := u
  rw [hq]
  replace hB : WB dC dI cB z [(a, eSB b3 (n + 1)), (b3, eBy cB (sb_cap (n + 1) cp) f3)] s H locs := hB
  have hf : sb_Fit f3 := hu
  refine lv_pop hx hb dJ4_append_cf468_5 rfl ?_
  refine lv_aload_n hx hb dJ4_append_cf468_6 rfl (lv_at hl 0 rfl) ?_
  exact W.widen (k := 1) (n := (gm (n + 1) cp)) (by simp) (by simp) (W.aret (v := .ref a) hx hb hr (Or.inl ⟨_, rfl⟩) (Or.inr ⟨_, rfl⟩) (fun t9 ht9 hW9 => ⟨⟨(b3, f3), _, rfl, hf, rfl, hB.P ht9 hW9⟩, hB.F ht9⟩) hB.L dJ4_append_cf468_7)
set_option maxHeartbeats 4000000 in
set_option maxRecDepth 100000 in
theorem m_J5_append_c97b9 (l : Launch) (dC : Nat → ClassId) (dI : Nat → Nat → Nat) (cB : ClassId) (z : Nat) (a b n cp : Nat) (f : Nat → Int32) (hnm : n ≤ cp) (hm : cp ≤ 65536) (hf : sb_Fit f) (v : Nat) (hv : v < 1000000000) (hcap : sb_cap (n + sb_dg v) cp ≤ 65536) : Met l yJ5_append_c97b9 wsJ5_append_c97b9 ({ frames := 4, cells := 1, slots := (gm (n + sb_dg v) cp), locals := 84 } : Room) (va_Pc [.ref a, .int (nI v)] (PB dC dI cB z [(a, eSB b n), (b, eBy cB cp f)])) (va_Qr (fun u : Nat × (Nat → Int32) => sb_Fit u.2) (fun u q9 t => q9 = a ∧ PB dC dI cB z [(a, eSB u.1 (n + sb_dg v)), (u.1, eBy cB (sb_cap (n + sb_dg v) cp) u.2)] t) (zB z)) 1 (gm (n + sb_dg v) cp) (zB z) := by
  refine ofWF (cc := cJ5_append_c97b9) (maxL := 4) (ret := (some (.object "java/lang/AbstractStringBuilder"))) (by decide +kernel) rfl ?_
  intro p e s m args below meth c s₁ B hml hv
  obtain ⟨rfl, hPB⟩ := hv
  have hx := B.exec
  have hb := B.bytes
  have hr := B.returns
  have hts := atoms_spec (ws := wsJ5_append_c97b9) B.pre
  have hown : s.vm.findClass RJ5 = some m.cls := findClass_of_methodNamed B.named
  have hlocks := B.notSynchronized
  have hinJ4 : ∀ w ∈ u_ws RJ4 TJ4 4, w ∈ wsJ5_append_c97b9 := tu 1326 (by decide +kernel) rfl
  have hB := WB.of hPB
  have hl := lv_entry ([.ref a, .int (nI v)]) (n := 4) (Nat.le_of_ble_eq_true rfl)
  rw [lg_entry_eq]
  generalize (lg_sl ([.ref a, .int (nI v)]) ++ List.replicate (4 - (lg_sl ([.ref a, .int (nI v)])).length) Slot.unset).toArray = ls at hl ⊢
  have hl : lv_has ls 4 [(0, .ref a), (1, .int (nI v))] := hl
  show W p l e ({ frames := 4, cells := 1, slots := (gm (n + sb_dg v) cp), locals := 84 } : Room) s m ([.ref a, .int (nI v)]).toArray below meth c s.heap [] 0 0 (MQ below (va_Qr (fun u : Nat × (Nat → Int32) => sb_Fit u.2) (fun u q9 t => q9 = a ∧ PB dC dI cB z [(a, eSB u.1 (n + sb_dg v)), (u.1, eBy cB (sb_cap (n + sb_dg v) cp) u.2)] t) (zB z)) ([.ref a, .int (nI v)]).toArray s 1 (gm (n + sb_dg v) cp) (zB z)) (F0 m 0 ls [])
  have hge9 := sb_cap_ge (n + sb_dg v) cp
  have hd9 := sb_dg_in v
  refine lv_aload_n hx hb dJ5_append_c97b9_0 rfl (lv_at hl 0 rfl) ?_
  refine va_get (D := (dC, dI)) (ci := 1) (C := RJ4) (T := TJ4) (N := 4) (fs := [.ref b, .int (nI 0), .int (nI 0), .int (nI n)]) hx hb hts hinJ4 hown hB.2.1 hB.1 0 rfl rfl 3 (by decide) (hts (.fieldLink RJ5 79 "java/lang/AbstractStringBuilder" "count" "I") (tm 277 (by decide +kernel) rfl)) (fun _ h => h) rfl dJ5_append_c97b9_1 ?_
  refine lv_istore_n (lv' := [(2, .int (nI n)), (0, .ref a), (1, .int (nI v))]) hx hb dJ5_append_c97b9_4 rfl hl (by decide) rfl (fun ls hl => ?_)
  refine lv_iload_n hx hb dJ5_append_c97b9_5 rfl (lv_at hl 0 rfl) ?_
  refine lv_iload_n hx hb dJ5_append_c97b9_6 rfl (lv_at hl 2 rfl) ?_
  refine kx_cr (v := nI (sb_dg v)) (va_runS (As := [.int (nI v)]) (rest := [.int (nI n)]) ⟨hx, hb, hml, hown, hts⟩ (m_J6_stringSize_0f7a4 l v (by omega)) (va_cwS 1 hts gJ5_append_c97b9_J6_stringSize_0f7a4 rfl rfl rfl hdJ6_stringSize_0f7a4_1.2 ⟨Nat.le_of_ble_eq_true rfl, Nat.le_of_ble_eq_true rfl⟩) (pureS) rfl rfl hl.1 rfl (lv_room (Nat.le_of_ble_eq_true rfl)) dJ5_append_c97b9_7 ⟨by simp, by simp⟩) (fun _ h => h) ?_
  refine kn_iadd hx hb dJ5_append_c97b9_10 ?_
  refine lv_istore_n (lv' := [(3, .int (nI (n + (sb_dg v)))), (2, .int (nI n)), (0, .ref a), (1, .int (nI v))]) hx hb dJ5_append_c97b9_11 rfl hl (by decide) rfl (fun ls hl => ?_)
  refine lv_aload_n hx hb dJ5_append_c97b9_12 rfl (lv_at hl 2 rfl) ?_
  refine lv_iload_n hx hb dJ5_append_c97b9_13 rfl (lv_at hl 0 rfl) ?_
  refine kb_v (va_runU (As := [.int (nI (n + (sb_dg v)))]) (rest := []) ⟨hx, hb, hml, hown, hts⟩ (m_J5_ensureCapacityInternal_d00df l dC dI cB z a b n cp f (n + (sb_dg v)) (by omega) (by omega) hf hcap) (va_cwU 1 hts gJ5_append_c97b9_J5_ensureCapacityInternal_d00df_u100J4 rfl rfl rfl rfl (by decide +kernel) ⟨Nat.le_of_ble_eq_true rfl, Nat.le_of_ble_eq_true rfl⟩) (hB.preV (ci := 1) (q := (RJ4, TJ4, 4)) rfl 0 rfl) rfl rfl hl.1 rfl (lv_room (Nat.le_of_ble_eq_true rfl)) dJ5_append_c97b9_14 ⟨by simp, by simp⟩) hB (fun u H locs hu hB => ?_)
  obtain ⟨b2, f2⟩ := u
  replace hB : WB dC dI cB z [(a, eSB b2 n), (b2, eBy cB (sb_cap (n + (sb_dg v)) cp) f2)] s H locs := hB
  have hf : sb_Fit f2 := hu
  have hge := sb_cap_ge (n + (sb_dg v)) cp
  refine lv_aload_n hx hb dJ5_append_c97b9_17 rfl (lv_at hl 2 rfl) ?_
  refine kx_cr (v := bI true) (va_runU (As := []) (rest := []) ⟨hx, hb, hml, hown, hts⟩ (m_J5_isLatin1_aae02 l dC dI cB z ([(a, eSB b2 n), (b2, eBy cB (sb_cap (n + (sb_dg v)) cp) f2)]) a b2 n rfl) (va_cwU 0 hts gJ5_append_c97b9_J5_isLatin1_aae02_u83J4 rfl rfl rfl rfl (by decide +kernel) ⟨Nat.le_of_ble_eq_true rfl, Nat.le_of_ble_eq_true rfl⟩) (hB.preV (ci := 1) (q := (RJ4, TJ4, 4)) rfl 0 rfl) rfl rfl hl.1 rfl (lv_room (Nat.le_of_ble_eq_true rfl)) dJ5_append_c97b9_18 ⟨by simp, by simp⟩) (fun _ h => h) ?_
  refine kb_if_eq (tgt := 37) hx hb dJ5_append_c97b9_21 (by decide) (fun k_1 => absurd k_1 (by decide)) (fun k_1 => ?_)
  refine lv_iload_n hx hb dJ5_append_c97b9_24 rfl (lv_at hl 3 rfl) ?_
  refine lv_iload_n hx hb dJ5_append_c97b9_25 rfl (lv_at hl 0 rfl) ?_
  refine lv_aload_n hx hb dJ5_append_c97b9_26 rfl (lv_at hl 2 rfl) ?_
  refine va_get (D := (dC, dI)) (ci := 1) (C := RJ4) (T := TJ4) (N := 4) (fs := [.ref b2, .int (nI 0), .int (nI 0), .int (nI n)]) hx hb hts hinJ4 hown hB.2.1 hB.1 0 rfl rfl 0 (by decide) (hts (.fieldLink RJ5 15 "java/lang/AbstractStringBuilder" "value" "[B") (tm 216 (by decide +kernel) rfl)) (fun _ h => h) rfl dJ5_append_c97b9_27 ?_
  refine kb_i (va_runS (As := [.int (nI v), .int (nI (n + (sb_dg v))), .ref b2]) (rest := []) ⟨hx, hb, hml, hown, hts⟩ (m_J6_getChars_ba4f3 l dC dI cB z ([(a, eSB b2 n), (b2, eBy cB (sb_cap (n + (sb_dg v)) cp) f2)]) b2 (sb_cap (n + (sb_dg v)) cp) f2 rfl v (n + (sb_dg v)) hf (by omega) (by omega) (by omega) (by omega)) (va_cwS 3 hts gJ5_append_c97b9_J6_getChars_ba4f3 rfl rfl rfl hdJ6_getChars_ba4f3_3.2 ⟨Nat.le_of_ble_eq_true rfl, Nat.le_of_ble_eq_true rfl⟩) (hB.preS) rfl rfl hl.1 rfl (lv_room (Nat.le_of_ble_eq_true rfl)) dJ5_append_c97b9_30 ⟨by simp, by simp⟩) hB (fun r9 u H locs hu hB => ?_)
  obtain ⟨f3, hf, hB⟩ : ∃ g9, sb_Fit g9 ∧ WB dC dI cB z [(a, eSB b2 n), (b2, eBy cB (sb_cap (n + (sb_dg v)) cp) g9)] s H locs := ⟨u, hu, hB⟩
  refine lv_pop hx hb dJ5_append_c97b9_33 rfl ?_
  refine lv_goto (tgt := 48) hx hb dJ5_append_c97b9_34 (by decide) ?_
  refine lv_aload_n hx hb dJ5_append_c97b9_48 rfl (lv_at hl 2 rfl) ?_
  refine lv_iload_n hx hb dJ5_append_c97b9_49 rfl (lv_at hl 0 rfl) ?_
  refine kb_put (fs := [.ref b2, .int (nI 0), .int (nI 0), .int (nI n)]) hx hb hts hinJ4 hown hB 0 rfl 3 (by decide) (hts (.fieldLink RJ5 79 "java/lang/AbstractStringBuilder" "count" "I") (tm 277 (by decide +kernel) rfl)) (fun _ h => h) rfl rfl rfl rfl (Nat.le_of_ble_eq_true rfl) dJ5_append_c97b9_50 (fun H locs hB => ?_)
  replace hB : WB dC dI cB z [(a, eSB b2 (n + (sb_dg v))), (b2, eBy cB (sb_cap (n + (sb_dg v)) cp) f3)] s H locs := hB
  refine lv_aload_n hx hb dJ5_append_c97b9_53 rfl (lv_at hl 2 rfl) ?_
  exact W.widen (k := 1) (n := (gm (n + sb_dg v) cp)) (by simp) (by simp) (W.aret (v := .ref a) hx hb hr (Or.inl ⟨_, rfl⟩) (Or.inr ⟨_, rfl⟩) (fun t9 ht9 hW9 => ⟨⟨(b2, f3), _, rfl, hf, rfl, hB.P ht9 hW9⟩, hB.F ht9⟩) hB.L dJ5_append_c97b9_54)
set_option maxHeartbeats 4000000 in
set_option maxRecDepth 100000 in
theorem m_J4_append_bf812 (l : Launch) (dC : Nat → ClassId) (dI : Nat → Nat → Nat) (cB : ClassId) (z : Nat) (a b n cp : Nat) (f : Nat → Int32) (hnm : n ≤ cp) (hm : cp ≤ 65536) (hf : sb_Fit f) (v : Nat) (hv : v < 1000000000) (hcap : sb_cap (n + sb_dg v) cp ≤ 65536) : Met l yJ4_append_bf812 wsJ4_append_bf812 ({ frames := 5, cells := 1, slots := (gm (n + sb_dg v) cp), locals := 107 } : Room) (va_Pc [.ref a, .int (nI v)] (PB dC dI cB z [(a, eSB b n), (b, eBy cB cp f)])) (va_Qr (fun u : Nat × (Nat → Int32) => sb_Fit u.2) (fun u q9 t => q9 = a ∧ PB dC dI cB z [(a, eSB u.1 (n + sb_dg v)), (u.1, eBy cB (sb_cap (n + sb_dg v) cp) u.2)] t) (zB z)) 1 (gm (n + sb_dg v) cp) (zB z) := by
  refine ofWF (cc := cJ4_append_bf812) (maxL := 2) (ret := (some (.object "java/lang/StringBuilder"))) (by decide +kernel) rfl ?_
  intro p e s m args below meth c s₁ B hml hv
  obtain ⟨rfl, hPB⟩ := hv
  have hx := B.exec
  have hb := B.bytes
  have hr := B.returns
  have hts := atoms_spec (ws := wsJ4_append_bf812) B.pre
  have hown : s.vm.findClass RJ4 = some m.cls := findClass_of_methodNamed B.named
  have hlocks := B.notSynchronized
  have hB := WB.of hPB
  have hl := lv_entry ([.ref a, .int (nI v)]) (n := 2) (Nat.le_of_ble_eq_true rfl)
  rw [lg_entry_eq]
  generalize (lg_sl ([.ref a, .int (nI v)]) ++ List.replicate (2 - (lg_sl ([.ref a, .int (nI v)])).length) Slot.unset).toArray = ls at hl ⊢
  have hl : lv_has ls 2 [(0, .ref a), (1, .int (nI v))] := hl
  show W p l e ({ frames := 5, cells := 1, slots := (gm (n + sb_dg v) cp), locals := 107 } : Room) s m ([.ref a, .int (nI v)]).toArray below meth c s.heap [] 0 0 (MQ below (va_Qr (fun u : Nat × (Nat → Int32) => sb_Fit u.2) (fun u q9 t => q9 = a ∧ PB dC dI cB z [(a, eSB u.1 (n + sb_dg v)), (u.1, eBy cB (sb_cap (n + sb_dg v) cp) u.2)] t) (zB z)) ([.ref a, .int (nI v)]).toArray s 1 (gm (n + sb_dg v) cp) (zB z)) (F0 m 0 ls [])
  have hat := KatJ4 hPB
  refine lv_aload_n hx hb dJ4_append_bf812_0 rfl (lv_at hl 0 rfl) ?_
  refine lv_iload_n hx hb dJ4_append_bf812_1 rfl (lv_at hl 1 rfl) ?_
  refine kb_r (va_runSU (As := [.int (nI v)]) (rest := []) (C := RJ4) hat ⟨hx, hb, hml, hown, hts⟩ (m_J5_append_c97b9 l dC dI cB z a b n cp f (by omega) (by omega) hf v (by omega) hcap) (va_cwSU 1 hts gJ4_append_bf812_J5_append_c97b9_s53 rfl rfl rfl (by decide +kernel) ⟨Nat.le_of_ble_eq_true rfl, Nat.le_of_ble_eq_true rfl⟩) (hB.preV (ci := 1) (q := (RJ4, TJ4, 4)) rfl 0 rfl) rfl rfl hl.1 rfl (lv_room (Nat.le_of_ble_eq_true rfl)) dJ4_append_bf812_2 ⟨by simp, by simp⟩) hB (fun u q9 H locs hu hq hB => ?_)
  obtain ⟨b3, f3⟩ := u
  rw [hq]
  replace hB : WB dC dI cB z [(a, eSB b3 (n + sb_dg v)), (b3, eBy cB (sb_cap (n + sb_dg v) cp) f3)] s H locs := hB
  have hf : sb_Fit f3 := hu
  refine lv_pop hx hb dJ4_append_bf812_5 rfl ?_
  refine lv_aload_n hx hb dJ4_append_bf812_6 rfl (lv_at hl 0 rfl) ?_
  exact W.widen (k := 1) (n := (gm (n + sb_dg v) cp)) (by simp) (by simp) (W.aret (v := .ref a) hx hb hr (Or.inl ⟨_, rfl⟩) (Or.inr ⟨_, rfl⟩) (fun t9 ht9 hW9 => ⟨⟨(b3, f3), _, rfl, hf, rfl, hB.P ht9 hW9⟩, hB.F ht9⟩) hB.L dJ4_append_bf812_7)
set_option maxHeartbeats 4000000 in
set_option maxRecDepth 100000 in
theorem m_J5_init_d00df (l : Launch) (dC : Nat → ClassId) (dI : Nat → Nat → Nat) (cB : ClassId) (z : Nat) (a k : Nat) (hk : k ≤ 65536) : Met l yJ5_init_d00df wsJ5_init_d00df ({ frames := 1, cells := 1, slots := k, locals := 20 } : Room) (va_Pc [.ref a, .int (nI k)] (PB dC dI cB z [(a, .inr (1, [.null, .int (nI 0), .int (nI 0), .int (nI 0)]))])) (va_Qv (fun _ : Nat => True) (fun u t => PB dC dI cB z [(a, eSB u 0), (u, eBy cB k (fun _ => 0))] t) (zB z)) 1 k (zB z) := by
  refine ofWF (cc := cJ5_init_d00df) (maxL := 2) (ret := none) (by decide +kernel) rfl ?_
  intro p e s m args below meth c s₁ B hml hv
  obtain ⟨rfl, hPB⟩ := hv
  have hx := B.exec
  have hb := B.bytes
  have hr := B.returns
  have hts := atoms_spec (ws := wsJ5_init_d00df) B.pre
  have hown : s.vm.findClass RJ5 = some m.cls := findClass_of_methodNamed B.named
  have hlocks := B.notSynchronized
  have hinJ4 : ∀ w ∈ u_ws RJ4 TJ4 4, w ∈ wsJ5_init_d00df := tu 1326 (by decide +kernel) rfl
  have hB := WB.of hPB
  have hl := lv_entry ([.ref a, .int (nI k)]) (n := 2) (Nat.le_of_ble_eq_true rfl)
  rw [lg_entry_eq]
  generalize (lg_sl ([.ref a, .int (nI k)]) ++ List.replicate (2 - (lg_sl ([.ref a, .int (nI k)])).length) Slot.unset).toArray = ls at hl ⊢
  have hl : lv_has ls 2 [(0, .ref a), (1, .int (nI k))] := hl
  show W p l e ({ frames := 1, cells := 1, slots := k, locals := 20 } : Room) s m ([.ref a, .int (nI k)]).toArray below meth c s.heap [] 0 0 (MQ below (va_Qv (fun _ : Nat => True) (fun u t => PB dC dI cB z [(a, eSB u 0), (u, eBy cB k (fun _ => 0))] t) (zB z)) ([.ref a, .int (nI k)]).toArray s 1 k (zB z)) (F0 m 0 ls [])
  refine lv_aload_n hx hb dJ5_init_d00df_0 rfl (lv_at hl 0 rfl) ?_
  refine W.objInit hx hb hown (hts (.methodLink RJ5 3 objectInit) (tm 419 (by decide +kernel) rfl)) (hts (.instanceMethod objectInit) (tm 1 (by decide +kernel) rfl)) (hts (.code objectInit ⟨#[0xb1]⟩ 1 none) (tm 2 (by decide +kernel) rfl)) (g := F0 m 1 ls [.ref a]) rfl (by rw [hml]; exact hl.1) rfl dJ5_init_d00df_1 (Nat.le_of_ble_eq_true rfl) (Nat.le_of_ble_eq_true rfl) ?_
  show W p l e _ s m _ below meth c _ _ _ _ _ (F0 m 4 ls [])
  refine va_gets hx hb hB.2.2.2.2.2.1 hB.2.2.2.1 hown (hts (.fieldLink RJ5 18 "java/lang/String" "COMPACT_STRINGS" "Z") (tm 283 (by decide +kernel) rfl)) (fun _ h => h) dJ5_init_d00df_4 ?_
  refine kn_if_eq (tgt := 25) hx hb (by omega) dJ5_init_d00df_7 (by decide) (fun k_1 => absurd k_1 (by omega)) (fun k_1 => ?_)
  refine lv_aload_n hx hb dJ5_init_d00df_10 rfl (lv_at hl 0 rfl) ?_
  refine lv_iload_n hx hb dJ5_init_d00df_11 rfl (lv_at hl 1 rfl) ?_
  refine kb_new hx hb (hts (.arrayClass .byte) (tm 246 (by decide +kernel) rfl)) hB (by omega) (Nat.le_refl _) (by simp) dJ5_init_d00df_12 (fun q_2 H hB => ?_)
  replace hB : WB dC dI cB z [(a, .inr (1, [.null, .int (nI 0), .int (nI 0), .int (nI 0)])), (q_2, eBy cB k (fun _ => 0))] s H _ := hB
  refine kb_put (fs := [.null, .int (nI 0), .int (nI 0), .int (nI 0)]) hx hb hts hinJ4 hown hB 0 rfl 0 (by decide) (hts (.fieldLink RJ5 15 "java/lang/AbstractStringBuilder" "value" "[B") (tm 216 (by decide +kernel) rfl)) (fun _ h => h) rfl rfl rfl rfl (Nat.le_of_ble_eq_true rfl) dJ5_init_d00df_14 (fun H locs hB => ?_)
  replace hB : WB dC dI cB z [(a, eSB q_2 0), (q_2, eBy cB k (fun _ => 0))] s H locs := hB
  refine lv_aload_n hx hb dJ5_init_d00df_17 rfl (lv_at hl 0 rfl) ?_
  refine lv_iconst (v := nI 0) hx hb dJ5_init_d00df_18 (by decide) ?_
  refine kb_put (fs := [.ref q_2, .int (nI 0), .int (nI 0), .int (nI 0)]) hx hb hts hinJ4 hown hB 0 rfl 1 (by decide) (hts (.fieldLink RJ5 22 "java/lang/AbstractStringBuilder" "coder" "B") (tm 217 (by decide +kernel) rfl)) (fun _ h => h) rfl rfl (by decide) (by decide) (Nat.le_of_ble_eq_true rfl) dJ5_init_d00df_19 (fun H locs hB => ?_)
  replace hB : WB dC dI cB z [(a, eSB q_2 0), (q_2, eBy cB k (fun _ => 0))] s H locs := hB
  refine lv_goto (tgt := 38) hx hb dJ5_init_d00df_22 (by decide) ?_
  exact W.widen (k := 1) (n := k) (by simp) (by simp) (W.vret hx hb hr (fun t9 ht9 hW9 => ⟨⟨q_2, rfl, trivial, hB.P ht9 hW9⟩, hB.F ht9⟩) hB.L dJ5_init_d00df_38)
set_option maxHeartbeats 4000000 in
set_option maxRecDepth 100000 in
theorem m_J4_init_da8c8 (l : Launch) (dC : Nat → ClassId) (dI : Nat → Nat → Nat) (cB : ClassId) (z : Nat) (a : Nat) : Met l yJ4_init_da8c8 wsJ4_init_da8c8 ({ frames := 2, cells := 1, slots := 16, locals := 41 } : Room) (va_Pc [.ref a] (PB dC dI cB z [(a, .inr (1, [.null, .int (nI 0), .int (nI 0), .int (nI 0)]))])) (va_Qv (fun _ : Nat => True) (fun u t => PB dC dI cB z [(a, eSB u 0), (u, eBy cB 16 (fun _ => 0))] t) (zB z)) 1 16 (zB z) := by
  refine ofWF (cc := cJ4_init_da8c8) (maxL := 1) (ret := none) (by decide +kernel) rfl ?_
  intro p e s m args below meth c s₁ B hml hv
  obtain ⟨rfl, hPB⟩ := hv
  have hx := B.exec
  have hb := B.bytes
  have hr := B.returns
  have hts := atoms_spec (ws := wsJ4_init_da8c8) B.pre
  have hown : s.vm.findClass RJ4 = some m.cls := findClass_of_methodNamed B.named
  have hlocks := B.notSynchronized
  have hB := WB.of hPB
  have hl := lv_entry ([.ref a]) (n := 1) (Nat.le_of_ble_eq_true rfl)
  rw [lg_entry_eq]
  generalize (lg_sl ([.ref a]) ++ List.replicate (1 - (lg_sl ([.ref a])).length) Slot.unset).toArray = ls at hl ⊢
  have hl : lv_has ls 1 [(0, .ref a)] := hl
  show W p l e ({ frames := 2, cells := 1, slots := 16, locals := 41 } : Room) s m ([.ref a]).toArray below meth c s.heap [] 0 0 (MQ below (va_Qv (fun _ : Nat => True) (fun u t => PB dC dI cB z [(a, eSB u 0), (u, eBy cB 16 (fun _ => 0))] t) (zB z)) ([.ref a]).toArray s 1 16 (zB z)) (F0 m 0 ls [])
  refine lv_aload_n hx hb dJ4_init_da8c8_0 rfl (lv_at hl 0 rfl) ?_
  refine lv_bipush (v := nI 16) hx hb dJ4_init_da8c8_1 (by decide) ?_
  refine kb_v (va_runI (As := [.int (nI 16)]) (rest := []) ⟨hx, hb, hml, hown, hts⟩ (m_J5_init_d00df l dC dI cB z a 16 (by omega)) (cwI 1 hts gJ4_init_da8c8_J5_init_d00df rfl rfl rfl (hts (.initialized yJ5_init_d00df.cls) (tm 222 (by decide +kernel) rfl)) (hts (.methodLink RJ4 1 yJ5_init_d00df) (tm 416 (by decide +kernel) rfl)) (hts (.instanceMethod yJ5_init_d00df) (tm 417 (by decide +kernel) rfl)) rfl (by decide +kernel) ⟨Nat.le_of_ble_eq_true rfl, Nat.le_of_ble_eq_true rfl⟩) (hB.preS) rfl rfl hl.1 rfl (lv_room (Nat.le_of_ble_eq_true rfl)) dJ4_init_da8c8_3 ⟨Nat.le_of_ble_eq_true rfl, Nat.le_of_ble_eq_true rfl⟩) hB (fun u H locs hu hB => ?_)
  replace hB : WB dC dI cB z [(a, eSB u 0), (u, eBy cB 16 (fun _ => 0))] s H locs := hB
  exact W.widen (k := 1) (n := 16) (by simp) (by simp) (W.vret hx hb hr (fun t9 ht9 hW9 => ⟨⟨u, rfl, trivial, hB.P ht9 hW9⟩, hB.F ht9⟩) hB.L dJ4_init_da8c8_6)
set_option maxHeartbeats 4000000 in
set_option maxRecDepth 100000 in
theorem m_J7_copyOfRangeByte_39247 (l : Launch) (dC : Nat → ClassId) (dI : Nat → Nat → Nat) (cB : ClassId) (z : Nat) (G : va_W) (b cp : Nat) (f : Nat → Int32) (hG2 : G[1]? = some (b, eBy cB cp f)) (n : Nat) (hn : n ≤ cp) (hm : cp ≤ 65536) (hf : sb_Fit f) : Met l yJ7_copyOfRangeByte_39247 wsJ7_copyOfRangeByte_39247 ({ frames := 1, cells := 1, slots := n, locals := 40 } : Room) (va_Pc [.ref b, .int (nI 0), .int (nI n)] (PB dC dI cB z G)) (va_Qr (fun u : Nat → Int32 => sb_Fit u) (fun u q9 t => True ∧ PB dC dI cB z (G ++ [(q9, eBy cB n u)]) t) (zB z)) 1 n (zB z) := by
  refine ofWF (cc := cJ7_copyOfRangeByte_39247) (maxL := 5) (ret := (some (.array .byte))) (by decide +kernel) rfl ?_
  intro p e s m args below meth c s₁ B hml hv
  obtain ⟨rfl, hPB⟩ := hv
  have hx := B.exec
  have hb := B.bytes
  have hr := B.returns
  have hts := atoms_spec (ws := wsJ7_copyOfRangeByte_39247) B.pre
  have hown : s.vm.findClass RJ7 = some m.cls := findClass_of_methodNamed B.named
  have hlocks := B.notSynchronized
  have hB := WB.of hPB
  have hl := lv_entry ([.ref b, .int (nI 0), .int (nI n)]) (n := 5) (Nat.le_of_ble_eq_true rfl)
  rw [lg_entry_eq]
  generalize (lg_sl ([.ref b, .int (nI 0), .int (nI n)]) ++ List.replicate (5 - (lg_sl ([.ref b, .int (nI 0), .int (nI n)])).length) Slot.unset).toArray = ls at hl ⊢
  have hl : lv_has ls 5 [(0, .ref b), (1, .int (nI 0)), (2, .int (nI n))] := hl
  show W p l e ({ frames := 1, cells := 1, slots := n, locals := 40 } : Room) s m ([.ref b, .int (nI 0), .int (nI n)]).toArray below meth c s.heap [] 0 0 (MQ below (va_Qr (fun u : Nat → Int32 => sb_Fit u) (fun u q9 t => True ∧ PB dC dI cB z (G ++ [(q9, eBy cB n u)]) t) (zB z)) ([.ref b, .int (nI 0), .int (nI n)]).toArray s 1 n (zB z)) (F0 m 0 ls [])
  refine lv_iload_n hx hb dJ7_copyOfRangeByte_39247_0 rfl (lv_at hl 1 rfl) ?_
  refine lv_iload_n hx hb dJ7_copyOfRangeByte_39247_1 rfl (lv_at hl 2 rfl) ?_
  refine va_csv (va_Run.run (va_runS (As := [.int (nI 0), .int (nI n)]) (rest := []) ⟨hx, hb, hml, hown, hts⟩ (m_J7_checkLength_df160 l 0 n (by omega) (by omega)) (va_cwS 2 hts gJ7_copyOfRangeByte_39247_J7_checkLength_df160 rfl rfl rfl hdJ7_checkLength_df160_2.2 ⟨Nat.le_of_ble_eq_true rfl, Nat.le_of_ble_eq_true rfl⟩) (pureS) rfl rfl hl.1 rfl (lv_room (Nat.le_of_ble_eq_true rfl)) dJ7_copyOfRangeByte_39247_2 ⟨Nat.le_of_ble_eq_true rfl, Nat.le_of_ble_eq_true rfl⟩)) (fun _ => ?_)
  refine lv_iload_n hx hb dJ7_copyOfRangeByte_39247_5 rfl (lv_at hl 2 rfl) ?_
  refine lv_iload_n hx hb dJ7_copyOfRangeByte_39247_6 rfl (lv_at hl 1 rfl) ?_
  refine kn_isub hx hb (by omega) dJ7_copyOfRangeByte_39247_7 ?_
  rw [Nat.sub_zero]
  refine lv_istore_n (lv' := [(3, .int (nI n)), (0, .ref b), (1, .int (nI 0)), (2, .int (nI n))]) hx hb dJ7_copyOfRangeByte_39247_8 rfl hl (by decide) rfl (fun ls hl => ?_)
  refine lv_iload_n hx hb dJ7_copyOfRangeByte_39247_9 rfl (lv_at hl 0 rfl) ?_
  refine kb_new hx hb (hts (.arrayClass .byte) (tm 246 (by decide +kernel) rfl)) hB (by omega) (Nat.le_refl _) (by simp) dJ7_copyOfRangeByte_39247_10 (fun q_1 H hB => ?_)
  refine lv_astore (lv' := [(4, .ref q_1), (3, .int (nI n)), (0, .ref b), (1, .int (nI 0)), (2, .int (nI n))]) hx hb dJ7_copyOfRangeByte_39247_12 hl (by decide) rfl (fun ls hl => ?_)
  refine lv_aload_n hx hb dJ7_copyOfRangeByte_39247_14 rfl (lv_at hl 2 rfl) ?_
  refine lv_iload_n hx hb dJ7_copyOfRangeByte_39247_15 rfl (lv_at hl 3 rfl) ?_
  refine lv_aload hx hb dJ7_copyOfRangeByte_39247_16 (lv_at hl 0 rfl) ?_
  refine lv_iconst (v := nI 0) hx hb dJ7_copyOfRangeByte_39247_18 (by decide) ?_
  refine lv_aload_n hx hb dJ7_copyOfRangeByte_39247_19 rfl (lv_at hl 2 rfl) ?_
  refine va_alen (cA := cB) (x := (cp, .inl f)) hx hb hB.2.1 hB.1 1 0 (app_old hG2) rfl (v := nI cp) rfl dJ7_copyOfRangeByte_39247_20 ?_
  refine lv_iload_n hx hb dJ7_copyOfRangeByte_39247_21 rfl (lv_at hl 3 rfl) ?_
  refine kn_isub hx hb (by omega) dJ7_copyOfRangeByte_39247_22 ?_
  rw [Nat.sub_zero]
  refine lv_iload_n hx hb dJ7_copyOfRangeByte_39247_23 rfl (lv_at hl 1 rfl) ?_
  refine kn_min hx hb (by rw [hml]; exact hl.1.symm) hown (hts (.methodLink RJ7 304 Lib.Math.min.name) (tm 247 (by decide +kernel) rfl)) (hts (.static Lib.Math.min.name) (tm 151 (by decide +kernel) rfl)) (hts (.initialized "java/lang/Math") (tm 152 (by decide +kernel) rfl)) (hts (.code Lib.Math.min.name Lib.Math.min.code 2 (some .int)) (tm 153 (by decide +kernel) rfl)) (Nat.le_of_ble_eq_true rfl) (Nat.le_of_ble_eq_true rfl) (by simp) (by simp) (by omega) (by omega) dJ7_copyOfRangeByte_39247_24 ?_
  refine kb_cp hx hb (by rw [hml]; exact hl.1.symm) hown (hts (.methodLink RJ7 150 arraycopyName) (tm 248 (by decide +kernel) rfl)) (hts (.native arraycopyName) (tm 249 (by decide +kernel) rfl)) (hts (.static arraycopyName) (tm 250 (by decide +kernel) rfl)) (hts (.initialized "java/lang/System") (tm 251 (by decide +kernel) rfl)) hB 1 G.length (f := f) (g := (fun _ => 0)) (app_old hG2) app_new hf (by omega) (by omega) (by omega) (Nat.le_of_ble_eq_true rfl) (Nat.le_of_ble_eq_true rfl) dJ7_copyOfRangeByte_39247_27 (fun H locs hB => ?_)
  rw [app_set] at hB
  refine lv_aload hx hb dJ7_copyOfRangeByte_39247_30 (lv_at hl 0 rfl) ?_
  exact W.widen (k := 1) (n := n) (by simp) (by simp) (W.aret (v := .ref q_1) hx hb hr (Or.inr ⟨_, rfl⟩) (Or.inr ⟨_, rfl⟩) (fun t9 ht9 hW9 => ⟨⟨_, _, rfl, sb_fitC hf sb_fit0, trivial, hB.P ht9 hW9⟩, hB.F ht9⟩) hB.L dJ7_copyOfRangeByte_39247_32)
set_option maxHeartbeats 4000000 in
set_option maxRecDepth 100000 in
theorem m_J7_copyOfRange_39247 (l : Launch) (dC : Nat → ClassId) (dI : Nat → Nat → Nat) (cB : ClassId) (z : Nat) (G : va_W) (b cp : Nat) (f : Nat → Int32) (hG2 : G[1]? = some (b, eBy cB cp f)) (n : Nat) (hn : n ≤ cp) (hm : cp ≤ 65536) (hf : sb_Fit f) : Met l yJ7_copyOfRange_39247 wsJ7_copyOfRange_39247 ({ frames := 2, cells := 1, slots := n, locals := 64 } : Room) (va_Pc [.ref b, .int (nI 0), .int (nI n)] (PB dC dI cB z G)) (va_Qr (fun u : Nat → Int32 => sb_Fit u) (fun u q9 t => True ∧ PB dC dI cB z (G ++ [(q9, eBy cB n u)]) t) (zB z)) 1 n (zB z) := by
  refine ofWF (cc := cJ7_copyOfRange_39247) (maxL := 3) (ret := (some (.array .byte))) (by decide +kernel) rfl ?_
  intro p e s m args below meth c s₁ B hml hv
  obtain ⟨rfl, hPB⟩ := hv
  have hx := B.exec
  have hb := B.bytes
  have hr := B.returns
  have hts := atoms_spec (ws := wsJ7_copyOfRange_39247) B.pre
  have hown : s.vm.findClass RJ7 = some m.cls := findClass_of_methodNamed B.named
  have hlocks := B.notSynchronized
  have hB := WB.of hPB
  have hl := lv_entry ([.ref b, .int (nI 0), .int (nI n)]) (n := 3) (Nat.le_of_ble_eq_true rfl)
  rw [lg_entry_eq]
  generalize (lg_sl ([.ref b, .int (nI 0), .int (nI n)]) ++ List.replicate (3 - (lg_sl ([.ref b, .int (nI 0), .int (nI n)])).length) Slot.unset).toArray = ls at hl ⊢
  have hl : lv_has ls 3 [(0, .ref b), (1, .int (nI 0)), (2, .int (nI n))] := hl
  show W p l e ({ frames := 2, cells := 1, slots := n, locals := 64 } : Room) s m ([.ref b, .int (nI 0), .int (nI n)]).toArray below meth c s.heap [] 0 0 (MQ below (va_Qr (fun u : Nat → Int32 => sb_Fit u) (fun u q9 t => True ∧ PB dC dI cB z (G ++ [(q9, eBy cB n u)]) t) (zB z)) ([.ref b, .int (nI 0), .int (nI n)]).toArray s 1 n (zB z)) (F0 m 0 ls [])
  refine lv_iload_n hx hb dJ7_copyOfRange_39247_0 rfl (lv_at hl 1 rfl) ?_
  refine kn_if_ne (tgt := 10) hx hb (by omega) dJ7_copyOfRange_39247_1 (by decide) (fun k_1 => absurd k_1 (by omega)) (fun k_1 => ?_)
  refine lv_iload_n hx hb dJ7_copyOfRange_39247_4 rfl (lv_at hl 2 rfl) ?_
  refine lv_aload_n hx hb dJ7_copyOfRange_39247_5 rfl (lv_at hl 0 rfl) ?_
  refine va_alen (cA := cB) (x := (cp, .inl f)) hx hb hB.2.1 hB.1 1 0 hG2 rfl (v := nI cp) rfl dJ7_copyOfRange_39247_6 ?_
  refine kn_icmp_eq (tgt := 17) hx hb (by omega) (by omega) dJ7_copyOfRange_39247_7 (by decide) (fun k_2 => ?_) (fun k_2 => ?_)
  · skip
    refine lv_aload_n hx hb dJ7_copyOfRange_39247_17 rfl (lv_at hl 0 rfl) ?_
    obtain rfl : n = cp := by omega
    refine va_clone (ty := .byte) (x := (n, .inl f)) hx hb (by rw [hml]; exact hl.1.symm) hown (hts (.methodLink RJ7 310 ⟨"[B", "clone", "()Ljava/lang/Object;"⟩) (tm 240 (by decide +kernel) rfl)) (hts (.sameMethod "[B" "java/lang/Object" "clone" "()Ljava/lang/Object;") (tm 241 (by decide +kernel) rfl)) (hts (.native ⟨"java/lang/Object", "clone", "()Ljava/lang/Object;"⟩) (tm 242 (by decide +kernel) rfl)) (hts (.instanceMethod ⟨"java/lang/Object", "clone", "()Ljava/lang/Object;"⟩) (tm 243 (by decide +kernel) rfl)) (hts (.selects "[B" ⟨"[B", "clone", "()Ljava/lang/Object;"⟩ ⟨"java/lang/Object", "clone", "()Ljava/lang/Object;"⟩) (tm 244 (by decide +kernel) rfl)) hB.2.2.2.2.2.2.2.2 hB.2.1 hB.1 hB.2.2.1 hB.2.2.2.1 (fun q hq => Nat.le_trans hB.2.2.2.2.1 hq) 1 0 hG2 rfl (hB.2.1.2 0 _ rfl).2 (cl_fit hf) (Nat.le_of_ble_eq_true rfl) (Nat.le_of_ble_eq_true rfl) (by simp) (by simp) dJ7_copyOfRange_39247_18 (fun q9 H _ h1 h2 h3 => ?_)
    replace hB : WB dC dI cB z (G ++ [(q9, eBy cB n f)]) s H [] := hB.to h1 h2 h3
    refine va_castA hx hb hown (hts (.classLink RJ7 311 "[B") (tm 245 (by decide +kernel) rfl)) hB.1 G.length (x := (n, .inl f)) app_new (hB.2.1.2 0 _ rfl).2 dJ7_copyOfRange_39247_21 ?_
    exact W.widen (k := 1) (n := n) (by simp) (by simp) (W.aret (v := .ref q9) hx hb hr (Or.inr ⟨_, rfl⟩) (Or.inr ⟨_, rfl⟩) (fun t9 ht9 hW9 => ⟨⟨_, _, rfl, hf, trivial, hB.P ht9 hW9⟩, hB.F ht9⟩) hB.L dJ7_copyOfRange_39247_24)
  · skip
    refine lv_aload_n hx hb dJ7_copyOfRange_39247_10 rfl (lv_at hl 0 rfl) ?_
    refine lv_iload_n hx hb dJ7_copyOfRange_39247_11 rfl (lv_at hl 1 rfl) ?_
    refine lv_iload_n hx hb dJ7_copyOfRange_39247_12 rfl (lv_at hl 2 rfl) ?_
    refine kb_r (va_runS (As := [.ref b, .int (nI 0), .int (nI n)]) (rest := []) ⟨hx, hb, hml, hown, hts⟩ (m_J7_copyOfRangeByte_39247 l dC dI cB z G b cp f hG2 n (by omega) (by omega) hf) (va_cwS 3 hts gJ7_copyOfRange_39247_J7_copyOfRangeByte_39247 rfl rfl rfl hdJ7_copyOfRangeByte_39247_3.2 ⟨Nat.le_of_ble_eq_true rfl, Nat.le_of_ble_eq_true rfl⟩) (hB.preS) rfl rfl hl.1 rfl (lv_room (Nat.le_of_ble_eq_true rfl)) dJ7_copyOfRange_39247_13 ⟨by simp, by simp⟩) hB (fun u q9 H locs hu hq hB => ?_)
    replace hB : WB dC dI cB z (G ++ [(q9, eBy cB n u)]) s H locs := hB
    have hf : sb_Fit u := hu
    exact W.widen (k := 1) (n := n) (by simp) (by simp) (W.aret (v := .ref q9) hx hb hr (Or.inr ⟨_, rfl⟩) (Or.inr ⟨_, rfl⟩) (fun t9 ht9 hW9 => ⟨⟨_, _, rfl, hf, trivial, hB.P ht9 hW9⟩, hB.F ht9⟩) hB.L dJ7_copyOfRange_39247_16)
end
section
set_option maxHeartbeats 4000000 in
set_option maxRecDepth 100000 in
theorem m_J0_init_db425 (l : Launch) (dC : Nat → ClassId) (dI : Nat → Nat → Nat) (cB : ClassId) (z : Nat) (a b n cp : Nat) (f : Nat → Int32) (r : Nat) (hnm : n ≤ cp) (hm : cp ≤ 65536) (hf : sb_Fit f) : Met l yJ0_init_db425 wsJ0_init_db425 ({ frames := 3, cells := 1, slots := n, locals := 86 } : Room) (va_Pc [.ref r, .ref a, .null] (PB dC dI cB z [(a, eSB b n), (b, eBy cB cp f), (r, .inr (0, [.null, .int (nI 0), .int (nI 0), .int (nI 0)]))])) (va_Qv (fun _ : Unit => True) (fun _ t => PB dC dI cB z [(a, eSB b n), (b, eBy cB cp f)] t) (zB z)) 1 n (zB z) := by
  refine ofWF (cc := cJ0_init_db425) (maxL := 5) (ret := none) (by decide +kernel) rfl ?_
  intro p e s m args below meth c s₁ B hml hv
  obtain ⟨rfl, hPB⟩ := hv
  have hx := B.exec
  have hb := B.bytes
  have hr := B.returns
  have hts := atoms_spec (ws := wsJ0_init_db425) B.pre
  have hown : s.vm.findClass RJ0 = some m.cls := findClass_of_methodNamed B.named
  have hlocks := B.notSynchronized
  have hB := WB.of hPB
  have hl := lv_entry ([.ref r, .ref a, .null]) (n := 5) (Nat.le_of_ble_eq_true rfl)
  rw [lg_entry_eq]
  generalize (lg_sl ([.ref r, .ref a, .null]) ++ List.replicate (5 - (lg_sl ([.ref r, .ref a, .null])).length) Slot.unset).toArray = ls at hl ⊢
  have hl : lv_has ls 5 [(0, .ref r), (1, .ref a), (2, .null)] := hl
  show W p l e ({ frames := 3, cells := 1, slots := n, locals := 86 } : Room) s m ([.ref r, .ref a, .null]).toArray below meth c s.heap [] 0 0 (MQ below (va_Qv (fun _ : Unit => True) (fun _ t => PB dC dI cB z [(a, eSB b n), (b, eBy cB cp f)] t) (zB z)) ([.ref r, .ref a, .null]).toArray s 1 n (zB z)) (F0 m 0 ls [])
  have hin2 : meth.name = "<init>" := (name_of_methodNamed B.named B.method).1
  have hinJ0 : ∀ w ∈ u_ws RJ0 TJ0 4, w ∈ wsJ0_init_db425 := tu 1327 (by decide +kernel) rfl
  have hat := KatJ4 hPB
  refine lv_aload_n hx hb dJ0_init_db425_0 rfl (lv_at hl 0 rfl) ?_
  refine W.objInit hx hb hown (hts (.methodLink RJ0 1 objectInit) (tm 384 (by decide +kernel) rfl)) (hts (.instanceMethod objectInit) (tm 1 (by decide +kernel) rfl)) (hts (.code objectInit ⟨#[0xb1]⟩ 1 none) (tm 2 (by decide +kernel) rfl)) (g := F0 m 1 ls [.ref r]) rfl (by rw [hml]; exact hl.1) rfl dJ0_init_db425_1 (Nat.le_of_ble_eq_true rfl) (Nat.le_of_ble_eq_true rfl) ?_
  show W p l e _ s m _ below meth c _ _ _ _ _ (F0 m 4 ls [])
  refine lv_aload_n hx hb dJ0_init_db425_4 rfl (lv_at hl 1 rfl) ?_
  refine va_csr (va_Run.run (va_runU (As := []) (rest := []) ⟨hx, hb, hml, hown, hts⟩ (m_J5_getValue_6d5f1 l dC dI cB z ([(a, eSB b n), (b, eBy cB cp f), (r, .inr (0, [.null, .int (nI 0), .int (nI 0), .int (nI 0)]))]) a b n rfl) (va_cwU 0 hts gJ0_init_db425_J5_getValue_6d5f1_u552J4 rfl rfl rfl rfl (by decide +kernel) ⟨Nat.le_of_ble_eq_true rfl, Nat.le_of_ble_eq_true rfl⟩) (hB.preV (ci := 1) (q := (RJ4, TJ4, 4)) rfl 0 rfl) rfl rfl hl.1 rfl (lv_room (Nat.le_of_ble_eq_true rfl)) dJ0_init_db425_5 ⟨Nat.le_of_ble_eq_true rfl, Nat.le_of_ble_eq_true rfl⟩)) (fun k_ hk_ => ?_)
  rw [hk_]
  refine lv_astore_n (lv' := [(3, .ref b), (0, .ref r), (1, .ref a), (2, .null)]) hx hb dJ0_init_db425_8 rfl hl (by decide) rfl (fun ls hl => ?_)
  refine lv_aload_n hx hb dJ0_init_db425_9 rfl (lv_at hl 2 rfl) ?_
  refine kx_cr (v := nI n) (va_runU (As := []) (rest := []) ⟨hx, hb, hml, hown, hts⟩ (m_J4_length_8abf5 l dC dI cB z ([(a, eSB b n), (b, eBy cB cp f), (r, .inr (0, [.null, .int (nI 0), .int (nI 0), .int (nI 0)]))]) a b n rfl) (va_cwO 0 hts gJ0_init_db425_J4_length_8abf5_u549J4 rfl rfl rfl (b0 := cJ5_length_8abf5) (m0 := 1) (r0 := some .int) (by decide +kernel) (by decide +kernel) ⟨Nat.le_of_ble_eq_true rfl, Nat.le_of_ble_eq_true rfl⟩) (hB.preV (ci := 1) (q := (RJ4, TJ4, 4)) rfl 0 rfl) rfl rfl hl.1 rfl (lv_room (Nat.le_of_ble_eq_true rfl)) dJ0_init_db425_10 ⟨Nat.le_of_ble_eq_true rfl, Nat.le_of_ble_eq_true rfl⟩) (fun _ h => h) ?_
  refine lv_istore (lv' := [(4, .int (nI n)), (3, .ref b), (0, .ref r), (1, .ref a), (2, .null)]) hx hb dJ0_init_db425_13 hl (by decide) rfl (fun ls hl => ?_)
  refine lv_aload_n hx hb dJ0_init_db425_15 rfl (lv_at hl 3 rfl) ?_
  refine kx_cr (v := bI true) (va_runU (As := []) (rest := []) ⟨hx, hb, hml, hown, hts⟩ (m_J5_isLatin1_aae02 l dC dI cB z ([(a, eSB b n), (b, eBy cB cp f), (r, .inr (0, [.null, .int (nI 0), .int (nI 0), .int (nI 0)]))]) a b n rfl) (va_cwU 0 hts gJ0_init_db425_J5_isLatin1_aae02_u1047J4 rfl rfl rfl rfl (by decide +kernel) ⟨Nat.le_of_ble_eq_true rfl, Nat.le_of_ble_eq_true rfl⟩) (hB.preV (ci := 1) (q := (RJ4, TJ4, 4)) rfl 0 rfl) rfl rfl hl.1 rfl (lv_room (Nat.le_of_ble_eq_true rfl)) dJ0_init_db425_16 ⟨Nat.le_of_ble_eq_true rfl, Nat.le_of_ble_eq_true rfl⟩) (fun _ h => h) ?_
  refine kb_if_eq (tgt := 41) hx hb dJ0_init_db425_19 (by decide) (fun k_1 => absurd k_1 (by decide)) (fun k_1 => ?_)
  refine lv_aload_n hx hb dJ0_init_db425_22 rfl (lv_at hl 2 rfl) ?_
  refine lv_iconst (v := nI 0) hx hb dJ0_init_db425_23 (by decide) ?_
  refine kb_pstr (fs := [.null, .int (nI 0), .int (nI 0), .int (nI 0)]) hx hb hts hinJ0 hown hB 2 rfl 1 (by decide) (hts (.fieldLink RJ0 15 "java/lang/String" "coder" "B") (tm 385 (by decide +kernel) rfl)) (fun _ h => h) rfl hin2 rfl rfl (by decide) (by decide) (Nat.le_of_ble_eq_true rfl) dJ0_init_db425_24 (fun H locs hB => ?_)
  replace hB : WB dC dI cB z [(a, eSB b n), (b, eBy cB cp f), (r, .inr (0, [.null, .int (nI 0), .int (nI 0), .int (nI 0)]))] s H locs := hB
  refine lv_aload_n hx hb dJ0_init_db425_27 rfl (lv_at hl 2 rfl) ?_
  refine lv_aload_n hx hb dJ0_init_db425_28 rfl (lv_at hl 1 rfl) ?_
  refine lv_iconst (v := nI 0) hx hb dJ0_init_db425_29 (by decide) ?_
  refine lv_iload hx hb dJ0_init_db425_30 (lv_at hl 0 rfl) ?_
  refine kb_r (va_runS (As := [.ref b, .int (nI 0), .int (nI n)]) (rest := [.ref r]) ⟨hx, hb, hml, hown, hts⟩ (m_J7_copyOfRange_39247 l dC dI cB z ([(a, eSB b n), (b, eBy cB cp f), (r, .inr (0, [.null, .int (nI 0), .int (nI 0), .int (nI 0)]))]) b cp f rfl n (by omega) (by omega) hf) (va_cwS 3 hts gJ0_init_db425_J7_copyOfRange_39247 rfl rfl rfl hdJ7_copyOfRange_39247_3.2 ⟨Nat.le_of_ble_eq_true rfl, Nat.le_of_ble_eq_true rfl⟩) (hB.preS) rfl rfl hl.1 rfl (lv_room (Nat.le_of_ble_eq_true rfl)) dJ0_init_db425_32 ⟨by simp, by simp⟩) hB (fun u q9 H locs hu hq hB => ?_)
  replace hB : WB dC dI cB z [(a, eSB b n), (b, eBy cB cp f), (r, .inr (0, [.null, .int (nI 0), .int (nI 0), .int (nI 0)])), (q9, eBy cB n u)] s H locs := hB
  refine kb_pstr (fs := [.null, .int (nI 0), .int (nI 0), .int (nI 0)]) hx hb hts hinJ0 hown hB 2 rfl 0 (by decide) (hts (.fieldLink RJ0 9 "java/lang/String" "value" "[B") (tm 386 (by decide +kernel) rfl)) (fun _ h => h) rfl hin2 rfl rfl rfl rfl (Nat.le_of_ble_eq_true rfl) dJ0_init_db425_35 (fun H locs hB => ?_)
  replace hB : WB dC dI cB z [(a, eSB b n), (b, eBy cB cp f), (r, .inr (0, [.ref q9, .int (nI 0), .int (nI 0), .int (nI 0)])), (q9, eBy cB n u)] s H locs := hB
  refine lv_goto (tgt := 97) hx hb dJ0_init_db425_38 (by decide) ?_
  replace hB : WB dC dI cB z [(a, eSB b n), (b, eBy cB cp f)] s H locs := hB.to (hB.1.sub [0, 1] rfl) (hB.2.2.1.sub [0, 1] (by decide) rfl) hB.2.2.2.1
  exact W.widen (k := 1) (n := n) (by simp) (by simp) (W.vret hx hb hr (fun t9 ht9 hW9 => ⟨⟨(), rfl, trivial, hB.P ht9 hW9⟩, hB.F ht9⟩) hB.L dJ0_init_db425_97)
set_option maxHeartbeats 4000000 in
set_option maxRecDepth 100000 in
theorem m_J0_init_81219 (l : Launch) (dC : Nat → ClassId) (dI : Nat → Nat → Nat) (cB : ClassId) (z : Nat) (a b n cp : Nat) (f : Nat → Int32) (r : Nat) (hnm : n ≤ cp) (hm : cp ≤ 65536) (hf : sb_Fit f) : Met l yJ0_init_81219 wsJ0_init_81219 ({ frames := 4, cells := 1, slots := n, locals := 110 } : Room) (va_Pc [.ref r, .ref a] (PB dC dI cB z [(a, eSB b n), (b, eBy cB cp f), (r, .inr (0, [.null, .int (nI 0), .int (nI 0), .int (nI 0)]))])) (va_Qv (fun _ : Unit => True) (fun _ t => PB dC dI cB z [(a, eSB b n), (b, eBy cB cp f)] t) (zB z)) 1 n (zB z) := by
  refine ofWF (cc := cJ0_init_81219) (maxL := 2) (ret := none) (by decide +kernel) rfl ?_
  intro p e s m args below meth c s₁ B hml hv
  obtain ⟨rfl, hPB⟩ := hv
  have hx := B.exec
  have hb := B.bytes
  have hr := B.returns
  have hts := atoms_spec (ws := wsJ0_init_81219) B.pre
  have hown : s.vm.findClass RJ0 = some m.cls := findClass_of_methodNamed B.named
  have hlocks := B.notSynchronized
  have hB := WB.of hPB
  have hl := lv_entry ([.ref r, .ref a]) (n := 2) (Nat.le_of_ble_eq_true rfl)
  rw [lg_entry_eq]
  generalize (lg_sl ([.ref r, .ref a]) ++ List.replicate (2 - (lg_sl ([.ref r, .ref a])).length) Slot.unset).toArray = ls at hl ⊢
  have hl : lv_has ls 2 [(0, .ref r), (1, .ref a)] := hl
  show W p l e ({ frames := 4, cells := 1, slots := n, locals := 110 } : Room) s m ([.ref r, .ref a]).toArray below meth c s.heap [] 0 0 (MQ below (va_Qv (fun _ : Unit => True) (fun _ t => PB dC dI cB z [(a, eSB b n), (b, eBy cB cp f)] t) (zB z)) ([.ref r, .ref a]).toArray s 1 n (zB z)) (F0 m 0 ls [])
  refine lv_aload_n hx hb dJ0_init_81219_0 rfl (lv_at hl 0 rfl) ?_
  refine lv_aload_n hx hb dJ0_init_81219_1 rfl (lv_at hl 1 rfl) ?_
  refine lv_null hx hb dJ0_init_81219_2 ?_
  refine kb_v (va_runI (As := [.ref a, .null]) (rest := []) ⟨hx, hb, hml, hown, hts⟩ (m_J0_init_db425 l dC dI cB z a b n cp f r hnm hm hf) (cwI 2 hts gJ0_init_81219_J0_init_db425 rfl rfl rfl (hts (.initialized yJ0_init_db425.cls) (tm 264 (by decide +kernel) rfl)) (hts (.methodLink RJ0 489 yJ0_init_db425) (tm 404 (by decide +kernel) rfl)) (hts (.instanceMethod yJ0_init_db425) (tm 405 (by decide +kernel) rfl)) rfl (by decide +kernel) ⟨Nat.le_of_ble_eq_true rfl, Nat.le_of_ble_eq_true rfl⟩) (hB.preS) rfl rfl hl.1 rfl (lv_room (Nat.le_of_ble_eq_true rfl)) dJ0_init_81219_3 ⟨by simp, by simp⟩) hB (fun u H locs hu hB => ?_)
  replace hB : WB dC dI cB z [(a, eSB b n), (b, eBy cB cp f)] s H locs := hB
  exact W.widen (k := 1) (n := n) (by simp) (by simp) (W.vret hx hb hr (fun t9 ht9 hW9 => ⟨⟨(), rfl, trivial, hB.P ht9 hW9⟩, hB.F ht9⟩) hB.L dJ0_init_81219_6)
set_option maxHeartbeats 4000000 in
set_option maxRecDepth 100000 in
theorem m_J4_toString_0e30d (l : Launch) (dC : Nat → ClassId) (dI : Nat → Nat → Nat) (cB : ClassId) (z : Nat) (a b n cp : Nat) (f : Nat → Int32) (hnm : n ≤ cp) (hm : cp ≤ 65536) (hf : sb_Fit f) : Met l yJ4_toString_0e30d wsJ4_toString_0e30d ({ frames := 5, cells := 2, slots := (4 + n), locals := 131 } : Room) (va_Pc [.ref a] (PB dC dI cB z [(a, eSB b n), (b, eBy cB cp f)])) (va_Qr (fun _ : Unit => True) (fun _ _ t => True ∧ PB dC dI cB z [(a, eSB b n), (b, eBy cB cp f)] t) (zB z)) 2 (4 + n) (zB z) := by
  refine ofWF (cc := cJ4_toString_0e30d) (maxL := 1) (ret := (some (.object "java/lang/String"))) (by decide +kernel) rfl ?_
  intro p e s m args below meth c s₁ B hml hv
  obtain ⟨rfl, hPB⟩ := hv
  have hx := B.exec
  have hb := B.bytes
  have hr := B.returns
  have hts := atoms_spec (ws := wsJ4_toString_0e30d) B.pre
  have hown : s.vm.findClass RJ4 = some m.cls := findClass_of_methodNamed B.named
  have hlocks := B.notSynchronized
  have hB := WB.of hPB
  have hl := lv_entry ([.ref a]) (n := 1) (Nat.le_of_ble_eq_true rfl)
  rw [lg_entry_eq]
  generalize (lg_sl ([.ref a]) ++ List.replicate (1 - (lg_sl ([.ref a])).length) Slot.unset).toArray = ls at hl ⊢
  have hl : lv_has ls 1 [(0, .ref a)] := hl
  show W p l e ({ frames := 5, cells := 2, slots := (4 + n), locals := 131 } : Room) s m ([.ref a]).toArray below meth c s.heap [] 0 0 (MQ below (va_Qr (fun _ : Unit => True) (fun _ _ t => True ∧ PB dC dI cB z [(a, eSB b n), (b, eBy cB cp f)] t) (zB z)) ([.ref a]).toArray s 2 (4 + n) (zB z)) (F0 m 0 ls [])
  have hinJ0 : ∀ w ∈ u_ws RJ0 TJ0 4, w ∈ wsJ4_toString_0e30d := tu 1327 (by decide +kernel) rfl
  refine va_new (D := (dC, dI)) (ci := 0) (C := RJ0) (T := TJ0) (N := 4) (fs := [.null, .int (nI 0), .int (nI 0), .int (nI 0)]) hx hb hts hinJ0 tyJ0 tyJ0_ok hown (hts (.classLink RJ4 18 RJ0) (tm 407 (by decide +kernel) rfl)) (hts (.instantiable RJ0 4) (tm 408 (by decide +kernel) rfl)) (hts (.initialized RJ0) (tm 264 (by decide +kernel) rfl)) hB.2.1 hB.1 hB.2.2.1 hB.2.2.2.1 (fun q hq => Nat.le_trans hB.2.2.2.2.1 hq) rfl (fun j hj => by rcases (show j = 0 ∨ j = 1 ∨ j = 2 ∨ j = 3 by omega) with rfl | rfl | rfl | rfl <;> rfl) (by simp) (by simp) dJ4_toString_0e30d_0 (fun r H h1 h2 h3 => ?_)
  replace hB : WB dC dI cB z [(a, eSB b n), (b, eBy cB cp f), (r, .inr (0, [.null, .int (nI 0), .int (nI 0), .int (nI 0)]))] s H _ := hB.to h1 h2 h3
  refine lv_dup hx hb dJ4_toString_0e30d_3 rfl ?_
  refine lv_aload_n hx hb dJ4_toString_0e30d_4 rfl (lv_at hl 0 rfl) ?_
  refine kb_v (va_runI (As := [.ref a]) (rest := [.ref r]) ⟨hx, hb, hml, hown, hts⟩ (m_J0_init_81219 l dC dI cB z a b n cp f r hnm hm hf) (cwI 1 hts gJ4_toString_0e30d_J0_init_81219 rfl rfl rfl (hts (.initialized yJ0_init_81219.cls) (tm 264 (by decide +kernel) rfl)) (hts (.methodLink RJ4 137 yJ0_init_81219) (tm 409 (by decide +kernel) rfl)) (hts (.instanceMethod yJ0_init_81219) (tm 410 (by decide +kernel) rfl)) rfl (by decide +kernel) ⟨Nat.le_of_ble_eq_true rfl, Nat.le_of_ble_eq_true rfl⟩) (hB.preS) rfl rfl hl.1 rfl (lv_room (Nat.le_of_ble_eq_true rfl)) dJ4_toString_0e30d_5 ⟨by simp, by simp⟩) hB (fun u H locs hu hB => ?_)
  replace hB : WB dC dI cB z [(a, eSB b n), (b, eBy cB cp f)] s H locs := hB
  exact W.widen (k := 2) (n := (4 + n)) (by simp) (by simp) (W.aret (v := .ref r) hx hb hr (Or.inl ⟨_, rfl⟩) (Or.inr ⟨_, rfl⟩) (fun t9 ht9 hW9 => ⟨⟨(), _, rfl, trivial, trivial, hB.P ht9 hW9⟩, hB.F ht9⟩) hB.L dJ4_toString_0e30d_8)
end
section
/-! texts: the class's world beside a builder's -/
def AZ (ad : Nat → Nat) (z q : Nat) : Prop := AX ad q ∨ zB z q
def TB (dC : Nat → ClassId) (dI : Nat → Nat → Nat) (cB : ClassId) (ad : Nat → Nat) (z : Nat) (G : va_W) (s : State) (H : Heap) : Prop := va_P (dC, dI) vwCl G H ∧ va_K (dC, dI) vwCl [(cB, .byte)] s ∧ va_D (zB z) G ∧ z ≤ s.heap.size ∧ ZBA (AZ ad z) s s.heap ∧ ∀ q, AX ad q → q < z
/-- the two links by which a row and an order reach the gap's maker -/
def NT (U : State) : Prop := va_Nw (.methodLinkNest RX2 65 yX4_appendGap "Orderlattice") U ∧ va_Nw (.methodLinkNest RX1 65 yX4_appendGap "Orderlattice") U
theorem NT.warm {s U : State} (hW : s.WarmedH U.vm) (h : NT s) : NT U := ⟨va_Nw.warmM hW h.1, va_Nw.warmM hW h.2⟩
theorem NT.same {s U : State} (hv : s.vm = U.vm) (h : NT s) : NT U := ⟨va_Nw.same rfl hv h.1, va_Nw.same rfl hv h.2⟩
/-- before a call that makes a text -/
def PT (dC : Nat → ClassId) (dI : Nat → Nat → Nat) (cB : ClassId) (ad : Nat → Nat) (S : XS) (U : State) : Prop := PX dC dI ad S U ∧ va_K (dC, dI) vwCl [(cB, .byte)] U ∧ ZBA (AZ ad U.heap.size) U U.heap ∧ NT U
section KT0
variable {dC : Nat → ClassId} {dI : Nat → Nat → Nat} {cB : ClassId} {ad : Nat → Nat} {z : Nat} {G : va_W} {S : XS} {s : State} {H : Heap} {locs : List Loc}
theorem PX.lt {U : State} (h : PX dC dI ad S U) : ∀ q, AX ad q → q < U.heap.size := by
  rintro q ⟨k, hk, rfl⟩
  exact (h.1 k _ (wX_get hk)).lt
theorem PT.call {U : State} {g : JFrame} {mk : MethodId} {a : Array Value} (h : PT dC dI cB ad S U) : PT dC dI cB ad S (U.calling g mk a) := ⟨h.1.call, va_K.moved (u := U) (U := U.calling g mk a) (Vm.Alike.refl U.vm) h.2.1, ZBA.same (s := U) (U := U.calling g mk a) rfl h.2.2.1, NT.same (s := U) (U := U.calling g mk a) rfl h.2.2.2⟩
theorem PT.blind {av : List Value} : FrameBlind (va_Pc av (PT dC dI cB ad S)) := fun _ _ _ _ h => ⟨h.1, h.2.call⟩
theorem WX.ofT (h : PT dC dI cB ad S s) : WX dC dI ad S (AZ ad s.heap.size) s s.heap [] := ⟨h.1.1, h.1.2.1, h.1.2.2.weaken (fun _ _ _ h => Or.inl h), va_S.rf⟩
theorem TB.of (h : PT dC dI cB ad S s) : TB dC dI cB ad s.heap.size [] s s.heap := ⟨fun k q hk => by simp at hk, h.2.1, ⟨fun i j p q hi => by simp at hi, fun k q hk => by simp at hk⟩, Nat.le_refl _, h.2.2.1, h.1.lt⟩
theorem TB.toPB {U : State} (h : TB dC dI cB ad z G s H) (hX : WX dC dI ad S (AZ ad z) s H locs) (hU : U.heap = H) (hW : s.WarmedH U.vm) : PB dC dI cB z G U := by
  refine ⟨by rw [hU]; exact h.1, va_K.moved hW.alike h.2.1, h.2.2.1, ?_, ?_⟩
  · rw [hU]; exact Nat.le_trans h.2.2.2.1 hX.2.2.2.1
  · rw [hU]; exact ((h.2.2.2.2.1.kept hX.2.2.2.2.1).warm hW).narrow (fun _ hq => Or.inr hq)
theorem TB.preV {a ci : Nat} {q : vw_C} {fs As : List Value} (h : TB dC dI cB ad z G s H) (hX : WX dC dI ad S (AZ ad z) s H locs) (hc : vwCl[ci]? = some q) (k : Nat) (he : G[k]? = some (a, .inr (ci, fs))) : PreV s H q.1 a (va_Pc (Value.ref a :: As) (PB dC dI cB z G)) As :=
  ⟨PB.blind, va_recv h.2.1 h.1 (ci := ci) (q0 := k) hc he, fun _ hU hW => ⟨rfl, h.toPB hX hU hW⟩⟩
theorem TB.preS {As : List Value} (h : TB dC dI cB ad z G s H) (hX : WX dC dI ad S (AZ ad z) s H locs) : PreS s H (va_Pc As (PB dC dI cB z G)) As := ⟨PB.blind, fun _ hU hW => ⟨rfl, h.toPB hX hU hW⟩⟩
theorem TB.toPT {U : State} (h : TB dC dI cB ad z G s H) (hX : WX dC dI ad S (AZ ad z) s H locs) (hN : NT s) (hU : U.heap = H) (hW : s.WarmedH U.vm) : PT dC dI cB ad S U := by
  have hP := hX.P hU hW
  refine ⟨hP, va_K.moved hW.alike h.2.1, ?_, hN.warm hW⟩
  rw [hU]
  refine ((h.2.2.2.2.1.kept hX.2.2.2.2.1).warm hW).narrow (fun q hq => ?_)
  rcases hq with hq | hq
  · exact Or.inl hq
  · exact Or.inr (Nat.le_trans (Nat.le_trans h.2.2.2.1 hX.2.2.2.1) hq)
theorem TB.preRow {i : Nat} {As : List Value} (h : TB dC dI cB ad z G s H) (hX : WX dC dI ad S (AZ ad z) s H locs) (hN : NT s) (hi : i < 8) : PreV s H RX2 (ad (3 * i)) (va_Pc (Value.ref (ad (3 * i)) :: As) (PT dC dI cB ad S)) As :=
  ⟨PT.blind, (hX.preRow hi (As := As)).2.1, fun _ hU hW => ⟨rfl, h.toPT hX hN hU hW⟩⟩
theorem TB.preOrd {i : Nat} {As : List Value} (h : TB dC dI cB ad z G s H) (hX : WX dC dI ad S (AZ ad z) s H locs) (hN : NT s) (hi : i < 6) : PreV s H RX1 (ad (24 + 5 * i)) (va_Pc (Value.ref (ad (24 + 5 * i)) :: As) (PT dC dI cB ad S)) As :=
  ⟨PT.blind, (hX.preOrd hi (As := As)).2.1, fun _ hU hW => ⟨rfl, h.toPT hX hN hU hW⟩⟩
theorem TB.kept {H1 : Heap} (h : TB dC dI cB ad z G s H) (hk : ∀ q, q < H.size → ¬ AX ad q → H1[q]? = H[q]?) : TB dC dI cB ad z G s H1 :=
  ⟨h.1.kept (fun k q hq => hk q.1 ((h.1 k q hq).lt) (fun z9 => by have h1 := h.2.2.2.2.2 _ z9; have h2 : z ≤ q.1 := h.2.2.1.2 k q hq; omega)), h.2⟩
theorem WX.keptZ {H1 : Heap} {locs1 : List Loc} (hX : WX dC dI ad S (AZ ad z) s H locs) (hz : ∀ q, AX ad q → q < z) (hk : ∀ q, q < H.size → ¬ zB z q → H1[q]? = H[q]?) (hS : va_S (AZ ad z) s.heap H1 locs1) : WX dC dI ad S (AZ ad z) s H1 locs1 :=
  ⟨hX.1.kept (fun k q hq => hk q.1 ((hX.1 k q hq).lt) (fun z9 => by obtain ⟨hk6, e⟩ := wX_in k q hq; have := hz q.1 ⟨k, hk6, e⟩; have h2 : z ≤ q.1 := z9; omega)), hX.2.1, hX.2.2.1, hS⟩
end KT0
section KT
variable {p : Program} {l : Launch} {e : Env} {R : Room} {s : State} {m : MethodId} {args : Array Value} {below : List Frame} {meth : Method} {c : Code} {H : Heap} {locs : List Loc} {cells slots : Nat} {Q : State → Prop}
variable {cc : ByteArray} {pc : Nat} {ls : Array Slot} {rest st0 : List Value} {dC : Nat → ClassId} {dI : Nat → Nat → Nat} {cB : ClassId} {ad : Nat → Nat} {z : Nat} {G : va_W} {S : XS} {Ts : List Cond} {index : Nat} {own : String} {mc ms : Nat} {av : Array Value}
theorem kt_v {S1 : Type} {post : S1 → Prop} {Gf : S1 → va_W} (hr : va_Run p l e R s m args below meth c H locs cells slots mc ms (F0 m pc ls st0) rest (va_Qv post (fun u t => PB dC dI cB z (Gf u) t) (zB z) av) (zB z)) (hX : WX dC dI ad S (AZ ad z) s H locs) (hT : TB dC dI cB ad z G s H)
    (kk : ∀ (u : S1) (H1 : Heap) (locs1 : List Loc), post u → WX dC dI ad S (AZ ad z) s H1 locs1 → TB dC dI cB ad z (Gf u) s H1 → W p l e R s m args below meth c H1 locs1 (cells + mc) (slots + ms) Q (F0 m (pc + 3) ls rest)) : W p l e R s m args below meth c H locs cells slots Q (F0 m pc ls st0) :=
  va_callv hr hX.2.2.2 (fun _ _ h => Or.inr h) (fun _ h => Or.inr h) (fun u t H1 locs1 ht hvm hp hb1 _ hk hS => kk u H1 locs1 hp (hX.keptZ hT.2.2.2.2.2 hk hS) ⟨by rw [← ht]; exact hb1.1, hT.2.1, hb1.2.2.1, hT.2.2.2⟩)
theorem kt_r {S1 : Type} {post : S1 → Prop} {Gf : S1 → Nat → va_W} {ra : S1 → Nat → Prop} (hr : va_Run p l e R s m args below meth c H locs cells slots mc ms (F0 m pc ls st0) rest (va_Qr post (fun u q t => ra u q ∧ PB dC dI cB z (Gf u q) t) (zB z) av) (zB z)) (hX : WX dC dI ad S (AZ ad z) s H locs) (hT : TB dC dI cB ad z G s H)
    (kk : ∀ (u : S1) (q : Nat) (H1 : Heap) (locs1 : List Loc), post u → ra u q → WX dC dI ad S (AZ ad z) s H1 locs1 → TB dC dI cB ad z (Gf u q) s H1 → W p l e R s m args below meth c H1 locs1 (cells + mc) (slots + ms) Q (F0 m (pc + 3) ls (.ref q :: rest))) : W p l e R s m args below meth c H locs cells slots Q (F0 m pc ls st0) :=
  va_callr hr hX.2.2.2 (fun _ _ h => Or.inr h) (fun _ h => Or.inr h) (fun u q t H1 locs1 ht hvm hp hb1 _ hk hS => kk u q H1 locs1 hp hb1.1 (hX.keptZ hT.2.2.2.2.2 hk hS) ⟨by rw [← ht]; exact hb1.2.1, hT.2.1, hb1.2.2.2.1, hT.2.2.2⟩)
theorem kt_x {post : XS → Prop} (hr : va_Run p l e R s m args below meth c H locs cells slots 0 0 (F0 m pc ls st0) rest (va_Qv post (PX dC dI ad) (AX ad) av) (AX ad)) (hX : WX dC dI ad S (AZ ad z) s H locs) (hT : TB dC dI cB ad z G s H)
    (kk : ∀ (S1 : XS) (H1 : Heap) (locs1 : List Loc), post S1 → WX dC dI ad S1 (AZ ad z) s H1 locs1 → TB dC dI cB ad z G s H1 → W p l e R s m args below meth c H1 locs1 cells slots Q (F0 m (pc + 3) ls rest)) : W p l e R s m args below meth c H locs cells slots Q (F0 m pc ls st0) :=
  va_callv hr hX.2.2.2 (fun _ _ h => Or.inl h) (fun _ h => Or.inl h) (fun u t H1 locs1 ht hvm hp hB _ hk hS => kk u H1 locs1 hp (kx_back hX (fun _ h => Or.inl h) ht hvm hB hS) (hT.kept hk))
/-- a call that makes a text: the class's world as it was -/
theorem kt_t {post : XS → Prop} (hr : va_Run p l e R s m args below meth c H locs cells slots mc ms (F0 m pc ls st0) rest (va_Qr post (fun S1 _ t => PX dC dI ad S1 t) (AX ad) av) (AX ad)) (hX : WX dC dI ad S (AZ ad z) s H locs) (hT : TB dC dI cB ad z G s H)
    (kk : ∀ (S1 : XS) (q : Nat) (H1 : Heap) (locs1 : List Loc), post S1 → WX dC dI ad S1 (AZ ad z) s H1 locs1 → TB dC dI cB ad z G s H1 → W p l e R s m args below meth c H1 locs1 (cells + mc) (slots + ms) Q (F0 m (pc + 3) ls (.ref q :: rest))) : W p l e R s m args below meth c H locs cells slots Q (F0 m pc ls st0) :=
  va_callr hr hX.2.2.2 (fun _ _ h => Or.inl h) (fun _ h => Or.inl h) (fun u q t H1 locs1 ht hvm hp hB _ hk hS => kk u q H1 locs1 hp (kx_back hX (fun _ h => Or.inl h) ht hvm hB hS) (hT.kept hk))
theorem kt_new (hx : p.tables.exec = Jvm.exec) (hb : c.code = cc) (hts : ∀ w ∈ Ts, w.before args s = true) (hin : ∀ w ∈ u_ws RJ4 TJ4 4, w ∈ Ts) (hown : s.vm.findClass own = some m.cls) (hcl : (Cond.classLink own index RJ4).before args s = true) (hinst : (Cond.instantiable RJ4 4).before args s = true) (hini : (Cond.initialized RJ4).before args s = true) (hX : WX dC dI ad S (AZ ad z) s H locs) (hT : TB dC dI cB ad z [] s H) (hcells : cells + 1 ≤ R.cells) (hslots : slots + 4 ≤ R.slots) (hdg : decode cc pc = .ok (.new index, 3))
    (kk : ∀ (q : Nat) (H1 : Heap), WX dC dI ad S (AZ ad z) s H1 locs → TB dC dI cB ad z [(q, .inr (1, [.null, .int (nI 0), .int (nI 0), .int (nI 0)]))] s H1 → W p l e R s m args below meth c H1 locs (cells + 1) (slots + 4) Q (F0 m (pc + 3) ls (.ref q :: rest))) : W p l e R s m args below meth c H locs cells slots Q (F0 m pc ls rest) := by
  refine va_new (D := (dC, dI)) (ci := 1) (C := RJ4) (T := TJ4) (N := 4) (fs := [.null, .int (nI 0), .int (nI 0), .int (nI 0)]) hx hb hts hin tyJ4 tyJ4_ok hown hcl hinst hini hX.2.1 hX.1 hX.2.2.1 hX.2.2.2 (fun q hq => Or.inr (Nat.le_trans hT.2.2.2.1 hq)) rfl (fun j hj => by rcases (show j = 0 ∨ j = 1 ∨ j = 2 ∨ j = 3 by omega) with rfl | rfl | rfl | rfl <;> rfl) hcells hslots hdg (fun q H1 h1 h2 h3 => ?_)
  have hlen : (wX dC ad S).length = 60 := by rw [wX, List.length_map, List.length_range]
  have h60 : (wX dC ad S ++ [(q, (.inr (1, [.null, .int (nI 0), .int (nI 0), .int (nI 0)]) : va_E))])[60]? = some (q, .inr (1, [.null, .int (nI 0), .int (nI 0), .int (nI 0)])) := by rw [← hlen]; exact app_new
  have hq : zB z q := by
    rcases h2.2 60 _ h60 with ⟨k, hk, e⟩ | h
    · have hk' := app_old (x := (q, (.inr (1, [.null, .int (nI 0), .int (nI 0), .int (nI 0)]) : va_E))) (wX_get (dC := dC) (ad := ad) (S := S) hk)
      have := h2.1 60 k _ _ h60 hk' e
      omega
    · exact h
  refine kk q H1 ⟨fun k x hk => h1 k x (app_old hk), hX.2.1, hX.2.2.1, h3⟩ ⟨fun k x hk => ?_, hT.2.1, ⟨fun i j x y hi hj _ => ?_, fun k x hk => ?_⟩, hT.2.2.2⟩
  · have hz : k < 1 := (List.getElem?_eq_some_iff.mp hk).1
    obtain rfl : k = 0 := by omega
    cases hk
    exact h1 60 _ h60
  · have h1 : i < 1 := (List.getElem?_eq_some_iff.mp hi).1
    have h2 : j < 1 := (List.getElem?_eq_some_iff.mp hj).1
    omega
  · have hz : k < 1 := (List.getElem?_eq_some_iff.mp hk).1
    obtain rfl : k = 0 := by omega
    cases hk
    exact hq
theorem W.filt {g : JFrame} (kk : ∀ locs1 : List Loc, (∀ q ∈ locs1, q ∈ locs ∧ q.base < s.heap.size) → W p l e R s m args below meth c H locs1 cells slots Q g) : W p l e R s m args below meth c H locs cells slots Q g := by
  intro T hT X
  refine kk (locs.filter (fun q => q.base < s.heap.size)) (fun q hq => ?_) T hT ⟨X.admits, X.cas, X.clock, X.frames, X.room, X.hears, X.method, X.code, X.here, X.tail, X.warmed, X.limits, X.bytes, ?_⟩
  · have h := List.mem_filter.mp hq
    exact ⟨h.1, of_decide_eq_true h.2⟩
  · exact State.sameButNew.weaken X.same (fun x hx hl => List.mem_filter.mpr ⟨hx, decide_eq_true hl⟩) (Nat.le_refl _) (Nat.le_refl _)
end KT
theorem free_X {ad : Nat → Nat} {s : State} {H : Heap} {locs locs1 : List Loc} (hS : va_S (AZ ad s.heap.size) s.heap H locs) (h : ∀ q ∈ locs1, q ∈ locs ∧ q.base < s.heap.size) : ∀ q ∈ locs1, AX ad q.base := fun q hq => by
  obtain ⟨h1, h2⟩ := h q hq
  rcases hS.2.2 q h1 with h3 | h3
  · exact h3
  · exact absurd h2 (Nat.not_lt.mpr h3)
theorem va_F.X {ad : Nat → Nat} {s t : State} (h : va_F (AZ ad s.heap.size) s t) : va_F (AX ad) s t := ⟨h.1, fun q hq hA => h.2 q hq (fun z => z.elim hA (fun z2 => by have h3 : s.heap.size ≤ q := z2; omega))⟩
/-! growing: how much, and what it costs -/
theorem cap_b {q cp Q : Nat} (hq : q ≤ Q) (hc : cp ≤ 2 * Q) : sb_cap q cp ≤ 2 * Q := by
  unfold sb_cap
  split
  · exact hc
  · split <;> omega
theorem gm_pot (q cp : Nat) : gm q cp + 2 * cp ≤ 2 * sb_cap q cp := by
  unfold gm sb_cap
  split
  · omega
  · split <;> omega
section KTA
variable {p : Program} {l : Launch} {e : Env} {R : Room} {s : State} {m : MethodId} {args : Array Value} {below : List Frame} {meth : Method} {c : Code} {H : Heap} {locs : List Loc} {cells sl : Nat} {Q : State → Prop}
variable {pc : Nat} {ls : Array Slot} {rest st0 : List Value} {dC : Nat → ClassId} {dI : Nat → Nat → Nat} {cB : ClassId} {ad : Nat → Nat} {z : Nat} {S : XS} {av : Array Value} {a b n cp n2 : Nat} {f : Nat → Int32}
/-- an append, and what it costs -/
theorem kt_app (N : Nat) (hr : va_Run p l e R s m args below meth c H locs cells (sl + 2 * cp) 1 (gm n2 cp) (F0 m pc ls st0) rest (va_Qr (fun u : Nat × (Nat → Int32) => sb_Fit u.2) (fun u q9 t => q9 = a ∧ PB dC dI cB z [(a, eSB u.1 n2), (u.1, eBy cB (sb_cap n2 cp) u.2)] t) (zB z) av) (zB z)) (hX : WX dC dI ad S (AZ ad z) s H locs) (hT : TB dC dI cB ad z [(a, eSB b n), (b, eBy cB cp f)] s H) (hq : n2 ≤ N) (hc : cp ≤ 2 * N)
    (kk : ∀ (b2 c2 : Nat) (f2 : Nat → Int32) (H1 : Heap) (locs1 : List Loc), WX dC dI ad S (AZ ad z) s H1 locs1 → TB dC dI cB ad z [(a, eSB b2 n2), (b2, eBy cB c2 f2)] s H1 → sb_Fit f2 → n2 ≤ c2 → cp ≤ c2 → c2 ≤ 2 * N → W p l e R s m args below meth c H1 locs1 (cells + 1) (sl + 2 * c2) Q (F0 m (pc + 3) ls (.ref a :: rest))) : W p l e R s m args below meth c H locs cells (sl + 2 * cp) Q (F0 m pc ls st0) := by
  refine kt_r hr hX hT (fun u q9 H1 locs1 hu hq9 hX1 hT1 => ?_)
  rw [hq9]
  refine W.widen (Nat.le_refl _) (show sl + 2 * cp + gm n2 cp ≤ sl + 2 * sb_cap n2 cp by have := gm_pot n2 cp; omega) ?_
  exact kk u.1 (sb_cap n2 cp) u.2 H1 locs1 hX1 hT1 hu (sb_cap_ge _ _) (sb_cap_gem _ _) (cap_b hq hc)
def GapQ (n cp : Nat) (u : Nat × Nat × Nat × (Nat → Int32)) : Prop := u.2.1 ≤ n + 1 ∧ u.2.1 ≤ u.2.2.1 ∧ cp ≤ u.2.2.1 ∧ gm (n + 1) cp + 2 * cp ≤ 2 * u.2.2.1 ∧ (u.2.2.1 = cp ∨ u.2.2.1 = sb_cap (n + 1) cp) ∧ sb_Fit u.2.2.2
theorem kt_gap (N : Nat) (hr : va_Run p l e R s m args below meth c H locs cells (sl + 2 * cp) 1 (gm (n + 1) cp) (F0 m pc ls st0) rest (va_Qv (GapQ n cp) (fun u t => PB dC dI cB z [(a, eSB u.1 u.2.1), (u.1, eBy cB u.2.2.1 u.2.2.2)] t) (zB z) av) (zB z)) (hX : WX dC dI ad S (AZ ad z) s H locs) (hT : TB dC dI cB ad z [(a, eSB b n), (b, eBy cB cp f)] s H) (hq : n + 1 ≤ N) (hc : cp ≤ 2 * N)
    (kk : ∀ (b2 n2 c2 : Nat) (f2 : Nat → Int32) (H1 : Heap) (locs1 : List Loc), WX dC dI ad S (AZ ad z) s H1 locs1 → TB dC dI cB ad z [(a, eSB b2 n2), (b2, eBy cB c2 f2)] s H1 → sb_Fit f2 → n2 ≤ n + 1 → n2 ≤ c2 → cp ≤ c2 → c2 ≤ 2 * N → W p l e R s m args below meth c H1 locs1 (cells + 1) (sl + 2 * c2) Q (F0 m (pc + 3) ls rest)) : W p l e R s m args below meth c H locs cells (sl + 2 * cp) Q (F0 m pc ls st0) := by
  refine kt_v hr hX hT (fun u H1 locs1 hu hX1 hT1 => ?_)
  obtain ⟨h1, h2, h3, h4, h5, h6⟩ := hu
  refine W.widen (Nat.le_refl _) (show sl + 2 * cp + gm (n + 1) cp ≤ sl + 2 * u.2.2.1 by omega) ?_
  refine kk u.1 u.2.1 u.2.2.1 u.2.2.2 H1 locs1 hX1 hT1 h6 h1 h2 h3 ?_
  rcases h5 with h5 | h5
  · rw [h5]; exact hc
  · rw [h5]; exact cap_b hq hc
end KTA
theorem dg2 {v : Nat} (h : v < 100) : sb_dg v ≤ 2 := by unfold sb_dg; (repeat' split) <;> omega
theorem dg6 {v : Nat} (h : v < 1000000) : sb_dg v ≤ 6 := by unfold sb_dg; (repeat' split) <;> omega
theorem gap_0 {b n cp : Nat} {f : Nat → Int32} (h0 : n = 0) (hnm : n ≤ cp) (h1 : 1 ≤ cp) (hf : sb_Fit f) : GapQ n cp (b, n, cp, f) :=
  ⟨by show n ≤ n + 1; omega, hnm, Nat.le_refl _, by show gm (n + 1) cp + 2 * cp ≤ 2 * cp; rw [gm, if_pos (by omega)]; omega, Or.inl rfl, hf⟩
theorem gap_1 {b n cp : Nat} {f : Nat → Int32} (hf : sb_Fit f) : GapQ n cp (b, n + 1, sb_cap (n + 1) cp, f) :=
  ⟨Nat.le_refl _, sb_cap_ge _ _, sb_cap_gem _ _, gm_pot _ _, Or.inr rfl, hf⟩
set_option maxHeartbeats 4000000 in
set_option maxRecDepth 100000 in
theorem m_X4_appendGap (l : Launch) (dC : Nat → ClassId) (dI : Nat → Nat → Nat) (cB : ClassId) (z : Nat) (a b n cp : Nat) (f : Nat → Int32) (hnm : n ≤ cp) (hm : cp ≤ 65536) (hf : sb_Fit f) (h1 : 1 ≤ cp) (hcap : sb_cap (n + 1) cp ≤ 65536) : Met l yX4_appendGap wsX4_appendGap ({ frames := 6, cells := 1, slots := (gm (n + 1) cp), locals := 126 } : Room) (va_Pc [.ref a] (PB dC dI cB z [(a, eSB b n), (b, eBy cB cp f)])) (va_Qv (GapQ n cp) (fun u t => PB dC dI cB z [(a, eSB u.1 u.2.1), (u.1, eBy cB u.2.2.1 u.2.2.2)] t) (zB z)) 1 (gm (n + 1) cp) (zB z) := by
  refine ofWF (cc := cX4_appendGap) (maxL := 1) (ret := none) (by decide +kernel) rfl ?_
  intro p e s m args below meth c s₁ B hml hv
  obtain ⟨rfl, hPB⟩ := hv
  have hx := B.exec
  have hb := B.bytes
  have hr := B.returns
  have hts := atoms_spec (ws := wsX4_appendGap) B.pre
  have hown : s.vm.findClass RX4 = some m.cls := findClass_of_methodNamed B.named
  have hlocks := B.notSynchronized
  have hB := WB.of hPB
  have hl := lv_entry ([.ref a]) (n := 1) (Nat.le_of_ble_eq_true rfl)
  rw [lg_entry_eq]
  generalize (lg_sl ([.ref a]) ++ List.replicate (1 - (lg_sl ([.ref a])).length) Slot.unset).toArray = ls at hl ⊢
  have hl : lv_has ls 1 [(0, .ref a)] := hl
  show W p l e ({ frames := 6, cells := 1, slots := (gm (n + 1) cp), locals := 126 } : Room) s m ([.ref a]).toArray below meth c s.heap [] 0 0 (MQ below (va_Qv (GapQ n cp) (fun u t => PB dC dI cB z [(a, eSB u.1 u.2.1), (u.1, eBy cB u.2.2.1 u.2.2.2)] t) (zB z)) ([.ref a]).toArray s 1 (gm (n + 1) cp) (zB z)) (F0 m 0 ls [])
  refine lv_aload_n hx hb dX4_appendGap_0 rfl (lv_at hl 0 rfl) ?_
  refine kx_cr (v := nI n) (va_runV (As := []) (rest := []) ⟨hx, hb, hml, hown, hts⟩ (m_J4_length_8abf5 l dC dI cB z ([(a, eSB b n), (b, eBy cB cp f)]) a b n rfl) (cwV 0 hts gX4_appendGap_J4_length_8abf5 rfl rfl rfl hdJ4_length_8abf5_0 ⟨Nat.le_of_ble_eq_true rfl, Nat.le_of_ble_eq_true rfl⟩) (hB.preV (ci := 1) (q := (RJ4, TJ4, 4)) rfl 0 rfl) rfl rfl hl.1 rfl (lv_room (Nat.le_of_ble_eq_true rfl)) dX4_appendGap_1 ⟨Nat.le_of_ble_eq_true rfl, Nat.le_of_ble_eq_true rfl⟩) (fun _ h => h) ?_
  refine kn_if_le (tgt := 14) hx hb (by omega) dX4_appendGap_4 (by decide) (fun k_1 => ?_) (fun k_1 => ?_)
  · skip
    have h0 := k_1
    exact W.widen (k := 1) (n := (gm (n + 1) cp)) (by simp) (by simp) (W.vret hx hb hr (fun t9 ht9 hW9 => ⟨⟨(b, n, cp, f), rfl, (gap_0 h0 hnm h1 hf), hB.P ht9 hW9⟩, hB.F ht9⟩) hB.L dX4_appendGap_14)
  · skip
    have h0 := k_1
    refine lv_aload_n hx hb dX4_appendGap_7 rfl (lv_at hl 0 rfl) ?_
    refine lv_bipush (v := nI 32) hx hb dX4_appendGap_8 (by decide) ?_
    refine kb_r (va_runV (As := [.int (nI 32)]) (rest := []) ⟨hx, hb, hml, hown, hts⟩ (m_J4_append_cf468 l dC dI cB z a b n cp f (by omega) (by omega) hf 32 (by omega) hcap) (cwV 1 hts gX4_appendGap_J4_append_cf468 rfl rfl rfl hdJ4_append_cf468_1 ⟨Nat.le_of_ble_eq_true rfl, Nat.le_of_ble_eq_true rfl⟩) (hB.preV (ci := 1) (q := (RJ4, TJ4, 4)) rfl 0 rfl) rfl rfl hl.1 rfl (lv_room (Nat.le_of_ble_eq_true rfl)) dX4_appendGap_10 ⟨by simp, by simp⟩) hB (fun u q9 H locs hu hq hB => ?_)
    obtain ⟨b3, f3⟩ := u
    rw [hq]
    replace hB : WB dC dI cB z [(a, eSB b3 (n + 1)), (b3, eBy cB (sb_cap (n + 1) cp) f3)] s H locs := hB
    have hf : sb_Fit f3 := hu
    refine lv_pop hx hb dX4_appendGap_13 rfl ?_
    exact W.widen (k := 1) (n := (gm (n + 1) cp)) (by simp) (by simp) (W.vret hx hb hr (fun t9 ht9 hW9 => ⟨⟨(b3, n + 1, sb_cap (n + 1) cp, f3), rfl, (gap_1 hf), hB.P ht9 hW9⟩, hB.F ht9⟩) hB.L dX4_appendGap_14)
end
section
set_option maxHeartbeats 4000000 in
set_option maxRecDepth 100000 in
theorem m_X2_told (l : Launch) (dC : Nat → ClassId) (dI : Nat → Nat → Nat) (cB : ClassId) (ad : Nat → Nat) (S : XS) (i : Nat) (hi : i < 8) (hrow : rowOK (S.1 i)) : Met l yX2_told wsX2_told ({ frames := 7, cells := 80, slots := 900, locals := 151 } : Room) (va_Pc [.ref (ad (3 * i))] (PT dC dI cB ad S)) (va_Qr (fun S1 : XS => S1 = S) (fun S1 _ t => PX dC dI ad S1 t) (AX ad)) 80 900 (AX ad) := by
  refine Met.ofW (cc := cX2_told) (maxL := 3) (ret := (some (.object "java/lang/String"))) pl_X2 rfl ?_
  intro p e s m args below meth c s₁ B hml hv
  obtain ⟨rfl, hPT⟩ := hv
  have hx := B.exec
  have hb := B.bytes
  have hr := B.returns
  have hts := atoms_spec (ws := wsX2_told) B.pre
  have hown : s.vm.findClass RX2 = some m.cls := findClass_of_methodNamed B.named
  have hlocks := B.notSynchronized
  have hin2 : ∀ w ∈ u_ws RX2 TX2 3, w ∈ wsX2_told := tu 1322 (by decide +kernel) rfl
  have hinJ4 : ∀ w ∈ u_ws RJ4 TJ4 4, w ∈ wsX2_told := tu 1326 (by decide +kernel) rfl
  have hN : NT s := hPT.2.2.2
  have hX := WX.ofT hPT
  have hT := TB.of hPT
  have hl := lv_entry ([.ref (ad (3 * i))]) (n := 3) (Nat.le_of_ble_eq_true rfl)
  rw [lg_entry_eq]
  generalize (lg_sl ([.ref (ad (3 * i))]) ++ List.replicate (3 - (lg_sl ([.ref (ad (3 * i))])).length) Slot.unset).toArray = ls at hl ⊢
  have hl : lv_has ls 3 [(0, .ref (ad (3 * i)))] := hl
  show W p l e ({ frames := 7, cells := 80, slots := 900, locals := 151 } : Room) s m ([.ref (ad (3 * i))]).toArray below meth c s.heap [] 0 0 (MQ below (va_Qr (fun S1 : XS => S1 = S) (fun S1 _ t => PX dC dI ad S1 t) (AX ad)) ([.ref (ad (3 * i))]).toArray s 80 900 (AX ad)) (F0 m 0 ls [])
  have hn := hrow.1
  refine kt_new hx hb hts hinJ4 hown (hts (.classLink RX2 62 RJ4) (tm 432 (by decide +kernel) rfl)) (hts (.instantiable RJ4 4) (tm 374 (by decide +kernel) rfl)) (hts (.initialized RJ4) (tm 328 (by decide +kernel) rfl)) hX hT (by show _ ≤ 80; omega) (by show _ ≤ 900; omega) dX2_told_0 (fun a9 H hX hT => ?_)
  refine lv_dup hx hb dX2_told_3 rfl ?_
  refine kt_v (va_runI (As := []) (rest := [.ref a9]) ⟨hx, hb, hml, hown, hts⟩ (m_J4_init_da8c8 l dC dI cB s.heap.size a9) (cwI 0 hts gX2_told_J4_init_da8c8 rfl rfl rfl (hts (.initialized yJ4_init_da8c8.cls) (tm 328 (by decide +kernel) rfl)) (hts (.methodLink RX2 64 yJ4_init_da8c8) (tm 433 (by decide +kernel) rfl)) (hts (.instanceMethod yJ4_init_da8c8) (tm 414 (by decide +kernel) rfl)) rfl (by decide +kernel) ⟨Nat.le_of_ble_eq_true rfl, Nat.le_of_ble_eq_true rfl⟩) (hT.preS hX) rfl rfl hl.1 rfl (lv_room (Nat.le_of_ble_eq_true rfl)) dX2_told_4 ⟨by show _ ≤ 80; omega, by show _ ≤ 900; omega⟩) hX hT (fun b0 H locs _ hX hT => ?_)
  refine W.widen (k := 2) (n := 4 + 2 * 16) (by omega) (by omega) ?_
  have hf : sb_Fit (fun _ => 0) := sb_fit0
  refine lv_astore_n (lv' := [(1, .ref a9), (0, .ref (ad (3 * i)))]) hx hb dX2_told_7 rfl hl (by decide) rfl (fun ls hl => ?_)
  refine lv_iconst (v := nI 0) hx hb dX2_told_8 (by decide) ?_
  refine lv_istore_n (lv' := [(2, .int (nI 0)), (1, .ref a9), (0, .ref (ad (3 * i)))]) hx hb dX2_told_9 rfl hl (by decide) rfl (fun ls hl => ?_)
  have loop10 : ∀ (fuel : Nat) (k : Nat) (b1 n1 c1 : Nat) (f1 : Nat → Int32) (hk : k ≤ (S.1 i).2.2) (hn1 : n1 ≤ 10 * k) (hnc : n1 ≤ c1 ∧ 16 ≤ c1 ∧ c1 ≤ 340) (hf : sb_Fit f1) (H : Heap) (locs : List Loc), (S.1 i).2.2 - k < fuel → WX dC dI ad S (AZ ad s.heap.size) s H locs → TB dC dI cB ad s.heap.size [(a9, eSB b1 n1), (b1, eBy cB c1 f1)] s H → ∀ ls : Array Slot, lv_has ls 3 [(0, .ref (ad (3 * i))), (1, .ref a9), (2, .int (nI k))] → W p l e ({ frames := 7, cells := 80, slots := 900, locals := 151 } : Room) s m ([.ref (ad (3 * i))]).toArray below meth c H locs (2 + 4 * k) (4 + 2 * c1) (MQ below (va_Qr (fun S1 : XS => S1 = S) (fun S1 _ t => PX dC dI ad S1 t) (AX ad)) ([.ref (ad (3 * i))]).toArray s 80 900 (AX ad)) (F0 m 10 ls []) := by
    intro fuel
    induction fuel with
    | zero => intro k b1 n1 c1 f1 hk hn1 hnc hf H locs hf9; exact absurd hf9 (Nat.not_lt_zero _)
    | succ fuel ih10 =>
      intro k b1 n1 c1 f1 hk hn1 hnc hf H locs hf9 hX hT ls hl
      refine lv_iload_n hx hb dX2_told_10 rfl (lv_at hl 2 rfl) ?_
      refine lv_aload_n hx hb dX2_told_11 rfl (lv_at hl 0 rfl) ?_
      refine kr_gn (n := (S.1 i).2.2) hx hb hts hin2 hown hX (by omega) rfl (hts (.fieldLink RX2 18 "Orderlattice$Row" "many" "I") (tm 27 (by decide +kernel) rfl)) dX2_told_12 ?_
      refine kn_icmp_ge (tgt := 51) hx hb (by omega) (by omega) dX2_told_15 (by decide) (fun k_1 => ?_) (fun k_1 => ?_)
      · skip
        refine lv_aload_n hx hb dX2_told_51 rfl (lv_at hl 1 rfl) ?_
        refine kt_r (va_runV (As := []) (rest := []) ⟨hx, hb, hml, hown, hts⟩ (m_J4_toString_0e30d l dC dI cB s.heap.size a9 b1 n1 c1 f1 (by omega) (by omega) hf) (cwV 0 hts gX2_told_J4_toString_0e30d rfl rfl rfl hdJ4_toString_0e30d_0 ⟨Nat.le_of_ble_eq_true rfl, Nat.le_of_ble_eq_true rfl⟩) (hT.preV hX (ci := 1) (q := (RJ4, TJ4, 4)) rfl 0 rfl) rfl rfl hl.1 rfl (lv_room (Nat.le_of_ble_eq_true rfl)) dX2_told_52 ⟨by show _ ≤ 80; omega, by show _ ≤ 900; omega⟩) hX hT (fun _ q9 H locs _ _ hX hT => ?_)
        exact W.widen (k := 80) (n := 900) (by omega) (by omega) (W.filt (fun locs1 hl1 => W.aret (v := .ref q9) hx hb hr (Or.inl ⟨_, rfl⟩) (Or.inr ⟨_, rfl⟩) (fun t9 ht9 hW9 => ⟨⟨S, _, rfl, rfl, hX.P ht9 hW9⟩, (hX.2.2.2.F ht9).X⟩) (free_X hX.2.2.2 hl1) dX2_told_55))
      · skip
        have hv9 := hrow.2 k (by omega)
        have hd1 := dg2 (v := (S.1 i).1 k) (by omega)
        have hd2 := dg6 (v := (S.1 i).2.1 k) (by omega)
        refine lv_aload_n hx hb dX2_told_18 rfl (lv_at hl 1 rfl) ?_
        have hcb := cap_b (q := n1 + 1) (cp := c1) (Q := 170) (by omega) (by omega)
        refine kt_gap (sl := 4) 170 (va_runSN (As := [.ref a9]) (rest := []) ⟨hx, hb, hml, hown, hts⟩ (m_X4_appendGap l dC dI cB s.heap.size a9 b1 n1 c1 f1 (by omega) (by omega) hf (by omega) (by omega)) ⟨va_cnB 1 hts gX2_told_X4_appendGap_n65 rfl rfl rfl hN.1 (hts (.initialized RX4) (tm 421 (by decide +kernel) rfl)) (by decide +kernel) ⟨Nat.le_of_ble_eq_true rfl, Nat.le_of_ble_eq_true rfl⟩, hts (.static yX4_appendGap) (by decide +kernel), trivial⟩ (hT.preS hX) rfl rfl hl.1 rfl (lv_room (Nat.le_of_ble_eq_true rfl)) dX2_told_19 ⟨by show _ ≤ 80; omega, by show _ ≤ 900; have := gm_pot (n1 + 1) c1; omega⟩) hX hT (by omega) (by omega) (fun b_2 n_2 c_2 f_2 H locs hX hT hf _ _ _ _ => ?_)
        refine lv_aload_n hx hb dX2_told_22 rfl (lv_at hl 1 rfl) ?_
        refine lv_aload_n hx hb dX2_told_23 rfl (lv_at hl 0 rfl) ?_
        refine lv_iload_n hx hb dX2_told_24 rfl (lv_at hl 2 rfl) ?_
        refine kx_cr (v := nI (((S.1 i).1) k)) (va_runV (As := [.int (nI k)]) (rest := [.ref a9]) ⟨hx, hb, hml, hown, hts⟩ (m_X2_valueOn l dC dI ad S i k (by omega) (by omega)) (cwV 1 hts gX2_told_X2_valueOn rfl rfl rfl hdX2_valueOn_1 ⟨Nat.le_of_ble_eq_true rfl, Nat.le_of_ble_eq_true rfl⟩) (hX.preRow (by omega)) rfl rfl hl.1 rfl (lv_room (Nat.le_of_ble_eq_true rfl)) dX2_told_25 ⟨by show _ ≤ 80; omega, by show _ ≤ 900; omega⟩) (fun _ h => h) ?_
        have hcb := cap_b (q := n_2 + sb_dg (((S.1 i).1) k)) (cp := c_2) (Q := 170) (by omega) (by omega)
        refine kt_app (sl := 4) (n2 := n_2 + sb_dg (((S.1 i).1) k)) 170 (va_runV (As := [.int (nI (((S.1 i).1) k))]) (rest := []) ⟨hx, hb, hml, hown, hts⟩ (m_J4_append_bf812 l dC dI cB s.heap.size a9 b_2 n_2 c_2 f_2 (by omega) (by omega) hf (((S.1 i).1) k) (by omega) (by omega)) (cwV 1 hts gX2_told_J4_append_bf812 rfl rfl rfl hdJ4_append_bf812_1 ⟨Nat.le_of_ble_eq_true rfl, Nat.le_of_ble_eq_true rfl⟩) (hT.preV hX (ci := 1) (q := (RJ4, TJ4, 4)) rfl 0 rfl) rfl rfl hl.1 rfl (lv_room (Nat.le_of_ble_eq_true rfl)) dX2_told_28 ⟨by show _ ≤ 80; omega, by show _ ≤ 900; have := gm_pot (n_2 + sb_dg (((S.1 i).1) k)) c_2; omega⟩) hX hT (by omega) (by omega) (fun b_3 c_3 f_3 H locs hX hT hf _ _ _ => ?_)
        refine lv_bipush (v := nI 46) hx hb dX2_told_31 (by decide) ?_
        have hcb := cap_b (q := n_2 + sb_dg (((S.1 i).1) k) + 1) (cp := c_3) (Q := 170) (by omega) (by omega)
        refine kt_app (sl := 4) (n2 := n_2 + sb_dg (((S.1 i).1) k) + 1) 170 (va_runV (As := [.int (nI 46)]) (rest := []) ⟨hx, hb, hml, hown, hts⟩ (m_J4_append_cf468 l dC dI cB s.heap.size a9 b_3 (n_2 + sb_dg (((S.1 i).1) k)) c_3 f_3 (by omega) (by omega) hf 46 (by omega) (by omega)) (cwV 1 hts gX2_told_J4_append_cf468 rfl rfl rfl hdJ4_append_cf468_1 ⟨Nat.le_of_ble_eq_true rfl, Nat.le_of_ble_eq_true rfl⟩) (hT.preV hX (ci := 1) (q := (RJ4, TJ4, 4)) rfl 0 rfl) rfl rfl hl.1 rfl (lv_room (Nat.le_of_ble_eq_true rfl)) dX2_told_33 ⟨by show _ ≤ 80; omega, by show _ ≤ 900; have := gm_pot (n_2 + sb_dg (((S.1 i).1) k) + 1) c_3; omega⟩) hX hT (by omega) (by omega) (fun b_4 c_4 f_4 H locs hX hT hf _ _ _ => ?_)
        refine lv_aload_n hx hb dX2_told_36 rfl (lv_at hl 0 rfl) ?_
        refine lv_iload_n hx hb dX2_told_37 rfl (lv_at hl 2 rfl) ?_
        refine kx_cr (v := nI (((S.1 i).2.1) k)) (va_runV (As := [.int (nI k)]) (rest := [.ref a9]) ⟨hx, hb, hml, hown, hts⟩ (m_X2_markOn l dC dI ad S i k (by omega) (by omega)) (cwV 1 hts gX2_told_X2_markOn rfl rfl rfl hdX2_markOn_1 ⟨Nat.le_of_ble_eq_true rfl, Nat.le_of_ble_eq_true rfl⟩) (hX.preRow (by omega)) rfl rfl hl.1 rfl (lv_room (Nat.le_of_ble_eq_true rfl)) dX2_told_38 ⟨by show _ ≤ 80; omega, by show _ ≤ 900; omega⟩) (fun _ h => h) ?_
        have hcb := cap_b (q := n_2 + sb_dg (((S.1 i).1) k) + 1 + sb_dg (((S.1 i).2.1) k)) (cp := c_4) (Q := 170) (by omega) (by omega)
        refine kt_app (sl := 4) (n2 := n_2 + sb_dg (((S.1 i).1) k) + 1 + sb_dg (((S.1 i).2.1) k)) 170 (va_runV (As := [.int (nI (((S.1 i).2.1) k))]) (rest := []) ⟨hx, hb, hml, hown, hts⟩ (m_J4_append_bf812 l dC dI cB s.heap.size a9 b_4 (n_2 + sb_dg (((S.1 i).1) k) + 1) c_4 f_4 (by omega) (by omega) hf (((S.1 i).2.1) k) (by omega) (by omega)) (cwV 1 hts gX2_told_J4_append_bf812 rfl rfl rfl hdJ4_append_bf812_1 ⟨Nat.le_of_ble_eq_true rfl, Nat.le_of_ble_eq_true rfl⟩) (hT.preV hX (ci := 1) (q := (RJ4, TJ4, 4)) rfl 0 rfl) rfl rfl hl.1 rfl (lv_room (Nat.le_of_ble_eq_true rfl)) dX2_told_41 ⟨by show _ ≤ 80; omega, by show _ ≤ 900; have := gm_pot (n_2 + sb_dg (((S.1 i).1) k) + 1 + sb_dg (((S.1 i).2.1) k)) c_4; omega⟩) hX hT (by omega) (by omega) (fun b_5 c_5 f_5 H locs hX hT hf _ _ _ => ?_)
        refine lv_pop hx hb dX2_told_44 rfl ?_
        refine lv_iinc (v := nI (k + 1)) (lv' := [(2, .int (nI (k + 1))), (0, .ref (ad (3 * i))), (1, .ref a9)]) hx hb dX2_told_45 hl (k := 2) rfl (nI_1 k) (by decide) rfl (fun ls hl => ?_)
        refine lv_goto (tgt := 10) hx hb dX2_told_48 (by decide) ?_
        refine W.widen (k := 2 + 4 * (k + 1)) (n := 4 + 2 * c_5) (by omega) (by omega) ?_
        exact ih10  (k + 1) b_5 (n_2 + sb_dg (((S.1 i).1) k) + 1 + sb_dg (((S.1 i).2.1) k)) c_5 f_5 (by omega) (by omega) (by omega) hf _ _ (by omega) hX hT _ (lv_sub hl [1, 2, 0] rfl)
  refine W.widen (k := 2 + 4 * 0) (n := 4 + 2 * 16) (by omega) (by omega) ?_
  exact loop10 ((S.1 i).2.2 + 1) 0 b0 0 16 (fun _ => 0) (by omega) (by omega) (by omega) hf _ _ (by omega) hX hT _ (lv_sub hl [2, 1, 0] rfl)
set_option maxHeartbeats 4000000 in
set_option maxRecDepth 100000 in
theorem m_X1_told (l : Launch) (dC : Nat → ClassId) (dI : Nat → Nat → Nat) (cB : ClassId) (ad : Nat → Nat) (S : XS) (j : Nat) (hj : j < 6) (ho : ordOK (S.2.1 j)) : Met l yX1_told wsX1_told ({ frames := 7, cells := 80, slots := 900, locals := 151 } : Room) (va_Pc [.ref (ad (24 + 5 * j))] (PT dC dI cB ad S)) (va_Qr (fun S1 : XS => S1 = S) (fun S1 _ t => PX dC dI ad S1 t) (AX ad)) 80 900 (AX ad) := by
  refine Met.ofW (cc := cX1_told) (maxL := 3) (ret := (some (.object "java/lang/String"))) pl_X1 rfl ?_
  intro p e s m args below meth c s₁ B hml hv
  obtain ⟨rfl, hPT⟩ := hv
  have hx := B.exec
  have hb := B.bytes
  have hr := B.returns
  have hts := atoms_spec (ws := wsX1_told) B.pre
  have hown : s.vm.findClass RX1 = some m.cls := findClass_of_methodNamed B.named
  have hlocks := B.notSynchronized
  have hin1 : ∀ w ∈ u_ws RX1 TX1 6, w ∈ wsX1_told := tu 1324 (by decide +kernel) rfl
  have hinJ4 : ∀ w ∈ u_ws RJ4 TJ4 4, w ∈ wsX1_told := tu 1326 (by decide +kernel) rfl
  have hN : NT s := hPT.2.2.2
  have hX := WX.ofT hPT
  have hT := TB.of hPT
  have hl := lv_entry ([.ref (ad (24 + 5 * j))]) (n := 3) (Nat.le_of_ble_eq_true rfl)
  rw [lg_entry_eq]
  generalize (lg_sl ([.ref (ad (24 + 5 * j))]) ++ List.replicate (3 - (lg_sl ([.ref (ad (24 + 5 * j))])).length) Slot.unset).toArray = ls at hl ⊢
  have hl : lv_has ls 3 [(0, .ref (ad (24 + 5 * j)))] := hl
  show W p l e ({ frames := 7, cells := 80, slots := 900, locals := 151 } : Room) s m ([.ref (ad (24 + 5 * j))]).toArray below meth c s.heap [] 0 0 (MQ below (va_Qr (fun S1 : XS => S1 = S) (fun S1 _ t => PX dC dI ad S1 t) (AX ad)) ([.ref (ad (24 + 5 * j))]).toArray s 80 900 (AX ad)) (F0 m 0 ls [])
  have hn := ho.1.1
  refine kt_new hx hb hts hinJ4 hown (hts (.classLink RX1 62 RJ4) (tm 412 (by decide +kernel) rfl)) (hts (.instantiable RJ4 4) (tm 374 (by decide +kernel) rfl)) (hts (.initialized RJ4) (tm 328 (by decide +kernel) rfl)) hX hT (by show _ ≤ 80; omega) (by show _ ≤ 900; omega) dX1_told_0 (fun a9 H hX hT => ?_)
  refine lv_dup hx hb dX1_told_3 rfl ?_
  refine kt_v (va_runI (As := []) (rest := [.ref a9]) ⟨hx, hb, hml, hown, hts⟩ (m_J4_init_da8c8 l dC dI cB s.heap.size a9) (cwI 0 hts gX1_told_J4_init_da8c8 rfl rfl rfl (hts (.initialized yJ4_init_da8c8.cls) (tm 328 (by decide +kernel) rfl)) (hts (.methodLink RX1 64 yJ4_init_da8c8) (tm 413 (by decide +kernel) rfl)) (hts (.instanceMethod yJ4_init_da8c8) (tm 414 (by decide +kernel) rfl)) rfl (by decide +kernel) ⟨Nat.le_of_ble_eq_true rfl, Nat.le_of_ble_eq_true rfl⟩) (hT.preS hX) rfl rfl hl.1 rfl (lv_room (Nat.le_of_ble_eq_true rfl)) dX1_told_4 ⟨by show _ ≤ 80; omega, by show _ ≤ 900; omega⟩) hX hT (fun b0 H locs _ hX hT => ?_)
  refine W.widen (k := 2) (n := 4 + 2 * 16) (by omega) (by omega) ?_
  have hf : sb_Fit (fun _ => 0) := sb_fit0
  refine lv_astore_n (lv' := [(1, .ref a9), (0, .ref (ad (24 + 5 * j)))]) hx hb dX1_told_7 rfl hl (by decide) rfl (fun ls hl => ?_)
  refine lv_iconst (v := nI 0) hx hb dX1_told_8 (by decide) ?_
  refine lv_istore_n (lv' := [(2, .int (nI 0)), (1, .ref a9), (0, .ref (ad (24 + 5 * j)))]) hx hb dX1_told_9 rfl hl (by decide) rfl (fun ls hl => ?_)
  have loop10 : ∀ (fuel : Nat) (k : Nat) (b1 n1 c1 : Nat) (f1 : Nat → Int32) (hk : k ≤ (S.2.1 j).2.2.2.2.1) (hn1 : n1 ≤ 10 * k) (hnc : n1 ≤ c1 ∧ 16 ≤ c1 ∧ c1 ≤ 340) (hf : sb_Fit f1) (H : Heap) (locs : List Loc), (S.2.1 j).2.2.2.2.1 - k < fuel → WX dC dI ad S (AZ ad s.heap.size) s H locs → TB dC dI cB ad s.heap.size [(a9, eSB b1 n1), (b1, eBy cB c1 f1)] s H → ∀ ls : Array Slot, lv_has ls 3 [(0, .ref (ad (24 + 5 * j))), (1, .ref a9), (2, .int (nI k))] → W p l e ({ frames := 7, cells := 80, slots := 900, locals := 151 } : Room) s m ([.ref (ad (24 + 5 * j))]).toArray below meth c H locs (2 + 4 * k) (4 + 2 * c1) (MQ below (va_Qr (fun S1 : XS => S1 = S) (fun S1 _ t => PX dC dI ad S1 t) (AX ad)) ([.ref (ad (24 + 5 * j))]).toArray s 80 900 (AX ad)) (F0 m 10 ls []) := by
    intro fuel
    induction fuel with
    | zero => intro k b1 n1 c1 f1 hk hn1 hnc hf H locs hf9; exact absurd hf9 (Nat.not_lt_zero _)
    | succ fuel ih10 =>
      intro k b1 n1 c1 f1 hk hn1 hnc hf H locs hf9 hX hT ls hl
      refine lv_iload_n hx hb dX1_told_10 rfl (lv_at hl 2 rfl) ?_
      refine lv_aload_n hx hb dX1_told_11 rfl (lv_at hl 0 rfl) ?_
      refine ko_gn (n := (S.2.1 j).2.2.2.2.1) hx hb hts hin1 hown hX (by omega) rfl (hts (.fieldLink RX1 26 "Orderlattice$Order" "many" "I") (tm 37 (by decide +kernel) rfl)) dX1_told_12 ?_
      refine kn_icmp_ge (tgt := 56) hx hb (by omega) (by omega) dX1_told_15 (by decide) (fun k_1 => ?_) (fun k_1 => ?_)
      · skip
        refine lv_aload_n hx hb dX1_told_56 rfl (lv_at hl 1 rfl) ?_
        refine kt_r (va_runV (As := []) (rest := []) ⟨hx, hb, hml, hown, hts⟩ (m_J4_toString_0e30d l dC dI cB s.heap.size a9 b1 n1 c1 f1 (by omega) (by omega) hf) (cwV 0 hts gX1_told_J4_toString_0e30d rfl rfl rfl hdJ4_toString_0e30d_0 ⟨Nat.le_of_ble_eq_true rfl, Nat.le_of_ble_eq_true rfl⟩) (hT.preV hX (ci := 1) (q := (RJ4, TJ4, 4)) rfl 0 rfl) rfl rfl hl.1 rfl (lv_room (Nat.le_of_ble_eq_true rfl)) dX1_told_57 ⟨by show _ ≤ 80; omega, by show _ ≤ 900; omega⟩) hX hT (fun _ q9 H locs _ _ hX hT => ?_)
        exact W.widen (k := 80) (n := 900) (by omega) (by omega) (W.filt (fun locs1 hl1 => W.aret (v := .ref q9) hx hb hr (Or.inl ⟨_, rfl⟩) (Or.inr ⟨_, rfl⟩) (fun t9 ht9 hW9 => ⟨⟨S, _, rfl, rfl, hX.P ht9 hW9⟩, (hX.2.2.2.F ht9).X⟩) (free_X hX.2.2.2 hl1) dX1_told_60))
      · skip
        have hk9 := ho.1.2 k (by omega)
        have hd1 := dg2 (v := (S.2.1 j).1 k) (by omega)
        refine lv_aload_n hx hb dX1_told_18 rfl (lv_at hl 1 rfl) ?_
        have hcb := cap_b (q := n1 + 1) (cp := c1) (Q := 170) (by omega) (by omega)
        refine kt_gap (sl := 4) 170 (va_runSN (As := [.ref a9]) (rest := []) ⟨hx, hb, hml, hown, hts⟩ (m_X4_appendGap l dC dI cB s.heap.size a9 b1 n1 c1 f1 (by omega) (by omega) hf (by omega) (by omega)) ⟨va_cnB 1 hts gX1_told_X4_appendGap_n65 rfl rfl rfl hN.2 (hts (.initialized RX4) (tm 421 (by decide +kernel) rfl)) (by decide +kernel) ⟨Nat.le_of_ble_eq_true rfl, Nat.le_of_ble_eq_true rfl⟩, hts (.static yX4_appendGap) (by decide +kernel), trivial⟩ (hT.preS hX) rfl rfl hl.1 rfl (lv_room (Nat.le_of_ble_eq_true rfl)) dX1_told_19 ⟨by show _ ≤ 80; omega, by show _ ≤ 900; have := gm_pot (n1 + 1) c1; omega⟩) hX hT (by omega) (by omega) (fun b_2 n_2 c_2 f_2 H locs hX hT hf _ _ _ _ => ?_)
        refine lv_aload_n hx hb dX1_told_22 rfl (lv_at hl 1 rfl) ?_
        refine lv_aload_n hx hb dX1_told_23 rfl (lv_at hl 0 rfl) ?_
        refine lv_iload_n hx hb dX1_told_24 rfl (lv_at hl 2 rfl) ?_
        refine kx_cr (v := nI (((S.2.1 j).1) k)) (va_runV (As := [.int (nI k)]) (rest := [.ref a9]) ⟨hx, hb, hml, hown, hts⟩ (m_X1_keyOn l dC dI ad S j k (by omega) (by omega)) (cwV 1 hts gX1_told_X1_keyOn rfl rfl rfl hdX1_keyOn_1 ⟨Nat.le_of_ble_eq_true rfl, Nat.le_of_ble_eq_true rfl⟩) (hX.preOrd (by omega)) rfl rfl hl.1 rfl (lv_room (Nat.le_of_ble_eq_true rfl)) dX1_told_25 ⟨by show _ ≤ 80; omega, by show _ ≤ 900; omega⟩) (fun _ h => h) ?_
        have hcb := cap_b (q := n_2 + sb_dg (((S.2.1 j).1) k)) (cp := c_2) (Q := 170) (by omega) (by omega)
        refine kt_app (sl := 4) (n2 := n_2 + sb_dg (((S.2.1 j).1) k)) 170 (va_runV (As := [.int (nI (((S.2.1 j).1) k))]) (rest := []) ⟨hx, hb, hml, hown, hts⟩ (m_J4_append_bf812 l dC dI cB s.heap.size a9 b_2 n_2 c_2 f_2 (by omega) (by omega) hf (((S.2.1 j).1) k) (by omega) (by omega)) (cwV 1 hts gX1_told_J4_append_bf812 rfl rfl rfl hdJ4_append_bf812_1 ⟨Nat.le_of_ble_eq_true rfl, Nat.le_of_ble_eq_true rfl⟩) (hT.preV hX (ci := 1) (q := (RJ4, TJ4, 4)) rfl 0 rfl) rfl rfl hl.1 rfl (lv_room (Nat.le_of_ble_eq_true rfl)) dX1_told_28 ⟨by show _ ≤ 80; omega, by show _ ≤ 900; have := gm_pot (n_2 + sb_dg (((S.2.1 j).1) k)) c_2; omega⟩) hX hT (by omega) (by omega) (fun b_3 c_3 f_3 H locs hX hT hf _ _ _ => ?_)
        refine lv_aload_n hx hb dX1_told_31 rfl (lv_at hl 0 rfl) ?_
        refine lv_iload_n hx hb dX1_told_32 rfl (lv_at hl 2 rfl) ?_
        refine kx_cr (v := bI (((S.2.1 j).2.1) k)) (va_runV (As := [.int (nI k)]) (rest := [.ref a9]) ⟨hx, hb, hml, hown, hts⟩ (m_X1_isDownOn l dC dI ad S j k (by omega) (by omega)) (cwV 1 hts gX1_told_X1_isDownOn rfl rfl rfl hdX1_isDownOn_1 ⟨Nat.le_of_ble_eq_true rfl, Nat.le_of_ble_eq_true rfl⟩) (hX.preOrd (by omega)) rfl rfl hl.1 rfl (lv_room (Nat.le_of_ble_eq_true rfl)) dX1_told_33 ⟨by show _ ≤ 80; omega, by show _ ≤ 900; omega⟩) (fun _ h => h) ?_
        refine kb_if_eq (tgt := 44) hx hb dX1_told_36 (by decide) (fun k_4 => ?_) (fun k_4 => ?_)
        · skip
          refine lv_bipush (v := nI 43) hx hb dX1_told_44 (by decide) ?_
          have hcb := cap_b (q := n_2 + sb_dg (((S.2.1 j).1) k) + 1) (cp := c_3) (Q := 170) (by omega) (by omega)
          refine kt_app (sl := 4) (n2 := n_2 + sb_dg (((S.2.1 j).1) k) + 1) 170 (va_runV (As := [.int (nI 43)]) (rest := []) ⟨hx, hb, hml, hown, hts⟩ (m_J4_append_cf468 l dC dI cB s.heap.size a9 b_3 (n_2 + sb_dg (((S.2.1 j).1) k)) c_3 f_3 (by omega) (by omega) hf 43 (by omega) (by omega)) (cwV 1 hts gX1_told_J4_append_cf468 rfl rfl rfl hdJ4_append_cf468_1 ⟨Nat.le_of_ble_eq_true rfl, Nat.le_of_ble_eq_true rfl⟩) (hT.preV hX (ci := 1) (q := (RJ4, TJ4, 4)) rfl 0 rfl) rfl rfl hl.1 rfl (lv_room (Nat.le_of_ble_eq_true rfl)) dX1_told_46 ⟨by show _ ≤ 80; omega, by show _ ≤ 900; have := gm_pot (n_2 + sb_dg (((S.2.1 j).1) k) + 1) c_3; omega⟩) hX hT (by omega) (by omega) (fun b_5 c_5 f_5 H locs hX hT hf _ _ _ => ?_)
          refine lv_pop hx hb dX1_told_49 rfl ?_
          refine lv_iinc (v := nI (k + 1)) (lv' := [(2, .int (nI (k + 1))), (0, .ref (ad (24 + 5 * j))), (1, .ref a9)]) hx hb dX1_told_50 hl (k := 2) rfl (nI_1 k) (by decide) rfl (fun ls hl => ?_)
          refine lv_goto (tgt := 10) hx hb dX1_told_53 (by decide) ?_
          refine W.widen (k := 2 + 4 * (k + 1)) (n := 4 + 2 * c_5) (by omega) (by omega) ?_
          exact ih10  (k + 1) b_5 (n_2 + sb_dg (((S.2.1 j).1) k) + 1) c_5 f_5 (by omega) (by omega) (by omega) hf _ _ (by omega) hX hT _ (lv_sub hl [1, 2, 0] rfl)
        · skip
          refine lv_bipush (v := nI 45) hx hb dX1_told_39 (by decide) ?_
          refine lv_goto (tgt := 46) hx hb dX1_told_41 (by decide) ?_
          have hcb := cap_b (q := n_2 + sb_dg (((S.2.1 j).1) k) + 1) (cp := c_3) (Q := 170) (by omega) (by omega)
          refine kt_app (sl := 4) (n2 := n_2 + sb_dg (((S.2.1 j).1) k) + 1) 170 (va_runV (As := [.int (nI 45)]) (rest := []) ⟨hx, hb, hml, hown, hts⟩ (m_J4_append_cf468 l dC dI cB s.heap.size a9 b_3 (n_2 + sb_dg (((S.2.1 j).1) k)) c_3 f_3 (by omega) (by omega) hf 45 (by omega) (by omega)) (cwV 1 hts gX1_told_J4_append_cf468 rfl rfl rfl hdJ4_append_cf468_1 ⟨Nat.le_of_ble_eq_true rfl, Nat.le_of_ble_eq_true rfl⟩) (hT.preV hX (ci := 1) (q := (RJ4, TJ4, 4)) rfl 0 rfl) rfl rfl hl.1 rfl (lv_room (Nat.le_of_ble_eq_true rfl)) dX1_told_46 ⟨by show _ ≤ 80; omega, by show _ ≤ 900; have := gm_pot (n_2 + sb_dg (((S.2.1 j).1) k) + 1) c_3; omega⟩) hX hT (by omega) (by omega) (fun b_6 c_6 f_6 H locs hX hT hf _ _ _ => ?_)
          refine lv_pop hx hb dX1_told_49 rfl ?_
          refine lv_iinc (v := nI (k + 1)) (lv' := [(2, .int (nI (k + 1))), (0, .ref (ad (24 + 5 * j))), (1, .ref a9)]) hx hb dX1_told_50 hl (k := 2) rfl (nI_1 k) (by decide) rfl (fun ls hl => ?_)
          refine lv_goto (tgt := 10) hx hb dX1_told_53 (by decide) ?_
          refine W.widen (k := 2 + 4 * (k + 1)) (n := 4 + 2 * c_6) (by omega) (by omega) ?_
          exact ih10  (k + 1) b_6 (n_2 + sb_dg (((S.2.1 j).1) k) + 1) c_6 f_6 (by omega) (by omega) (by omega) hf _ _ (by omega) hX hT _ (lv_sub hl [1, 2, 0] rfl)
  refine W.widen (k := 2 + 4 * 0) (n := 4 + 2 * 16) (by omega) (by omega) ?_
  exact loop10 ((S.2.1 j).2.2.2.2.1 + 1) 0 b0 0 16 (fun _ => 0) (by omega) (by omega) (by omega) hf _ _ (by omega) hX hT _ (lv_sub hl [2, 1, 0] rfl)
set_option maxHeartbeats 4000000 in
set_option maxRecDepth 100000 in
theorem m_X4_text (l : Launch) (dC : Nat → ClassId) (dI : Nat → Nat → Nat) (cB : ClassId) (ad : Nat → Nat) (S : XS) (i : Nat) (hi : i < 3) (hI : InvX S) : Met l yX4_text wsX4_text ({ frames := 8, cells := 80, slots := 900, locals := 173 } : Room) (va_Pc [.ref (ad 57), .int (nI i)] (PT dC dI cB ad S)) (va_Qr (fun S1 : XS => S1 = S) (fun S1 _ t => PX dC dI ad S1 t) (AX ad)) 80 900 (AX ad) := by
  refine Met.ofW (cc := cX4_text) (maxL := 2) (ret := (some (.object "java/lang/String"))) pl_X4 rfl ?_
  intro p e s m args below meth c s₁ B hml hv
  obtain ⟨rfl, hPT⟩ := hv
  have hx := B.exec
  have hb := B.bytes
  have hr := B.returns
  have hts := atoms_spec (ws := wsX4_text) B.pre
  have hown : s.vm.findClass RX4 = some m.cls := findClass_of_methodNamed B.named
  have hlocks := B.notSynchronized
  have hN : NT s := hPT.2.2.2
  have hX := WX.ofT hPT
  have hT := TB.of hPT
  have hl := lv_entry ([.ref (ad 57), .int (nI i)]) (n := 2) (Nat.le_of_ble_eq_true rfl)
  rw [lg_entry_eq]
  generalize (lg_sl ([.ref (ad 57), .int (nI i)]) ++ List.replicate (2 - (lg_sl ([.ref (ad 57), .int (nI i)])).length) Slot.unset).toArray = ls at hl ⊢
  have hl : lv_has ls 2 [(0, .ref (ad 57)), (1, .int (nI i))] := hl
  show W p l e ({ frames := 8, cells := 80, slots := 900, locals := 173 } : Room) s m ([.ref (ad 57), .int (nI i)]).toArray below meth c s.heap [] 0 0 (MQ below (va_Qr (fun S1 : XS => S1 = S) (fun S1 _ t => PX dC dI ad S1 t) (AX ad)) ([.ref (ad 57), .int (nI i)]).toArray s 80 900 (AX ad)) (F0 m 0 ls [])
  refine lv_aload_n hx hb dX4_text_0 rfl (lv_at hl 0 rfl) ?_
  refine lv_iload_n hx hb dX4_text_1 rfl (lv_at hl 1 rfl) ?_
  refine va_csr (va_Run.run (va_runV (As := [.int (nI i)]) (rest := []) ⟨hx, hb, hml, hown, hts⟩ (m_X4_rowAt l dC dI ad S i (by omega)) (cwV 1 hts gX4_text_X4_rowAt rfl rfl rfl hdX4_rowAt_1 ⟨Nat.le_of_ble_eq_true rfl, Nat.le_of_ble_eq_true rfl⟩) (hX.preTop 57 6 (by decide) (by decide) rfl rfl) rfl rfl hl.1 rfl (lv_room (Nat.le_of_ble_eq_true rfl)) dX4_text_2 ⟨by show _ ≤ 80; omega, by show _ ≤ 900; omega⟩)) (fun k_ hk_ => ?_)
  rw [hk_]
  refine kt_t (va_runV (As := []) (rest := []) ⟨hx, hb, hml, hown, hts⟩ (m_X2_told l dC dI cB ad S i (by omega) (hI.1 i (by omega))) (cwV 0 hts gX4_text_X2_told rfl rfl rfl hdX2_told_0 ⟨Nat.le_of_ble_eq_true rfl, Nat.le_of_ble_eq_true rfl⟩) (hT.preRow hX hN (by omega)) rfl rfl hl.1 rfl (lv_room (Nat.le_of_ble_eq_true rfl)) dX4_text_5 ⟨by show 0 + _ ≤ _; simp, by show 0 + _ ≤ _; simp⟩) hX hT (fun S1 q9 H locs hS9 hX hT => ?_)
  rw [hS9] at hX
  exact W.widen (k := 80) (n := 900) (by omega) (by omega) (W.filt (fun locs1 hl1 => W.aret (v := .ref q9) hx hb hr (Or.inl ⟨_, rfl⟩) (Or.inr ⟨_, rfl⟩) (fun t9 ht9 hW9 => ⟨⟨S, _, rfl, rfl, hX.P ht9 hW9⟩, (hX.2.2.2.F ht9).X⟩) (free_X hX.2.2.2 hl1) dX4_text_8))
set_option maxHeartbeats 4000000 in
set_option maxRecDepth 100000 in
theorem m_X4_orderText (l : Launch) (dC : Nat → ClassId) (dI : Nat → Nat → Nat) (cB : ClassId) (ad : Nat → Nat) (S : XS) (j : Nat) (hj : j < 4) (hI : InvX S) : Met l yX4_orderText wsX4_orderText ({ frames := 8, cells := 80, slots := 900, locals := 173 } : Room) (va_Pc [.ref (ad 57), .int (nI j)] (PT dC dI cB ad S)) (va_Qr (fun S1 : XS => S1 = S) (fun S1 _ t => PX dC dI ad S1 t) (AX ad)) 80 900 (AX ad) := by
  refine Met.ofW (cc := cX4_orderText) (maxL := 2) (ret := (some (.object "java/lang/String"))) pl_X4 rfl ?_
  intro p e s m args below meth c s₁ B hml hv
  obtain ⟨rfl, hPT⟩ := hv
  have hx := B.exec
  have hb := B.bytes
  have hr := B.returns
  have hts := atoms_spec (ws := wsX4_orderText) B.pre
  have hown : s.vm.findClass RX4 = some m.cls := findClass_of_methodNamed B.named
  have hlocks := B.notSynchronized
  have hN : NT s := hPT.2.2.2
  have hX := WX.ofT hPT
  have hT := TB.of hPT
  have hl := lv_entry ([.ref (ad 57), .int (nI j)]) (n := 2) (Nat.le_of_ble_eq_true rfl)
  rw [lg_entry_eq]
  generalize (lg_sl ([.ref (ad 57), .int (nI j)]) ++ List.replicate (2 - (lg_sl ([.ref (ad 57), .int (nI j)])).length) Slot.unset).toArray = ls at hl ⊢
  have hl : lv_has ls 2 [(0, .ref (ad 57)), (1, .int (nI j))] := hl
  show W p l e ({ frames := 8, cells := 80, slots := 900, locals := 173 } : Room) s m ([.ref (ad 57), .int (nI j)]).toArray below meth c s.heap [] 0 0 (MQ below (va_Qr (fun S1 : XS => S1 = S) (fun S1 _ t => PX dC dI ad S1 t) (AX ad)) ([.ref (ad 57), .int (nI j)]).toArray s 80 900 (AX ad)) (F0 m 0 ls [])
  refine lv_aload_n hx hb dX4_orderText_0 rfl (lv_at hl 0 rfl) ?_
  refine lv_iload_n hx hb dX4_orderText_1 rfl (lv_at hl 1 rfl) ?_
  refine va_csr (va_Run.run (va_runV (As := [.int (nI j)]) (rest := []) ⟨hx, hb, hml, hown, hts⟩ (m_X4_orderAt l dC dI ad S j (by omega)) (cwV 1 hts gX4_orderText_X4_orderAt rfl rfl rfl hdX4_orderAt_1 ⟨Nat.le_of_ble_eq_true rfl, Nat.le_of_ble_eq_true rfl⟩) (hX.preTop 57 6 (by decide) (by decide) rfl rfl) rfl rfl hl.1 rfl (lv_room (Nat.le_of_ble_eq_true rfl)) dX4_orderText_2 ⟨by show _ ≤ 80; omega, by show _ ≤ 900; omega⟩)) (fun k_ hk_ => ?_)
  rw [hk_]
  refine kt_t (va_runV (As := []) (rest := []) ⟨hx, hb, hml, hown, hts⟩ (m_X1_told l dC dI cB ad S j (by omega) (hI.2 j (by omega))) (cwV 0 hts gX4_orderText_X1_told rfl rfl rfl hdX1_told_0 ⟨Nat.le_of_ble_eq_true rfl, Nat.le_of_ble_eq_true rfl⟩) (hT.preOrd hX hN (by omega)) rfl rfl hl.1 rfl (lv_room (Nat.le_of_ble_eq_true rfl)) dX4_orderText_5 ⟨by show 0 + _ ≤ _; simp, by show 0 + _ ≤ _; simp⟩) hX hT (fun S1 q9 H locs hS9 hX hT => ?_)
  rw [hS9] at hX
  exact W.widen (k := 80) (n := 900) (by omega) (by omega) (W.filt (fun locs1 hl1 => W.aret (v := .ref q9) hx hb hr (Or.inl ⟨_, rfl⟩) (Or.inr ⟨_, rfl⟩) (fun t9 ht9 hW9 => ⟨⟨S, _, rfl, rfl, hX.P ht9 hW9⟩, (hX.2.2.2.F ht9).X⟩) (free_X hX.2.2.2 hl1) dX4_orderText_8))
end
section
/-! lots and ranks told -/
def PL (dC : Nat → ClassId) (dI : Nat → Nat → Nat) (cB : ClassId) (ad : Nat → Nat) (S : XS) (z a b n cp : Nat) (f : Nat → Int32) (U : State) : Prop := PX dC dI ad S U ∧ PB dC dI cB z [(a, eSB b n), (b, eBy cB cp f)] U ∧ ZBA (AZ ad z) U U.heap ∧ (∀ q, AX ad q → q < z) ∧ NT U
section KL
variable {dC : Nat → ClassId} {dI : Nat → Nat → Nat} {cB : ClassId} {ad : Nat → Nat} {z a b n cp : Nat} {f : Nat → Int32} {S : XS} {s : State} {H : Heap} {locs : List Loc}
theorem PL.call {U : State} {g : JFrame} {mk : MethodId} {av : Array Value} (h : PL dC dI cB ad S z a b n cp f U) : PL dC dI cB ad S z a b n cp f (U.calling g mk av) := ⟨h.1.call, h.2.1.call, ZBA.same (s := U) (U := U.calling g mk av) rfl h.2.2.1, h.2.2.2.1, NT.same (s := U) (U := U.calling g mk av) rfl h.2.2.2.2⟩
theorem PL.blind {av : List Value} : FrameBlind (va_Pc av (PL dC dI cB ad S z a b n cp f)) := fun _ _ _ _ h => ⟨h.1, h.2.call⟩
theorem WX.ofL (h : PL dC dI cB ad S z a b n cp f s) : WX dC dI ad S (AZ ad z) s s.heap [] := ⟨h.1.1, h.1.2.1, h.1.2.2.weaken (fun _ _ _ h => Or.inl h), va_S.rf⟩
theorem TB.ofL (h : PL dC dI cB ad S z a b n cp f s) : TB dC dI cB ad z [(a, eSB b n), (b, eBy cB cp f)] s s.heap := ⟨h.2.1.1, h.2.1.2.1, h.2.1.2.2.1, h.2.1.2.2.2.1, h.2.2.1, h.2.2.2.1⟩
theorem TB.preLot {i : Nat} {As : List Value} (h : TB dC dI cB ad z [(a, eSB b n), (b, eBy cB cp f)] s H) (hX : WX dC dI ad S (AZ ad z) s H locs) (hN : NT s) (hi : i < 8) : PreV s H RX2 (ad (3 * i)) (va_Pc (Value.ref (ad (3 * i)) :: As) (PL dC dI cB ad S z a b n cp f)) As :=
  ⟨PL.blind, (hX.preRow hi (As := As)).2.1, fun _ hU hW => ⟨rfl, hX.P hU hW, h.toPB hX hU hW, by rw [hU]; exact (h.2.2.2.2.1.kept hX.2.2.2.2.1).warm hW, h.2.2.2.2.2, hN.warm hW⟩⟩
end KL
section KL2
variable {p : Program} {l : Launch} {e : Env} {R : Room} {s : State} {m : MethodId} {args : Array Value} {below : List Frame} {meth : Method} {c : Code} {H : Heap} {locs : List Loc} {cells slots : Nat} {Q : State → Prop}
variable {pc : Nat} {ls : Array Slot} {rest st0 : List Value} {dC : Nat → ClassId} {dI : Nat → Nat → Nat} {cB : ClassId} {ad : Nat → Nat} {z : Nat} {G : va_W} {S : XS} {mc ms : Nat} {av : Array Value}
theorem kt_l {S1 : Type} {post : S1 → Prop} {Gf : S1 → va_W} (hr : va_Run p l e R s m args below meth c H locs cells slots mc ms (F0 m pc ls st0) rest (va_Qv post (fun u t => PX dC dI ad S t ∧ PB dC dI cB z (Gf u) t) (AZ ad z) av) (AZ ad z)) (hX : WX dC dI ad S (AZ ad z) s H locs) (hT : TB dC dI cB ad z G s H)
    (kk : ∀ (u : S1) (H1 : Heap) (locs1 : List Loc), post u → WX dC dI ad S (AZ ad z) s H1 locs1 → TB dC dI cB ad z (Gf u) s H1 → W p l e R s m args below meth c H1 locs1 (cells + mc) (slots + ms) Q (F0 m (pc + 3) ls rest)) : W p l e R s m args below meth c H locs cells slots Q (F0 m pc ls st0) :=
  va_callv hr hX.2.2.2 (fun _ _ h => h) (fun _ h => h) (fun u t H1 locs1 ht hvm hp hB _ _ hS => kk u H1 locs1 hp ⟨by rw [← ht]; exact hB.1.1, hX.2.1, hX.2.2.1, hS⟩ ⟨by rw [← ht]; exact hB.2.1, hT.2.1, hB.2.2.2.1, hT.2.2.2⟩)
end KL2
end
section
/-! ranks told -/
/-- the spare row alone may have changed -/
def KR (S S1 : XS) : Prop := S1.2 = S.2 ∧ ∀ k, k ≠ 4 → S1.1 k = S.1 k
end
section
/-! constructors: new objects on top of any world -/
def NC (U : State) : Prop := va_Nw (.methodLinkNest RX4 23 yX3_init "Orderlattice") U ∧ va_Nw (.methodLinkNest RX4 30 yX0_init "Orderlattice") U ∧ va_Nw (.methodLinkNest RX4 35 yX2_init "Orderlattice") U ∧ va_Nw (.methodLinkNest RX4 40 yX1_init "Orderlattice") U ∧ va_Nw (.methodLinkNest RX0 11 yX3_init "Orderlattice") U ∧ va_Nw (.methodLinkNest RX0 20 yX2_init "Orderlattice") U ∧ va_Nw (.methodLinkNest RX0 30 yX1_init "Orderlattice") U ∧ va_Nw (.methodLinkNest RX3 9 yX2_init "Orderlattice") U
theorem NC.warm {s U : State} (hW : s.WarmedH U.vm) (h : NC s) : NC U := ⟨va_Nw.warmM hW h.1, va_Nw.warmM hW h.2.1, va_Nw.warmM hW h.2.2.1, va_Nw.warmM hW h.2.2.2.1, va_Nw.warmM hW h.2.2.2.2.1, va_Nw.warmM hW h.2.2.2.2.2.1, va_Nw.warmM hW h.2.2.2.2.2.2.1, va_Nw.warmM hW h.2.2.2.2.2.2.2⟩
theorem NC.same {s U : State} (hv : s.vm = U.vm) (h : NC s) : NC U := ⟨va_Nw.same rfl hv h.1, va_Nw.same rfl hv h.2.1, va_Nw.same rfl hv h.2.2.1, va_Nw.same rfl hv h.2.2.2.1, va_Nw.same rfl hv h.2.2.2.2.1, va_Nw.same rfl hv h.2.2.2.2.2.1, va_Nw.same rfl hv h.2.2.2.2.2.2.1, va_Nw.same rfl hv h.2.2.2.2.2.2.2⟩
def PC (dC : Nat → ClassId) (dI : Nat → Nat → Nat) (z : Nat) (G : va_W) (U : State) : Prop := va_P (dC, dI) vwCl G U.heap ∧ va_K (dC, dI) vwCl (tyX dC) U ∧ va_D (zB z) G ∧ z ≤ U.heap.size ∧ NC U
def WC (dC : Nat → ClassId) (dI : Nat → Nat → Nat) (z : Nat) (G : va_W) (s : State) (H : Heap) (locs : List Loc) : Prop := va_P (dC, dI) vwCl G H ∧ va_K (dC, dI) vwCl (tyX dC) s ∧ va_D (zB z) G ∧ va_S (zB z) s.heap H locs ∧ z ≤ s.heap.size ∧ NC s
section KC
variable {dC : Nat → ClassId} {dI : Nat → Nat → Nat} {z : Nat} {G : va_W} {s : State} {H : Heap} {locs : List Loc}
theorem WC.of (h : PC dC dI z G s) : WC dC dI z G s s.heap [] := ⟨h.1, h.2.1, h.2.2.1, va_S.rf, h.2.2.2.1, h.2.2.2.2⟩
theorem WC.P {U : State} (h : WC dC dI z G s H locs) (hU : U.heap = H) (hW : s.WarmedH U.vm) : PC dC dI z G U :=
  ⟨by rw [hU]; exact h.1, va_K.moved hW.alike h.2.1, h.2.2.1, by rw [hU]; exact Nat.le_trans h.2.2.2.2.1 h.2.2.2.1.1, h.2.2.2.2.2.warm hW⟩
theorem WC.F {t : State} (h : WC dC dI z G s H locs) (ht : t.heap = H) : va_F (zB z) s t := h.2.2.2.1.F ht
theorem WC.L (h : WC dC dI z G s H locs) : ∀ q ∈ locs, zB z q.base := h.2.2.2.1.2.2
theorem PC.call {U : State} {g : JFrame} {mk : MethodId} {a : Array Value} (h : PC dC dI z G U) : PC dC dI z G (U.calling g mk a) := ⟨h.1, va_K.moved (u := U) (U := U.calling g mk a) (Vm.Alike.refl U.vm) h.2.1, h.2.2.1, h.2.2.2.1, NC.same (s := U) (U := U.calling g mk a) rfl h.2.2.2.2⟩
theorem PC.blind {av : List Value} : FrameBlind (va_Pc av (PC dC dI z G)) := fun _ _ _ _ h => ⟨h.1, h.2.call⟩
theorem WC.preS {As : List Value} (h : WC dC dI z G s H locs) : PreS s H (va_Pc As (PC dC dI z G)) As := ⟨PC.blind, fun _ hU hW => ⟨rfl, h.P hU hW⟩⟩
theorem WC.to {G' : va_W} {H1 : Heap} {locs1 : List Loc} (h : WC dC dI z G s H locs) (h1 : va_P (dC, dI) vwCl G' H1) (h2 : va_D (zB z) G') (h3 : va_S (zB z) s.heap H1 locs1) : WC dC dI z G' s H1 locs1 := ⟨h1, h.2.1, h2, h3, h.2.2.2.2.1, h.2.2.2.2.2⟩
theorem WC.back {G' : va_W} {t : State} {H1 : Heap} {locs1 : List Loc} (h : WC dC dI z G s H locs) (ht : t.heap = H1) (hB : PC dC dI z G' t) (hS : va_S (zB z) s.heap H1 locs1) : WC dC dI z G' s H1 locs1 := ⟨by rw [← ht]; exact hB.1, h.2.1, hB.2.2.1, hS, h.2.2.2.2.1, h.2.2.2.2.2⟩
theorem WC.eqG {G' : va_W} (e : G = G') (h : WC dC dI z G s H locs) : WC dC dI z G' s H locs := e ▸ h
end KC
theorem cs_get {α : Type} {L M : List α} {j : Nat} : (L ++ M)[L.length + j]? = M[j]? := by
  rw [List.getElem?_append_right (Nat.le_add_right _ _), Nat.add_sub_cancel_left]
theorem cs_set {α : Type} {L M : List α} {j : Nat} {x : α} : (L ++ M).set (L.length + j) x = L ++ M.set j x := by
  induction L with
  | nil => rw [List.nil_append, List.nil_append]; exact congrArg (fun i => M.set i x) (Nat.zero_add j)
  | cons a L ih =>
    rw [List.cons_append, List.length_cons, show L.length + 1 + j = (L.length + j) + 1 by omega]
    exact congrArg (a :: ·) ih
theorem cs_k {α : Type} {G M : List α} {k : Nat} {x : α} (h : k < G.length) : (G.set k x ++ M)[k]? = some x := by
  rw [List.getElem?_append_left (by rw [List.length_set]; exact h), List.getElem?_set_self h]
theorem cs_kset {α : Type} {k : Nat} {x y : α} : ∀ {G M : List α}, k < G.length → (G.set k x ++ M).set k y = G.set k y ++ M := by
  intro G M h
  rw [List.set_append_left _ _ (by rw [List.length_set]; exact h), List.set_set]
section KC2
variable {p : Program} {l : Launch} {e : Env} {R : Room} {s : State} {m : MethodId} {args : Array Value} {below : List Frame} {meth : Method} {c : Code} {H : Heap} {locs : List Loc} {cells slots : Nat} {Q : State → Prop}
variable {cc : ByteArray} {pc : Nat} {ls : Array Slot} {rest st0 : List Value} {dC : Nat → ClassId} {dI : Nat → Nat → Nat} {z : Nat} {G : va_W} {index n : Nat} {own : String} {mc ms : Nat} {av : Array Value}
theorem kc_newI (hx : p.tables.exec = Jvm.exec) (hb : c.code = cc) (harr : (Cond.arrayClass .int).before args s = true) (hC : WC dC dI z G s H locs) (hn : n ≤ 65536) (hcells : cells + 1 ≤ R.cells) (hslots : slots + n ≤ R.slots) (hdg : decode cc pc = .ok (.newarray .int, 2))
    (kk : ∀ (q : Nat) (H1 : Heap), WC dC dI z (G ++ [(q, .inl (dC 20, n, .inl (fun _ => nI 0)))]) s H1 locs → W p l e R s m args below meth c H1 locs (cells + 1) (slots + n) Q (F0 m (pc + 2) ls (.ref q :: rest))) : W p l e R s m args below meth c H locs cells slots Q (F0 m pc ls (.int (nI n) :: rest)) := by
  refine va_newa (atype := .int) (ty := .int) (a0 := (n, .inl (fun _ => nI 0))) hx hb harr rfl hC.2.1 hC.1 hC.2.2.1 hC.2.2.2.1 (fun q hq => Nat.le_trans hC.2.2.2.2.1 hq) (fun cA => ?_) (nI_pos (by omega)) (nI_clamp (by omega)) (by show n * 4 ≤ 536870912; omega) hcells hslots hdg (fun q cA H1 hK1 h1 h2 h3 => ?_)
  · rfl
  · have e0 : cA = dC 20 := by
      have e1 := (hK1.2 0 (dC 20, .int) rfl).2
      have e2 := (hK1.2 5 (cA, .int) rfl).2
      exact Option.some.inj (e2.symm.trans e1)
    subst e0
    exact kk q H1 (hC.to h1 h2 h3)
theorem kc_newZ (hx : p.tables.exec = Jvm.exec) (hb : c.code = cc) (harr : (Cond.arrayClass .boolean).before args s = true) (hC : WC dC dI z G s H locs) (hn : n ≤ 65536) (hcells : cells + 1 ≤ R.cells) (hslots : slots + n ≤ R.slots) (hdg : decode cc pc = .ok (.newarray .boolean, 2))
    (kk : ∀ (q : Nat) (H1 : Heap), WC dC dI z (G ++ [(q, .inl (dC 21, n, .inl (fun _ => bI false)))]) s H1 locs → W p l e R s m args below meth c H1 locs (cells + 1) (slots + n) Q (F0 m (pc + 2) ls (.ref q :: rest))) : W p l e R s m args below meth c H locs cells slots Q (F0 m pc ls (.int (nI n) :: rest)) := by
  refine va_newa (atype := .boolean) (ty := .boolean) (a0 := (n, .inl (fun _ => bI false))) hx hb harr rfl hC.2.1 hC.1 hC.2.2.1 hC.2.2.2.1 (fun q hq => Nat.le_trans hC.2.2.2.2.1 hq) (fun cA => ?_) (nI_pos (by omega)) (nI_clamp (by omega)) (by show n * 1 ≤ 536870912; omega) hcells hslots hdg (fun q cA H1 hK1 h1 h2 h3 => ?_)
  · rfl
  · have e0 : cA = dC 21 := by
      have e1 := (hK1.2 1 (dC 21, .boolean) rfl).2
      have e2 := (hK1.2 5 (cA, .boolean) rfl).2
      exact Option.some.inj (e2.symm.trans e1)
    subst e0
    exact kk q H1 (hC.to h1 h2 h3)
theorem kc_newJ (hx : p.tables.exec = Jvm.exec) (hb : c.code = cc) (harr : (Cond.arrayClass .long).before args s = true) (hC : WC dC dI z G s H locs) (hn : n ≤ 65536) (hcells : cells + 1 ≤ R.cells) (hslots : slots + n ≤ R.slots) (hdg : decode cc pc = .ok (.newarray .long, 2))
    (kk : ∀ (q : Nat) (H1 : Heap), WC dC dI z (G ++ [(q, .inl (dC 22, n, .inr (.inl (fun _ => lN 0))))]) s H1 locs → W p l e R s m args below meth c H1 locs (cells + 1) (slots + n) Q (F0 m (pc + 2) ls (.ref q :: rest))) : W p l e R s m args below meth c H locs cells slots Q (F0 m pc ls (.int (nI n) :: rest)) := by
  refine va_newa (atype := .long) (ty := .long) (a0 := (n, .inr (.inl (fun _ => lN 0)))) hx hb harr rfl hC.2.1 hC.1 hC.2.2.1 hC.2.2.2.1 (fun q hq => Nat.le_trans hC.2.2.2.2.1 hq) (fun cA => ?_) (nI_pos (by omega)) (nI_clamp (by omega)) (by show n * 8 ≤ 536870912; omega) hcells hslots hdg (fun q cA H1 hK1 h1 h2 h3 => ?_)
  · rfl
  · have e0 : cA = dC 22 := by
      have e1 := (hK1.2 2 (dC 22, .long) rfl).2
      have e2 := (hK1.2 5 (cA, .long) rfl).2
      exact Option.some.inj (e2.symm.trans e1)
    subst e0
    exact kk q H1 (hC.to h1 h2 h3)
theorem kc_v {S1 : Type} {post : S1 → Prop} {Gf : S1 → va_W} (hr : va_Run p l e R s m args below meth c H locs cells slots mc ms (F0 m pc ls st0) rest (va_Qv post (fun u t => PC dC dI z (Gf u) t) (zB z) av) (zB z)) (hC : WC dC dI z G s H locs)
    (kk : ∀ (u : S1) (H1 : Heap) (locs1 : List Loc), post u → WC dC dI z (Gf u) s H1 locs1 → W p l e R s m args below meth c H1 locs1 (cells + mc) (slots + ms) Q (F0 m (pc + 3) ls rest)) : W p l e R s m args below meth c H locs cells slots Q (F0 m pc ls st0) :=
  va_callv hr hC.2.2.2.1 (fun _ _ h => h) (fun _ h => h) (fun u t H1 locs1 ht hvm hp hb1 _ _ hS => kk u H1 locs1 hp (hC.back ht hb1 hS))
end KC2
end
section
set_option maxHeartbeats 4000000 in
set_option maxRecDepth 100000 in
theorem m_X2_init (l : Launch) (dC : Nat → ClassId) (dI : Nat → Nat → Nat) (z : Nat) (G : va_W) (k r : Nat) (hG : G[k]? = some (r, .inr (4, [.null, .null, .int (nI 0)]))) : Met l yX2_init wsX2_init ({ frames := 1, cells := 2, slots := 32, locals := 20 } : Room) (va_Pc [.ref r] (PC dC dI z G)) (va_Qv (fun _ : Nat × Nat => True) (fun u t => PC dC dI z (G.set k (r, .inr (4, [.ref u.1, .ref u.2, .int (nI 0)])) ++ [(u.1, .inl (dC 20, 16, .inl (fun _ => nI 0))), (u.2, .inl (dC 20, 16, .inl (fun _ => nI 0)))]) t) (zB z)) 2 32 (zB z) := by
  refine ofWF (cc := cX2_init) (maxL := 1) (ret := none) (by decide +kernel) rfl ?_
  intro p e s m args below meth c s₁ B hml hv
  obtain ⟨rfl, hPC⟩ := hv
  have hx := B.exec
  have hb := B.bytes
  have hr := B.returns
  have hts := atoms_spec (ws := wsX2_init) B.pre
  have hown : s.vm.findClass RX2 = some m.cls := findClass_of_methodNamed B.named
  have hlocks := B.notSynchronized
  have hin2 : meth.name = "<init>" := (name_of_methodNamed B.named B.method).1
  have hinX2 : ∀ w ∈ u_ws RX2 TX2 3, w ∈ wsX2_init := tu 1322 (by decide +kernel) rfl
  have hk : k < G.length := (List.getElem?_eq_some_iff.mp hG).1
  have hC : WC dC dI z (G.set k (r, .inr (4, [.null, .null, .int (nI 0)])) ++ []) s s.heap [] := (WC.of hPC).eqG (by rw [set_same hG, List.append_nil])
  have hl := lv_entry ([.ref r]) (n := 1) (Nat.le_of_ble_eq_true rfl)
  rw [lg_entry_eq]
  generalize (lg_sl ([.ref r]) ++ List.replicate (1 - (lg_sl ([.ref r])).length) Slot.unset).toArray = ls at hl ⊢
  have hl : lv_has ls 1 [(0, .ref r)] := hl
  show W p l e ({ frames := 1, cells := 2, slots := 32, locals := 20 } : Room) s m ([.ref r]).toArray below meth c s.heap [] 0 0 (MQ below (va_Qv (fun _ : Nat × Nat => True) (fun u t => PC dC dI z (G.set k (r, .inr (4, [.ref u.1, .ref u.2, .int (nI 0)])) ++ [(u.1, .inl (dC 20, 16, .inl (fun _ => nI 0))), (u.2, .inl (dC 20, 16, .inl (fun _ => nI 0)))]) t) (zB z)) [.ref r].toArray s 2 32 (zB z)) (F0 m 0 ls [])
  refine lv_aload_n hx hb dX2_init_0 rfl (lv_at hl 0 rfl) ?_
  refine W.objInit hx hb hown (hts (.methodLink RX2 3 objectInit) (tm 23 (by decide +kernel) rfl)) (hts (.instanceMethod objectInit) (tm 1 (by decide +kernel) rfl)) (hts (.code objectInit ⟨#[0xb1]⟩ 1 none) (tm 2 (by decide +kernel) rfl)) (g := F0 m 1 ls [.ref r]) rfl (by rw [hml]; exact hl.1) rfl dX2_init_1 (Nat.le_of_ble_eq_true rfl) (Nat.le_of_ble_eq_true rfl) ?_
  show W p l e _ s m _ below meth c _ _ _ _ _ (F0 m 4 ls [])
  refine lv_aload_n hx hb dX2_init_4 rfl (lv_at hl 0 rfl) ?_
  refine lv_bipush (v := nI 16) hx hb dX2_init_5 (by decide) ?_
  refine kc_newI hx hb (hts (.arrayClass .int) (tm 24 (by decide +kernel) rfl)) hC (by omega) (Nat.le_of_ble_eq_true rfl) (Nat.le_of_ble_eq_true rfl) dX2_init_7 (fun q1 H hC => ?_)
  replace hC : WC dC dI z (G.set k (r, .inr (4, [.null, .null, .int (nI 0)])) ++ [(q1, .inl (dC 20, 16, .inl (fun _ => nI 0)))]) s H _ := hC.eqG (by rw [List.append_assoc]; rfl)
  refine va_putF (D := (dC, dI)) (ci := 4) (C := RX2) (T := TX2) (N := 3) (fs := [.null, .null, .int (nI 0)]) hx hb hts hinX2 tyX2 tyX2_ok nmX2 hown hC.2.1 hC.1 hC.2.2.1 hC.2.2.2.1 k (cs_k hk) rfl 0 (by decide) (hts (.fieldLink RX2 11 "Orderlattice$Row" "values" "[I") (tm 25 (by decide +kernel) rfl)) (fun _ h => h) rfl hin2 rfl rfl rfl rfl (Nat.le_of_ble_eq_true rfl) dX2_init_9 (fun H locs h1 h2 h3 => ?_)
  replace hC : WC dC dI z (G.set k (r, .inr (4, [.ref q1, .null, .int (nI 0)])) ++ [(q1, .inl (dC 20, 16, .inl (fun _ => nI 0)))]) s H locs := (hC.to h1 h2 h3).eqG (by rw [cs_kset hk]; rfl)
  refine lv_aload_n hx hb dX2_init_12 rfl (lv_at hl 0 rfl) ?_
  refine lv_bipush (v := nI 16) hx hb dX2_init_13 (by decide) ?_
  refine kc_newI hx hb (hts (.arrayClass .int) (tm 24 (by decide +kernel) rfl)) hC (by omega) (Nat.le_of_ble_eq_true rfl) (Nat.le_of_ble_eq_true rfl) dX2_init_15 (fun q2 H hC => ?_)
  replace hC : WC dC dI z (G.set k (r, .inr (4, [.ref q1, .null, .int (nI 0)])) ++ [(q1, .inl (dC 20, 16, .inl (fun _ => nI 0))), (q2, .inl (dC 20, 16, .inl (fun _ => nI 0)))]) s H _ := hC.eqG (by rw [List.append_assoc]; rfl)
  refine va_putF (D := (dC, dI)) (ci := 4) (C := RX2) (T := TX2) (N := 3) (fs := [.ref q1, .null, .int (nI 0)]) hx hb hts hinX2 tyX2 tyX2_ok nmX2 hown hC.2.1 hC.1 hC.2.2.1 hC.2.2.2.1 k (cs_k hk) rfl 1 (by decide) (hts (.fieldLink RX2 15 "Orderlattice$Row" "marks" "[I") (tm 26 (by decide +kernel) rfl)) (fun _ h => h) rfl hin2 rfl rfl rfl rfl (Nat.le_of_ble_eq_true rfl) dX2_init_17 (fun H locs h1 h2 h3 => ?_)
  replace hC : WC dC dI z (G.set k (r, .inr (4, [.ref q1, .ref q2, .int (nI 0)])) ++ [(q1, .inl (dC 20, 16, .inl (fun _ => nI 0))), (q2, .inl (dC 20, 16, .inl (fun _ => nI 0)))]) s H locs := (hC.to h1 h2 h3).eqG (by rw [cs_kset hk]; rfl)
  refine lv_aload_n hx hb dX2_init_20 rfl (lv_at hl 0 rfl) ?_
  refine lv_iconst (v := nI 0) hx hb dX2_init_21 (by decide) ?_
  refine va_put (D := (dC, dI)) (ci := 4) (C := RX2) (T := TX2) (N := 3) (fs := [.ref q1, .ref q2, .int (nI 0)]) hx hb hts hinX2 tyX2 tyX2_ok nmX2 hown hC.2.1 hC.1 hC.2.2.1 hC.2.2.2.1 k (cs_k hk) rfl 2 (by decide) (hts (.fieldLink RX2 18 "Orderlattice$Row" "many" "I") (tm 27 (by decide +kernel) rfl)) (fun _ h => h) rfl rfl rfl rfl (Nat.le_of_ble_eq_true rfl) dX2_init_22 (fun H locs h1 h2 h3 => ?_)
  replace hC : WC dC dI z (G.set k (r, .inr (4, [.ref q1, .ref q2, .int (nI 0)])) ++ [(q1, .inl (dC 20, 16, .inl (fun _ => nI 0))), (q2, .inl (dC 20, 16, .inl (fun _ => nI 0)))]) s H locs := (hC.to h1 h2 h3).eqG (by rw [cs_kset hk]; rfl)
  exact W.widen (k := 2) (n := 32) (by simp) (by simp) (W.vret hx hb hr (fun t9 ht9 hW9 => ⟨⟨(q1, q2), rfl, trivial, hC.P ht9 hW9⟩, hC.F ht9⟩) hC.L dX2_init_25)
set_option maxHeartbeats 4000000 in
set_option maxRecDepth 100000 in
theorem m_X1_init (l : Launch) (dC : Nat → ClassId) (dI : Nat → Nat → Nat) (z : Nat) (G : va_W) (k r : Nat) (hG : G[k]? = some (r, .inr (3, [.null, .null, .null, .null, .int (nI 0), .int (nI 0)]))) : Met l yX1_init wsX1_init ({ frames := 1, cells := 4, slots := 52, locals := 20 } : Room) (va_Pc [.ref r] (PC dC dI z G)) (va_Qv (fun _ : Nat × Nat × Nat × Nat => True) (fun u t => PC dC dI z (G.set k (r, .inr (3, [.ref u.1, .ref u.2.1, .ref u.2.2.1, .ref u.2.2.2, .int (nI 0), .int (nI 1)])) ++ [(u.1, .inl (dC 20, 10, .inl (fun _ => nI 0))), (u.2.1, .inl (dC 21, 10, .inl (fun _ => bI false))), (u.2.2.1, .inl (dC 22, 16, .inr (.inl (fun _ => lN 0)))), (u.2.2.2, .inl (dC 20, 16, .inl (fun _ => nI 0)))]) t) (zB z)) 4 52 (zB z) := by
  refine ofWF (cc := cX1_init) (maxL := 1) (ret := none) (by decide +kernel) rfl ?_
  intro p e s m args below meth c s₁ B hml hv
  obtain ⟨rfl, hPC⟩ := hv
  have hx := B.exec
  have hb := B.bytes
  have hr := B.returns
  have hts := atoms_spec (ws := wsX1_init) B.pre
  have hown : s.vm.findClass RX1 = some m.cls := findClass_of_methodNamed B.named
  have hlocks := B.notSynchronized
  have hin2 : meth.name = "<init>" := (name_of_methodNamed B.named B.method).1
  have hinX1 : ∀ w ∈ u_ws RX1 TX1 6, w ∈ wsX1_init := tu 1324 (by decide +kernel) rfl
  have hk : k < G.length := (List.getElem?_eq_some_iff.mp hG).1
  have hC : WC dC dI z (G.set k (r, .inr (3, [.null, .null, .null, .null, .int (nI 0), .int (nI 0)])) ++ []) s s.heap [] := (WC.of hPC).eqG (by rw [set_same hG, List.append_nil])
  have hl := lv_entry ([.ref r]) (n := 1) (Nat.le_of_ble_eq_true rfl)
  rw [lg_entry_eq]
  generalize (lg_sl ([.ref r]) ++ List.replicate (1 - (lg_sl ([.ref r])).length) Slot.unset).toArray = ls at hl ⊢
  have hl : lv_has ls 1 [(0, .ref r)] := hl
  show W p l e ({ frames := 1, cells := 4, slots := 52, locals := 20 } : Room) s m ([.ref r]).toArray below meth c s.heap [] 0 0 (MQ below (va_Qv (fun _ : Nat × Nat × Nat × Nat => True) (fun u t => PC dC dI z (G.set k (r, .inr (3, [.ref u.1, .ref u.2.1, .ref u.2.2.1, .ref u.2.2.2, .int (nI 0), .int (nI 1)])) ++ [(u.1, .inl (dC 20, 10, .inl (fun _ => nI 0))), (u.2.1, .inl (dC 21, 10, .inl (fun _ => bI false))), (u.2.2.1, .inl (dC 22, 16, .inr (.inl (fun _ => lN 0)))), (u.2.2.2, .inl (dC 20, 16, .inl (fun _ => nI 0)))]) t) (zB z)) [.ref r].toArray s 4 52 (zB z)) (F0 m 0 ls [])
  refine lv_aload_n hx hb dX1_init_0 rfl (lv_at hl 0 rfl) ?_
  refine W.objInit hx hb hown (hts (.methodLink RX1 3 objectInit) (tm 30 (by decide +kernel) rfl)) (hts (.instanceMethod objectInit) (tm 1 (by decide +kernel) rfl)) (hts (.code objectInit ⟨#[0xb1]⟩ 1 none) (tm 2 (by decide +kernel) rfl)) (g := F0 m 1 ls [.ref r]) rfl (by rw [hml]; exact hl.1) rfl dX1_init_1 (Nat.le_of_ble_eq_true rfl) (Nat.le_of_ble_eq_true rfl) ?_
  show W p l e _ s m _ below meth c _ _ _ _ _ (F0 m 4 ls [])
  refine lv_aload_n hx hb dX1_init_4 rfl (lv_at hl 0 rfl) ?_
  refine lv_bipush (v := nI 10) hx hb dX1_init_5 (by decide) ?_
  refine kc_newI hx hb (hts (.arrayClass .int) (tm 24 (by decide +kernel) rfl)) hC (by omega) (Nat.le_of_ble_eq_true rfl) (Nat.le_of_ble_eq_true rfl) dX1_init_7 (fun q1 H hC => ?_)
  replace hC : WC dC dI z (G.set k (r, .inr (3, [.null, .null, .null, .null, .int (nI 0), .int (nI 0)])) ++ [(q1, .inl (dC 20, 10, .inl (fun _ => nI 0)))]) s H _ := hC.eqG (by rw [List.append_assoc]; rfl)
  refine va_putF (D := (dC, dI)) (ci := 3) (C := RX1) (T := TX1) (N := 6) (fs := [.null, .null, .null, .null, .int (nI 0), .int (nI 0)]) hx hb hts hinX1 tyX1 tyX1_ok nmX1 hown hC.2.1 hC.1 hC.2.2.1 hC.2.2.2.1 k (cs_k hk) rfl 0 (by decide) (hts (.fieldLink RX1 11 "Orderlattice$Order" "keys" "[I") (tm 31 (by decide +kernel) rfl)) (fun _ h => h) rfl hin2 rfl rfl rfl rfl (Nat.le_of_ble_eq_true rfl) dX1_init_9 (fun H locs h1 h2 h3 => ?_)
  replace hC : WC dC dI z (G.set k (r, .inr (3, [.ref q1, .null, .null, .null, .int (nI 0), .int (nI 0)])) ++ [(q1, .inl (dC 20, 10, .inl (fun _ => nI 0)))]) s H locs := (hC.to h1 h2 h3).eqG (by rw [cs_kset hk]; rfl)
  refine lv_aload_n hx hb dX1_init_12 rfl (lv_at hl 0 rfl) ?_
  refine lv_bipush (v := nI 10) hx hb dX1_init_13 (by decide) ?_
  refine kc_newZ hx hb (hts (.arrayClass .boolean) (tm 32 (by decide +kernel) rfl)) hC (by omega) (Nat.le_of_ble_eq_true rfl) (Nat.le_of_ble_eq_true rfl) dX1_init_15 (fun q2 H hC => ?_)
  replace hC : WC dC dI z (G.set k (r, .inr (3, [.ref q1, .null, .null, .null, .int (nI 0), .int (nI 0)])) ++ [(q1, .inl (dC 20, 10, .inl (fun _ => nI 0))), (q2, .inl (dC 21, 10, .inl (fun _ => bI false)))]) s H _ := hC.eqG (by rw [List.append_assoc]; rfl)
  refine va_putF (D := (dC, dI)) (ci := 3) (C := RX1) (T := TX1) (N := 6) (fs := [.ref q1, .null, .null, .null, .int (nI 0), .int (nI 0)]) hx hb hts hinX1 tyX1 tyX1_ok nmX1 hown hC.2.1 hC.1 hC.2.2.1 hC.2.2.2.1 k (cs_k hk) rfl 1 (by decide) (hts (.fieldLink RX1 15 "Orderlattice$Order" "downs" "[Z") (tm 33 (by decide +kernel) rfl)) (fun _ h => h) rfl hin2 rfl rfl rfl rfl (Nat.le_of_ble_eq_true rfl) dX1_init_17 (fun H locs h1 h2 h3 => ?_)
  replace hC : WC dC dI z (G.set k (r, .inr (3, [.ref q1, .ref q2, .null, .null, .int (nI 0), .int (nI 0)])) ++ [(q1, .inl (dC 20, 10, .inl (fun _ => nI 0))), (q2, .inl (dC 21, 10, .inl (fun _ => bI false)))]) s H locs := (hC.to h1 h2 h3).eqG (by rw [cs_kset hk]; rfl)
  refine lv_aload_n hx hb dX1_init_20 rfl (lv_at hl 0 rfl) ?_
  refine lv_bipush (v := nI 16) hx hb dX1_init_21 (by decide) ?_
  refine kc_newJ hx hb (hts (.arrayClass .long) (tm 34 (by decide +kernel) rfl)) hC (by omega) (Nat.le_of_ble_eq_true rfl) (Nat.le_of_ble_eq_true rfl) dX1_init_23 (fun q3 H hC => ?_)
  replace hC : WC dC dI z (G.set k (r, .inr (3, [.ref q1, .ref q2, .null, .null, .int (nI 0), .int (nI 0)])) ++ [(q1, .inl (dC 20, 10, .inl (fun _ => nI 0))), (q2, .inl (dC 21, 10, .inl (fun _ => bI false))), (q3, .inl (dC 22, 16, .inr (.inl (fun _ => lN 0))))]) s H _ := hC.eqG (by rw [List.append_assoc]; rfl)
  refine va_putF (D := (dC, dI)) (ci := 3) (C := RX1) (T := TX1) (N := 6) (fs := [.ref q1, .ref q2, .null, .null, .int (nI 0), .int (nI 0)]) hx hb hts hinX1 tyX1 tyX1_ok nmX1 hown hC.2.1 hC.1 hC.2.2.1 hC.2.2.2.1 k (cs_k hk) rfl 2 (by decide) (hts (.fieldLink RX1 19 "Orderlattice$Order" "codes" "[J") (tm 35 (by decide +kernel) rfl)) (fun _ h => h) rfl hin2 rfl rfl rfl rfl (Nat.le_of_ble_eq_true rfl) dX1_init_25 (fun H locs h1 h2 h3 => ?_)
  replace hC : WC dC dI z (G.set k (r, .inr (3, [.ref q1, .ref q2, .ref q3, .null, .int (nI 0), .int (nI 0)])) ++ [(q1, .inl (dC 20, 10, .inl (fun _ => nI 0))), (q2, .inl (dC 21, 10, .inl (fun _ => bI false))), (q3, .inl (dC 22, 16, .inr (.inl (fun _ => lN 0))))]) s H locs := (hC.to h1 h2 h3).eqG (by rw [cs_kset hk]; rfl)
  refine lv_aload_n hx hb dX1_init_28 rfl (lv_at hl 0 rfl) ?_
  refine lv_bipush (v := nI 16) hx hb dX1_init_29 (by decide) ?_
  refine kc_newI hx hb (hts (.arrayClass .int) (tm 24 (by decide +kernel) rfl)) hC (by omega) (Nat.le_of_ble_eq_true rfl) (Nat.le_of_ble_eq_true rfl) dX1_init_31 (fun q4 H hC => ?_)
  replace hC : WC dC dI z (G.set k (r, .inr (3, [.ref q1, .ref q2, .ref q3, .null, .int (nI 0), .int (nI 0)])) ++ [(q1, .inl (dC 20, 10, .inl (fun _ => nI 0))), (q2, .inl (dC 21, 10, .inl (fun _ => bI false))), (q3, .inl (dC 22, 16, .inr (.inl (fun _ => lN 0)))), (q4, .inl (dC 20, 16, .inl (fun _ => nI 0)))]) s H _ := hC.eqG (by rw [List.append_assoc]; rfl)
  refine va_putF (D := (dC, dI)) (ci := 3) (C := RX1) (T := TX1) (N := 6) (fs := [.ref q1, .ref q2, .ref q3, .null, .int (nI 0), .int (nI 0)]) hx hb hts hinX1 tyX1 tyX1_ok nmX1 hown hC.2.1 hC.1 hC.2.2.1 hC.2.2.2.1 k (cs_k hk) rfl 3 (by decide) (hts (.fieldLink RX1 23 "Orderlattice$Order" "ranks" "[I") (tm 36 (by decide +kernel) rfl)) (fun _ h => h) rfl hin2 rfl rfl rfl rfl (Nat.le_of_ble_eq_true rfl) dX1_init_33 (fun H locs h1 h2 h3 => ?_)
  replace hC : WC dC dI z (G.set k (r, .inr (3, [.ref q1, .ref q2, .ref q3, .ref q4, .int (nI 0), .int (nI 0)])) ++ [(q1, .inl (dC 20, 10, .inl (fun _ => nI 0))), (q2, .inl (dC 21, 10, .inl (fun _ => bI false))), (q3, .inl (dC 22, 16, .inr (.inl (fun _ => lN 0)))), (q4, .inl (dC 20, 16, .inl (fun _ => nI 0)))]) s H locs := (hC.to h1 h2 h3).eqG (by rw [cs_kset hk]; rfl)
  refine lv_aload_n hx hb dX1_init_36 rfl (lv_at hl 0 rfl) ?_
  refine lv_iconst (v := nI 0) hx hb dX1_init_37 (by decide) ?_
  refine va_put (D := (dC, dI)) (ci := 3) (C := RX1) (T := TX1) (N := 6) (fs := [.ref q1, .ref q2, .ref q3, .ref q4, .int (nI 0), .int (nI 0)]) hx hb hts hinX1 tyX1 tyX1_ok nmX1 hown hC.2.1 hC.1 hC.2.2.1 hC.2.2.2.1 k (cs_k hk) rfl 4 (by decide) (hts (.fieldLink RX1 26 "Orderlattice$Order" "many" "I") (tm 37 (by decide +kernel) rfl)) (fun _ h => h) rfl rfl rfl rfl (Nat.le_of_ble_eq_true rfl) dX1_init_38 (fun H locs h1 h2 h3 => ?_)
  replace hC : WC dC dI z (G.set k (r, .inr (3, [.ref q1, .ref q2, .ref q3, .ref q4, .int (nI 0), .int (nI 0)])) ++ [(q1, .inl (dC 20, 10, .inl (fun _ => nI 0))), (q2, .inl (dC 21, 10, .inl (fun _ => bI false))), (q3, .inl (dC 22, 16, .inr (.inl (fun _ => lN 0)))), (q4, .inl (dC 20, 16, .inl (fun _ => nI 0)))]) s H locs := (hC.to h1 h2 h3).eqG (by rw [cs_kset hk]; rfl)
  refine lv_aload_n hx hb dX1_init_41 rfl (lv_at hl 0 rfl) ?_
  refine lv_iconst (v := nI 1) hx hb dX1_init_42 (by decide) ?_
  refine va_put (D := (dC, dI)) (ci := 3) (C := RX1) (T := TX1) (N := 6) (fs := [.ref q1, .ref q2, .ref q3, .ref q4, .int (nI 0), .int (nI 0)]) hx hb hts hinX1 tyX1 tyX1_ok nmX1 hown hC.2.1 hC.1 hC.2.2.1 hC.2.2.2.1 k (cs_k hk) rfl 5 (by decide) (hts (.fieldLink RX1 30 "Orderlattice$Order" "classes" "I") (tm 38 (by decide +kernel) rfl)) (fun _ h => h) rfl rfl rfl rfl (Nat.le_of_ble_eq_true rfl) dX1_init_43 (fun H locs h1 h2 h3 => ?_)
  replace hC : WC dC dI z (G.set k (r, .inr (3, [.ref q1, .ref q2, .ref q3, .ref q4, .int (nI 0), .int (nI 1)])) ++ [(q1, .inl (dC 20, 10, .inl (fun _ => nI 0))), (q2, .inl (dC 21, 10, .inl (fun _ => bI false))), (q3, .inl (dC 22, 16, .inr (.inl (fun _ => lN 0)))), (q4, .inl (dC 20, 16, .inl (fun _ => nI 0)))]) s H locs := (hC.to h1 h2 h3).eqG (by rw [cs_kset hk]; rfl)
  exact W.widen (k := 4) (n := 52) (by simp) (by simp) (W.vret hx hb hr (fun t9 ht9 hW9 => ⟨⟨(q1, q2, q3, q4), rfl, trivial, hC.P ht9 hW9⟩, hC.F ht9⟩) hC.L dX1_init_46)
set_option maxHeartbeats 4000000 in
set_option maxRecDepth 100000 in
theorem m_X3_init (l : Launch) (dC : Nat → ClassId) (dI : Nat → Nat → Nat) (z : Nat) (G : va_W) (k r : Nat) (hG : G[k]? = some (r, .inr (5, [.null]))) : Met l yX3_init wsX3_init ({ frames := 2, cells := 3, slots := 35, locals := 40 } : Room) (va_Pc [.ref r] (PC dC dI z G)) (va_Qv (fun _ : Nat × Nat × Nat => True) (fun u t => PC dC dI z (G.set k (r, .inr (5, [.ref u.1])) ++ [(u.1, .inr (4, [.ref u.2.1, .ref u.2.2, .int (nI 0)])), (u.2.1, .inl (dC 20, 16, .inl (fun _ => nI 0))), (u.2.2, .inl (dC 20, 16, .inl (fun _ => nI 0)))]) t) (zB z)) 3 35 (zB z) := by
  refine ofWF (cc := cX3_init) (maxL := 1) (ret := none) (by decide +kernel) rfl ?_
  intro p e s m args below meth c s₁ B hml hv
  obtain ⟨rfl, hPC⟩ := hv
  have hx := B.exec
  have hb := B.bytes
  have hr := B.returns
  have hts := atoms_spec (ws := wsX3_init) B.pre
  have hown : s.vm.findClass RX3 = some m.cls := findClass_of_methodNamed B.named
  have hlocks := B.notSynchronized
  have hin2 : meth.name = "<init>" := (name_of_methodNamed B.named B.method).1
  have hinX3 : ∀ w ∈ u_ws RX3 TX3 1, w ∈ wsX3_init := tu 1323 (by decide +kernel) rfl
  have hk : k < G.length := (List.getElem?_eq_some_iff.mp hG).1
  have hC : WC dC dI z (G.set k (r, .inr (5, [.null])) ++ []) s s.heap [] := (WC.of hPC).eqG (by rw [set_same hG, List.append_nil])
  have hl := lv_entry ([.ref r]) (n := 1) (Nat.le_of_ble_eq_true rfl)
  rw [lg_entry_eq]
  generalize (lg_sl ([.ref r]) ++ List.replicate (1 - (lg_sl ([.ref r])).length) Slot.unset).toArray = ls at hl ⊢
  have hl : lv_has ls 1 [(0, .ref r)] := hl
  show W p l e ({ frames := 2, cells := 3, slots := 35, locals := 40 } : Room) s m ([.ref r]).toArray below meth c s.heap [] 0 0 (MQ below (va_Qv (fun _ : Nat × Nat × Nat => True) (fun u t => PC dC dI z (G.set k (r, .inr (5, [.ref u.1])) ++ [(u.1, .inr (4, [.ref u.2.1, .ref u.2.2, .int (nI 0)])), (u.2.1, .inl (dC 20, 16, .inl (fun _ => nI 0))), (u.2.2, .inl (dC 20, 16, .inl (fun _ => nI 0)))]) t) (zB z)) [.ref r].toArray s 3 35 (zB z)) (F0 m 0 ls [])
  refine lv_aload_n hx hb dX3_init_0 rfl (lv_at hl 0 rfl) ?_
  refine W.objInit hx hb hown (hts (.methodLink RX3 1 objectInit) (tm 18 (by decide +kernel) rfl)) (hts (.instanceMethod objectInit) (tm 1 (by decide +kernel) rfl)) (hts (.code objectInit ⟨#[0xb1]⟩ 1 none) (tm 2 (by decide +kernel) rfl)) (g := F0 m 1 ls [.ref r]) rfl (by rw [hml]; exact hl.1) rfl dX3_init_1 (Nat.le_of_ble_eq_true rfl) (Nat.le_of_ble_eq_true rfl) ?_
  show W p l e _ s m _ below meth c _ _ _ _ _ (F0 m 4 ls [])
  refine lv_aload_n hx hb dX3_init_4 rfl (lv_at hl 0 rfl) ?_
  refine va_new (D := (dC, dI)) (ci := 4) (C := RX2) (T := TX2) (N := 3) (fs := [.null, .null, .int (nI 0)]) hx hb hts (by decide +kernel : ∀ w ∈ u_ws RX2 TX2 3, w ∈ wsX3_init) tyX2 tyX2_ok hown (hts (.classLink RX3 7 RX2) (tm 19 (by decide +kernel) rfl)) (hts (.instantiable RX2 3) (tm 8 (by decide +kernel) rfl)) (hts (.initialized RX2) (tm 9 (by decide +kernel) rfl)) hC.2.1 hC.1 hC.2.2.1 hC.2.2.2.1 (fun q hq => Nat.le_trans hC.2.2.2.2.1 hq) rfl (fun j hj => by rcases (show j = 0 ∨ j = 1 ∨ j = 2 by omega) with rfl | rfl | rfl <;> rfl) (Nat.le_of_ble_eq_true rfl) (Nat.le_of_ble_eq_true rfl) dX3_init_5 (fun q1 H h1 h2 h3 => ?_)
  replace hC : WC dC dI z (G.set k (r, .inr (5, [.null])) ++ [(q1, .inr (4, [.null, .null, .int (nI 0)]))]) s H _ := (hC.to h1 h2 h3).eqG (by rw [List.append_assoc]; rfl)
  refine lv_dup hx hb dX3_init_8 rfl ?_
  refine kc_v (va_runIN (As := []) (rest := [.ref q1, .ref r]) ⟨hx, hb, hml, hown, hts⟩ (m_X2_init l dC dI z (G.set k (r, .inr (5, [.null])) ++ [(q1, .inr (4, [.null, .null, .int (nI 0)]))]) ((G.set k (r, .inr (5, [.null]))).length + 0) q1 ((cs_get (L := (G.set k (r, .inr (5, [.null])))) (M := [(q1, .inr (4, [.null, .null, .int (nI 0)]))]) (j := 0)).trans rfl)) ⟨va_cnB 0 hts gX3_init_X2_init_n9 rfl rfl rfl hC.2.2.2.2.2.2.2.2.2.2.2.2 (hts (.initialized RX2) (tm 9 (by decide +kernel) rfl)) (by decide +kernel) ⟨Nat.le_of_ble_eq_true rfl, Nat.le_of_ble_eq_true rfl⟩, rfl, hts (.instanceMethod yX2_init) (by decide +kernel)⟩ hC.preS rfl rfl hl.1 rfl (lv_room (Nat.le_of_ble_eq_true rfl)) dX3_init_9 ⟨Nat.le_of_ble_eq_true rfl, Nat.le_of_ble_eq_true rfl⟩) hC (fun u2 H locs _ hC => ?_)
  replace hC : WC dC dI z (G.set k (r, .inr (5, [.null])) ++ [(q1, .inr (4, [.ref u2.1, .ref u2.2, .int (nI 0)])), (u2.1, .inl (dC 20, 16, .inl (fun _ => nI 0))), (u2.2, .inl (dC 20, 16, .inl (fun _ => nI 0)))]) s H locs := hC.eqG (by rw [cs_set, List.append_assoc]; rfl)
  refine va_putF (D := (dC, dI)) (ci := 5) (C := RX3) (T := TX3) (N := 1) (fs := [.null]) hx hb hts hinX3 tyX3 tyX3_ok nmX3 hown hC.2.1 hC.1 hC.2.2.1 hC.2.2.2.1 k (cs_k hk) rfl 0 (by decide) (hts (.fieldLink RX3 10 "Orderlattice$Sorter" "gathered" "LOrderlattice$Row;") (tm 20 (by decide +kernel) rfl)) (fun _ h => h) rfl hin2 rfl rfl rfl rfl (Nat.le_of_ble_eq_true rfl) dX3_init_12 (fun H locs h1 h2 h3 => ?_)
  replace hC : WC dC dI z (G.set k (r, .inr (5, [.ref q1])) ++ [(q1, .inr (4, [.ref u2.1, .ref u2.2, .int (nI 0)])), (u2.1, .inl (dC 20, 16, .inl (fun _ => nI 0))), (u2.2, .inl (dC 20, 16, .inl (fun _ => nI 0)))]) s H locs := (hC.to h1 h2 h3).eqG (by rw [cs_kset hk]; rfl)
  exact W.widen (k := 3) (n := 35) (by simp) (by simp) (W.vret hx hb hr (fun t9 ht9 hW9 => ⟨⟨(q1, u2), rfl, trivial, hC.P ht9 hW9⟩, hC.F ht9⟩) hC.L dX3_init_15)
set_option maxHeartbeats 4000000 in
set_option maxRecDepth 100000 in
theorem m_X0_init (l : Launch) (dC : Nat → ClassId) (dI : Nat → Nat → Nat) (z : Nat) (G : va_W) (k r : Nat) (hG : G[k]? = some (r, .inr (2, [.null, .null, .null, .null]))) : Met l yX0_init wsX0_init ({ frames := 3, cells := 15, slots := 167, locals := 60 } : Room) (va_Pc [.ref r] (PC dC dI z G)) (va_Qv (fun _ : Nat × (Nat × Nat × Nat) × Nat × (Nat × Nat) × Nat × (Nat × Nat) × Nat × Nat × Nat × Nat × Nat => True) (fun u t => PC dC dI z (G.set k (r, .inr (2, [.ref u.1, .ref u.2.2.1, .ref u.2.2.2.2.1, .ref u.2.2.2.2.2.2.1])) ++ [(u.1, .inr (5, [.ref u.2.1.1])), (u.2.1.1, .inr (4, [.ref u.2.1.2.1, .ref u.2.1.2.2, .int (nI 0)])), (u.2.1.2.1, .inl (dC 20, 16, .inl (fun _ => nI 0))), (u.2.1.2.2, .inl (dC 20, 16, .inl (fun _ => nI 0))), (u.2.2.1, .inr (4, [.ref u.2.2.2.1.1, .ref u.2.2.2.1.2, .int (nI 0)])), (u.2.2.2.1.1, .inl (dC 20, 16, .inl (fun _ => nI 0))), (u.2.2.2.1.2, .inl (dC 20, 16, .inl (fun _ => nI 0))), (u.2.2.2.2.1, .inr (4, [.ref u.2.2.2.2.2.1.1, .ref u.2.2.2.2.2.1.2, .int (nI 0)])), (u.2.2.2.2.2.1.1, .inl (dC 20, 16, .inl (fun _ => nI 0))), (u.2.2.2.2.2.1.2, .inl (dC 20, 16, .inl (fun _ => nI 0))), (u.2.2.2.2.2.2.1, .inr (3, [.ref u.2.2.2.2.2.2.2.1, .ref u.2.2.2.2.2.2.2.2.1, .ref u.2.2.2.2.2.2.2.2.2.1, .ref u.2.2.2.2.2.2.2.2.2.2, .int (nI 0), .int (nI 1)])), (u.2.2.2.2.2.2.2.1, .inl (dC 20, 10, .inl (fun _ => nI 0))), (u.2.2.2.2.2.2.2.2.1, .inl (dC 21, 10, .inl (fun _ => bI false))), (u.2.2.2.2.2.2.2.2.2.1, .inl (dC 22, 16, .inr (.inl (fun _ => lN 0)))), (u.2.2.2.2.2.2.2.2.2.2, .inl (dC 20, 16, .inl (fun _ => nI 0)))]) t) (zB z)) 15 167 (zB z) := by
  refine ofWF (cc := cX0_init) (maxL := 1) (ret := none) (by decide +kernel) rfl ?_
  intro p e s m args below meth c s₁ B hml hv
  obtain ⟨rfl, hPC⟩ := hv
  have hx := B.exec
  have hb := B.bytes
  have hr := B.returns
  have hts := atoms_spec (ws := wsX0_init) B.pre
  have hown : s.vm.findClass RX0 = some m.cls := findClass_of_methodNamed B.named
  have hlocks := B.notSynchronized
  have hin2 : meth.name = "<init>" := (name_of_methodNamed B.named B.method).1
  have hinX0 : ∀ w ∈ u_ws RX0 TX0 4, w ∈ wsX0_init := tu 1325 (by decide +kernel) rfl
  have hk : k < G.length := (List.getElem?_eq_some_iff.mp hG).1
  have hC : WC dC dI z (G.set k (r, .inr (2, [.null, .null, .null, .null])) ++ []) s s.heap [] := (WC.of hPC).eqG (by rw [set_same hG, List.append_nil])
  have hl := lv_entry ([.ref r]) (n := 1) (Nat.le_of_ble_eq_true rfl)
  rw [lg_entry_eq]
  generalize (lg_sl ([.ref r]) ++ List.replicate (1 - (lg_sl ([.ref r])).length) Slot.unset).toArray = ls at hl ⊢
  have hl : lv_has ls 1 [(0, .ref r)] := hl
  show W p l e ({ frames := 3, cells := 15, slots := 167, locals := 60 } : Room) s m ([.ref r]).toArray below meth c s.heap [] 0 0 (MQ below (va_Qv (fun _ : Nat × (Nat × Nat × Nat) × Nat × (Nat × Nat) × Nat × (Nat × Nat) × Nat × Nat × Nat × Nat × Nat => True) (fun u t => PC dC dI z (G.set k (r, .inr (2, [.ref u.1, .ref u.2.2.1, .ref u.2.2.2.2.1, .ref u.2.2.2.2.2.2.1])) ++ [(u.1, .inr (5, [.ref u.2.1.1])), (u.2.1.1, .inr (4, [.ref u.2.1.2.1, .ref u.2.1.2.2, .int (nI 0)])), (u.2.1.2.1, .inl (dC 20, 16, .inl (fun _ => nI 0))), (u.2.1.2.2, .inl (dC 20, 16, .inl (fun _ => nI 0))), (u.2.2.1, .inr (4, [.ref u.2.2.2.1.1, .ref u.2.2.2.1.2, .int (nI 0)])), (u.2.2.2.1.1, .inl (dC 20, 16, .inl (fun _ => nI 0))), (u.2.2.2.1.2, .inl (dC 20, 16, .inl (fun _ => nI 0))), (u.2.2.2.2.1, .inr (4, [.ref u.2.2.2.2.2.1.1, .ref u.2.2.2.2.2.1.2, .int (nI 0)])), (u.2.2.2.2.2.1.1, .inl (dC 20, 16, .inl (fun _ => nI 0))), (u.2.2.2.2.2.1.2, .inl (dC 20, 16, .inl (fun _ => nI 0))), (u.2.2.2.2.2.2.1, .inr (3, [.ref u.2.2.2.2.2.2.2.1, .ref u.2.2.2.2.2.2.2.2.1, .ref u.2.2.2.2.2.2.2.2.2.1, .ref u.2.2.2.2.2.2.2.2.2.2, .int (nI 0), .int (nI 1)])), (u.2.2.2.2.2.2.2.1, .inl (dC 20, 10, .inl (fun _ => nI 0))), (u.2.2.2.2.2.2.2.2.1, .inl (dC 21, 10, .inl (fun _ => bI false))), (u.2.2.2.2.2.2.2.2.2.1, .inl (dC 22, 16, .inr (.inl (fun _ => lN 0)))), (u.2.2.2.2.2.2.2.2.2.2, .inl (dC 20, 16, .inl (fun _ => nI 0)))]) t) (zB z)) [.ref r].toArray s 15 167 (zB z)) (F0 m 0 ls [])
  refine lv_aload_n hx hb dX0_init_0 rfl (lv_at hl 0 rfl) ?_
  refine W.objInit hx hb hown (hts (.methodLink RX0 3 objectInit) (tm 0 (by decide +kernel) rfl)) (hts (.instanceMethod objectInit) (tm 1 (by decide +kernel) rfl)) (hts (.code objectInit ⟨#[0xb1]⟩ 1 none) (tm 2 (by decide +kernel) rfl)) (g := F0 m 1 ls [.ref r]) rfl (by rw [hml]; exact hl.1) rfl dX0_init_1 (Nat.le_of_ble_eq_true rfl) (Nat.le_of_ble_eq_true rfl) ?_
  show W p l e _ s m _ below meth c _ _ _ _ _ (F0 m 4 ls [])
  refine lv_aload_n hx hb dX0_init_4 rfl (lv_at hl 0 rfl) ?_
  refine va_new (D := (dC, dI)) (ci := 5) (C := RX3) (T := TX3) (N := 1) (fs := [.null]) hx hb hts (by decide +kernel : ∀ w ∈ u_ws RX3 TX3 1, w ∈ wsX0_init) tyX3 tyX3_ok hown (hts (.classLink RX0 9 RX3) (tm 3 (by decide +kernel) rfl)) (hts (.instantiable RX3 1) (tm 4 (by decide +kernel) rfl)) (hts (.initialized RX3) (tm 5 (by decide +kernel) rfl)) hC.2.1 hC.1 hC.2.2.1 hC.2.2.2.1 (fun q hq => Nat.le_trans hC.2.2.2.2.1 hq) rfl (fun j hj => by rcases (show j = 0 by omega) with rfl <;> rfl) (Nat.le_of_ble_eq_true rfl) (Nat.le_of_ble_eq_true rfl) dX0_init_5 (fun q1 H h1 h2 h3 => ?_)
  replace hC : WC dC dI z (G.set k (r, .inr (2, [.null, .null, .null, .null])) ++ [(q1, .inr (5, [.null]))]) s H _ := (hC.to h1 h2 h3).eqG (by rw [List.append_assoc]; rfl)
  refine lv_dup hx hb dX0_init_8 rfl ?_
  refine kc_v (va_runIN (As := []) (rest := [.ref q1, .ref r]) ⟨hx, hb, hml, hown, hts⟩ (m_X3_init l dC dI z (G.set k (r, .inr (2, [.null, .null, .null, .null])) ++ [(q1, .inr (5, [.null]))]) ((G.set k (r, .inr (2, [.null, .null, .null, .null]))).length + 0) q1 ((cs_get (L := (G.set k (r, .inr (2, [.null, .null, .null, .null])))) (M := [(q1, .inr (5, [.null]))]) (j := 0)).trans rfl)) ⟨va_cnB 0 hts gX0_init_X3_init_n11 rfl rfl rfl hC.2.2.2.2.2.2.2.2.2.1 (hts (.initialized RX3) (tm 5 (by decide +kernel) rfl)) (by decide +kernel) ⟨Nat.le_of_ble_eq_true rfl, Nat.le_of_ble_eq_true rfl⟩, rfl, hts (.instanceMethod yX3_init) (by decide +kernel)⟩ hC.preS rfl rfl hl.1 rfl (lv_room (Nat.le_of_ble_eq_true rfl)) dX0_init_9 ⟨Nat.le_of_ble_eq_true rfl, Nat.le_of_ble_eq_true rfl⟩) hC (fun u2 H locs _ hC => ?_)
  replace hC : WC dC dI z (G.set k (r, .inr (2, [.null, .null, .null, .null])) ++ [(q1, .inr (5, [.ref u2.1])), (u2.1, .inr (4, [.ref u2.2.1, .ref u2.2.2, .int (nI 0)])), (u2.2.1, .inl (dC 20, 16, .inl (fun _ => nI 0))), (u2.2.2, .inl (dC 20, 16, .inl (fun _ => nI 0)))]) s H locs := hC.eqG (by rw [cs_set, List.append_assoc]; rfl)
  refine va_putF (D := (dC, dI)) (ci := 2) (C := RX0) (T := TX0) (N := 4) (fs := [.null, .null, .null, .null]) hx hb hts hinX0 tyX0 tyX0_ok nmX0 hown hC.2.1 hC.1 hC.2.2.1 hC.2.2.2.1 k (cs_k hk) rfl 0 (by decide) (hts (.fieldLink RX0 12 "Orderlattice$Auditor" "sorter" "LOrderlattice$Sorter;") (tm 6 (by decide +kernel) rfl)) (fun _ h => h) rfl hin2 rfl rfl rfl rfl (Nat.le_of_ble_eq_true rfl) dX0_init_12 (fun H locs h1 h2 h3 => ?_)
  replace hC : WC dC dI z (G.set k (r, .inr (2, [.ref q1, .null, .null, .null])) ++ [(q1, .inr (5, [.ref u2.1])), (u2.1, .inr (4, [.ref u2.2.1, .ref u2.2.2, .int (nI 0)])), (u2.2.1, .inl (dC 20, 16, .inl (fun _ => nI 0))), (u2.2.2, .inl (dC 20, 16, .inl (fun _ => nI 0)))]) s H locs := (hC.to h1 h2 h3).eqG (by rw [cs_kset hk]; rfl)
  refine lv_aload_n hx hb dX0_init_15 rfl (lv_at hl 0 rfl) ?_
  refine va_new (D := (dC, dI)) (ci := 4) (C := RX2) (T := TX2) (N := 3) (fs := [.null, .null, .int (nI 0)]) hx hb hts (by decide +kernel : ∀ w ∈ u_ws RX2 TX2 3, w ∈ wsX0_init) tyX2 tyX2_ok hown (hts (.classLink RX0 18 RX2) (tm 7 (by decide +kernel) rfl)) (hts (.instantiable RX2 3) (tm 8 (by decide +kernel) rfl)) (hts (.initialized RX2) (tm 9 (by decide +kernel) rfl)) hC.2.1 hC.1 hC.2.2.1 hC.2.2.2.1 (fun q hq => Nat.le_trans hC.2.2.2.2.1 hq) rfl (fun j hj => by rcases (show j = 0 ∨ j = 1 ∨ j = 2 by omega) with rfl | rfl | rfl <;> rfl) (Nat.le_of_ble_eq_true rfl) (Nat.le_of_ble_eq_true rfl) dX0_init_16 (fun q3 H h1 h2 h3 => ?_)
  replace hC : WC dC dI z (G.set k (r, .inr (2, [.ref q1, .null, .null, .null])) ++ [(q1, .inr (5, [.ref u2.1])), (u2.1, .inr (4, [.ref u2.2.1, .ref u2.2.2, .int (nI 0)])), (u2.2.1, .inl (dC 20, 16, .inl (fun _ => nI 0))), (u2.2.2, .inl (dC 20, 16, .inl (fun _ => nI 0))), (q3, .inr (4, [.null, .null, .int (nI 0)]))]) s H _ := (hC.to h1 h2 h3).eqG (by rw [List.append_assoc]; rfl)
  refine lv_dup hx hb dX0_init_19 rfl ?_
  refine kc_v (va_runIN (As := []) (rest := [.ref q3, .ref r]) ⟨hx, hb, hml, hown, hts⟩ (m_X2_init l dC dI z (G.set k (r, .inr (2, [.ref q1, .null, .null, .null])) ++ [(q1, .inr (5, [.ref u2.1])), (u2.1, .inr (4, [.ref u2.2.1, .ref u2.2.2, .int (nI 0)])), (u2.2.1, .inl (dC 20, 16, .inl (fun _ => nI 0))), (u2.2.2, .inl (dC 20, 16, .inl (fun _ => nI 0))), (q3, .inr (4, [.null, .null, .int (nI 0)]))]) ((G.set k (r, .inr (2, [.ref q1, .null, .null, .null]))).length + 4) q3 ((cs_get (L := (G.set k (r, .inr (2, [.ref q1, .null, .null, .null])))) (M := [(q1, .inr (5, [.ref u2.1])), (u2.1, .inr (4, [.ref u2.2.1, .ref u2.2.2, .int (nI 0)])), (u2.2.1, .inl (dC 20, 16, .inl (fun _ => nI 0))), (u2.2.2, .inl (dC 20, 16, .inl (fun _ => nI 0))), (q3, .inr (4, [.null, .null, .int (nI 0)]))]) (j := 4)).trans rfl)) ⟨va_cnB 0 hts gX0_init_X2_init_n20 rfl rfl rfl hC.2.2.2.2.2.2.2.2.2.2.1 (hts (.initialized RX2) (tm 9 (by decide +kernel) rfl)) (by decide +kernel) ⟨Nat.le_of_ble_eq_true rfl, Nat.le_of_ble_eq_true rfl⟩, rfl, hts (.instanceMethod yX2_init) (by decide +kernel)⟩ hC.preS rfl rfl hl.1 rfl (lv_room (Nat.le_of_ble_eq_true rfl)) dX0_init_20 ⟨Nat.le_of_ble_eq_true rfl, Nat.le_of_ble_eq_true rfl⟩) hC (fun u4 H locs _ hC => ?_)
  replace hC : WC dC dI z (G.set k (r, .inr (2, [.ref q1, .null, .null, .null])) ++ [(q1, .inr (5, [.ref u2.1])), (u2.1, .inr (4, [.ref u2.2.1, .ref u2.2.2, .int (nI 0)])), (u2.2.1, .inl (dC 20, 16, .inl (fun _ => nI 0))), (u2.2.2, .inl (dC 20, 16, .inl (fun _ => nI 0))), (q3, .inr (4, [.ref u4.1, .ref u4.2, .int (nI 0)])), (u4.1, .inl (dC 20, 16, .inl (fun _ => nI 0))), (u4.2, .inl (dC 20, 16, .inl (fun _ => nI 0)))]) s H locs := hC.eqG (by rw [cs_set, List.append_assoc]; rfl)
  refine va_putF (D := (dC, dI)) (ci := 2) (C := RX0) (T := TX0) (N := 4) (fs := [.ref q1, .null, .null, .null]) hx hb hts hinX0 tyX0 tyX0_ok nmX0 hown hC.2.1 hC.1 hC.2.2.1 hC.2.2.2.1 k (cs_k hk) rfl 1 (by decide) (hts (.fieldLink RX0 21 "Orderlattice$Auditor" "left" "LOrderlattice$Row;") (tm 10 (by decide +kernel) rfl)) (fun _ h => h) rfl hin2 rfl rfl rfl rfl (Nat.le_of_ble_eq_true rfl) dX0_init_23 (fun H locs h1 h2 h3 => ?_)
  replace hC : WC dC dI z (G.set k (r, .inr (2, [.ref q1, .ref q3, .null, .null])) ++ [(q1, .inr (5, [.ref u2.1])), (u2.1, .inr (4, [.ref u2.2.1, .ref u2.2.2, .int (nI 0)])), (u2.2.1, .inl (dC 20, 16, .inl (fun _ => nI 0))), (u2.2.2, .inl (dC 20, 16, .inl (fun _ => nI 0))), (q3, .inr (4, [.ref u4.1, .ref u4.2, .int (nI 0)])), (u4.1, .inl (dC 20, 16, .inl (fun _ => nI 0))), (u4.2, .inl (dC 20, 16, .inl (fun _ => nI 0)))]) s H locs := (hC.to h1 h2 h3).eqG (by rw [cs_kset hk]; rfl)
  refine lv_aload_n hx hb dX0_init_26 rfl (lv_at hl 0 rfl) ?_
  refine va_new (D := (dC, dI)) (ci := 4) (C := RX2) (T := TX2) (N := 3) (fs := [.null, .null, .int (nI 0)]) hx hb hts (by decide +kernel : ∀ w ∈ u_ws RX2 TX2 3, w ∈ wsX0_init) tyX2 tyX2_ok hown (hts (.classLink RX0 18 RX2) (tm 7 (by decide +kernel) rfl)) (hts (.instantiable RX2 3) (tm 8 (by decide +kernel) rfl)) (hts (.initialized RX2) (tm 9 (by decide +kernel) rfl)) hC.2.1 hC.1 hC.2.2.1 hC.2.2.2.1 (fun q hq => Nat.le_trans hC.2.2.2.2.1 hq) rfl (fun j hj => by rcases (show j = 0 ∨ j = 1 ∨ j = 2 by omega) with rfl | rfl | rfl <;> rfl) (Nat.le_of_ble_eq_true rfl) (Nat.le_of_ble_eq_true rfl) dX0_init_27 (fun q5 H h1 h2 h3 => ?_)
  replace hC : WC dC dI z (G.set k (r, .inr (2, [.ref q1, .ref q3, .null, .null])) ++ [(q1, .inr (5, [.ref u2.1])), (u2.1, .inr (4, [.ref u2.2.1, .ref u2.2.2, .int (nI 0)])), (u2.2.1, .inl (dC 20, 16, .inl (fun _ => nI 0))), (u2.2.2, .inl (dC 20, 16, .inl (fun _ => nI 0))), (q3, .inr (4, [.ref u4.1, .ref u4.2, .int (nI 0)])), (u4.1, .inl (dC 20, 16, .inl (fun _ => nI 0))), (u4.2, .inl (dC 20, 16, .inl (fun _ => nI 0))), (q5, .inr (4, [.null, .null, .int (nI 0)]))]) s H _ := (hC.to h1 h2 h3).eqG (by rw [List.append_assoc]; rfl)
  refine lv_dup hx hb dX0_init_30 rfl ?_
  refine kc_v (va_runIN (As := []) (rest := [.ref q5, .ref r]) ⟨hx, hb, hml, hown, hts⟩ (m_X2_init l dC dI z (G.set k (r, .inr (2, [.ref q1, .ref q3, .null, .null])) ++ [(q1, .inr (5, [.ref u2.1])), (u2.1, .inr (4, [.ref u2.2.1, .ref u2.2.2, .int (nI 0)])), (u2.2.1, .inl (dC 20, 16, .inl (fun _ => nI 0))), (u2.2.2, .inl (dC 20, 16, .inl (fun _ => nI 0))), (q3, .inr (4, [.ref u4.1, .ref u4.2, .int (nI 0)])), (u4.1, .inl (dC 20, 16, .inl (fun _ => nI 0))), (u4.2, .inl (dC 20, 16, .inl (fun _ => nI 0))), (q5, .inr (4, [.null, .null, .int (nI 0)]))]) ((G.set k (r, .inr (2, [.ref q1, .ref q3, .null, .null]))).length + 7) q5 ((cs_get (L := (G.set k (r, .inr (2, [.ref q1, .ref q3, .null, .null])))) (M := [(q1, .inr (5, [.ref u2.1])), (u2.1, .inr (4, [.ref u2.2.1, .ref u2.2.2, .int (nI 0)])), (u2.2.1, .inl (dC 20, 16, .inl (fun _ => nI 0))), (u2.2.2, .inl (dC 20, 16, .inl (fun _ => nI 0))), (q3, .inr (4, [.ref u4.1, .ref u4.2, .int (nI 0)])), (u4.1, .inl (dC 20, 16, .inl (fun _ => nI 0))), (u4.2, .inl (dC 20, 16, .inl (fun _ => nI 0))), (q5, .inr (4, [.null, .null, .int (nI 0)]))]) (j := 7)).trans rfl)) ⟨va_cnB 0 hts gX0_init_X2_init_n20 rfl rfl rfl hC.2.2.2.2.2.2.2.2.2.2.1 (hts (.initialized RX2) (tm 9 (by decide +kernel) rfl)) (by decide +kernel) ⟨Nat.le_of_ble_eq_true rfl, Nat.le_of_ble_eq_true rfl⟩, rfl, hts (.instanceMethod yX2_init) (by decide +kernel)⟩ hC.preS rfl rfl hl.1 rfl (lv_room (Nat.le_of_ble_eq_true rfl)) dX0_init_31 ⟨Nat.le_of_ble_eq_true rfl, Nat.le_of_ble_eq_true rfl⟩) hC (fun u6 H locs _ hC => ?_)
  replace hC : WC dC dI z (G.set k (r, .inr (2, [.ref q1, .ref q3, .null, .null])) ++ [(q1, .inr (5, [.ref u2.1])), (u2.1, .inr (4, [.ref u2.2.1, .ref u2.2.2, .int (nI 0)])), (u2.2.1, .inl (dC 20, 16, .inl (fun _ => nI 0))), (u2.2.2, .inl (dC 20, 16, .inl (fun _ => nI 0))), (q3, .inr (4, [.ref u4.1, .ref u4.2, .int (nI 0)])), (u4.1, .inl (dC 20, 16, .inl (fun _ => nI 0))), (u4.2, .inl (dC 20, 16, .inl (fun _ => nI 0))), (q5, .inr (4, [.ref u6.1, .ref u6.2, .int (nI 0)])), (u6.1, .inl (dC 20, 16, .inl (fun _ => nI 0))), (u6.2, .inl (dC 20, 16, .inl (fun _ => nI 0)))]) s H locs := hC.eqG (by rw [cs_set, List.append_assoc]; rfl)
  refine va_putF (D := (dC, dI)) (ci := 2) (C := RX0) (T := TX0) (N := 4) (fs := [.ref q1, .ref q3, .null, .null]) hx hb hts hinX0 tyX0 tyX0_ok nmX0 hown hC.2.1 hC.1 hC.2.2.1 hC.2.2.2.1 k (cs_k hk) rfl 2 (by decide) (hts (.fieldLink RX0 25 "Orderlattice$Auditor" "right" "LOrderlattice$Row;") (tm 11 (by decide +kernel) rfl)) (fun _ h => h) rfl hin2 rfl rfl rfl rfl (Nat.le_of_ble_eq_true rfl) dX0_init_34 (fun H locs h1 h2 h3 => ?_)
  replace hC : WC dC dI z (G.set k (r, .inr (2, [.ref q1, .ref q3, .ref q5, .null])) ++ [(q1, .inr (5, [.ref u2.1])), (u2.1, .inr (4, [.ref u2.2.1, .ref u2.2.2, .int (nI 0)])), (u2.2.1, .inl (dC 20, 16, .inl (fun _ => nI 0))), (u2.2.2, .inl (dC 20, 16, .inl (fun _ => nI 0))), (q3, .inr (4, [.ref u4.1, .ref u4.2, .int (nI 0)])), (u4.1, .inl (dC 20, 16, .inl (fun _ => nI 0))), (u4.2, .inl (dC 20, 16, .inl (fun _ => nI 0))), (q5, .inr (4, [.ref u6.1, .ref u6.2, .int (nI 0)])), (u6.1, .inl (dC 20, 16, .inl (fun _ => nI 0))), (u6.2, .inl (dC 20, 16, .inl (fun _ => nI 0)))]) s H locs := (hC.to h1 h2 h3).eqG (by rw [cs_kset hk]; rfl)
  refine lv_aload_n hx hb dX0_init_37 rfl (lv_at hl 0 rfl) ?_
  refine va_new (D := (dC, dI)) (ci := 3) (C := RX1) (T := TX1) (N := 6) (fs := [.null, .null, .null, .null, .int (nI 0), .int (nI 0)]) hx hb hts (by decide +kernel : ∀ w ∈ u_ws RX1 TX1 6, w ∈ wsX0_init) tyX1 tyX1_ok hown (hts (.classLink RX0 28 RX1) (tm 12 (by decide +kernel) rfl)) (hts (.instantiable RX1 6) (tm 13 (by decide +kernel) rfl)) (hts (.initialized RX1) (tm 14 (by decide +kernel) rfl)) hC.2.1 hC.1 hC.2.2.1 hC.2.2.2.1 (fun q hq => Nat.le_trans hC.2.2.2.2.1 hq) rfl (fun j hj => by rcases (show j = 0 ∨ j = 1 ∨ j = 2 ∨ j = 3 ∨ j = 4 ∨ j = 5 by omega) with rfl | rfl | rfl | rfl | rfl | rfl <;> rfl) (Nat.le_of_ble_eq_true rfl) (Nat.le_of_ble_eq_true rfl) dX0_init_38 (fun q7 H h1 h2 h3 => ?_)
  replace hC : WC dC dI z (G.set k (r, .inr (2, [.ref q1, .ref q3, .ref q5, .null])) ++ [(q1, .inr (5, [.ref u2.1])), (u2.1, .inr (4, [.ref u2.2.1, .ref u2.2.2, .int (nI 0)])), (u2.2.1, .inl (dC 20, 16, .inl (fun _ => nI 0))), (u2.2.2, .inl (dC 20, 16, .inl (fun _ => nI 0))), (q3, .inr (4, [.ref u4.1, .ref u4.2, .int (nI 0)])), (u4.1, .inl (dC 20, 16, .inl (fun _ => nI 0))), (u4.2, .inl (dC 20, 16, .inl (fun _ => nI 0))), (q5, .inr (4, [.ref u6.1, .ref u6.2, .int (nI 0)])), (u6.1, .inl (dC 20, 16, .inl (fun _ => nI 0))), (u6.2, .inl (dC 20, 16, .inl (fun _ => nI 0))), (q7, .inr (3, [.null, .null, .null, .null, .int (nI 0), .int (nI 0)]))]) s H _ := (hC.to h1 h2 h3).eqG (by rw [List.append_assoc]; rfl)
  refine lv_dup hx hb dX0_init_41 rfl ?_
  refine kc_v (va_runIN (As := []) (rest := [.ref q7, .ref r]) ⟨hx, hb, hml, hown, hts⟩ (m_X1_init l dC dI z (G.set k (r, .inr (2, [.ref q1, .ref q3, .ref q5, .null])) ++ [(q1, .inr (5, [.ref u2.1])), (u2.1, .inr (4, [.ref u2.2.1, .ref u2.2.2, .int (nI 0)])), (u2.2.1, .inl (dC 20, 16, .inl (fun _ => nI 0))), (u2.2.2, .inl (dC 20, 16, .inl (fun _ => nI 0))), (q3, .inr (4, [.ref u4.1, .ref u4.2, .int (nI 0)])), (u4.1, .inl (dC 20, 16, .inl (fun _ => nI 0))), (u4.2, .inl (dC 20, 16, .inl (fun _ => nI 0))), (q5, .inr (4, [.ref u6.1, .ref u6.2, .int (nI 0)])), (u6.1, .inl (dC 20, 16, .inl (fun _ => nI 0))), (u6.2, .inl (dC 20, 16, .inl (fun _ => nI 0))), (q7, .inr (3, [.null, .null, .null, .null, .int (nI 0), .int (nI 0)]))]) ((G.set k (r, .inr (2, [.ref q1, .ref q3, .ref q5, .null]))).length + 10) q7 ((cs_get (L := (G.set k (r, .inr (2, [.ref q1, .ref q3, .ref q5, .null])))) (M := [(q1, .inr (5, [.ref u2.1])), (u2.1, .inr (4, [.ref u2.2.1, .ref u2.2.2, .int (nI 0)])), (u2.2.1, .inl (dC 20, 16, .inl (fun _ => nI 0))), (u2.2.2, .inl (dC 20, 16, .inl (fun _ => nI 0))), (q3, .inr (4, [.ref u4.1, .ref u4.2, .int (nI 0)])), (u4.1, .inl (dC 20, 16, .inl (fun _ => nI 0))), (u4.2, .inl (dC 20, 16, .inl (fun _ => nI 0))), (q5, .inr (4, [.ref u6.1, .ref u6.2, .int (nI 0)])), (u6.1, .inl (dC 20, 16, .inl (fun _ => nI 0))), (u6.2, .inl (dC 20, 16, .inl (fun _ => nI 0))), (q7, .inr (3, [.null, .null, .null, .null, .int (nI 0), .int (nI 0)]))]) (j := 10)).trans rfl)) ⟨va_cnB 0 hts gX0_init_X1_init_n30 rfl rfl rfl hC.2.2.2.2.2.2.2.2.2.2.2.1 (hts (.initialized RX1) (tm 14 (by decide +kernel) rfl)) (by decide +kernel) ⟨Nat.le_of_ble_eq_true rfl, Nat.le_of_ble_eq_true rfl⟩, rfl, hts (.instanceMethod yX1_init) (by decide +kernel)⟩ hC.preS rfl rfl hl.1 rfl (lv_room (Nat.le_of_ble_eq_true rfl)) dX0_init_42 ⟨Nat.le_of_ble_eq_true rfl, Nat.le_of_ble_eq_true rfl⟩) hC (fun u8 H locs _ hC => ?_)
  replace hC : WC dC dI z (G.set k (r, .inr (2, [.ref q1, .ref q3, .ref q5, .null])) ++ [(q1, .inr (5, [.ref u2.1])), (u2.1, .inr (4, [.ref u2.2.1, .ref u2.2.2, .int (nI 0)])), (u2.2.1, .inl (dC 20, 16, .inl (fun _ => nI 0))), (u2.2.2, .inl (dC 20, 16, .inl (fun _ => nI 0))), (q3, .inr (4, [.ref u4.1, .ref u4.2, .int (nI 0)])), (u4.1, .inl (dC 20, 16, .inl (fun _ => nI 0))), (u4.2, .inl (dC 20, 16, .inl (fun _ => nI 0))), (q5, .inr (4, [.ref u6.1, .ref u6.2, .int (nI 0)])), (u6.1, .inl (dC 20, 16, .inl (fun _ => nI 0))), (u6.2, .inl (dC 20, 16, .inl (fun _ => nI 0))), (q7, .inr (3, [.ref u8.1, .ref u8.2.1, .ref u8.2.2.1, .ref u8.2.2.2, .int (nI 0), .int (nI 1)])), (u8.1, .inl (dC 20, 10, .inl (fun _ => nI 0))), (u8.2.1, .inl (dC 21, 10, .inl (fun _ => bI false))), (u8.2.2.1, .inl (dC 22, 16, .inr (.inl (fun _ => lN 0)))), (u8.2.2.2, .inl (dC 20, 16, .inl (fun _ => nI 0)))]) s H locs := hC.eqG (by rw [cs_set, List.append_assoc]; rfl)
  refine va_putF (D := (dC, dI)) (ci := 2) (C := RX0) (T := TX0) (N := 4) (fs := [.ref q1, .ref q3, .ref q5, .null]) hx hb hts hinX0 tyX0 tyX0_ok nmX0 hown hC.2.1 hC.1 hC.2.2.1 hC.2.2.2.1 k (cs_k hk) rfl 3 (by decide) (hts (.fieldLink RX0 31 "Orderlattice$Auditor" "made" "LOrderlattice$Order;") (tm 15 (by decide +kernel) rfl)) (fun _ h => h) rfl hin2 rfl rfl rfl rfl (Nat.le_of_ble_eq_true rfl) dX0_init_45 (fun H locs h1 h2 h3 => ?_)
  replace hC : WC dC dI z (G.set k (r, .inr (2, [.ref q1, .ref q3, .ref q5, .ref q7])) ++ [(q1, .inr (5, [.ref u2.1])), (u2.1, .inr (4, [.ref u2.2.1, .ref u2.2.2, .int (nI 0)])), (u2.2.1, .inl (dC 20, 16, .inl (fun _ => nI 0))), (u2.2.2, .inl (dC 20, 16, .inl (fun _ => nI 0))), (q3, .inr (4, [.ref u4.1, .ref u4.2, .int (nI 0)])), (u4.1, .inl (dC 20, 16, .inl (fun _ => nI 0))), (u4.2, .inl (dC 20, 16, .inl (fun _ => nI 0))), (q5, .inr (4, [.ref u6.1, .ref u6.2, .int (nI 0)])), (u6.1, .inl (dC 20, 16, .inl (fun _ => nI 0))), (u6.2, .inl (dC 20, 16, .inl (fun _ => nI 0))), (q7, .inr (3, [.ref u8.1, .ref u8.2.1, .ref u8.2.2.1, .ref u8.2.2.2, .int (nI 0), .int (nI 1)])), (u8.1, .inl (dC 20, 10, .inl (fun _ => nI 0))), (u8.2.1, .inl (dC 21, 10, .inl (fun _ => bI false))), (u8.2.2.1, .inl (dC 22, 16, .inr (.inl (fun _ => lN 0)))), (u8.2.2.2, .inl (dC 20, 16, .inl (fun _ => nI 0)))]) s H locs := (hC.to h1 h2 h3).eqG (by rw [cs_kset hk]; rfl)
  exact W.widen (k := 15) (n := 167) (by simp) (by simp) (W.vret hx hb hr (fun t9 ht9 hW9 => ⟨⟨(q1, u2, q3, u4, q5, u6, q7, u8), rfl, trivial, hC.P ht9 hW9⟩, hC.F ht9⟩) hC.L dX0_init_48)
end
section
/-! THE REFERENCE'S WORLD: 21 cells by index: 0 the object, 1 values, 2 marks, 3 sizes, 4 keys, 5 downs, 6 steps, 7..9 the values of rows, 10..12 the marks of rows, 13..16 the keys of orders, 17..20 the downs of orders -/
abbrev OrdM : Type := (Nat → Nat) × (Nat → Bool) × Nat
abbrev MS : Type := (Nat → RowS) × (Nat → OrdM) × Nat × Nat × Nat × Nat
def mAr (am : Nat → Nat) (n b : Nat) : Nat → Option Nat := fun i => if i < n then some (am (b + i)) else none
theorem mAr_in {am : Nat → Nat} {n b i : Nat} (h : i < n) : mAr am n b i = some (am (b + i)) := if_pos h
def kTopM (dC : Nat → ClassId) (am : Nat → Nat) (M : MS) (k : Nat) : va_E := match k with
  | 0 => .inr (8, [.int (nI M.2.2.1), .ref (am 1), .ref (am 2), .ref (am 3), .ref (am 4), .ref (am 5), .ref (am 6), .int (nI M.2.2.2.1), .int (nI M.2.2.2.2.1), .int (nI M.2.2.2.2.2)])
  | 1 => .inl (dC 25, 3, .inr (.inr (.inr (.inr (mAr am 3 7)))))
  | 2 => .inl (dC 25, 3, .inr (.inr (.inr (.inr (mAr am 3 10)))))
  | 3 => .inl (dC 20, 3, .inl (fun i => nI (M.1 i).2.2))
  | 4 => .inl (dC 25, 4, .inr (.inr (.inr (.inr (mAr am 4 13)))))
  | 5 => .inl (dC 26, 4, .inr (.inr (.inr (.inr (mAr am 4 17)))))
  | _ => .inl (dC 20, 4, .inl (fun j => nI (M.2.1 j).2.2))
def kM (dC : Nat → ClassId) (am : Nat → Nat) (M : MS) (k : Nat) : va_E := if k < 7 then kTopM dC am M k else if k < 10 then .inl (dC 20, 12, .inl (fun q => nI ((M.1 (k - 7)).1 q))) else if k < 13 then .inl (dC 20, 12, .inl (fun q => nI ((M.1 (k - 10)).2.1 q))) else if k < 17 then .inl (dC 20, 5, .inl (fun q => nI ((M.2.1 (k - 13)).1 q))) else .inl (dC 21, 5, .inl (fun q => bI ((M.2.1 (k - 17)).2.1 q)))
def wM (dC : Nat → ClassId) (am : Nat → Nat) (M : MS) : va_W := (List.range 21).map (fun k => (am k, kM dC am M k))
def tyM (dC : Nat → ClassId) : List (ClassId × FieldType) := [(dC 20, .int), (dC 21, .boolean), (dC 25, .array .int), (dC 26, .array .boolean)]
/-- row i becomes r -/
def mR (M : MS) (i : Nat) (r : RowS) : MS := (va_up M.1 i r, M.2)
/-- order j becomes o -/
def mO (M : MS) (j : Nat) (o : OrdM) : MS := (M.1, va_up M.2.1 j o, M.2.2)
/-- the counters: thrown, put, refused, knocks -/
def mN (M : MS) (n : Nat × Nat × Nat × Nat) : MS := (M.1, M.2.1, n)
theorem mR_row (M : MS) (i : Nat) (r : RowS) : (mR M i r).1 i = r := va_up_self _ _ _
theorem mR_ne (M : MS) {i j : Nat} (r : RowS) (h : j ≠ i) : (mR M i r).1 j = M.1 j := va_up_ne _ _ h
theorem mO_ord (M : MS) (i : Nat) (r : OrdM) : (mO M i r).2.1 i = r := va_up_self _ _ _
theorem mO_ne (M : MS) {i j : Nat} (r : OrdM) (h : j ≠ i) : (mO M i r).2.1 j = M.2.1 j := va_up_ne _ _ h
theorem mR_mR (M : MS) (i : Nat) (r r' : RowS) : mR (mR M i r) i r' = mR M i r' := by
  unfold mR
  rw [bx_uu]
theorem mO_mO (M : MS) (i : Nat) (o o' : OrdM) : mO (mO M i o) i o' = mO M i o' := by
  unfold mO
  dsimp only
  rw [bx_uu]
theorem mR_self (M : MS) (i : Nat) : mR M i (M.1 i) = M := by
  unfold mR
  have h : va_up M.1 i (M.1 i) = M.1 := by
    funext j
    unfold va_up
    split
    · rename_i h; rw [h]
    · rfl
  rw [h]
theorem mO_self (M : MS) (i : Nat) : mO M i (M.2.1 i) = M := by
  unfold mO
  have h : va_up M.2.1 i (M.2.1 i) = M.2.1 := by
    funext j
    unfold va_up
    split
    · rename_i h; rw [h]
    · rfl
  rw [h]
theorem kM_v {dC : Nat → ClassId} {am : Nat → Nat} {M : MS} {i : Nat} (hi : i < 3) : kM dC am M (7 + i) = .inl (dC 20, 12, .inl (fun q => nI ((M.1 i).1 q))) := by
  rw [kM, if_neg (by omega), if_pos (by omega), show 7 + i - 7 = i by omega]
theorem kM_m {dC : Nat → ClassId} {am : Nat → Nat} {M : MS} {i : Nat} (hi : i < 3) : kM dC am M (10 + i) = .inl (dC 20, 12, .inl (fun q => nI ((M.1 i).2.1 q))) := by
  rw [kM, if_neg (by omega), if_neg (by omega), if_pos (by omega), show 10 + i - 10 = i by omega]
theorem kM_k {dC : Nat → ClassId} {am : Nat → Nat} {M : MS} {j : Nat} (hj : j < 4) : kM dC am M (13 + j) = .inl (dC 20, 5, .inl (fun q => nI ((M.2.1 j).1 q))) := by
  rw [kM, if_neg (by omega), if_neg (by omega), if_neg (by omega), if_pos (by omega), show 13 + j - 13 = j by omega]
theorem kM_d {dC : Nat → ClassId} {am : Nat → Nat} {M : MS} {j : Nat} (_ : j < 4) : kM dC am M (17 + j) = .inl (dC 21, 5, .inl (fun q => bI ((M.2.1 j).2.1 q))) := by
  rw [kM, if_neg (by omega), if_neg (by omega), if_neg (by omega), if_neg (by omega), show 17 + j - 17 = j by omega]
theorem kM_mR {dC : Nat → ClassId} {am : Nat → Nat} {M : MS} {i j : Nat} {r : RowS} (hi : i < 3) (h3 : j = 3 → r.2.2 = (M.1 i).2.2) (h7 : j = 7 + i → r.1 = (M.1 i).1) (h10 : j = 10 + i → r.2.1 = (M.1 i).2.1) : kM dC am (mR M i r) j = kM dC am M j := by
  by_cases a : j < 7
  · rw [kM, kM, if_pos a, if_pos a]
    by_cases e : j = 3
    · subst e
      have hf : (fun k => nI ((mR M i r).1 k).2.2) = fun k => nI (M.1 k).2.2 := by
        funext k
        by_cases hk : k = i
        · subst hk
          rw [mR_row, h3 rfl]
        · rw [mR_ne _ _ hk]
      show (Sum.inl _ : va_E) = Sum.inl _
      rw [hf]
    · rcases (show j = 0 ∨ j = 1 ∨ j = 2 ∨ j = 4 ∨ j = 5 ∨ j = 6 by omega) with rfl | rfl | rfl | rfl | rfl | rfl <;> rfl
  · by_cases b : j < 10
    · obtain ⟨k, hk, rfl⟩ : ∃ k, k < 3 ∧ j = 7 + k := ⟨j - 7, by omega, by omega⟩
      rw [kM_v hk, kM_v hk]
      by_cases e : k = i
      · subst e
        rw [mR_row, h7 rfl]
      · rw [mR_ne _ _ e]
    · by_cases d : j < 13
      · obtain ⟨k, hk, rfl⟩ : ∃ k, k < 3 ∧ j = 10 + k := ⟨j - 10, by omega, by omega⟩
        rw [kM_m hk, kM_m hk]
        by_cases e : k = i
        · subst e
          rw [mR_row, h10 rfl]
        · rw [mR_ne _ _ e]
      · rw [kM, kM, if_neg a, if_neg a, if_neg b, if_neg b, if_neg d, if_neg d]
        rfl
theorem kM_mO {dC : Nat → ClassId} {am : Nat → Nat} {M : MS} {i j : Nat} {o : OrdM} (hi : i < 4) (h6 : j = 6 → o.2.2 = (M.2.1 i).2.2) (h13 : j = 13 + i → o.1 = (M.2.1 i).1) (h17 : j = 17 + i → o.2.1 = (M.2.1 i).2.1) (hj : j < 21) : kM dC am (mO M i o) j = kM dC am M j := by
  by_cases a : j < 7
  · rw [kM, kM, if_pos a, if_pos a]
    by_cases e : j = 6
    · subst e
      have hf : (fun k => nI ((mO M i o).2.1 k).2.2) = fun k => nI (M.2.1 k).2.2 := by
        funext k
        by_cases hk : k = i
        · subst hk
          rw [mO_ord, h6 rfl]
        · rw [mO_ne _ _ hk]
      show (Sum.inl _ : va_E) = Sum.inl _
      rw [hf]
    · rcases (show j = 0 ∨ j = 1 ∨ j = 2 ∨ j = 3 ∨ j = 4 ∨ j = 5 by omega) with rfl | rfl | rfl | rfl | rfl | rfl <;> rfl
  · by_cases b : j < 13
    · by_cases d : j < 10
      · rw [kM, kM, if_neg a, if_neg a, if_pos d, if_pos d]
        rfl
      · rw [kM, kM, if_neg a, if_neg a, if_neg d, if_neg d, if_pos b, if_pos b]
        rfl
    · by_cases d : j < 17
      · obtain ⟨k, hk, rfl⟩ : ∃ k, k < 4 ∧ j = 13 + k := ⟨j - 13, by omega, by omega⟩
        rw [kM_k hk, kM_k hk]
        by_cases e : k = i
        · subst e
          rw [mO_ord, h13 rfl]
        · rw [mO_ne _ _ e]
      · obtain ⟨k, hk, rfl⟩ : ∃ k, k < 4 ∧ j = 17 + k := ⟨j - 17, by omega, by omega⟩
        rw [kM_d hk, kM_d hk]
        by_cases e : k = i
        · subst e
          rw [mO_ord, h17 rfl]
        · rw [mO_ne _ _ e]
theorem kM_mN {dC : Nat → ClassId} {am : Nat → Nat} {M : MS} {n : Nat × Nat × Nat × Nat} {j : Nat} (hj : j ≠ 0) : kM dC am (mN M n) j = kM dC am M j := by
  by_cases a : j < 7
  · rw [kM, kM, if_pos a, if_pos a]
    rcases (show j = 1 ∨ j = 2 ∨ j = 3 ∨ j = 4 ∨ j = 5 ∨ j = 6 by omega) with rfl | rfl | rfl | rfl | rfl | rfl <;> rfl
  · rw [kM, kM, if_neg a, if_neg a]
    rfl
theorem wM_get {dC : Nat → ClassId} {am : Nat → Nat} {M : MS} {k : Nat} (hk : k < 21) : (wM dC am M)[k]? = some (am k, kM dC am M k) := by
  rw [wM, List.getElem?_map, List.getElem?_range hk]
  rfl
theorem wM_len {dC : Nat → ClassId} {am : Nat → Nat} {M : MS} : (wM dC am M).length = 21 := by rw [wM, List.length_map, List.length_range]
theorem wL_get {dC : Nat → ClassId} {am : Nat → Nat} {M : MS} {L : va_W} {k : Nat} (hk : k < 21) : (wM dC am M ++ L)[k]? = some (am k, kM dC am M k) := by
  rw [List.getElem?_append_left (by rw [wM_len]; exact hk), wM_get hk]
theorem wL_loc {dC : Nat → ClassId} {am : Nat → Nat} {M : MS} {L : va_W} {j : Nat} : (wM dC am M ++ L)[21 + j]? = L[j]? := by
  rw [List.getElem?_append_right (by rw [wM_len]; omega), wM_len, Nat.add_sub_cancel_left]
theorem wM_top {dC : Nat → ClassId} {am : Nat → Nat} {M : MS} {L : va_W} {k : Nat} (hk : k < 7) : (wM dC am M ++ L)[k]? = some (am k, kTopM dC am M k) := by
  rw [wL_get (by omega), kM, if_pos hk]
theorem wM_v {dC : Nat → ClassId} {am : Nat → Nat} {M : MS} {L : va_W} {i : Nat} (hi : i < 3) : (wM dC am M ++ L)[7 + i]? = some (am (7 + i), .inl (dC 20, 12, .inl (fun q => nI ((M.1 i).1 q)))) := by
  rw [wL_get (by omega), kM_v hi]
theorem wM_m {dC : Nat → ClassId} {am : Nat → Nat} {M : MS} {L : va_W} {i : Nat} (hi : i < 3) : (wM dC am M ++ L)[10 + i]? = some (am (10 + i), .inl (dC 20, 12, .inl (fun q => nI ((M.1 i).2.1 q)))) := by
  rw [wL_get (by omega), kM_m hi]
theorem wM_k {dC : Nat → ClassId} {am : Nat → Nat} {M : MS} {L : va_W} {j : Nat} (hj : j < 4) : (wM dC am M ++ L)[13 + j]? = some (am (13 + j), .inl (dC 20, 5, .inl (fun q => nI ((M.2.1 j).1 q)))) := by
  rw [wL_get (by omega), kM_k hj]
theorem wM_d {dC : Nat → ClassId} {am : Nat → Nat} {M : MS} {L : va_W} {j : Nat} (hj : j < 4) : (wM dC am M ++ L)[17 + j]? = some (am (17 + j), .inl (dC 21, 5, .inl (fun q => bI ((M.2.1 j).2.1 q)))) := by
  rw [wL_get (by omega), kM_d hj]
theorem wM_set {dC : Nat → ClassId} {am : Nat → Nat} {M M' : MS} {k : Nat} {e : va_E} (he : kM dC am M' k = e) (h : ∀ j, j < 21 → j ≠ k → kM dC am M' j = kM dC am M j) : (wM dC am M).set k (am k, e) = wM dC am M' := by
  apply List.ext_getElem?
  intro j
  by_cases hj : j < 21
  · rw [wM_get hj, List.getElem?_set]
    by_cases hkj : k = j
    · subst hkj
      rw [if_pos rfl, if_pos (by rw [wM, List.length_map, List.length_range]; exact hj), he]
    · rw [if_neg hkj, wM_get hj, h j hj (Ne.symm hkj)]
  · rw [List.getElem?_eq_none (by rw [List.length_set, wM, List.length_map, List.length_range]; omega), List.getElem?_eq_none (by rw [wM, List.length_map, List.length_range]; omega)]
theorem wL_set {dC : Nat → ClassId} {am : Nat → Nat} {M M' : MS} {L : va_W} {k : Nat} {e : va_E} (hk : k < 21) (he : kM dC am M' k = e) (h : ∀ j, j < 21 → j ≠ k → kM dC am M' j = kM dC am M j) : (wM dC am M ++ L).set k (am k, e) = wM dC am M' ++ L := by
  rw [List.set_append_left _ _ (by rw [wM_len]; exact hk), wM_set he h]
theorem wM_setV {dC : Nat → ClassId} {am : Nat → Nat} {M : MS} {L : va_W} {i : Nat} {f : Nat → Nat} (hi : i < 3) : (wM dC am M ++ L).set (7 + i) (am (7 + i), .inl (dC 20, 12, .inl (fun q => nI (f q)))) = wM dC am (mR M i (f, (M.1 i).2)) ++ L :=
  wL_set (by omega) (by rw [kM_v hi, mR_row]) (fun j _ hne => kM_mR hi (fun _ => rfl) (fun e => absurd e hne) (fun _ => rfl))
theorem wM_setM {dC : Nat → ClassId} {am : Nat → Nat} {M : MS} {L : va_W} {i : Nat} {f : Nat → Nat} (hi : i < 3) : (wM dC am M ++ L).set (10 + i) (am (10 + i), .inl (dC 20, 12, .inl (fun q => nI (f q)))) = wM dC am (mR M i ((M.1 i).1, f, (M.1 i).2.2)) ++ L :=
  wL_set (by omega) (by rw [kM_m hi, mR_row]) (fun j _ hne => kM_mR hi (fun _ => rfl) (fun _ => rfl) (fun e => absurd e hne))
theorem wM_setZ {dC : Nat → ClassId} {am : Nat → Nat} {M : MS} {L : va_W} {i n : Nat} (hi : i < 3) : (wM dC am M ++ L).set 3 (am 3, .inl (dC 20, 3, .inl (fun q => nI (va_up (fun k => (M.1 k).2.2) i n q)))) = wM dC am (mR M i ((M.1 i).1, (M.1 i).2.1, n)) ++ L := by
  refine wL_set (by decide) ?_ (fun j _ hne => kM_mR hi (fun e => absurd e hne) (fun _ => rfl) (fun _ => rfl))
  have hf : (fun k => nI ((mR M i ((M.1 i).1, (M.1 i).2.1, n)).1 k).2.2) = fun q => nI (va_up (fun k => (M.1 k).2.2) i n q) := by
    funext k
    by_cases hk : k = i
    · subst hk
      rw [mR_row, va_up_self]
    · rw [mR_ne _ _ hk, va_up_ne _ _ hk]
  rw [← hf]
  rfl
theorem wM_setK {dC : Nat → ClassId} {am : Nat → Nat} {M : MS} {L : va_W} {i : Nat} {f : Nat → Nat} (hi : i < 4) : (wM dC am M ++ L).set (13 + i) (am (13 + i), .inl (dC 20, 5, .inl (fun q => nI (f q)))) = wM dC am (mO M i (f, (M.2.1 i).2)) ++ L :=
  wL_set (by omega) (by rw [kM_k hi, mO_ord]) (fun j hj hne => kM_mO hi (fun _ => rfl) (fun e => absurd e hne) (fun _ => rfl) hj)
theorem wM_setD {dC : Nat → ClassId} {am : Nat → Nat} {M : MS} {L : va_W} {i : Nat} {f : Nat → Bool} (hi : i < 4) : (wM dC am M ++ L).set (17 + i) (am (17 + i), .inl (dC 21, 5, .inl (fun q => bI (f q)))) = wM dC am (mO M i ((M.2.1 i).1, f, (M.2.1 i).2.2)) ++ L :=
  wL_set (by omega) (by rw [kM_d hi, mO_ord]) (fun j hj hne => kM_mO hi (fun _ => rfl) (fun _ => rfl) (fun e => absurd e hne) hj)
theorem wM_setT {dC : Nat → ClassId} {am : Nat → Nat} {M : MS} {L : va_W} {i n : Nat} (hi : i < 4) : (wM dC am M ++ L).set 6 (am 6, .inl (dC 20, 4, .inl (fun q => nI (va_up (fun k => (M.2.1 k).2.2) i n q)))) = wM dC am (mO M i ((M.2.1 i).1, (M.2.1 i).2.1, n)) ++ L := by
  refine wL_set (by decide) ?_ (fun j hj hne => kM_mO hi (fun e => absurd e hne) (fun _ => rfl) (fun _ => rfl) hj)
  have hf : (fun k => nI ((mO M i ((M.2.1 i).1, (M.2.1 i).2.1, n)).2.1 k).2.2) = fun q => nI (va_up (fun k => (M.2.1 k).2.2) i n q) := by
    funext k
    by_cases hk : k = i
    · subst hk
      rw [mO_ord, va_up_self]
    · rw [mO_ne _ _ hk, va_up_ne _ _ hk]
  rw [← hf]
  rfl
theorem wM_setN {dC : Nat → ClassId} {am : Nat → Nat} {M : MS} {L : va_W} {n : Nat × Nat × Nat × Nat} : (wM dC am M ++ L).set 0 (am 0, kTopM dC am (mN M n) 0) = wM dC am (mN M n) ++ L :=
  wL_set (by decide) rfl (fun j _ hne => kM_mN hne)
/-- what a method of the reference may write -/
def AM (am : Nat → Nat) : Nat → Prop := fun q => ∃ k, k < 21 ∧ q = am k
theorem wM_in {dC : Nat → ClassId} {am : Nat → Nat} {M : MS} (k : Nat) (q : Nat × va_E) (h : (wM dC am M)[k]? = some q) : k < 21 ∧ q.1 = am k := by
  have hk : k < 21 := by
    have := (List.getElem?_eq_some_iff.mp h).1
    rw [wM, List.length_map, List.length_range] at this
    exact this
  rw [wM_get hk] at h
  cases h
  exact ⟨hk, rfl⟩
def PM (dC : Nat → ClassId) (dI : Nat → Nat → Nat) (am : Nat → Nat) (M : MS) (U : State) : Prop := va_P (dC, dI) vwCl (wM dC am M) U.heap ∧ va_K (dC, dI) vwCl (tyM dC) U ∧ va_D (AM am) (wM dC am M)
/-- what a method that makes cells may write -/
def AY (am : Nat → Nat) (z q : Nat) : Prop := AM am q ∨ zB z q
def WM (dC : Nat → ClassId) (dI : Nat → Nat → Nat) (am : Nat → Nat) (M : MS) (L : va_W) (A : Nat → Prop) (s : State) (H : Heap) (locs : List Loc) : Prop := va_P (dC, dI) vwCl (wM dC am M ++ L) H ∧ va_K (dC, dI) vwCl (tyM dC) s ∧ va_D A (wM dC am M ++ L) ∧ va_S A s.heap H locs
section KM0
variable {dC : Nat → ClassId} {dI : Nat → Nat → Nat} {am : Nat → Nat} {M : MS} {L : va_W} {A : Nat → Prop} {s U : State} {H : Heap} {locs : List Loc}
theorem WM.of (h : PM dC dI am M s) : WM dC dI am M [] (AM am) s s.heap [] := ⟨by rw [List.append_nil]; exact h.1, h.2.1, by rw [List.append_nil]; exact h.2.2, va_S.rf⟩
theorem WM.ofY (h : PM dC dI am M s) : WM dC dI am M [] (AY am s.heap.size) s s.heap [] := ⟨by rw [List.append_nil]; exact h.1, h.2.1, by rw [List.append_nil]; exact h.2.2.weaken (fun _ _ _ h => Or.inl h), va_S.rf⟩
theorem PM.call {a : Array Value} {g : JFrame} {mk : MethodId} (h : PM dC dI am M U) : PM dC dI am M (U.calling g mk a) := ⟨h.1, va_K.moved (u := U) (U := U.calling g mk a) (Vm.Alike.refl U.vm) h.2.1, h.2.2⟩
theorem PM.blind {av : List Value} : FrameBlind (va_Pc av (PM dC dI am M)) := fun _ _ _ _ h => ⟨h.1, h.2.call⟩
theorem wM_old {k : Nat} {q : Nat × va_E} (h : (wM dC am M)[k]? = some q) : (wM dC am M ++ L)[k]? = some q := by
  rw [List.getElem?_append_left (by rw [wM_len]; exact (wM_in k q h).1)]
  exact h
theorem WM.D (h : WM dC dI am M L A s H locs) : va_D (AM am) (wM dC am M) := ⟨fun i j p q hi hj e => h.2.2.1.1 i j p q (wM_old hi) (wM_old hj) e, fun k q hk => ⟨k, (wM_in k q hk).1, (wM_in k q hk).2⟩⟩
theorem WM.P (h : WM dC dI am M L A s H locs) (hU : U.heap = H) (hW : s.WarmedH U.vm) : PM dC dI am M U := ⟨by rw [hU]; exact fun k q hk => h.1 k q (wM_old hk), va_K.moved hW.alike h.2.1, h.D⟩
theorem WM.preObj (h : WM dC dI am M L A s H locs) {As : List Value} : PreV s H RX6 (am 0) (va_Pc (Value.ref (am 0) :: As) (PM dC dI am M)) As :=
  ⟨PM.blind, va_recv h.2.1 h.1 (ci := 8) (q0 := 0) rfl (wM_top (by decide)), fun _ hU hW => ⟨rfl, h.P hU hW⟩⟩
theorem WM.preS (h : WM dC dI am M L A s H locs) {As : List Value} : PreS s H (va_Pc As (PM dC dI am M)) As :=
  ⟨PM.blind, fun _ hU hW => ⟨rfl, h.P hU hW⟩⟩
theorem WM.eqS {M' : MS} (e : M = M') (h : WM dC dI am M L A s H locs) : WM dC dI am M' L A s H locs := e ▸ h
theorem WM.to {M' : MS} {ws : va_W} (he : ws = wM dC am M' ++ L) {H1 : Heap} {locs1 : List Loc} (hX : WM dC dI am M L A s H locs) (h1 : va_P (dC, dI) vwCl ws H1) (h2 : va_D A ws) (h3 : va_S A s.heap H1 locs1) : WM dC dI am M' L A s H1 locs1 := by
  subst he
  exact ⟨h1, hX.2.1, h2, h3⟩
theorem WM.toL {L' : va_W} {ws : va_W} (he : ws = wM dC am M ++ L') {H1 : Heap} {locs1 : List Loc} (hX : WM dC dI am M L A s H locs) (h1 : va_P (dC, dI) vwCl ws H1) (h2 : va_D A ws) (h3 : va_S A s.heap H1 locs1) : WM dC dI am M L' A s H1 locs1 := by
  subst he
  exact ⟨h1, hX.2.1, h2, h3⟩
/-- the addresses of the world's cells don't hang on what stands in them -/
theorem wM_addr {M M1 : MS} {k : Nat} {q : Nat × va_E} (h : (wM dC am M1 ++ L)[k]? = some q) : ∃ q', (wM dC am M ++ L)[k]? = some q' ∧ q'.1 = q.1 := by
  by_cases hk : k < 21
  · rw [wL_get hk] at h
    cases h
    exact ⟨_, wL_get hk, rfl⟩
  · obtain ⟨j, rfl⟩ : ∃ j, k = 21 + j := ⟨k - 21, by omega⟩
    rw [wL_loc] at h
    exact ⟨q, by rw [wL_loc]; exact h, rfl⟩
theorem wM_D {M M1 : MS} (h : va_D A (wM dC am M ++ L)) : va_D A (wM dC am M1 ++ L) := ⟨fun i j p q hi hj e => by
    obtain ⟨p', h1, e1⟩ := wM_addr (M := M) hi
    obtain ⟨q', h2, e2⟩ := wM_addr (M := M) hj
    exact h.1 i j p' q' h1 h2 (by rw [e1, e2, e]), fun k q hk => by
    obtain ⟨q', h1, e1⟩ := wM_addr (M := M) hk
    rw [← e1]
    exact h.2 k q' h1⟩
end KM0
section KM
variable {p : Program} {l : Launch} {e : Env} {R : Room} {s : State} {m : MethodId} {args : Array Value} {below : List Frame} {meth : Method} {c : Code} {H : Heap} {locs : List Loc} {cells slots mc ms : Nat} {Q : State → Prop}
variable {cc : ByteArray} {pc : Nat} {ls : Array Slot} {rest st0 : List Value} {a : Array Value} {A : Nat → Prop} {dC : Nat → ClassId} {dI : Nat → Nat → Nat} {am : Nat → Nat} {M : MS} {L : va_W} {Ts : List Cond} {index : Nat} {i k v n : Nat} {z : Bool}
theorem km_back {M1 : MS} {t : State} {H1 : Heap} {locs1 : List Loc} (hX : WM dC dI am M L A s H locs) (ht : t.heap = H1) (hB : PM dC dI am M1 t) (hk : ∀ q, q < H.size → ¬ AM am q → H1[q]? = H[q]?) (hS : va_S A s.heap H1 locs1) : WM dC dI am M1 L A s H1 locs1 := by
  have hD1 : va_D A (wM dC am M1 ++ L) := wM_D hX.2.2.1
  refine ⟨fun k q hq => ?_, hX.2.1, hD1, hS⟩
  by_cases h : k < 21
  · rw [wL_get h] at hq
    rw [← ht]
    exact hB.1 k q (by rw [wM_get h]; exact hq)
  · obtain ⟨j, rfl⟩ : ∃ j, k = 21 + j := ⟨k - 21, by omega⟩
    have hq0 : (wM dC am M ++ L)[21 + j]? = some q := by rw [wL_loc]; rw [wL_loc] at hq; exact hq
    refine (hX.1 _ q hq0).kept (hk q.1 ((hX.1 _ q hq0).lt) ?_)
    rintro ⟨k9, hk9, e9⟩
    have := hX.2.2.1.1 (21 + j) k9 q _ hq0 (wL_get hk9) e9
    omega
theorem km_cv {post : MS → Prop} (hr : va_Run p l e R s m args below meth c H locs cells slots 0 0 (F0 m pc ls st0) rest (va_Qv post (PM dC dI am) (AM am) a) (AM am)) (hX : WM dC dI am M L A s H locs) (hA : ∀ q, AM am q → A q) (kk : ∀ (M1 : MS) (H1 : Heap) (locs1 : List Loc), post M1 → WM dC dI am M1 L A s H1 locs1 → W p l e R s m args below meth c H1 locs1 cells slots Q (F0 m (pc + 3) ls rest)) : W p l e R s m args below meth c H locs cells slots Q (F0 m pc ls st0) :=
  va_callv hr hX.2.2.2 (fun q _ h => hA q h) hA (fun u t H1 locs1 ht hvm hp hB _ hk hS => kk u H1 locs1 hp (km_back hX ht hB hk hS))
theorem km_ci {post : Int32 → MS → Prop} (hr : va_Run p l e R s m args below meth c H locs cells slots 0 0 (F0 m pc ls st0) rest (va_Qi post (PM dC dI am) (AM am) a) (AM am)) (hX : WM dC dI am M L A s H locs) (hA : ∀ q, AM am q → A q) (kk : ∀ (r : Int32) (M1 : MS) (H1 : Heap) (locs1 : List Loc), post r M1 → WM dC dI am M1 L A s H1 locs1 → W p l e R s m args below meth c H1 locs1 cells slots Q (F0 m (pc + 3) ls (.int r :: rest))) : W p l e R s m args below meth c H locs cells slots Q (F0 m pc ls st0) :=
  va_calli hr hX.2.2.2 (fun q _ h => hA q h) hA (fun r u t H1 locs1 ht hvm hp hB _ hk hS => kk r u H1 locs1 hp (km_back hX ht hB hk hS))
theorem km_ciM {post : Int32 → MS → Prop} (hr : va_Run p l e R s m args below meth c H locs cells slots mc ms (F0 m pc ls st0) rest (va_Qi post (PM dC dI am) (AM am) a) (AM am)) (hX : WM dC dI am M L A s H locs) (hA : ∀ q, AM am q → A q) (kk : ∀ (r : Int32) (M1 : MS) (H1 : Heap) (locs1 : List Loc), post r M1 → WM dC dI am M1 L A s H1 locs1 → W p l e R s m args below meth c H1 locs1 (cells + mc) (slots + ms) Q (F0 m (pc + 3) ls (.int r :: rest))) : W p l e R s m args below meth c H locs cells slots Q (F0 m pc ls st0) :=
  va_calli hr hX.2.2.2 (fun q _ h => hA q h) hA (fun r u t H1 locs1 ht hvm hp hB _ hk hS => kk r u H1 locs1 hp (km_back hX ht hB hk hS))
/-- an element of an array of arrays -/
theorem va_aldA (hexec : p.tables.exec = Jvm.exec) (hb : c.code = cc) {D : va_G} {cl : List vw_C} {tys : List (ClassId × FieldType)} {ws : va_W} {a : Nat} (hK : va_K D cl tys s) (hP : va_P D cl ws H) (q0 t0 : Nat) {cA : ClassId} {ty : FieldType} {n : Nat} {f : Nat → Option Nat} (ha : ws[q0]? = some (a, .inl (cA, n, .inr (.inr (.inr (.inr f)))))) (ht : tys[t0]? = some (cA, .array ty)) {i : Int32} (hin : vp_in i n) (hdg : decode cc pc = .ok (.aaload, 1))
    (kk : W p l e R s m args below meth c H locs cells slots Q (F0 m (pc + 1) ls (va_rf (f i.toNatClampNeg) :: rest))) : W p l e R s m args below meth c H locs cells slots Q (F0 m pc ls (.int i :: .ref a :: rest)) := by
  have hlt : i.toNatClampNeg < n := Nat.not_le.mp fun q => hin (Or.inr q)
  exact W.aald (v := va_rf (f i.toNatClampNeg)) (ty := .array ty) hexec hb (hP q0 _ ha) ((hK.2 t0 _ ht).1 n (fun j => va_rf (f j))) rfl (fun q => by cases q) (by show ¬ (i < 0 ∨ (arrV _ _ _).slots.size ≤ _); rw [arrV_size]; exact hin) (by show (arrV _ _ _).slots[_]? = _; rw [arrV_read _ _ hlt]) rfl rfl hdg kk
theorem km_gthrown (hx : p.tables.exec = Jvm.exec) (hb : c.code = cc) (hts : ∀ w ∈ Ts, w.before args s = true) (hin : ∀ w ∈ u_ws RX6 TX6 10, w ∈ Ts) (hown : s.vm.findClass RX6 = some m.cls) (hX : WM dC dI am M L A s H locs) (hn : M.2.2.1 = n) (hlink : (Cond.fieldLink RX6 index "OrderlatticeModel" "thrown" "I").before args s = true) (hdg : decode cc pc = .ok (.getfield index, 3)) (kk : W p l e R s m args below meth c H locs cells slots Q (F0 m (pc + 3) ls (.int (nI n) :: rest))) : W p l e R s m args below meth c H locs cells slots Q (F0 m pc ls (.ref (am 0) :: rest)) :=
  va_get (D := (dC, dI)) (ci := 8) (C := RX6) (T := TX6) (N := 10) hx hb hts hin hown hX.2.1 hX.1 0 (wM_top (by decide)) rfl 0 (by decide) hlink (fun _ h => h) rfl hdg (by rw [hn]; exact kk)
theorem km_pthrown (hx : p.tables.exec = Jvm.exec) (hb : c.code = cc) (hts : ∀ w ∈ Ts, w.before args s = true) (hin : ∀ w ∈ u_ws RX6 TX6 10, w ∈ Ts) (hown : s.vm.findClass RX6 = some m.cls) (hX : WM dC dI am M L A s H locs) {M' : MS} (hS' : mN M (n, M.2.2.2) = M') (hlink : (Cond.fieldLink RX6 index "OrderlatticeModel" "thrown" "I").before args s = true) (hdg : decode cc pc = .ok (.putfield index, 3)) (kk : ∀ (H1 : Heap) (locs1 : List Loc), WM dC dI am M' L A s H1 locs1 → W p l e R s m args below meth c H1 locs1 cells slots Q (F0 m (pc + 3) ls rest)) : W p l e R s m args below meth c H locs cells slots Q (F0 m pc ls (.int (nI n) :: .ref (am 0) :: rest)) := by
  refine va_put (D := (dC, dI)) (ci := 8) (ty := .int) (C := RX6) (T := TX6) (N := 10) hx hb hts hin tyX6 tyX6_ok nmX6 hown hX.2.1 hX.1 hX.2.2.1 hX.2.2.2 0 (wM_top (by decide)) rfl 0 (by decide) hlink (fun _ h => h) rfl (by decide +kernel) rfl rfl (Nat.le_of_ble_eq_true rfl) hdg (fun H1 locs1 hP hD hS => kk H1 locs1 (WM.to ?_ hX hP hD hS))
  rw [← hS']
  exact wM_setN (n := (n, M.2.2.2))
theorem km_gvalues (hx : p.tables.exec = Jvm.exec) (hb : c.code = cc) (hts : ∀ w ∈ Ts, w.before args s = true) (hin : ∀ w ∈ u_ws RX6 TX6 10, w ∈ Ts) (hown : s.vm.findClass RX6 = some m.cls) (hX : WM dC dI am M L A s H locs)  (hlink : (Cond.fieldLink RX6 index "OrderlatticeModel" "values" "[[I").before args s = true) (hdg : decode cc pc = .ok (.getfield index, 3)) (kk : W p l e R s m args below meth c H locs cells slots Q (F0 m (pc + 3) ls (.ref (am 1) :: rest))) : W p l e R s m args below meth c H locs cells slots Q (F0 m pc ls (.ref (am 0) :: rest)) :=
  va_get (D := (dC, dI)) (ci := 8) (C := RX6) (T := TX6) (N := 10) hx hb hts hin hown hX.2.1 hX.1 0 (wM_top (by decide)) rfl 1 (by decide) hlink (fun _ h => h) rfl hdg kk
theorem km_gmarks (hx : p.tables.exec = Jvm.exec) (hb : c.code = cc) (hts : ∀ w ∈ Ts, w.before args s = true) (hin : ∀ w ∈ u_ws RX6 TX6 10, w ∈ Ts) (hown : s.vm.findClass RX6 = some m.cls) (hX : WM dC dI am M L A s H locs)  (hlink : (Cond.fieldLink RX6 index "OrderlatticeModel" "marks" "[[I").before args s = true) (hdg : decode cc pc = .ok (.getfield index, 3)) (kk : W p l e R s m args below meth c H locs cells slots Q (F0 m (pc + 3) ls (.ref (am 2) :: rest))) : W p l e R s m args below meth c H locs cells slots Q (F0 m pc ls (.ref (am 0) :: rest)) :=
  va_get (D := (dC, dI)) (ci := 8) (C := RX6) (T := TX6) (N := 10) hx hb hts hin hown hX.2.1 hX.1 0 (wM_top (by decide)) rfl 2 (by decide) hlink (fun _ h => h) rfl hdg kk
theorem km_gsizes (hx : p.tables.exec = Jvm.exec) (hb : c.code = cc) (hts : ∀ w ∈ Ts, w.before args s = true) (hin : ∀ w ∈ u_ws RX6 TX6 10, w ∈ Ts) (hown : s.vm.findClass RX6 = some m.cls) (hX : WM dC dI am M L A s H locs)  (hlink : (Cond.fieldLink RX6 index "OrderlatticeModel" "sizes" "[I").before args s = true) (hdg : decode cc pc = .ok (.getfield index, 3)) (kk : W p l e R s m args below meth c H locs cells slots Q (F0 m (pc + 3) ls (.ref (am 3) :: rest))) : W p l e R s m args below meth c H locs cells slots Q (F0 m pc ls (.ref (am 0) :: rest)) :=
  va_get (D := (dC, dI)) (ci := 8) (C := RX6) (T := TX6) (N := 10) hx hb hts hin hown hX.2.1 hX.1 0 (wM_top (by decide)) rfl 3 (by decide) hlink (fun _ h => h) rfl hdg kk
theorem km_gkeys (hx : p.tables.exec = Jvm.exec) (hb : c.code = cc) (hts : ∀ w ∈ Ts, w.before args s = true) (hin : ∀ w ∈ u_ws RX6 TX6 10, w ∈ Ts) (hown : s.vm.findClass RX6 = some m.cls) (hX : WM dC dI am M L A s H locs)  (hlink : (Cond.fieldLink RX6 index "OrderlatticeModel" "keys" "[[I").before args s = true) (hdg : decode cc pc = .ok (.getfield index, 3)) (kk : W p l e R s m args below meth c H locs cells slots Q (F0 m (pc + 3) ls (.ref (am 4) :: rest))) : W p l e R s m args below meth c H locs cells slots Q (F0 m pc ls (.ref (am 0) :: rest)) :=
  va_get (D := (dC, dI)) (ci := 8) (C := RX6) (T := TX6) (N := 10) hx hb hts hin hown hX.2.1 hX.1 0 (wM_top (by decide)) rfl 4 (by decide) hlink (fun _ h => h) rfl hdg kk
theorem km_gdowns (hx : p.tables.exec = Jvm.exec) (hb : c.code = cc) (hts : ∀ w ∈ Ts, w.before args s = true) (hin : ∀ w ∈ u_ws RX6 TX6 10, w ∈ Ts) (hown : s.vm.findClass RX6 = some m.cls) (hX : WM dC dI am M L A s H locs)  (hlink : (Cond.fieldLink RX6 index "OrderlatticeModel" "downs" "[[Z").before args s = true) (hdg : decode cc pc = .ok (.getfield index, 3)) (kk : W p l e R s m args below meth c H locs cells slots Q (F0 m (pc + 3) ls (.ref (am 5) :: rest))) : W p l e R s m args below meth c H locs cells slots Q (F0 m pc ls (.ref (am 0) :: rest)) :=
  va_get (D := (dC, dI)) (ci := 8) (C := RX6) (T := TX6) (N := 10) hx hb hts hin hown hX.2.1 hX.1 0 (wM_top (by decide)) rfl 5 (by decide) hlink (fun _ h => h) rfl hdg kk
theorem km_gsteps (hx : p.tables.exec = Jvm.exec) (hb : c.code = cc) (hts : ∀ w ∈ Ts, w.before args s = true) (hin : ∀ w ∈ u_ws RX6 TX6 10, w ∈ Ts) (hown : s.vm.findClass RX6 = some m.cls) (hX : WM dC dI am M L A s H locs)  (hlink : (Cond.fieldLink RX6 index "OrderlatticeModel" "steps" "[I").before args s = true) (hdg : decode cc pc = .ok (.getfield index, 3)) (kk : W p l e R s m args below meth c H locs cells slots Q (F0 m (pc + 3) ls (.ref (am 6) :: rest))) : W p l e R s m args below meth c H locs cells slots Q (F0 m pc ls (.ref (am 0) :: rest)) :=
  va_get (D := (dC, dI)) (ci := 8) (C := RX6) (T := TX6) (N := 10) hx hb hts hin hown hX.2.1 hX.1 0 (wM_top (by decide)) rfl 6 (by decide) hlink (fun _ h => h) rfl hdg kk
theorem km_gput (hx : p.tables.exec = Jvm.exec) (hb : c.code = cc) (hts : ∀ w ∈ Ts, w.before args s = true) (hin : ∀ w ∈ u_ws RX6 TX6 10, w ∈ Ts) (hown : s.vm.findClass RX6 = some m.cls) (hX : WM dC dI am M L A s H locs) (hn : M.2.2.2.1 = n) (hlink : (Cond.fieldLink RX6 index "OrderlatticeModel" "put" "I").before args s = true) (hdg : decode cc pc = .ok (.getfield index, 3)) (kk : W p l e R s m args below meth c H locs cells slots Q (F0 m (pc + 3) ls (.int (nI n) :: rest))) : W p l e R s m args below meth c H locs cells slots Q (F0 m pc ls (.ref (am 0) :: rest)) :=
  va_get (D := (dC, dI)) (ci := 8) (C := RX6) (T := TX6) (N := 10) hx hb hts hin hown hX.2.1 hX.1 0 (wM_top (by decide)) rfl 7 (by decide) hlink (fun _ h => h) rfl hdg (by rw [hn]; exact kk)
theorem km_pput (hx : p.tables.exec = Jvm.exec) (hb : c.code = cc) (hts : ∀ w ∈ Ts, w.before args s = true) (hin : ∀ w ∈ u_ws RX6 TX6 10, w ∈ Ts) (hown : s.vm.findClass RX6 = some m.cls) (hX : WM dC dI am M L A s H locs) {M' : MS} (hS' : mN M (M.2.2.1, n, M.2.2.2.2) = M') (hlink : (Cond.fieldLink RX6 index "OrderlatticeModel" "put" "I").before args s = true) (hdg : decode cc pc = .ok (.putfield index, 3)) (kk : ∀ (H1 : Heap) (locs1 : List Loc), WM dC dI am M' L A s H1 locs1 → W p l e R s m args below meth c H1 locs1 cells slots Q (F0 m (pc + 3) ls rest)) : W p l e R s m args below meth c H locs cells slots Q (F0 m pc ls (.int (nI n) :: .ref (am 0) :: rest)) := by
  refine va_put (D := (dC, dI)) (ci := 8) (ty := .int) (C := RX6) (T := TX6) (N := 10) hx hb hts hin tyX6 tyX6_ok nmX6 hown hX.2.1 hX.1 hX.2.2.1 hX.2.2.2 0 (wM_top (by decide)) rfl 7 (by decide) hlink (fun _ h => h) rfl (by decide +kernel) rfl rfl (Nat.le_of_ble_eq_true rfl) hdg (fun H1 locs1 hP hD hS => kk H1 locs1 (WM.to ?_ hX hP hD hS))
  rw [← hS']
  exact wM_setN (n := (M.2.2.1, n, M.2.2.2.2))
theorem km_grefused (hx : p.tables.exec = Jvm.exec) (hb : c.code = cc) (hts : ∀ w ∈ Ts, w.before args s = true) (hin : ∀ w ∈ u_ws RX6 TX6 10, w ∈ Ts) (hown : s.vm.findClass RX6 = some m.cls) (hX : WM dC dI am M L A s H locs) (hn : M.2.2.2.2.1 = n) (hlink : (Cond.fieldLink RX6 index "OrderlatticeModel" "refused" "I").before args s = true) (hdg : decode cc pc = .ok (.getfield index, 3)) (kk : W p l e R s m args below meth c H locs cells slots Q (F0 m (pc + 3) ls (.int (nI n) :: rest))) : W p l e R s m args below meth c H locs cells slots Q (F0 m pc ls (.ref (am 0) :: rest)) :=
  va_get (D := (dC, dI)) (ci := 8) (C := RX6) (T := TX6) (N := 10) hx hb hts hin hown hX.2.1 hX.1 0 (wM_top (by decide)) rfl 8 (by decide) hlink (fun _ h => h) rfl hdg (by rw [hn]; exact kk)
theorem km_prefused (hx : p.tables.exec = Jvm.exec) (hb : c.code = cc) (hts : ∀ w ∈ Ts, w.before args s = true) (hin : ∀ w ∈ u_ws RX6 TX6 10, w ∈ Ts) (hown : s.vm.findClass RX6 = some m.cls) (hX : WM dC dI am M L A s H locs) {M' : MS} (hS' : mN M (M.2.2.1, M.2.2.2.1, n, M.2.2.2.2.2) = M') (hlink : (Cond.fieldLink RX6 index "OrderlatticeModel" "refused" "I").before args s = true) (hdg : decode cc pc = .ok (.putfield index, 3)) (kk : ∀ (H1 : Heap) (locs1 : List Loc), WM dC dI am M' L A s H1 locs1 → W p l e R s m args below meth c H1 locs1 cells slots Q (F0 m (pc + 3) ls rest)) : W p l e R s m args below meth c H locs cells slots Q (F0 m pc ls (.int (nI n) :: .ref (am 0) :: rest)) := by
  refine va_put (D := (dC, dI)) (ci := 8) (ty := .int) (C := RX6) (T := TX6) (N := 10) hx hb hts hin tyX6 tyX6_ok nmX6 hown hX.2.1 hX.1 hX.2.2.1 hX.2.2.2 0 (wM_top (by decide)) rfl 8 (by decide) hlink (fun _ h => h) rfl (by decide +kernel) rfl rfl (Nat.le_of_ble_eq_true rfl) hdg (fun H1 locs1 hP hD hS => kk H1 locs1 (WM.to ?_ hX hP hD hS))
  rw [← hS']
  exact wM_setN (n := (M.2.2.1, M.2.2.2.1, n, M.2.2.2.2.2))
theorem km_gknocks (hx : p.tables.exec = Jvm.exec) (hb : c.code = cc) (hts : ∀ w ∈ Ts, w.before args s = true) (hin : ∀ w ∈ u_ws RX6 TX6 10, w ∈ Ts) (hown : s.vm.findClass RX6 = some m.cls) (hX : WM dC dI am M L A s H locs) (hn : M.2.2.2.2.2 = n) (hlink : (Cond.fieldLink RX6 index "OrderlatticeModel" "knocks" "I").before args s = true) (hdg : decode cc pc = .ok (.getfield index, 3)) (kk : W p l e R s m args below meth c H locs cells slots Q (F0 m (pc + 3) ls (.int (nI n) :: rest))) : W p l e R s m args below meth c H locs cells slots Q (F0 m pc ls (.ref (am 0) :: rest)) :=
  va_get (D := (dC, dI)) (ci := 8) (C := RX6) (T := TX6) (N := 10) hx hb hts hin hown hX.2.1 hX.1 0 (wM_top (by decide)) rfl 9 (by decide) hlink (fun _ h => h) rfl hdg (by rw [hn]; exact kk)
theorem km_pknocks (hx : p.tables.exec = Jvm.exec) (hb : c.code = cc) (hts : ∀ w ∈ Ts, w.before args s = true) (hin : ∀ w ∈ u_ws RX6 TX6 10, w ∈ Ts) (hown : s.vm.findClass RX6 = some m.cls) (hX : WM dC dI am M L A s H locs) {M' : MS} (hS' : mN M (M.2.2.1, M.2.2.2.1, M.2.2.2.2.1, n) = M') (hlink : (Cond.fieldLink RX6 index "OrderlatticeModel" "knocks" "I").before args s = true) (hdg : decode cc pc = .ok (.putfield index, 3)) (kk : ∀ (H1 : Heap) (locs1 : List Loc), WM dC dI am M' L A s H1 locs1 → W p l e R s m args below meth c H1 locs1 cells slots Q (F0 m (pc + 3) ls rest)) : W p l e R s m args below meth c H locs cells slots Q (F0 m pc ls (.int (nI n) :: .ref (am 0) :: rest)) := by
  refine va_put (D := (dC, dI)) (ci := 8) (ty := .int) (C := RX6) (T := TX6) (N := 10) hx hb hts hin tyX6 tyX6_ok nmX6 hown hX.2.1 hX.1 hX.2.2.1 hX.2.2.2 0 (wM_top (by decide)) rfl 9 (by decide) hlink (fun _ h => h) rfl (by decide +kernel) rfl rfl (Nat.le_of_ble_eq_true rfl) hdg (fun H1 locs1 hP hD hS => kk H1 locs1 (WM.to ?_ hX hP hD hS))
  rw [← hS']
  exact wM_setN (n := (M.2.2.1, M.2.2.2.1, M.2.2.2.2.1, n))
theorem km_av (hx : p.tables.exec = Jvm.exec) (hb : c.code = cc) (hX : WM dC dI am M L A s H locs) (hk : k < 3) (hdg : decode cc pc = .ok (.aaload, 1)) (kk : W p l e R s m args below meth c H locs cells slots Q (F0 m (pc + 1) ls (.ref (am (7 + k)) :: rest))) : W p l e R s m args below meth c H locs cells slots Q (F0 m pc ls (.int (nI k) :: .ref (am 1) :: rest)) := by
  refine va_aldA hx hb hX.2.1 hX.1 1 2 (wM_top (by decide)) rfl (vp_in_nI hk (by decide)) hdg ?_
  have ek : (nI k).toNatClampNeg = k := nI_clamp (by omega)
  rw [ek, mAr_in hk]
  exact kk
theorem km_am (hx : p.tables.exec = Jvm.exec) (hb : c.code = cc) (hX : WM dC dI am M L A s H locs) (hk : k < 3) (hdg : decode cc pc = .ok (.aaload, 1)) (kk : W p l e R s m args below meth c H locs cells slots Q (F0 m (pc + 1) ls (.ref (am (10 + k)) :: rest))) : W p l e R s m args below meth c H locs cells slots Q (F0 m pc ls (.int (nI k) :: .ref (am 2) :: rest)) := by
  refine va_aldA hx hb hX.2.1 hX.1 2 2 (wM_top (by decide)) rfl (vp_in_nI hk (by decide)) hdg ?_
  have ek : (nI k).toNatClampNeg = k := nI_clamp (by omega)
  rw [ek, mAr_in hk]
  exact kk
theorem km_ak (hx : p.tables.exec = Jvm.exec) (hb : c.code = cc) (hX : WM dC dI am M L A s H locs) (hk : k < 4) (hdg : decode cc pc = .ok (.aaload, 1)) (kk : W p l e R s m args below meth c H locs cells slots Q (F0 m (pc + 1) ls (.ref (am (13 + k)) :: rest))) : W p l e R s m args below meth c H locs cells slots Q (F0 m pc ls (.int (nI k) :: .ref (am 4) :: rest)) := by
  refine va_aldA hx hb hX.2.1 hX.1 4 2 (wM_top (by decide)) rfl (vp_in_nI hk (by decide)) hdg ?_
  have ek : (nI k).toNatClampNeg = k := nI_clamp (by omega)
  rw [ek, mAr_in hk]
  exact kk
theorem km_ad (hx : p.tables.exec = Jvm.exec) (hb : c.code = cc) (hX : WM dC dI am M L A s H locs) (hk : k < 4) (hdg : decode cc pc = .ok (.aaload, 1)) (kk : W p l e R s m args below meth c H locs cells slots Q (F0 m (pc + 1) ls (.ref (am (17 + k)) :: rest))) : W p l e R s m args below meth c H locs cells slots Q (F0 m pc ls (.int (nI k) :: .ref (am 5) :: rest)) := by
  refine va_aldA hx hb hX.2.1 hX.1 5 3 (wM_top (by decide)) rfl (vp_in_nI hk (by decide)) hdg ?_
  have ek : (nI k).toNatClampNeg = k := nI_clamp (by omega)
  rw [ek, mAr_in hk]
  exact kk
theorem km_lv (hx : p.tables.exec = Jvm.exec) (hb : c.code = cc) (hX : WM dC dI am M L A s H locs) (hi : i < 3) (hk : k < 12) (hv : (M.1 i).1 k = v) (hdg : decode cc pc = .ok (.iaload, 1)) (kk : W p l e R s m args below meth c H locs cells slots Q (F0 m (pc + 1) ls (.int (nI v) :: rest))) : W p l e R s m args below meth c H locs cells slots Q (F0 m pc ls (.int (nI k) :: .ref (am (7 + i)) :: rest)) := by
  refine va_iald hx hb hX.2.1 hX.1 (7 + i) 0 (wM_v hi) rfl (vp_in_nI hk (by decide)) hdg ?_
  have ek : (nI k).toNatClampNeg = k := nI_clamp (by omega)
  show W p l e R s m args below meth c H locs cells slots Q (F0 m (pc + 1) ls (.int (nI ((M.1 i).1 (nI k).toNatClampNeg)) :: rest))
  rw [ek, hv]
  exact kk
theorem km_lm (hx : p.tables.exec = Jvm.exec) (hb : c.code = cc) (hX : WM dC dI am M L A s H locs) (hi : i < 3) (hk : k < 12) (hv : (M.1 i).2.1 k = v) (hdg : decode cc pc = .ok (.iaload, 1)) (kk : W p l e R s m args below meth c H locs cells slots Q (F0 m (pc + 1) ls (.int (nI v) :: rest))) : W p l e R s m args below meth c H locs cells slots Q (F0 m pc ls (.int (nI k) :: .ref (am (10 + i)) :: rest)) := by
  refine va_iald hx hb hX.2.1 hX.1 (10 + i) 0 (wM_m hi) rfl (vp_in_nI hk (by decide)) hdg ?_
  have ek : (nI k).toNatClampNeg = k := nI_clamp (by omega)
  show W p l e R s m args below meth c H locs cells slots Q (F0 m (pc + 1) ls (.int (nI ((M.1 i).2.1 (nI k).toNatClampNeg)) :: rest))
  rw [ek, hv]
  exact kk
theorem km_lz (hx : p.tables.exec = Jvm.exec) (hb : c.code = cc) (hX : WM dC dI am M L A s H locs)  (hk : k < 3) (hv : (M.1 k).2.2 = v) (hdg : decode cc pc = .ok (.iaload, 1)) (kk : W p l e R s m args below meth c H locs cells slots Q (F0 m (pc + 1) ls (.int (nI v) :: rest))) : W p l e R s m args below meth c H locs cells slots Q (F0 m pc ls (.int (nI k) :: .ref (am 3) :: rest)) := by
  refine va_iald hx hb hX.2.1 hX.1 (3) 0 (wM_top (by decide)) rfl (vp_in_nI hk (by decide)) hdg ?_
  have ek : (nI k).toNatClampNeg = k := nI_clamp (by omega)
  show W p l e R s m args below meth c H locs cells slots Q (F0 m (pc + 1) ls (.int (nI (M.1 (nI k).toNatClampNeg).2.2) :: rest))
  rw [ek, hv]
  exact kk
theorem km_lk (hx : p.tables.exec = Jvm.exec) (hb : c.code = cc) (hX : WM dC dI am M L A s H locs) (hi : i < 4) (hk : k < 5) (hv : (M.2.1 i).1 k = v) (hdg : decode cc pc = .ok (.iaload, 1)) (kk : W p l e R s m args below meth c H locs cells slots Q (F0 m (pc + 1) ls (.int (nI v) :: rest))) : W p l e R s m args below meth c H locs cells slots Q (F0 m pc ls (.int (nI k) :: .ref (am (13 + i)) :: rest)) := by
  refine va_iald hx hb hX.2.1 hX.1 (13 + i) 0 (wM_k hi) rfl (vp_in_nI hk (by decide)) hdg ?_
  have ek : (nI k).toNatClampNeg = k := nI_clamp (by omega)
  show W p l e R s m args below meth c H locs cells slots Q (F0 m (pc + 1) ls (.int (nI ((M.2.1 i).1 (nI k).toNatClampNeg)) :: rest))
  rw [ek, hv]
  exact kk
theorem km_ld (hx : p.tables.exec = Jvm.exec) (hb : c.code = cc) (hX : WM dC dI am M L A s H locs) (hi : i < 4) (hk : k < 5) (hv : (M.2.1 i).2.1 k = z) (hdg : decode cc pc = .ok (.baload, 1)) (kk : W p l e R s m args below meth c H locs cells slots Q (F0 m (pc + 1) ls (.int (bI z) :: rest))) : W p l e R s m args below meth c H locs cells slots Q (F0 m pc ls (.int (nI k) :: .ref (am (17 + i)) :: rest)) := by
  refine va_zald hx hb hX.2.1 hX.1 (17 + i) 1 (wM_d hi) rfl (vp_in_nI hk (by decide)) hdg ?_
  have ek : (nI k).toNatClampNeg = k := nI_clamp (by omega)
  show W p l e R s m args below meth c H locs cells slots Q (F0 m (pc + 1) ls (.int (bI ((M.2.1 i).2.1 (nI k).toNatClampNeg)) :: rest))
  rw [ek, hv]
  exact kk
theorem km_lt (hx : p.tables.exec = Jvm.exec) (hb : c.code = cc) (hX : WM dC dI am M L A s H locs)  (hk : k < 4) (hv : (M.2.1 k).2.2 = v) (hdg : decode cc pc = .ok (.iaload, 1)) (kk : W p l e R s m args below meth c H locs cells slots Q (F0 m (pc + 1) ls (.int (nI v) :: rest))) : W p l e R s m args below meth c H locs cells slots Q (F0 m pc ls (.int (nI k) :: .ref (am 6) :: rest)) := by
  refine va_iald hx hb hX.2.1 hX.1 (6) 0 (wM_top (by decide)) rfl (vp_in_nI hk (by decide)) hdg ?_
  have ek : (nI k).toNatClampNeg = k := nI_clamp (by omega)
  show W p l e R s m args below meth c H locs cells slots Q (F0 m (pc + 1) ls (.int (nI (M.2.1 (nI k).toNatClampNeg).2.2) :: rest))
  rw [ek, hv]
  exact kk
theorem km_nz (hx : p.tables.exec = Jvm.exec) (hb : c.code = cc) (hX : WM dC dI am M L A s H locs) (hdg : decode cc pc = .ok (.arraylength, 1)) (kk : W p l e R s m args below meth c H locs cells slots Q (F0 m (pc + 1) ls (.int (nI 3) :: rest))) : W p l e R s m args below meth c H locs cells slots Q (F0 m pc ls (.ref (am 3) :: rest)) :=
  va_alen hx hb hX.2.1 hX.1 3 0 (wM_top (by decide)) rfl (v := nI 3) rfl hdg kk
theorem km_nt (hx : p.tables.exec = Jvm.exec) (hb : c.code = cc) (hX : WM dC dI am M L A s H locs) (hdg : decode cc pc = .ok (.arraylength, 1)) (kk : W p l e R s m args below meth c H locs cells slots Q (F0 m (pc + 1) ls (.int (nI 4) :: rest))) : W p l e R s m args below meth c H locs cells slots Q (F0 m pc ls (.ref (am 6) :: rest)) :=
  va_alen hx hb hX.2.1 hX.1 6 0 (wM_top (by decide)) rfl (v := nI 4) rfl hdg kk
theorem km_sv (hx : p.tables.exec = Jvm.exec) (hb : c.code = cc) (hX : WM dC dI am M L A s H locs) (hi : i < 3) (hk : k < 12) {M' : MS} (hS' : mR M i (va_up (M.1 i).1 k v, (M.1 i).2) = M') (hdg : decode cc pc = .ok (.iastore, 1)) (kk : ∀ (H1 : Heap) (locs1 : List Loc), WM dC dI am M' L A s H1 locs1 → W p l e R s m args below meth c H1 locs1 cells slots Q (F0 m (pc + 1) ls rest)) : W p l e R s m args below meth c H locs cells slots Q (F0 m pc ls (.int (nI v) :: .int (nI k) :: .ref (am (7 + i)) :: rest)) := by
  refine va_iast hx hb hX.2.1 hX.1 hX.2.2.1 hX.2.2.2 (7 + i) 0 (wM_v hi) rfl (vp_in_nI hk (by decide)) hdg (fun H1 locs1 hP hD hS => kk H1 locs1 (WM.to ?_ hX hP hD hS))
  have ek : (nI k).toNatClampNeg = k := nI_clamp (by omega)
  rw [ek, nI_fun, ← hS']
  exact wM_setV hi
theorem km_sm (hx : p.tables.exec = Jvm.exec) (hb : c.code = cc) (hX : WM dC dI am M L A s H locs) (hi : i < 3) (hk : k < 12) {M' : MS} (hS' : mR M i ((M.1 i).1, va_up (M.1 i).2.1 k v, (M.1 i).2.2) = M') (hdg : decode cc pc = .ok (.iastore, 1)) (kk : ∀ (H1 : Heap) (locs1 : List Loc), WM dC dI am M' L A s H1 locs1 → W p l e R s m args below meth c H1 locs1 cells slots Q (F0 m (pc + 1) ls rest)) : W p l e R s m args below meth c H locs cells slots Q (F0 m pc ls (.int (nI v) :: .int (nI k) :: .ref (am (10 + i)) :: rest)) := by
  refine va_iast hx hb hX.2.1 hX.1 hX.2.2.1 hX.2.2.2 (10 + i) 0 (wM_m hi) rfl (vp_in_nI hk (by decide)) hdg (fun H1 locs1 hP hD hS => kk H1 locs1 (WM.to ?_ hX hP hD hS))
  have ek : (nI k).toNatClampNeg = k := nI_clamp (by omega)
  rw [ek, nI_fun, ← hS']
  exact wM_setM hi
theorem km_sz (hx : p.tables.exec = Jvm.exec) (hb : c.code = cc) (hX : WM dC dI am M L A s H locs)  (hk : k < 3) {M' : MS} (hS' : mR M k ((M.1 k).1, (M.1 k).2.1, v) = M') (hdg : decode cc pc = .ok (.iastore, 1)) (kk : ∀ (H1 : Heap) (locs1 : List Loc), WM dC dI am M' L A s H1 locs1 → W p l e R s m args below meth c H1 locs1 cells slots Q (F0 m (pc + 1) ls rest)) : W p l e R s m args below meth c H locs cells slots Q (F0 m pc ls (.int (nI v) :: .int (nI k) :: .ref (am 3) :: rest)) := by
  refine va_iast hx hb hX.2.1 hX.1 hX.2.2.1 hX.2.2.2 (3) 0 (wM_top (by decide)) rfl (vp_in_nI hk (by decide)) hdg (fun H1 locs1 hP hD hS => kk H1 locs1 (WM.to ?_ hX hP hD hS))
  have ek : (nI k).toNatClampNeg = k := nI_clamp (by omega)
  rw [ek, nI_fun (f := fun k => (M.1 k).2.2), ← hS']
  exact wM_setZ hk
theorem km_sk (hx : p.tables.exec = Jvm.exec) (hb : c.code = cc) (hX : WM dC dI am M L A s H locs) (hi : i < 4) (hk : k < 5) {M' : MS} (hS' : mO M i (va_up (M.2.1 i).1 k v, (M.2.1 i).2) = M') (hdg : decode cc pc = .ok (.iastore, 1)) (kk : ∀ (H1 : Heap) (locs1 : List Loc), WM dC dI am M' L A s H1 locs1 → W p l e R s m args below meth c H1 locs1 cells slots Q (F0 m (pc + 1) ls rest)) : W p l e R s m args below meth c H locs cells slots Q (F0 m pc ls (.int (nI v) :: .int (nI k) :: .ref (am (13 + i)) :: rest)) := by
  refine va_iast hx hb hX.2.1 hX.1 hX.2.2.1 hX.2.2.2 (13 + i) 0 (wM_k hi) rfl (vp_in_nI hk (by decide)) hdg (fun H1 locs1 hP hD hS => kk H1 locs1 (WM.to ?_ hX hP hD hS))
  have ek : (nI k).toNatClampNeg = k := nI_clamp (by omega)
  rw [ek, nI_fun, ← hS']
  exact wM_setK hi
theorem km_sd (hx : p.tables.exec = Jvm.exec) (hb : c.code = cc) (hX : WM dC dI am M L A s H locs) (hi : i < 4) (hk : k < 5) {M' : MS} (hS' : mO M i ((M.2.1 i).1, va_up (M.2.1 i).2.1 k z, (M.2.1 i).2.2) = M') (hdg : decode cc pc = .ok (.bastore, 1)) (kk : ∀ (H1 : Heap) (locs1 : List Loc), WM dC dI am M' L A s H1 locs1 → W p l e R s m args below meth c H1 locs1 cells slots Q (F0 m (pc + 1) ls rest)) : W p l e R s m args below meth c H locs cells slots Q (F0 m pc ls (.int (bI z) :: .int (nI k) :: .ref (am (17 + i)) :: rest)) := by
  refine va_zast hx hb hX.2.1 hX.1 hX.2.2.1 hX.2.2.2 (17 + i) 1 (wM_d hi) rfl (vp_in_nI hk (by decide)) hdg (fun H1 locs1 hP hD hS => kk H1 locs1 (WM.to ?_ hX hP hD hS))
  have ek : (nI k).toNatClampNeg = k := nI_clamp (by omega)
  rw [ek, bI_nar, bI_fun, ← hS']
  exact wM_setD hi
theorem km_st (hx : p.tables.exec = Jvm.exec) (hb : c.code = cc) (hX : WM dC dI am M L A s H locs)  (hk : k < 4) {M' : MS} (hS' : mO M k ((M.2.1 k).1, (M.2.1 k).2.1, v) = M') (hdg : decode cc pc = .ok (.iastore, 1)) (kk : ∀ (H1 : Heap) (locs1 : List Loc), WM dC dI am M' L A s H1 locs1 → W p l e R s m args below meth c H1 locs1 cells slots Q (F0 m (pc + 1) ls rest)) : W p l e R s m args below meth c H locs cells slots Q (F0 m pc ls (.int (nI v) :: .int (nI k) :: .ref (am 6) :: rest)) := by
  refine va_iast hx hb hX.2.1 hX.1 hX.2.2.1 hX.2.2.2 (6) 0 (wM_top (by decide)) rfl (vp_in_nI hk (by decide)) hdg (fun H1 locs1 hP hD hS => kk H1 locs1 (WM.to ?_ hX hP hD hS))
  have ek : (nI k).toNatClampNeg = k := nI_clamp (by omega)
  rw [ek, nI_fun (f := fun k => (M.2.1 k).2.2), ← hS']
  exact wM_setT hk
/-- an array made: behind the world's cells -/
theorem km_lay {H1 : Heap} {q : Nat} {E : va_E} (hX : WM dC dI am M L A s H locs) (h1 : va_P (dC, dI) vwCl ((wM dC am M ++ L) ++ [(q, E)]) H1) (h2 : va_D A ((wM dC am M ++ L) ++ [(q, E)])) (h3 : va_S A s.heap H1 locs) : WM dC dI am M (L ++ [(q, E)]) A s H1 locs := hX.toL (by rw [List.append_assoc]) h1 h2 h3
theorem km_newI (hx : p.tables.exec = Jvm.exec) (hb : c.code = cc) (harr : (Cond.arrayClass .int).before args s = true) (hX : WM dC dI am M L A s H locs) (hA : ∀ q, s.heap.size ≤ q → A q) (hn : n ≤ 65536) (hcells : cells + 1 ≤ R.cells) (hslots : slots + n ≤ R.slots) (hdg : decode cc pc = .ok (.newarray .int, 2))
    (kk : ∀ (q : Nat) (H1 : Heap), WM dC dI am M (L ++ [(q, .inl (dC 20, n, .inl (fun k => nI ((fun _ => 0) k))))]) A s H1 locs → W p l e R s m args below meth c H1 locs (cells + 1) (slots + n) Q (F0 m (pc + 2) ls (.ref q :: rest))) : W p l e R s m args below meth c H locs cells slots Q (F0 m pc ls (.int (nI n) :: rest)) := by
  refine va_newa (atype := .int) (ty := .int) (a0 := (n, .inl (fun _ => nI 0))) hx hb harr rfl hX.2.1 hX.1 hX.2.2.1 hX.2.2.2 hA (fun cA => ?_) (nI_pos (by omega)) (nI_clamp (by omega)) (by show n * 4 ≤ 536870912; omega) hcells hslots hdg (fun q cA H1 hK1 h1 h2 h3 => ?_)
  · rfl
  · have e0 : cA = dC 20 := by
      have e1 := (hK1.2 0 (dC 20, .int) rfl).2
      have e2 := (hK1.2 4 (cA, .int) rfl).2
      exact Option.some.inj (e2.symm.trans e1)
    subst e0
    exact kk q H1 (km_lay hX h1 h2 h3)
theorem km_newZ (hx : p.tables.exec = Jvm.exec) (hb : c.code = cc) (harr : (Cond.arrayClass .boolean).before args s = true) (hX : WM dC dI am M L A s H locs) (hA : ∀ q, s.heap.size ≤ q → A q) (hn : n ≤ 65536) (hcells : cells + 1 ≤ R.cells) (hslots : slots + n ≤ R.slots) (hdg : decode cc pc = .ok (.newarray .boolean, 2))
    (kk : ∀ (q : Nat) (H1 : Heap), WM dC dI am M (L ++ [(q, .inl (dC 21, n, .inl (fun k => bI ((fun _ => false) k))))]) A s H1 locs → W p l e R s m args below meth c H1 locs (cells + 1) (slots + n) Q (F0 m (pc + 2) ls (.ref q :: rest))) : W p l e R s m args below meth c H locs cells slots Q (F0 m pc ls (.int (nI n) :: rest)) := by
  refine va_newa (atype := .boolean) (ty := .boolean) (a0 := (n, .inl (fun _ => bI false))) hx hb harr rfl hX.2.1 hX.1 hX.2.2.1 hX.2.2.2 hA (fun cA => ?_) (nI_pos (by omega)) (nI_clamp (by omega)) (by show n * 1 ≤ 536870912; omega) hcells hslots hdg (fun q cA H1 hK1 h1 h2 h3 => ?_)
  · rfl
  · have e0 : cA = dC 21 := by
      have e1 := (hK1.2 1 (dC 21, .boolean) rfl).2
      have e2 := (hK1.2 4 (cA, .boolean) rfl).2
      exact Option.some.inj (e2.symm.trans e1)
    subst e0
    exact kk q H1 (km_lay hX h1 h2 h3)
theorem kl_li {q j N : Nat} {f : Nat → Nat} (hx : p.tables.exec = Jvm.exec) (hb : c.code = cc) (hX : WM dC dI am M L A s H locs) (hj : L[j]? = some (q, .inl (dC 20, N, .inl (fun k => nI (f k))))) (hk : k < N) (hN : N ≤ 65536) (hdg : decode cc pc = .ok (.iaload, 1)) (kk : W p l e R s m args below meth c H locs cells slots Q (F0 m (pc + 1) ls (.int (nI (f k)) :: rest))) : W p l e R s m args below meth c H locs cells slots Q (F0 m pc ls (.int (nI k) :: .ref q :: rest)) := by
  refine va_iald hx hb hX.2.1 hX.1 (21 + j) 0 (wL_loc.trans hj) rfl (vp_in_nI hk (by omega)) hdg ?_
  have ek : (nI k).toNatClampNeg = k := nI_clamp (by omega)
  show W p l e R s m args below meth c H locs cells slots Q (F0 m (pc + 1) ls (.int (nI (f (nI k).toNatClampNeg)) :: rest))
  rw [ek]
  exact kk
theorem kl_lz {q j N : Nat} {f : Nat → Bool} (hx : p.tables.exec = Jvm.exec) (hb : c.code = cc) (hX : WM dC dI am M L A s H locs) (hj : L[j]? = some (q, .inl (dC 21, N, .inl (fun k => bI (f k))))) (hk : k < N) (hN : N ≤ 65536) (hdg : decode cc pc = .ok (.baload, 1)) (kk : W p l e R s m args below meth c H locs cells slots Q (F0 m (pc + 1) ls (.int (bI (f k)) :: rest))) : W p l e R s m args below meth c H locs cells slots Q (F0 m pc ls (.int (nI k) :: .ref q :: rest)) := by
  refine va_zald hx hb hX.2.1 hX.1 (21 + j) 1 (wL_loc.trans hj) rfl (vp_in_nI hk (by omega)) hdg ?_
  have ek : (nI k).toNatClampNeg = k := nI_clamp (by omega)
  show W p l e R s m args below meth c H locs cells slots Q (F0 m (pc + 1) ls (.int (bI (f (nI k).toNatClampNeg)) :: rest))
  rw [ek]
  exact kk
theorem wL_setL {j : Nat} {x : Nat × va_E} : (wM dC am M ++ L).set (21 + j) x = wM dC am M ++ L.set j x := by
  rw [List.set_append_right _ _ (by rw [wM_len]; omega), wM_len, Nat.add_sub_cancel_left]
theorem kl_si {q j N : Nat} {f : Nat → Nat} (hx : p.tables.exec = Jvm.exec) (hb : c.code = cc) (hX : WM dC dI am M L A s H locs) (hj : L[j]? = some (q, .inl (dC 20, N, .inl (fun k => nI (f k))))) (hk : k < N) (hN : N ≤ 65536) (hdg : decode cc pc = .ok (.iastore, 1)) (kk : ∀ (H1 : Heap) (locs1 : List Loc), WM dC dI am M (L.set j (q, .inl (dC 20, N, .inl (fun x => nI (va_up f k v x))))) A s H1 locs1 → W p l e R s m args below meth c H1 locs1 cells slots Q (F0 m (pc + 1) ls rest)) : W p l e R s m args below meth c H locs cells slots Q (F0 m pc ls (.int (nI v) :: .int (nI k) :: .ref q :: rest)) := by
  refine va_iast hx hb hX.2.1 hX.1 hX.2.2.1 hX.2.2.2 (21 + j) 0 (wL_loc.trans hj) rfl (vp_in_nI hk (by omega)) hdg (fun H1 locs1 hP hD hS => kk H1 locs1 (hX.toL ?_ hP hD hS))
  have ek : (nI k).toNatClampNeg = k := nI_clamp (by omega)
  rw [ek, nI_fun, wL_setL]
theorem kl_sz {q j N : Nat} {f : Nat → Bool} (hx : p.tables.exec = Jvm.exec) (hb : c.code = cc) (hX : WM dC dI am M L A s H locs) (hj : L[j]? = some (q, .inl (dC 21, N, .inl (fun k => bI (f k))))) (hk : k < N) (hN : N ≤ 65536) (hdg : decode cc pc = .ok (.bastore, 1)) (kk : ∀ (H1 : Heap) (locs1 : List Loc), WM dC dI am M (L.set j (q, .inl (dC 21, N, .inl (fun x => bI (va_up f k z x))))) A s H1 locs1 → W p l e R s m args below meth c H1 locs1 cells slots Q (F0 m (pc + 1) ls rest)) : W p l e R s m args below meth c H locs cells slots Q (F0 m pc ls (.int (bI z) :: .int (nI k) :: .ref q :: rest)) := by
  refine va_zast hx hb hX.2.1 hX.1 hX.2.2.1 hX.2.2.2 (21 + j) 1 (wL_loc.trans hj) rfl (vp_in_nI hk (by omega)) hdg (fun H1 locs1 hP hD hS => kk H1 locs1 (hX.toL ?_ hP hD hS))
  have ek : (nI k).toNatClampNeg = k := nI_clamp (by omega)
  rw [ek, bI_nar, bI_fun, wL_setL]
end KM
theorem va_F.Y {am : Nat → Nat} {s t : State} (h : va_F (AY am s.heap.size) s t) : va_F (AM am) s t := ⟨h.1, fun q hq hA => h.2 q hq (fun z => z.elim hA (fun z2 => by have h3 : s.heap.size ≤ q := z2; omega))⟩
theorem free_Y {am : Nat → Nat} {s : State} {H : Heap} {locs locs1 : List Loc} (hS : va_S (AY am s.heap.size) s.heap H locs) (h : ∀ q ∈ locs1, q ∈ locs ∧ q.base < s.heap.size) : ∀ q ∈ locs1, AM am q.base := fun q hq => by
  obtain ⟨h1, h2⟩ := h q hq
  rcases hS.2.2 q h1 with h3 | h3
  · exact h3
  · exact absurd h2 (Nat.not_lt.mpr h3)
end
