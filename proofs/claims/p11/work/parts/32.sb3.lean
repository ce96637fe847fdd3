/-! texts: the builder's methods -/
theorem KatJ4 {dC : Nat → ClassId} {dI : Nat → Nat → Nat} {cB : ClassId} {z : Nat} {G : va_W} {U : State} (h : PB dC dI cB z G U) : ClassAt U RJ4 (dC 1) := by
  obtain ⟨-, hf, hk⟩ := h.2.1.1 1 (RJ4, TJ4, 4) rfl
  exact ⟨hf, hk.choose, hk.choose_spec.1, hk.choose_spec.2⟩
def gm (q m : Nat) : Nat := if q ≤ m then 0 else sb_cap q m
theorem gm_le {q m : Nat} (h : m < q) : sb_cap q m ≤ gm q m := by rw [gm, if_neg (by omega)]; exact Nat.le_refl _
theorem gm0 {q m : Nat} (h : m < q) : 0 + sb_cap q m ≤ gm q m := by rw [Nat.zero_add]; exact gm_le h
theorem app_old {α : Type} {G : List α} {x y : α} {k : Nat} (h : G[k]? = some y) : (G ++ [x])[k]? = some y := by
  rw [List.getElem?_append_left (List.getElem?_eq_some_iff.mp h).1]; exact h
theorem app_new {α : Type} {G : List α} {x : α} : (G ++ [x])[G.length]? = some x := by
  rw [List.getElem?_append_right (Nat.le_refl _), Nat.sub_self]; rfl
theorem app_set {α : Type} {G : List α} {x y : α} : (G ++ [x]).set G.length y = G ++ [y] := by
  induction G with
  | nil => rfl
  | cons g G ih => exact congrArg (g :: ·) ih
theorem set1 {α : Type} {G : List α} {x y : α} (h : G[1]? = some x) : (G.set 1 y)[1]? = some y := by
  rw [List.getElem?_set_self (List.getElem?_eq_some_iff.mp h).1]
theorem cap_eq {q m : Nat} (h : m < q) : m + max (q - m) (m + 2) = sb_cap q m := by
  unfold sb_cap
  rw [if_neg (by omega)]
  split <;> omega
theorem sub_le0 {q m : Nat} (hq : q ≤ 65536) (hm : m ≤ 65536) : nI q - nI m ≤ 0 ↔ q ≤ m := by
  have e1 : (nI q - nI m).toInt = (q : Int) - m := pk_sub_toInt (by omega) (by omega)
  rw [Int32.le_iff_toInt_le, e1, Int32.toInt_zero]
  omega
theorem WB.drop1 {dC : Nat → ClassId} {dI : Nat → Nat → Nat} {cB : ClassId} {z : Nat} {x y w : Nat × va_E} {s : State} {H : Heap} {locs : List Loc} (h : WB dC dI cB z [x, y, w] s H locs) : WB dC dI cB z [x, w] s H locs :=
  h.to (h.1.sub [0, 2] rfl) (h.2.2.1.sub [0, 2] (by decide) rfl) h.2.2.2.1
theorem set_same {α : Type} {G : List α} {x : α} {k : Nat} (h : G[k]? = some x) : G.set k x = G := by
  obtain ⟨h1, h2⟩ := List.getElem?_eq_some_iff.mp h
  rw [← h2, List.set_getElem_self]
set_option maxHeartbeats 4000000 in
set_option maxRecDepth 100000 in
theorem m_J5_isLatin1_aae02 (l : Launch) (dC : Nat → ClassId) (dI : Nat → Nat → Nat) (cB : ClassId) (z : Nat) (G : va_W) (a b n : Nat) (hG : G[0]? = some (a, eSB b n)) : Met l yJ5_isLatin1_aae02 wsJ5_isLatin1_aae02 ({ frames := 0, cells := 0, slots := 0, locals := 0 } : Room) (va_Pc [.ref a] (PB dC dI cB z G)) (vp_Si (fun r => r = bI true)) 0 0 (fun _ => False) := by
  refine ofWF (cc := cJ5_isLatin1_aae02) (maxL := 1) (ret := (some .boolean)) (by decide +kernel) rfl ?_
  intro p e s m args below meth c s₁ B hml hv
  obtain ⟨rfl, hPB⟩ := hv
  have hx := B.exec
  have hb := B.bytes
  have hr := B.returns
  have hts := atoms_spec (ws := wsJ5_isLatin1_aae02) B.pre
  have hown : s.vm.findClass RJ5 = some m.cls := findClass_of_methodNamed B.named
  have hlocks := B.notSynchronized
  have hinJ4 : ∀ w ∈ u_ws RJ4 TJ4 4, w ∈ wsJ5_isLatin1_aae02 := tu 1326 (by decide +kernel) rfl
  have hB := WB.of hPB
  have hl := lv_entry ([.ref a]) (n := 1) (Nat.le_of_ble_eq_true rfl)
  rw [lg_entry_eq]
  generalize (lg_sl ([.ref a]) ++ List.replicate (1 - (lg_sl ([.ref a])).length) Slot.unset).toArray = ls at hl ⊢
  have hl : lv_has ls 1 [(0, .ref a)] := hl
  show W p l e ({ frames := 0, cells := 0, slots := 0, locals := 0 } : Room) s m ([.ref a]).toArray below meth c s.heap [] 0 0 (MQ below (vp_Si (fun r => r = bI true)) ([.ref a]).toArray s 0 0 (fun _ => False)) (F0 m 0 ls [])
  refine va_gets hx hb hB.2.2.2.2.2.1 hB.2.2.2.1 hown (hts (.fieldLink RJ5 18 "java/lang/String" "COMPACT_STRINGS" "Z") (tm 283 (by decide +kernel) rfl)) (fun _ h => h) dJ5_isLatin1_aae02_0 ?_
  refine kn_if_eq (tgt := 17) hx hb (by omega) dJ5_isLatin1_aae02_3 (by decide) (fun k_1 => absurd k_1 (by omega)) (fun k_1 => ?_)
  refine lv_aload_n hx hb dJ5_isLatin1_aae02_6 rfl (lv_at hl 0 rfl) ?_
  refine va_get (D := (dC, dI)) (ci := 1) (C := RJ4) (T := TJ4) (N := 4) (fs := [.ref b, .int (nI 0), .int (nI 0), .int (nI n)]) hx hb hts hinJ4 hown hB.2.1 hB.1 0 hG rfl 1 (by decide) (hts (.fieldLink RJ5 22 "java/lang/AbstractStringBuilder" "coder" "B") (tm 217 (by decide +kernel) rfl)) (fun _ h => h) rfl dJ5_isLatin1_aae02_7 ?_
  refine kn_if_ne (tgt := 17) hx hb (by omega) dJ5_isLatin1_aae02_10 (by decide) (fun k_2 => absurd k_2 (by omega)) (fun k_2 => ?_)
  refine lv_iconst (v := bI true) hx hb dJ5_isLatin1_aae02_13 (by decide) ?_
  refine lv_goto (tgt := 18) hx hb dJ5_isLatin1_aae02_14 (by decide) ?_
  exact W.zret (v := bI true) hx hb hr (bI_narrow _) (fun t9 ht9 hW9 => ⟨_, rfl, rfl, ht9⟩) (fun _ h => nomatch h) dJ5_isLatin1_aae02_18
set_option maxHeartbeats 4000000 in
set_option maxRecDepth 100000 in
theorem m_J5_length_8abf5 (l : Launch) (dC : Nat → ClassId) (dI : Nat → Nat → Nat) (cB : ClassId) (z : Nat) (G : va_W) (a b n : Nat) (hG : G[0]? = some (a, eSB b n)) : Met l yJ5_length_8abf5 wsJ5_length_8abf5 ({ frames := 0, cells := 0, slots := 0, locals := 0 } : Room) (va_Pc [.ref a] (PB dC dI cB z G)) (vp_Si (fun r => r = nI n)) 0 0 (fun _ => False) := by
  refine ofWF (cc := cJ5_length_8abf5) (maxL := 1) (ret := (some .int)) (by decide +kernel) rfl ?_
  intro p e s m args below meth c s₁ B hml hv
  obtain ⟨rfl, hPB⟩ := hv
  have hx := B.exec
  have hb := B.bytes
  have hr := B.returns
  have hts := atoms_spec (ws := wsJ5_length_8abf5) B.pre
  have hown : s.vm.findClass RJ5 = some m.cls := findClass_of_methodNamed B.named
  have hlocks := B.notSynchronized
  have hinJ4 : ∀ w ∈ u_ws RJ4 TJ4 4, w ∈ wsJ5_length_8abf5 := tu 1326 (by decide +kernel) rfl
  have hB := WB.of hPB
  have hl := lv_entry ([.ref a]) (n := 1) (Nat.le_of_ble_eq_true rfl)
  rw [lg_entry_eq]
  generalize (lg_sl ([.ref a]) ++ List.replicate (1 - (lg_sl ([.ref a])).length) Slot.unset).toArray = ls at hl ⊢
  have hl : lv_has ls 1 [(0, .ref a)] := hl
  show W p l e ({ frames := 0, cells := 0, slots := 0, locals := 0 } : Room) s m ([.ref a]).toArray below meth c s.heap [] 0 0 (MQ below (vp_Si (fun r => r = nI n)) ([.ref a]).toArray s 0 0 (fun _ => False)) (F0 m 0 ls [])
  refine lv_aload_n hx hb dJ5_length_8abf5_0 rfl (lv_at hl 0 rfl) ?_
  refine va_get (D := (dC, dI)) (ci := 1) (C := RJ4) (T := TJ4) (N := 4) (fs := [.ref b, .int (nI 0), .int (nI 0), .int (nI n)]) hx hb hts hinJ4 hown hB.2.1 hB.1 0 hG rfl 3 (by decide) (hts (.fieldLink RJ5 79 "java/lang/AbstractStringBuilder" "count" "I") (tm 277 (by decide +kernel) rfl)) (fun _ h => h) rfl dJ5_length_8abf5_1 ?_
  exact W.iret (v := nI n) hx hb hr (fun t9 ht9 hW9 => ⟨_, rfl, rfl, ht9⟩) (fun _ h => nomatch h) dJ5_length_8abf5_4
set_option maxHeartbeats 4000000 in
set_option maxRecDepth 100000 in
theorem m_J4_length_8abf5 (l : Launch) (dC : Nat → ClassId) (dI : Nat → Nat → Nat) (cB : ClassId) (z : Nat) (G : va_W) (a b n : Nat) (hG : G[0]? = some (a, eSB b n)) : Met l yJ4_length_8abf5 wsJ4_length_8abf5 ({ frames := 1, cells := 0, slots := 0, locals := 20 } : Room) (va_Pc [.ref a] (PB dC dI cB z G)) (vp_Si (fun r => r = nI n)) 0 0 (fun _ => False) := by
  refine ofWF (cc := cJ4_length_8abf5) (maxL := 1) (ret := (some .int)) (by decide +kernel) rfl ?_
  intro p e s m args below meth c s₁ B hml hv
  obtain ⟨rfl, hPB⟩ := hv
  have hx := B.exec
  have hb := B.bytes
  have hr := B.returns
  have hts := atoms_spec (ws := wsJ4_length_8abf5) B.pre
  have hown : s.vm.findClass RJ4 = some m.cls := findClass_of_methodNamed B.named
  have hlocks := B.notSynchronized
  have hB := WB.of hPB
  have hl := lv_entry ([.ref a]) (n := 1) (Nat.le_of_ble_eq_true rfl)
  rw [lg_entry_eq]
  generalize (lg_sl ([.ref a]) ++ List.replicate (1 - (lg_sl ([.ref a])).length) Slot.unset).toArray = ls at hl ⊢
  have hl : lv_has ls 1 [(0, .ref a)] := hl
  show W p l e ({ frames := 1, cells := 0, slots := 0, locals := 20 } : Room) s m ([.ref a]).toArray below meth c s.heap [] 0 0 (MQ below (vp_Si (fun r => r = nI n)) ([.ref a]).toArray s 0 0 (fun _ => False)) (F0 m 0 ls [])
  have hat := KatJ4 hPB
  refine lv_aload_n hx hb dJ4_length_8abf5_0 rfl (lv_at hl 0 rfl) ?_
  refine kx_cr (v := nI n) (va_runSU (As := []) (rest := []) (C := RJ4) hat ⟨hx, hb, hml, hown, hts⟩ (m_J5_length_8abf5 l dC dI cB z G a b n hG) (va_cwSU 0 hts gJ4_length_8abf5_J5_length_8abf5_s343 rfl rfl rfl (by decide +kernel) ⟨Nat.le_of_ble_eq_true rfl, Nat.le_of_ble_eq_true rfl⟩) (hB.preV (ci := 1) (q := (RJ4, TJ4, 4)) rfl 0 hG) rfl rfl hl.1 rfl (lv_room (Nat.le_of_ble_eq_true rfl)) dJ4_length_8abf5_1 ⟨Nat.le_of_ble_eq_true rfl, Nat.le_of_ble_eq_true rfl⟩) (fun _ h => h) ?_
  exact W.iret (v := nI n) hx hb hr (fun t9 ht9 hW9 => ⟨_, rfl, rfl, ht9⟩) (fun _ h => nomatch h) dJ4_length_8abf5_4
set_option maxHeartbeats 4000000 in
set_option maxRecDepth 100000 in
theorem m_J5_getValue_6d5f1 (l : Launch) (dC : Nat → ClassId) (dI : Nat → Nat → Nat) (cB : ClassId) (z : Nat) (G : va_W) (a b n : Nat) (hG : G[0]? = some (a, eSB b n)) : Met l yJ5_getValue_6d5f1 wsJ5_getValue_6d5f1 ({ frames := 0, cells := 0, slots := 0, locals := 0 } : Room) (va_Pc [.ref a] (PB dC dI cB z G)) (va_Sr (fun k => k = b) (fun k => .ref k)) 0 0 (fun _ => False) := by
  refine ofWF (cc := cJ5_getValue_6d5f1) (maxL := 1) (ret := (some (.array .byte))) (by decide +kernel) rfl ?_
  intro p e s m args below meth c s₁ B hml hv
  obtain ⟨rfl, hPB⟩ := hv
  have hx := B.exec
  have hb := B.bytes
  have hr := B.returns
  have hts := atoms_spec (ws := wsJ5_getValue_6d5f1) B.pre
  have hown : s.vm.findClass RJ5 = some m.cls := findClass_of_methodNamed B.named
  have hlocks := B.notSynchronized
  have hinJ4 : ∀ w ∈ u_ws RJ4 TJ4 4, w ∈ wsJ5_getValue_6d5f1 := tu 1326 (by decide +kernel) rfl
  have hB := WB.of hPB
  have hl := lv_entry ([.ref a]) (n := 1) (Nat.le_of_ble_eq_true rfl)
  rw [lg_entry_eq]
  generalize (lg_sl ([.ref a]) ++ List.replicate (1 - (lg_sl ([.ref a])).length) Slot.unset).toArray = ls at hl ⊢
  have hl : lv_has ls 1 [(0, .ref a)] := hl
  show W p l e ({ frames := 0, cells := 0, slots := 0, locals := 0 } : Room) s m ([.ref a]).toArray below meth c s.heap [] 0 0 (MQ below (va_Sr (fun k => k = b) (fun k => .ref k)) ([.ref a]).toArray s 0 0 (fun _ => False)) (F0 m 0 ls [])
  refine lv_aload_n hx hb dJ5_getValue_6d5f1_0 rfl (lv_at hl 0 rfl) ?_
  refine va_get (D := (dC, dI)) (ci := 1) (C := RJ4) (T := TJ4) (N := 4) (fs := [.ref b, .int (nI 0), .int (nI 0), .int (nI n)]) hx hb hts hinJ4 hown hB.2.1 hB.1 0 hG rfl 0 (by decide) (hts (.fieldLink RJ5 15 "java/lang/AbstractStringBuilder" "value" "[B") (tm 216 (by decide +kernel) rfl)) (fun _ h => h) rfl dJ5_getValue_6d5f1_1 ?_
  exact W.aret (v := .ref b) hx hb hr (Or.inr ⟨_, rfl⟩) (Or.inr ⟨_, rfl⟩) (fun t9 ht9 hW9 => ⟨_, rfl, rfl, ht9⟩) (fun _ h => nomatch h) dJ5_getValue_6d5f1_4
set_option maxHeartbeats 4000000 in
set_option maxRecDepth 100000 in
theorem m_J5_newCapacity_0f7a4 (l : Launch) (dC : Nat → ClassId) (dI : Nat → Nat → Nat) (cB : ClassId) (z : Nat) (G : va_W) (a b n cp : Nat) (f : Nat → Int32) (hG : G[0]? = some (a, eSB b n)) (hG2 : G[1]? = some (b, eBy cB cp f)) (q : Nat) (h1 : cp < q) (h2 : q ≤ 65536) (h3 : cp ≤ 65536) : Met l yJ5_newCapacity_0f7a4 wsJ5_newCapacity_0f7a4 ({ frames := 2, cells := 0, slots := 0, locals := 37 } : Room) (va_Pc [.ref a, .int (nI q)] (PB dC dI cB z G)) (vp_Si (fun r => r = nI (sb_cap q cp))) 0 0 (fun _ => False) := by
  refine ofWF (cc := cJ5_newCapacity_0f7a4) (maxL := 6) (ret := (some .int)) (by decide +kernel) rfl ?_
  intro p e s m args below meth c s₁ B hml hv
  obtain ⟨rfl, hPB⟩ := hv
  have hx := B.exec
  have hb := B.bytes
  have hr := B.returns
  have hts := atoms_spec (ws := wsJ5_newCapacity_0f7a4) B.pre
  have hown : s.vm.findClass RJ5 = some m.cls := findClass_of_methodNamed B.named
  have hlocks := B.notSynchronized
  have hinJ4 : ∀ w ∈ u_ws RJ4 TJ4 4, w ∈ wsJ5_newCapacity_0f7a4 := tu 1326 (by decide +kernel) rfl
  have hB := WB.of hPB
  have hl := lv_entry ([.ref a, .int (nI q)]) (n := 6) (Nat.le_of_ble_eq_true rfl)
  rw [lg_entry_eq]
  generalize (lg_sl ([.ref a, .int (nI q)]) ++ List.replicate (6 - (lg_sl ([.ref a, .int (nI q)])).length) Slot.unset).toArray = ls at hl ⊢
  have hl : lv_has ls 6 [(0, .ref a), (1, .int (nI q))] := hl
  show W p l e ({ frames := 2, cells := 0, slots := 0, locals := 37 } : Room) s m ([.ref a, .int (nI q)]).toArray below meth c s.heap [] 0 0 (MQ below (vp_Si (fun r => r = nI (sb_cap q cp))) ([.ref a, .int (nI q)]).toArray s 0 0 (fun _ => False)) (F0 m 0 ls [])
  refine lv_aload_n hx hb dJ5_newCapacity_0f7a4_0 rfl (lv_at hl 0 rfl) ?_
  refine va_get (D := (dC, dI)) (ci := 1) (C := RJ4) (T := TJ4) (N := 4) (fs := [.ref b, .int (nI 0), .int (nI 0), .int (nI n)]) hx hb hts hinJ4 hown hB.2.1 hB.1 0 hG rfl 0 (by decide) (hts (.fieldLink RJ5 15 "java/lang/AbstractStringBuilder" "value" "[B") (tm 216 (by decide +kernel) rfl)) (fun _ h => h) rfl dJ5_newCapacity_0f7a4_1 ?_
  refine va_alen (cA := cB) (x := (cp, .inl f)) hx hb hB.2.1 hB.1 1 0 hG2 rfl (v := nI cp) rfl dJ5_newCapacity_0f7a4_4 ?_
  refine lv_istore_n (lv' := [(2, .int (nI cp)), (0, .ref a), (1, .int (nI q))]) hx hb dJ5_newCapacity_0f7a4_5 rfl hl (by decide) rfl (fun ls hl => ?_)
  refine lv_iload_n hx hb dJ5_newCapacity_0f7a4_6 rfl (lv_at hl 2 rfl) ?_
  refine lv_aload_n hx hb dJ5_newCapacity_0f7a4_7 rfl (lv_at hl 1 rfl) ?_
  refine va_get (D := (dC, dI)) (ci := 1) (C := RJ4) (T := TJ4) (N := 4) (fs := [.ref b, .int (nI 0), .int (nI 0), .int (nI n)]) hx hb hts hinJ4 hown hB.2.1 hB.1 0 hG rfl 1 (by decide) (hts (.fieldLink RJ5 22 "java/lang/AbstractStringBuilder" "coder" "B") (tm 217 (by decide +kernel) rfl)) (fun _ h => h) rfl dJ5_newCapacity_0f7a4_8 ?_
  refine lv_ishl hx hb dJ5_newCapacity_0f7a4_11 ?_
  rw [show (nI q) <<< ((nI 0) &&& 31) = nI q from sb_shl0 _]
  refine lv_istore_n (lv' := [(3, .int (nI q)), (2, .int (nI cp)), (0, .ref a), (1, .int (nI q))]) hx hb dJ5_newCapacity_0f7a4_12 rfl hl (by decide) rfl (fun ls hl => ?_)
  refine lv_iload_n hx hb dJ5_newCapacity_0f7a4_13 rfl (lv_at hl 0 rfl) ?_
  refine lv_iload_n hx hb dJ5_newCapacity_0f7a4_14 rfl (lv_at hl 1 rfl) ?_
  refine kn_isub hx hb (by omega) dJ5_newCapacity_0f7a4_15 ?_
  refine lv_istore (lv' := [(4, .int (nI (q - cp))), (3, .int (nI q)), (2, .int (nI cp)), (0, .ref a), (1, .int (nI q))]) hx hb dJ5_newCapacity_0f7a4_16 hl (by decide) rfl (fun ls hl => ?_)
  refine lv_iload_n hx hb dJ5_newCapacity_0f7a4_18 rfl (lv_at hl 2 rfl) ?_
  refine lv_iload hx hb dJ5_newCapacity_0f7a4_19 (lv_at hl 0 rfl) ?_
  refine lv_iload_n hx hb dJ5_newCapacity_0f7a4_21 rfl (lv_at hl 2 rfl) ?_
  refine lv_iconst (v := nI 2) hx hb dJ5_newCapacity_0f7a4_22 (by decide) ?_
  refine lv_aload_n hx hb dJ5_newCapacity_0f7a4_23 rfl (lv_at hl 3 rfl) ?_
  refine va_get (D := (dC, dI)) (ci := 1) (C := RJ4) (T := TJ4) (N := 4) (fs := [.ref b, .int (nI 0), .int (nI 0), .int (nI n)]) hx hb hts hinJ4 hown hB.2.1 hB.1 0 hG rfl 1 (by decide) (hts (.fieldLink RJ5 22 "java/lang/AbstractStringBuilder" "coder" "B") (tm 217 (by decide +kernel) rfl)) (fun _ h => h) rfl dJ5_newCapacity_0f7a4_24 ?_
  refine lv_ishl hx hb dJ5_newCapacity_0f7a4_27 ?_
  rw [show (nI 2) <<< ((nI 0) &&& 31) = nI 2 from sb_shl0 _]
  refine kn_iadd hx hb dJ5_newCapacity_0f7a4_28 ?_
  refine kx_cr (v := nI (cp + max (q - cp) (cp + 2))) (va_runS (As := [.int (nI cp), .int (nI (q - cp)), .int (nI (cp + 2))]) (rest := []) ⟨hx, hb, hml, hown, hts⟩ (m_J8_newLength_cabcc l cp (q - cp) (cp + 2) (by omega) (by omega) (by omega)) (va_cwS 3 hts gJ5_newCapacity_0f7a4_J8_newLength_cabcc rfl rfl rfl hdJ8_newLength_cabcc_3.2 ⟨Nat.le_of_ble_eq_true rfl, Nat.le_of_ble_eq_true rfl⟩) (pureS) rfl rfl hl.1 rfl (lv_room (Nat.le_of_ble_eq_true rfl)) dJ5_newCapacity_0f7a4_29 ⟨Nat.le_of_ble_eq_true rfl, Nat.le_of_ble_eq_true rfl⟩) (fun _ h => h) ?_
  refine lv_istore (lv' := [(5, .int (nI (cp + max (q - cp) (cp + 2)))), (4, .int (nI (q - cp))), (3, .int (nI q)), (2, .int (nI cp)), (0, .ref a), (1, .int (nI q))]) hx hb dJ5_newCapacity_0f7a4_32 hl (by decide) rfl (fun ls hl => ?_)
  refine lv_iload hx hb dJ5_newCapacity_0f7a4_34 (lv_at hl 0 rfl) ?_
  refine lv_ldc (v := nI 2147483647) hx hb hown (hts (.constant RJ5 39 2147483647) (tm 224 (by decide +kernel) rfl)) dJ5_newCapacity_0f7a4_36 ?_
  refine kn_icmp_ne (tgt := 51) hx hb (by omega) (by omega) dJ5_newCapacity_0f7a4_38 (by decide) (fun k_1 => ?_) (fun k_1 => absurd k_1 (by omega))
  refine lv_iload hx hb dJ5_newCapacity_0f7a4_51 (lv_at hl 0 rfl) ?_
  refine lv_aload_n hx hb dJ5_newCapacity_0f7a4_53 rfl (lv_at hl 4 rfl) ?_
  refine va_get (D := (dC, dI)) (ci := 1) (C := RJ4) (T := TJ4) (N := 4) (fs := [.ref b, .int (nI 0), .int (nI 0), .int (nI n)]) hx hb hts hinJ4 hown hB.2.1 hB.1 0 hG rfl 1 (by decide) (hts (.fieldLink RJ5 22 "java/lang/AbstractStringBuilder" "coder" "B") (tm 217 (by decide +kernel) rfl)) (fun _ h => h) rfl dJ5_newCapacity_0f7a4_54 ?_
  refine lv_ishr hx hb dJ5_newCapacity_0f7a4_57 ?_
  rw [show (nI (cp + max (q - cp) (cp + 2))) >>> ((nI 0) &&& 31) = nI (cp + max (q - cp) (cp + 2)) from sb_shr0 _]
  exact W.iret (v := nI (cp + max (q - cp) (cp + 2))) hx hb hr (fun t9 ht9 hW9 => ⟨_, rfl, (congrArg nI (cap_eq h1)), ht9⟩) (fun _ h => nomatch h) dJ5_newCapacity_0f7a4_58
set_option maxHeartbeats 4000000 in
set_option maxRecDepth 100000 in
theorem m_J7_copyOf_9075b (l : Launch) (dC : Nat → ClassId) (dI : Nat → Nat → Nat) (cB : ClassId) (z : Nat) (G : va_W) (b cp : Nat) (f : Nat → Int32) (hG2 : G[1]? = some (b, eBy cB cp f)) (q : Nat) (hf : sb_Fit f) (h1 : cp < q) (h2 : q ≤ 65536) : Met l yJ7_copyOf_9075b wsJ7_copyOf_9075b ({ frames := 1, cells := 1, slots := q, locals := 40 } : Room) (va_Pc [.ref b, .int (nI q)] (PB dC dI cB z G)) (va_Qr (fun u : Nat → Int32 => sb_Fit u) (fun u q9 t => True ∧ PB dC dI cB z (G ++ [(q9, eBy cB q u)]) t) (zB z)) 1 q (zB z) := by
  refine ofWF (cc := cJ7_copyOf_9075b) (maxL := 3) (ret := (some (.array .byte))) (by decide +kernel) rfl ?_
  intro p e s m args below meth c s₁ B hml hv
  obtain ⟨rfl, hPB⟩ := hv
  have hx := B.exec
  have hb := B.bytes
  have hr := B.returns
  have hts := atoms_spec (ws := wsJ7_copyOf_9075b) B.pre
  have hown : s.vm.findClass RJ7 = some m.cls := findClass_of_methodNamed B.named
  have hlocks := B.notSynchronized
  have hB := WB.of hPB
  have hl := lv_entry ([.ref b, .int (nI q)]) (n := 3) (Nat.le_of_ble_eq_true rfl)
  rw [lg_entry_eq]
  generalize (lg_sl ([.ref b, .int (nI q)]) ++ List.replicate (3 - (lg_sl ([.ref b, .int (nI q)])).length) Slot.unset).toArray = ls at hl ⊢
  have hl : lv_has ls 3 [(0, .ref b), (1, .int (nI q))] := hl
  show W p l e ({ frames := 1, cells := 1, slots := q, locals := 40 } : Room) s m ([.ref b, .int (nI q)]).toArray below meth c s.heap [] 0 0 (MQ below (va_Qr (fun u : Nat → Int32 => sb_Fit u) (fun u q9 t => True ∧ PB dC dI cB z (G ++ [(q9, eBy cB q u)]) t) (zB z)) ([.ref b, .int (nI q)]).toArray s 1 q (zB z)) (F0 m 0 ls [])
  refine lv_iload_n hx hb dJ7_copyOf_9075b_0 rfl (lv_at hl 1 rfl) ?_
  refine lv_aload_n hx hb dJ7_copyOf_9075b_1 rfl (lv_at hl 0 rfl) ?_
  refine va_alen (cA := cB) (x := (cp, .inl f)) hx hb hB.2.1 hB.1 1 0 hG2 rfl (v := nI cp) rfl dJ7_copyOf_9075b_2 ?_
  refine kn_icmp_ne (tgt := 14) hx hb (by omega) (by omega) dJ7_copyOf_9075b_3 (by decide) (fun k_1 => ?_) (fun k_1 => absurd k_1 (by omega))
  refine lv_iload_n hx hb dJ7_copyOf_9075b_14 rfl (lv_at hl 1 rfl) ?_
  refine kb_new hx hb (hts (.arrayClass .byte) (tm 246 (by decide +kernel) rfl)) hB (by omega) (Nat.le_refl _) (by show 0 + q ≤ q; omega) dJ7_copyOf_9075b_15 (fun q_2 H hB => ?_)
  refine lv_astore_n (lv' := [(2, .ref q_2), (0, .ref b), (1, .int (nI q))]) hx hb dJ7_copyOf_9075b_17 rfl hl (by decide) rfl (fun ls hl => ?_)
  refine lv_aload_n hx hb dJ7_copyOf_9075b_18 rfl (lv_at hl 1 rfl) ?_
  refine lv_iconst (v := nI 0) hx hb dJ7_copyOf_9075b_19 (by decide) ?_
  refine lv_aload_n hx hb dJ7_copyOf_9075b_20 rfl (lv_at hl 0 rfl) ?_
  refine lv_iconst (v := nI 0) hx hb dJ7_copyOf_9075b_21 (by decide) ?_
  refine lv_aload_n hx hb dJ7_copyOf_9075b_22 rfl (lv_at hl 1 rfl) ?_
  refine va_alen (cA := cB) (x := (cp, .inl f)) hx hb hB.2.1 hB.1 1 0 (app_old hG2) rfl (v := nI cp) rfl dJ7_copyOf_9075b_23 ?_
  refine lv_iload_n hx hb dJ7_copyOf_9075b_24 rfl (lv_at hl 2 rfl) ?_
  refine kn_min hx hb (by rw [hml]; exact hl.1.symm) hown (hts (.methodLink RJ7 304 Lib.Math.min.name) (tm 247 (by decide +kernel) rfl)) (hts (.static Lib.Math.min.name) (tm 151 (by decide +kernel) rfl)) (hts (.initialized "java/lang/Math") (tm 152 (by decide +kernel) rfl)) (hts (.code Lib.Math.min.name Lib.Math.min.code 2 (some .int)) (tm 153 (by decide +kernel) rfl)) (Nat.le_of_ble_eq_true rfl) (Nat.le_of_ble_eq_true rfl) (by simp) (by simp) (by omega) (by omega) dJ7_copyOf_9075b_25 ?_
  refine kb_cp hx hb (by rw [hml]; exact hl.1.symm) hown (hts (.methodLink RJ7 150 arraycopyName) (tm 248 (by decide +kernel) rfl)) (hts (.native arraycopyName) (tm 249 (by decide +kernel) rfl)) (hts (.static arraycopyName) (tm 250 (by decide +kernel) rfl)) (hts (.initialized "java/lang/System") (tm 251 (by decide +kernel) rfl)) hB 1 G.length (f := f) (g := (fun _ => 0)) (app_old hG2) app_new hf (by omega) (by omega) (by omega) (Nat.le_of_ble_eq_true rfl) (Nat.le_of_ble_eq_true rfl) dJ7_copyOf_9075b_28 (fun H locs hB => ?_)
  rw [app_set] at hB
  refine lv_aload_n hx hb dJ7_copyOf_9075b_31 rfl (lv_at hl 0 rfl) ?_
  exact W.widen (k := 1) (n := q) (by omega) (by omega) (W.aret (v := .ref q_2) hx hb hr (Or.inr ⟨_, rfl⟩) (Or.inr ⟨_, rfl⟩) (fun t9 ht9 hW9 => ⟨⟨_, _, rfl, sb_fitC hf sb_fit0, trivial, hB.P ht9 hW9⟩, hB.F ht9⟩) hB.L dJ7_copyOf_9075b_32)
set_option maxHeartbeats 4000000 in
set_option maxRecDepth 100000 in
theorem m_J6_getChars_ba4f3 (l : Launch) (dC : Nat → ClassId) (dI : Nat → Nat → Nat) (cB : ClassId) (z : Nat) (G : va_W) (b cp : Nat) (f : Nat → Int32) (hG2 : G[1]? = some (b, eBy cB cp f)) (v i9 : Nat) (hf : sb_Fit f) (hv : v < 1000000000) (hi : sb_dg v ≤ i9) (him : i9 ≤ cp) (hm : cp ≤ 65536) : Met l yJ6_getChars_ba4f3 wsJ6_getChars_ba4f3 ({ frames := 0, cells := 0, slots := 0, locals := 0 } : Room) (va_Pc [.int (nI v), .int (nI i9), .ref b] (PB dC dI cB z G)) (va_Qi (fun (_ : Int32) (u : Nat → Int32) => sb_Fit u) (fun u t => PB dC dI cB z (G.set 1 (b, eBy cB cp u)) t) (zB z)) 0 0 (zB z) := by
  refine ofWF (cc := cJ6_getChars_ba4f3) (maxL := 7) (ret := (some .int)) (by decide +kernel) rfl ?_
  intro p e s m args below meth c s₁ B hml hv
  obtain ⟨rfl, hPB⟩ := hv
  have hx := B.exec
  have hb := B.bytes
  have hr := B.returns
  have hts := atoms_spec (ws := wsJ6_getChars_ba4f3) B.pre
  have hown : s.vm.findClass RJ6 = some m.cls := findClass_of_methodNamed B.named
  have hlocks := B.notSynchronized
  have hB := WB.of hPB
  have hl := lv_entry ([.int (nI v), .int (nI i9), .ref b]) (n := 7) (Nat.le_of_ble_eq_true rfl)
  rw [lg_entry_eq]
  generalize (lg_sl ([.int (nI v), .int (nI i9), .ref b]) ++ List.replicate (7 - (lg_sl ([.int (nI v), .int (nI i9), .ref b])).length) Slot.unset).toArray = ls at hl ⊢
  have hl : lv_has ls 7 [(0, .int (nI v)), (1, .int (nI i9)), (2, .ref b)] := hl
  show W p l e ({ frames := 0, cells := 0, slots := 0, locals := 0 } : Room) s m ([.int (nI v), .int (nI i9), .ref b]).toArray below meth c s.heap [] 0 0 (MQ below (va_Qi (fun (_ : Int32) (u : Nat → Int32) => sb_Fit u) (fun u t => PB dC dI cB z (G.set 1 (b, eBy cB cp u)) t) (zB z)) ([.int (nI v), .int (nI i9), .ref b]).toArray s 0 0 (zB z)) (F0 m 0 ls [])
  replace hB : WB dC dI cB z (G.set 1 (b, eBy cB cp f)) s s.heap [] := by rw [set_same hG2]; exact hB
  obtain ⟨-, ⟨t1, g1, hZ1, hT1⟩, ⟨t2, g2, hZ2, hT2⟩, -⟩ := hB.2.2.2.2.2
  refine lv_iload_n hx hb dJ6_getChars_ba4f3_0 rfl (lv_at hl 1 rfl) ?_
  refine lv_istore (lv' := [(5, .int (nI i9)), (0, .int (nI v)), (1, .int (nI i9)), (2, .ref b)]) hx hb dJ6_getChars_ba4f3_1 hl (by decide) rfl (fun ls hl => ?_)
  refine lv_iload_n hx hb dJ6_getChars_ba4f3_3 rfl (lv_at hl 1 rfl) ?_
  refine kn_if_ge (tgt := 11) hx hb (by omega) dJ6_getChars_ba4f3_4 (by decide) ?_
  refine lv_iconst (v := nI 0) hx hb dJ6_getChars_ba4f3_11 (by decide) ?_
  refine lv_istore (lv' := [(6, .int (nI 0)), (5, .int (nI i9)), (0, .int (nI v)), (1, .int (nI i9)), (2, .ref b)]) hx hb dJ6_getChars_ba4f3_12 hl (by decide) rfl (fun ls hl => ?_)
  refine lv_iload hx hb dJ6_getChars_ba4f3_14 (lv_at hl 0 rfl) ?_
  refine kn_if_ne (tgt := 22) hx hb (by omega) dJ6_getChars_ba4f3_16 (by decide) (fun k_2 => absurd k_2 (by omega)) (fun k_2 => ?_)
  refine lv_iload_n hx hb dJ6_getChars_ba4f3_19 rfl (lv_at hl 2 rfl) ?_
  refine lv_ineg hx hb dJ6_getChars_ba4f3_20 ?_
  refine lv_istore_n (lv' := [(0, .int (-(nI v))), (6, .int (nI 0)), (5, .int (nI i9)), (1, .int (nI i9)), (2, .ref b)]) hx hb dJ6_getChars_ba4f3_21 rfl hl (by decide) rfl (fun ls hl => ?_)
  have loop22 : ∀ (fuel : Nat) (w p9 : Nat) (f9 : Nat → Int32) (hf : sb_Fit f9) (hw : w < 1000000000) (hp : sb_dg w ≤ p9) (hpm : p9 ≤ cp) (H : Heap) (locs : List Loc), w < fuel → WB dC dI cB z (G.set 1 (b, eBy cB cp f9)) s H locs → ∀ ls : Array Slot, lv_has ls 7 [(0, .int (-nI w)), (2, .ref b), (5, .int (nI p9)), (6, .int (nI 0))] → W p l e ({ frames := 0, cells := 0, slots := 0, locals := 0 } : Room) s m ([.int (nI v), .int (nI i9), .ref b]).toArray below meth c H locs 0 0 (MQ below (va_Qi (fun (_ : Int32) (u : Nat → Int32) => sb_Fit u) (fun u t => PB dC dI cB z (G.set 1 (b, eBy cB cp u)) t) (zB z)) ([.int (nI v), .int (nI i9), .ref b]).toArray s 0 0 (zB z)) (F0 m 22 ls []) := by
    intro fuel
    induction fuel with
    | zero => intro w p9 f9 hf hw hp hpm H locs hf9; exact absurd hf9 (Nat.not_lt_zero _)
    | succ fuel ih22 =>
      intro w p9 f9 hf hw hp hpm H locs hf9 hB ls hl
      refine lv_iload_n hx hb dJ6_getChars_ba4f3_22 rfl (lv_at hl 0 rfl) ?_
      refine lv_bipush (v := -nI 100) hx hb dJ6_getChars_ba4f3_23 (by decide) ?_
      refine lv_icmp_gt (tgt := 72) hx hb dJ6_getChars_ba4f3_25 (by decide) (fun k_3 => ?_) (fun k_3 => ?_)
      · skip
        have hc9 : w < 100 := (sb_nlt (by decide) (by omega)).mp k_3
        have hd1 := (sb_dg_in w).1
        refine lv_aload_n hx hb dJ6_getChars_ba4f3_72 rfl (lv_at hl 1 rfl) ?_
        refine lv_iinc (v := nI (p9 - 1)) (lv' := [(5, .int (nI (p9 - 1))), (0, .int (-nI w)), (2, .ref b), (6, .int (nI 0))]) hx hb dJ6_getChars_ba4f3_73 hl (k := 2) rfl (kn_dec (by omega)) (by decide) rfl (fun ls hl => ?_)
        refine lv_iload hx hb dJ6_getChars_ba4f3_76 (lv_at hl 0 rfl) ?_
        refine va_gets hx hb hZ1 hB.2.2.2.1 hown (hts (.fieldLink RJ6 83 "java/lang/Integer" "DigitOnes" "[B") (tm 358 (by decide +kernel) rfl)) (fun _ h => h) dJ6_getChars_ba4f3_78 ?_
        refine lv_iload_n hx hb dJ6_getChars_ba4f3_81 rfl (lv_at hl 1 rfl) ?_
        refine lv_ineg hx hb dJ6_getChars_ba4f3_82 ?_
        rw [Int32.neg_neg]
        refine va_tb hx hb hT1 hB.2.2.2.1 (vp_in_nI (by omega) (by omega)) rfl dJ6_getChars_ba4f3_83 ?_
        refine kb_bst (n := cp) (f := f9) hx hb hB 1 (set1 hG2) (by omega) (by omega) dJ6_getChars_ba4f3_84 (fun H locs hB => ?_)
        obtain ⟨f_4, hf, hB⟩ : ∃ g9, sb_Fit g9 ∧ WB dC dI cB z (G.set 1 (b, eBy cB cp g9)) s H locs := ⟨_, sb_fitU hf (fit_nar _), (by rw [List.set_set] at hB; exact hB)⟩
        refine lv_iload_n hx hb dJ6_getChars_ba4f3_85 rfl (lv_at hl 1 rfl) ?_
        refine lv_bipush (v := -nI 9) hx hb dJ6_getChars_ba4f3_86 (by decide) ?_
        refine lv_icmp_ge (tgt := 104) hx hb dJ6_getChars_ba4f3_88 (by decide) (fun k_5 => ?_) (fun k_5 => ?_)
        · skip
          refine lv_iload hx hb dJ6_getChars_ba4f3_104 (lv_at hl 3 rfl) ?_
          refine kn_if_eq (tgt := 118) hx hb (by omega) dJ6_getChars_ba4f3_106 (by decide) (fun k_6 => ?_) (fun k_6 => absurd k_6 (by omega))
          refine lv_iload hx hb dJ6_getChars_ba4f3_118 (lv_at hl 0 rfl) ?_
          exact W.iret (v := nI (p9 - 1)) hx hb hr (fun t9 ht9 hW9 => ⟨⟨_, f_4, rfl, hf, hB.P ht9 hW9⟩, hB.F ht9⟩) hB.L dJ6_getChars_ba4f3_120
        · skip
          have hc8 : ¬ w ≤ 9 := fun z9 => k_5 ((sb_nle (by decide) (by omega)).mpr z9)
          have hd7 : 2 ≤ sb_dg w := by unfold sb_dg; (repeat' split) <;> omega
          refine lv_aload_n hx hb dJ6_getChars_ba4f3_91 rfl (lv_at hl 2 rfl) ?_
          refine lv_iinc (v := nI (p9 - 1 - 1)) (lv' := [(5, .int (nI (p9 - 1 - 1))), (0, .int (-nI w)), (2, .ref b), (6, .int (nI 0))]) hx hb dJ6_getChars_ba4f3_92 hl (k := 0) rfl (kn_dec (by omega)) (by decide) rfl (fun ls hl => ?_)
          refine lv_iload hx hb dJ6_getChars_ba4f3_95 (lv_at hl 0 rfl) ?_
          refine va_gets hx hb hZ2 hB.2.2.2.1 hown (hts (.fieldLink RJ6 87 "java/lang/Integer" "DigitTens" "[B") (tm 359 (by decide +kernel) rfl)) (fun _ h => h) dJ6_getChars_ba4f3_97 ?_
          refine lv_iload_n hx hb dJ6_getChars_ba4f3_100 rfl (lv_at hl 1 rfl) ?_
          refine lv_ineg hx hb dJ6_getChars_ba4f3_101 ?_
          rw [Int32.neg_neg]
          refine va_tb hx hb hT2 hB.2.2.2.1 (vp_in_nI (by omega) (by omega)) rfl dJ6_getChars_ba4f3_102 ?_
          refine kb_bst (n := cp) (f := f_4) hx hb hB 1 (set1 hG2) (by omega) (by omega) dJ6_getChars_ba4f3_103 (fun H locs hB => ?_)
          obtain ⟨f_7, hf, hB⟩ : ∃ g9, sb_Fit g9 ∧ WB dC dI cB z (G.set 1 (b, eBy cB cp g9)) s H locs := ⟨_, sb_fitU hf (fit_nar _), (by rw [List.set_set] at hB; exact hB)⟩
          refine lv_iload hx hb dJ6_getChars_ba4f3_104 (lv_at hl 3 rfl) ?_
          refine kn_if_eq (tgt := 118) hx hb (by omega) dJ6_getChars_ba4f3_106 (by decide) (fun k_8 => ?_) (fun k_8 => absurd k_8 (by omega))
          refine lv_iload hx hb dJ6_getChars_ba4f3_118 (lv_at hl 0 rfl) ?_
          exact W.iret (v := nI (p9 - 1 - 1)) hx hb hr (fun t9 ht9 hW9 => ⟨⟨_, f_7, rfl, hf, hB.P ht9 hW9⟩, hB.F ht9⟩) hB.L dJ6_getChars_ba4f3_120
      · skip
        have hc9 : ¬ w < 100 := fun z9 => k_3 ((sb_nlt (by decide) (by omega)).mpr z9)
        have hd9 := sb_dg100 (w := w) (by omega) (by omega)
        have hd8 := sb_dg_in (w / 100)
        refine lv_iload_n hx hb dJ6_getChars_ba4f3_28 rfl (lv_at hl 0 rfl) ?_
        refine lv_bipush (v := nI 100) hx hb dJ6_getChars_ba4f3_29 (by decide) ?_
        refine lv_idiv hx hb dJ6_getChars_ba4f3_31 (by decide) ?_
        rw [show -nI w / nI 100 = -nI (w / 100) from sb_ndiv (by omega)]
        refine lv_istore_n (lv' := [(3, .int (-nI (w / 100))), (0, .int (-nI w)), (2, .ref b), (5, .int (nI p9)), (6, .int (nI 0))]) hx hb dJ6_getChars_ba4f3_32 rfl hl (by decide) rfl (fun ls hl => ?_)
        refine lv_iload_n hx hb dJ6_getChars_ba4f3_33 rfl (lv_at hl 0 rfl) ?_
        refine lv_bipush (v := nI 100) hx hb dJ6_getChars_ba4f3_34 (by decide) ?_
        refine lv_imul hx hb dJ6_getChars_ba4f3_36 ?_
        refine lv_iload_n hx hb dJ6_getChars_ba4f3_37 rfl (lv_at hl 1 rfl) ?_
        refine lv_isub hx hb dJ6_getChars_ba4f3_38 ?_
        rw [show -nI (w / 100) * nI 100 - -nI w = nI (w % 100) from sb_nrem (by omega)]
        refine lv_istore (lv' := [(4, .int (nI (w % 100))), (3, .int (-nI (w / 100))), (0, .int (-nI w)), (2, .ref b), (5, .int (nI p9)), (6, .int (nI 0))]) hx hb dJ6_getChars_ba4f3_39 hl (by decide) rfl (fun ls hl => ?_)
        refine lv_iload_n hx hb dJ6_getChars_ba4f3_41 rfl (lv_at hl 1 rfl) ?_
        refine lv_istore_n (lv' := [(0, .int (-nI (w / 100))), (4, .int (nI (w % 100))), (3, .int (-nI (w / 100))), (2, .ref b), (5, .int (nI p9)), (6, .int (nI 0))]) hx hb dJ6_getChars_ba4f3_42 rfl hl (by decide) rfl (fun ls hl => ?_)
        refine lv_aload_n hx hb dJ6_getChars_ba4f3_43 rfl (lv_at hl 3 rfl) ?_
        refine lv_iinc (v := nI (p9 - 1)) (lv' := [(5, .int (nI (p9 - 1))), (0, .int (-nI (w / 100))), (4, .int (nI (w % 100))), (3, .int (-nI (w / 100))), (2, .ref b), (6, .int (nI 0))]) hx hb dJ6_getChars_ba4f3_44 hl (k := 4) rfl (kn_dec (by omega)) (by decide) rfl (fun ls hl => ?_)
        refine lv_iload hx hb dJ6_getChars_ba4f3_47 (lv_at hl 0 rfl) ?_
        refine va_gets hx hb hZ1 hB.2.2.2.1 hown (hts (.fieldLink RJ6 83 "java/lang/Integer" "DigitOnes" "[B") (tm 358 (by decide +kernel) rfl)) (fun _ h => h) dJ6_getChars_ba4f3_49 ?_
        refine lv_iload hx hb dJ6_getChars_ba4f3_52 (lv_at hl 2 rfl) ?_
        refine va_tb hx hb hT1 hB.2.2.2.1 (vp_in_nI (by omega) (by omega)) rfl dJ6_getChars_ba4f3_54 ?_
        refine kb_bst (n := cp) (f := f9) hx hb hB 1 (set1 hG2) (by omega) (by omega) dJ6_getChars_ba4f3_55 (fun H locs hB => ?_)
        obtain ⟨f_9, hf, hB⟩ : ∃ g9, sb_Fit g9 ∧ WB dC dI cB z (G.set 1 (b, eBy cB cp g9)) s H locs := ⟨_, sb_fitU hf (fit_nar _), (by rw [List.set_set] at hB; exact hB)⟩
        refine lv_aload_n hx hb dJ6_getChars_ba4f3_56 rfl (lv_at hl 4 rfl) ?_
        refine lv_iinc (v := nI (p9 - 1 - 1)) (lv' := [(5, .int (nI (p9 - 1 - 1))), (0, .int (-nI (w / 100))), (4, .int (nI (w % 100))), (3, .int (-nI (w / 100))), (2, .ref b), (6, .int (nI 0))]) hx hb dJ6_getChars_ba4f3_57 hl (k := 0) rfl (kn_dec (by omega)) (by decide) rfl (fun ls hl => ?_)
        refine lv_iload hx hb dJ6_getChars_ba4f3_60 (lv_at hl 0 rfl) ?_
        refine va_gets hx hb hZ2 hB.2.2.2.1 hown (hts (.fieldLink RJ6 87 "java/lang/Integer" "DigitTens" "[B") (tm 359 (by decide +kernel) rfl)) (fun _ h => h) dJ6_getChars_ba4f3_62 ?_
        refine lv_iload hx hb dJ6_getChars_ba4f3_65 (lv_at hl 2 rfl) ?_
        refine va_tb hx hb hT2 hB.2.2.2.1 (vp_in_nI (by omega) (by omega)) rfl dJ6_getChars_ba4f3_67 ?_
        refine kb_bst (n := cp) (f := f_9) hx hb hB 1 (set1 hG2) (by omega) (by omega) dJ6_getChars_ba4f3_68 (fun H locs hB => ?_)
        obtain ⟨f_10, hf, hB⟩ : ∃ g9, sb_Fit g9 ∧ WB dC dI cB z (G.set 1 (b, eBy cB cp g9)) s H locs := ⟨_, sb_fitU hf (fit_nar _), (by rw [List.set_set] at hB; exact hB)⟩
        refine lv_goto (tgt := 22) hx hb dJ6_getChars_ba4f3_69 (by decide) ?_
        exact ih22  (w / 100) (p9 - 1 - 1) f_10 hf (by omega) (by omega) (by omega) _ _ (by omega) hB _ (lv_sub hl [1, 4, 0, 5] rfl)
  exact loop22 (v + 1) v i9 f hf (by omega) (by omega) (by omega) _ _ (by omega) hB _ (lv_sub hl [0, 4, 2, 1] rfl)
set_option maxHeartbeats 4000000 in
set_option maxRecDepth 100000 in
theorem m_J5_ensureCapacityInternal_d00df (l : Launch) (dC : Nat → ClassId) (dI : Nat → Nat → Nat) (cB : ClassId) (z : Nat) (a b n cp : Nat) (f : Nat → Int32) (q : Nat) (hm : cp ≤ 65536) (hq : q ≤ 65536) (hf : sb_Fit f) (hcap : sb_cap q cp ≤ 65536) : Met l yJ5_ensureCapacityInternal_d00df wsJ5_ensureCapacityInternal_d00df ({ frames := 3, cells := 1, slots := (gm q cp), locals := 62 } : Room) (va_Pc [.ref a, .int (nI q)] (PB dC dI cB z [(a, eSB b n), (b, eBy cB cp f)])) (va_Qv (fun u : Nat × (Nat → Int32) => sb_Fit u.2) (fun u t => PB dC dI cB z [(a, eSB u.1 n), (u.1, eBy cB (sb_cap q cp) u.2)] t) (zB z)) 1 (gm q cp) (zB z) := by
  refine ofWF (cc := cJ5_ensureCapacityInternal_d00df) (maxL := 3) (ret := none) (by decide +kernel) rfl ?_
  intro p e s m args below meth c s₁ B hml hv
  obtain ⟨rfl, hPB⟩ := hv
  have hx := B.exec
  have hb := B.bytes
  have hr := B.returns
  have hts := atoms_spec (ws := wsJ5_ensureCapacityInternal_d00df) B.pre
  have hown : s.vm.findClass RJ5 = some m.cls := findClass_of_methodNamed B.named
  have hlocks := B.notSynchronized
  have hinJ4 : ∀ w ∈ u_ws RJ4 TJ4 4, w ∈ wsJ5_ensureCapacityInternal_d00df := tu 1326 (by decide +kernel) rfl
  have hB := WB.of hPB
  have hl := lv_entry ([.ref a, .int (nI q)]) (n := 3) (Nat.le_of_ble_eq_true rfl)
  rw [lg_entry_eq]
  generalize (lg_sl ([.ref a, .int (nI q)]) ++ List.replicate (3 - (lg_sl ([.ref a, .int (nI q)])).length) Slot.unset).toArray = ls at hl ⊢
  have hl : lv_has ls 3 [(0, .ref a), (1, .int (nI q))] := hl
  show W p l e ({ frames := 3, cells := 1, slots := (gm q cp), locals := 62 } : Room) s m ([.ref a, .int (nI q)]).toArray below meth c s.heap [] 0 0 (MQ below (va_Qv (fun u : Nat × (Nat → Int32) => sb_Fit u.2) (fun u t => PB dC dI cB z [(a, eSB u.1 n), (u.1, eBy cB (sb_cap q cp) u.2)] t) (zB z)) ([.ref a, .int (nI q)]).toArray s 1 (gm q cp) (zB z)) (F0 m 0 ls [])
  refine lv_aload_n hx hb dJ5_ensureCapacityInternal_d00df_0 rfl (lv_at hl 0 rfl) ?_
  refine va_get (D := (dC, dI)) (ci := 1) (C := RJ4) (T := TJ4) (N := 4) (fs := [.ref b, .int (nI 0), .int (nI 0), .int (nI n)]) hx hb hts hinJ4 hown hB.2.1 hB.1 0 rfl rfl 0 (by decide) (hts (.fieldLink RJ5 15 "java/lang/AbstractStringBuilder" "value" "[B") (tm 216 (by decide +kernel) rfl)) (fun _ h => h) rfl dJ5_ensureCapacityInternal_d00df_1 ?_
  refine va_alen (cA := cB) (x := (cp, .inl f)) hx hb hB.2.1 hB.1 1 0 rfl rfl (v := nI cp) rfl dJ5_ensureCapacityInternal_d00df_4 ?_
  refine lv_aload_n hx hb dJ5_ensureCapacityInternal_d00df_5 rfl (lv_at hl 0 rfl) ?_
  refine va_get (D := (dC, dI)) (ci := 1) (C := RJ4) (T := TJ4) (N := 4) (fs := [.ref b, .int (nI 0), .int (nI 0), .int (nI n)]) hx hb hts hinJ4 hown hB.2.1 hB.1 0 rfl rfl 1 (by decide) (hts (.fieldLink RJ5 22 "java/lang/AbstractStringBuilder" "coder" "B") (tm 217 (by decide +kernel) rfl)) (fun _ h => h) rfl dJ5_ensureCapacityInternal_d00df_6 ?_
  refine lv_ishr hx hb dJ5_ensureCapacityInternal_d00df_9 ?_
  rw [show (nI cp) >>> ((nI 0) &&& 31) = nI cp from sb_shr0 _]
  refine lv_istore_n (lv' := [(2, .int (nI cp)), (0, .ref a), (1, .int (nI q))]) hx hb dJ5_ensureCapacityInternal_d00df_10 rfl hl (by decide) rfl (fun ls hl => ?_)
  refine lv_iload_n hx hb dJ5_ensureCapacityInternal_d00df_11 rfl (lv_at hl 2 rfl) ?_
  refine lv_iload_n hx hb dJ5_ensureCapacityInternal_d00df_12 rfl (lv_at hl 0 rfl) ?_
  refine lv_isub hx hb dJ5_ensureCapacityInternal_d00df_13 ?_
  refine lv_if_le (tgt := 38) hx hb dJ5_ensureCapacityInternal_d00df_14 (by decide) (fun k_1 => ?_) (fun k_1 => ?_)
  · skip
    have hle : q ≤ cp := (sub_le0 hq hm).mp k_1
    have e9 : sb_cap q cp = cp := if_pos hle
    replace hB : WB dC dI cB z [(a, eSB b n), (b, eBy cB (sb_cap q cp) f)] s s.heap [] := by rw [e9]; exact hB
    exact W.widen (k := 1) (n := (gm q cp)) (by omega) (by first | exact Nat.zero_le _ | exact gm0 (by omega)) (W.vret hx hb hr (fun t9 ht9 hW9 => ⟨⟨(b, f), rfl, hf, hB.P ht9 hW9⟩, hB.F ht9⟩) hB.L dJ5_ensureCapacityInternal_d00df_38)
  · skip
    have hle : ¬ q ≤ cp := fun z9 => k_1 ((sub_le0 hq hm).mpr z9)
    have hge := sb_cap_ge q cp
    refine lv_aload_n hx hb dJ5_ensureCapacityInternal_d00df_17 rfl (lv_at hl 1 rfl) ?_
    refine lv_aload_n hx hb dJ5_ensureCapacityInternal_d00df_18 rfl (lv_at hl 1 rfl) ?_
    refine va_get (D := (dC, dI)) (ci := 1) (C := RJ4) (T := TJ4) (N := 4) (fs := [.ref b, .int (nI 0), .int (nI 0), .int (nI n)]) hx hb hts hinJ4 hown hB.2.1 hB.1 0 rfl rfl 0 (by decide) (hts (.fieldLink RJ5 15 "java/lang/AbstractStringBuilder" "value" "[B") (tm 216 (by decide +kernel) rfl)) (fun _ h => h) rfl dJ5_ensureCapacityInternal_d00df_19 ?_
    refine lv_aload_n hx hb dJ5_ensureCapacityInternal_d00df_22 rfl (lv_at hl 1 rfl) ?_
    refine lv_iload_n hx hb dJ5_ensureCapacityInternal_d00df_23 rfl (lv_at hl 2 rfl) ?_
    refine kx_cr (v := nI (sb_cap q cp)) (va_runU (As := [.int (nI q)]) (rest := [.ref b, .ref a]) ⟨hx, hb, hml, hown, hts⟩ (m_J5_newCapacity_0f7a4 l dC dI cB z ([(a, eSB b n), (b, eBy cB cp f)]) a b n cp f rfl rfl q (by omega) (by omega) (by omega)) (va_cwU 1 hts gJ5_ensureCapacityInternal_d00df_J5_newCapacity_0f7a4_u104J4 rfl rfl rfl rfl (by decide +kernel) ⟨Nat.le_of_ble_eq_true rfl, Nat.le_of_ble_eq_true rfl⟩) (hB.preV (ci := 1) (q := (RJ4, TJ4, 4)) rfl 0 rfl) rfl rfl hl.1 rfl (lv_room (Nat.le_of_ble_eq_true rfl)) dJ5_ensureCapacityInternal_d00df_24 ⟨Nat.le_of_ble_eq_true rfl, Nat.le_of_ble_eq_true rfl⟩) (fun _ h => h) ?_
    refine lv_aload_n hx hb dJ5_ensureCapacityInternal_d00df_27 rfl (lv_at hl 1 rfl) ?_
    refine va_get (D := (dC, dI)) (ci := 1) (C := RJ4) (T := TJ4) (N := 4) (fs := [.ref b, .int (nI 0), .int (nI 0), .int (nI n)]) hx hb hts hinJ4 hown hB.2.1 hB.1 0 rfl rfl 1 (by decide) (hts (.fieldLink RJ5 22 "java/lang/AbstractStringBuilder" "coder" "B") (tm 217 (by decide +kernel) rfl)) (fun _ h => h) rfl dJ5_ensureCapacityInternal_d00df_28 ?_
    refine lv_ishl hx hb dJ5_ensureCapacityInternal_d00df_31 ?_
    rw [show (nI (sb_cap q cp)) <<< ((nI 0) &&& 31) = nI (sb_cap q cp) from sb_shl0 _]
    refine kb_r (va_runS (As := [.ref b, .int (nI (sb_cap q cp))]) (rest := [.ref a]) ⟨hx, hb, hml, hown, hts⟩ (m_J7_copyOf_9075b l dC dI cB z ([(a, eSB b n), (b, eBy cB cp f)]) b cp f rfl (sb_cap q cp) hf (by omega) (by omega)) (va_cwS 2 hts gJ5_ensureCapacityInternal_d00df_J7_copyOf_9075b rfl rfl rfl hdJ7_copyOf_9075b_2.2 ⟨Nat.le_of_ble_eq_true rfl, Nat.le_of_ble_eq_true rfl⟩) (hB.preS) rfl rfl hl.1 rfl (lv_room (Nat.le_of_ble_eq_true rfl)) dJ5_ensureCapacityInternal_d00df_32 ⟨Nat.le_refl _, gm0 (by omega)⟩) hB (fun u q9 H locs hu hq hB => ?_)
    replace hB : WB dC dI cB z [(a, eSB b n), (b, eBy cB cp f), (q9, eBy cB (sb_cap q cp) u)] s H locs := hB
    have hf := hu
    refine kb_put (fs := [.ref b, .int (nI 0), .int (nI 0), .int (nI n)]) hx hb hts hinJ4 hown hB 0 rfl 0 (by decide) (hts (.fieldLink RJ5 15 "java/lang/AbstractStringBuilder" "value" "[B") (tm 216 (by decide +kernel) rfl)) (fun _ h => h) rfl rfl rfl rfl (Nat.le_of_ble_eq_true rfl) dJ5_ensureCapacityInternal_d00df_35 (fun H locs hB => ?_)
    replace hB : WB dC dI cB z [(a, eSB q9 n), (b, eBy cB cp f), (q9, eBy cB (sb_cap q cp) u)] s H locs := hB
    replace hB := hB.drop1
    exact W.widen (k := 1) (n := (gm q cp)) (by omega) (by first | exact Nat.zero_le _ | exact gm0 (by omega)) (W.vret hx hb hr (fun t9 ht9 hW9 => ⟨⟨(q9, u), rfl, hf, hB.P ht9 hW9⟩, hB.F ht9⟩) hB.L dJ5_ensureCapacityInternal_d00df_38)
