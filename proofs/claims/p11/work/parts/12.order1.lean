/-! orders: steps appended, ranks counted -/
def apn {α : Type} (old src : Nat → α) (n0 a : Nat) : Nat → α := fun k => if n0 ≤ k ∧ k < n0 + a then src (k - n0) else old k
theorem apn_0 {α : Type} (old src : Nat → α) (n0 : Nat) : apn old src n0 0 = old := by
  funext k
  unfold apn
  rw [if_neg (by omega)]
theorem apn_up {α : Type} (old src : Nat → α) (n0 a : Nat) : va_up (apn old src n0 a) (n0 + a) (src a) = apn old src n0 (a + 1) := by
  funext k
  unfold va_up apn
  by_cases e : k = n0 + a
  · subst e; rw [if_pos rfl, if_pos (by omega), show n0 + a - n0 = a by omega]
  · rw [if_neg e]
    by_cases h3 : n0 ≤ k ∧ k < n0 + a
    · rw [if_pos h3, if_pos (by omega)]
    · rw [if_neg h3, if_neg (by omega)]
theorem apn_src1 (S : XS) {j t n0 a : Nat} (hs : t = j → n0 = 0) (D : Nat → Bool) (x : (Nat → Nat) × (Nat → Nat) × Nat × Nat) : ((xO S j (apn (S.2.1 j).1 (S.2.1 t).1 n0 a, D, x)).2.1 t).1 a = (S.2.1 t).1 a := by
  by_cases h : t = j
  · subst h
    rw [xO_ord]
    show apn _ _ n0 a a = _
    unfold apn
    rw [hs rfl]
    split
    · rfl
    · rfl
  · rw [xO_ne _ _ h]
theorem apn_src2 (S : XS) {j t n0 a : Nat} (hs : t = j → n0 = 0) (K : Nat → Nat) (x : (Nat → Nat) × (Nat → Nat) × Nat × Nat) : ((xO S j (K, apn (S.2.1 j).2.1 (S.2.1 t).2.1 n0 a, x)).2.1 t).2.1 a = (S.2.1 t).2.1 a := by
  by_cases h : t = j
  · subst h
    rw [xO_ord]
    show apn _ _ n0 a a = _
    unfold apn
    rw [hs rfl]
    split
    · rfl
    · rfl
  · rw [xO_ne _ _ h]
theorem push_t {x9 : Nat} {c : Nat → Nat} (r : Nat → Nat) {a : Nat} (h : x9 < c a) : va_up (ovl (fun v => r v + (if x9 < c v then 1 else 0)) r a) a (ovl (fun v => r v + (if x9 < c v then 1 else 0)) r a a + 1) = ovl (fun v => r v + (if x9 < c v then 1 else 0)) r (a + 1) := by
  rw [ovl_out (Nat.le_refl a), show r a + 1 = (fun v => r v + (if x9 < c v then 1 else 0)) a by show _ = r a + (if x9 < c a then 1 else 0); rw [if_pos h], ovl_up]
theorem push_f {x9 : Nat} {c : Nat → Nat} (r : Nat → Nat) {a : Nat} (h : c a ≤ x9) : ovl (fun v => r v + (if x9 < c v then 1 else 0)) r a = ovl (fun v => r v + (if x9 < c v then 1 else 0)) r (a + 1) := by
  rw [← ovl_up]
  funext k
  unfold va_up
  split
  · rename_i e
    subst e
    rw [ovl_out (Nat.le_refl k), if_neg (by omega)]
    rfl
  · rfl
/-- how many heads before h9 are ahead of v -/
def rnk (c : Nat → Nat) (h9 v : Nat) : Nat := cntB (fun h => headB c h && decide (c h < c v)) h9
theorem rnk_le (c : Nat → Nat) (h9 v : Nat) : rnk c h9 v ≤ h9 := cntB_le _ _
theorem rnk_push {c : Nat → Nat} {h9 : Nat} (h : headB c h9 = true) {r : Nat → Nat} : ovl (fun v => ovl (rnk c h9) r 16 v + (if c h9 < c v then 1 else 0)) (ovl (rnk c h9) r 16) 16 = ovl (rnk c (h9 + 1)) r 16 := by
  funext k
  unfold ovl
  by_cases hk : k < 16
  · rw [if_pos hk, if_pos hk]
    show (if k < 16 then rnk c h9 k else r k) + (if c h9 < c k then 1 else 0) = rnk c (h9 + 1) k
    rw [if_pos hk]
    unfold rnk
    by_cases h2 : c h9 < c k
    · rw [if_pos h2, cntB_t (by rw [h, decide_eq_true h2]; rfl)]
    · rw [if_neg h2, cntB_f (by rw [h, decide_eq_false h2]; rfl)]
      rfl
  · rw [if_neg hk, if_neg hk, if_neg hk]
theorem rnk_not {c : Nat → Nat} {h9 : Nat} (h : headB c h9 = false) : rnk c (h9 + 1) = rnk c h9 := by
  funext k
  exact cntB_f (by rw [h]; rfl)
set_option maxHeartbeats 4000000 in
set_option maxRecDepth 100000 in
theorem m_X1_length (l : Launch) (dC : Nat → ClassId) (dI : Nat → Nat → Nat) (ad : Nat → Nat) (S : XS) (j : Nat) (hj : j < 6) : Met l yX1_length wsX1_length ({ frames := 0, cells := 0, slots := 0, locals := 0 } : Room) (va_Pc [.ref (ad (24 + 5 * j))] (PX dC dI ad S)) (vp_Si (fun r => r = nI (S.2.1 j).2.2.2.2.1)) 0 0 (fun _ => False) := by
  refine Met.ofW (cc := cX1_length) (maxL := 1) (ret := (some .int)) pl_X1 rfl ?_
  intro p e s m args below meth c s₁ B hml hv
  obtain ⟨rfl, hPX⟩ := hv
  have hx := B.exec
  have hb := B.bytes
  have hr := B.returns
  have hts := atoms_spec (ws := wsX1_length) B.pre
  have hown : s.vm.findClass RX1 = some m.cls := findClass_of_methodNamed B.named
  have hlocks := B.notSynchronized
  have hin1 : ∀ w ∈ u_ws RX1 TX1 6, w ∈ wsX1_length := tu 1324 (by decide +kernel) rfl
  have hX := WX.of hPX
  have hl := lv_entry ([.ref (ad (24 + 5 * j))]) (n := 1) (Nat.le_of_ble_eq_true rfl)
  rw [lg_entry_eq]
  generalize (lg_sl ([.ref (ad (24 + 5 * j))]) ++ List.replicate (1 - (lg_sl ([.ref (ad (24 + 5 * j))])).length) Slot.unset).toArray = ls at hl ⊢
  have hl : lv_has ls 1 [(0, .ref (ad (24 + 5 * j)))] := hl
  show W p l e ({ frames := 0, cells := 0, slots := 0, locals := 0 } : Room) s m ([.ref (ad (24 + 5 * j))]).toArray below meth c s.heap [] 0 0 (MQ below (vp_Si (fun r => r = nI (S.2.1 j).2.2.2.2.1)) ([.ref (ad (24 + 5 * j))]).toArray s 0 0 (fun _ => False)) (F0 m 0 ls [])
  refine lv_aload_n hx hb dX1_length_0 rfl (lv_at hl 0 rfl) ?_
  refine ko_gn (n := (S.2.1 j).2.2.2.2.1) hx hb hts hin1 hown hX hj rfl (hts (.fieldLink RX1 26 "Orderlattice$Order" "many" "I") (tm 37 (by decide +kernel) rfl)) dX1_length_1 ?_
  exact W.iret (v := nI ((S.2.1 j).2.2.2.2.1)) hx hb hr (fun t9 ht9 hW9 => ⟨_, rfl, rfl, ht9⟩) (fun _ h => nomatch h) dX1_length_4
set_option maxHeartbeats 4000000 in
set_option maxRecDepth 100000 in
theorem m_X1_classCount (l : Launch) (dC : Nat → ClassId) (dI : Nat → Nat → Nat) (ad : Nat → Nat) (S : XS) (j : Nat) (hj : j < 6) : Met l yX1_classCount wsX1_classCount ({ frames := 0, cells := 0, slots := 0, locals := 0 } : Room) (va_Pc [.ref (ad (24 + 5 * j))] (PX dC dI ad S)) (vp_Si (fun r => r = nI (S.2.1 j).2.2.2.2.2)) 0 0 (fun _ => False) := by
  refine Met.ofW (cc := cX1_classCount) (maxL := 1) (ret := (some .int)) pl_X1 rfl ?_
  intro p e s m args below meth c s₁ B hml hv
  obtain ⟨rfl, hPX⟩ := hv
  have hx := B.exec
  have hb := B.bytes
  have hr := B.returns
  have hts := atoms_spec (ws := wsX1_classCount) B.pre
  have hown : s.vm.findClass RX1 = some m.cls := findClass_of_methodNamed B.named
  have hlocks := B.notSynchronized
  have hin1 : ∀ w ∈ u_ws RX1 TX1 6, w ∈ wsX1_classCount := tu 1324 (by decide +kernel) rfl
  have hX := WX.of hPX
  have hl := lv_entry ([.ref (ad (24 + 5 * j))]) (n := 1) (Nat.le_of_ble_eq_true rfl)
  rw [lg_entry_eq]
  generalize (lg_sl ([.ref (ad (24 + 5 * j))]) ++ List.replicate (1 - (lg_sl ([.ref (ad (24 + 5 * j))])).length) Slot.unset).toArray = ls at hl ⊢
  have hl : lv_has ls 1 [(0, .ref (ad (24 + 5 * j)))] := hl
  show W p l e ({ frames := 0, cells := 0, slots := 0, locals := 0 } : Room) s m ([.ref (ad (24 + 5 * j))]).toArray below meth c s.heap [] 0 0 (MQ below (vp_Si (fun r => r = nI (S.2.1 j).2.2.2.2.2)) ([.ref (ad (24 + 5 * j))]).toArray s 0 0 (fun _ => False)) (F0 m 0 ls [])
  refine lv_aload_n hx hb dX1_classCount_0 rfl (lv_at hl 0 rfl) ?_
  refine ko_gs (n := (S.2.1 j).2.2.2.2.2) hx hb hts hin1 hown hX hj rfl (hts (.fieldLink RX1 30 "Orderlattice$Order" "classes" "I") (tm 38 (by decide +kernel) rfl)) dX1_classCount_1 ?_
  exact W.iret (v := nI ((S.2.1 j).2.2.2.2.2)) hx hb hr (fun t9 ht9 hW9 => ⟨_, rfl, rfl, ht9⟩) (fun _ h => nomatch h) dX1_classCount_4
set_option maxHeartbeats 4000000 in
set_option maxRecDepth 100000 in
theorem m_X1_keyOn (l : Launch) (dC : Nat → ClassId) (dI : Nat → Nat → Nat) (ad : Nat → Nat) (S : XS) (j k : Nat) (hj : j < 6) (hk : k < 10) : Met l yX1_keyOn wsX1_keyOn ({ frames := 0, cells := 0, slots := 0, locals := 0 } : Room) (va_Pc [.ref (ad (24 + 5 * j)), .int (nI k)] (PX dC dI ad S)) (vp_Si (fun r => r = nI ((S.2.1 j).1 k))) 0 0 (fun _ => False) := by
  refine Met.ofW (cc := cX1_keyOn) (maxL := 2) (ret := (some .int)) pl_X1 rfl ?_
  intro p e s m args below meth c s₁ B hml hv
  obtain ⟨rfl, hPX⟩ := hv
  have hx := B.exec
  have hb := B.bytes
  have hr := B.returns
  have hts := atoms_spec (ws := wsX1_keyOn) B.pre
  have hown : s.vm.findClass RX1 = some m.cls := findClass_of_methodNamed B.named
  have hlocks := B.notSynchronized
  have hin1 : ∀ w ∈ u_ws RX1 TX1 6, w ∈ wsX1_keyOn := tu 1324 (by decide +kernel) rfl
  have hX := WX.of hPX
  have hl := lv_entry ([.ref (ad (24 + 5 * j)), .int (nI k)]) (n := 2) (Nat.le_of_ble_eq_true rfl)
  rw [lg_entry_eq]
  generalize (lg_sl ([.ref (ad (24 + 5 * j)), .int (nI k)]) ++ List.replicate (2 - (lg_sl ([.ref (ad (24 + 5 * j)), .int (nI k)])).length) Slot.unset).toArray = ls at hl ⊢
  have hl : lv_has ls 2 [(0, .ref (ad (24 + 5 * j))), (1, .int (nI k))] := hl
  show W p l e ({ frames := 0, cells := 0, slots := 0, locals := 0 } : Room) s m ([.ref (ad (24 + 5 * j)), .int (nI k)]).toArray below meth c s.heap [] 0 0 (MQ below (vp_Si (fun r => r = nI ((S.2.1 j).1 k))) ([.ref (ad (24 + 5 * j)), .int (nI k)]).toArray s 0 0 (fun _ => False)) (F0 m 0 ls [])
  refine lv_iload_n hx hb dX1_keyOn_0 rfl (lv_at hl 1 rfl) ?_
  refine kn_if_lt (tgt := 22) hx hb (by omega) dX1_keyOn_1 (by decide) ?_
  refine lv_iload_n hx hb dX1_keyOn_4 rfl (lv_at hl 1 rfl) ?_
  refine lv_aload_n hx hb dX1_keyOn_5 rfl (lv_at hl 0 rfl) ?_
  refine ko_gk hx hb hts hin1 hown hX hj (hts (.fieldLink RX1 11 "Orderlattice$Order" "keys" "[I") (tm 31 (by decide +kernel) rfl)) dX1_keyOn_6 ?_
  refine ko_nk hx hb hX hj dX1_keyOn_9 ?_
  refine kn_icmp_ge (tgt := 22) hx hb (by omega) (by omega) dX1_keyOn_10 (by decide) (fun c2 => absurd c2 (by omega)) (fun c2 => ?_)
  refine lv_aload_n hx hb dX1_keyOn_13 rfl (lv_at hl 0 rfl) ?_
  refine ko_gk hx hb hts hin1 hown hX hj (hts (.fieldLink RX1 11 "Orderlattice$Order" "keys" "[I") (tm 31 (by decide +kernel) rfl)) dX1_keyOn_14 ?_
  refine lv_iload_n hx hb dX1_keyOn_17 rfl (lv_at hl 1 rfl) ?_
  refine ko_lk (v := ((S.2.1 j).1) k) hx hb hX hj (by omega) rfl dX1_keyOn_18 ?_
  refine lv_goto (tgt := 23) hx hb dX1_keyOn_19 (by decide) ?_
  exact W.iret (v := nI (((S.2.1 j).1) k)) hx hb hr (fun t9 ht9 hW9 => ⟨_, rfl, rfl, ht9⟩) (fun _ h => nomatch h) dX1_keyOn_23
set_option maxHeartbeats 4000000 in
set_option maxRecDepth 100000 in
theorem m_X1_rankOf (l : Launch) (dC : Nat → ClassId) (dI : Nat → Nat → Nat) (ad : Nat → Nat) (S : XS) (j k : Nat) (hj : j < 6) (hk : k < 16) : Met l yX1_rankOf wsX1_rankOf ({ frames := 0, cells := 0, slots := 0, locals := 0 } : Room) (va_Pc [.ref (ad (24 + 5 * j)), .int (nI k)] (PX dC dI ad S)) (vp_Si (fun r => r = nI ((S.2.1 j).2.2.2.1 k))) 0 0 (fun _ => False) := by
  refine Met.ofW (cc := cX1_rankOf) (maxL := 2) (ret := (some .int)) pl_X1 rfl ?_
  intro p e s m args below meth c s₁ B hml hv
  obtain ⟨rfl, hPX⟩ := hv
  have hx := B.exec
  have hb := B.bytes
  have hr := B.returns
  have hts := atoms_spec (ws := wsX1_rankOf) B.pre
  have hown : s.vm.findClass RX1 = some m.cls := findClass_of_methodNamed B.named
  have hlocks := B.notSynchronized
  have hin1 : ∀ w ∈ u_ws RX1 TX1 6, w ∈ wsX1_rankOf := tu 1324 (by decide +kernel) rfl
  have hX := WX.of hPX
  have hl := lv_entry ([.ref (ad (24 + 5 * j)), .int (nI k)]) (n := 2) (Nat.le_of_ble_eq_true rfl)
  rw [lg_entry_eq]
  generalize (lg_sl ([.ref (ad (24 + 5 * j)), .int (nI k)]) ++ List.replicate (2 - (lg_sl ([.ref (ad (24 + 5 * j)), .int (nI k)])).length) Slot.unset).toArray = ls at hl ⊢
  have hl : lv_has ls 2 [(0, .ref (ad (24 + 5 * j))), (1, .int (nI k))] := hl
  show W p l e ({ frames := 0, cells := 0, slots := 0, locals := 0 } : Room) s m ([.ref (ad (24 + 5 * j)), .int (nI k)]).toArray below meth c s.heap [] 0 0 (MQ below (vp_Si (fun r => r = nI ((S.2.1 j).2.2.2.1 k))) ([.ref (ad (24 + 5 * j)), .int (nI k)]).toArray s 0 0 (fun _ => False)) (F0 m 0 ls [])
  refine lv_iload_n hx hb dX1_rankOf_0 rfl (lv_at hl 1 rfl) ?_
  refine kn_if_lt (tgt := 22) hx hb (by omega) dX1_rankOf_1 (by decide) ?_
  refine lv_iload_n hx hb dX1_rankOf_4 rfl (lv_at hl 1 rfl) ?_
  refine lv_aload_n hx hb dX1_rankOf_5 rfl (lv_at hl 0 rfl) ?_
  refine ko_gr hx hb hts hin1 hown hX hj (hts (.fieldLink RX1 23 "Orderlattice$Order" "ranks" "[I") (tm 36 (by decide +kernel) rfl)) dX1_rankOf_6 ?_
  refine ko_nr hx hb hX hj dX1_rankOf_9 ?_
  refine kn_icmp_ge (tgt := 22) hx hb (by omega) (by omega) dX1_rankOf_10 (by decide) (fun c2 => absurd c2 (by omega)) (fun c2 => ?_)
  refine lv_aload_n hx hb dX1_rankOf_13 rfl (lv_at hl 0 rfl) ?_
  refine ko_gr hx hb hts hin1 hown hX hj (hts (.fieldLink RX1 23 "Orderlattice$Order" "ranks" "[I") (tm 36 (by decide +kernel) rfl)) dX1_rankOf_14 ?_
  refine lv_iload_n hx hb dX1_rankOf_17 rfl (lv_at hl 1 rfl) ?_
  refine ko_lr (v := ((S.2.1 j).2.2.2.1) k) hx hb hX hj (by omega) rfl dX1_rankOf_18 ?_
  refine lv_goto (tgt := 23) hx hb dX1_rankOf_19 (by decide) ?_
  exact W.iret (v := nI (((S.2.1 j).2.2.2.1) k)) hx hb hr (fun t9 ht9 hW9 => ⟨_, rfl, rfl, ht9⟩) (fun _ h => nomatch h) dX1_rankOf_23
set_option maxHeartbeats 4000000 in
set_option maxRecDepth 100000 in
theorem m_X1_isDownOn (l : Launch) (dC : Nat → ClassId) (dI : Nat → Nat → Nat) (ad : Nat → Nat) (S : XS) (j k : Nat) (hj : j < 6) (hk : k < 10) : Met l yX1_isDownOn wsX1_isDownOn ({ frames := 0, cells := 0, slots := 0, locals := 0 } : Room) (va_Pc [.ref (ad (24 + 5 * j)), .int (nI k)] (PX dC dI ad S)) (vp_Si (fun r => r = bI ((S.2.1 j).2.1 k))) 0 0 (fun _ => False) := by
  refine Met.ofW (cc := cX1_isDownOn) (maxL := 2) (ret := (some .boolean)) pl_X1 rfl ?_
  intro p e s m args below meth c s₁ B hml hv
  obtain ⟨rfl, hPX⟩ := hv
  have hx := B.exec
  have hb := B.bytes
  have hr := B.returns
  have hts := atoms_spec (ws := wsX1_isDownOn) B.pre
  have hown : s.vm.findClass RX1 = some m.cls := findClass_of_methodNamed B.named
  have hlocks := B.notSynchronized
  have hin1 : ∀ w ∈ u_ws RX1 TX1 6, w ∈ wsX1_isDownOn := tu 1324 (by decide +kernel) rfl
  have hX := WX.of hPX
  have hl := lv_entry ([.ref (ad (24 + 5 * j)), .int (nI k)]) (n := 2) (Nat.le_of_ble_eq_true rfl)
  rw [lg_entry_eq]
  generalize (lg_sl ([.ref (ad (24 + 5 * j)), .int (nI k)]) ++ List.replicate (2 - (lg_sl ([.ref (ad (24 + 5 * j)), .int (nI k)])).length) Slot.unset).toArray = ls at hl ⊢
  have hl : lv_has ls 2 [(0, .ref (ad (24 + 5 * j))), (1, .int (nI k))] := hl
  show W p l e ({ frames := 0, cells := 0, slots := 0, locals := 0 } : Room) s m ([.ref (ad (24 + 5 * j)), .int (nI k)]).toArray below meth c s.heap [] 0 0 (MQ below (vp_Si (fun r => r = bI ((S.2.1 j).2.1 k))) ([.ref (ad (24 + 5 * j)), .int (nI k)]).toArray s 0 0 (fun _ => False)) (F0 m 0 ls [])
  refine lv_iload_n hx hb dX1_isDownOn_0 rfl (lv_at hl 1 rfl) ?_
  refine kn_if_lt (tgt := 26) hx hb (by omega) dX1_isDownOn_1 (by decide) ?_
  refine lv_iload_n hx hb dX1_isDownOn_4 rfl (lv_at hl 1 rfl) ?_
  refine lv_aload_n hx hb dX1_isDownOn_5 rfl (lv_at hl 0 rfl) ?_
  refine ko_gd hx hb hts hin1 hown hX hj (hts (.fieldLink RX1 15 "Orderlattice$Order" "downs" "[Z") (tm 33 (by decide +kernel) rfl)) dX1_isDownOn_6 ?_
  refine ko_nd hx hb hX hj dX1_isDownOn_9 ?_
  refine kn_icmp_ge (tgt := 26) hx hb (by omega) (by omega) dX1_isDownOn_10 (by decide) (fun c2 => absurd c2 (by omega)) (fun c2 => ?_)
  refine lv_aload_n hx hb dX1_isDownOn_13 rfl (lv_at hl 0 rfl) ?_
  refine ko_gd hx hb hts hin1 hown hX hj (hts (.fieldLink RX1 15 "Orderlattice$Order" "downs" "[Z") (tm 33 (by decide +kernel) rfl)) dX1_isDownOn_14 ?_
  refine lv_iload_n hx hb dX1_isDownOn_17 rfl (lv_at hl 1 rfl) ?_
  refine ko_ld (z := ((S.2.1 j).2.1) k) hx hb hX hj (by omega) rfl dX1_isDownOn_18 ?_
  refine kb_if_eq (tgt := 26) hx hb dX1_isDownOn_19 (by decide) (fun c3 => ?_) (fun c3 => ?_)
  · skip
    have hc := c3
    refine lv_iconst (v := nI 0) hx hb dX1_isDownOn_26 (by decide) ?_
    exact W.zret (v := bI false) hx hb hr (bI_narrow _) (fun t9 ht9 hW9 => ⟨_, rfl, (by rw [hc]), ht9⟩) (fun _ h => nomatch h) dX1_isDownOn_27
  · skip
    have hc := c3
    refine lv_iconst (v := nI 1) hx hb dX1_isDownOn_22 (by decide) ?_
    refine lv_goto (tgt := 27) hx hb dX1_isDownOn_23 (by decide) ?_
    exact W.zret (v := bI true) hx hb hr (bI_narrow _) (fun t9 ht9 hW9 => ⟨_, rfl, (by rw [hc]), ht9⟩) (fun _ h => nomatch h) dX1_isDownOn_27
set_option maxHeartbeats 4000000 in
set_option maxRecDepth 100000 in
theorem m_X1_compared (l : Launch) (dC : Nat → ClassId) (dI : Nat → Nat → Nat) (ad : Nat → Nat) (S : XS) (j a b : Nat) (hj : j < 6) (ho : ordOK (S.2.1 j)) (ha : a < 16) (hb9 : b < 16) : Met l yX1_compared wsX1_compared ({ frames := 0, cells := 0, slots := 0, locals := 0 } : Room) (va_Pc [.ref (ad (24 + 5 * j)), .int (nI a), .int (nI b)] (PX dC dI ad S)) (vp_Si (fun r => r = cmpI ((S.2.1 j).2.2.1 a) ((S.2.1 j).2.2.1 b))) 0 0 (fun _ => False) := by
  refine Met.ofW (cc := cX1_compared) (maxL := 7) (ret := (some .int)) pl_X1 rfl ?_
  intro p e s m args below meth c s₁ B hml hv
  obtain ⟨rfl, hPX⟩ := hv
  have hx := B.exec
  have hb := B.bytes
  have hr := B.returns
  have hts := atoms_spec (ws := wsX1_compared) B.pre
  have hown : s.vm.findClass RX1 = some m.cls := findClass_of_methodNamed B.named
  have hlocks := B.notSynchronized
  have hin1 : ∀ w ∈ u_ws RX1 TX1 6, w ∈ wsX1_compared := tu 1324 (by decide +kernel) rfl
  have hX := WX.of hPX
  have hl := lv_entry ([.ref (ad (24 + 5 * j)), .int (nI a), .int (nI b)]) (n := 7) (Nat.le_of_ble_eq_true rfl)
  rw [lg_entry_eq]
  generalize (lg_sl ([.ref (ad (24 + 5 * j)), .int (nI a), .int (nI b)]) ++ List.replicate (7 - (lg_sl ([.ref (ad (24 + 5 * j)), .int (nI a), .int (nI b)])).length) Slot.unset).toArray = ls at hl ⊢
  have hl : lv_has ls 7 [(0, .ref (ad (24 + 5 * j))), (1, .int (nI a)), (2, .int (nI b))] := hl
  show W p l e ({ frames := 0, cells := 0, slots := 0, locals := 0 } : Room) s m ([.ref (ad (24 + 5 * j)), .int (nI a), .int (nI b)]).toArray below meth c s.heap [] 0 0 (MQ below (vp_Si (fun r => r = cmpI ((S.2.1 j).2.2.1 a) ((S.2.1 j).2.2.1 b))) ([.ref (ad (24 + 5 * j)), .int (nI a), .int (nI b)]).toArray s 0 0 (fun _ => False)) (F0 m 0 ls [])
  have h1 := ho.code ha
  have h2 := ho.code hb9
  refine lv_iload_n hx hb dX1_compared_0 rfl (lv_at hl 1 rfl) ?_
  refine kn_if_lt (tgt := 22) hx hb (by omega) dX1_compared_1 (by decide) ?_
  refine lv_iload_n hx hb dX1_compared_4 rfl (lv_at hl 1 rfl) ?_
  refine lv_aload_n hx hb dX1_compared_5 rfl (lv_at hl 0 rfl) ?_
  refine ko_gc hx hb hts hin1 hown hX hj (hts (.fieldLink RX1 19 "Orderlattice$Order" "codes" "[J") (tm 35 (by decide +kernel) rfl)) dX1_compared_6 ?_
  refine ko_nc hx hb hX hj dX1_compared_9 ?_
  refine kn_icmp_ge (tgt := 22) hx hb (by omega) (by omega) dX1_compared_10 (by decide) (fun c2 => absurd c2 (by omega)) (fun c2 => ?_)
  refine lv_aload_n hx hb dX1_compared_13 rfl (lv_at hl 0 rfl) ?_
  refine ko_gc hx hb hts hin1 hown hX hj (hts (.fieldLink RX1 19 "Orderlattice$Order" "codes" "[J") (tm 35 (by decide +kernel) rfl)) dX1_compared_14 ?_
  refine lv_iload_n hx hb dX1_compared_17 rfl (lv_at hl 1 rfl) ?_
  refine ko_lc (v := ((S.2.1 j).2.2.1) a) hx hb hX hj (by omega) rfl dX1_compared_18 ?_
  refine lv_goto (tgt := 23) hx hb dX1_compared_19 (by decide) ?_
  refine lv_lstore_n (lv' := [(3, .long (lN (((S.2.1 j).2.2.1) a))), (0, .ref (ad (24 + 5 * j))), (1, .int (nI a)), (2, .int (nI b))]) hx hb dX1_compared_23 rfl hl (by decide) rfl (fun ls hl => ?_)
  refine lv_iload_n hx hb dX1_compared_24 rfl (lv_at hl 3 rfl) ?_
  refine kn_if_lt (tgt := 46) hx hb (by omega) dX1_compared_25 (by decide) ?_
  refine lv_iload_n hx hb dX1_compared_28 rfl (lv_at hl 3 rfl) ?_
  refine lv_aload_n hx hb dX1_compared_29 rfl (lv_at hl 1 rfl) ?_
  refine ko_gc hx hb hts hin1 hown hX hj (hts (.fieldLink RX1 19 "Orderlattice$Order" "codes" "[J") (tm 35 (by decide +kernel) rfl)) dX1_compared_30 ?_
  refine ko_nc hx hb hX hj dX1_compared_33 ?_
  refine kn_icmp_ge (tgt := 46) hx hb (by omega) (by omega) dX1_compared_34 (by decide) (fun c4 => absurd c4 (by omega)) (fun c4 => ?_)
  refine lv_aload_n hx hb dX1_compared_37 rfl (lv_at hl 1 rfl) ?_
  refine ko_gc hx hb hts hin1 hown hX hj (hts (.fieldLink RX1 19 "Orderlattice$Order" "codes" "[J") (tm 35 (by decide +kernel) rfl)) dX1_compared_38 ?_
  refine lv_iload_n hx hb dX1_compared_41 rfl (lv_at hl 3 rfl) ?_
  refine ko_lc (v := ((S.2.1 j).2.2.1) b) hx hb hX hj (by omega) rfl dX1_compared_42 ?_
  refine lv_goto (tgt := 47) hx hb dX1_compared_43 (by decide) ?_
  refine lv_lstore (lv' := [(5, .long (lN (((S.2.1 j).2.2.1) b))), (3, .long (lN (((S.2.1 j).2.2.1) a))), (0, .ref (ad (24 + 5 * j))), (1, .int (nI a)), (2, .int (nI b))]) hx hb dX1_compared_47 hl (by decide) rfl (fun ls hl => ?_)
  refine lv_lload_n hx hb dX1_compared_49 rfl (lv_at hl 1 rfl) ?_
  refine lv_lload hx hb dX1_compared_50 (lv_at hl 0 rfl) ?_
  refine kc_lcmp hx hb (by omega) (by omega) dX1_compared_52 ?_
  refine kc_if_ge (tgt := 60) hx hb dX1_compared_53 (by decide) (fun c5 => ?_) (fun c5 => ?_)
  · skip
    refine lv_lload_n hx hb dX1_compared_60 rfl (lv_at hl 1 rfl) ?_
    refine lv_lload hx hb dX1_compared_61 (lv_at hl 0 rfl) ?_
    refine kc_lcmp hx hb (by omega) (by omega) dX1_compared_63 ?_
    refine kc_if_le (tgt := 71) hx hb dX1_compared_64 (by decide) (fun c6 => ?_) (fun c6 => ?_)
    · skip
      refine lv_iconst (v := nI 0) hx hb dX1_compared_71 (by decide) ?_
      exact W.iret (v := nI 0) hx hb hr (fun t9 ht9 hW9 => ⟨_, rfl, (cmpI_eq (by omega)).symm, ht9⟩) (fun _ h => nomatch h) dX1_compared_72
    · skip
      refine lv_iconst (v := nI 1) hx hb dX1_compared_67 (by decide) ?_
      refine lv_goto (tgt := 72) hx hb dX1_compared_68 (by decide) ?_
      exact W.iret (v := nI 1) hx hb hr (fun t9 ht9 hW9 => ⟨_, rfl, (cmpI_gt (by omega)).symm, ht9⟩) (fun _ h => nomatch h) dX1_compared_72
  · skip
    refine lv_iconst (v := (-1)) hx hb dX1_compared_56 (by decide) ?_
    refine lv_goto (tgt := 72) hx hb dX1_compared_57 (by decide) ?_
    exact W.iret (v := (-1)) hx hb hr (fun t9 ht9 hW9 => ⟨_, rfl, (cmpI_lt (by omega)).symm, ht9⟩) (fun _ h => nomatch h) dX1_compared_72
set_option maxHeartbeats 4000000 in
set_option maxRecDepth 100000 in
theorem m_X1_addStep (l : Launch) (dC : Nat → ClassId) (dI : Nat → Nat → Nat) (ad : Nat → Nat) (S : XS) (j k : Nat) (d : Bool) (hj : j < 6) (hn : (S.2.1 j).2.2.2.2.1 < 10) : Met l yX1_addStep wsX1_addStep ({ frames := 0, cells := 0, slots := 0, locals := 0 } : Room) (va_Pc [.ref (ad (24 + 5 * j)), .int (nI k), .int (bI d)] (PX dC dI ad S)) (va_Qv (fun S' => S' = xO S j (va_up (S.2.1 j).1 (S.2.1 j).2.2.2.2.1 k, va_up (S.2.1 j).2.1 (S.2.1 j).2.2.2.2.1 d, (S.2.1 j).2.2.1, (S.2.1 j).2.2.2.1, (S.2.1 j).2.2.2.2.1 + 1, (S.2.1 j).2.2.2.2.2)) (PX dC dI ad) (AX ad)) 0 0 (AX ad) := by
  refine Met.ofW (cc := cX1_addStep) (maxL := 3) (ret := none) pl_X1 rfl ?_
  intro p e s m args below meth c s₁ B hml hv
  obtain ⟨rfl, hPX⟩ := hv
  have hx := B.exec
  have hb := B.bytes
  have hr := B.returns
  have hts := atoms_spec (ws := wsX1_addStep) B.pre
  have hown : s.vm.findClass RX1 = some m.cls := findClass_of_methodNamed B.named
  have hlocks := B.notSynchronized
  have hin1 : ∀ w ∈ u_ws RX1 TX1 6, w ∈ wsX1_addStep := tu 1324 (by decide +kernel) rfl
  have hX := WX.of hPX
  have hl := lv_entry ([.ref (ad (24 + 5 * j)), .int (nI k), .int (bI d)]) (n := 3) (Nat.le_of_ble_eq_true rfl)
  rw [lg_entry_eq]
  generalize (lg_sl ([.ref (ad (24 + 5 * j)), .int (nI k), .int (bI d)]) ++ List.replicate (3 - (lg_sl ([.ref (ad (24 + 5 * j)), .int (nI k), .int (bI d)])).length) Slot.unset).toArray = ls at hl ⊢
  have hl : lv_has ls 3 [(0, .ref (ad (24 + 5 * j))), (1, .int (nI k)), (2, .int (bI d))] := hl
  show W p l e ({ frames := 0, cells := 0, slots := 0, locals := 0 } : Room) s m ([.ref (ad (24 + 5 * j)), .int (nI k), .int (bI d)]).toArray below meth c s.heap [] 0 0 (MQ below (va_Qv (fun S' => S' = xO S j (va_up (S.2.1 j).1 (S.2.1 j).2.2.2.2.1 k, va_up (S.2.1 j).2.1 (S.2.1 j).2.2.2.2.1 d, (S.2.1 j).2.2.1, (S.2.1 j).2.2.2.1, (S.2.1 j).2.2.2.2.1 + 1, (S.2.1 j).2.2.2.2.2)) (PX dC dI ad) (AX ad)) ([.ref (ad (24 + 5 * j)), .int (nI k), .int (bI d)]).toArray s 0 0 (AX ad)) (F0 m 0 ls [])
  refine lv_aload_n hx hb dX1_addStep_0 rfl (lv_at hl 0 rfl) ?_
  refine ko_gn (n := (S.2.1 j).2.2.2.2.1) hx hb hts hin1 hown hX hj rfl (hts (.fieldLink RX1 26 "Orderlattice$Order" "many" "I") (tm 37 (by decide +kernel) rfl)) dX1_addStep_1 ?_
  refine kn_if_lt (tgt := 61) hx hb (by omega) dX1_addStep_4 (by decide) ?_
  refine lv_aload_n hx hb dX1_addStep_7 rfl (lv_at hl 0 rfl) ?_
  refine ko_gn (n := (S.2.1 j).2.2.2.2.1) hx hb hts hin1 hown hX hj rfl (hts (.fieldLink RX1 26 "Orderlattice$Order" "many" "I") (tm 37 (by decide +kernel) rfl)) dX1_addStep_8 ?_
  refine lv_aload_n hx hb dX1_addStep_11 rfl (lv_at hl 0 rfl) ?_
  refine ko_gk hx hb hts hin1 hown hX hj (hts (.fieldLink RX1 11 "Orderlattice$Order" "keys" "[I") (tm 31 (by decide +kernel) rfl)) dX1_addStep_12 ?_
  refine ko_nk hx hb hX hj dX1_addStep_15 ?_
  refine kn_icmp_ge (tgt := 61) hx hb (by omega) (by omega) dX1_addStep_16 (by decide) (fun c2 => absurd c2 (by omega)) (fun c2 => ?_)
  refine lv_aload_n hx hb dX1_addStep_19 rfl (lv_at hl 0 rfl) ?_
  refine ko_gn (n := (S.2.1 j).2.2.2.2.1) hx hb hts hin1 hown hX hj rfl (hts (.fieldLink RX1 26 "Orderlattice$Order" "many" "I") (tm 37 (by decide +kernel) rfl)) dX1_addStep_20 ?_
  refine lv_aload_n hx hb dX1_addStep_23 rfl (lv_at hl 0 rfl) ?_
  refine ko_gd hx hb hts hin1 hown hX hj (hts (.fieldLink RX1 15 "Orderlattice$Order" "downs" "[Z") (tm 33 (by decide +kernel) rfl)) dX1_addStep_24 ?_
  refine ko_nd hx hb hX hj dX1_addStep_27 ?_
  refine kn_icmp_ge (tgt := 61) hx hb (by omega) (by omega) dX1_addStep_28 (by decide) (fun c3 => absurd c3 (by omega)) (fun c3 => ?_)
  refine lv_aload_n hx hb dX1_addStep_31 rfl (lv_at hl 0 rfl) ?_
  refine ko_gk hx hb hts hin1 hown hX hj (hts (.fieldLink RX1 11 "Orderlattice$Order" "keys" "[I") (tm 31 (by decide +kernel) rfl)) dX1_addStep_32 ?_
  refine lv_aload_n hx hb dX1_addStep_35 rfl (lv_at hl 0 rfl) ?_
  refine ko_gn (n := (S.2.1 j).2.2.2.2.1) hx hb hts hin1 hown hX hj rfl (hts (.fieldLink RX1 26 "Orderlattice$Order" "many" "I") (tm 37 (by decide +kernel) rfl)) dX1_addStep_36 ?_
  refine lv_iload_n hx hb dX1_addStep_39 rfl (lv_at hl 1 rfl) ?_
  refine ko_sk (S' := (xO S j (va_up ((S.2.1 j).1) ((S.2.1 j).2.2.2.2.1) k, (S.2.1 j).2.1, (S.2.1 j).2.2.1, (S.2.1 j).2.2.2.1, (S.2.1 j).2.2.2.2.1, (S.2.1 j).2.2.2.2.2))) hx hb hX hj (by omega) rfl dX1_addStep_40 (fun H locs hX => ?_)
  refine lv_aload_n hx hb dX1_addStep_41 rfl (lv_at hl 0 rfl) ?_
  refine ko_gd hx hb hts hin1 hown hX hj (hts (.fieldLink RX1 15 "Orderlattice$Order" "downs" "[Z") (tm 33 (by decide +kernel) rfl)) dX1_addStep_42 ?_
  refine lv_aload_n hx hb dX1_addStep_45 rfl (lv_at hl 0 rfl) ?_
  refine ko_gn (n := (S.2.1 j).2.2.2.2.1) hx hb hts hin1 hown hX hj (by rw [xO_ord]) (hts (.fieldLink RX1 26 "Orderlattice$Order" "many" "I") (tm 37 (by decide +kernel) rfl)) dX1_addStep_46 ?_
  refine lv_iload_n hx hb dX1_addStep_49 rfl (lv_at hl 2 rfl) ?_
  refine ko_sd (S' := (xO S j (va_up ((S.2.1 j).1) ((S.2.1 j).2.2.2.2.1) k, va_up ((S.2.1 j).2.1) ((S.2.1 j).2.2.2.2.1) d, (S.2.1 j).2.2.1, (S.2.1 j).2.2.2.1, (S.2.1 j).2.2.2.2.1, (S.2.1 j).2.2.2.2.2))) hx hb hX hj (by omega) (by rw [xO_ord, xO_xO]) dX1_addStep_50 (fun H locs hX => ?_)
  refine lv_aload_n hx hb dX1_addStep_51 rfl (lv_at hl 0 rfl) ?_
  refine lv_dup hx hb dX1_addStep_52 rfl ?_
  refine ko_gn (n := (S.2.1 j).2.2.2.2.1) hx hb hts hin1 hown hX hj (by rw [xO_ord]) (hts (.fieldLink RX1 26 "Orderlattice$Order" "many" "I") (tm 37 (by decide +kernel) rfl)) dX1_addStep_53 ?_
  refine lv_iconst (v := nI 1) hx hb dX1_addStep_56 (by decide) ?_
  refine kn_iadd hx hb dX1_addStep_57 ?_
  refine ko_pn (S' := (xO S j (va_up ((S.2.1 j).1) ((S.2.1 j).2.2.2.2.1) k, va_up ((S.2.1 j).2.1) ((S.2.1 j).2.2.2.2.1) d, (S.2.1 j).2.2.1, (S.2.1 j).2.2.2.1, (S.2.1 j).2.2.2.2.1 + 1, (S.2.1 j).2.2.2.2.2))) hx hb hts hin1 hown hX hj (by rw [xO_ord, xO_xO]) (hts (.fieldLink RX1 26 "Orderlattice$Order" "many" "I") (tm 37 (by decide +kernel) rfl)) dX1_addStep_58 (fun H locs hX => ?_)
  exact W.vret hx hb hr (fun t9 ht9 hW9 => ⟨⟨(xO S j (va_up ((S.2.1 j).1) ((S.2.1 j).2.2.2.2.1) k, va_up ((S.2.1 j).2.1) ((S.2.1 j).2.2.2.2.1) d, (S.2.1 j).2.2.1, (S.2.1 j).2.2.2.1, (S.2.1 j).2.2.2.2.1 + 1, (S.2.1 j).2.2.2.2.2)), rfl, rfl, hX.P ht9 hW9⟩, hX.2.2.2.F ht9⟩) hX.2.2.2.2.2 dX1_addStep_61
set_option maxHeartbeats 4000000 in
set_option maxRecDepth 100000 in
theorem m_X1_addSteps (l : Launch) (dC : Nat → ClassId) (dI : Nat → Nat → Nat) (ad : Nat → Nat) (S : XS) (j t m9 : Nat) (hj : j < 6) (ht : t < 6) (hm : m9 ≤ 10) (hn : (S.2.1 j).2.2.2.2.1 + m9 ≤ 10) (hs : t = j → (S.2.1 j).2.2.2.2.1 = 0) : Met l yX1_addSteps wsX1_addSteps ({ frames := 1, cells := 0, slots := 0, locals := 22 } : Room) (va_Pc [.ref (ad (24 + 5 * j)), .ref (ad (24 + 5 * t)), .int (nI m9)] (PX dC dI ad S)) (va_Qv (fun S' => S' = xO S j (apn ((S.2.1 j).1) ((S.2.1 t).1) ((S.2.1 j).2.2.2.2.1) m9, apn ((S.2.1 j).2.1) ((S.2.1 t).2.1) ((S.2.1 j).2.2.2.2.1) m9, (S.2.1 j).2.2.1, (S.2.1 j).2.2.2.1, (S.2.1 j).2.2.2.2.1 + m9, (S.2.1 j).2.2.2.2.2)) (PX dC dI ad) (AX ad)) 0 0 (AX ad) := by
  refine Met.ofW (cc := cX1_addSteps) (maxL := 4) (ret := none) pl_X1 rfl ?_
  intro p e s m args below meth c s₁ B hml hv
  obtain ⟨rfl, hPX⟩ := hv
  have hx := B.exec
  have hb := B.bytes
  have hr := B.returns
  have hts := atoms_spec (ws := wsX1_addSteps) B.pre
  have hown : s.vm.findClass RX1 = some m.cls := findClass_of_methodNamed B.named
  have hlocks := B.notSynchronized
  have hX := WX.of hPX
  have hl := lv_entry ([.ref (ad (24 + 5 * j)), .ref (ad (24 + 5 * t)), .int (nI m9)]) (n := 4) (Nat.le_of_ble_eq_true rfl)
  rw [lg_entry_eq]
  generalize (lg_sl ([.ref (ad (24 + 5 * j)), .ref (ad (24 + 5 * t)), .int (nI m9)]) ++ List.replicate (4 - (lg_sl ([.ref (ad (24 + 5 * j)), .ref (ad (24 + 5 * t)), .int (nI m9)])).length) Slot.unset).toArray = ls at hl ⊢
  have hl : lv_has ls 4 [(0, .ref (ad (24 + 5 * j))), (1, .ref (ad (24 + 5 * t))), (2, .int (nI m9))] := hl
  show W p l e ({ frames := 1, cells := 0, slots := 0, locals := 22 } : Room) s m ([.ref (ad (24 + 5 * j)), .ref (ad (24 + 5 * t)), .int (nI m9)]).toArray below meth c s.heap [] 0 0 (MQ below (va_Qv (fun S' => S' = xO S j (apn ((S.2.1 j).1) ((S.2.1 t).1) ((S.2.1 j).2.2.2.2.1) m9, apn ((S.2.1 j).2.1) ((S.2.1 t).2.1) ((S.2.1 j).2.2.2.2.1) m9, (S.2.1 j).2.2.1, (S.2.1 j).2.2.2.1, (S.2.1 j).2.2.2.2.1 + m9, (S.2.1 j).2.2.2.2.2)) (PX dC dI ad) (AX ad)) ([.ref (ad (24 + 5 * j)), .ref (ad (24 + 5 * t)), .int (nI m9)]).toArray s 0 0 (AX ad)) (F0 m 0 ls [])
  refine lv_iconst (v := nI 0) hx hb dX1_addSteps_0 (by decide) ?_
  refine lv_istore_n (lv' := [(3, .int (nI 0)), (0, .ref (ad (24 + 5 * j))), (1, .ref (ad (24 + 5 * t))), (2, .int (nI m9))]) hx hb dX1_addSteps_1 rfl hl (by decide) rfl (fun ls hl => ?_)
  have loop2 : ∀ (fuel : Nat) (a : Nat) (ha : a ≤ m9) (H : Heap) (locs : List Loc), m9 - a < fuel → WX dC dI ad (xO S j (apn ((S.2.1 j).1) ((S.2.1 t).1) ((S.2.1 j).2.2.2.2.1) a, apn ((S.2.1 j).2.1) ((S.2.1 t).2.1) ((S.2.1 j).2.2.2.2.1) a, (S.2.1 j).2.2.1, (S.2.1 j).2.2.2.1, (S.2.1 j).2.2.2.2.1 + a, (S.2.1 j).2.2.2.2.2)) (AX ad) s H locs → ∀ ls : Array Slot, lv_has ls 4 [(0, .ref (ad (24 + 5 * j))), (1, .ref (ad (24 + 5 * t))), (2, .int (nI m9)), (3, .int (nI a))] → W p l e ({ frames := 1, cells := 0, slots := 0, locals := 22 } : Room) s m ([.ref (ad (24 + 5 * j)), .ref (ad (24 + 5 * t)), .int (nI m9)]).toArray below meth c H locs 0 0 (MQ below (va_Qv (fun S' => S' = xO S j (apn ((S.2.1 j).1) ((S.2.1 t).1) ((S.2.1 j).2.2.2.2.1) m9, apn ((S.2.1 j).2.1) ((S.2.1 t).2.1) ((S.2.1 j).2.2.2.2.1) m9, (S.2.1 j).2.2.1, (S.2.1 j).2.2.2.1, (S.2.1 j).2.2.2.2.1 + m9, (S.2.1 j).2.2.2.2.2)) (PX dC dI ad) (AX ad)) ([.ref (ad (24 + 5 * j)), .ref (ad (24 + 5 * t)), .int (nI m9)]).toArray s 0 0 (AX ad)) (F0 m 2 ls []) := by
    intro fuel
    induction fuel with
    | zero => intro a ha H locs hf; exact absurd hf (Nat.not_lt_zero _)
    | succ fuel ih2 =>
      intro a ha H locs hf hX ls hl
      refine lv_iload_n hx hb dX1_addSteps_2 rfl (lv_at hl 3 rfl) ?_
      refine lv_iload_n hx hb dX1_addSteps_3 rfl (lv_at hl 2 rfl) ?_
      refine kn_icmp_ge (tgt := 27) hx hb (by omega) (by omega) dX1_addSteps_4 (by decide) (fun c1 => ?_) (fun c1 => ?_)
      · skip
        exact W.vret hx hb hr (fun t9 ht9 hW9 => ⟨⟨(xO S j (apn ((S.2.1 j).1) ((S.2.1 t).1) ((S.2.1 j).2.2.2.2.1) a, apn ((S.2.1 j).2.1) ((S.2.1 t).2.1) ((S.2.1 j).2.2.2.2.1) a, (S.2.1 j).2.2.1, (S.2.1 j).2.2.2.1, (S.2.1 j).2.2.2.2.1 + a, (S.2.1 j).2.2.2.2.2)), rfl, (by rw [show a = m9 by omega]), hX.P ht9 hW9⟩, hX.2.2.2.F ht9⟩) hX.2.2.2.2.2 dX1_addSteps_27
      · skip
        refine lv_aload_n hx hb dX1_addSteps_7 rfl (lv_at hl 0 rfl) ?_
        refine lv_aload_n hx hb dX1_addSteps_8 rfl (lv_at hl 1 rfl) ?_
        refine lv_iload_n hx hb dX1_addSteps_9 rfl (lv_at hl 3 rfl) ?_
        refine kx_cr (v := nI ((S.2.1 t).1 a)) (va_runV (As := [.int (nI a)]) (rest := [.ref (ad (24 + 5 * j))]) ⟨hx, hb, hml, hown, hts⟩ (m_X1_keyOn l dC dI ad (xO S j (apn ((S.2.1 j).1) ((S.2.1 t).1) ((S.2.1 j).2.2.2.2.1) a, apn ((S.2.1 j).2.1) ((S.2.1 t).2.1) ((S.2.1 j).2.2.2.2.1) a, (S.2.1 j).2.2.1, (S.2.1 j).2.2.2.1, (S.2.1 j).2.2.2.2.1 + a, (S.2.1 j).2.2.2.2.2)) t a ht (by omega)) (cwV 1 hts gX1_addSteps_X1_keyOn rfl rfl rfl hdX1_keyOn_1 ⟨Nat.le_of_ble_eq_true rfl, Nat.le_of_ble_eq_true rfl⟩) (hX.preOrd ht) rfl rfl hl.1 rfl (lv_room (Nat.le_of_ble_eq_true rfl)) dX1_addSteps_10 ⟨Nat.le_of_ble_eq_true rfl, Nat.le_of_ble_eq_true rfl⟩) (fun _ h => by rw [h, apn_src1 S hs]) ?_
        refine lv_aload_n hx hb dX1_addSteps_13 rfl (lv_at hl 1 rfl) ?_
        refine lv_iload_n hx hb dX1_addSteps_14 rfl (lv_at hl 3 rfl) ?_
        refine kx_cr (v := bI ((S.2.1 t).2.1 a)) (va_runV (As := [.int (nI a)]) (rest := [.int (nI ((S.2.1 t).1 a)), .ref (ad (24 + 5 * j))]) ⟨hx, hb, hml, hown, hts⟩ (m_X1_isDownOn l dC dI ad (xO S j (apn ((S.2.1 j).1) ((S.2.1 t).1) ((S.2.1 j).2.2.2.2.1) a, apn ((S.2.1 j).2.1) ((S.2.1 t).2.1) ((S.2.1 j).2.2.2.2.1) a, (S.2.1 j).2.2.1, (S.2.1 j).2.2.2.1, (S.2.1 j).2.2.2.2.1 + a, (S.2.1 j).2.2.2.2.2)) t a ht (by omega)) (cwV 1 hts gX1_addSteps_X1_isDownOn rfl rfl rfl hdX1_isDownOn_1 ⟨Nat.le_of_ble_eq_true rfl, Nat.le_of_ble_eq_true rfl⟩) (hX.preOrd ht) rfl rfl hl.1 rfl (lv_room (Nat.le_of_ble_eq_true rfl)) dX1_addSteps_15 ⟨Nat.le_of_ble_eq_true rfl, Nat.le_of_ble_eq_true rfl⟩) (fun _ h => by rw [h, apn_src2 S hs]) ?_
        refine kx_cv (va_runV (As := [.int (nI ((S.2.1 t).1 a)), .int (bI ((S.2.1 t).2.1 a))]) (rest := []) ⟨hx, hb, hml, hown, hts⟩ (m_X1_addStep l dC dI ad (xO S j (apn ((S.2.1 j).1) ((S.2.1 t).1) ((S.2.1 j).2.2.2.2.1) a, apn ((S.2.1 j).2.1) ((S.2.1 t).2.1) ((S.2.1 j).2.2.2.2.1) a, (S.2.1 j).2.2.1, (S.2.1 j).2.2.2.1, (S.2.1 j).2.2.2.2.1 + a, (S.2.1 j).2.2.2.2.2)) j ((S.2.1 t).1 a) ((S.2.1 t).2.1 a) hj (by rw [xO_ord]; show _ + a < 10; omega)) (cwV 2 hts gX1_addSteps_X1_addStep rfl rfl rfl hdX1_addStep_2 ⟨Nat.le_of_ble_eq_true rfl, Nat.le_of_ble_eq_true rfl⟩) (hX.preOrd hj) rfl rfl hl.1 rfl (lv_room (Nat.le_of_ble_eq_true rfl)) dX1_addSteps_18 ⟨Nat.le_of_ble_eq_true rfl, Nat.le_of_ble_eq_true rfl⟩) hX (fun _ h => h) (fun S_ H locs hw hX => ?_)
        rw [xO_ord, xO_xO] at hw
        dsimp only at hw
        rw [apn_up, apn_up] at hw
        subst hw
        refine lv_iinc (v := nI (a + 1)) (lv' := [(3, .int (nI (a + 1))), (0, .ref (ad (24 + 5 * j))), (1, .ref (ad (24 + 5 * t))), (2, .int (nI m9))]) hx hb dX1_addSteps_21 hl (k := 3) rfl (nI_1 a) (by decide) rfl (fun ls hl => ?_)
        refine lv_goto (tgt := 2) hx hb dX1_addSteps_24 (by decide) ?_
        exact ih2  (a + 1) (by omega) _ _ (by omega) hX _ (lv_sub hl [1, 2, 3, 0] rfl)
  exact loop2 (m9 - 0 + 1) 0 (by omega) _ _ (by omega) (WX.eqS (by rw [apn_0, apn_0, Nat.add_zero]; exact (xO_self S j).symm) hX) _ (lv_sub hl [1, 2, 3, 0] rfl)
set_option maxHeartbeats 4000000 in
set_option maxRecDepth 100000 in
theorem m_X1_isFirstOfClass (l : Launch) (dC : Nat → ClassId) (dI : Nat → Nat → Nat) (ad : Nat → Nat) (S : XS) (j v : Nat) (hj : j < 6) (hv : v < 16) (hc9 : ∀ k, k < 16 → (S.2.1 j).2.2.1 k < 2 ^ 62) : Met l yX1_isFirstOfClass wsX1_isFirstOfClass ({ frames := 0, cells := 0, slots := 0, locals := 0 } : Room) (va_Pc [.ref (ad (24 + 5 * j)), .int (nI v)] (PX dC dI ad S)) (vp_Si (fun r => r = bI (headB (S.2.1 j).2.2.1 v))) 0 0 (fun _ => False) := by
  refine Met.ofW (cc := cX1_isFirstOfClass) (maxL := 3) (ret := (some .boolean)) pl_X1 rfl ?_
  intro p e s m args below meth c s₁ B hml hv
  obtain ⟨rfl, hPX⟩ := hv
  have hx := B.exec
  have hb := B.bytes
  have hr := B.returns
  have hts := atoms_spec (ws := wsX1_isFirstOfClass) B.pre
  have hown : s.vm.findClass RX1 = some m.cls := findClass_of_methodNamed B.named
  have hlocks := B.notSynchronized
  have hin1 : ∀ w ∈ u_ws RX1 TX1 6, w ∈ wsX1_isFirstOfClass := tu 1324 (by decide +kernel) rfl
  have hX := WX.of hPX
  have hl := lv_entry ([.ref (ad (24 + 5 * j)), .int (nI v)]) (n := 3) (Nat.le_of_ble_eq_true rfl)
  rw [lg_entry_eq]
  generalize (lg_sl ([.ref (ad (24 + 5 * j)), .int (nI v)]) ++ List.replicate (3 - (lg_sl ([.ref (ad (24 + 5 * j)), .int (nI v)])).length) Slot.unset).toArray = ls at hl ⊢
  have hl : lv_has ls 3 [(0, .ref (ad (24 + 5 * j))), (1, .int (nI v))] := hl
  show W p l e ({ frames := 0, cells := 0, slots := 0, locals := 0 } : Room) s m ([.ref (ad (24 + 5 * j)), .int (nI v)]).toArray below meth c s.heap [] 0 0 (MQ below (vp_Si (fun r => r = bI (headB (S.2.1 j).2.2.1 v))) ([.ref (ad (24 + 5 * j)), .int (nI v)]).toArray s 0 0 (fun _ => False)) (F0 m 0 ls [])
  refine lv_iconst (v := nI 0) hx hb dX1_isFirstOfClass_0 (by decide) ?_
  refine lv_istore_n (lv' := [(2, .int (nI 0)), (0, .ref (ad (24 + 5 * j))), (1, .int (nI v))]) hx hb dX1_isFirstOfClass_1 rfl hl (by decide) rfl (fun ls hl => ?_)
  have loop2 : ∀ (fuel : Nat) (k : Nat) (hk : k ≤ v) (hq : ∀ q, q < k → (S.2.1 j).2.2.1 q ≠ (S.2.1 j).2.2.1 v), v - k < fuel → ∀ ls : Array Slot, lv_has ls 3 [(0, .ref (ad (24 + 5 * j))), (1, .int (nI v)), (2, .int (nI k))] → W p l e ({ frames := 0, cells := 0, slots := 0, locals := 0 } : Room) s m ([.ref (ad (24 + 5 * j)), .int (nI v)]).toArray below meth c s.heap [] 0 0 (MQ below (vp_Si (fun r => r = bI (headB (S.2.1 j).2.2.1 v))) ([.ref (ad (24 + 5 * j)), .int (nI v)]).toArray s 0 0 (fun _ => False)) (F0 m 2 ls []) := by
    intro fuel
    induction fuel with
    | zero => intro k hk hq hf; exact absurd hf (Nat.not_lt_zero _)
    | succ fuel ih2 =>
      intro k hk hq hf ls hl
      refine lv_iload_n hx hb dX1_isFirstOfClass_2 rfl (lv_at hl 2 rfl) ?_
      refine lv_iload_n hx hb dX1_isFirstOfClass_3 rfl (lv_at hl 1 rfl) ?_
      refine kn_icmp_ge (tgt := 40) hx hb (by omega) (by omega) dX1_isFirstOfClass_4 (by decide) (fun c1 => ?_) (fun c1 => ?_)
      · skip
        refine lv_iconst (v := nI 1) hx hb dX1_isFirstOfClass_40 (by decide) ?_
        exact W.zret (v := bI true) hx hb hr (bI_narrow _) (fun t9 ht9 hW9 => ⟨_, rfl, (kd_t (fun q h => hq q (by omega))), ht9⟩) (fun _ h => nomatch h) dX1_isFirstOfClass_41
      · skip
        refine lv_iload_n hx hb dX1_isFirstOfClass_7 rfl (lv_at hl 1 rfl) ?_
        refine lv_aload_n hx hb dX1_isFirstOfClass_8 rfl (lv_at hl 0 rfl) ?_
        refine ko_gc hx hb hts hin1 hown hX hj (hts (.fieldLink RX1 19 "Orderlattice$Order" "codes" "[J") (tm 35 (by decide +kernel) rfl)) dX1_isFirstOfClass_9 ?_
        refine ko_nc hx hb hX hj dX1_isFirstOfClass_12 ?_
        refine kn_icmp_ge (tgt := 40) hx hb (by omega) (by omega) dX1_isFirstOfClass_13 (by decide) (fun c2 => absurd c2 (by omega)) (fun c2 => ?_)
        refine lv_aload_n hx hb dX1_isFirstOfClass_16 rfl (lv_at hl 0 rfl) ?_
        refine ko_gc hx hb hts hin1 hown hX hj (hts (.fieldLink RX1 19 "Orderlattice$Order" "codes" "[J") (tm 35 (by decide +kernel) rfl)) dX1_isFirstOfClass_17 ?_
        refine lv_iload_n hx hb dX1_isFirstOfClass_20 rfl (lv_at hl 2 rfl) ?_
        refine ko_lc (v := ((S.2.1 j).2.2.1) k) hx hb hX hj (by omega) rfl dX1_isFirstOfClass_21 ?_
        refine lv_aload_n hx hb dX1_isFirstOfClass_22 rfl (lv_at hl 0 rfl) ?_
        refine ko_gc hx hb hts hin1 hown hX hj (hts (.fieldLink RX1 19 "Orderlattice$Order" "codes" "[J") (tm 35 (by decide +kernel) rfl)) dX1_isFirstOfClass_23 ?_
        refine lv_iload_n hx hb dX1_isFirstOfClass_26 rfl (lv_at hl 1 rfl) ?_
        refine ko_lc (v := ((S.2.1 j).2.2.1) v) hx hb hX hj (by omega) rfl dX1_isFirstOfClass_27 ?_
        have h1 := hc9 k (by omega)
        have h2 := hc9 v hv
        refine kc_lcmp hx hb (by omega) (by omega) dX1_isFirstOfClass_28 ?_
        refine kc_if_ne (tgt := 34) hx hb dX1_isFirstOfClass_29 (by decide) (fun c3 => ?_) (fun c3 => ?_)
        · skip
          have hc := c3
          refine lv_iinc (v := nI (k + 1)) (lv' := [(2, .int (nI (k + 1))), (0, .ref (ad (24 + 5 * j))), (1, .int (nI v))]) hx hb dX1_isFirstOfClass_34 hl (k := 2) rfl (nI_1 k) (by decide) rfl (fun ls hl => ?_)
          refine lv_goto (tgt := 2) hx hb dX1_isFirstOfClass_37 (by decide) ?_
          exact ih2  (k + 1) (by omega) (lt_s hq hc) (by omega) _ (lv_sub hl [1, 2, 0] rfl)
        · skip
          have hc := c3
          refine lv_iconst (v := nI 0) hx hb dX1_isFirstOfClass_32 (by decide) ?_
          exact W.zret (v := bI false) hx hb hr (bI_narrow _) (fun t9 ht9 hW9 => ⟨_, rfl, (kd_f (fun z => z k (by omega) hc)), ht9⟩) (fun _ h => nomatch h) dX1_isFirstOfClass_33
  exact loop2 (v + 1) 0 (by omega) (fun q h => absurd h (Nat.not_lt_zero q)) (by omega) _ (lv_sub hl [1, 2, 0] rfl)
set_option maxHeartbeats 4000000 in
set_option maxRecDepth 100000 in
theorem m_X1_pushBackBehind (l : Launch) (dC : Nat → ClassId) (dI : Nat → Nat → Nat) (ad : Nat → Nat) (S : XS) (j x9 : Nat) (hj : j < 6) (hx9 : x9 < 2 ^ 62) (hc9 : ∀ k, k < 16 → (S.2.1 j).2.2.1 k < 2 ^ 62) (hr9 : ∀ k, k < 16 → (S.2.1 j).2.2.2.1 k < 1000) : Met l yX1_pushBackBehind wsX1_pushBackBehind ({ frames := 0, cells := 0, slots := 0, locals := 0 } : Room) (va_Pc [.ref (ad (24 + 5 * j)), .long (lN x9)] (PX dC dI ad S)) (va_Qv (fun S' => S' = xO S j ((S.2.1 j).1, (S.2.1 j).2.1, (S.2.1 j).2.2.1, ovl (fun v => (S.2.1 j).2.2.2.1 v + (if x9 < (S.2.1 j).2.2.1 v then 1 else 0)) (S.2.1 j).2.2.2.1 16, (S.2.1 j).2.2.2.2.1, (S.2.1 j).2.2.2.2.2)) (PX dC dI ad) (AX ad)) 0 0 (AX ad) := by
  refine Met.ofW (cc := cX1_pushBackBehind) (maxL := 4) (ret := none) pl_X1 rfl ?_
  intro p e s m args below meth c s₁ B hml hv
  obtain ⟨rfl, hPX⟩ := hv
  have hx := B.exec
  have hb := B.bytes
  have hr := B.returns
  have hts := atoms_spec (ws := wsX1_pushBackBehind) B.pre
  have hown : s.vm.findClass RX1 = some m.cls := findClass_of_methodNamed B.named
  have hlocks := B.notSynchronized
  have hin1 : ∀ w ∈ u_ws RX1 TX1 6, w ∈ wsX1_pushBackBehind := tu 1324 (by decide +kernel) rfl
  have hX := WX.of hPX
  have hl := lv_entry ([.ref (ad (24 + 5 * j)), .long (lN x9)]) (n := 4) (Nat.le_of_ble_eq_true rfl)
  rw [lg_entry_eq]
  generalize (lg_sl ([.ref (ad (24 + 5 * j)), .long (lN x9)]) ++ List.replicate (4 - (lg_sl ([.ref (ad (24 + 5 * j)), .long (lN x9)])).length) Slot.unset).toArray = ls at hl ⊢
  have hl : lv_has ls 4 [(0, .ref (ad (24 + 5 * j))), (1, .long (lN x9))] := hl
  show W p l e ({ frames := 0, cells := 0, slots := 0, locals := 0 } : Room) s m ([.ref (ad (24 + 5 * j)), .long (lN x9)]).toArray below meth c s.heap [] 0 0 (MQ below (va_Qv (fun S' => S' = xO S j ((S.2.1 j).1, (S.2.1 j).2.1, (S.2.1 j).2.2.1, ovl (fun v => (S.2.1 j).2.2.2.1 v + (if x9 < (S.2.1 j).2.2.1 v then 1 else 0)) (S.2.1 j).2.2.2.1 16, (S.2.1 j).2.2.2.2.1, (S.2.1 j).2.2.2.2.2)) (PX dC dI ad) (AX ad)) ([.ref (ad (24 + 5 * j)), .long (lN x9)]).toArray s 0 0 (AX ad)) (F0 m 0 ls [])
  refine lv_iconst (v := nI 0) hx hb dX1_pushBackBehind_0 (by decide) ?_
  refine lv_istore_n (lv' := [(3, .int (nI 0)), (0, .ref (ad (24 + 5 * j))), (1, .long (lN x9))]) hx hb dX1_pushBackBehind_1 rfl hl (by decide) rfl (fun ls hl => ?_)
  have loop2 : ∀ (fuel : Nat) (a : Nat) (ha : a ≤ 16) (H : Heap) (locs : List Loc), 16 - a < fuel → WX dC dI ad (xO S j ((S.2.1 j).1, (S.2.1 j).2.1, (S.2.1 j).2.2.1, ovl (fun v => (S.2.1 j).2.2.2.1 v + (if x9 < (S.2.1 j).2.2.1 v then 1 else 0)) (S.2.1 j).2.2.2.1 a, (S.2.1 j).2.2.2.2.1, (S.2.1 j).2.2.2.2.2)) (AX ad) s H locs → ∀ ls : Array Slot, lv_has ls 4 [(0, .ref (ad (24 + 5 * j))), (1, .long (lN x9)), (3, .int (nI a))] → W p l e ({ frames := 0, cells := 0, slots := 0, locals := 0 } : Room) s m ([.ref (ad (24 + 5 * j)), .long (lN x9)]).toArray below meth c H locs 0 0 (MQ below (va_Qv (fun S' => S' = xO S j ((S.2.1 j).1, (S.2.1 j).2.1, (S.2.1 j).2.2.1, ovl (fun v => (S.2.1 j).2.2.2.1 v + (if x9 < (S.2.1 j).2.2.1 v then 1 else 0)) (S.2.1 j).2.2.2.1 16, (S.2.1 j).2.2.2.2.1, (S.2.1 j).2.2.2.2.2)) (PX dC dI ad) (AX ad)) ([.ref (ad (24 + 5 * j)), .long (lN x9)]).toArray s 0 0 (AX ad)) (F0 m 2 ls []) := by
    intro fuel
    induction fuel with
    | zero => intro a ha H locs hf; exact absurd hf (Nat.not_lt_zero _)
    | succ fuel ih2 =>
      intro a ha H locs hf hX ls hl
      refine lv_iload_n hx hb dX1_pushBackBehind_2 rfl (lv_at hl 2 rfl) ?_
      refine lv_aload_n hx hb dX1_pushBackBehind_3 rfl (lv_at hl 0 rfl) ?_
      refine ko_gr hx hb hts hin1 hown hX hj (hts (.fieldLink RX1 23 "Orderlattice$Order" "ranks" "[I") (tm 36 (by decide +kernel) rfl)) dX1_pushBackBehind_4 ?_
      refine ko_nr hx hb hX hj dX1_pushBackBehind_7 ?_
      refine kn_icmp_ge (tgt := 47) hx hb (by omega) (by omega) dX1_pushBackBehind_8 (by decide) (fun c1 => ?_) (fun c1 => ?_)
      · skip
        exact W.vret hx hb hr (fun t9 ht9 hW9 => ⟨⟨(xO S j ((S.2.1 j).1, (S.2.1 j).2.1, (S.2.1 j).2.2.1, ovl (fun v => (S.2.1 j).2.2.2.1 v + (if x9 < (S.2.1 j).2.2.1 v then 1 else 0)) (S.2.1 j).2.2.2.1 a, (S.2.1 j).2.2.2.2.1, (S.2.1 j).2.2.2.2.2)), rfl, (by rw [show a = 16 by omega]), hX.P ht9 hW9⟩, hX.2.2.2.F ht9⟩) hX.2.2.2.2.2 dX1_pushBackBehind_47
      · skip
        refine lv_iload_n hx hb dX1_pushBackBehind_11 rfl (lv_at hl 2 rfl) ?_
        refine lv_aload_n hx hb dX1_pushBackBehind_12 rfl (lv_at hl 0 rfl) ?_
        refine ko_gc hx hb hts hin1 hown hX hj (hts (.fieldLink RX1 19 "Orderlattice$Order" "codes" "[J") (tm 35 (by decide +kernel) rfl)) dX1_pushBackBehind_13 ?_
        refine ko_nc hx hb hX hj dX1_pushBackBehind_16 ?_
        refine kn_icmp_ge (tgt := 47) hx hb (by omega) (by omega) dX1_pushBackBehind_17 (by decide) (fun c2 => absurd c2 (by omega)) (fun c2 => ?_)
        refine lv_lload_n hx hb dX1_pushBackBehind_20 rfl (lv_at hl 1 rfl) ?_
        refine lv_aload_n hx hb dX1_pushBackBehind_21 rfl (lv_at hl 0 rfl) ?_
        refine ko_gc hx hb hts hin1 hown hX hj (hts (.fieldLink RX1 19 "Orderlattice$Order" "codes" "[J") (tm 35 (by decide +kernel) rfl)) dX1_pushBackBehind_22 ?_
        refine lv_iload_n hx hb dX1_pushBackBehind_25 rfl (lv_at hl 2 rfl) ?_
        refine ko_lc (v := ((S.2.1 j).2.2.1) a) hx hb hX hj (by omega) (by rw [xO_ord]) dX1_pushBackBehind_26 ?_
        have h1 := hc9 a (by omega)
        refine kc_lcmp hx hb (by omega) (by omega) dX1_pushBackBehind_27 ?_
        refine kc_if_ge (tgt := 41) hx hb dX1_pushBackBehind_28 (by decide) (fun c3 => ?_) (fun c3 => ?_)
        · skip
          have hc := c3
          refine lv_iinc (v := nI (a + 1)) (lv' := [(3, .int (nI (a + 1))), (0, .ref (ad (24 + 5 * j))), (1, .long (lN x9))]) hx hb dX1_pushBackBehind_41 hl (k := 2) rfl (nI_1 a) (by decide) rfl (fun ls hl => ?_)
          refine lv_goto (tgt := 2) hx hb dX1_pushBackBehind_44 (by decide) ?_
          exact ih2  (a + 1) (by omega) _ _ (by omega) (WX.eqS (by rw [push_f (x9 := x9) (c := (S.2.1 j).2.2.1) (S.2.1 j).2.2.2.1 hc]) hX) _ (lv_sub hl [1, 2, 0] rfl)
        · skip
          have hc := c3
          refine lv_aload_n hx hb dX1_pushBackBehind_31 rfl (lv_at hl 0 rfl) ?_
          refine ko_gr hx hb hts hin1 hown hX hj (hts (.fieldLink RX1 23 "Orderlattice$Order" "ranks" "[I") (tm 36 (by decide +kernel) rfl)) dX1_pushBackBehind_32 ?_
          refine lv_iload_n hx hb dX1_pushBackBehind_35 rfl (lv_at hl 2 rfl) ?_
          refine lv_dup2_11 hx hb dX1_pushBackBehind_36 rfl rfl ?_
          refine ko_lr (v := (ovl (fun v => (S.2.1 j).2.2.2.1 v + (if x9 < (S.2.1 j).2.2.1 v then 1 else 0)) (S.2.1 j).2.2.2.1 a) a) hx hb hX hj (by omega) (by rw [xO_ord]) dX1_pushBackBehind_37 ?_
          refine lv_iconst (v := nI 1) hx hb dX1_pushBackBehind_38 (by decide) ?_
          refine kn_iadd hx hb dX1_pushBackBehind_39 ?_
          refine ko_sr (S' := (xO S j ((S.2.1 j).1, (S.2.1 j).2.1, (S.2.1 j).2.2.1, va_up (ovl (fun v => (S.2.1 j).2.2.2.1 v + (if x9 < (S.2.1 j).2.2.1 v then 1 else 0)) (S.2.1 j).2.2.2.1 a) a ((ovl (fun v => (S.2.1 j).2.2.2.1 v + (if x9 < (S.2.1 j).2.2.1 v then 1 else 0)) (S.2.1 j).2.2.2.1 a) a + 1), (S.2.1 j).2.2.2.2.1, (S.2.1 j).2.2.2.2.2))) hx hb hX hj (by omega) (by rw [xO_ord, xO_xO]) dX1_pushBackBehind_40 (fun H locs hX => ?_)
          refine lv_iinc (v := nI (a + 1)) (lv' := [(3, .int (nI (a + 1))), (0, .ref (ad (24 + 5 * j))), (1, .long (lN x9))]) hx hb dX1_pushBackBehind_41 hl (k := 2) rfl (nI_1 a) (by decide) rfl (fun ls hl => ?_)
          refine lv_goto (tgt := 2) hx hb dX1_pushBackBehind_44 (by decide) ?_
          exact ih2  (a + 1) (by omega) _ _ (by omega) (WX.eqS (by rw [push_t (x9 := x9) (c := (S.2.1 j).2.2.1) (S.2.1 j).2.2.2.1 hc]) hX) _ (lv_sub hl [1, 2, 0] rfl)
  exact loop2 (16 - 0 + 1) 0 (by omega) _ _ (by omega) (WX.eqS (by rw [ovl_0]; exact (xO_self S j).symm) hX) _ (lv_sub hl [1, 2, 0] rfl)
set_option maxHeartbeats 4000000 in
set_option maxRecDepth 100000 in
theorem m_X1_rankAll (l : Launch) (dC : Nat → ClassId) (dI : Nat → Nat → Nat) (ad : Nat → Nat) (S : XS) (j : Nat) (hj : j < 6) (hc9 : ∀ k, k < 16 → (S.2.1 j).2.2.1 k < 2 ^ 62) : Met l yX1_rankAll wsX1_rankAll ({ frames := 1, cells := 0, slots := 0, locals := 23 } : Room) (va_Pc [.ref (ad (24 + 5 * j))] (PX dC dI ad S)) (va_Qv (fun S' => S' = xO S j ((S.2.1 j).1, (S.2.1 j).2.1, (S.2.1 j).2.2.1, ovl (rankC (S.2.1 j).2.2.1) (S.2.1 j).2.2.2.1 16, (S.2.1 j).2.2.2.2.1, classC (S.2.1 j).2.2.1)) (PX dC dI ad) (AX ad)) 0 0 (AX ad) := by
  refine Met.ofW (cc := cX1_rankAll) (maxL := 2) (ret := none) pl_X1 rfl ?_
  intro p e s m args below meth c s₁ B hml hv
  obtain ⟨rfl, hPX⟩ := hv
  have hx := B.exec
  have hb := B.bytes
  have hr := B.returns
  have hts := atoms_spec (ws := wsX1_rankAll) B.pre
  have hown : s.vm.findClass RX1 = some m.cls := findClass_of_methodNamed B.named
  have hlocks := B.notSynchronized
  have hin1 : ∀ w ∈ u_ws RX1 TX1 6, w ∈ wsX1_rankAll := tu 1324 (by decide +kernel) rfl
  have hX := WX.of hPX
  have hl := lv_entry ([.ref (ad (24 + 5 * j))]) (n := 2) (Nat.le_of_ble_eq_true rfl)
  rw [lg_entry_eq]
  generalize (lg_sl ([.ref (ad (24 + 5 * j))]) ++ List.replicate (2 - (lg_sl ([.ref (ad (24 + 5 * j))])).length) Slot.unset).toArray = ls at hl ⊢
  have hl : lv_has ls 2 [(0, .ref (ad (24 + 5 * j)))] := hl
  show W p l e ({ frames := 1, cells := 0, slots := 0, locals := 23 } : Room) s m ([.ref (ad (24 + 5 * j))]).toArray below meth c s.heap [] 0 0 (MQ below (va_Qv (fun S' => S' = xO S j ((S.2.1 j).1, (S.2.1 j).2.1, (S.2.1 j).2.2.1, ovl (rankC (S.2.1 j).2.2.1) (S.2.1 j).2.2.2.1 16, (S.2.1 j).2.2.2.2.1, classC (S.2.1 j).2.2.1)) (PX dC dI ad) (AX ad)) ([.ref (ad (24 + 5 * j))]).toArray s 0 0 (AX ad)) (F0 m 0 ls [])
  refine lv_aload_n hx hb dX1_rankAll_0 rfl (lv_at hl 0 rfl) ?_
  refine lv_iconst (v := nI 0) hx hb dX1_rankAll_1 (by decide) ?_
  refine ko_ps (S' := (xO S j ((S.2.1 j).1, (S.2.1 j).2.1, (S.2.1 j).2.2.1, (S.2.1 j).2.2.2.1, (S.2.1 j).2.2.2.2.1, 0))) hx hb hts hin1 hown hX hj rfl (hts (.fieldLink RX1 30 "Orderlattice$Order" "classes" "I") (tm 38 (by decide +kernel) rfl)) dX1_rankAll_2 (fun H locs hX => ?_)
  refine lv_iconst (v := nI 0) hx hb dX1_rankAll_5 (by decide) ?_
  refine lv_istore_n (lv' := [(1, .int (nI 0)), (0, .ref (ad (24 + 5 * j)))]) hx hb dX1_rankAll_6 rfl hl (by decide) rfl (fun ls hl => ?_)
  have loop7 : ∀ (fuel : Nat) (a : Nat) (ha : a ≤ 16) (H : Heap) (locs : List Loc), 16 - a < fuel → WX dC dI ad (xO S j ((S.2.1 j).1, (S.2.1 j).2.1, (S.2.1 j).2.2.1, ovl (fun _ => 0) (S.2.1 j).2.2.2.1 a, (S.2.1 j).2.2.2.2.1, 0)) (AX ad) s H locs → ∀ ls : Array Slot, lv_has ls 2 [(0, .ref (ad (24 + 5 * j))), (1, .int (nI a))] → W p l e ({ frames := 1, cells := 0, slots := 0, locals := 23 } : Room) s m ([.ref (ad (24 + 5 * j))]).toArray below meth c H locs 0 0 (MQ below (va_Qv (fun S' => S' = xO S j ((S.2.1 j).1, (S.2.1 j).2.1, (S.2.1 j).2.2.1, ovl (rankC (S.2.1 j).2.2.1) (S.2.1 j).2.2.2.1 16, (S.2.1 j).2.2.2.2.1, classC (S.2.1 j).2.2.1)) (PX dC dI ad) (AX ad)) ([.ref (ad (24 + 5 * j))]).toArray s 0 0 (AX ad)) (F0 m 7 ls []) := by
    intro fuel
    induction fuel with
    | zero => intro a ha H locs hf; exact absurd hf (Nat.not_lt_zero _)
    | succ fuel ih7 =>
      intro a ha H locs hf hX ls hl
      refine lv_iload_n hx hb dX1_rankAll_7 rfl (lv_at hl 1 rfl) ?_
      refine lv_aload_n hx hb dX1_rankAll_8 rfl (lv_at hl 0 rfl) ?_
      refine ko_gr hx hb hts hin1 hown hX hj (hts (.fieldLink RX1 23 "Orderlattice$Order" "ranks" "[I") (tm 36 (by decide +kernel) rfl)) dX1_rankAll_9 ?_
      refine ko_nr hx hb hX hj dX1_rankAll_12 ?_
      refine kn_icmp_ge (tgt := 29) hx hb (by omega) (by omega) dX1_rankAll_13 (by decide) (fun c1 => ?_) (fun c1 => ?_)
      · skip
        refine lv_iconst (v := nI 0) hx hb dX1_rankAll_29 (by decide) ?_
        refine lv_istore_n (lv' := [(1, .int (nI 0)), (0, .ref (ad (24 + 5 * j)))]) hx hb dX1_rankAll_30 rfl hl (by decide) rfl (fun ls hl => ?_)
        have loop31 : ∀ (fuel : Nat) (h9 : Nat) (ha : h9 ≤ 16) (H : Heap) (locs : List Loc), 16 - h9 < fuel → WX dC dI ad (xO S j ((S.2.1 j).1, (S.2.1 j).2.1, (S.2.1 j).2.2.1, ovl (rnk (S.2.1 j).2.2.1 h9) (S.2.1 j).2.2.2.1 16, (S.2.1 j).2.2.2.2.1, cntB (headB (S.2.1 j).2.2.1) h9)) (AX ad) s H locs → ∀ ls : Array Slot, lv_has ls 2 [(0, .ref (ad (24 + 5 * j))), (1, .int (nI h9))] → W p l e ({ frames := 1, cells := 0, slots := 0, locals := 23 } : Room) s m ([.ref (ad (24 + 5 * j))]).toArray below meth c H locs 0 0 (MQ below (va_Qv (fun S' => S' = xO S j ((S.2.1 j).1, (S.2.1 j).2.1, (S.2.1 j).2.2.1, ovl (rankC (S.2.1 j).2.2.1) (S.2.1 j).2.2.2.1 16, (S.2.1 j).2.2.2.2.1, classC (S.2.1 j).2.2.1)) (PX dC dI ad) (AX ad)) ([.ref (ad (24 + 5 * j))]).toArray s 0 0 (AX ad)) (F0 m 31 ls []) := by
          intro fuel
          induction fuel with
          | zero => intro h9 ha H locs hf; exact absurd hf (Nat.not_lt_zero _)
          | succ fuel ih31 =>
            intro h9 ha H locs hf hX ls hl
            refine lv_iload_n hx hb dX1_rankAll_31 rfl (lv_at hl 1 rfl) ?_
            refine lv_aload_n hx hb dX1_rankAll_32 rfl (lv_at hl 0 rfl) ?_
            refine ko_gc hx hb hts hin1 hown hX hj (hts (.fieldLink RX1 19 "Orderlattice$Order" "codes" "[J") (tm 35 (by decide +kernel) rfl)) dX1_rankAll_33 ?_
            refine ko_nc hx hb hX hj dX1_rankAll_36 ?_
            refine kn_icmp_ge (tgt := 74) hx hb (by omega) (by omega) dX1_rankAll_37 (by decide) (fun c2 => ?_) (fun c2 => ?_)
            · skip
              exact W.vret hx hb hr (fun t9 ht9 hW9 => ⟨⟨(xO S j ((S.2.1 j).1, (S.2.1 j).2.1, (S.2.1 j).2.2.1, ovl (rnk (S.2.1 j).2.2.1 h9) (S.2.1 j).2.2.2.1 16, (S.2.1 j).2.2.2.2.1, cntB (headB (S.2.1 j).2.2.1) h9)), rfl, (by rw [show h9 = 16 by omega]; rfl), hX.P ht9 hW9⟩, hX.2.2.2.F ht9⟩) hX.2.2.2.2.2 dX1_rankAll_74
            · skip
              refine lv_aload_n hx hb dX1_rankAll_40 rfl (lv_at hl 0 rfl) ?_
              refine lv_iload_n hx hb dX1_rankAll_41 rfl (lv_at hl 1 rfl) ?_
              refine kx_cr (v := bI (headB ((S.2.1 j).2.2.1) h9)) (va_runV (As := [.int (nI h9)]) (rest := []) ⟨hx, hb, hml, hown, hts⟩ (m_X1_isFirstOfClass l dC dI ad (xO S j ((S.2.1 j).1, (S.2.1 j).2.1, (S.2.1 j).2.2.1, ovl (rnk (S.2.1 j).2.2.1 h9) (S.2.1 j).2.2.2.1 16, (S.2.1 j).2.2.2.2.1, cntB (headB (S.2.1 j).2.2.1) h9)) j h9 hj (by omega) (by rw [xO_ord]; exact hc9)) (cwV 1 hts gX1_rankAll_X1_isFirstOfClass rfl rfl rfl hdX1_isFirstOfClass_1 ⟨Nat.le_of_ble_eq_true rfl, Nat.le_of_ble_eq_true rfl⟩) (hX.preOrd hj) rfl rfl hl.1 rfl (lv_room (Nat.le_of_ble_eq_true rfl)) dX1_rankAll_42 ⟨Nat.le_of_ble_eq_true rfl, Nat.le_of_ble_eq_true rfl⟩) (fun _ h => by rw [h, xO_ord]) ?_
              refine kb_if_eq (tgt := 68) hx hb dX1_rankAll_45 (by decide) (fun c3 => ?_) (fun c3 => ?_)
              · skip
                have hc := c3
                refine lv_iinc (v := nI (h9 + 1)) (lv' := [(1, .int (nI (h9 + 1))), (0, .ref (ad (24 + 5 * j)))]) hx hb dX1_rankAll_68 hl (k := 1) rfl (nI_1 h9) (by decide) rfl (fun ls hl => ?_)
                refine lv_goto (tgt := 31) hx hb dX1_rankAll_71 (by decide) ?_
                exact ih31  (h9 + 1) (by omega) _ _ (by omega) (WX.eqS (by rw [cntB_f hc, rnk_not hc]) hX) _ (lv_sub hl [1, 0] rfl)
              · skip
                have hc := c3
                refine lv_aload_n hx hb dX1_rankAll_48 rfl (lv_at hl 0 rfl) ?_
                refine lv_dup hx hb dX1_rankAll_49 rfl ?_
                refine ko_gs (n := cntB (headB (S.2.1 j).2.2.1) h9) hx hb hts hin1 hown hX hj (by rw [xO_ord]) (hts (.fieldLink RX1 30 "Orderlattice$Order" "classes" "I") (tm 38 (by decide +kernel) rfl)) dX1_rankAll_50 ?_
                refine lv_iconst (v := nI 1) hx hb dX1_rankAll_53 (by decide) ?_
                refine kn_iadd hx hb dX1_rankAll_54 ?_
                refine ko_ps (S' := (xO S j ((S.2.1 j).1, (S.2.1 j).2.1, (S.2.1 j).2.2.1, ovl (rnk (S.2.1 j).2.2.1 h9) (S.2.1 j).2.2.2.1 16, (S.2.1 j).2.2.2.2.1, cntB (headB (S.2.1 j).2.2.1) h9 + 1))) hx hb hts hin1 hown hX hj (by rw [xO_ord, xO_xO]) (hts (.fieldLink RX1 30 "Orderlattice$Order" "classes" "I") (tm 38 (by decide +kernel) rfl)) dX1_rankAll_55 (fun H locs hX => ?_)
                refine lv_aload_n hx hb dX1_rankAll_58 rfl (lv_at hl 0 rfl) ?_
                refine lv_aload_n hx hb dX1_rankAll_59 rfl (lv_at hl 0 rfl) ?_
                refine ko_gc hx hb hts hin1 hown hX hj (hts (.fieldLink RX1 19 "Orderlattice$Order" "codes" "[J") (tm 35 (by decide +kernel) rfl)) dX1_rankAll_60 ?_
                refine lv_iload_n hx hb dX1_rankAll_63 rfl (lv_at hl 1 rfl) ?_
                refine ko_lc (v := ((S.2.1 j).2.2.1) h9) hx hb hX hj (by omega) (by rw [xO_ord]) dX1_rankAll_64 ?_
                refine kx_cv (va_runV (As := [.long (lN (((S.2.1 j).2.2.1) h9))]) (rest := []) ⟨hx, hb, hml, hown, hts⟩ (m_X1_pushBackBehind l dC dI ad (xO S j ((S.2.1 j).1, (S.2.1 j).2.1, (S.2.1 j).2.2.1, ovl (rnk (S.2.1 j).2.2.1 h9) (S.2.1 j).2.2.2.1 16, (S.2.1 j).2.2.2.2.1, cntB (headB (S.2.1 j).2.2.1) h9 + 1)) j (((S.2.1 j).2.2.1) h9) hj (hc9 _ (by omega)) (by rw [xO_ord]; exact hc9) (by rw [xO_ord]; exact fun k hk => by dsimp only; rw [ovl_in hk]; have := rnk_le (S.2.1 j).2.2.1 h9 k; omega)) (cwV 1 hts gX1_rankAll_X1_pushBackBehind rfl rfl rfl hdX1_pushBackBehind_1 ⟨Nat.le_of_ble_eq_true rfl, Nat.le_of_ble_eq_true rfl⟩) (hX.preOrd hj) rfl rfl hl.1 rfl (lv_room (Nat.le_of_ble_eq_true rfl)) dX1_rankAll_65 ⟨Nat.le_of_ble_eq_true rfl, Nat.le_of_ble_eq_true rfl⟩) hX (fun _ h => h) (fun S_ H locs hw hX => ?_)
                rw [xO_ord, xO_xO] at hw
                dsimp only at hw
                rw [rnk_push hc] at hw
                subst hw
                refine lv_iinc (v := nI (h9 + 1)) (lv' := [(1, .int (nI (h9 + 1))), (0, .ref (ad (24 + 5 * j)))]) hx hb dX1_rankAll_68 hl (k := 1) rfl (nI_1 h9) (by decide) rfl (fun ls hl => ?_)
                refine lv_goto (tgt := 31) hx hb dX1_rankAll_71 (by decide) ?_
                exact ih31  (h9 + 1) (by omega) _ _ (by omega) (WX.eqS (by rw [cntB_t hc]) hX) _ (lv_sub hl [1, 0] rfl)
        exact loop31 (16 - 0 + 1) 0 (by omega) _ _ (by omega) (WX.eqS (by rw [show a = 16 by omega]; rfl) hX) _ (lv_sub hl [1, 0] rfl)
      · skip
        refine lv_aload_n hx hb dX1_rankAll_16 rfl (lv_at hl 0 rfl) ?_
        refine ko_gr hx hb hts hin1 hown hX hj (hts (.fieldLink RX1 23 "Orderlattice$Order" "ranks" "[I") (tm 36 (by decide +kernel) rfl)) dX1_rankAll_17 ?_
        refine lv_iload_n hx hb dX1_rankAll_20 rfl (lv_at hl 1 rfl) ?_
        refine lv_iconst (v := nI 0) hx hb dX1_rankAll_21 (by decide) ?_
        refine ko_sr (S' := (xO S j ((S.2.1 j).1, (S.2.1 j).2.1, (S.2.1 j).2.2.1, va_up (ovl (fun _ => 0) (S.2.1 j).2.2.2.1 a) a 0, (S.2.1 j).2.2.2.2.1, 0))) hx hb hX hj (by omega) (by rw [xO_ord, xO_xO]) dX1_rankAll_22 (fun H locs hX => ?_)
        refine lv_iinc (v := nI (a + 1)) (lv' := [(1, .int (nI (a + 1))), (0, .ref (ad (24 + 5 * j)))]) hx hb dX1_rankAll_23 hl (k := 1) rfl (nI_1 a) (by decide) rfl (fun ls hl => ?_)
        refine lv_goto (tgt := 7) hx hb dX1_rankAll_26 (by decide) ?_
        exact ih7  (a + 1) (by omega) _ _ (by omega) (WX.eqS (by rw [ovl_up (fun _ => 0)]) hX) _ (lv_sub hl [1, 0] rfl)
  exact loop7 (16 - 0 + 1) 0 (by omega) _ _ (by omega) (WX.eqS (by rw [ovl_0]) hX) _ (lv_sub hl [1, 0] rfl)
