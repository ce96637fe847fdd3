/-! rows' contents changed: two places exchanged, a part moved up or down, a part laid over -/
def xch (f : Nat → Nat) (a b : Nat) : Nat → Nat := va_up (va_up f a (f b)) b (f a)
def shr (f : Nat → Nat) (n a : Nat) : Nat → Nat := fun k => if a < k ∧ k ≤ n then f (k - 1) else f k
theorem shr_n (f : Nat → Nat) (n : Nat) : shr f n n = f := by
  funext k
  unfold shr
  rw [if_neg (by omega)]
theorem shr_lo (f : Nat → Nat) {n a k : Nat} (h : k ≤ a) : shr f n a k = f k := by
  unfold shr
  rw [if_neg (by omega)]
theorem shr_up (f : Nat → Nat) {n a : Nat} (h : 1 ≤ a) (h2 : a ≤ n) : va_up (shr f n a) a (f (a - 1)) = shr f n (a - 1) := by
  funext k
  unfold va_up shr
  by_cases e : k = a
  · subst e; rw [if_pos rfl, if_pos (by omega)]
  · rw [if_neg e]
    by_cases h3 : a < k ∧ k ≤ n
    · rw [if_pos h3, if_pos (by omega)]
    · rw [if_neg h3, if_neg (by omega)]
def shl (f : Nat → Nat) (q a : Nat) : Nat → Nat := fun k => if q ≤ k ∧ k < a then f (k + 1) else f k
theorem shl_q (f : Nat → Nat) (q : Nat) : shl f q q = f := by
  funext k
  unfold shl
  rw [if_neg (by omega)]
theorem shl_hi (f : Nat → Nat) {q a k : Nat} (h : a ≤ k) : shl f q a k = f k := by
  unfold shl
  rw [if_neg (by omega)]
theorem shl_up (f : Nat → Nat) {q a : Nat} (h : q ≤ a) : va_up (shl f q a) a (f (a + 1)) = shl f q (a + 1) := by
  funext k
  unfold va_up shl
  by_cases e : k = a
  · subst e; rw [if_pos rfl, if_pos (by omega)]
  · rw [if_neg e]
    by_cases h3 : q ≤ k ∧ k < a
    · rw [if_pos h3, if_pos (by omega)]
    · rw [if_neg h3, if_neg (by omega)]
def ovl {α : Type} (f g : Nat → α) (n : Nat) : Nat → α := fun k => if k < n then f k else g k
theorem ovl_0 {α : Type} (f g : Nat → α) : ovl f g 0 = g := by
  funext k
  unfold ovl
  rw [if_neg (by omega)]
theorem ovl_up {α : Type} (f g : Nat → α) (n : Nat) : va_up (ovl f g n) n (f n) = ovl f g (n + 1) := by
  funext k
  unfold va_up ovl
  by_cases e : k = n
  · subst e; rw [if_pos rfl, if_pos (by omega)]
  · rw [if_neg e]
    by_cases h3 : k < n
    · rw [if_pos h3, if_pos (by omega)]
    · rw [if_neg h3, if_neg (by omega)]
theorem ovl_in {α : Type} {f g : Nat → α} {n k : Nat} (h : k < n) : ovl f g n k = f k := if_pos h
theorem ovl_out {α : Type} {f g : Nat → α} {n k : Nat} (h : n ≤ k) : ovl f g n k = g k := if_neg (by omega)
theorem ovl_src1 (S : XS) (i t a : Nat) (M : Nat → Nat) (n : Nat) : ((xR S i (ovl (S.1 t).1 (S.1 i).1 a, M, n)).1 t).1 a = (S.1 t).1 a := by
  by_cases h : t = i
  · subst h
    rw [xR_row]
    exact ovl_out (Nat.le_refl a)
  · rw [xR_ne _ _ h]
theorem ovl_src2 (S : XS) (i t a : Nat) (V : Nat → Nat) (n : Nat) : ((xR S i (V, ovl (S.1 t).2.1 (S.1 i).2.1 a, n)).1 t).2.1 a = (S.1 t).2.1 a := by
  by_cases h : t = i
  · subst h
    rw [xR_row]
    exact ovl_out (Nat.le_refl a)
  · rw [xR_ne _ _ h]
set_option maxHeartbeats 4000000 in
set_option maxRecDepth 100000 in
theorem m_X2_length (l : Launch) (dC : Nat → ClassId) (dI : Nat → Nat → Nat) (ad : Nat → Nat) (S : XS) (i : Nat) (hi : i < 8) : Met l yX2_length wsX2_length ({ frames := 0, cells := 0, slots := 0, locals := 0 } : Room) (va_Pc [.ref (ad (3 * i))] (PX dC dI ad S)) (vp_Si (fun r => r = nI (S.1 i).2.2)) 0 0 (fun _ => False) := by
  refine Met.ofW (cc := cX2_length) (maxL := 1) (ret := (some .int)) pl_X2 rfl ?_
  intro p e s m args below meth c s₁ B hml hv
  obtain ⟨rfl, hPX⟩ := hv
  have hx := B.exec
  have hb := B.bytes
  have hr := B.returns
  have hts := atoms_spec (ws := wsX2_length) B.pre
  have hown : s.vm.findClass RX2 = some m.cls := findClass_of_methodNamed B.named
  have hlocks := B.notSynchronized
  have hin2 : ∀ w ∈ u_ws RX2 TX2 3, w ∈ wsX2_length := tu 1322 (by decide +kernel) rfl
  have hX := WX.of hPX
  have hl := lv_entry ([.ref (ad (3 * i))]) (n := 1) (Nat.le_of_ble_eq_true rfl)
  rw [lg_entry_eq]
  generalize (lg_sl ([.ref (ad (3 * i))]) ++ List.replicate (1 - (lg_sl ([.ref (ad (3 * i))])).length) Slot.unset).toArray = ls at hl ⊢
  have hl : lv_has ls 1 [(0, .ref (ad (3 * i)))] := hl
  show W p l e ({ frames := 0, cells := 0, slots := 0, locals := 0 } : Room) s m ([.ref (ad (3 * i))]).toArray below meth c s.heap [] 0 0 (MQ below (vp_Si (fun r => r = nI (S.1 i).2.2)) ([.ref (ad (3 * i))]).toArray s 0 0 (fun _ => False)) (F0 m 0 ls [])
  refine lv_aload_n hx hb dX2_length_0 rfl (lv_at hl 0 rfl) ?_
  refine kr_gn (n := (S.1 i).2.2) hx hb hts hin2 hown hX hi rfl (hts (.fieldLink RX2 18 "Orderlattice$Row" "many" "I") (tm 27 (by decide +kernel) rfl)) dX2_length_1 ?_
  exact W.iret (v := nI ((S.1 i).2.2)) hx hb hr (fun t9 ht9 hW9 => ⟨_, rfl, rfl, ht9⟩) (fun _ h => nomatch h) dX2_length_4
set_option maxHeartbeats 4000000 in
set_option maxRecDepth 100000 in
theorem m_X2_valueOn (l : Launch) (dC : Nat → ClassId) (dI : Nat → Nat → Nat) (ad : Nat → Nat) (S : XS) (i k : Nat) (hi : i < 8) (hk : k < 16) : Met l yX2_valueOn wsX2_valueOn ({ frames := 0, cells := 0, slots := 0, locals := 0 } : Room) (va_Pc [.ref (ad (3 * i)), .int (nI k)] (PX dC dI ad S)) (vp_Si (fun r => r = nI ((S.1 i).1 k))) 0 0 (fun _ => False) := by
  refine Met.ofW (cc := cX2_valueOn) (maxL := 2) (ret := (some .int)) pl_X2 rfl ?_
  intro p e s m args below meth c s₁ B hml hv
  obtain ⟨rfl, hPX⟩ := hv
  have hx := B.exec
  have hb := B.bytes
  have hr := B.returns
  have hts := atoms_spec (ws := wsX2_valueOn) B.pre
  have hown : s.vm.findClass RX2 = some m.cls := findClass_of_methodNamed B.named
  have hlocks := B.notSynchronized
  have hin2 : ∀ w ∈ u_ws RX2 TX2 3, w ∈ wsX2_valueOn := tu 1322 (by decide +kernel) rfl
  have hX := WX.of hPX
  have hl := lv_entry ([.ref (ad (3 * i)), .int (nI k)]) (n := 2) (Nat.le_of_ble_eq_true rfl)
  rw [lg_entry_eq]
  generalize (lg_sl ([.ref (ad (3 * i)), .int (nI k)]) ++ List.replicate (2 - (lg_sl ([.ref (ad (3 * i)), .int (nI k)])).length) Slot.unset).toArray = ls at hl ⊢
  have hl : lv_has ls 2 [(0, .ref (ad (3 * i))), (1, .int (nI k))] := hl
  show W p l e ({ frames := 0, cells := 0, slots := 0, locals := 0 } : Room) s m ([.ref (ad (3 * i)), .int (nI k)]).toArray below meth c s.heap [] 0 0 (MQ below (vp_Si (fun r => r = nI ((S.1 i).1 k))) ([.ref (ad (3 * i)), .int (nI k)]).toArray s 0 0 (fun _ => False)) (F0 m 0 ls [])
  refine lv_iload_n hx hb dX2_valueOn_0 rfl (lv_at hl 1 rfl) ?_
  refine kn_if_lt (tgt := 22) hx hb (by omega) dX2_valueOn_1 (by decide) ?_
  refine lv_iload_n hx hb dX2_valueOn_4 rfl (lv_at hl 1 rfl) ?_
  refine lv_aload_n hx hb dX2_valueOn_5 rfl (lv_at hl 0 rfl) ?_
  refine kr_gv hx hb hts hin2 hown hX hi (hts (.fieldLink RX2 11 "Orderlattice$Row" "values" "[I") (tm 25 (by decide +kernel) rfl)) dX2_valueOn_6 ?_
  refine kr_nv hx hb hX hi dX2_valueOn_9 ?_
  refine kn_icmp_ge (tgt := 22) hx hb (by omega) (by omega) dX2_valueOn_10 (by decide) (fun c2 => absurd c2 (by omega)) (fun c2 => ?_)
  refine lv_aload_n hx hb dX2_valueOn_13 rfl (lv_at hl 0 rfl) ?_
  refine kr_gv hx hb hts hin2 hown hX hi (hts (.fieldLink RX2 11 "Orderlattice$Row" "values" "[I") (tm 25 (by decide +kernel) rfl)) dX2_valueOn_14 ?_
  refine lv_iload_n hx hb dX2_valueOn_17 rfl (lv_at hl 1 rfl) ?_
  refine kr_lv (v := ((S.1 i).1) k) hx hb hX hi (by omega) rfl dX2_valueOn_18 ?_
  refine lv_goto (tgt := 23) hx hb dX2_valueOn_19 (by decide) ?_
  exact W.iret (v := nI (((S.1 i).1) k)) hx hb hr (fun t9 ht9 hW9 => ⟨_, rfl, rfl, ht9⟩) (fun _ h => nomatch h) dX2_valueOn_23
set_option maxHeartbeats 4000000 in
set_option maxRecDepth 100000 in
theorem m_X2_markOn (l : Launch) (dC : Nat → ClassId) (dI : Nat → Nat → Nat) (ad : Nat → Nat) (S : XS) (i k : Nat) (hi : i < 8) (hk : k < 16) : Met l yX2_markOn wsX2_markOn ({ frames := 0, cells := 0, slots := 0, locals := 0 } : Room) (va_Pc [.ref (ad (3 * i)), .int (nI k)] (PX dC dI ad S)) (vp_Si (fun r => r = nI ((S.1 i).2.1 k))) 0 0 (fun _ => False) := by
  refine Met.ofW (cc := cX2_markOn) (maxL := 2) (ret := (some .int)) pl_X2 rfl ?_
  intro p e s m args below meth c s₁ B hml hv
  obtain ⟨rfl, hPX⟩ := hv
  have hx := B.exec
  have hb := B.bytes
  have hr := B.returns
  have hts := atoms_spec (ws := wsX2_markOn) B.pre
  have hown : s.vm.findClass RX2 = some m.cls := findClass_of_methodNamed B.named
  have hlocks := B.notSynchronized
  have hin2 : ∀ w ∈ u_ws RX2 TX2 3, w ∈ wsX2_markOn := tu 1322 (by decide +kernel) rfl
  have hX := WX.of hPX
  have hl := lv_entry ([.ref (ad (3 * i)), .int (nI k)]) (n := 2) (Nat.le_of_ble_eq_true rfl)
  rw [lg_entry_eq]
  generalize (lg_sl ([.ref (ad (3 * i)), .int (nI k)]) ++ List.replicate (2 - (lg_sl ([.ref (ad (3 * i)), .int (nI k)])).length) Slot.unset).toArray = ls at hl ⊢
  have hl : lv_has ls 2 [(0, .ref (ad (3 * i))), (1, .int (nI k))] := hl
  show W p l e ({ frames := 0, cells := 0, slots := 0, locals := 0 } : Room) s m ([.ref (ad (3 * i)), .int (nI k)]).toArray below meth c s.heap [] 0 0 (MQ below (vp_Si (fun r => r = nI ((S.1 i).2.1 k))) ([.ref (ad (3 * i)), .int (nI k)]).toArray s 0 0 (fun _ => False)) (F0 m 0 ls [])
  refine lv_iload_n hx hb dX2_markOn_0 rfl (lv_at hl 1 rfl) ?_
  refine kn_if_lt (tgt := 22) hx hb (by omega) dX2_markOn_1 (by decide) ?_
  refine lv_iload_n hx hb dX2_markOn_4 rfl (lv_at hl 1 rfl) ?_
  refine lv_aload_n hx hb dX2_markOn_5 rfl (lv_at hl 0 rfl) ?_
  refine kr_gm hx hb hts hin2 hown hX hi (hts (.fieldLink RX2 15 "Orderlattice$Row" "marks" "[I") (tm 26 (by decide +kernel) rfl)) dX2_markOn_6 ?_
  refine kr_nm hx hb hX hi dX2_markOn_9 ?_
  refine kn_icmp_ge (tgt := 22) hx hb (by omega) (by omega) dX2_markOn_10 (by decide) (fun c2 => absurd c2 (by omega)) (fun c2 => ?_)
  refine lv_aload_n hx hb dX2_markOn_13 rfl (lv_at hl 0 rfl) ?_
  refine kr_gm hx hb hts hin2 hown hX hi (hts (.fieldLink RX2 15 "Orderlattice$Row" "marks" "[I") (tm 26 (by decide +kernel) rfl)) dX2_markOn_14 ?_
  refine lv_iload_n hx hb dX2_markOn_17 rfl (lv_at hl 1 rfl) ?_
  refine kr_lm (v := ((S.1 i).2.1) k) hx hb hX hi (by omega) rfl dX2_markOn_18 ?_
  refine lv_goto (tgt := 23) hx hb dX2_markOn_19 (by decide) ?_
  exact W.iret (v := nI (((S.1 i).2.1) k)) hx hb hr (fun t9 ht9 hW9 => ⟨_, rfl, rfl, ht9⟩) (fun _ h => nomatch h) dX2_markOn_23
set_option maxHeartbeats 4000000 in
set_option maxRecDepth 100000 in
theorem m_X2_replace (l : Launch) (dC : Nat → ClassId) (dI : Nat → Nat → Nat) (ad : Nat → Nat) (S : XS) (i k v u : Nat) (hi : i < 8) (hk : k < 16) : Met l yX2_replace wsX2_replace ({ frames := 0, cells := 0, slots := 0, locals := 0 } : Room) (va_Pc [.ref (ad (3 * i)), .int (nI k), .int (nI v), .int (nI u)] (PX dC dI ad S)) (va_Qv (fun S' => S' = xR S i (va_up (S.1 i).1 k v, va_up (S.1 i).2.1 k u, (S.1 i).2.2)) (PX dC dI ad) (AX ad)) 0 0 (AX ad) := by
  refine Met.ofW (cc := cX2_replace) (maxL := 4) (ret := none) pl_X2 rfl ?_
  intro p e s m args below meth c s₁ B hml hv
  obtain ⟨rfl, hPX⟩ := hv
  have hx := B.exec
  have hb := B.bytes
  have hr := B.returns
  have hts := atoms_spec (ws := wsX2_replace) B.pre
  have hown : s.vm.findClass RX2 = some m.cls := findClass_of_methodNamed B.named
  have hlocks := B.notSynchronized
  have hin2 : ∀ w ∈ u_ws RX2 TX2 3, w ∈ wsX2_replace := tu 1322 (by decide +kernel) rfl
  have hX := WX.of hPX
  have hl := lv_entry ([.ref (ad (3 * i)), .int (nI k), .int (nI v), .int (nI u)]) (n := 4) (Nat.le_of_ble_eq_true rfl)
  rw [lg_entry_eq]
  generalize (lg_sl ([.ref (ad (3 * i)), .int (nI k), .int (nI v), .int (nI u)]) ++ List.replicate (4 - (lg_sl ([.ref (ad (3 * i)), .int (nI k), .int (nI v), .int (nI u)])).length) Slot.unset).toArray = ls at hl ⊢
  have hl : lv_has ls 4 [(0, .ref (ad (3 * i))), (1, .int (nI k)), (2, .int (nI v)), (3, .int (nI u))] := hl
  show W p l e ({ frames := 0, cells := 0, slots := 0, locals := 0 } : Room) s m ([.ref (ad (3 * i)), .int (nI k), .int (nI v), .int (nI u)]).toArray below meth c s.heap [] 0 0 (MQ below (va_Qv (fun S' => S' = xR S i (va_up (S.1 i).1 k v, va_up (S.1 i).2.1 k u, (S.1 i).2.2)) (PX dC dI ad) (AX ad)) ([.ref (ad (3 * i)), .int (nI k), .int (nI v), .int (nI u)]).toArray s 0 0 (AX ad)) (F0 m 0 ls [])
  refine lv_iload_n hx hb dX2_replace_0 rfl (lv_at hl 1 rfl) ?_
  refine kn_if_lt (tgt := 36) hx hb (by omega) dX2_replace_1 (by decide) ?_
  refine lv_iload_n hx hb dX2_replace_4 rfl (lv_at hl 1 rfl) ?_
  refine lv_aload_n hx hb dX2_replace_5 rfl (lv_at hl 0 rfl) ?_
  refine kr_gv hx hb hts hin2 hown hX hi (hts (.fieldLink RX2 11 "Orderlattice$Row" "values" "[I") (tm 25 (by decide +kernel) rfl)) dX2_replace_6 ?_
  refine kr_nv hx hb hX hi dX2_replace_9 ?_
  refine kn_icmp_ge (tgt := 36) hx hb (by omega) (by omega) dX2_replace_10 (by decide) (fun c2 => absurd c2 (by omega)) (fun c2 => ?_)
  refine lv_iload_n hx hb dX2_replace_13 rfl (lv_at hl 1 rfl) ?_
  refine lv_aload_n hx hb dX2_replace_14 rfl (lv_at hl 0 rfl) ?_
  refine kr_gm hx hb hts hin2 hown hX hi (hts (.fieldLink RX2 15 "Orderlattice$Row" "marks" "[I") (tm 26 (by decide +kernel) rfl)) dX2_replace_15 ?_
  refine kr_nm hx hb hX hi dX2_replace_18 ?_
  refine kn_icmp_ge (tgt := 36) hx hb (by omega) (by omega) dX2_replace_19 (by decide) (fun c3 => absurd c3 (by omega)) (fun c3 => ?_)
  refine lv_aload_n hx hb dX2_replace_22 rfl (lv_at hl 0 rfl) ?_
  refine kr_gv hx hb hts hin2 hown hX hi (hts (.fieldLink RX2 11 "Orderlattice$Row" "values" "[I") (tm 25 (by decide +kernel) rfl)) dX2_replace_23 ?_
  refine lv_iload_n hx hb dX2_replace_26 rfl (lv_at hl 1 rfl) ?_
  refine lv_iload_n hx hb dX2_replace_27 rfl (lv_at hl 2 rfl) ?_
  refine kr_sv (S' := (xR S i (va_up ((S.1 i).1) k v, (S.1 i).2.1, (S.1 i).2.2))) hx hb hX hi (by omega) rfl dX2_replace_28 (fun H locs hX => ?_)
  refine lv_aload_n hx hb dX2_replace_29 rfl (lv_at hl 0 rfl) ?_
  refine kr_gm hx hb hts hin2 hown hX hi (hts (.fieldLink RX2 15 "Orderlattice$Row" "marks" "[I") (tm 26 (by decide +kernel) rfl)) dX2_replace_30 ?_
  refine lv_iload_n hx hb dX2_replace_33 rfl (lv_at hl 1 rfl) ?_
  refine lv_iload_n hx hb dX2_replace_34 rfl (lv_at hl 3 rfl) ?_
  refine kr_sm (S' := (xR S i (va_up ((S.1 i).1) k v, va_up ((S.1 i).2.1) k u, (S.1 i).2.2))) hx hb hX hi (by omega) (by rw [xR_row, xR_xR]) dX2_replace_35 (fun H locs hX => ?_)
  exact W.vret hx hb hr (fun t9 ht9 hW9 => ⟨⟨(xR S i (va_up ((S.1 i).1) k v, va_up ((S.1 i).2.1) k u, (S.1 i).2.2)), rfl, rfl, hX.P ht9 hW9⟩, hX.2.2.2.F ht9⟩) hX.2.2.2.2.2 dX2_replace_36
set_option maxHeartbeats 4000000 in
set_option maxRecDepth 100000 in
theorem m_X2_append (l : Launch) (dC : Nat → ClassId) (dI : Nat → Nat → Nat) (ad : Nat → Nat) (S : XS) (i v u : Nat) (hi : i < 8) (hn : (S.1 i).2.2 < 16) : Met l yX2_append wsX2_append ({ frames := 0, cells := 0, slots := 0, locals := 0 } : Room) (va_Pc [.ref (ad (3 * i)), .int (nI v), .int (nI u)] (PX dC dI ad S)) (va_Qv (fun S' => S' = xR S i (va_up (S.1 i).1 (S.1 i).2.2 v, va_up (S.1 i).2.1 (S.1 i).2.2 u, (S.1 i).2.2 + 1)) (PX dC dI ad) (AX ad)) 0 0 (AX ad) := by
  refine Met.ofW (cc := cX2_append) (maxL := 3) (ret := none) pl_X2 rfl ?_
  intro p e s m args below meth c s₁ B hml hv
  obtain ⟨rfl, hPX⟩ := hv
  have hx := B.exec
  have hb := B.bytes
  have hr := B.returns
  have hts := atoms_spec (ws := wsX2_append) B.pre
  have hown : s.vm.findClass RX2 = some m.cls := findClass_of_methodNamed B.named
  have hlocks := B.notSynchronized
  have hin2 : ∀ w ∈ u_ws RX2 TX2 3, w ∈ wsX2_append := tu 1322 (by decide +kernel) rfl
  have hX := WX.of hPX
  have hl := lv_entry ([.ref (ad (3 * i)), .int (nI v), .int (nI u)]) (n := 3) (Nat.le_of_ble_eq_true rfl)
  rw [lg_entry_eq]
  generalize (lg_sl ([.ref (ad (3 * i)), .int (nI v), .int (nI u)]) ++ List.replicate (3 - (lg_sl ([.ref (ad (3 * i)), .int (nI v), .int (nI u)])).length) Slot.unset).toArray = ls at hl ⊢
  have hl : lv_has ls 3 [(0, .ref (ad (3 * i))), (1, .int (nI v)), (2, .int (nI u))] := hl
  show W p l e ({ frames := 0, cells := 0, slots := 0, locals := 0 } : Room) s m ([.ref (ad (3 * i)), .int (nI v), .int (nI u)]).toArray below meth c s.heap [] 0 0 (MQ below (va_Qv (fun S' => S' = xR S i (va_up (S.1 i).1 (S.1 i).2.2 v, va_up (S.1 i).2.1 (S.1 i).2.2 u, (S.1 i).2.2 + 1)) (PX dC dI ad) (AX ad)) ([.ref (ad (3 * i)), .int (nI v), .int (nI u)]).toArray s 0 0 (AX ad)) (F0 m 0 ls [])
  refine lv_aload_n hx hb dX2_append_0 rfl (lv_at hl 0 rfl) ?_
  refine kr_gn (n := (S.1 i).2.2) hx hb hts hin2 hown hX hi rfl (hts (.fieldLink RX2 18 "Orderlattice$Row" "many" "I") (tm 27 (by decide +kernel) rfl)) dX2_append_1 ?_
  refine kn_if_lt (tgt := 61) hx hb (by omega) dX2_append_4 (by decide) ?_
  refine lv_aload_n hx hb dX2_append_7 rfl (lv_at hl 0 rfl) ?_
  refine kr_gn (n := (S.1 i).2.2) hx hb hts hin2 hown hX hi rfl (hts (.fieldLink RX2 18 "Orderlattice$Row" "many" "I") (tm 27 (by decide +kernel) rfl)) dX2_append_8 ?_
  refine lv_aload_n hx hb dX2_append_11 rfl (lv_at hl 0 rfl) ?_
  refine kr_gv hx hb hts hin2 hown hX hi (hts (.fieldLink RX2 11 "Orderlattice$Row" "values" "[I") (tm 25 (by decide +kernel) rfl)) dX2_append_12 ?_
  refine kr_nv hx hb hX hi dX2_append_15 ?_
  refine kn_icmp_ge (tgt := 61) hx hb (by omega) (by omega) dX2_append_16 (by decide) (fun c2 => absurd c2 (by omega)) (fun c2 => ?_)
  refine lv_aload_n hx hb dX2_append_19 rfl (lv_at hl 0 rfl) ?_
  refine kr_gn (n := (S.1 i).2.2) hx hb hts hin2 hown hX hi rfl (hts (.fieldLink RX2 18 "Orderlattice$Row" "many" "I") (tm 27 (by decide +kernel) rfl)) dX2_append_20 ?_
  refine lv_aload_n hx hb dX2_append_23 rfl (lv_at hl 0 rfl) ?_
  refine kr_gm hx hb hts hin2 hown hX hi (hts (.fieldLink RX2 15 "Orderlattice$Row" "marks" "[I") (tm 26 (by decide +kernel) rfl)) dX2_append_24 ?_
  refine kr_nm hx hb hX hi dX2_append_27 ?_
  refine kn_icmp_ge (tgt := 61) hx hb (by omega) (by omega) dX2_append_28 (by decide) (fun c3 => absurd c3 (by omega)) (fun c3 => ?_)
  refine lv_aload_n hx hb dX2_append_31 rfl (lv_at hl 0 rfl) ?_
  refine kr_gv hx hb hts hin2 hown hX hi (hts (.fieldLink RX2 11 "Orderlattice$Row" "values" "[I") (tm 25 (by decide +kernel) rfl)) dX2_append_32 ?_
  refine lv_aload_n hx hb dX2_append_35 rfl (lv_at hl 0 rfl) ?_
  refine kr_gn (n := (S.1 i).2.2) hx hb hts hin2 hown hX hi rfl (hts (.fieldLink RX2 18 "Orderlattice$Row" "many" "I") (tm 27 (by decide +kernel) rfl)) dX2_append_36 ?_
  refine lv_iload_n hx hb dX2_append_39 rfl (lv_at hl 1 rfl) ?_
  refine kr_sv (S' := (xR S i (va_up ((S.1 i).1) ((S.1 i).2.2) v, (S.1 i).2.1, (S.1 i).2.2))) hx hb hX hi (by omega) rfl dX2_append_40 (fun H locs hX => ?_)
  refine lv_aload_n hx hb dX2_append_41 rfl (lv_at hl 0 rfl) ?_
  refine kr_gm hx hb hts hin2 hown hX hi (hts (.fieldLink RX2 15 "Orderlattice$Row" "marks" "[I") (tm 26 (by decide +kernel) rfl)) dX2_append_42 ?_
  refine lv_aload_n hx hb dX2_append_45 rfl (lv_at hl 0 rfl) ?_
  refine kr_gn (n := (S.1 i).2.2) hx hb hts hin2 hown hX hi (by rw [xR_row]) (hts (.fieldLink RX2 18 "Orderlattice$Row" "many" "I") (tm 27 (by decide +kernel) rfl)) dX2_append_46 ?_
  refine lv_iload_n hx hb dX2_append_49 rfl (lv_at hl 2 rfl) ?_
  refine kr_sm (S' := (xR S i (va_up ((S.1 i).1) ((S.1 i).2.2) v, va_up ((S.1 i).2.1) ((S.1 i).2.2) u, (S.1 i).2.2))) hx hb hX hi (by omega) (by rw [xR_row, xR_xR]) dX2_append_50 (fun H locs hX => ?_)
  refine lv_aload_n hx hb dX2_append_51 rfl (lv_at hl 0 rfl) ?_
  refine lv_dup hx hb dX2_append_52 rfl ?_
  refine kr_gn (n := (S.1 i).2.2) hx hb hts hin2 hown hX hi (by rw [xR_row]) (hts (.fieldLink RX2 18 "Orderlattice$Row" "many" "I") (tm 27 (by decide +kernel) rfl)) dX2_append_53 ?_
  refine lv_iconst (v := nI 1) hx hb dX2_append_56 (by decide) ?_
  refine kn_iadd hx hb dX2_append_57 ?_
  refine kr_pn (S' := (xR S i (va_up ((S.1 i).1) ((S.1 i).2.2) v, va_up ((S.1 i).2.1) ((S.1 i).2.2) u, (S.1 i).2.2 + 1))) hx hb hts hin2 hown hX hi (by rw [xR_row, xR_xR]) (hts (.fieldLink RX2 18 "Orderlattice$Row" "many" "I") (tm 27 (by decide +kernel) rfl)) dX2_append_58 (fun H locs hX => ?_)
  exact W.vret hx hb hr (fun t9 ht9 hW9 => ⟨⟨(xR S i (va_up ((S.1 i).1) ((S.1 i).2.2) v, va_up ((S.1 i).2.1) ((S.1 i).2.2) u, (S.1 i).2.2 + 1)), rfl, rfl, hX.P ht9 hW9⟩, hX.2.2.2.F ht9⟩) hX.2.2.2.2.2 dX2_append_61
set_option maxHeartbeats 4000000 in
set_option maxRecDepth 100000 in
theorem m_X2_empty (l : Launch) (dC : Nat → ClassId) (dI : Nat → Nat → Nat) (ad : Nat → Nat) (S : XS) (i : Nat) (hi : i < 8) : Met l yX2_empty wsX2_empty ({ frames := 0, cells := 0, slots := 0, locals := 0 } : Room) (va_Pc [.ref (ad (3 * i))] (PX dC dI ad S)) (va_Qv (fun S' => S' = xR S i ((S.1 i).1, (S.1 i).2.1, 0)) (PX dC dI ad) (AX ad)) 0 0 (AX ad) := by
  refine Met.ofW (cc := cX2_empty) (maxL := 1) (ret := none) pl_X2 rfl ?_
  intro p e s m args below meth c s₁ B hml hv
  obtain ⟨rfl, hPX⟩ := hv
  have hx := B.exec
  have hb := B.bytes
  have hr := B.returns
  have hts := atoms_spec (ws := wsX2_empty) B.pre
  have hown : s.vm.findClass RX2 = some m.cls := findClass_of_methodNamed B.named
  have hlocks := B.notSynchronized
  have hin2 : ∀ w ∈ u_ws RX2 TX2 3, w ∈ wsX2_empty := tu 1322 (by decide +kernel) rfl
  have hX := WX.of hPX
  have hl := lv_entry ([.ref (ad (3 * i))]) (n := 1) (Nat.le_of_ble_eq_true rfl)
  rw [lg_entry_eq]
  generalize (lg_sl ([.ref (ad (3 * i))]) ++ List.replicate (1 - (lg_sl ([.ref (ad (3 * i))])).length) Slot.unset).toArray = ls at hl ⊢
  have hl : lv_has ls 1 [(0, .ref (ad (3 * i)))] := hl
  show W p l e ({ frames := 0, cells := 0, slots := 0, locals := 0 } : Room) s m ([.ref (ad (3 * i))]).toArray below meth c s.heap [] 0 0 (MQ below (va_Qv (fun S' => S' = xR S i ((S.1 i).1, (S.1 i).2.1, 0)) (PX dC dI ad) (AX ad)) ([.ref (ad (3 * i))]).toArray s 0 0 (AX ad)) (F0 m 0 ls [])
  refine lv_aload_n hx hb dX2_empty_0 rfl (lv_at hl 0 rfl) ?_
  refine lv_iconst (v := nI 0) hx hb dX2_empty_1 (by decide) ?_
  refine kr_pn (S' := (xR S i ((S.1 i).1, (S.1 i).2.1, 0))) hx hb hts hin2 hown hX hi rfl (hts (.fieldLink RX2 18 "Orderlattice$Row" "many" "I") (tm 27 (by decide +kernel) rfl)) dX2_empty_2 (fun H locs hX => ?_)
  exact W.vret hx hb hr (fun t9 ht9 hW9 => ⟨⟨(xR S i ((S.1 i).1, (S.1 i).2.1, 0)), rfl, rfl, hX.P ht9 hW9⟩, hX.2.2.2.F ht9⟩) hX.2.2.2.2.2 dX2_empty_5
set_option maxHeartbeats 4000000 in
set_option maxRecDepth 100000 in
theorem m_X2_exchange (l : Launch) (dC : Nat → ClassId) (dI : Nat → Nat → Nat) (ad : Nat → Nat) (S : XS) (i a b : Nat) (hi : i < 8) (ha : a < 16) (hb9 : b < 16) : Met l yX2_exchange wsX2_exchange ({ frames := 1, cells := 0, slots := 0, locals := 23 } : Room) (va_Pc [.ref (ad (3 * i)), .int (nI a), .int (nI b)] (PX dC dI ad S)) (va_Qv (fun S' => S' = xR S i (xch (S.1 i).1 a b, xch (S.1 i).2.1 a b, (S.1 i).2.2)) (PX dC dI ad) (AX ad)) 0 0 (AX ad) := by
  refine Met.ofW (cc := cX2_exchange) (maxL := 5) (ret := none) pl_X2 rfl ?_
  intro p e s m args below meth c s₁ B hml hv
  obtain ⟨rfl, hPX⟩ := hv
  have hx := B.exec
  have hb := B.bytes
  have hr := B.returns
  have hts := atoms_spec (ws := wsX2_exchange) B.pre
  have hown : s.vm.findClass RX2 = some m.cls := findClass_of_methodNamed B.named
  have hlocks := B.notSynchronized
  have hX := WX.of hPX
  have hl := lv_entry ([.ref (ad (3 * i)), .int (nI a), .int (nI b)]) (n := 5) (Nat.le_of_ble_eq_true rfl)
  rw [lg_entry_eq]
  generalize (lg_sl ([.ref (ad (3 * i)), .int (nI a), .int (nI b)]) ++ List.replicate (5 - (lg_sl ([.ref (ad (3 * i)), .int (nI a), .int (nI b)])).length) Slot.unset).toArray = ls at hl ⊢
  have hl : lv_has ls 5 [(0, .ref (ad (3 * i))), (1, .int (nI a)), (2, .int (nI b))] := hl
  show W p l e ({ frames := 1, cells := 0, slots := 0, locals := 23 } : Room) s m ([.ref (ad (3 * i)), .int (nI a), .int (nI b)]).toArray below meth c s.heap [] 0 0 (MQ below (va_Qv (fun S' => S' = xR S i (xch (S.1 i).1 a b, xch (S.1 i).2.1 a b, (S.1 i).2.2)) (PX dC dI ad) (AX ad)) ([.ref (ad (3 * i)), .int (nI a), .int (nI b)]).toArray s 0 0 (AX ad)) (F0 m 0 ls [])
  refine lv_aload_n hx hb dX2_exchange_0 rfl (lv_at hl 0 rfl) ?_
  refine lv_iload_n hx hb dX2_exchange_1 rfl (lv_at hl 1 rfl) ?_
  refine kx_cr (v := nI (((S.1 i).1) a)) (va_runV (As := [.int (nI a)]) (rest := []) ⟨hx, hb, hml, hown, hts⟩ (m_X2_valueOn l dC dI ad S i a hi (by omega)) (cwV 1 hts gX2_exchange_X2_valueOn rfl rfl rfl hdX2_valueOn_1 ⟨Nat.le_of_ble_eq_true rfl, Nat.le_of_ble_eq_true rfl⟩) (hX.preRow hi) rfl rfl hl.1 rfl (lv_room (Nat.le_of_ble_eq_true rfl)) dX2_exchange_2 ⟨Nat.le_of_ble_eq_true rfl, Nat.le_of_ble_eq_true rfl⟩) (fun _ h => h) ?_
  refine lv_istore_n (lv' := [(3, .int (nI (((S.1 i).1) a))), (0, .ref (ad (3 * i))), (1, .int (nI a)), (2, .int (nI b))]) hx hb dX2_exchange_5 rfl hl (by decide) rfl (fun ls hl => ?_)
  refine lv_aload_n hx hb dX2_exchange_6 rfl (lv_at hl 1 rfl) ?_
  refine lv_iload_n hx hb dX2_exchange_7 rfl (lv_at hl 2 rfl) ?_
  refine kx_cr (v := nI (((S.1 i).2.1) a)) (va_runV (As := [.int (nI a)]) (rest := []) ⟨hx, hb, hml, hown, hts⟩ (m_X2_markOn l dC dI ad S i a hi (by omega)) (cwV 1 hts gX2_exchange_X2_markOn rfl rfl rfl hdX2_markOn_1 ⟨Nat.le_of_ble_eq_true rfl, Nat.le_of_ble_eq_true rfl⟩) (hX.preRow hi) rfl rfl hl.1 rfl (lv_room (Nat.le_of_ble_eq_true rfl)) dX2_exchange_8 ⟨Nat.le_of_ble_eq_true rfl, Nat.le_of_ble_eq_true rfl⟩) (fun _ h => h) ?_
  refine lv_istore (lv' := [(4, .int (nI (((S.1 i).2.1) a))), (3, .int (nI (((S.1 i).1) a))), (0, .ref (ad (3 * i))), (1, .int (nI a)), (2, .int (nI b))]) hx hb dX2_exchange_11 hl (by decide) rfl (fun ls hl => ?_)
  refine lv_aload_n hx hb dX2_exchange_13 rfl (lv_at hl 2 rfl) ?_
  refine lv_iload_n hx hb dX2_exchange_14 rfl (lv_at hl 3 rfl) ?_
  refine lv_aload_n hx hb dX2_exchange_15 rfl (lv_at hl 2 rfl) ?_
  refine lv_iload_n hx hb dX2_exchange_16 rfl (lv_at hl 4 rfl) ?_
  refine kx_cr (v := nI (((S.1 i).1) b)) (va_runV (As := [.int (nI b)]) (rest := [.int (nI a), .ref (ad (3 * i))]) ⟨hx, hb, hml, hown, hts⟩ (m_X2_valueOn l dC dI ad S i b hi (by omega)) (cwV 1 hts gX2_exchange_X2_valueOn rfl rfl rfl hdX2_valueOn_1 ⟨Nat.le_of_ble_eq_true rfl, Nat.le_of_ble_eq_true rfl⟩) (hX.preRow hi) rfl rfl hl.1 rfl (lv_room (Nat.le_of_ble_eq_true rfl)) dX2_exchange_17 ⟨Nat.le_of_ble_eq_true rfl, Nat.le_of_ble_eq_true rfl⟩) (fun _ h => h) ?_
  refine lv_aload_n hx hb dX2_exchange_20 rfl (lv_at hl 2 rfl) ?_
  refine lv_iload_n hx hb dX2_exchange_21 rfl (lv_at hl 4 rfl) ?_
  refine kx_cr (v := nI (((S.1 i).2.1) b)) (va_runV (As := [.int (nI b)]) (rest := [.int (nI (((S.1 i).1) b)), .int (nI a), .ref (ad (3 * i))]) ⟨hx, hb, hml, hown, hts⟩ (m_X2_markOn l dC dI ad S i b hi (by omega)) (cwV 1 hts gX2_exchange_X2_markOn rfl rfl rfl hdX2_markOn_1 ⟨Nat.le_of_ble_eq_true rfl, Nat.le_of_ble_eq_true rfl⟩) (hX.preRow hi) rfl rfl hl.1 rfl (lv_room (Nat.le_of_ble_eq_true rfl)) dX2_exchange_22 ⟨Nat.le_of_ble_eq_true rfl, Nat.le_of_ble_eq_true rfl⟩) (fun _ h => h) ?_
  refine kx_cv (va_runV (As := [.int (nI a), .int (nI (((S.1 i).1) b)), .int (nI (((S.1 i).2.1) b))]) (rest := []) ⟨hx, hb, hml, hown, hts⟩ (m_X2_replace l dC dI ad S i a (((S.1 i).1) b) (((S.1 i).2.1) b) hi (by omega)) (cwV 3 hts gX2_exchange_X2_replace rfl rfl rfl hdX2_replace_3 ⟨Nat.le_of_ble_eq_true rfl, Nat.le_of_ble_eq_true rfl⟩) (hX.preRow hi) rfl rfl hl.1 rfl (lv_room (Nat.le_of_ble_eq_true rfl)) dX2_exchange_25 ⟨Nat.le_of_ble_eq_true rfl, Nat.le_of_ble_eq_true rfl⟩) hX (fun _ h => h) (fun S_ H locs hw hX => ?_)
  subst hw
  refine lv_aload_n hx hb dX2_exchange_28 rfl (lv_at hl 2 rfl) ?_
  refine lv_iload_n hx hb dX2_exchange_29 rfl (lv_at hl 4 rfl) ?_
  refine lv_iload_n hx hb dX2_exchange_30 rfl (lv_at hl 1 rfl) ?_
  refine lv_iload hx hb dX2_exchange_31 (lv_at hl 0 rfl) ?_
  refine kx_cv (va_runV (As := [.int (nI b), .int (nI (((S.1 i).1) a)), .int (nI (((S.1 i).2.1) a))]) (rest := []) ⟨hx, hb, hml, hown, hts⟩ (m_X2_replace l dC dI ad (xR S i (va_up ((S.1 i).1) a (((S.1 i).1) b), va_up ((S.1 i).2.1) a (((S.1 i).2.1) b), (S.1 i).2.2)) i b (((S.1 i).1) a) (((S.1 i).2.1) a) hi (by omega)) (cwV 3 hts gX2_exchange_X2_replace rfl rfl rfl hdX2_replace_3 ⟨Nat.le_of_ble_eq_true rfl, Nat.le_of_ble_eq_true rfl⟩) (hX.preRow hi) rfl rfl hl.1 rfl (lv_room (Nat.le_of_ble_eq_true rfl)) dX2_exchange_33 ⟨Nat.le_of_ble_eq_true rfl, Nat.le_of_ble_eq_true rfl⟩) hX (fun _ h => h) (fun S_ H locs hw hX => ?_)
  rw [xR_row, xR_xR] at hw
  subst hw
  exact W.vret hx hb hr (fun t9 ht9 hW9 => ⟨⟨(xR S i (va_up (va_up ((S.1 i).1) a (((S.1 i).1) b)) b (((S.1 i).1) a), va_up (va_up ((S.1 i).2.1) a (((S.1 i).2.1) b)) b (((S.1 i).2.1) a), (S.1 i).2.2)), rfl, rfl, hX.P ht9 hW9⟩, hX.2.2.2.F ht9⟩) hX.2.2.2.2.2 dX2_exchange_36
set_option maxHeartbeats 4000000 in
set_option maxRecDepth 100000 in
theorem m_X2_insert (l : Launch) (dC : Nat → ClassId) (dI : Nat → Nat → Nat) (ad : Nat → Nat) (S : XS) (i q v u : Nat) (hi : i < 8) (hn : (S.1 i).2.2 < 16) (hq : q ≤ (S.1 i).2.2) : Met l yX2_insert wsX2_insert ({ frames := 1, cells := 0, slots := 0, locals := 23 } : Room) (va_Pc [.ref (ad (3 * i)), .int (nI q), .int (nI v), .int (nI u)] (PX dC dI ad S)) (va_Qv (fun S' => S' = xR S i (va_up (shr (S.1 i).1 (S.1 i).2.2 q) q v, va_up (shr (S.1 i).2.1 (S.1 i).2.2 q) q u, (S.1 i).2.2 + 1)) (PX dC dI ad) (AX ad)) 0 0 (AX ad) := by
  refine Met.ofW (cc := cX2_insert) (maxL := 5) (ret := none) pl_X2 rfl ?_
  intro p e s m args below meth c s₁ B hml hv
  obtain ⟨rfl, hPX⟩ := hv
  have hx := B.exec
  have hb := B.bytes
  have hr := B.returns
  have hts := atoms_spec (ws := wsX2_insert) B.pre
  have hown : s.vm.findClass RX2 = some m.cls := findClass_of_methodNamed B.named
  have hlocks := B.notSynchronized
  have hin2 : ∀ w ∈ u_ws RX2 TX2 3, w ∈ wsX2_insert := tu 1322 (by decide +kernel) rfl
  have hX := WX.of hPX
  have hl := lv_entry ([.ref (ad (3 * i)), .int (nI q), .int (nI v), .int (nI u)]) (n := 5) (Nat.le_of_ble_eq_true rfl)
  rw [lg_entry_eq]
  generalize (lg_sl ([.ref (ad (3 * i)), .int (nI q), .int (nI v), .int (nI u)]) ++ List.replicate (5 - (lg_sl ([.ref (ad (3 * i)), .int (nI q), .int (nI v), .int (nI u)])).length) Slot.unset).toArray = ls at hl ⊢
  have hl : lv_has ls 5 [(0, .ref (ad (3 * i))), (1, .int (nI q)), (2, .int (nI v)), (3, .int (nI u))] := hl
  show W p l e ({ frames := 1, cells := 0, slots := 0, locals := 23 } : Room) s m ([.ref (ad (3 * i)), .int (nI q), .int (nI v), .int (nI u)]).toArray below meth c s.heap [] 0 0 (MQ below (va_Qv (fun S' => S' = xR S i (va_up (shr (S.1 i).1 (S.1 i).2.2 q) q v, va_up (shr (S.1 i).2.1 (S.1 i).2.2 q) q u, (S.1 i).2.2 + 1)) (PX dC dI ad) (AX ad)) ([.ref (ad (3 * i)), .int (nI q), .int (nI v), .int (nI u)]).toArray s 0 0 (AX ad)) (F0 m 0 ls [])
  refine lv_aload_n hx hb dX2_insert_0 rfl (lv_at hl 0 rfl) ?_
  refine kr_gn (n := (S.1 i).2.2) hx hb hts hin2 hown hX hi rfl (hts (.fieldLink RX2 18 "Orderlattice$Row" "many" "I") (tm 27 (by decide +kernel) rfl)) dX2_insert_1 ?_
  refine lv_bipush (v := nI 16) hx hb dX2_insert_4 (by decide) ?_
  refine kn_icmp_lt (tgt := 10) hx hb (by omega) (by omega) dX2_insert_6 (by decide) (fun c1 => ?_) (fun c1 => absurd c1 (by omega))
  refine lv_aload_n hx hb dX2_insert_10 rfl (lv_at hl 0 rfl) ?_
  refine kr_gn (n := (S.1 i).2.2) hx hb hts hin2 hown hX hi rfl (hts (.fieldLink RX2 18 "Orderlattice$Row" "many" "I") (tm 27 (by decide +kernel) rfl)) dX2_insert_11 ?_
  refine lv_istore (lv' := [(4, .int (nI ((S.1 i).2.2))), (0, .ref (ad (3 * i))), (1, .int (nI q)), (2, .int (nI v)), (3, .int (nI u))]) hx hb dX2_insert_14 hl (by decide) rfl (fun ls hl => ?_)
  have loop16 : ∀ (fuel : Nat) (a : Nat) (ha : q ≤ a ∧ a ≤ (S.1 i).2.2) (H : Heap) (locs : List Loc), a < fuel → WX dC dI ad (xR S i (shr (S.1 i).1 (S.1 i).2.2 a, shr (S.1 i).2.1 (S.1 i).2.2 a, (S.1 i).2.2)) (AX ad) s H locs → ∀ ls : Array Slot, lv_has ls 5 [(0, .ref (ad (3 * i))), (1, .int (nI q)), (2, .int (nI v)), (3, .int (nI u)), (4, .int (nI a))] → W p l e ({ frames := 1, cells := 0, slots := 0, locals := 23 } : Room) s m ([.ref (ad (3 * i)), .int (nI q), .int (nI v), .int (nI u)]).toArray below meth c H locs 0 0 (MQ below (va_Qv (fun S' => S' = xR S i (va_up (shr (S.1 i).1 (S.1 i).2.2 q) q v, va_up (shr (S.1 i).2.1 (S.1 i).2.2 q) q u, (S.1 i).2.2 + 1)) (PX dC dI ad) (AX ad)) ([.ref (ad (3 * i)), .int (nI q), .int (nI v), .int (nI u)]).toArray s 0 0 (AX ad)) (F0 m 16 ls []) := by
    intro fuel
    induction fuel with
    | zero => intro a ha H locs hf; exact absurd hf (Nat.not_lt_zero _)
    | succ fuel ih16 =>
      intro a ha H locs hf hX ls hl
      refine lv_iload hx hb dX2_insert_16 (lv_at hl 4 rfl) ?_
      refine lv_iload_n hx hb dX2_insert_18 rfl (lv_at hl 1 rfl) ?_
      refine kn_icmp_le (tgt := 50) hx hb (by omega) (by omega) dX2_insert_19 (by decide) (fun c2 => ?_) (fun c2 => ?_)
      · skip
        refine lv_aload_n hx hb dX2_insert_50 rfl (lv_at hl 0 rfl) ?_
        refine lv_iload_n hx hb dX2_insert_51 rfl (lv_at hl 1 rfl) ?_
        refine lv_iload_n hx hb dX2_insert_52 rfl (lv_at hl 2 rfl) ?_
        refine lv_iload_n hx hb dX2_insert_53 rfl (lv_at hl 3 rfl) ?_
        refine kx_cv (va_runV (As := [.int (nI q), .int (nI v), .int (nI u)]) (rest := []) ⟨hx, hb, hml, hown, hts⟩ (m_X2_replace l dC dI ad (xR S i (shr (S.1 i).1 (S.1 i).2.2 a, shr (S.1 i).2.1 (S.1 i).2.2 a, (S.1 i).2.2)) i q v u hi (by omega)) (cwV 3 hts gX2_insert_X2_replace rfl rfl rfl hdX2_replace_3 ⟨Nat.le_of_ble_eq_true rfl, Nat.le_of_ble_eq_true rfl⟩) (hX.preRow hi) rfl rfl hl.1 rfl (lv_room (Nat.le_of_ble_eq_true rfl)) dX2_insert_54 ⟨Nat.le_of_ble_eq_true rfl, Nat.le_of_ble_eq_true rfl⟩) hX (fun _ h => h) (fun S_ H locs hw hX => ?_)
        rw [xR_row, xR_xR] at hw
        subst hw
        refine lv_aload_n hx hb dX2_insert_57 rfl (lv_at hl 0 rfl) ?_
        refine lv_dup hx hb dX2_insert_58 rfl ?_
        refine kr_gn (n := (S.1 i).2.2) hx hb hts hin2 hown hX hi (by rw [xR_row]) (hts (.fieldLink RX2 18 "Orderlattice$Row" "many" "I") (tm 27 (by decide +kernel) rfl)) dX2_insert_59 ?_
        refine lv_iconst (v := nI 1) hx hb dX2_insert_62 (by decide) ?_
        refine kn_iadd hx hb dX2_insert_63 ?_
        refine kr_pn (S' := (xR S i (va_up (shr (S.1 i).1 (S.1 i).2.2 a) q v, va_up (shr (S.1 i).2.1 (S.1 i).2.2 a) q u, (S.1 i).2.2 + 1))) hx hb hts hin2 hown hX hi (by rw [xR_row, xR_xR]) (hts (.fieldLink RX2 18 "Orderlattice$Row" "many" "I") (tm 27 (by decide +kernel) rfl)) dX2_insert_64 (fun H locs hX => ?_)
        exact W.vret hx hb hr (fun t9 ht9 hW9 => ⟨⟨(xR S i (va_up (shr (S.1 i).1 (S.1 i).2.2 a) q v, va_up (shr (S.1 i).2.1 (S.1 i).2.2 a) q u, (S.1 i).2.2 + 1)), rfl, (by rw [show a = q by omega]), hX.P ht9 hW9⟩, hX.2.2.2.F ht9⟩) hX.2.2.2.2.2 dX2_insert_67
      · skip
        refine lv_aload_n hx hb dX2_insert_22 rfl (lv_at hl 0 rfl) ?_
        refine lv_iload hx hb dX2_insert_23 (lv_at hl 4 rfl) ?_
        refine lv_aload_n hx hb dX2_insert_25 rfl (lv_at hl 0 rfl) ?_
        refine lv_iload hx hb dX2_insert_26 (lv_at hl 4 rfl) ?_
        refine lv_iconst (v := nI 1) hx hb dX2_insert_28 (by decide) ?_
        refine kn_isub hx hb (by omega) dX2_insert_29 ?_
        refine kx_cr (v := nI ((S.1 i).1 (a - 1))) (va_runV (As := [.int (nI (a - 1))]) (rest := [.int (nI a), .ref (ad (3 * i))]) ⟨hx, hb, hml, hown, hts⟩ (m_X2_valueOn l dC dI ad (xR S i (shr (S.1 i).1 (S.1 i).2.2 a, shr (S.1 i).2.1 (S.1 i).2.2 a, (S.1 i).2.2)) i (a - 1) hi (by omega)) (cwV 1 hts gX2_insert_X2_valueOn rfl rfl rfl hdX2_valueOn_1 ⟨Nat.le_of_ble_eq_true rfl, Nat.le_of_ble_eq_true rfl⟩) (hX.preRow hi) rfl rfl hl.1 rfl (lv_room (Nat.le_of_ble_eq_true rfl)) dX2_insert_30 ⟨Nat.le_of_ble_eq_true rfl, Nat.le_of_ble_eq_true rfl⟩) (fun _ h => by rw [h, xR_row]; dsimp only; rw [shr_lo _ (by omega)]) ?_
        refine lv_aload_n hx hb dX2_insert_33 rfl (lv_at hl 0 rfl) ?_
        refine lv_iload hx hb dX2_insert_34 (lv_at hl 4 rfl) ?_
        refine lv_iconst (v := nI 1) hx hb dX2_insert_36 (by decide) ?_
        refine kn_isub hx hb (by omega) dX2_insert_37 ?_
        refine kx_cr (v := nI ((S.1 i).2.1 (a - 1))) (va_runV (As := [.int (nI (a - 1))]) (rest := [.int (nI ((S.1 i).1 (a - 1))), .int (nI a), .ref (ad (3 * i))]) ⟨hx, hb, hml, hown, hts⟩ (m_X2_markOn l dC dI ad (xR S i (shr (S.1 i).1 (S.1 i).2.2 a, shr (S.1 i).2.1 (S.1 i).2.2 a, (S.1 i).2.2)) i (a - 1) hi (by omega)) (cwV 1 hts gX2_insert_X2_markOn rfl rfl rfl hdX2_markOn_1 ⟨Nat.le_of_ble_eq_true rfl, Nat.le_of_ble_eq_true rfl⟩) (hX.preRow hi) rfl rfl hl.1 rfl (lv_room (Nat.le_of_ble_eq_true rfl)) dX2_insert_38 ⟨Nat.le_of_ble_eq_true rfl, Nat.le_of_ble_eq_true rfl⟩) (fun _ h => by rw [h, xR_row]; dsimp only; rw [shr_lo _ (by omega)]) ?_
        refine kx_cv (va_runV (As := [.int (nI a), .int (nI ((S.1 i).1 (a - 1))), .int (nI ((S.1 i).2.1 (a - 1)))]) (rest := []) ⟨hx, hb, hml, hown, hts⟩ (m_X2_replace l dC dI ad (xR S i (shr (S.1 i).1 (S.1 i).2.2 a, shr (S.1 i).2.1 (S.1 i).2.2 a, (S.1 i).2.2)) i a ((S.1 i).1 (a - 1)) ((S.1 i).2.1 (a - 1)) hi (by omega)) (cwV 3 hts gX2_insert_X2_replace rfl rfl rfl hdX2_replace_3 ⟨Nat.le_of_ble_eq_true rfl, Nat.le_of_ble_eq_true rfl⟩) (hX.preRow hi) rfl rfl hl.1 rfl (lv_room (Nat.le_of_ble_eq_true rfl)) dX2_insert_41 ⟨Nat.le_of_ble_eq_true rfl, Nat.le_of_ble_eq_true rfl⟩) hX (fun _ h => h) (fun S_ H locs hw hX => ?_)
        rw [xR_row, xR_xR] at hw
        dsimp only at hw
        rw [shr_up _ (by omega) (by omega), shr_up _ (by omega) (by omega)] at hw
        subst hw
        refine lv_iinc (v := nI (a - 1)) (lv' := [(4, .int (nI (a - 1))), (0, .ref (ad (3 * i))), (1, .int (nI q)), (2, .int (nI v)), (3, .int (nI u))]) hx hb dX2_insert_44 hl (k := 4) rfl (kn_dec (by omega)) (by decide) rfl (fun ls hl => ?_)
        refine lv_goto (tgt := 16) hx hb dX2_insert_47 (by decide) ?_
        exact ih16  (a - 1) (by omega) _ _ (by omega) hX _ (lv_sub hl [1, 2, 3, 4, 0] rfl)
  exact loop16 ((S.1 i).2.2 + 1) ((S.1 i).2.2) (by omega) _ _ (by omega) (WX.eqS (by rw [shr_n, shr_n]; exact (xR_self S i).symm) hX) _ (lv_sub hl [1, 2, 3, 4, 0] rfl)
set_option maxHeartbeats 4000000 in
set_option maxRecDepth 100000 in
theorem m_X2_remove (l : Launch) (dC : Nat → ClassId) (dI : Nat → Nat → Nat) (ad : Nat → Nat) (S : XS) (i q : Nat) (hi : i < 8) (hn : (S.1 i).2.2 ≤ 16) (hq : q < (S.1 i).2.2) : Met l yX2_remove wsX2_remove ({ frames := 1, cells := 0, slots := 0, locals := 23 } : Room) (va_Pc [.ref (ad (3 * i)), .int (nI q)] (PX dC dI ad S)) (va_Qv (fun S' => S' = xR S i (shl (S.1 i).1 q ((S.1 i).2.2 - 1), shl (S.1 i).2.1 q ((S.1 i).2.2 - 1), (S.1 i).2.2 - 1)) (PX dC dI ad) (AX ad)) 0 0 (AX ad) := by
  refine Met.ofW (cc := cX2_remove) (maxL := 3) (ret := none) pl_X2 rfl ?_
  intro p e s m args below meth c s₁ B hml hv
  obtain ⟨rfl, hPX⟩ := hv
  have hx := B.exec
  have hb := B.bytes
  have hr := B.returns
  have hts := atoms_spec (ws := wsX2_remove) B.pre
  have hown : s.vm.findClass RX2 = some m.cls := findClass_of_methodNamed B.named
  have hlocks := B.notSynchronized
  have hin2 : ∀ w ∈ u_ws RX2 TX2 3, w ∈ wsX2_remove := tu 1322 (by decide +kernel) rfl
  have hX := WX.of hPX
  have hl := lv_entry ([.ref (ad (3 * i)), .int (nI q)]) (n := 3) (Nat.le_of_ble_eq_true rfl)
  rw [lg_entry_eq]
  generalize (lg_sl ([.ref (ad (3 * i)), .int (nI q)]) ++ List.replicate (3 - (lg_sl ([.ref (ad (3 * i)), .int (nI q)])).length) Slot.unset).toArray = ls at hl ⊢
  have hl : lv_has ls 3 [(0, .ref (ad (3 * i))), (1, .int (nI q))] := hl
  show W p l e ({ frames := 1, cells := 0, slots := 0, locals := 23 } : Room) s m ([.ref (ad (3 * i)), .int (nI q)]).toArray below meth c s.heap [] 0 0 (MQ below (va_Qv (fun S' => S' = xR S i (shl (S.1 i).1 q ((S.1 i).2.2 - 1), shl (S.1 i).2.1 q ((S.1 i).2.2 - 1), (S.1 i).2.2 - 1)) (PX dC dI ad) (AX ad)) ([.ref (ad (3 * i)), .int (nI q)]).toArray s 0 0 (AX ad)) (F0 m 0 ls [])
  refine lv_iload_n hx hb dX2_remove_0 rfl (lv_at hl 1 rfl) ?_
  refine kn_if_lt (tgt := 12) hx hb (by omega) dX2_remove_1 (by decide) ?_
  refine lv_iload_n hx hb dX2_remove_4 rfl (lv_at hl 1 rfl) ?_
  refine lv_aload_n hx hb dX2_remove_5 rfl (lv_at hl 0 rfl) ?_
  refine kr_gn (n := (S.1 i).2.2) hx hb hts hin2 hown hX hi rfl (hts (.fieldLink RX2 18 "Orderlattice$Row" "many" "I") (tm 27 (by decide +kernel) rfl)) dX2_remove_6 ?_
  refine kn_icmp_lt (tgt := 13) hx hb (by omega) (by omega) dX2_remove_9 (by decide) (fun c2 => ?_) (fun c2 => absurd c2 (by omega))
  refine lv_aload_n hx hb dX2_remove_13 rfl (lv_at hl 0 rfl) ?_
  refine lv_dup hx hb dX2_remove_14 rfl ?_
  refine kr_gn (n := (S.1 i).2.2) hx hb hts hin2 hown hX hi rfl (hts (.fieldLink RX2 18 "Orderlattice$Row" "many" "I") (tm 27 (by decide +kernel) rfl)) dX2_remove_15 ?_
  refine lv_iconst (v := nI 1) hx hb dX2_remove_18 (by decide) ?_
  refine kn_isub hx hb (by omega) dX2_remove_19 ?_
  refine kr_pn (S' := (xR S i ((S.1 i).1, (S.1 i).2.1, ((S.1 i).2.2) - 1))) hx hb hts hin2 hown hX hi rfl (hts (.fieldLink RX2 18 "Orderlattice$Row" "many" "I") (tm 27 (by decide +kernel) rfl)) dX2_remove_20 (fun H locs hX => ?_)
  refine lv_iload_n hx hb dX2_remove_23 rfl (lv_at hl 1 rfl) ?_
  refine lv_istore_n (lv' := [(2, .int (nI q)), (0, .ref (ad (3 * i))), (1, .int (nI q))]) hx hb dX2_remove_24 rfl hl (by decide) rfl (fun ls hl => ?_)
  have loop25 : ∀ (fuel : Nat) (a : Nat) (ha : q ≤ a ∧ a ≤ (S.1 i).2.2 - 1) (H : Heap) (locs : List Loc), (S.1 i).2.2 - a < fuel → WX dC dI ad (xR S i (shl (S.1 i).1 q a, shl (S.1 i).2.1 q a, (S.1 i).2.2 - 1)) (AX ad) s H locs → ∀ ls : Array Slot, lv_has ls 3 [(0, .ref (ad (3 * i))), (1, .int (nI q)), (2, .int (nI a))] → W p l e ({ frames := 1, cells := 0, slots := 0, locals := 23 } : Room) s m ([.ref (ad (3 * i)), .int (nI q)]).toArray below meth c H locs 0 0 (MQ below (va_Qv (fun S' => S' = xR S i (shl (S.1 i).1 q ((S.1 i).2.2 - 1), shl (S.1 i).2.1 q ((S.1 i).2.2 - 1), (S.1 i).2.2 - 1)) (PX dC dI ad) (AX ad)) ([.ref (ad (3 * i)), .int (nI q)]).toArray s 0 0 (AX ad)) (F0 m 25 ls []) := by
    intro fuel
    induction fuel with
    | zero => intro a ha H locs hf; exact absurd hf (Nat.not_lt_zero _)
    | succ fuel ih25 =>
      intro a ha H locs hf hX ls hl
      refine lv_iload_n hx hb dX2_remove_25 rfl (lv_at hl 2 rfl) ?_
      refine lv_aload_n hx hb dX2_remove_26 rfl (lv_at hl 0 rfl) ?_
      refine kr_gn (n := (S.1 i).2.2 - 1) hx hb hts hin2 hown hX hi (by rw [xR_row]) (hts (.fieldLink RX2 18 "Orderlattice$Row" "many" "I") (tm 27 (by decide +kernel) rfl)) dX2_remove_27 ?_
      refine kn_icmp_ge (tgt := 58) hx hb (by omega) (by omega) dX2_remove_30 (by decide) (fun c3 => ?_) (fun c3 => ?_)
      · skip
        exact W.vret hx hb hr (fun t9 ht9 hW9 => ⟨⟨(xR S i (shl (S.1 i).1 q a, shl (S.1 i).2.1 q a, (S.1 i).2.2 - 1)), rfl, (by rw [show a = (S.1 i).2.2 - 1 by omega]), hX.P ht9 hW9⟩, hX.2.2.2.F ht9⟩) hX.2.2.2.2.2 dX2_remove_58
      · skip
        refine lv_aload_n hx hb dX2_remove_33 rfl (lv_at hl 0 rfl) ?_
        refine lv_iload_n hx hb dX2_remove_34 rfl (lv_at hl 2 rfl) ?_
        refine lv_aload_n hx hb dX2_remove_35 rfl (lv_at hl 0 rfl) ?_
        refine lv_iload_n hx hb dX2_remove_36 rfl (lv_at hl 2 rfl) ?_
        refine lv_iconst (v := nI 1) hx hb dX2_remove_37 (by decide) ?_
        refine kn_iadd hx hb dX2_remove_38 ?_
        refine kx_cr (v := nI ((S.1 i).1 (a + 1))) (va_runV (As := [.int (nI (a + 1))]) (rest := [.int (nI a), .ref (ad (3 * i))]) ⟨hx, hb, hml, hown, hts⟩ (m_X2_valueOn l dC dI ad (xR S i (shl (S.1 i).1 q a, shl (S.1 i).2.1 q a, (S.1 i).2.2 - 1)) i (a + 1) hi (by omega)) (cwV 1 hts gX2_remove_X2_valueOn rfl rfl rfl hdX2_valueOn_1 ⟨Nat.le_of_ble_eq_true rfl, Nat.le_of_ble_eq_true rfl⟩) (hX.preRow hi) rfl rfl hl.1 rfl (lv_room (Nat.le_of_ble_eq_true rfl)) dX2_remove_39 ⟨Nat.le_of_ble_eq_true rfl, Nat.le_of_ble_eq_true rfl⟩) (fun _ h => by rw [h, xR_row]; dsimp only; rw [shl_hi _ (by omega)]) ?_
        refine lv_aload_n hx hb dX2_remove_42 rfl (lv_at hl 0 rfl) ?_
        refine lv_iload_n hx hb dX2_remove_43 rfl (lv_at hl 2 rfl) ?_
        refine lv_iconst (v := nI 1) hx hb dX2_remove_44 (by decide) ?_
        refine kn_iadd hx hb dX2_remove_45 ?_
        refine kx_cr (v := nI ((S.1 i).2.1 (a + 1))) (va_runV (As := [.int (nI (a + 1))]) (rest := [.int (nI ((S.1 i).1 (a + 1))), .int (nI a), .ref (ad (3 * i))]) ⟨hx, hb, hml, hown, hts⟩ (m_X2_markOn l dC dI ad (xR S i (shl (S.1 i).1 q a, shl (S.1 i).2.1 q a, (S.1 i).2.2 - 1)) i (a + 1) hi (by omega)) (cwV 1 hts gX2_remove_X2_markOn rfl rfl rfl hdX2_markOn_1 ⟨Nat.le_of_ble_eq_true rfl, Nat.le_of_ble_eq_true rfl⟩) (hX.preRow hi) rfl rfl hl.1 rfl (lv_room (Nat.le_of_ble_eq_true rfl)) dX2_remove_46 ⟨Nat.le_of_ble_eq_true rfl, Nat.le_of_ble_eq_true rfl⟩) (fun _ h => by rw [h, xR_row]; dsimp only; rw [shl_hi _ (by omega)]) ?_
        refine kx_cv (va_runV (As := [.int (nI a), .int (nI ((S.1 i).1 (a + 1))), .int (nI ((S.1 i).2.1 (a + 1)))]) (rest := []) ⟨hx, hb, hml, hown, hts⟩ (m_X2_replace l dC dI ad (xR S i (shl (S.1 i).1 q a, shl (S.1 i).2.1 q a, (S.1 i).2.2 - 1)) i a ((S.1 i).1 (a + 1)) ((S.1 i).2.1 (a + 1)) hi (by omega)) (cwV 3 hts gX2_remove_X2_replace rfl rfl rfl hdX2_replace_3 ⟨Nat.le_of_ble_eq_true rfl, Nat.le_of_ble_eq_true rfl⟩) (hX.preRow hi) rfl rfl hl.1 rfl (lv_room (Nat.le_of_ble_eq_true rfl)) dX2_remove_49 ⟨Nat.le_of_ble_eq_true rfl, Nat.le_of_ble_eq_true rfl⟩) hX (fun _ h => h) (fun S_ H locs hw hX => ?_)
        rw [xR_row, xR_xR] at hw
        dsimp only at hw
        rw [shl_up _ (by omega), shl_up _ (by omega)] at hw
        subst hw
        refine lv_iinc (v := nI (a + 1)) (lv' := [(2, .int (nI (a + 1))), (0, .ref (ad (3 * i))), (1, .int (nI q))]) hx hb dX2_remove_52 hl (k := 2) rfl (nI_1 a) (by decide) rfl (fun ls hl => ?_)
        refine lv_goto (tgt := 25) hx hb dX2_remove_55 (by decide) ?_
        exact ih25  (a + 1) (by omega) _ _ (by omega) hX _ (lv_sub hl [1, 2, 0] rfl)
  exact loop25 ((S.1 i).2.2 - q + 1) q (by omega) _ _ (by omega) (WX.eqS (by rw [shl_q, shl_q]) hX) _ (lv_sub hl [1, 2, 0] rfl)
set_option maxHeartbeats 4000000 in
set_option maxRecDepth 100000 in
theorem m_X2_becomeCopyOf (l : Launch) (dC : Nat → ClassId) (dI : Nat → Nat → Nat) (ad : Nat → Nat) (S : XS) (i t : Nat) (hi : i < 8) (ht : t < 8) (hn : (S.1 t).2.2 ≤ 16) : Met l yX2_becomeCopyOf wsX2_becomeCopyOf ({ frames := 1, cells := 0, slots := 0, locals := 23 } : Room) (va_Pc [.ref (ad (3 * i)), .ref (ad (3 * t))] (PX dC dI ad S)) (va_Qv (fun S' => S' = xR S i (ovl (S.1 t).1 (S.1 i).1 (S.1 t).2.2, ovl (S.1 t).2.1 (S.1 i).2.1 (S.1 t).2.2, (S.1 t).2.2)) (PX dC dI ad) (AX ad)) 0 0 (AX ad) := by
  refine Met.ofW (cc := cX2_becomeCopyOf) (maxL := 4) (ret := none) pl_X2 rfl ?_
  intro p e s m args below meth c s₁ B hml hv
  obtain ⟨rfl, hPX⟩ := hv
  have hx := B.exec
  have hb := B.bytes
  have hr := B.returns
  have hts := atoms_spec (ws := wsX2_becomeCopyOf) B.pre
  have hown : s.vm.findClass RX2 = some m.cls := findClass_of_methodNamed B.named
  have hlocks := B.notSynchronized
  have hin2 : ∀ w ∈ u_ws RX2 TX2 3, w ∈ wsX2_becomeCopyOf := tu 1322 (by decide +kernel) rfl
  have hX := WX.of hPX
  have hl := lv_entry ([.ref (ad (3 * i)), .ref (ad (3 * t))]) (n := 4) (Nat.le_of_ble_eq_true rfl)
  rw [lg_entry_eq]
  generalize (lg_sl ([.ref (ad (3 * i)), .ref (ad (3 * t))]) ++ List.replicate (4 - (lg_sl ([.ref (ad (3 * i)), .ref (ad (3 * t))])).length) Slot.unset).toArray = ls at hl ⊢
  have hl : lv_has ls 4 [(0, .ref (ad (3 * i))), (1, .ref (ad (3 * t)))] := hl
  show W p l e ({ frames := 1, cells := 0, slots := 0, locals := 23 } : Room) s m ([.ref (ad (3 * i)), .ref (ad (3 * t))]).toArray below meth c s.heap [] 0 0 (MQ below (va_Qv (fun S' => S' = xR S i (ovl (S.1 t).1 (S.1 i).1 (S.1 t).2.2, ovl (S.1 t).2.1 (S.1 i).2.1 (S.1 t).2.2, (S.1 t).2.2)) (PX dC dI ad) (AX ad)) ([.ref (ad (3 * i)), .ref (ad (3 * t))]).toArray s 0 0 (AX ad)) (F0 m 0 ls [])
  refine lv_aload_n hx hb dX2_becomeCopyOf_0 rfl (lv_at hl 1 rfl) ?_
  refine kx_cr (v := nI ((S.1 t).2.2)) (va_runV (As := []) (rest := []) ⟨hx, hb, hml, hown, hts⟩ (m_X2_length l dC dI ad S t ht) (cwV 0 hts gX2_becomeCopyOf_X2_length rfl rfl rfl hdX2_length_0 ⟨Nat.le_of_ble_eq_true rfl, Nat.le_of_ble_eq_true rfl⟩) (hX.preRow ht) rfl rfl hl.1 rfl (lv_room (Nat.le_of_ble_eq_true rfl)) dX2_becomeCopyOf_1 ⟨Nat.le_of_ble_eq_true rfl, Nat.le_of_ble_eq_true rfl⟩) (fun _ h => h) ?_
  refine lv_istore_n (lv' := [(2, .int (nI ((S.1 t).2.2))), (0, .ref (ad (3 * i))), (1, .ref (ad (3 * t)))]) hx hb dX2_becomeCopyOf_4 rfl hl (by decide) rfl (fun ls hl => ?_)
  refine lv_iconst (v := nI 0) hx hb dX2_becomeCopyOf_5 (by decide) ?_
  refine lv_istore_n (lv' := [(3, .int (nI 0)), (2, .int (nI ((S.1 t).2.2))), (0, .ref (ad (3 * i))), (1, .ref (ad (3 * t)))]) hx hb dX2_becomeCopyOf_6 rfl hl (by decide) rfl (fun ls hl => ?_)
  have loop7 : ∀ (fuel : Nat) (a : Nat) (ha : a ≤ (S.1 t).2.2) (H : Heap) (locs : List Loc), (S.1 t).2.2 - a < fuel → WX dC dI ad (xR S i (ovl (S.1 t).1 (S.1 i).1 a, ovl (S.1 t).2.1 (S.1 i).2.1 a, (S.1 i).2.2)) (AX ad) s H locs → ∀ ls : Array Slot, lv_has ls 4 [(0, .ref (ad (3 * i))), (1, .ref (ad (3 * t))), (2, .int (nI ((S.1 t).2.2))), (3, .int (nI a))] → W p l e ({ frames := 1, cells := 0, slots := 0, locals := 23 } : Room) s m ([.ref (ad (3 * i)), .ref (ad (3 * t))]).toArray below meth c H locs 0 0 (MQ below (va_Qv (fun S' => S' = xR S i (ovl (S.1 t).1 (S.1 i).1 (S.1 t).2.2, ovl (S.1 t).2.1 (S.1 i).2.1 (S.1 t).2.2, (S.1 t).2.2)) (PX dC dI ad) (AX ad)) ([.ref (ad (3 * i)), .ref (ad (3 * t))]).toArray s 0 0 (AX ad)) (F0 m 7 ls []) := by
    intro fuel
    induction fuel with
    | zero => intro a ha H locs hf; exact absurd hf (Nat.not_lt_zero _)
    | succ fuel ih7 =>
      intro a ha H locs hf hX ls hl
      refine lv_iload_n hx hb dX2_becomeCopyOf_7 rfl (lv_at hl 3 rfl) ?_
      refine lv_iload_n hx hb dX2_becomeCopyOf_8 rfl (lv_at hl 2 rfl) ?_
      refine kn_icmp_ge (tgt := 33) hx hb (by omega) (by omega) dX2_becomeCopyOf_9 (by decide) (fun c1 => ?_) (fun c1 => ?_)
      · skip
        refine lv_aload_n hx hb dX2_becomeCopyOf_33 rfl (lv_at hl 0 rfl) ?_
        refine lv_iload_n hx hb dX2_becomeCopyOf_34 rfl (lv_at hl 2 rfl) ?_
        refine kr_pn (S' := (xR S i (ovl (S.1 t).1 (S.1 i).1 a, ovl (S.1 t).2.1 (S.1 i).2.1 a, (S.1 t).2.2))) hx hb hts hin2 hown hX hi (by rw [xR_row, xR_xR]) (hts (.fieldLink RX2 18 "Orderlattice$Row" "many" "I") (tm 27 (by decide +kernel) rfl)) dX2_becomeCopyOf_35 (fun H locs hX => ?_)
        exact W.vret hx hb hr (fun t9 ht9 hW9 => ⟨⟨(xR S i (ovl (S.1 t).1 (S.1 i).1 a, ovl (S.1 t).2.1 (S.1 i).2.1 a, (S.1 t).2.2)), rfl, (by rw [show a = (S.1 t).2.2 by omega]), hX.P ht9 hW9⟩, hX.2.2.2.F ht9⟩) hX.2.2.2.2.2 dX2_becomeCopyOf_38
      · skip
        refine lv_aload_n hx hb dX2_becomeCopyOf_12 rfl (lv_at hl 0 rfl) ?_
        refine lv_iload_n hx hb dX2_becomeCopyOf_13 rfl (lv_at hl 3 rfl) ?_
        refine lv_aload_n hx hb dX2_becomeCopyOf_14 rfl (lv_at hl 1 rfl) ?_
        refine lv_iload_n hx hb dX2_becomeCopyOf_15 rfl (lv_at hl 3 rfl) ?_
        refine kx_cr (v := nI ((S.1 t).1 a)) (va_runV (As := [.int (nI a)]) (rest := [.int (nI a), .ref (ad (3 * i))]) ⟨hx, hb, hml, hown, hts⟩ (m_X2_valueOn l dC dI ad (xR S i (ovl (S.1 t).1 (S.1 i).1 a, ovl (S.1 t).2.1 (S.1 i).2.1 a, (S.1 i).2.2)) t a ht (by omega)) (cwV 1 hts gX2_becomeCopyOf_X2_valueOn rfl rfl rfl hdX2_valueOn_1 ⟨Nat.le_of_ble_eq_true rfl, Nat.le_of_ble_eq_true rfl⟩) (hX.preRow ht) rfl rfl hl.1 rfl (lv_room (Nat.le_of_ble_eq_true rfl)) dX2_becomeCopyOf_16 ⟨Nat.le_of_ble_eq_true rfl, Nat.le_of_ble_eq_true rfl⟩) (fun _ h => by rw [h, ovl_src1 S i t a]) ?_
        refine lv_aload_n hx hb dX2_becomeCopyOf_19 rfl (lv_at hl 1 rfl) ?_
        refine lv_iload_n hx hb dX2_becomeCopyOf_20 rfl (lv_at hl 3 rfl) ?_
        refine kx_cr (v := nI ((S.1 t).2.1 a)) (va_runV (As := [.int (nI a)]) (rest := [.int (nI ((S.1 t).1 a)), .int (nI a), .ref (ad (3 * i))]) ⟨hx, hb, hml, hown, hts⟩ (m_X2_markOn l dC dI ad (xR S i (ovl (S.1 t).1 (S.1 i).1 a, ovl (S.1 t).2.1 (S.1 i).2.1 a, (S.1 i).2.2)) t a ht (by omega)) (cwV 1 hts gX2_becomeCopyOf_X2_markOn rfl rfl rfl hdX2_markOn_1 ⟨Nat.le_of_ble_eq_true rfl, Nat.le_of_ble_eq_true rfl⟩) (hX.preRow ht) rfl rfl hl.1 rfl (lv_room (Nat.le_of_ble_eq_true rfl)) dX2_becomeCopyOf_21 ⟨Nat.le_of_ble_eq_true rfl, Nat.le_of_ble_eq_true rfl⟩) (fun _ h => by rw [h, ovl_src2 S i t a]) ?_
        refine kx_cv (va_runV (As := [.int (nI a), .int (nI ((S.1 t).1 a)), .int (nI ((S.1 t).2.1 a))]) (rest := []) ⟨hx, hb, hml, hown, hts⟩ (m_X2_replace l dC dI ad (xR S i (ovl (S.1 t).1 (S.1 i).1 a, ovl (S.1 t).2.1 (S.1 i).2.1 a, (S.1 i).2.2)) i a ((S.1 t).1 a) ((S.1 t).2.1 a) hi (by omega)) (cwV 3 hts gX2_becomeCopyOf_X2_replace rfl rfl rfl hdX2_replace_3 ⟨Nat.le_of_ble_eq_true rfl, Nat.le_of_ble_eq_true rfl⟩) (hX.preRow hi) rfl rfl hl.1 rfl (lv_room (Nat.le_of_ble_eq_true rfl)) dX2_becomeCopyOf_24 ⟨Nat.le_of_ble_eq_true rfl, Nat.le_of_ble_eq_true rfl⟩) hX (fun _ h => h) (fun S_ H locs hw hX => ?_)
        rw [xR_row, xR_xR] at hw
        dsimp only at hw
        rw [ovl_up, ovl_up] at hw
        subst hw
        refine lv_iinc (v := nI (a + 1)) (lv' := [(3, .int (nI (a + 1))), (0, .ref (ad (3 * i))), (1, .ref (ad (3 * t))), (2, .int (nI ((S.1 t).2.2)))]) hx hb dX2_becomeCopyOf_27 hl (k := 3) rfl (nI_1 a) (by decide) rfl (fun ls hl => ?_)
        refine lv_goto (tgt := 7) hx hb dX2_becomeCopyOf_30 (by decide) ?_
        exact ih7  (a + 1) (by omega) _ _ (by omega) hX _ (lv_sub hl [1, 2, 3, 0] rfl)
  exact loop7 ((S.1 t).2.2 - 0 + 1) 0 (by omega) _ _ (by omega) (WX.eqS (by rw [ovl_0, ovl_0]; exact (xR_self S i).symm) hX) _ (lv_sub hl [2, 3, 1, 0] rfl)
set_option maxHeartbeats 4000000 in
set_option maxRecDepth 100000 in
theorem m_X2_becomeAllValues (l : Launch) (dC : Nat → ClassId) (dI : Nat → Nat → Nat) (ad : Nat → Nat) (S : XS) (i : Nat) (hi : i < 8) : Met l yX2_becomeAllValues wsX2_becomeAllValues ({ frames := 1, cells := 0, slots := 0, locals := 22 } : Room) (va_Pc [.ref (ad (3 * i))] (PX dC dI ad S)) (va_Qv (fun S' => S' = xR S i (ovl (fun k => k) (S.1 i).1 16, ovl (fun k => k) (S.1 i).2.1 16, 16)) (PX dC dI ad) (AX ad)) 0 0 (AX ad) := by
  refine Met.ofW (cc := cX2_becomeAllValues) (maxL := 2) (ret := none) pl_X2 rfl ?_
  intro p e s m args below meth c s₁ B hml hv
  obtain ⟨rfl, hPX⟩ := hv
  have hx := B.exec
  have hb := B.bytes
  have hr := B.returns
  have hts := atoms_spec (ws := wsX2_becomeAllValues) B.pre
  have hown : s.vm.findClass RX2 = some m.cls := findClass_of_methodNamed B.named
  have hlocks := B.notSynchronized
  have hin2 : ∀ w ∈ u_ws RX2 TX2 3, w ∈ wsX2_becomeAllValues := tu 1322 (by decide +kernel) rfl
  have hX := WX.of hPX
  have hl := lv_entry ([.ref (ad (3 * i))]) (n := 2) (Nat.le_of_ble_eq_true rfl)
  rw [lg_entry_eq]
  generalize (lg_sl ([.ref (ad (3 * i))]) ++ List.replicate (2 - (lg_sl ([.ref (ad (3 * i))])).length) Slot.unset).toArray = ls at hl ⊢
  have hl : lv_has ls 2 [(0, .ref (ad (3 * i)))] := hl
  show W p l e ({ frames := 1, cells := 0, slots := 0, locals := 22 } : Room) s m ([.ref (ad (3 * i))]).toArray below meth c s.heap [] 0 0 (MQ below (va_Qv (fun S' => S' = xR S i (ovl (fun k => k) (S.1 i).1 16, ovl (fun k => k) (S.1 i).2.1 16, 16)) (PX dC dI ad) (AX ad)) ([.ref (ad (3 * i))]).toArray s 0 0 (AX ad)) (F0 m 0 ls [])
  refine lv_aload_n hx hb dX2_becomeAllValues_0 rfl (lv_at hl 0 rfl) ?_
  refine lv_iconst (v := nI 0) hx hb dX2_becomeAllValues_1 (by decide) ?_
  refine kr_pn (S' := (xR S i ((S.1 i).1, (S.1 i).2.1, 0))) hx hb hts hin2 hown hX hi rfl (hts (.fieldLink RX2 18 "Orderlattice$Row" "many" "I") (tm 27 (by decide +kernel) rfl)) dX2_becomeAllValues_2 (fun H locs hX => ?_)
  refine lv_iconst (v := nI 0) hx hb dX2_becomeAllValues_5 (by decide) ?_
  refine lv_istore_n (lv' := [(1, .int (nI 0)), (0, .ref (ad (3 * i)))]) hx hb dX2_becomeAllValues_6 rfl hl (by decide) rfl (fun ls hl => ?_)
  have loop7 : ∀ (fuel : Nat) (a : Nat) (ha : a ≤ 16) (H : Heap) (locs : List Loc), 16 - a < fuel → WX dC dI ad (xR S i (ovl (fun k => k) (S.1 i).1 a, ovl (fun k => k) (S.1 i).2.1 a, a)) (AX ad) s H locs → ∀ ls : Array Slot, lv_has ls 2 [(0, .ref (ad (3 * i))), (1, .int (nI a))] → W p l e ({ frames := 1, cells := 0, slots := 0, locals := 22 } : Room) s m ([.ref (ad (3 * i))]).toArray below meth c H locs 0 0 (MQ below (va_Qv (fun S' => S' = xR S i (ovl (fun k => k) (S.1 i).1 16, ovl (fun k => k) (S.1 i).2.1 16, 16)) (PX dC dI ad) (AX ad)) ([.ref (ad (3 * i))]).toArray s 0 0 (AX ad)) (F0 m 7 ls []) := by
    intro fuel
    induction fuel with
    | zero => intro a ha H locs hf; exact absurd hf (Nat.not_lt_zero _)
    | succ fuel ih7 =>
      intro a ha H locs hf hX ls hl
      refine lv_iload_n hx hb dX2_becomeAllValues_7 rfl (lv_at hl 1 rfl) ?_
      refine lv_bipush (v := nI 16) hx hb dX2_becomeAllValues_8 (by decide) ?_
      refine kn_icmp_ge (tgt := 25) hx hb (by omega) (by omega) dX2_becomeAllValues_10 (by decide) (fun c1 => ?_) (fun c1 => ?_)
      · skip
        exact W.vret hx hb hr (fun t9 ht9 hW9 => ⟨⟨(xR S i (ovl (fun k => k) (S.1 i).1 a, ovl (fun k => k) (S.1 i).2.1 a, a)), rfl, (by rw [show a = 16 by omega]), hX.P ht9 hW9⟩, hX.2.2.2.F ht9⟩) hX.2.2.2.2.2 dX2_becomeAllValues_25
      · skip
        refine lv_aload_n hx hb dX2_becomeAllValues_13 rfl (lv_at hl 0 rfl) ?_
        refine lv_iload_n hx hb dX2_becomeAllValues_14 rfl (lv_at hl 1 rfl) ?_
        refine lv_iload_n hx hb dX2_becomeAllValues_15 rfl (lv_at hl 1 rfl) ?_
        refine kx_cv (va_runV (As := [.int (nI a), .int (nI a)]) (rest := []) ⟨hx, hb, hml, hown, hts⟩ (m_X2_append l dC dI ad (xR S i (ovl (fun k => k) (S.1 i).1 a, ovl (fun k => k) (S.1 i).2.1 a, a)) i a a hi (by rw [xR_row]; omega)) (cwV 2 hts gX2_becomeAllValues_X2_append rfl rfl rfl hdX2_append_2 ⟨Nat.le_of_ble_eq_true rfl, Nat.le_of_ble_eq_true rfl⟩) (hX.preRow hi) rfl rfl hl.1 rfl (lv_room (Nat.le_of_ble_eq_true rfl)) dX2_becomeAllValues_16 ⟨Nat.le_of_ble_eq_true rfl, Nat.le_of_ble_eq_true rfl⟩) hX (fun _ h => h) (fun S_ H locs hw hX => ?_)
        rw [xR_row, xR_xR] at hw
        dsimp only at hw
        rw [ovl_up (fun k => k), ovl_up (fun k => k)] at hw
        subst hw
        refine lv_iinc (v := nI (a + 1)) (lv' := [(1, .int (nI (a + 1))), (0, .ref (ad (3 * i)))]) hx hb dX2_becomeAllValues_19 hl (k := 1) rfl (nI_1 a) (by decide) rfl (fun ls hl => ?_)
        refine lv_goto (tgt := 7) hx hb dX2_becomeAllValues_22 (by decide) ?_
        exact ih7  (a + 1) (by omega) _ _ (by omega) hX _ (lv_sub hl [1, 0] rfl)
  exact loop7 (16 - 0 + 1) 0 (by omega) _ _ (by omega) (WX.eqS (by rw [ovl_0, ovl_0]) hX) _ (lv_sub hl [1, 0] rfl)
