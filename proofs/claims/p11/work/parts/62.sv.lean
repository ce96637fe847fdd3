/-! strings: what is known of one that nobody writes -/
def SV (A : Nat → Prop) (q n : Nat) (U : State) (H : Heap) : Prop := va_O RJ0 q A U H ∧ va_OF RJ0 "coder" "B" (.int (nI 0)) q A U H ∧ ∃ (t : Nat) (g : Nat → Int32), va_OF RJ0 "value" "[B" (.ref t) q A U H ∧ va_T .byte t n (fun j => .int (g j)) A U H ∧ ∀ j, j < n → fits .byte (.int (g j)) = true
theorem SV.kept {A : Nat → Prop} {q n : Nat} {U : State} {H H1 : Heap} (h : SV A q n U H) (hq : ∀ a : Nat, a < H.size → ¬ A a → H1[a]? = H[a]?) : SV A q n U H1 := by
  obtain ⟨h1, h2, t, g, h3, h4, h5⟩ := h
  exact ⟨h1.kept hq, h2.kept hq, t, g, h3.kept hq, h4.kept hq, h5⟩
theorem SV.moved {A : Nat → Prop} {q n : Nat} {u U : State} {H : Heap} (hvm : u.vm.Alike U.vm) (h : SV A q n u H) : SV A q n U H := by
  obtain ⟨h1, h2, t, g, h3, h4, h5⟩ := h
  exact ⟨h1.moved hvm, h2.moved hvm, t, g, h3.moved hvm, h4.moved hvm, h5⟩
theorem SV.narrow {A B : Nat → Prop} {q n : Nat} {U : State} {H : Heap} (h : SV A q n U H) (hAB : ∀ q, B q → A q) : SV B q n U H := by
  obtain ⟨h1, h2, t, g, h3, h4, h5⟩ := h
  exact ⟨h1.narrow hAB, h2.narrow hAB, t, g, h3.narrow hAB, h4.narrow hAB, h5⟩
def PV (dC : Nat → ClassId) (dI : Nat → Nat → Nat) (cB : ClassId) (z : Nat) (W : va_W) (q n : Nat) (U : State) : Prop := PB dC dI cB z W U ∧ SV (zB z) q n U U.heap
section KV
variable {dC : Nat → ClassId} {dI : Nat → Nat → Nat} {cB : ClassId} {z q n : Nat} {W : va_W} {s : State} {H : Heap} {locs : List Loc}
theorem PV.call {U : State} {g : JFrame} {mk : MethodId} {a : Array Value} (h : PV dC dI cB z W q n U) : PV dC dI cB z W q n (U.calling g mk a) := ⟨h.1.call, h.2.moved (u := U) (U := U.calling g mk a) (Vm.Alike.refl U.vm)⟩
theorem PV.blind {av : List Value} : FrameBlind (va_Pc av (PV dC dI cB z W q n)) := fun _ _ _ _ h => ⟨h.1, h.2.call⟩
theorem WB.V {U : State} (h : WB dC dI cB z W s H locs) (hV : SV (zB z) q n s s.heap) (hU : U.heap = H) (hW : s.WarmedH U.vm) : SV (zB z) q n U U.heap := by
  rw [hU]
  exact (hV.kept h.2.2.2.1.2.1).moved hW.alike
theorem WB.preQ {As : List Value} (h : WB dC dI cB z W s H locs) (hV : SV (zB z) q n s s.heap) : PreV s H RJ0 q (va_Pc (Value.ref q :: As) (PV dC dI cB z W q n)) As := by
  refine ⟨PV.blind, ?_, fun _ hU hW => ⟨rfl, h.P hU hW, h.V hV hU hW⟩⟩
  obtain ⟨cell, h1, h2, h3, -⟩ := hV.1.kept h.2.2.2.1.2.1
  exact ⟨cell, h1, h2, h3⟩
theorem WB.preVV {a : Nat} {fs : List Value} {ci : Nat} {r : vw_C} {As : List Value} (h : WB dC dI cB z W s H locs) (hV : SV (zB z) q n s s.heap) (hc : vwCl[ci]? = some r) (k : Nat) (he : W[k]? = some (a, .inr (ci, fs))) : PreV s H r.1 a (va_Pc (Value.ref a :: As) (PV dC dI cB z W q n)) As :=
  ⟨PV.blind, va_recv h.2.1 h.1 (ci := ci) (q0 := k) hc he, fun _ hU hW => ⟨rfl, h.P hU hW, h.V hV hU hW⟩⟩
end KV
theorem fit_cpT {g f : Nat → Int32} {i m : Nat} (hg : ∀ j, j < m → fits .byte (.int (g j)) = true) (hf : sb_Fit f) : sb_Fit (va_cpy g f 0 i m) := fun k => by
  unfold va_cpy
  by_cases h : i ≤ k ∧ k < i + m
  · rw [if_pos h]
    exact hg _ (by omega)
  · rw [if_neg h]
    exact hf k
section KV2
variable {p : Program} {l : Launch} {e : Env} {R : Room} {s : State} {m : MethodId} {args : Array Value} {below : List Frame} {meth : Method} {c : Code} {H : Heap} {locs : List Loc} {cells slots : Nat} {Q : State → Prop}
variable {cc : ByteArray} {pc : Nat} {ls : Array Slot} {rest st0 : List Value} {dC : Nat → ClassId} {dI : Nat → Nat → Nat} {cB : ClassId} {z : Nat} {G : va_W} {index : Nat} {own : String}
theorem ks_cpT (hx : p.tables.exec = Jvm.exec) (hb : c.code = cc) (hml : c.maxLocals = ls.size) (hown : s.vm.findClass own = some m.cls) (hlink : (Cond.methodLink own index arraycopyName).before args s = true) (hnat : (Cond.native arraycopyName).before args s = true) (hstat : (Cond.static arraycopyName).before args s = true) (hini : (Cond.initialized "java/lang/System").before args s = true)
    (hB : WB dC dI cB z G s H locs) {t0 n0 i a1 n1 : Nat} {g f : Nat → Int32} (hT : va_T .byte t0 n0 (fun j => .int (g j)) (zB z) s s.heap) (hg : ∀ j, j < n0 → fits .byte (.int (g j)) = true) (q1 : Nat) (ha1 : G[q1]? = some (a1, eBy cB n1 f)) (h5 : i + n0 ≤ n1) (hn : n1 ≤ 65536) (hframes : 1 ≤ R.frames) (hlocals : (rest.map fun v => v.category).sum + (nativeFrameWords "java/lang/System" "arraycopy" 5 + 11) ≤ R.locals) (hdg : decode cc pc = .ok (.invokestatic index, 3))
    (kk : ∀ (H1 : Heap) (locs1 : List Loc), WB dC dI cB z (G.set q1 (a1, eBy cB n1 (va_cpy g f 0 i n0))) s H1 locs1 → W p l e R s m args below meth c H1 locs1 cells slots Q (F0 m (pc + 3) ls rest)) : W p l e R s m args below meth c H locs cells slots Q (F0 m pc ls (.int (nI n0) :: .int (nI i) :: .ref a1 :: .int (nI 0) :: .ref t0 :: rest)) := by
  have e0 : (nI 0).toNatClampNeg = 0 := nI_clamp (by decide)
  have ei : (nI i).toNatClampNeg = i := nI_clamp (by omega)
  have en : (nI n0).toNatClampNeg = n0 := nI_clamp (by omega)
  refine vk_copyt hx hb hml hown hlink hnat hstat hini hB.2.1 hB.1 hB.2.2.1 hB.2.2.2.1 hT q1 0 ha1 rfl (nI_pos (by decide)) (nI_pos (by omega)) (nI_pos (by omega)) (by rw [e0, en]; omega) (by rw [ei, en]; omega) (fun k hk => by rw [e0]; rw [en] at hk; exact hg _ (by omega)) hframes hlocals hdg (fun H1 locs1 h1 h2 h3 => kk H1 locs1 ?_)
  rw [e0, ei, en] at h1 h2
  exact hB.to h1 h2 h3
end KV2
set_option maxHeartbeats 4000000 in
set_option maxRecDepth 100000 in
theorem m_J0_coder_7d493 (l : Launch) (dC : Nat → ClassId) (dI : Nat → Nat → Nat) (cB : ClassId) (z : Nat) (G : va_W) (q0 m0 : Nat) (hm0 : m0 ≤ 65536) : Met l yJ0_coder_7d493 wsJ0_coder_7d493 ({ frames := 0, cells := 0, slots := 0, locals := 0 } : Room) (va_Pc [.ref q0] (PV dC dI cB z G q0 m0)) (vp_Si (fun r => r = nI 0)) 0 0 (fun _ => False) := by
  refine ofWF (cc := cJ0_coder_7d493) (maxL := 1) (ret := (some .byte)) (by decide +kernel) rfl ?_
  intro p e s m args below meth c s₁ B hml hv
  obtain ⟨rfl, hPB, hV⟩ := hv
  obtain ⟨hV1, hV2, t9, g9, hV3, hV4, hV5⟩ := id hV
  have hx := B.exec
  have hb := B.bytes
  have hr := B.returns
  have hts := atoms_spec (ws := wsJ0_coder_7d493) B.pre
  have hown : s.vm.findClass RJ0 = some m.cls := findClass_of_methodNamed B.named
  have hlocks := B.notSynchronized
  have hB := WB.of hPB
  have hl := lv_entry ([.ref q0]) (n := 1) (Nat.le_of_ble_eq_true rfl)
  rw [lg_entry_eq]
  generalize (lg_sl ([.ref q0]) ++ List.replicate (1 - (lg_sl ([.ref q0])).length) Slot.unset).toArray = ls at hl ⊢
  have hl : lv_has ls 1 [(0, .ref q0)] := hl
  show W p l e ({ frames := 0, cells := 0, slots := 0, locals := 0 } : Room) s m ([.ref q0]).toArray below meth c s.heap [] 0 0 (MQ below (vp_Si (fun r => r = nI 0)) ([.ref q0]).toArray s 0 0 (fun _ => False)) (F0 m 0 ls [])
  refine va_gets hx hb hB.2.2.2.2.2.1 hB.2.2.2.1 hown (hts (.fieldLink RJ0 38 "java/lang/String" "COMPACT_STRINGS" "Z") (tm 387 (by decide +kernel) rfl)) (fun _ h => h) dJ0_coder_7d493_0 ?_
  refine kn_if_eq (tgt := 13) hx hb (by omega) dJ0_coder_7d493_3 (by decide) (fun k_1 => absurd k_1 (by omega)) (fun k_1 => ?_)
  refine lv_aload_n hx hb dJ0_coder_7d493_6 rfl (lv_at hl 0 rfl) ?_
  refine vk_getf hx hb hV2 hB.2.2.2.1 hown (hts (.fieldLink RJ0 15 "java/lang/String" "coder" "B") (tm 385 (by decide +kernel) rfl)) (fun _ h => h) dJ0_coder_7d493_7 ?_
  refine lv_goto (tgt := 14) hx hb dJ0_coder_7d493_10 (by decide) ?_
  exact W.zret (v := nI 0) hx hb hr rfl (fun t9 ht9 hW9 => ⟨_, rfl, rfl, ht9⟩) (fun _ h => nomatch h) dJ0_coder_7d493_14
set_option maxHeartbeats 4000000 in
set_option maxRecDepth 100000 in
theorem m_J0_length_8abf5 (l : Launch) (dC : Nat → ClassId) (dI : Nat → Nat → Nat) (cB : ClassId) (z : Nat) (G : va_W) (q0 m0 : Nat) (hm0 : m0 ≤ 65536) : Met l yJ0_length_8abf5 wsJ0_length_8abf5 ({ frames := 1, cells := 0, slots := 0, locals := 20 } : Room) (va_Pc [.ref q0] (PV dC dI cB z G q0 m0)) (vp_Si (fun r => r = nI m0)) 0 0 (fun _ => False) := by
  refine ofWF (cc := cJ0_length_8abf5) (maxL := 1) (ret := (some .int)) (by decide +kernel) rfl ?_
  intro p e s m args below meth c s₁ B hml hv
  obtain ⟨rfl, hPB, hV⟩ := hv
  obtain ⟨hV1, hV2, t9, g9, hV3, hV4, hV5⟩ := id hV
  have hx := B.exec
  have hb := B.bytes
  have hr := B.returns
  have hts := atoms_spec (ws := wsJ0_length_8abf5) B.pre
  have hown : s.vm.findClass RJ0 = some m.cls := findClass_of_methodNamed B.named
  have hlocks := B.notSynchronized
  have hB := WB.of hPB
  have hl := lv_entry ([.ref q0]) (n := 1) (Nat.le_of_ble_eq_true rfl)
  rw [lg_entry_eq]
  generalize (lg_sl ([.ref q0]) ++ List.replicate (1 - (lg_sl ([.ref q0])).length) Slot.unset).toArray = ls at hl ⊢
  have hl : lv_has ls 1 [(0, .ref q0)] := hl
  show W p l e ({ frames := 1, cells := 0, slots := 0, locals := 20 } : Room) s m ([.ref q0]).toArray below meth c s.heap [] 0 0 (MQ below (vp_Si (fun r => r = nI m0)) ([.ref q0]).toArray s 0 0 (fun _ => False)) (F0 m 0 ls [])
  refine lv_aload_n hx hb dJ0_length_8abf5_0 rfl (lv_at hl 0 rfl) ?_
  refine vk_getf hx hb hV3 hB.2.2.2.1 hown (hts (.fieldLink RJ0 9 "java/lang/String" "value" "[B") (tm 386 (by decide +kernel) rfl)) (fun _ h => h) dJ0_length_8abf5_1 ?_
  refine va_tlen hx hb hV4 hB.2.2.2.1 (v := nI m0) rfl dJ0_length_8abf5_4 ?_
  refine lv_aload_n hx hb dJ0_length_8abf5_5 rfl (lv_at hl 0 rfl) ?_
  refine kx_cr (v := nI 0) (va_runV (As := []) (rest := [.int (nI m0)]) ⟨hx, hb, hml, hown, hts⟩ (m_J0_coder_7d493 l dC dI cB z G q0 m0 hm0) (cwV 0 hts gJ0_length_8abf5_J0_coder_7d493 rfl rfl rfl hdJ0_coder_7d493_0 ⟨Nat.le_of_ble_eq_true rfl, Nat.le_of_ble_eq_true rfl⟩) (hB.preQ hV) rfl rfl hl.1 rfl (lv_room (Nat.le_of_ble_eq_true rfl)) dJ0_length_8abf5_6 ⟨Nat.le_of_ble_eq_true rfl, Nat.le_of_ble_eq_true rfl⟩) (fun _ h => h) ?_
  refine lv_ishr hx hb dJ0_length_8abf5_9 ?_
  rw [show (nI m0) >>> ((nI 0) &&& 31) = nI m0 from sb_shr0 _]
  exact W.iret (v := nI m0) hx hb hr (fun t9 ht9 hW9 => ⟨_, rfl, rfl, ht9⟩) (fun _ h => nomatch h) dJ0_length_8abf5_10
set_option maxHeartbeats 4000000 in
set_option maxRecDepth 100000 in
theorem m_J0_isEmpty_aae02 (l : Launch) (dC : Nat → ClassId) (dI : Nat → Nat → Nat) (cB : ClassId) (z : Nat) (G : va_W) (q0 m0 : Nat) (hm0 : m0 ≤ 65536) : Met l yJ0_isEmpty_aae02 wsJ0_isEmpty_aae02 ({ frames := 0, cells := 0, slots := 0, locals := 0 } : Room) (va_Pc [.ref q0] (PV dC dI cB z G q0 m0)) (vp_Si (fun r => r = bI (decide (m0 = 0)))) 0 0 (fun _ => False) := by
  refine ofWF (cc := cJ0_isEmpty_aae02) (maxL := 1) (ret := (some .boolean)) (by decide +kernel) rfl ?_
  intro p e s m args below meth c s₁ B hml hv
  obtain ⟨rfl, hPB, hV⟩ := hv
  obtain ⟨hV1, hV2, t9, g9, hV3, hV4, hV5⟩ := id hV
  have hx := B.exec
  have hb := B.bytes
  have hr := B.returns
  have hts := atoms_spec (ws := wsJ0_isEmpty_aae02) B.pre
  have hown : s.vm.findClass RJ0 = some m.cls := findClass_of_methodNamed B.named
  have hlocks := B.notSynchronized
  have hB := WB.of hPB
  have hl := lv_entry ([.ref q0]) (n := 1) (Nat.le_of_ble_eq_true rfl)
  rw [lg_entry_eq]
  generalize (lg_sl ([.ref q0]) ++ List.replicate (1 - (lg_sl ([.ref q0])).length) Slot.unset).toArray = ls at hl ⊢
  have hl : lv_has ls 1 [(0, .ref q0)] := hl
  show W p l e ({ frames := 0, cells := 0, slots := 0, locals := 0 } : Room) s m ([.ref q0]).toArray below meth c s.heap [] 0 0 (MQ below (vp_Si (fun r => r = bI (decide (m0 = 0)))) ([.ref q0]).toArray s 0 0 (fun _ => False)) (F0 m 0 ls [])
  refine lv_aload_n hx hb dJ0_isEmpty_aae02_0 rfl (lv_at hl 0 rfl) ?_
  refine vk_getf hx hb hV3 hB.2.2.2.1 hown (hts (.fieldLink RJ0 9 "java/lang/String" "value" "[B") (tm 386 (by decide +kernel) rfl)) (fun _ h => h) dJ0_isEmpty_aae02_1 ?_
  refine va_tlen hx hb hV4 hB.2.2.2.1 (v := nI m0) rfl dJ0_isEmpty_aae02_4 ?_
  refine kn_if_ne (tgt := 12) hx hb (by omega) dJ0_isEmpty_aae02_5 (by decide) (fun k_1 => ?_) (fun k_1 => ?_)
  · skip
    have h5 := k_1
    refine lv_iconst (v := nI 0) hx hb dJ0_isEmpty_aae02_12 (by decide) ?_
    exact W.zret (v := bI false) hx hb hr (bI_narrow _) (fun t9 ht9 hW9 => ⟨_, rfl, (kd_f h5), ht9⟩) (fun _ h => nomatch h) dJ0_isEmpty_aae02_13
  · skip
    have h5 := k_1
    refine lv_iconst (v := nI 1) hx hb dJ0_isEmpty_aae02_8 (by decide) ?_
    refine lv_goto (tgt := 13) hx hb dJ0_isEmpty_aae02_9 (by decide) ?_
    exact W.zret (v := bI true) hx hb hr (bI_narrow _) (fun t9 ht9 hW9 => ⟨_, rfl, (kd_t h5), ht9⟩) (fun _ h => nomatch h) dJ0_isEmpty_aae02_13
set_option maxHeartbeats 4000000 in
set_option maxRecDepth 100000 in
theorem m_J5_inflateIfNeededFor_a7421 (l : Launch) (dC : Nat → ClassId) (dI : Nat → Nat → Nat) (cB : ClassId) (z : Nat) (a b n cp : Nat) (f : Nat → Int32) (q0 m0 : Nat) (hm0 : m0 ≤ 65536) : Met l yJ5_inflateIfNeededFor_a7421 wsJ5_inflateIfNeededFor_a7421 ({ frames := 1, cells := 0, slots := 0, locals := 20 } : Room) (va_Pc [.ref a, .ref q0] (PV dC dI cB z [(a, eSB b n), (b, eBy cB cp f)] q0 m0)) (va_Sv (fun _ => True)) 0 0 (fun _ => False) := by
  refine ofWF (cc := cJ5_inflateIfNeededFor_a7421) (maxL := 2) (ret := none) (by decide +kernel) rfl ?_
  intro p e s m args below meth c s₁ B hml hv
  obtain ⟨rfl, hPB, hV⟩ := hv
  obtain ⟨hV1, hV2, t9, g9, hV3, hV4, hV5⟩ := id hV
  have hx := B.exec
  have hb := B.bytes
  have hr := B.returns
  have hts := atoms_spec (ws := wsJ5_inflateIfNeededFor_a7421) B.pre
  have hown : s.vm.findClass RJ5 = some m.cls := findClass_of_methodNamed B.named
  have hlocks := B.notSynchronized
  have hinJ4 : ∀ w ∈ u_ws RJ4 TJ4 4, w ∈ wsJ5_inflateIfNeededFor_a7421 := tu 1326 (by decide +kernel) rfl
  have hB := WB.of hPB
  have hl := lv_entry ([.ref a, .ref q0]) (n := 2) (Nat.le_of_ble_eq_true rfl)
  rw [lg_entry_eq]
  generalize (lg_sl ([.ref a, .ref q0]) ++ List.replicate (2 - (lg_sl ([.ref a, .ref q0])).length) Slot.unset).toArray = ls at hl ⊢
  have hl : lv_has ls 2 [(0, .ref a), (1, .ref q0)] := hl
  show W p l e ({ frames := 1, cells := 0, slots := 0, locals := 20 } : Room) s m ([.ref a, .ref q0]).toArray below meth c s.heap [] 0 0 (MQ below (va_Sv (fun _ => True)) ([.ref a, .ref q0]).toArray s 0 0 (fun _ => False)) (F0 m 0 ls [])
  refine va_gets hx hb hB.2.2.2.2.2.1 hB.2.2.2.1 hown (hts (.fieldLink RJ5 18 "java/lang/String" "COMPACT_STRINGS" "Z") (tm 283 (by decide +kernel) rfl)) (fun _ h => h) dJ5_inflateIfNeededFor_a7421_0 ?_
  refine kn_if_eq (tgt := 21) hx hb (by omega) dJ5_inflateIfNeededFor_a7421_3 (by decide) (fun k_1 => absurd k_1 (by omega)) (fun k_1 => ?_)
  refine lv_aload_n hx hb dJ5_inflateIfNeededFor_a7421_6 rfl (lv_at hl 0 rfl) ?_
  refine va_get (D := (dC, dI)) (ci := 1) (C := RJ4) (T := TJ4) (N := 4) (fs := [.ref b, .int (nI 0), .int (nI 0), .int (nI n)]) hx hb hts hinJ4 hown hB.2.1 hB.1 0 rfl rfl 1 (by decide) (hts (.fieldLink RJ5 22 "java/lang/AbstractStringBuilder" "coder" "B") (tm 217 (by decide +kernel) rfl)) (fun _ h => h) rfl dJ5_inflateIfNeededFor_a7421_7 ?_
  refine lv_aload_n hx hb dJ5_inflateIfNeededFor_a7421_10 rfl (lv_at hl 1 rfl) ?_
  refine kx_cr (v := nI 0) (va_runV (As := []) (rest := [.int (nI 0)]) ⟨hx, hb, hml, hown, hts⟩ (m_J0_coder_7d493 l dC dI cB z ([(a, eSB b n), (b, eBy cB cp f)]) q0 m0 hm0) (cwV 0 hts gJ5_inflateIfNeededFor_a7421_J0_coder_7d493 rfl rfl rfl hdJ0_coder_7d493_0 ⟨Nat.le_of_ble_eq_true rfl, Nat.le_of_ble_eq_true rfl⟩) (hB.preQ hV) rfl rfl hl.1 rfl (lv_room (Nat.le_of_ble_eq_true rfl)) dJ5_inflateIfNeededFor_a7421_11 ⟨Nat.le_of_ble_eq_true rfl, Nat.le_of_ble_eq_true rfl⟩) (fun _ h => h) ?_
  refine kn_icmp_eq (tgt := 21) hx hb (by omega) (by omega) dJ5_inflateIfNeededFor_a7421_14 (by decide) (fun k_2 => ?_) (fun k_2 => absurd k_2 (by omega))
  exact W.vret hx hb hr (fun t9 ht9 hW9 => ⟨rfl, trivial, ht9⟩) (fun _ h => nomatch h) dJ5_inflateIfNeededFor_a7421_21
set_option maxHeartbeats 4000000 in
set_option maxRecDepth 100000 in
theorem m_J0_getBytes_840e7 (l : Launch) (dC : Nat → ClassId) (dI : Nat → Nat → Nat) (cB : ClassId) (z : Nat) (a b n cp : Nat) (f : Nat → Int32) (q0 m0 : Nat) (hm0 : m0 ≤ 65536) (i : Nat) (hi9 : i + m0 ≤ cp) (hm : cp ≤ 65536) (hf : sb_Fit f) : Met l yJ0_getBytes_840e7 wsJ0_getBytes_840e7 ({ frames := 1, cells := 0, slots := 0, locals := 40 } : Room) (va_Pc [.ref q0, .ref b, .int (nI i), .int (nI 0)] (PV dC dI cB z [(a, eSB b n), (b, eBy cB cp f)] q0 m0)) (va_Qv (fun u : Nat → Int32 => sb_Fit u) (fun u t => PB dC dI cB z [(a, eSB b n), (b, eBy cB cp u)] t) (zB z)) 0 0 (zB z) := by
  refine ofWF (cc := cJ0_getBytes_840e7) (maxL := 4) (ret := none) (by decide +kernel) rfl ?_
  intro p e s m args below meth c s₁ B hml hv
  obtain ⟨rfl, hPB, hV⟩ := hv
  obtain ⟨hV1, hV2, t9, g9, hV3, hV4, hV5⟩ := id hV
  have hx := B.exec
  have hb := B.bytes
  have hr := B.returns
  have hts := atoms_spec (ws := wsJ0_getBytes_840e7) B.pre
  have hown : s.vm.findClass RJ0 = some m.cls := findClass_of_methodNamed B.named
  have hlocks := B.notSynchronized
  have hB := WB.of hPB
  have hl := lv_entry ([.ref q0, .ref b, .int (nI i), .int (nI 0)]) (n := 4) (Nat.le_of_ble_eq_true rfl)
  rw [lg_entry_eq]
  generalize (lg_sl ([.ref q0, .ref b, .int (nI i), .int (nI 0)]) ++ List.replicate (4 - (lg_sl ([.ref q0, .ref b, .int (nI i), .int (nI 0)])).length) Slot.unset).toArray = ls at hl ⊢
  have hl : lv_has ls 4 [(0, .ref q0), (1, .ref b), (2, .int (nI i)), (3, .int (nI 0))] := hl
  show W p l e ({ frames := 1, cells := 0, slots := 0, locals := 40 } : Room) s m ([.ref q0, .ref b, .int (nI i), .int (nI 0)]).toArray below meth c s.heap [] 0 0 (MQ below (va_Qv (fun u : Nat → Int32 => sb_Fit u) (fun u t => PB dC dI cB z [(a, eSB b n), (b, eBy cB cp u)] t) (zB z)) ([.ref q0, .ref b, .int (nI i), .int (nI 0)]).toArray s 0 0 (zB z)) (F0 m 0 ls [])
  refine lv_aload_n hx hb dJ0_getBytes_840e7_0 rfl (lv_at hl 0 rfl) ?_
  refine kx_cr (v := nI 0) (va_runV (As := []) (rest := []) ⟨hx, hb, hml, hown, hts⟩ (m_J0_coder_7d493 l dC dI cB z ([(a, eSB b n), (b, eBy cB cp f)]) q0 m0 hm0) (cwV 0 hts gJ0_getBytes_840e7_J0_coder_7d493 rfl rfl rfl hdJ0_coder_7d493_0 ⟨Nat.le_of_ble_eq_true rfl, Nat.le_of_ble_eq_true rfl⟩) (hB.preQ hV) rfl rfl hl.1 rfl (lv_room (Nat.le_of_ble_eq_true rfl)) dJ0_getBytes_840e7_1 ⟨Nat.le_of_ble_eq_true rfl, Nat.le_of_ble_eq_true rfl⟩) (fun _ h => h) ?_
  refine lv_iload_n hx hb dJ0_getBytes_840e7_4 rfl (lv_at hl 3 rfl) ?_
  refine kn_icmp_ne (tgt := 28) hx hb (by omega) (by omega) dJ0_getBytes_840e7_5 (by decide) (fun k_1 => absurd k_1 (by omega)) (fun k_1 => ?_)
  refine lv_aload_n hx hb dJ0_getBytes_840e7_8 rfl (lv_at hl 0 rfl) ?_
  refine vk_getf hx hb hV3 hB.2.2.2.1 hown (hts (.fieldLink RJ0 9 "java/lang/String" "value" "[B") (tm 386 (by decide +kernel) rfl)) (fun _ h => h) dJ0_getBytes_840e7_9 ?_
  refine lv_iconst (v := nI 0) hx hb dJ0_getBytes_840e7_12 (by decide) ?_
  refine lv_aload_n hx hb dJ0_getBytes_840e7_13 rfl (lv_at hl 1 rfl) ?_
  refine lv_iload_n hx hb dJ0_getBytes_840e7_14 rfl (lv_at hl 2 rfl) ?_
  refine lv_iload_n hx hb dJ0_getBytes_840e7_15 rfl (lv_at hl 3 rfl) ?_
  refine lv_ishl hx hb dJ0_getBytes_840e7_16 ?_
  rw [show (nI i) <<< ((nI 0) &&& 31) = nI i from sb_shl0 _]
  refine lv_aload_n hx hb dJ0_getBytes_840e7_17 rfl (lv_at hl 0 rfl) ?_
  refine vk_getf hx hb hV3 hB.2.2.2.1 hown (hts (.fieldLink RJ0 9 "java/lang/String" "value" "[B") (tm 386 (by decide +kernel) rfl)) (fun _ h => h) dJ0_getBytes_840e7_18 ?_
  refine va_tlen hx hb hV4 hB.2.2.2.1 (v := nI m0) rfl dJ0_getBytes_840e7_21 ?_
  refine ks_cpT hx hb (by rw [hml]; exact hl.1.symm) hown (hts (.methodLink RJ0 212 arraycopyName) (tm 745 (by decide +kernel) rfl)) (hts (.native arraycopyName) (tm 249 (by decide +kernel) rfl)) (hts (.static arraycopyName) (tm 250 (by decide +kernel) rfl)) (hts (.initialized "java/lang/System") (tm 251 (by decide +kernel) rfl)) hB hV4 hV5 1 (f := f) rfl (by omega) (by omega) (Nat.le_of_ble_eq_true rfl) (Nat.le_of_ble_eq_true rfl) dJ0_getBytes_840e7_22 (fun H locs hB => ?_)
  have hf : sb_Fit (va_cpy g9 f 0 i m0) := fit_cpT hV5 hf
  replace hB : WB dC dI cB z [(a, eSB b n), (b, eBy cB cp (va_cpy g9 f 0 i m0))] s H locs := hB
  refine lv_goto (tgt := 43) hx hb dJ0_getBytes_840e7_25 (by decide) ?_
  exact W.widen (k := 0) (n := 0) (Nat.le_refl _) (Nat.le_refl _) (W.vret hx hb hr (fun t9 ht9 hW9 => ⟨⟨(va_cpy g9 f 0 i m0), rfl, hf, hB.P ht9 hW9⟩, hB.F ht9⟩) hB.L dJ0_getBytes_840e7_43)
set_option maxHeartbeats 4000000 in
set_option maxRecDepth 100000 in
theorem m_J5_putStringAt_47b60 (l : Launch) (dC : Nat → ClassId) (dI : Nat → Nat → Nat) (cB : ClassId) (z : Nat) (a b n cp : Nat) (f : Nat → Int32) (q0 m0 : Nat) (hm0 : m0 ≤ 65536) (i : Nat) (hi9 : i + m0 ≤ cp) (hm : cp ≤ 65536) (hf : sb_Fit f) : Met l yJ5_putStringAt_47b60 wsJ5_putStringAt_47b60 ({ frames := 2, cells := 0, slots := 0, locals := 63 } : Room) (va_Pc [.ref a, .int (nI i), .ref q0] (PV dC dI cB z [(a, eSB b n), (b, eBy cB cp f)] q0 m0)) (va_Qv (fun u : Nat → Int32 => sb_Fit u) (fun u t => PB dC dI cB z [(a, eSB b n), (b, eBy cB cp u)] t) (zB z)) 0 0 (zB z) := by
  refine ofWF (cc := cJ5_putStringAt_47b60) (maxL := 3) (ret := none) (by decide +kernel) rfl ?_
  intro p e s m args below meth c s₁ B hml hv
  obtain ⟨rfl, hPB, hV⟩ := hv
  obtain ⟨hV1, hV2, t9, g9, hV3, hV4, hV5⟩ := id hV
  have hx := B.exec
  have hb := B.bytes
  have hr := B.returns
  have hts := atoms_spec (ws := wsJ5_putStringAt_47b60) B.pre
  have hown : s.vm.findClass RJ5 = some m.cls := findClass_of_methodNamed B.named
  have hlocks := B.notSynchronized
  have hinJ4 : ∀ w ∈ u_ws RJ4 TJ4 4, w ∈ wsJ5_putStringAt_47b60 := tu 1326 (by decide +kernel) rfl
  have hB := WB.of hPB
  have hl := lv_entry ([.ref a, .int (nI i), .ref q0]) (n := 3) (Nat.le_of_ble_eq_true rfl)
  rw [lg_entry_eq]
  generalize (lg_sl ([.ref a, .int (nI i), .ref q0]) ++ List.replicate (3 - (lg_sl ([.ref a, .int (nI i), .ref q0])).length) Slot.unset).toArray = ls at hl ⊢
  have hl : lv_has ls 3 [(0, .ref a), (1, .int (nI i)), (2, .ref q0)] := hl
  show W p l e ({ frames := 2, cells := 0, slots := 0, locals := 63 } : Room) s m ([.ref a, .int (nI i), .ref q0]).toArray below meth c s.heap [] 0 0 (MQ below (va_Qv (fun u : Nat → Int32 => sb_Fit u) (fun u t => PB dC dI cB z [(a, eSB b n), (b, eBy cB cp u)] t) (zB z)) ([.ref a, .int (nI i), .ref q0]).toArray s 0 0 (zB z)) (F0 m 0 ls [])
  refine lv_aload_n hx hb dJ5_putStringAt_47b60_0 rfl (lv_at hl 0 rfl) ?_
  refine lv_aload_n hx hb dJ5_putStringAt_47b60_1 rfl (lv_at hl 2 rfl) ?_
  refine va_csv (va_Run.run (va_runU (As := [.ref q0]) (rest := []) ⟨hx, hb, hml, hown, hts⟩ (m_J5_inflateIfNeededFor_a7421 l dC dI cB z a b n cp f q0 m0 hm0) (va_cwU 1 hts gJ5_putStringAt_47b60_J5_inflateIfNeededFor_a7421_u397J4 rfl rfl rfl rfl (by decide +kernel) ⟨Nat.le_of_ble_eq_true rfl, Nat.le_of_ble_eq_true rfl⟩) (hB.preVV hV (ci := 1) (r := (RJ4, TJ4, 4)) rfl 0 rfl) rfl rfl hl.1 rfl (lv_room (Nat.le_of_ble_eq_true rfl)) dJ5_putStringAt_47b60_2 ⟨Nat.le_of_ble_eq_true rfl, Nat.le_of_ble_eq_true rfl⟩)) (fun _ => ?_)
  refine lv_aload_n hx hb dJ5_putStringAt_47b60_5 rfl (lv_at hl 2 rfl) ?_
  refine lv_aload_n hx hb dJ5_putStringAt_47b60_6 rfl (lv_at hl 0 rfl) ?_
  refine va_get (D := (dC, dI)) (ci := 1) (C := RJ4) (T := TJ4) (N := 4) (fs := [.ref b, .int (nI 0), .int (nI 0), .int (nI n)]) hx hb hts hinJ4 hown hB.2.1 hB.1 0 rfl rfl 0 (by decide) (hts (.fieldLink RJ5 15 "java/lang/AbstractStringBuilder" "value" "[B") (tm 216 (by decide +kernel) rfl)) (fun _ h => h) rfl dJ5_putStringAt_47b60_7 ?_
  refine lv_iload_n hx hb dJ5_putStringAt_47b60_10 rfl (lv_at hl 1 rfl) ?_
  refine lv_aload_n hx hb dJ5_putStringAt_47b60_11 rfl (lv_at hl 0 rfl) ?_
  refine va_get (D := (dC, dI)) (ci := 1) (C := RJ4) (T := TJ4) (N := 4) (fs := [.ref b, .int (nI 0), .int (nI 0), .int (nI n)]) hx hb hts hinJ4 hown hB.2.1 hB.1 0 rfl rfl 1 (by decide) (hts (.fieldLink RJ5 22 "java/lang/AbstractStringBuilder" "coder" "B") (tm 217 (by decide +kernel) rfl)) (fun _ h => h) rfl dJ5_putStringAt_47b60_12 ?_
  refine kb_v (va_runV (As := [.ref b, .int (nI i), .int (nI 0)]) (rest := []) ⟨hx, hb, hml, hown, hts⟩ (m_J0_getBytes_840e7 l dC dI cB z a b n cp f q0 m0 hm0 i (by omega) (by omega) hf) (cwV 3 hts gJ5_putStringAt_47b60_J0_getBytes_840e7 rfl rfl rfl hdJ0_getBytes_840e7_3 ⟨Nat.le_of_ble_eq_true rfl, Nat.le_of_ble_eq_true rfl⟩) (hB.preQ hV) rfl rfl hl.1 rfl (lv_room (Nat.le_of_ble_eq_true rfl)) dJ5_putStringAt_47b60_15 ⟨Nat.le_of_ble_eq_true rfl, Nat.le_of_ble_eq_true rfl⟩) hB (fun u H locs hu hB => ?_)
  replace hB : WB dC dI cB z [(a, eSB b n), (b, eBy cB cp u)] s H locs := hB
  have hf : sb_Fit u := hu
  exact W.widen (k := 0) (n := 0) (Nat.le_refl _) (Nat.le_refl _) (W.vret hx hb hr (fun t9 ht9 hW9 => ⟨⟨u, rfl, hf, hB.P ht9 hW9⟩, hB.F ht9⟩) hB.L dJ5_putStringAt_47b60_18)
set_option maxHeartbeats 4000000 in
set_option maxRecDepth 100000 in
theorem m_J5_append_cf1ce (l : Launch) (dC : Nat → ClassId) (dI : Nat → Nat → Nat) (cB : ClassId) (z : Nat) (a b n cp : Nat) (f : Nat → Int32) (q0 m0 : Nat) (hm0 : m0 ≤ 65536) (hnm : n ≤ cp) (hm : cp ≤ 65536) (hf : sb_Fit f) (hnn : n + m0 ≤ 65536) (hcap : sb_cap (n + m0) cp ≤ 65536) : Met l yJ5_append_cf1ce wsJ5_append_cf1ce ({ frames := 4, cells := 1, slots := (gm (n + m0) cp), locals := 85 } : Room) (va_Pc [.ref a, .ref q0] (PV dC dI cB z [(a, eSB b n), (b, eBy cB cp f)] q0 m0)) (va_Qr (fun u : Nat × (Nat → Int32) => sb_Fit u.2) (fun u q9 t => q9 = a ∧ PB dC dI cB z [(a, eSB u.1 (n + m0)), (u.1, eBy cB (sb_cap (n + m0) cp) u.2)] t) (zB z)) 1 (gm (n + m0) cp) (zB z) := by
  refine ofWF (cc := cJ5_append_cf1ce) (maxL := 3) (ret := (some (.object "java/lang/AbstractStringBuilder"))) (by decide +kernel) rfl ?_
  intro p e s m args below meth c s₁ B hml hv
  obtain ⟨rfl, hPB, hV⟩ := hv
  obtain ⟨hV1, hV2, t9, g9, hV3, hV4, hV5⟩ := id hV
  have hx := B.exec
  have hb := B.bytes
  have hr := B.returns
  have hts := atoms_spec (ws := wsJ5_append_cf1ce) B.pre
  have hown : s.vm.findClass RJ5 = some m.cls := findClass_of_methodNamed B.named
  have hlocks := B.notSynchronized
  have hinJ4 : ∀ w ∈ u_ws RJ4 TJ4 4, w ∈ wsJ5_append_cf1ce := tu 1326 (by decide +kernel) rfl
  have hB := WB.of hPB
  have hl := lv_entry ([.ref a, .ref q0]) (n := 3) (Nat.le_of_ble_eq_true rfl)
  rw [lg_entry_eq]
  generalize (lg_sl ([.ref a, .ref q0]) ++ List.replicate (3 - (lg_sl ([.ref a, .ref q0])).length) Slot.unset).toArray = ls at hl ⊢
  have hl : lv_has ls 3 [(0, .ref a), (1, .ref q0)] := hl
  show W p l e ({ frames := 4, cells := 1, slots := (gm (n + m0) cp), locals := 85 } : Room) s m ([.ref a, .ref q0]).toArray below meth c s.heap [] 0 0 (MQ below (va_Qr (fun u : Nat × (Nat → Int32) => sb_Fit u.2) (fun u q9 t => q9 = a ∧ PB dC dI cB z [(a, eSB u.1 (n + m0)), (u.1, eBy cB (sb_cap (n + m0) cp) u.2)] t) (zB z)) ([.ref a, .ref q0]).toArray s 1 (gm (n + m0) cp) (zB z)) (F0 m 0 ls [])
  have hge9 := sb_cap_ge (n + m0) cp
  have hat := KatJ4 hPB
  refine lv_aload_n hx hb dJ5_append_cf1ce_0 rfl (lv_at hl 1 rfl) ?_
  refine lv_ifnonnull (tgt := 9) hx hb dJ5_append_cf1ce_1 (by decide) ?_
  refine lv_aload_n hx hb dJ5_append_cf1ce_9 rfl (lv_at hl 1 rfl) ?_
  refine kx_cr (v := nI m0) (va_runV (As := []) (rest := []) ⟨hx, hb, hml, hown, hts⟩ (m_J0_length_8abf5 l dC dI cB z ([(a, eSB b n), (b, eBy cB cp f)]) q0 m0 hm0) (cwV 0 hts gJ5_append_cf1ce_J0_length_8abf5 rfl rfl rfl hdJ0_length_8abf5_0 ⟨Nat.le_of_ble_eq_true rfl, Nat.le_of_ble_eq_true rfl⟩) (hB.preQ hV) rfl rfl hl.1 rfl (lv_room (Nat.le_of_ble_eq_true rfl)) dJ5_append_cf1ce_10 ⟨by simp, by simp⟩) (fun _ h => h) ?_
  refine lv_istore_n (lv' := [(2, .int (nI m0)), (0, .ref a), (1, .ref q0)]) hx hb dJ5_append_cf1ce_13 rfl hl (by decide) rfl (fun ls hl => ?_)
  refine lv_aload_n hx hb dJ5_append_cf1ce_14 rfl (lv_at hl 1 rfl) ?_
  refine lv_aload_n hx hb dJ5_append_cf1ce_15 rfl (lv_at hl 1 rfl) ?_
  refine va_get (D := (dC, dI)) (ci := 1) (C := RJ4) (T := TJ4) (N := 4) (fs := [.ref b, .int (nI 0), .int (nI 0), .int (nI n)]) hx hb hts hinJ4 hown hB.2.1 hB.1 0 rfl rfl 3 (by decide) (hts (.fieldLink RJ5 79 "java/lang/AbstractStringBuilder" "count" "I") (tm 277 (by decide +kernel) rfl)) (fun _ h => h) rfl dJ5_append_cf1ce_16 ?_
  refine lv_iload_n hx hb dJ5_append_cf1ce_19 rfl (lv_at hl 0 rfl) ?_
  refine kn_iadd hx hb dJ5_append_cf1ce_20 ?_
  refine kb_v (va_runU (As := [.int (nI (n + m0))]) (rest := []) ⟨hx, hb, hml, hown, hts⟩ (m_J5_ensureCapacityInternal_d00df l dC dI cB z a b n cp f (n + m0) (by omega) (by omega) hf hcap) (va_cwU 1 hts gJ5_append_cf1ce_J5_ensureCapacityInternal_d00df_u100J4 rfl rfl rfl rfl (by decide +kernel) ⟨Nat.le_of_ble_eq_true rfl, Nat.le_of_ble_eq_true rfl⟩) (hB.preV (ci := 1) (q := (RJ4, TJ4, 4)) rfl 0 rfl) rfl rfl hl.1 rfl (lv_room (Nat.le_of_ble_eq_true rfl)) dJ5_append_cf1ce_21 ⟨by simp, by simp⟩) hB (fun u H locs hu hB => ?_)
  obtain ⟨b2, f2⟩ := u
  replace hB : WB dC dI cB z [(a, eSB b2 n), (b2, eBy cB (sb_cap (n + m0) cp) f2)] s H locs := hB
  have hf : sb_Fit f2 := hu
  have hge := sb_cap_ge (n + m0) cp
  refine lv_aload_n hx hb dJ5_append_cf1ce_24 rfl (lv_at hl 1 rfl) ?_
  refine lv_aload_n hx hb dJ5_append_cf1ce_25 rfl (lv_at hl 1 rfl) ?_
  refine va_get (D := (dC, dI)) (ci := 1) (C := RJ4) (T := TJ4) (N := 4) (fs := [.ref b2, .int (nI 0), .int (nI 0), .int (nI n)]) hx hb hts hinJ4 hown hB.2.1 hB.1 0 rfl rfl 3 (by decide) (hts (.fieldLink RJ5 79 "java/lang/AbstractStringBuilder" "count" "I") (tm 277 (by decide +kernel) rfl)) (fun _ h => h) rfl dJ5_append_cf1ce_26 ?_
  refine lv_aload_n hx hb dJ5_append_cf1ce_29 rfl (lv_at hl 2 rfl) ?_
  refine kb_v (va_runU (As := [.int (nI n), .ref q0]) (rest := []) ⟨hx, hb, hml, hown, hts⟩ (m_J5_putStringAt_47b60 l dC dI cB z a b2 n (sb_cap (n + m0) cp) f2 q0 m0 hm0 n (by omega) (by omega) hf) (va_cwU 2 hts gJ5_append_cf1ce_J5_putStringAt_47b60_u208J4 rfl rfl rfl rfl (by decide +kernel) ⟨Nat.le_of_ble_eq_true rfl, Nat.le_of_ble_eq_true rfl⟩) (hB.preVV hV (ci := 1) (r := (RJ4, TJ4, 4)) rfl 0 rfl) rfl rfl hl.1 rfl (lv_room (Nat.le_of_ble_eq_true rfl)) dJ5_append_cf1ce_30 ⟨by simp, by simp⟩) hB (fun u H locs hu hB => ?_)
  replace hB : WB dC dI cB z [(a, eSB b2 n), (b2, eBy cB (sb_cap (n + m0) cp) u)] s H locs := hB
  have hf : sb_Fit u := hu
  refine lv_aload_n hx hb dJ5_append_cf1ce_33 rfl (lv_at hl 1 rfl) ?_
  refine lv_dup hx hb dJ5_append_cf1ce_34 rfl ?_
  refine va_get (D := (dC, dI)) (ci := 1) (C := RJ4) (T := TJ4) (N := 4) (fs := [.ref b2, .int (nI 0), .int (nI 0), .int (nI n)]) hx hb hts hinJ4 hown hB.2.1 hB.1 0 rfl rfl 3 (by decide) (hts (.fieldLink RJ5 79 "java/lang/AbstractStringBuilder" "count" "I") (tm 277 (by decide +kernel) rfl)) (fun _ h => h) rfl dJ5_append_cf1ce_35 ?_
  refine lv_iload_n hx hb dJ5_append_cf1ce_38 rfl (lv_at hl 0 rfl) ?_
  refine kn_iadd hx hb dJ5_append_cf1ce_39 ?_
  refine kb_put (fs := [.ref b2, .int (nI 0), .int (nI 0), .int (nI n)]) hx hb hts hinJ4 hown hB 0 rfl 3 (by decide) (hts (.fieldLink RJ5 79 "java/lang/AbstractStringBuilder" "count" "I") (tm 277 (by decide +kernel) rfl)) (fun _ h => h) rfl rfl rfl rfl (Nat.le_of_ble_eq_true rfl) dJ5_append_cf1ce_40 (fun H locs hB => ?_)
  replace hB : WB dC dI cB z [(a, eSB b2 (n + m0)), (b2, eBy cB (sb_cap (n + m0) cp) u)] s H locs := hB
  refine lv_aload_n hx hb dJ5_append_cf1ce_43 rfl (lv_at hl 1 rfl) ?_
  exact W.widen (k := 1) (n := (gm (n + m0) cp)) (by simp) (by simp) (W.aret (v := .ref a) hx hb hr (Or.inl ⟨_, rfl⟩) (Or.inr ⟨_, rfl⟩) (fun t9 ht9 hW9 => ⟨⟨(b2, u), _, rfl, hf, rfl, hB.P ht9 hW9⟩, hB.F ht9⟩) hB.L dJ5_append_cf1ce_44)
set_option maxHeartbeats 4000000 in
set_option maxRecDepth 100000 in
theorem m_J4_append_15ec4 (l : Launch) (dC : Nat → ClassId) (dI : Nat → Nat → Nat) (cB : ClassId) (z : Nat) (a b n cp : Nat) (f : Nat → Int32) (q0 m0 : Nat) (hm0 : m0 ≤ 65536) (hnm : n ≤ cp) (hm : cp ≤ 65536) (hf : sb_Fit f) (hnn : n + m0 ≤ 65536) (hcap : sb_cap (n + m0) cp ≤ 65536) : Met l yJ4_append_15ec4 wsJ4_append_15ec4 ({ frames := 5, cells := 1, slots := (gm (n + m0) cp), locals := 107 } : Room) (va_Pc [.ref a, .ref q0] (PV dC dI cB z [(a, eSB b n), (b, eBy cB cp f)] q0 m0)) (va_Qr (fun u : Nat × (Nat → Int32) => sb_Fit u.2) (fun u q9 t => q9 = a ∧ PB dC dI cB z [(a, eSB u.1 (n + m0)), (u.1, eBy cB (sb_cap (n + m0) cp) u.2)] t) (zB z)) 1 (gm (n + m0) cp) (zB z) := by
  refine ofWF (cc := cJ4_append_15ec4) (maxL := 2) (ret := (some (.object "java/lang/StringBuilder"))) (by decide +kernel) rfl ?_
  intro p e s m args below meth c s₁ B hml hv
  obtain ⟨rfl, hPB, hV⟩ := hv
  obtain ⟨hV1, hV2, t9, g9, hV3, hV4, hV5⟩ := id hV
  have hx := B.exec
  have hb := B.bytes
  have hr := B.returns
  have hts := atoms_spec (ws := wsJ4_append_15ec4) B.pre
  have hown : s.vm.findClass RJ4 = some m.cls := findClass_of_methodNamed B.named
  have hlocks := B.notSynchronized
  have hB := WB.of hPB
  have hl := lv_entry ([.ref a, .ref q0]) (n := 2) (Nat.le_of_ble_eq_true rfl)
  rw [lg_entry_eq]
  generalize (lg_sl ([.ref a, .ref q0]) ++ List.replicate (2 - (lg_sl ([.ref a, .ref q0])).length) Slot.unset).toArray = ls at hl ⊢
  have hl : lv_has ls 2 [(0, .ref a), (1, .ref q0)] := hl
  show W p l e ({ frames := 5, cells := 1, slots := (gm (n + m0) cp), locals := 107 } : Room) s m ([.ref a, .ref q0]).toArray below meth c s.heap [] 0 0 (MQ below (va_Qr (fun u : Nat × (Nat → Int32) => sb_Fit u.2) (fun u q9 t => q9 = a ∧ PB dC dI cB z [(a, eSB u.1 (n + m0)), (u.1, eBy cB (sb_cap (n + m0) cp) u.2)] t) (zB z)) ([.ref a, .ref q0]).toArray s 1 (gm (n + m0) cp) (zB z)) (F0 m 0 ls [])
  have hat := KatJ4 hPB
  refine lv_aload_n hx hb dJ4_append_15ec4_0 rfl (lv_at hl 0 rfl) ?_
  refine lv_aload_n hx hb dJ4_append_15ec4_1 rfl (lv_at hl 1 rfl) ?_
  refine kb_r (va_runSU (As := [.ref q0]) (rest := []) (C := RJ4) hat ⟨hx, hb, hml, hown, hts⟩ (m_J5_append_cf1ce l dC dI cB z a b n cp f q0 m0 hm0 (by omega) (by omega) hf (by omega) hcap) (va_cwSU 1 hts gJ4_append_15ec4_J5_append_cf1ce_s29 rfl rfl rfl (by decide +kernel) ⟨Nat.le_of_ble_eq_true rfl, Nat.le_of_ble_eq_true rfl⟩) (hB.preVV hV (ci := 1) (r := (RJ4, TJ4, 4)) rfl 0 rfl) rfl rfl hl.1 rfl (lv_room (Nat.le_of_ble_eq_true rfl)) dJ4_append_15ec4_2 ⟨by simp, by simp⟩) hB (fun u q9 H locs hu hq hB => ?_)
  obtain ⟨b3, f3⟩ := u
  rw [hq]
  replace hB : WB dC dI cB z [(a, eSB b3 (n + m0)), (b3, eBy cB (sb_cap (n + m0) cp) f3)] s H locs := hB
  have hf : sb_Fit f3 := hu
  refine lv_pop hx hb dJ4_append_15ec4_5 rfl ?_
  refine lv_aload_n hx hb dJ4_append_15ec4_6 rfl (lv_at hl 0 rfl) ?_
  exact W.widen (k := 1) (n := (gm (n + m0) cp)) (by simp) (by simp) (W.aret (v := .ref a) hx hb hr (Or.inl ⟨_, rfl⟩) (Or.inr ⟨_, rfl⟩) (fun t9 ht9 hW9 => ⟨⟨(b3, f3), _, rfl, hf, rfl, hB.P ht9 hW9⟩, hB.F ht9⟩) hB.L dJ4_append_15ec4_7)
set_option maxHeartbeats 4000000 in
set_option maxRecDepth 100000 in
theorem s_J0_init_db425 (l : Launch) (dC : Nat → ClassId) (dI : Nat → Nat → Nat) (cB : ClassId) (z : Nat) (a b n cp : Nat) (f : Nat → Int32) (r : Nat) (hnm : n ≤ cp) (hm : cp ≤ 65536) (hf : sb_Fit f) : Met l yJ0_init_db425 wsJ0_init_db425 ({ frames := 3, cells := 1, slots := n, locals := 86 } : Room) (va_Pc [.ref r, .ref a, .null] (PB dC dI cB z [(a, eSB b n), (b, eBy cB cp f), (r, .inr (0, [.null, .int (nI 0), .int (nI 0), .int (nI 0)]))])) (va_Qv (fun u : Nat × (Nat → Int32) => sb_Fit u.2) (fun u t => PB dC dI cB z [(a, eSB b n), (b, eBy cB cp f), (r, .inr (0, [.ref u.1, .int (nI 0), .int (nI 0), .int (nI 0)])), (u.1, eBy cB n u.2)] t) (zB z)) 1 n (zB z) := by
  refine ofWF (cc := cJ0_init_db425) (maxL := 5) (ret := none) (by decide +kernel) rfl ?_
  intro p e s m args below meth c s₁ B hml hv
  obtain ⟨rfl, hPB⟩ := hv
  have hx := B.exec
  have hb := B.bytes
  have hr := B.returns
  have hts := atoms_spec (ws := wsJ0_init_db425) B.pre
  have hown : s.vm.findClass RJ0 = some m.cls := findClass_of_methodNamed B.named
  have hlocks := B.notSynchronized
  have hB := WB.of hPB
  have hl := lv_entry ([.ref r, .ref a, .null]) (n := 5) (Nat.le_of_ble_eq_true rfl)
  rw [lg_entry_eq]
  generalize (lg_sl ([.ref r, .ref a, .null]) ++ List.replicate (5 - (lg_sl ([.ref r, .ref a, .null])).length) Slot.unset).toArray = ls at hl ⊢
  have hl : lv_has ls 5 [(0, .ref r), (1, .ref a), (2, .null)] := hl
  show W p l e ({ frames := 3, cells := 1, slots := n, locals := 86 } : Room) s m ([.ref r, .ref a, .null]).toArray below meth c s.heap [] 0 0 (MQ below (va_Qv (fun u : Nat × (Nat → Int32) => sb_Fit u.2) (fun u t => PB dC dI cB z [(a, eSB b n), (b, eBy cB cp f), (r, .inr (0, [.ref u.1, .int (nI 0), .int (nI 0), .int (nI 0)])), (u.1, eBy cB n u.2)] t) (zB z)) ([.ref r, .ref a, .null]).toArray s 1 n (zB z)) (F0 m 0 ls [])
  have hin2 : meth.name = "<init>" := (name_of_methodNamed B.named B.method).1
  have hinJ0 : ∀ w ∈ u_ws RJ0 TJ0 4, w ∈ wsJ0_init_db425 := tu 1327 (by decide +kernel) rfl
  have hat := KatJ4 hPB
  refine lv_aload_n hx hb dJ0_init_db425_0 rfl (lv_at hl 0 rfl) ?_
  refine W.objInit hx hb hown (hts (.methodLink RJ0 1 objectInit) (tm 384 (by decide +kernel) rfl)) (hts (.instanceMethod objectInit) (tm 1 (by decide +kernel) rfl)) (hts (.code objectInit ⟨#[0xb1]⟩ 1 none) (tm 2 (by decide +kernel) rfl)) (g := F0 m 1 ls [.ref r]) rfl (by rw [hml]; exact hl.1) rfl dJ0_init_db425_1 (Nat.le_of_ble_eq_true rfl) (Nat.le_of_ble_eq_true rfl) ?_
  show W p l e _ s m _ below meth c _ _ _ _ _ (F0 m 4 ls [])
  refine lv_aload_n hx hb dJ0_init_db425_4 rfl (lv_at hl 1 rfl) ?_
  refine va_csr (va_Run.run (va_runU (As := []) (rest := []) ⟨hx, hb, hml, hown, hts⟩ (m_J5_getValue_6d5f1 l dC dI cB z ([(a, eSB b n), (b, eBy cB cp f), (r, .inr (0, [.null, .int (nI 0), .int (nI 0), .int (nI 0)]))]) a b n rfl) (va_cwU 0 hts gJ0_init_db425_J5_getValue_6d5f1_u552J4 rfl rfl rfl rfl (by decide +kernel) ⟨Nat.le_of_ble_eq_true rfl, Nat.le_of_ble_eq_true rfl⟩) (hB.preV (ci := 1) (q := (RJ4, TJ4, 4)) rfl 0 rfl) rfl rfl hl.1 rfl (lv_room (Nat.le_of_ble_eq_true rfl)) dJ0_init_db425_5 ⟨Nat.le_of_ble_eq_true rfl, Nat.le_of_ble_eq_true rfl⟩)) (fun k_ hk_ => ?_)
  rw [hk_]
  refine lv_astore_n (lv' := [(3, .ref b), (0, .ref r), (1, .ref a), (2, .null)]) hx hb dJ0_init_db425_8 rfl hl (by decide) rfl (fun ls hl => ?_)
  refine lv_aload_n hx hb dJ0_init_db425_9 rfl (lv_at hl 2 rfl) ?_
  refine kx_cr (v := nI n) (va_runU (As := []) (rest := []) ⟨hx, hb, hml, hown, hts⟩ (m_J4_length_8abf5 l dC dI cB z ([(a, eSB b n), (b, eBy cB cp f), (r, .inr (0, [.null, .int (nI 0), .int (nI 0), .int (nI 0)]))]) a b n rfl) (va_cwO 0 hts gJ0_init_db425_J4_length_8abf5_u549J4 rfl rfl rfl (b0 := cJ5_length_8abf5) (m0 := 1) (r0 := some .int) (by decide +kernel) (by decide +kernel) ⟨Nat.le_of_ble_eq_true rfl, Nat.le_of_ble_eq_true rfl⟩) (hB.preV (ci := 1) (q := (RJ4, TJ4, 4)) rfl 0 rfl) rfl rfl hl.1 rfl (lv_room (Nat.le_of_ble_eq_true rfl)) dJ0_init_db425_10 ⟨Nat.le_of_ble_eq_true rfl, Nat.le_of_ble_eq_true rfl⟩) (fun _ h => h) ?_
  refine lv_istore (lv' := [(4, .int (nI n)), (3, .ref b), (0, .ref r), (1, .ref a), (2, .null)]) hx hb dJ0_init_db425_13 hl (by decide) rfl (fun ls hl => ?_)
  refine lv_aload_n hx hb dJ0_init_db425_15 rfl (lv_at hl 3 rfl) ?_
  refine kx_cr (v := bI true) (va_runU (As := []) (rest := []) ⟨hx, hb, hml, hown, hts⟩ (m_J5_isLatin1_aae02 l dC dI cB z ([(a, eSB b n), (b, eBy cB cp f), (r, .inr (0, [.null, .int (nI 0), .int (nI 0), .int (nI 0)]))]) a b n rfl) (va_cwU 0 hts gJ0_init_db425_J5_isLatin1_aae02_u1047J4 rfl rfl rfl rfl (by decide +kernel) ⟨Nat.le_of_ble_eq_true rfl, Nat.le_of_ble_eq_true rfl⟩) (hB.preV (ci := 1) (q := (RJ4, TJ4, 4)) rfl 0 rfl) rfl rfl hl.1 rfl (lv_room (Nat.le_of_ble_eq_true rfl)) dJ0_init_db425_16 ⟨Nat.le_of_ble_eq_true rfl, Nat.le_of_ble_eq_true rfl⟩) (fun _ h => h) ?_
  refine kb_if_eq (tgt := 41) hx hb dJ0_init_db425_19 (by decide) (fun k_1 => absurd k_1 (by decide)) (fun k_1 => ?_)
  refine lv_aload_n hx hb dJ0_init_db425_22 rfl (lv_at hl 2 rfl) ?_
  refine lv_iconst (v := nI 0) hx hb dJ0_init_db425_23 (by decide) ?_
  refine kb_pstr (fs := [.null, .int (nI 0), .int (nI 0), .int (nI 0)]) hx hb hts hinJ0 hown hB 2 rfl 1 (by decide) (hts (.fieldLink RJ0 15 "java/lang/String" "coder" "B") (tm 385 (by decide +kernel) rfl)) (fun _ h => h) rfl hin2 rfl rfl (by decide) (by decide) (Nat.le_of_ble_eq_true rfl) dJ0_init_db425_24 (fun H locs hB => ?_)
  replace hB : WB dC dI cB z [(a, eSB b n), (b, eBy cB cp f), (r, .inr (0, [.null, .int (nI 0), .int (nI 0), .int (nI 0)]))] s H locs := hB
  refine lv_aload_n hx hb dJ0_init_db425_27 rfl (lv_at hl 2 rfl) ?_
  refine lv_aload_n hx hb dJ0_init_db425_28 rfl (lv_at hl 1 rfl) ?_
  refine lv_iconst (v := nI 0) hx hb dJ0_init_db425_29 (by decide) ?_
  refine lv_iload hx hb dJ0_init_db425_30 (lv_at hl 0 rfl) ?_
  refine kb_r (va_runS (As := [.ref b, .int (nI 0), .int (nI n)]) (rest := [.ref r]) ⟨hx, hb, hml, hown, hts⟩ (m_J7_copyOfRange_39247 l dC dI cB z ([(a, eSB b n), (b, eBy cB cp f), (r, .inr (0, [.null, .int (nI 0), .int (nI 0), .int (nI 0)]))]) b cp f rfl n (by omega) (by omega) hf) (va_cwS 3 hts gJ0_init_db425_J7_copyOfRange_39247 rfl rfl rfl hdJ7_copyOfRange_39247_3.2 ⟨Nat.le_of_ble_eq_true rfl, Nat.le_of_ble_eq_true rfl⟩) (hB.preS) rfl rfl hl.1 rfl (lv_room (Nat.le_of_ble_eq_true rfl)) dJ0_init_db425_32 ⟨by simp, by simp⟩) hB (fun u q9 H locs hu hq hB => ?_)
  replace hB : WB dC dI cB z [(a, eSB b n), (b, eBy cB cp f), (r, .inr (0, [.null, .int (nI 0), .int (nI 0), .int (nI 0)])), (q9, eBy cB n u)] s H locs := hB
  refine kb_pstr (fs := [.null, .int (nI 0), .int (nI 0), .int (nI 0)]) hx hb hts hinJ0 hown hB 2 rfl 0 (by decide) (hts (.fieldLink RJ0 9 "java/lang/String" "value" "[B") (tm 386 (by decide +kernel) rfl)) (fun _ h => h) rfl hin2 rfl rfl rfl rfl (Nat.le_of_ble_eq_true rfl) dJ0_init_db425_35 (fun H locs hB => ?_)
  replace hB : WB dC dI cB z [(a, eSB b n), (b, eBy cB cp f), (r, .inr (0, [.ref q9, .int (nI 0), .int (nI 0), .int (nI 0)])), (q9, eBy cB n u)] s H locs := hB
  refine lv_goto (tgt := 97) hx hb dJ0_init_db425_38 (by decide) ?_
  exact W.widen (k := 1) (n := n) (by simp) (by simp) (W.vret hx hb hr (fun t9 ht9 hW9 => ⟨⟨(q9, u), rfl, hu, hB.P ht9 hW9⟩, hB.F ht9⟩) hB.L dJ0_init_db425_97)
set_option maxHeartbeats 4000000 in
set_option maxRecDepth 100000 in
theorem s_J0_init_81219 (l : Launch) (dC : Nat → ClassId) (dI : Nat → Nat → Nat) (cB : ClassId) (z : Nat) (a b n cp : Nat) (f : Nat → Int32) (r : Nat) (hnm : n ≤ cp) (hm : cp ≤ 65536) (hf : sb_Fit f) : Met l yJ0_init_81219 wsJ0_init_81219 ({ frames := 4, cells := 1, slots := n, locals := 110 } : Room) (va_Pc [.ref r, .ref a] (PB dC dI cB z [(a, eSB b n), (b, eBy cB cp f), (r, .inr (0, [.null, .int (nI 0), .int (nI 0), .int (nI 0)]))])) (va_Qv (fun u : Nat × (Nat → Int32) => sb_Fit u.2) (fun u t => PB dC dI cB z [(a, eSB b n), (b, eBy cB cp f), (r, .inr (0, [.ref u.1, .int (nI 0), .int (nI 0), .int (nI 0)])), (u.1, eBy cB n u.2)] t) (zB z)) 1 n (zB z) := by
  refine ofWF (cc := cJ0_init_81219) (maxL := 2) (ret := none) (by decide +kernel) rfl ?_
  intro p e s m args below meth c s₁ B hml hv
  obtain ⟨rfl, hPB⟩ := hv
  have hx := B.exec
  have hb := B.bytes
  have hr := B.returns
  have hts := atoms_spec (ws := wsJ0_init_81219) B.pre
  have hown : s.vm.findClass RJ0 = some m.cls := findClass_of_methodNamed B.named
  have hlocks := B.notSynchronized
  have hB := WB.of hPB
  have hl := lv_entry ([.ref r, .ref a]) (n := 2) (Nat.le_of_ble_eq_true rfl)
  rw [lg_entry_eq]
  generalize (lg_sl ([.ref r, .ref a]) ++ List.replicate (2 - (lg_sl ([.ref r, .ref a])).length) Slot.unset).toArray = ls at hl ⊢
  have hl : lv_has ls 2 [(0, .ref r), (1, .ref a)] := hl
  show W p l e ({ frames := 4, cells := 1, slots := n, locals := 110 } : Room) s m ([.ref r, .ref a]).toArray below meth c s.heap [] 0 0 (MQ below (va_Qv (fun u : Nat × (Nat → Int32) => sb_Fit u.2) (fun u t => PB dC dI cB z [(a, eSB b n), (b, eBy cB cp f), (r, .inr (0, [.ref u.1, .int (nI 0), .int (nI 0), .int (nI 0)])), (u.1, eBy cB n u.2)] t) (zB z)) ([.ref r, .ref a]).toArray s 1 n (zB z)) (F0 m 0 ls [])
  refine lv_aload_n hx hb dJ0_init_81219_0 rfl (lv_at hl 0 rfl) ?_
  refine lv_aload_n hx hb dJ0_init_81219_1 rfl (lv_at hl 1 rfl) ?_
  refine lv_null hx hb dJ0_init_81219_2 ?_
  refine kb_v (va_runI (As := [.ref a, .null]) (rest := []) ⟨hx, hb, hml, hown, hts⟩ (s_J0_init_db425 l dC dI cB z a b n cp f r hnm hm hf) (cwI 2 hts gJ0_init_81219_J0_init_db425 rfl rfl rfl (hts (.initialized yJ0_init_db425.cls) (tm 264 (by decide +kernel) rfl)) (hts (.methodLink RJ0 489 yJ0_init_db425) (tm 404 (by decide +kernel) rfl)) (hts (.instanceMethod yJ0_init_db425) (tm 405 (by decide +kernel) rfl)) rfl (by decide +kernel) ⟨Nat.le_of_ble_eq_true rfl, Nat.le_of_ble_eq_true rfl⟩) (hB.preS) rfl rfl hl.1 rfl (lv_room (Nat.le_of_ble_eq_true rfl)) dJ0_init_81219_3 ⟨by simp, by simp⟩) hB (fun u H locs hu hB => ?_)
  obtain ⟨v9, g9⟩ := u
  replace hB : WB dC dI cB z [(a, eSB b n), (b, eBy cB cp f), (r, .inr (0, [.ref v9, .int (nI 0), .int (nI 0), .int (nI 0)])), (v9, eBy cB n g9)] s H locs := hB
  have hg : sb_Fit g9 := hu
  exact W.widen (k := 1) (n := n) (by simp) (by simp) (W.vret hx hb hr (fun t9 ht9 hW9 => ⟨⟨(v9, g9), rfl, hg, hB.P ht9 hW9⟩, hB.F ht9⟩) hB.L dJ0_init_81219_6)
set_option maxHeartbeats 4000000 in
set_option maxRecDepth 100000 in
theorem s_J4_toString_0e30d (l : Launch) (dC : Nat → ClassId) (dI : Nat → Nat → Nat) (cB : ClassId) (z : Nat) (a b n cp : Nat) (f : Nat → Int32) (hnm : n ≤ cp) (hm : cp ≤ 65536) (hf : sb_Fit f) : Met l yJ4_toString_0e30d wsJ4_toString_0e30d ({ frames := 5, cells := 2, slots := (4 + n), locals := 131 } : Room) (va_Pc [.ref a] (PB dC dI cB z [(a, eSB b n), (b, eBy cB cp f)])) (va_Qr (fun u : Nat × (Nat → Int32) => sb_Fit u.2) (fun u q9 t => True ∧ PB dC dI cB z [(a, eSB b n), (b, eBy cB cp f), (q9, .inr (0, [.ref u.1, .int (nI 0), .int (nI 0), .int (nI 0)])), (u.1, eBy cB n u.2)] t) (zB z)) 2 (4 + n) (zB z) := by
  refine ofWF (cc := cJ4_toString_0e30d) (maxL := 1) (ret := (some (.object "java/lang/String"))) (by decide +kernel) rfl ?_
  intro p e s m args below meth c s₁ B hml hv
  obtain ⟨rfl, hPB⟩ := hv
  have hx := B.exec
  have hb := B.bytes
  have hr := B.returns
  have hts := atoms_spec (ws := wsJ4_toString_0e30d) B.pre
  have hown : s.vm.findClass RJ4 = some m.cls := findClass_of_methodNamed B.named
  have hlocks := B.notSynchronized
  have hB := WB.of hPB
  have hl := lv_entry ([.ref a]) (n := 1) (Nat.le_of_ble_eq_true rfl)
  rw [lg_entry_eq]
  generalize (lg_sl ([.ref a]) ++ List.replicate (1 - (lg_sl ([.ref a])).length) Slot.unset).toArray = ls at hl ⊢
  have hl : lv_has ls 1 [(0, .ref a)] := hl
  show W p l e ({ frames := 5, cells := 2, slots := (4 + n), locals := 131 } : Room) s m ([.ref a]).toArray below meth c s.heap [] 0 0 (MQ below (va_Qr (fun u : Nat × (Nat → Int32) => sb_Fit u.2) (fun u q9 t => True ∧ PB dC dI cB z [(a, eSB b n), (b, eBy cB cp f), (q9, .inr (0, [.ref u.1, .int (nI 0), .int (nI 0), .int (nI 0)])), (u.1, eBy cB n u.2)] t) (zB z)) ([.ref a]).toArray s 2 (4 + n) (zB z)) (F0 m 0 ls [])
  have hinJ0 : ∀ w ∈ u_ws RJ0 TJ0 4, w ∈ wsJ4_toString_0e30d := tu 1327 (by decide +kernel) rfl
  refine va_new (D := (dC, dI)) (ci := 0) (C := RJ0) (T := TJ0) (N := 4) (fs := [.null, .int (nI 0), .int (nI 0), .int (nI 0)]) hx hb hts hinJ0 tyJ0 tyJ0_ok hown (hts (.classLink RJ4 18 RJ0) (tm 407 (by decide +kernel) rfl)) (hts (.instantiable RJ0 4) (tm 408 (by decide +kernel) rfl)) (hts (.initialized RJ0) (tm 264 (by decide +kernel) rfl)) hB.2.1 hB.1 hB.2.2.1 hB.2.2.2.1 (fun q hq => Nat.le_trans hB.2.2.2.2.1 hq) rfl (fun j hj => by rcases (show j = 0 ∨ j = 1 ∨ j = 2 ∨ j = 3 by omega) with rfl | rfl | rfl | rfl <;> rfl) (by simp) (by simp) dJ4_toString_0e30d_0 (fun r H h1 h2 h3 => ?_)
  replace hB : WB dC dI cB z [(a, eSB b n), (b, eBy cB cp f), (r, .inr (0, [.null, .int (nI 0), .int (nI 0), .int (nI 0)]))] s H _ := hB.to h1 h2 h3
  refine lv_dup hx hb dJ4_toString_0e30d_3 rfl ?_
  refine lv_aload_n hx hb dJ4_toString_0e30d_4 rfl (lv_at hl 0 rfl) ?_
  refine kb_v (va_runI (As := [.ref a]) (rest := [.ref r]) ⟨hx, hb, hml, hown, hts⟩ (s_J0_init_81219 l dC dI cB z a b n cp f r hnm hm hf) (cwI 1 hts gJ4_toString_0e30d_J0_init_81219 rfl rfl rfl (hts (.initialized yJ0_init_81219.cls) (tm 264 (by decide +kernel) rfl)) (hts (.methodLink RJ4 137 yJ0_init_81219) (tm 409 (by decide +kernel) rfl)) (hts (.instanceMethod yJ0_init_81219) (tm 410 (by decide +kernel) rfl)) rfl (by decide +kernel) ⟨Nat.le_of_ble_eq_true rfl, Nat.le_of_ble_eq_true rfl⟩) (hB.preS) rfl rfl hl.1 rfl (lv_room (Nat.le_of_ble_eq_true rfl)) dJ4_toString_0e30d_5 ⟨by simp, by simp⟩) hB (fun u H locs hu hB => ?_)
  obtain ⟨v9, g9⟩ := u
  replace hB : WB dC dI cB z [(a, eSB b n), (b, eBy cB cp f), (r, .inr (0, [.ref v9, .int (nI 0), .int (nI 0), .int (nI 0)])), (v9, eBy cB n g9)] s H locs := hB
  have hg : sb_Fit g9 := hu
  exact W.widen (k := 2) (n := (4 + n)) (by simp) (by simp) (W.aret (v := .ref r) hx hb hr (Or.inl ⟨_, rfl⟩) (Or.inr ⟨_, rfl⟩) (fun t9 ht9 hW9 => ⟨⟨(v9, g9), _, rfl, hg, trivial, hB.P ht9 hW9⟩, hB.F ht9⟩) hB.L dJ4_toString_0e30d_8)
