/-! lots told, with a tight bound of room -/
def GapQ2 (n cp : Nat) (u : Nat × Nat × Nat × (Nat → Int32)) : Prop := n ≤ u.2.1 ∧ GapQ n cp u
def LotQ2 (n cp : Nat) (u : Nat × Nat × Nat × (Nat → Int32)) : Prop := u.2.1 ≤ n + 10 ∧ u.2.1 ≤ u.2.2.1 ∧ cp ≤ u.2.2.1 ∧ u.2.2.1 ≤ 2 * (u.2.1 + 8) ∧ sb_Fit u.2.2.2
theorem dg_1 (v : Nat) : 1 ≤ sb_dg v := by unfold sb_dg; (repeat' split) <;> omega
def slL : Nat → Nat
  | 0 => 0
  | k + 1 => slL k + (20 * k + 72)
theorem slL_s (k : Nat) : slL (k + 1) = slL k + (20 * k + 72) := rfl
theorem slL_mono : ∀ {n k : Nat}, k ≤ n → slL k ≤ slL n
  | 0, k, h => by rw [Nat.le_zero.mp h]; exact Nat.le_refl _
  | n + 1, k, h => by
    by_cases e : k = n + 1
    · rw [e]; exact Nat.le_refl _
    · exact Nat.le_trans (slL_mono (show k ≤ n by omega)) (by rw [slL_s]; exact Nat.le_add_right _ _)
section KTA2
variable {p : Program} {l : Launch} {e : Env} {R : Room} {s : State} {m : MethodId} {args : Array Value} {below : List Frame} {meth : Method} {c : Code} {H : Heap} {locs : List Loc} {cells c0 : Nat} {Q : State → Prop}
variable {pc : Nat} {ls : Array Slot} {rest st0 : List Value} {dC : Nat → ClassId} {dI : Nat → Nat → Nat} {cB : ClassId} {ad : Nat → Nat} {z : Nat} {S : XS} {av : Array Value} {a b n cp n2 : Nat} {f : Nat → Int32}
theorem kt_app2 (N : Nat) (hr : va_Run p l e R s m args below meth c H locs cells (2 * cp - 2 * c0) 1 (gm n2 cp) (F0 m pc ls st0) rest (va_Qr (fun u : Nat × (Nat → Int32) => sb_Fit u.2) (fun u q9 t => q9 = a ∧ PB dC dI cB z [(a, eSB u.1 n2), (u.1, eBy cB (sb_cap n2 cp) u.2)] t) (zB z) av) (zB z)) (hX : WX dC dI ad S (AZ ad z) s H locs) (hT : TB dC dI cB ad z [(a, eSB b n), (b, eBy cB cp f)] s H) (hq : n2 ≤ N) (hc : cp ≤ 2 * N) (h0 : c0 ≤ cp)
    (kk : ∀ (b2 c2 : Nat) (f2 : Nat → Int32) (H1 : Heap) (locs1 : List Loc), WX dC dI ad S (AZ ad z) s H1 locs1 → TB dC dI cB ad z [(a, eSB b2 n2), (b2, eBy cB c2 f2)] s H1 → sb_Fit f2 → n2 ≤ c2 → cp ≤ c2 → c2 ≤ 2 * N → W p l e R s m args below meth c H1 locs1 (cells + 1) (2 * c2 - 2 * c0) Q (F0 m (pc + 3) ls (.ref a :: rest))) : W p l e R s m args below meth c H locs cells (2 * cp - 2 * c0) Q (F0 m pc ls st0) := by
  refine kt_r hr hX hT (fun u q9 H1 locs1 hu hq9 hX1 hT1 => ?_)
  rw [hq9]
  refine W.widen (Nat.le_refl _) (show 2 * cp - 2 * c0 + gm n2 cp ≤ 2 * sb_cap n2 cp - 2 * c0 by have := gm_pot n2 cp; omega) ?_
  exact kk u.1 (sb_cap n2 cp) u.2 H1 locs1 hX1 hT1 hu (sb_cap_ge _ _) (sb_cap_gem _ _) (cap_b hq hc)
theorem kt_gap2 (N : Nat) (hr : va_Run p l e R s m args below meth c H locs cells (2 * cp - 2 * c0) 1 (gm (n + 1) cp) (F0 m pc ls st0) rest (va_Qv (GapQ2 n cp) (fun u t => PB dC dI cB z [(a, eSB u.1 u.2.1), (u.1, eBy cB u.2.2.1 u.2.2.2)] t) (zB z) av) (zB z)) (hX : WX dC dI ad S (AZ ad z) s H locs) (hT : TB dC dI cB ad z [(a, eSB b n), (b, eBy cB cp f)] s H) (hq : n + 1 ≤ N) (hc : cp ≤ 2 * N) (h00 : c0 ≤ cp)
    (kk : ∀ (b2 n2 c2 : Nat) (f2 : Nat → Int32) (H1 : Heap) (locs1 : List Loc), WX dC dI ad S (AZ ad z) s H1 locs1 → TB dC dI cB ad z [(a, eSB b2 n2), (b2, eBy cB c2 f2)] s H1 → sb_Fit f2 → n ≤ n2 → n2 ≤ n + 1 → n2 ≤ c2 → cp ≤ c2 → c2 ≤ 2 * N → W p l e R s m args below meth c H1 locs1 (cells + 1) (2 * c2 - 2 * c0) Q (F0 m (pc + 3) ls rest)) : W p l e R s m args below meth c H locs cells (2 * cp - 2 * c0) Q (F0 m pc ls st0) := by
  refine kt_v hr hX hT (fun u H1 locs1 hu hX1 hT1 => ?_)
  obtain ⟨h0, h1, h2, h3, h4, h5, h6⟩ := hu
  refine W.widen (Nat.le_refl _) (show 2 * cp - 2 * c0 + gm (n + 1) cp ≤ 2 * u.2.2.1 - 2 * c0 by omega) ?_
  refine kk u.1 u.2.1 u.2.2.1 u.2.2.2 H1 locs1 hX1 hT1 h6 h0 h1 h2 h3 ?_
  rcases h5 with h5 | h5
  · rw [h5]; exact hc
  · rw [h5]; exact cap_b hq hc
end KTA2
set_option maxHeartbeats 4000000 in
set_option maxRecDepth 100000 in
theorem n_X4_appendGap (l : Launch) (dC : Nat → ClassId) (dI : Nat → Nat → Nat) (cB : ClassId) (z : Nat) (a b n cp : Nat) (f : Nat → Int32) (hnm : n ≤ cp) (hm : cp ≤ 65536) (hf : sb_Fit f) (h1 : 1 ≤ cp) (hcap : sb_cap (n + 1) cp ≤ 65536) : Met l yX4_appendGap wsX4_appendGap ({ frames := 6, cells := 1, slots := (gm (n + 1) cp), locals := 126 } : Room) (va_Pc [.ref a] (PB dC dI cB z [(a, eSB b n), (b, eBy cB cp f)])) (va_Qv (GapQ2 n cp) (fun u t => PB dC dI cB z [(a, eSB u.1 u.2.1), (u.1, eBy cB u.2.2.1 u.2.2.2)] t) (zB z)) 1 (gm (n + 1) cp) (zB z) := by
  refine ofWF (cc := cX4_appendGap) (maxL := 1) (ret := none) (by decide +kernel) rfl ?_
  intro p e s m args below meth c s₁ B hml hv
  obtain ⟨rfl, hPB⟩ := hv
  have hx := B.exec
  have hb := B.bytes
  have hr := B.returns
  have hts := atoms_spec (ws := wsX4_appendGap) B.pre
  have hown : s.vm.findClass RX4 = some m.cls := findClass_of_methodNamed B.named
  have hlocks := B.notSynchronized
  have hB := WB.of hPB
  have hl := lv_entry ([.ref a]) (n := 1) (Nat.le_of_ble_eq_true rfl)
  rw [lg_entry_eq]
  generalize (lg_sl ([.ref a]) ++ List.replicate (1 - (lg_sl ([.ref a])).length) Slot.unset).toArray = ls at hl ⊢
  have hl : lv_has ls 1 [(0, .ref a)] := hl
  show W p l e ({ frames := 6, cells := 1, slots := (gm (n + 1) cp), locals := 126 } : Room) s m ([.ref a]).toArray below meth c s.heap [] 0 0 (MQ below (va_Qv (GapQ2 n cp) (fun u t => PB dC dI cB z [(a, eSB u.1 u.2.1), (u.1, eBy cB u.2.2.1 u.2.2.2)] t) (zB z)) ([.ref a]).toArray s 1 (gm (n + 1) cp) (zB z)) (F0 m 0 ls [])
  refine lv_aload_n hx hb dX4_appendGap_0 rfl (lv_at hl 0 rfl) ?_
  refine kx_cr (v := nI n) (va_runV (As := []) (rest := []) ⟨hx, hb, hml, hown, hts⟩ (m_J4_length_8abf5 l dC dI cB z ([(a, eSB b n), (b, eBy cB cp f)]) a b n rfl) (cwV 0 hts gX4_appendGap_J4_length_8abf5 rfl rfl rfl hdJ4_length_8abf5_0 ⟨Nat.le_of_ble_eq_true rfl, Nat.le_of_ble_eq_true rfl⟩) (hB.preV (ci := 1) (q := (RJ4, TJ4, 4)) rfl 0 rfl) rfl rfl hl.1 rfl (lv_room (Nat.le_of_ble_eq_true rfl)) dX4_appendGap_1 ⟨Nat.le_of_ble_eq_true rfl, Nat.le_of_ble_eq_true rfl⟩) (fun _ h => h) ?_
  refine kn_if_le (tgt := 14) hx hb (by omega) dX4_appendGap_4 (by decide) (fun k_1 => ?_) (fun k_1 => ?_)
  · skip
    have h0 := k_1
    exact W.widen (k := 1) (n := (gm (n + 1) cp)) (by simp) (by simp) (W.vret hx hb hr (fun t9 ht9 hW9 => ⟨⟨(b, n, cp, f), rfl, ⟨Nat.le_refl _, gap_0 h0 hnm h1 hf⟩, hB.P ht9 hW9⟩, hB.F ht9⟩) hB.L dX4_appendGap_14)
  · skip
    have h0 := k_1
    refine lv_aload_n hx hb dX4_appendGap_7 rfl (lv_at hl 0 rfl) ?_
    refine lv_bipush (v := nI 32) hx hb dX4_appendGap_8 (by decide) ?_
    refine kb_r (va_runV (As := [.int (nI 32)]) (rest := []) ⟨hx, hb, hml, hown, hts⟩ (m_J4_append_cf468 l dC dI cB z a b n cp f (by omega) (by omega) hf 32 (by omega) hcap) (cwV 1 hts gX4_appendGap_J4_append_cf468 rfl rfl rfl hdJ4_append_cf468_1 ⟨Nat.le_of_ble_eq_true rfl, Nat.le_of_ble_eq_true rfl⟩) (hB.preV (ci := 1) (q := (RJ4, TJ4, 4)) rfl 0 rfl) rfl rfl hl.1 rfl (lv_room (Nat.le_of_ble_eq_true rfl)) dX4_appendGap_10 ⟨by simp, by simp⟩) hB (fun u q9 H locs hu hq hB => ?_)
    obtain ⟨b3, f3⟩ := u
    rw [hq]
    replace hB : WB dC dI cB z [(a, eSB b3 (n + 1)), (b3, eBy cB (sb_cap (n + 1) cp) f3)] s H locs := hB
    have hf : sb_Fit f3 := hu
    refine lv_pop hx hb dX4_appendGap_13 rfl ?_
    exact W.widen (k := 1) (n := (gm (n + 1) cp)) (by simp) (by simp) (W.vret hx hb hr (fun t9 ht9 hW9 => ⟨⟨(b3, n + 1, sb_cap (n + 1) cp, f3), rfl, ⟨Nat.le_succ _, gap_1 hf⟩, hB.P ht9 hW9⟩, hB.F ht9⟩) hB.L dX4_appendGap_14)
set_option maxHeartbeats 4000000 in
set_option maxRecDepth 100000 in
theorem n_X2_appendLot (l : Launch) (dC : Nat → ClassId) (dI : Nat → Nat → Nat) (cB : ClassId) (ad : Nat → Nat) (S : XS) (i j r9 : Nat) (z a9 b n cp : Nat) (f : Nat → Int32) (hi : i < 8) (hj : j < 6) (hr9 : r9 ≤ 16) (hI : InvX S) (hn0 : n + 10 ≤ 160) (hnm : n ≤ cp) (hc9 : 16 ≤ cp ∧ cp ≤ 2 * (n + 8)) (hf : sb_Fit f) : Met l yX2_appendLot wsX2_appendLot ({ frames := 7, cells := 4, slots := 2 * n + 72, locals := 146 } : Room) (va_Pc [.ref (ad (3 * i)), .ref a9, .ref (ad (24 + 5 * j)), .int (nI r9)] (PL dC dI cB ad S z a9 b n cp f)) (va_Qv (LotQ2 n cp) (fun u t => PX dC dI ad S t ∧ PB dC dI cB z [(a9, eSB u.1 u.2.1), (u.1, eBy cB u.2.2.1 u.2.2.2)] t) (AZ ad z)) 4 (2 * n + 72) (AZ ad z) := by
  refine Met.ofW (cc := cX2_appendLot) (maxL := 7) (ret := none) pl_X2 rfl ?_
  intro p e s m args below meth c s₁ B hml hv
  obtain ⟨rfl, hPT⟩ := hv
  have hx := B.exec
  have hb := B.bytes
  have hr := B.returns
  have hts := atoms_spec (ws := wsX2_appendLot) B.pre
  have hown : s.vm.findClass RX2 = some m.cls := findClass_of_methodNamed B.named
  have hlocks := B.notSynchronized
  have hin2 : ∀ w ∈ u_ws RX2 TX2 3, w ∈ wsX2_appendLot := tu 1322 (by decide +kernel) rfl
  have hN : NT s := hPT.2.2.2.2
  have hX := WX.ofL hPT
  have hT := TB.ofL hPT
  have hl := lv_entry ([.ref (ad (3 * i)), .ref a9, .ref (ad (24 + 5 * j)), .int (nI r9)]) (n := 7) (Nat.le_of_ble_eq_true rfl)
  rw [lg_entry_eq]
  generalize (lg_sl ([.ref (ad (3 * i)), .ref a9, .ref (ad (24 + 5 * j)), .int (nI r9)]) ++ List.replicate (7 - (lg_sl ([.ref (ad (3 * i)), .ref a9, .ref (ad (24 + 5 * j)), .int (nI r9)])).length) Slot.unset).toArray = ls at hl ⊢
  have hl : lv_has ls 7 [(0, .ref (ad (3 * i))), (1, .ref a9), (2, .ref (ad (24 + 5 * j))), (3, .int (nI r9))] := hl
  show W p l e ({ frames := 7, cells := 4, slots := 2 * n + 72, locals := 146 } : Room) s m ([.ref (ad (3 * i)), .ref a9, .ref (ad (24 + 5 * j)), .int (nI r9)]).toArray below meth c s.heap [] 0 0 (MQ below (va_Qv (LotQ2 n cp) (fun u t => PX dC dI ad S t ∧ PB dC dI cB z [(a9, eSB u.1 u.2.1), (u.1, eBy cB u.2.2.1 u.2.2.2)] t) (AZ ad z)) ([.ref (ad (3 * i)), .ref a9, .ref (ad (24 + 5 * j)), .int (nI r9)]).toArray s 4 (2 * n + 72) (AZ ad z)) (F0 m 0 ls [])
  have hn := (hI.1 i (by omega)).1
  refine lv_iconst (v := (-1)) hx hb dX2_appendLot_0 (by decide) ?_
  refine lv_istore (lv' := [(4, .int (-1)), (0, .ref (ad (3 * i))), (1, .ref a9), (2, .ref (ad (24 + 5 * j))), (3, .int (nI r9))]) hx hb dX2_appendLot_1 hl (by decide) rfl (fun ls hl => ?_)
  refine lv_iconst (v := nI 0) hx hb dX2_appendLot_3 (by decide) ?_
  refine lv_istore (lv' := [(5, .int (nI 0)), (4, .int (-1)), (0, .ref (ad (3 * i))), (1, .ref a9), (2, .ref (ad (24 + 5 * j))), (3, .int (nI r9))]) hx hb dX2_appendLot_4 hl (by decide) rfl (fun ls hl => ?_)
  refine lv_iconst (v := nI 0) hx hb dX2_appendLot_6 (by decide) ?_
  refine lv_istore (lv' := [(6, .int (nI 0)), (5, .int (nI 0)), (4, .int (-1)), (0, .ref (ad (3 * i))), (1, .ref a9), (2, .ref (ad (24 + 5 * j))), (3, .int (nI r9))]) hx hb dX2_appendLot_7 hl (by decide) rfl (fun ls hl => ?_)
  have loop9 : ∀ (fuel : Nat) (x4 : Int32) (cn k : Nat) (b1 n1 c1 : Nat) (f1 : Nat → Int32) (hk : k ≤ (S.1 i).2.2) (hcn : cn ≤ k ∧ (0 < cn → x4 ≠ -1)) (hx4 : x4 = -1 ∨ ∃ q, q < (S.1 i).2.2 ∧ x4 = nI q) (hnc : n1 = n ∧ n1 ≤ c1 ∧ c1 = cp) (hf : sb_Fit f1) (H : Heap) (locs : List Loc), (S.1 i).2.2 - k < fuel → WX dC dI ad S (AZ ad z) s H locs → TB dC dI cB ad z [(a9, eSB b1 n1), (b1, eBy cB c1 f1)] s H → ∀ ls : Array Slot, lv_has ls 7 [(0, .ref (ad (3 * i))), (1, .ref a9), (2, .ref (ad (24 + 5 * j))), (3, .int (nI r9)), (4, .int x4), (5, .int (nI cn)), (6, .int (nI k))] → W p l e ({ frames := 7, cells := 4, slots := 2 * n + 72, locals := 146 } : Room) s m ([.ref (ad (3 * i)), .ref a9, .ref (ad (24 + 5 * j)), .int (nI r9)]).toArray below meth c H locs (0) (2 * c1 - 2 * cp) (MQ below (va_Qv (LotQ2 n cp) (fun u t => PX dC dI ad S t ∧ PB dC dI cB z [(a9, eSB u.1 u.2.1), (u.1, eBy cB u.2.2.1 u.2.2.2)] t) (AZ ad z)) ([.ref (ad (3 * i)), .ref a9, .ref (ad (24 + 5 * j)), .int (nI r9)]).toArray s 4 (2 * n + 72) (AZ ad z)) (F0 m 9 ls []) := by
    intro fuel
    induction fuel with
    | zero => intro x4 cn k b1 n1 c1 f1 hk hcn hx4 hnc hf H locs hf9; exact absurd hf9 (Nat.not_lt_zero _)
    | succ fuel ih9 =>
      intro x4 cn k b1 n1 c1 f1 hk hcn hx4 hnc hf H locs hf9 hX hT ls hl
      refine lv_iload hx hb dX2_appendLot_9 (lv_at hl 6 rfl) ?_
      refine lv_aload_n hx hb dX2_appendLot_11 rfl (lv_at hl 0 rfl) ?_
      refine kr_gn (n := (S.1 i).2.2) hx hb hts hin2 hown hX (by omega) rfl (hts (.fieldLink RX2 18 "Orderlattice$Row" "many" "I") (tm 27 (by decide +kernel) rfl)) dX2_appendLot_12 ?_
      refine kn_icmp_ge (tgt := 56) hx hb (by omega) (by omega) dX2_appendLot_15 (by decide) (fun k_1 => ?_) (fun k_1 => ?_)
      · skip
        refine lv_iload hx hb dX2_appendLot_56 (lv_at hl 5 rfl) ?_
        refine kn_if_le (tgt := 86) hx hb (by omega) dX2_appendLot_58 (by decide) (fun k_2 => ?_) (fun k_2 => ?_)
        · skip
          exact W.widen (k := 4) (n := 2 * n + 72) (by omega) (by omega) (W.vret hx hb hr (fun t9 ht9 hW9 => ⟨⟨(b1, n1, c1, f1), rfl, ⟨by show n1 ≤ n + 10; omega, by show n1 ≤ c1; omega, by show cp ≤ c1; omega, by show c1 ≤ 2 * (n1 + 8); omega, hf⟩, hX.P ht9 hW9, hT.toPB hX ht9 hW9⟩, hX.2.2.2.F ht9⟩) hX.2.2.2.2.2 dX2_appendLot_86)
        · skip
          obtain ⟨q5, hq5, hq6⟩ := hx4.resolve_left (hcn.2 (by omega))
          subst hq6
          have hm9 := ((hI.1 i (by omega)).2 q5 (by omega)).2
          have hd1 := dg6 (v := (S.1 i).2.1 q5) (by omega)
          have hd2 := dg2 (v := cn) (by omega)
          have hd3 := dg_1 ((S.1 i).2.1 q5)
          have hd4 := dg_1 cn
          refine lv_aload_n hx hb dX2_appendLot_61 rfl (lv_at hl 1 rfl) ?_
          have hcb := cap_b (q := n1 + 1) (cp := c1) (Q := (n1 + 1 + 8)) (by omega) (by omega)
          refine kt_gap2 (c0 := cp) (n1 + 1 + 8) (va_runSN (As := [.ref a9]) (rest := []) ⟨hx, hb, hml, hown, hts⟩ (n_X4_appendGap l dC dI cB z a9 b1 n1 c1 f1 (by omega) (by omega) hf (by omega) (by omega)) ⟨va_cnB 1 hts gX2_appendLot_X4_appendGap_n65 rfl rfl rfl hN.1 (hts (.initialized RX4) (tm 421 (by decide +kernel) rfl)) (by decide +kernel) ⟨Nat.le_of_ble_eq_true rfl, Nat.le_of_ble_eq_true rfl⟩, hts (.static yX4_appendGap) (by decide +kernel), trivial⟩ (hT.preS hX) rfl rfl hl.1 rfl (lv_room (Nat.le_of_ble_eq_true rfl)) dX2_appendLot_62 ⟨by show _ ≤ 4; omega, by show _ ≤ 2 * n + 72; have := gm_pot (n1 + 1) c1; omega⟩) hX hT (by omega) (by omega) (by omega) (fun b_3 n_3 c_3 f_3 H locs hX hT hf _ _ _ _ _ => ?_)
          refine lv_aload_n hx hb dX2_appendLot_65 rfl (lv_at hl 1 rfl) ?_
          refine lv_aload_n hx hb dX2_appendLot_66 rfl (lv_at hl 0 rfl) ?_
          refine lv_iload hx hb dX2_appendLot_67 (lv_at hl 4 rfl) ?_
          refine kx_cr (v := nI (((S.1 i).2.1) q5)) (va_runV (As := [.int (nI q5)]) (rest := [.ref a9]) ⟨hx, hb, hml, hown, hts⟩ (m_X2_markOn l dC dI ad S i q5 (by omega) (by omega)) (cwV 1 hts gX2_appendLot_X2_markOn rfl rfl rfl hdX2_markOn_1 ⟨Nat.le_of_ble_eq_true rfl, Nat.le_of_ble_eq_true rfl⟩) (hX.preRow (by omega)) rfl rfl hl.1 rfl (lv_room (Nat.le_of_ble_eq_true rfl)) dX2_appendLot_69 ⟨by show _ ≤ 4; omega, by show _ ≤ 2 * n + 72; omega⟩) (fun _ h => h) ?_
          have hcb := cap_b (q := n_3 + sb_dg (((S.1 i).2.1) q5)) (cp := c_3) (Q := (n_3 + sb_dg (((S.1 i).2.1) q5) + 8)) (by omega) (by omega)
          refine kt_app2 (c0 := cp) (n2 := n_3 + sb_dg (((S.1 i).2.1) q5)) (n_3 + sb_dg (((S.1 i).2.1) q5) + 8) (va_runV (As := [.int (nI (((S.1 i).2.1) q5))]) (rest := []) ⟨hx, hb, hml, hown, hts⟩ (m_J4_append_bf812 l dC dI cB z a9 b_3 n_3 c_3 f_3 (by omega) (by omega) hf (((S.1 i).2.1) q5) (by omega) (by omega)) (cwV 1 hts gX2_appendLot_J4_append_bf812 rfl rfl rfl hdJ4_append_bf812_1 ⟨Nat.le_of_ble_eq_true rfl, Nat.le_of_ble_eq_true rfl⟩) (hT.preV hX (ci := 1) (q := (RJ4, TJ4, 4)) rfl 0 rfl) rfl rfl hl.1 rfl (lv_room (Nat.le_of_ble_eq_true rfl)) dX2_appendLot_72 ⟨by show _ ≤ 4; omega, by show _ ≤ 2 * n + 72; have := gm_pot (n_3 + sb_dg (((S.1 i).2.1) q5)) c_3; omega⟩) hX hT (by omega) (by omega) (by omega) (fun b_4 c_4 f_4 H locs hX hT hf _ _ _ => ?_)
          refine lv_bipush (v := nI 58) hx hb dX2_appendLot_75 (by decide) ?_
          have hcb := cap_b (q := n_3 + sb_dg (((S.1 i).2.1) q5) + 1) (cp := c_4) (Q := (n_3 + sb_dg (((S.1 i).2.1) q5) + 1 + 8)) (by omega) (by omega)
          refine kt_app2 (c0 := cp) (n2 := n_3 + sb_dg (((S.1 i).2.1) q5) + 1) (n_3 + sb_dg (((S.1 i).2.1) q5) + 1 + 8) (va_runV (As := [.int (nI 58)]) (rest := []) ⟨hx, hb, hml, hown, hts⟩ (m_J4_append_cf468 l dC dI cB z a9 b_4 (n_3 + sb_dg (((S.1 i).2.1) q5)) c_4 f_4 (by omega) (by omega) hf 58 (by omega) (by omega)) (cwV 1 hts gX2_appendLot_J4_append_cf468 rfl rfl rfl hdJ4_append_cf468_1 ⟨Nat.le_of_ble_eq_true rfl, Nat.le_of_ble_eq_true rfl⟩) (hT.preV hX (ci := 1) (q := (RJ4, TJ4, 4)) rfl 0 rfl) rfl rfl hl.1 rfl (lv_room (Nat.le_of_ble_eq_true rfl)) dX2_appendLot_77 ⟨by show _ ≤ 4; omega, by show _ ≤ 2 * n + 72; have := gm_pot (n_3 + sb_dg (((S.1 i).2.1) q5) + 1) c_4; omega⟩) hX hT (by omega) (by omega) (by omega) (fun b_5 c_5 f_5 H locs hX hT hf _ _ _ => ?_)
          refine lv_iload hx hb dX2_appendLot_80 (lv_at hl 5 rfl) ?_
          have hcb := cap_b (q := n_3 + sb_dg (((S.1 i).2.1) q5) + 1 + sb_dg cn) (cp := c_5) (Q := (n_3 + sb_dg (((S.1 i).2.1) q5) + 1 + sb_dg cn + 8)) (by omega) (by omega)
          refine kt_app2 (c0 := cp) (n2 := n_3 + sb_dg (((S.1 i).2.1) q5) + 1 + sb_dg cn) (n_3 + sb_dg (((S.1 i).2.1) q5) + 1 + sb_dg cn + 8) (va_runV (As := [.int (nI cn)]) (rest := []) ⟨hx, hb, hml, hown, hts⟩ (m_J4_append_bf812 l dC dI cB z a9 b_5 (n_3 + sb_dg (((S.1 i).2.1) q5) + 1) c_5 f_5 (by omega) (by omega) hf cn (by omega) (by omega)) (cwV 1 hts gX2_appendLot_J4_append_bf812 rfl rfl rfl hdJ4_append_bf812_1 ⟨Nat.le_of_ble_eq_true rfl, Nat.le_of_ble_eq_true rfl⟩) (hT.preV hX (ci := 1) (q := (RJ4, TJ4, 4)) rfl 0 rfl) rfl rfl hl.1 rfl (lv_room (Nat.le_of_ble_eq_true rfl)) dX2_appendLot_82 ⟨by show _ ≤ 4; omega, by show _ ≤ 2 * n + 72; have := gm_pot (n_3 + sb_dg (((S.1 i).2.1) q5) + 1 + sb_dg cn) c_5; omega⟩) hX hT (by omega) (by omega) (by omega) (fun b_6 c_6 f_6 H locs hX hT hf _ _ _ => ?_)
          refine lv_pop hx hb dX2_appendLot_85 rfl ?_
          exact W.widen (k := 4) (n := 2 * n + 72) (by omega) (by omega) (W.vret hx hb hr (fun t9 ht9 hW9 => ⟨⟨(b_6, n_3 + sb_dg (((S.1 i).2.1) q5) + 1 + sb_dg cn, c_6, f_6), rfl, ⟨by show n_3 + sb_dg (((S.1 i).2.1) q5) + 1 + sb_dg cn ≤ n + 10; omega, by show n_3 + sb_dg (((S.1 i).2.1) q5) + 1 + sb_dg cn ≤ c_6; omega, by show cp ≤ c_6; omega, by show c_6 ≤ 2 * (n_3 + sb_dg (((S.1 i).2.1) q5) + 1 + sb_dg cn + 8); omega, hf⟩, hX.P ht9 hW9, hT.toPB hX ht9 hW9⟩, hX.2.2.2.F ht9⟩) hX.2.2.2.2.2 dX2_appendLot_86)
      · skip
        have hv9 := (hI.1 i (by omega)).2 k (by omega)
        have hrk := ordOK.rnk (hI.2 j (by omega)) hv9.1
        refine lv_aload_n hx hb dX2_appendLot_18 rfl (lv_at hl 2 rfl) ?_
        refine lv_aload_n hx hb dX2_appendLot_19 rfl (lv_at hl 0 rfl) ?_
        refine lv_iload hx hb dX2_appendLot_20 (lv_at hl 6 rfl) ?_
        refine kx_cr (v := nI (((S.1 i).1) k)) (va_runV (As := [.int (nI k)]) (rest := [.ref (ad (24 + 5 * j))]) ⟨hx, hb, hml, hown, hts⟩ (m_X2_valueOn l dC dI ad S i k (by omega) (by omega)) (cwV 1 hts gX2_appendLot_X2_valueOn rfl rfl rfl hdX2_valueOn_1 ⟨Nat.le_of_ble_eq_true rfl, Nat.le_of_ble_eq_true rfl⟩) (hX.preRow (by omega)) rfl rfl hl.1 rfl (lv_room (Nat.le_of_ble_eq_true rfl)) dX2_appendLot_22 ⟨by show _ ≤ 4; omega, by show _ ≤ 2 * n + 72; omega⟩) (fun _ h => h) ?_
        refine kx_cr (v := nI (((S.2.1 j).2.2.2.1) (((S.1 i).1) k))) (va_runV (As := [.int (nI (((S.1 i).1) k))]) (rest := []) ⟨hx, hb, hml, hown, hts⟩ (m_X1_rankOf l dC dI ad S j (((S.1 i).1) k) (by omega) (by omega)) (cwV 1 hts gX2_appendLot_X1_rankOf rfl rfl rfl hdX1_rankOf_1 ⟨Nat.le_of_ble_eq_true rfl, Nat.le_of_ble_eq_true rfl⟩) (hX.preOrd (by omega)) rfl rfl hl.1 rfl (lv_room (Nat.le_of_ble_eq_true rfl)) dX2_appendLot_25 ⟨by show _ ≤ 4; omega, by show _ ≤ 2 * n + 72; omega⟩) (fun _ h => h) ?_
        refine lv_iload_n hx hb dX2_appendLot_28 rfl (lv_at hl 3 rfl) ?_
        refine kn_icmp_ne (tgt := 50) hx hb (by omega) (by omega) dX2_appendLot_29 (by decide) (fun k_7 => ?_) (fun k_7 => ?_)
        · skip
          refine lv_iinc (v := nI (k + 1)) (lv' := [(6, .int (nI (k + 1))), (0, .ref (ad (3 * i))), (1, .ref a9), (2, .ref (ad (24 + 5 * j))), (3, .int (nI r9)), (4, .int x4), (5, .int (nI cn))]) hx hb dX2_appendLot_50 hl (k := 6) rfl (nI_1 k) (by decide) rfl (fun ls hl => ?_)
          refine lv_goto (tgt := 9) hx hb dX2_appendLot_53 (by decide) ?_
          refine W.widen (k := 0) (n := 2 * c1 - 2 * cp) (by omega) (by omega) ?_
          exact ih9  x4 cn (k + 1) b1 n1 c1 f1 (by omega) ⟨by omega, hcn.2⟩ hx4 (by omega) hf _ _ (by omega) hX hT _ (lv_sub hl [1, 2, 3, 4, 5, 6, 0] rfl)
        · skip
          refine lv_iload hx hb dX2_appendLot_32 (lv_at hl 4 rfl) ?_
          refine lv_iconst (v := (-1)) hx hb dX2_appendLot_34 (by decide) ?_
          refine lv_icmp_ne (tgt := 43) hx hb dX2_appendLot_35 (by decide) (fun k_8 => ?_) (fun k_8 => ?_)
          · skip
            have h35 := k_8
            refine lv_iload hx hb dX2_appendLot_43 (lv_at hl 4 rfl) ?_
            refine lv_istore (lv' := [(4, .int x4), (0, .ref (ad (3 * i))), (1, .ref a9), (2, .ref (ad (24 + 5 * j))), (3, .int (nI r9)), (5, .int (nI cn)), (6, .int (nI k))]) hx hb dX2_appendLot_45 hl (by decide) rfl (fun ls hl => ?_)
            refine lv_iinc (v := nI (cn + 1)) (lv' := [(5, .int (nI (cn + 1))), (4, .int x4), (0, .ref (ad (3 * i))), (1, .ref a9), (2, .ref (ad (24 + 5 * j))), (3, .int (nI r9)), (6, .int (nI k))]) hx hb dX2_appendLot_47 hl (k := 5) rfl (nI_1 cn) (by decide) rfl (fun ls hl => ?_)
            refine lv_iinc (v := nI (k + 1)) (lv' := [(6, .int (nI (k + 1))), (5, .int (nI (cn + 1))), (4, .int x4), (0, .ref (ad (3 * i))), (1, .ref a9), (2, .ref (ad (24 + 5 * j))), (3, .int (nI r9))]) hx hb dX2_appendLot_50 hl (k := 6) rfl (nI_1 k) (by decide) rfl (fun ls hl => ?_)
            refine lv_goto (tgt := 9) hx hb dX2_appendLot_53 (by decide) ?_
            refine W.widen (k := 0) (n := 2 * c1 - 2 * cp) (by omega) (by omega) ?_
            exact ih9  x4 (cn + 1) (k + 1) b1 n1 c1 f1 (by omega) ⟨by omega, fun _ => h35⟩ hx4 (by omega) hf _ _ (by omega) hX hT _ (lv_sub hl [3, 4, 5, 6, 2, 1, 0] rfl)
          · skip
            have h35 := k_8
            refine lv_iload hx hb dX2_appendLot_38 (lv_at hl 6 rfl) ?_
            refine lv_goto (tgt := 45) hx hb dX2_appendLot_40 (by decide) ?_
            refine lv_istore (lv' := [(4, .int (nI k)), (0, .ref (ad (3 * i))), (1, .ref a9), (2, .ref (ad (24 + 5 * j))), (3, .int (nI r9)), (5, .int (nI cn)), (6, .int (nI k))]) hx hb dX2_appendLot_45 hl (by decide) rfl (fun ls hl => ?_)
            refine lv_iinc (v := nI (cn + 1)) (lv' := [(5, .int (nI (cn + 1))), (4, .int (nI k)), (0, .ref (ad (3 * i))), (1, .ref a9), (2, .ref (ad (24 + 5 * j))), (3, .int (nI r9)), (6, .int (nI k))]) hx hb dX2_appendLot_47 hl (k := 5) rfl (nI_1 cn) (by decide) rfl (fun ls hl => ?_)
            refine lv_iinc (v := nI (k + 1)) (lv' := [(6, .int (nI (k + 1))), (5, .int (nI (cn + 1))), (4, .int (nI k)), (0, .ref (ad (3 * i))), (1, .ref a9), (2, .ref (ad (24 + 5 * j))), (3, .int (nI r9))]) hx hb dX2_appendLot_50 hl (k := 6) rfl (nI_1 k) (by decide) rfl (fun ls hl => ?_)
            refine lv_goto (tgt := 9) hx hb dX2_appendLot_53 (by decide) ?_
            refine W.widen (k := 0) (n := 2 * c1 - 2 * cp) (by omega) (by omega) ?_
            exact ih9  (nI k) (cn + 1) (k + 1) b1 n1 c1 f1 (by omega) ⟨by omega, fun _ => nI_nm1 (by omega)⟩ (Or.inr ⟨k, by omega, rfl⟩) (by omega) hf _ _ (by omega) hX hT _ (lv_sub hl [3, 4, 5, 6, 2, 1, 0] rfl)
  refine W.widen (k := 0) (n := 2 * cp - 2 * cp) (by omega) (by omega) ?_
  exact loop9 ((S.1 i).2.2 + 1) (-1) 0 0 b n cp f (by omega) ⟨by omega, fun h9 => absurd h9 (by omega)⟩ (Or.inl rfl) (by omega) hf _ _ (by omega) hX hT _ (lv_sub hl [3, 4, 5, 6, 2, 1, 0] rfl)
set_option maxHeartbeats 4000000 in
set_option maxRecDepth 100000 in
theorem n_X2_lotsTold (l : Launch) (dC : Nat → ClassId) (dI : Nat → Nat → Nat) (cB : ClassId) (ad : Nat → Nat) (S : XS) (i j : Nat) (hi : i < 8) (hj : j < 6) (hI : InvX S) : Met l yX2_lotsTold wsX2_lotsTold ({ frames := 8, cells := 80, slots := 3752, locals := 172 } : Room) (va_Pc [.ref (ad (3 * i)), .ref (ad (24 + 5 * j))] (PT dC dI cB ad S)) (va_Qr (fun S1 : XS => S1 = S) (fun S1 _ t => PX dC dI ad S1 t) (AX ad)) 80 3752 (AX ad) := by
  refine Met.ofW (cc := cX2_lotsTold) (maxL := 4) (ret := (some (.object "java/lang/String"))) pl_X2 rfl ?_
  intro p e s m args below meth c s₁ B hml hv
  obtain ⟨rfl, hPT⟩ := hv
  have hx := B.exec
  have hb := B.bytes
  have hr := B.returns
  have hts := atoms_spec (ws := wsX2_lotsTold) B.pre
  have hown : s.vm.findClass RX2 = some m.cls := findClass_of_methodNamed B.named
  have hlocks := B.notSynchronized
  have hinJ4 : ∀ w ∈ u_ws RJ4 TJ4 4, w ∈ wsX2_lotsTold := tu 1326 (by decide +kernel) rfl
  have hN : NT s := hPT.2.2.2
  have hX := WX.ofT hPT
  have hT := TB.of hPT
  have hl := lv_entry ([.ref (ad (3 * i)), .ref (ad (24 + 5 * j))]) (n := 4) (Nat.le_of_ble_eq_true rfl)
  rw [lg_entry_eq]
  generalize (lg_sl ([.ref (ad (3 * i)), .ref (ad (24 + 5 * j))]) ++ List.replicate (4 - (lg_sl ([.ref (ad (3 * i)), .ref (ad (24 + 5 * j))])).length) Slot.unset).toArray = ls at hl ⊢
  have hl : lv_has ls 4 [(0, .ref (ad (3 * i))), (1, .ref (ad (24 + 5 * j)))] := hl
  show W p l e ({ frames := 8, cells := 80, slots := 3752, locals := 172 } : Room) s m ([.ref (ad (3 * i)), .ref (ad (24 + 5 * j))]).toArray below meth c s.heap [] 0 0 (MQ below (va_Qr (fun S1 : XS => S1 = S) (fun S1 _ t => PX dC dI ad S1 t) (AX ad)) ([.ref (ad (3 * i)), .ref (ad (24 + 5 * j))]).toArray s 80 3752 (AX ad)) (F0 m 0 ls [])
  have hcl := ordOK.cls (hI.2 j (by omega))
  refine kt_new hx hb hts hinJ4 hown (hts (.classLink RX2 62 RJ4) (tm 432 (by decide +kernel) rfl)) (hts (.instantiable RJ4 4) (tm 374 (by decide +kernel) rfl)) (hts (.initialized RJ4) (tm 328 (by decide +kernel) rfl)) hX hT (by show _ ≤ 80; omega) (by show _ ≤ 3752; omega) dX2_lotsTold_0 (fun a9 H hX hT => ?_)
  refine lv_dup hx hb dX2_lotsTold_3 rfl ?_
  refine kt_v (va_runI (As := []) (rest := [.ref a9]) ⟨hx, hb, hml, hown, hts⟩ (m_J4_init_da8c8 l dC dI cB s.heap.size a9) (cwI 0 hts gX2_lotsTold_J4_init_da8c8 rfl rfl rfl (hts (.initialized yJ4_init_da8c8.cls) (tm 328 (by decide +kernel) rfl)) (hts (.methodLink RX2 64 yJ4_init_da8c8) (tm 433 (by decide +kernel) rfl)) (hts (.instanceMethod yJ4_init_da8c8) (tm 414 (by decide +kernel) rfl)) rfl (by decide +kernel) ⟨Nat.le_of_ble_eq_true rfl, Nat.le_of_ble_eq_true rfl⟩) (hT.preS hX) rfl rfl hl.1 rfl (lv_room (Nat.le_of_ble_eq_true rfl)) dX2_lotsTold_4 ⟨by show _ ≤ 80; omega, by show _ ≤ 3752; omega⟩) hX hT (fun b0 H locs _ hX hT => ?_)
  refine W.widen (k := 2) (n := 36) (by omega) (by omega) ?_
  have hf : sb_Fit (fun _ => 0) := sb_fit0
  refine lv_astore_n (lv' := [(2, .ref a9), (0, .ref (ad (3 * i))), (1, .ref (ad (24 + 5 * j)))]) hx hb dX2_lotsTold_7 rfl hl (by decide) rfl (fun ls hl => ?_)
  refine lv_iconst (v := nI 0) hx hb dX2_lotsTold_8 (by decide) ?_
  refine lv_istore_n (lv' := [(3, .int (nI 0)), (2, .ref a9), (0, .ref (ad (3 * i))), (1, .ref (ad (24 + 5 * j)))]) hx hb dX2_lotsTold_9 rfl hl (by decide) rfl (fun ls hl => ?_)
  have loop10 : ∀ (fuel : Nat) (k : Nat) (b1 n1 c1 : Nat) (f1 : Nat → Int32) (hk : k ≤ 16) (hn1 : n1 ≤ 10 * k) (hnc : n1 ≤ c1 ∧ 16 ≤ c1 ∧ c1 ≤ 2 * (n1 + 8)) (hf : sb_Fit f1) (H : Heap) (locs : List Loc), 16 - k < fuel → WX dC dI ad S (AZ ad s.heap.size) s H locs → TB dC dI cB ad s.heap.size [(a9, eSB b1 n1), (b1, eBy cB c1 f1)] s H → ∀ ls : Array Slot, lv_has ls 4 [(0, .ref (ad (3 * i))), (1, .ref (ad (24 + 5 * j))), (2, .ref a9), (3, .int (nI k))] → W p l e ({ frames := 8, cells := 80, slots := 3752, locals := 172 } : Room) s m ([.ref (ad (3 * i)), .ref (ad (24 + 5 * j))]).toArray below meth c H locs (2 + 4 * k) (36 + slL k) (MQ below (va_Qr (fun S1 : XS => S1 = S) (fun S1 _ t => PX dC dI ad S1 t) (AX ad)) ([.ref (ad (3 * i)), .ref (ad (24 + 5 * j))]).toArray s 80 3752 (AX ad)) (F0 m 10 ls []) := by
    intro fuel
    induction fuel with
    | zero => intro k b1 n1 c1 f1 hk hn1 hnc hf H locs hf9; exact absurd hf9 (Nat.not_lt_zero _)
    | succ fuel ih10 =>
      intro k b1 n1 c1 f1 hk hn1 hnc hf H locs hf9 hX hT ls hl
      have hs7 : slL k ≤ 3552 := Nat.le_trans (slL_mono (show k ≤ 16 by omega)) (by decide)
      refine lv_iload_n hx hb dX2_lotsTold_10 rfl (lv_at hl 3 rfl) ?_
      refine lv_aload_n hx hb dX2_lotsTold_11 rfl (lv_at hl 1 rfl) ?_
      refine kx_cr (v := nI ((S.2.1 j).2.2.2.2.2)) (va_runV (As := []) (rest := [.int (nI k)]) ⟨hx, hb, hml, hown, hts⟩ (m_X1_classCount l dC dI ad S j  (by omega)) (cwV 0 hts gX2_lotsTold_X1_classCount rfl rfl rfl hdX1_classCount_0 ⟨Nat.le_of_ble_eq_true rfl, Nat.le_of_ble_eq_true rfl⟩) (hX.preOrd (by omega)) rfl rfl hl.1 rfl (lv_room (Nat.le_of_ble_eq_true rfl)) dX2_lotsTold_12 ⟨by show _ ≤ 80; omega, by show _ ≤ 3752; omega⟩) (fun _ h => h) ?_
      refine kn_icmp_ge (tgt := 31) hx hb (by omega) (by omega) dX2_lotsTold_15 (by decide) (fun k_1 => ?_) (fun k_1 => ?_)
      · skip
        refine lv_aload_n hx hb dX2_lotsTold_31 rfl (lv_at hl 2 rfl) ?_
        refine kt_r (va_runV (As := []) (rest := []) ⟨hx, hb, hml, hown, hts⟩ (m_J4_toString_0e30d l dC dI cB s.heap.size a9 b1 n1 c1 f1 (by omega) (by omega) hf) (cwV 0 hts gX2_lotsTold_J4_toString_0e30d rfl rfl rfl hdJ4_toString_0e30d_0 ⟨Nat.le_of_ble_eq_true rfl, Nat.le_of_ble_eq_true rfl⟩) (hT.preV hX (ci := 1) (q := (RJ4, TJ4, 4)) rfl 0 rfl) rfl rfl hl.1 rfl (lv_room (Nat.le_of_ble_eq_true rfl)) dX2_lotsTold_32 ⟨by show _ ≤ 80; omega, by show _ ≤ 3752; omega⟩) hX hT (fun _ q9 H locs _ _ hX hT => ?_)
        exact W.widen (k := 80) (n := 3752) (by omega) (by omega) (W.filt (fun locs1 hl1 => W.aret (v := .ref q9) hx hb hr (Or.inl ⟨_, rfl⟩) (Or.inr ⟨_, rfl⟩) (fun t9 ht9 hW9 => ⟨⟨S, _, rfl, rfl, hX.P ht9 hW9⟩, (hX.2.2.2.F ht9).X⟩) (free_X hX.2.2.2 hl1) dX2_lotsTold_35))
      · skip
        refine lv_aload_n hx hb dX2_lotsTold_18 rfl (lv_at hl 0 rfl) ?_
        refine lv_aload_n hx hb dX2_lotsTold_19 rfl (lv_at hl 2 rfl) ?_
        refine lv_aload_n hx hb dX2_lotsTold_20 rfl (lv_at hl 1 rfl) ?_
        refine lv_iload_n hx hb dX2_lotsTold_21 rfl (lv_at hl 3 rfl) ?_
        have hs8 := slL_s k
        have hs9 : slL (k + 1) ≤ 3552 := Nat.le_trans (slL_mono (show k + 1 ≤ 16 by omega)) (by decide)
        refine kt_l (va_runV (As := [.ref a9, .ref (ad (24 + 5 * j)), .int (nI k)]) (rest := []) ⟨hx, hb, hml, hown, hts⟩ (n_X2_appendLot l dC dI cB ad S i j k s.heap.size a9 b1 n1 c1 f1 (by omega) (by omega) (by omega) hI (by omega) (by omega) (by omega) hf) (cwV 3 hts gX2_lotsTold_X2_appendLot rfl rfl rfl hdX2_appendLot_3 ⟨Nat.le_of_ble_eq_true rfl, Nat.le_of_ble_eq_true rfl⟩) (hT.preLot hX hN (by omega)) rfl rfl hl.1 rfl (lv_room (Nat.le_of_ble_eq_true rfl)) dX2_lotsTold_22 ⟨by show _ + 4 ≤ 80; omega, by show _ + (2 * n1 + 72) ≤ 3752; omega⟩) hX hT (fun u_2 H locs hu hX hT => ?_)
        obtain ⟨b_2, n_2, c_2, f_2⟩ := u_2
        obtain ⟨hu1, hu2, hu3, hu4, hf⟩ := hu
        replace hu1 : n_2 ≤ n1 + 10 := hu1
        replace hu2 : n_2 ≤ c_2 := hu2
        replace hu3 : c1 ≤ c_2 := hu3
        replace hu4 : c_2 ≤ 2 * (n_2 + 8) := hu4
        replace hf : sb_Fit f_2 := hf
        refine lv_iinc (v := nI (k + 1)) (lv' := [(3, .int (nI (k + 1))), (0, .ref (ad (3 * i))), (1, .ref (ad (24 + 5 * j))), (2, .ref a9)]) hx hb dX2_lotsTold_25 hl (k := 3) rfl (nI_1 k) (by decide) rfl (fun ls hl => ?_)
        refine lv_goto (tgt := 10) hx hb dX2_lotsTold_28 (by decide) ?_
        refine W.widen (k := 2 + 4 * (k + 1)) (n := 36 + slL (k + 1)) (by omega) (by omega) ?_
        exact ih10  (k + 1) b_2 n_2 c_2 f_2 (by omega) (by omega) (by omega) hf _ _ (by omega) hX hT _ (lv_sub hl [1, 2, 3, 0] rfl)
  refine W.widen (k := 2 + 4 * 0) (n := 36 + slL 0) (by omega) (by omega) ?_
  exact loop10 (16 + 1) 0 b0 0 16 (fun _ => 0) (by omega) (by omega) (by omega) hf _ _ (by omega) hX hT _ (lv_sub hl [2, 3, 1, 0] rfl)
set_option maxHeartbeats 4000000 in
set_option maxRecDepth 100000 in
theorem n_X4_groups (l : Launch) (dC : Nat → ClassId) (dI : Nat → Nat → Nat) (cB : ClassId) (ad : Nat → Nat) (S : XS) (i j : Nat) (hi : i < 3) (hj : j < 4) (hI : InvX S) : Met l yX4_groups wsX4_groups ({ frames := 9, cells := 80, slots := 3752, locals := 195 } : Room) (va_Pc [.ref (ad 57), .int (nI i), .int (nI j)] (PT dC dI cB ad S)) (va_Qr (fun S1 : XS => S1 = S) (fun S1 _ t => PX dC dI ad S1 t) (AX ad)) 80 3752 (AX ad) := by
  refine Met.ofW (cc := cX4_groups) (maxL := 4) (ret := (some (.object "java/lang/String"))) pl_X4 rfl ?_
  intro p e s m args below meth c s₁ B hml hv
  obtain ⟨rfl, hPT⟩ := hv
  have hx := B.exec
  have hb := B.bytes
  have hr := B.returns
  have hts := atoms_spec (ws := wsX4_groups) B.pre
  have hown : s.vm.findClass RX4 = some m.cls := findClass_of_methodNamed B.named
  have hlocks := B.notSynchronized
  have hN : NT s := hPT.2.2.2
  have hX := WX.ofT hPT
  have hT := TB.of hPT
  have hl := lv_entry ([.ref (ad 57), .int (nI i), .int (nI j)]) (n := 4) (Nat.le_of_ble_eq_true rfl)
  rw [lg_entry_eq]
  generalize (lg_sl ([.ref (ad 57), .int (nI i), .int (nI j)]) ++ List.replicate (4 - (lg_sl ([.ref (ad 57), .int (nI i), .int (nI j)])).length) Slot.unset).toArray = ls at hl ⊢
  have hl : lv_has ls 4 [(0, .ref (ad 57)), (1, .int (nI i)), (2, .int (nI j))] := hl
  show W p l e ({ frames := 9, cells := 80, slots := 3752, locals := 195 } : Room) s m ([.ref (ad 57), .int (nI i), .int (nI j)]).toArray below meth c s.heap [] 0 0 (MQ below (va_Qr (fun S1 : XS => S1 = S) (fun S1 _ t => PX dC dI ad S1 t) (AX ad)) ([.ref (ad 57), .int (nI i), .int (nI j)]).toArray s 80 3752 (AX ad)) (F0 m 0 ls [])
  refine lv_aload_n hx hb dX4_groups_0 rfl (lv_at hl 0 rfl) ?_
  refine lv_iload_n hx hb dX4_groups_1 rfl (lv_at hl 1 rfl) ?_
  refine va_csr (va_Run.run (va_runV (As := [.int (nI i)]) (rest := []) ⟨hx, hb, hml, hown, hts⟩ (m_X4_rowAt l dC dI ad S i (by omega)) (cwV 1 hts gX4_groups_X4_rowAt rfl rfl rfl hdX4_rowAt_1 ⟨Nat.le_of_ble_eq_true rfl, Nat.le_of_ble_eq_true rfl⟩) (hX.preTop 57 6 (by decide) (by decide) rfl rfl) rfl rfl hl.1 rfl (lv_room (Nat.le_of_ble_eq_true rfl)) dX4_groups_2 ⟨by show _ ≤ 80; omega, by show _ ≤ 3752; omega⟩)) (fun k_ hk_ => ?_)
  rw [hk_]
  refine lv_astore_n (lv' := [(3, .ref (ad (3 * i))), (0, .ref (ad 57)), (1, .int (nI i)), (2, .int (nI j))]) hx hb dX4_groups_5 rfl hl (by decide) rfl (fun ls hl => ?_)
  refine lv_aload_n hx hb dX4_groups_6 rfl (lv_at hl 0 rfl) ?_
  refine lv_aload_n hx hb dX4_groups_7 rfl (lv_at hl 1 rfl) ?_
  refine lv_iload_n hx hb dX4_groups_8 rfl (lv_at hl 3 rfl) ?_
  refine va_csr (va_Run.run (va_runV (As := [.int (nI j)]) (rest := [.ref (ad (3 * i))]) ⟨hx, hb, hml, hown, hts⟩ (m_X4_orderAt l dC dI ad S j (by omega)) (cwV 1 hts gX4_groups_X4_orderAt rfl rfl rfl hdX4_orderAt_1 ⟨Nat.le_of_ble_eq_true rfl, Nat.le_of_ble_eq_true rfl⟩) (hX.preTop 57 6 (by decide) (by decide) rfl rfl) rfl rfl hl.1 rfl (lv_room (Nat.le_of_ble_eq_true rfl)) dX4_groups_9 ⟨by show _ ≤ 80; omega, by show _ ≤ 3752; omega⟩)) (fun k_ hk_ => ?_)
  rw [hk_]
  refine kt_t (va_runV (As := [.ref (ad (24 + 5 * j))]) (rest := []) ⟨hx, hb, hml, hown, hts⟩ (n_X2_lotsTold l dC dI cB ad S i j (by omega) (by omega) hI) (cwV 1 hts gX4_groups_X2_lotsTold rfl rfl rfl hdX2_lotsTold_1 ⟨Nat.le_of_ble_eq_true rfl, Nat.le_of_ble_eq_true rfl⟩) (hT.preRow hX hN (by omega)) rfl rfl hl.1 rfl (lv_room (Nat.le_of_ble_eq_true rfl)) dX4_groups_12 ⟨by show 0 + _ ≤ _; simp, by show 0 + _ ≤ _; simp⟩) hX hT (fun S1 q9 H locs hS9 hX hT => ?_)
  rw [hS9] at hX
  exact W.widen (k := 80) (n := 3752) (by omega) (by omega) (W.filt (fun locs1 hl1 => W.aret (v := .ref q9) hx hb hr (Or.inl ⟨_, rfl⟩) (Or.inr ⟨_, rfl⟩) (fun t9 ht9 hW9 => ⟨⟨S, _, rfl, rfl, hX.P ht9 hW9⟩, (hX.2.2.2.F ht9).X⟩) (free_X hX.2.2.2 hl1) dX4_groups_15))
