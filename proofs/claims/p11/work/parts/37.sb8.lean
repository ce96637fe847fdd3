/-! lots and ranks told -/
def PL (dC : Nat → ClassId) (dI : Nat → Nat → Nat) (cB : ClassId) (ad : Nat → Nat) (S : XS) (z a b n cp : Nat) (f : Nat → Int32) (U : State) : Prop := PX dC dI ad S U ∧ PB dC dI cB z [(a, eSB b n), (b, eBy cB cp f)] U ∧ ZBA (AZ ad z) U U.heap ∧ (∀ q, AX ad q → q < z) ∧ NT U
def LotQ (n cp : Nat) (u : Nat × Nat × Nat × (Nat → Int32)) : Prop := u.2.1 ≤ n + 10 ∧ u.2.1 ≤ u.2.2.1 ∧ cp ≤ u.2.2.1 ∧ u.2.2.1 ≤ 320 ∧ sb_Fit u.2.2.2
section KL
variable {dC : Nat → ClassId} {dI : Nat → Nat → Nat} {cB : ClassId} {ad : Nat → Nat} {z a b n cp : Nat} {f : Nat → Int32} {S : XS} {s : State} {H : Heap} {locs : List Loc}
theorem PL.call {U : State} {g : JFrame} {mk : MethodId} {av : Array Value} (h : PL dC dI cB ad S z a b n cp f U) : PL dC dI cB ad S z a b n cp f (U.calling g mk av) := ⟨h.1.call, h.2.1.call, ZBA.same (s := U) (U := U.calling g mk av) rfl h.2.2.1, h.2.2.2.1, NT.same (s := U) (U := U.calling g mk av) rfl h.2.2.2.2⟩
theorem PL.blind {av : List Value} : FrameBlind (va_Pc av (PL dC dI cB ad S z a b n cp f)) := fun _ _ _ _ h => ⟨h.1, h.2.call⟩
theorem WX.ofL (h : PL dC dI cB ad S z a b n cp f s) : WX dC dI ad S (AZ ad z) s s.heap [] := ⟨h.1.1, h.1.2.1, h.1.2.2.weaken (fun _ _ _ h => Or.inl h), va_S.rf⟩
theorem TB.ofL (h : PL dC dI cB ad S z a b n cp f s) : TB dC dI cB ad z [(a, eSB b n), (b, eBy cB cp f)] s s.heap := ⟨h.2.1.1, h.2.1.2.1, h.2.1.2.2.1, h.2.1.2.2.2.1, h.2.2.1, h.2.2.2.1⟩
theorem TB.preLot {i : Nat} {As : List Value} (h : TB dC dI cB ad z [(a, eSB b n), (b, eBy cB cp f)] s H) (hX : WX dC dI ad S (AZ ad z) s H locs) (hN : NT s) (hi : i < 8) : PreV s H RX2 (ad (3 * i)) (va_Pc (Value.ref (ad (3 * i)) :: As) (PL dC dI cB ad S z a b n cp f)) As :=
  ⟨PL.blind, (hX.preRow hi (As := As)).2.1, fun _ hU hW => ⟨rfl, hX.P hU hW, h.toPB hX hU hW, by rw [hU]; exact (h.2.2.2.2.1.kept hX.2.2.2.2.1).warm hW, h.2.2.2.2.2, hN.warm hW⟩⟩
end KL
section KL2
variable {p : Program} {l : Launch} {e : Env} {R : Room} {s : State} {m : MethodId} {args : Array Value} {below : List Frame} {meth : Method} {c : Code} {H : Heap} {locs : List Loc} {cells slots : Nat} {Q : State → Prop}
variable {pc : Nat} {ls : Array Slot} {rest st0 : List Value} {dC : Nat → ClassId} {dI : Nat → Nat → Nat} {cB : ClassId} {ad : Nat → Nat} {z : Nat} {G : va_W} {S : XS} {mc ms : Nat} {av : Array Value}
theorem kt_l {S1 : Type} {post : S1 → Prop} {Gf : S1 → va_W} (hr : va_Run p l e R s m args below meth c H locs cells slots mc ms (F0 m pc ls st0) rest (va_Qv post (fun u t => PX dC dI ad S t ∧ PB dC dI cB z (Gf u) t) (AZ ad z) av) (AZ ad z)) (hX : WX dC dI ad S (AZ ad z) s H locs) (hT : TB dC dI cB ad z G s H)
    (kk : ∀ (u : S1) (H1 : Heap) (locs1 : List Loc), post u → WX dC dI ad S (AZ ad z) s H1 locs1 → TB dC dI cB ad z (Gf u) s H1 → W p l e R s m args below meth c H1 locs1 (cells + mc) (slots + ms) Q (F0 m (pc + 3) ls rest)) : W p l e R s m args below meth c H locs cells slots Q (F0 m pc ls st0) :=
  va_callv hr hX.2.2.2 (fun _ _ h => h) (fun _ h => h) (fun u t H1 locs1 ht hvm hp hB _ _ hS => kk u H1 locs1 hp ⟨by rw [← ht]; exact hB.1.1, hX.2.1, hX.2.2.1, hS⟩ ⟨by rw [← ht]; exact hB.2.1, hT.2.1, hB.2.2.2.1, hT.2.2.2⟩)
end KL2
set_option maxHeartbeats 4000000 in
set_option maxRecDepth 100000 in
theorem m_X2_appendLot (l : Launch) (dC : Nat → ClassId) (dI : Nat → Nat → Nat) (cB : ClassId) (ad : Nat → Nat) (S : XS) (i j r9 : Nat) (z a9 b n cp : Nat) (f : Nat → Int32) (hi : i < 8) (hj : j < 6) (hr9 : r9 ≤ 16) (hI : InvX S) (hn0 : n + 10 ≤ 160) (hnm : n ≤ cp) (hc9 : 16 ≤ cp ∧ cp ≤ 320) (hf : sb_Fit f) : Met l yX2_appendLot wsX2_appendLot ({ frames := 7, cells := 4, slots := 640, locals := 146 } : Room) (va_Pc [.ref (ad (3 * i)), .ref a9, .ref (ad (24 + 5 * j)), .int (nI r9)] (PL dC dI cB ad S z a9 b n cp f)) (va_Qv (LotQ n cp) (fun u t => PX dC dI ad S t ∧ PB dC dI cB z [(a9, eSB u.1 u.2.1), (u.1, eBy cB u.2.2.1 u.2.2.2)] t) (AZ ad z)) 4 640 (AZ ad z) := by
  refine Met.ofW (cc := cX2_appendLot) (maxL := 7) (ret := none) pl_X2 rfl ?_
  intro p e s m args below meth c s₁ B hml hv
  obtain ⟨rfl, hPT⟩ := hv
  have hx := B.exec
  have hb := B.bytes
  have hr := B.returns
  have hts := atoms_spec (ws := wsX2_appendLot) B.pre
  have hown : s.vm.findClass RX2 = some m.cls := findClass_of_methodNamed B.named
  have hlocks := B.notSynchronized
  have hin2 : ∀ w ∈ u_ws RX2 TX2 3, w ∈ wsX2_appendLot := tu 1322 (by decide +kernel) rfl
  have hN : NT s := hPT.2.2.2.2
  have hX := WX.ofL hPT
  have hT := TB.ofL hPT
  have hl := lv_entry ([.ref (ad (3 * i)), .ref a9, .ref (ad (24 + 5 * j)), .int (nI r9)]) (n := 7) (Nat.le_of_ble_eq_true rfl)
  rw [lg_entry_eq]
  generalize (lg_sl ([.ref (ad (3 * i)), .ref a9, .ref (ad (24 + 5 * j)), .int (nI r9)]) ++ List.replicate (7 - (lg_sl ([.ref (ad (3 * i)), .ref a9, .ref (ad (24 + 5 * j)), .int (nI r9)])).length) Slot.unset).toArray = ls at hl ⊢
  have hl : lv_has ls 7 [(0, .ref (ad (3 * i))), (1, .ref a9), (2, .ref (ad (24 + 5 * j))), (3, .int (nI r9))] := hl
  show W p l e ({ frames := 7, cells := 4, slots := 640, locals := 146 } : Room) s m ([.ref (ad (3 * i)), .ref a9, .ref (ad (24 + 5 * j)), .int (nI r9)]).toArray below meth c s.heap [] 0 0 (MQ below (va_Qv (LotQ n cp) (fun u t => PX dC dI ad S t ∧ PB dC dI cB z [(a9, eSB u.1 u.2.1), (u.1, eBy cB u.2.2.1 u.2.2.2)] t) (AZ ad z)) ([.ref (ad (3 * i)), .ref a9, .ref (ad (24 + 5 * j)), .int (nI r9)]).toArray s 4 640 (AZ ad z)) (F0 m 0 ls [])
  have hn := (hI.1 i (by omega)).1
  refine lv_iconst (v := (-1)) hx hb dX2_appendLot_0 (by decide) ?_
  refine lv_istore (lv' := [(4, .int (-1)), (0, .ref (ad (3 * i))), (1, .ref a9), (2, .ref (ad (24 + 5 * j))), (3, .int (nI r9))]) hx hb dX2_appendLot_1 hl (by decide) rfl (fun ls hl => ?_)
  refine lv_iconst (v := nI 0) hx hb dX2_appendLot_3 (by decide) ?_
  refine lv_istore (lv' := [(5, .int (nI 0)), (4, .int (-1)), (0, .ref (ad (3 * i))), (1, .ref a9), (2, .ref (ad (24 + 5 * j))), (3, .int (nI r9))]) hx hb dX2_appendLot_4 hl (by decide) rfl (fun ls hl => ?_)
  refine lv_iconst (v := nI 0) hx hb dX2_appendLot_6 (by decide) ?_
  refine lv_istore (lv' := [(6, .int (nI 0)), (5, .int (nI 0)), (4, .int (-1)), (0, .ref (ad (3 * i))), (1, .ref a9), (2, .ref (ad (24 + 5 * j))), (3, .int (nI r9))]) hx hb dX2_appendLot_7 hl (by decide) rfl (fun ls hl => ?_)
  have loop9 : ∀ (fuel : Nat) (x4 : Int32) (cn k : Nat) (b1 n1 c1 : Nat) (f1 : Nat → Int32) (hk : k ≤ (S.1 i).2.2) (hcn : cn ≤ k ∧ (0 < cn → x4 ≠ -1)) (hx4 : x4 = -1 ∨ ∃ q, q < (S.1 i).2.2 ∧ x4 = nI q) (hnc : n1 ≤ n ∧ n1 ≤ c1 ∧ cp ≤ c1 ∧ 16 ≤ c1 ∧ c1 ≤ 320) (hf : sb_Fit f1) (H : Heap) (locs : List Loc), (S.1 i).2.2 - k < fuel → WX dC dI ad S (AZ ad z) s H locs → TB dC dI cB ad z [(a9, eSB b1 n1), (b1, eBy cB c1 f1)] s H → ∀ ls : Array Slot, lv_has ls 7 [(0, .ref (ad (3 * i))), (1, .ref a9), (2, .ref (ad (24 + 5 * j))), (3, .int (nI r9)), (4, .int x4), (5, .int (nI cn)), (6, .int (nI k))] → W p l e ({ frames := 7, cells := 4, slots := 640, locals := 146 } : Room) s m ([.ref (ad (3 * i)), .ref a9, .ref (ad (24 + 5 * j)), .int (nI r9)]).toArray below meth c H locs (0) (0 + 2 * c1) (MQ below (va_Qv (LotQ n cp) (fun u t => PX dC dI ad S t ∧ PB dC dI cB z [(a9, eSB u.1 u.2.1), (u.1, eBy cB u.2.2.1 u.2.2.2)] t) (AZ ad z)) ([.ref (ad (3 * i)), .ref a9, .ref (ad (24 + 5 * j)), .int (nI r9)]).toArray s 4 640 (AZ ad z)) (F0 m 9 ls []) := by
    intro fuel
    induction fuel with
    | zero => intro x4 cn k b1 n1 c1 f1 hk hcn hx4 hnc hf H locs hf9; exact absurd hf9 (Nat.not_lt_zero _)
    | succ fuel ih9 =>
      intro x4 cn k b1 n1 c1 f1 hk hcn hx4 hnc hf H locs hf9 hX hT ls hl
      refine lv_iload hx hb dX2_appendLot_9 (lv_at hl 6 rfl) ?_
      refine lv_aload_n hx hb dX2_appendLot_11 rfl (lv_at hl 0 rfl) ?_
      refine kr_gn (n := (S.1 i).2.2) hx hb hts hin2 hown hX (by omega) rfl (hts (.fieldLink RX2 18 "Orderlattice$Row" "many" "I") (tm 27 (by decide +kernel) rfl)) dX2_appendLot_12 ?_
      refine kn_icmp_ge (tgt := 56) hx hb (by omega) (by omega) dX2_appendLot_15 (by decide) (fun k_1 => ?_) (fun k_1 => ?_)
      · skip
        refine lv_iload hx hb dX2_appendLot_56 (lv_at hl 5 rfl) ?_
        refine kn_if_le (tgt := 86) hx hb (by omega) dX2_appendLot_58 (by decide) (fun k_2 => ?_) (fun k_2 => ?_)
        · skip
          exact W.widen (k := 4) (n := 640) (by omega) (by omega) (W.vret hx hb hr (fun t9 ht9 hW9 => ⟨⟨(b1, n1, c1, f1), rfl, ⟨by show n1 ≤ n + 10; omega, by show n1 ≤ c1; omega, by show cp ≤ c1; omega, by show c1 ≤ 320; omega, hf⟩, hX.P ht9 hW9, hT.toPB hX ht9 hW9⟩, hX.2.2.2.F ht9⟩) hX.2.2.2.2.2 dX2_appendLot_86)
        · skip
          obtain ⟨q5, hq5, hq6⟩ := hx4.resolve_left (hcn.2 (by omega))
          subst hq6
          have hm9 := ((hI.1 i (by omega)).2 q5 (by omega)).2
          have hd1 := dg6 (v := (S.1 i).2.1 q5) (by omega)
          have hd2 := dg2 (v := cn) (by omega)
          refine lv_aload_n hx hb dX2_appendLot_61 rfl (lv_at hl 1 rfl) ?_
          have hcb := cap_b (q := n1 + 1) (cp := c1) (Q := 160) (by omega) (by omega)
          refine kt_gap (sl := 0) 160 (va_runSN (As := [.ref a9]) (rest := []) ⟨hx, hb, hml, hown, hts⟩ (m_X4_appendGap l dC dI cB z a9 b1 n1 c1 f1 (by omega) (by omega) hf (by omega) (by omega)) ⟨va_cnB 1 hts gX2_appendLot_X4_appendGap_n65 rfl rfl rfl hN.1 (hts (.initialized RX4) (tm 421 (by decide +kernel) rfl)) (by decide +kernel) ⟨Nat.le_of_ble_eq_true rfl, Nat.le_of_ble_eq_true rfl⟩, hts (.static yX4_appendGap) (by decide +kernel), trivial⟩ (hT.preS hX) rfl rfl hl.1 rfl (lv_room (Nat.le_of_ble_eq_true rfl)) dX2_appendLot_62 ⟨by show _ ≤ 4; omega, by show _ ≤ 640; have := gm_pot (n1 + 1) c1; omega⟩) hX hT (by omega) (by omega) (fun b_3 n_3 c_3 f_3 H locs hX hT hf _ _ _ _ => ?_)
          refine lv_aload_n hx hb dX2_appendLot_65 rfl (lv_at hl 1 rfl) ?_
          refine lv_aload_n hx hb dX2_appendLot_66 rfl (lv_at hl 0 rfl) ?_
          refine lv_iload hx hb dX2_appendLot_67 (lv_at hl 4 rfl) ?_
          refine kx_cr (v := nI (((S.1 i).2.1) q5)) (va_runV (As := [.int (nI q5)]) (rest := [.ref a9]) ⟨hx, hb, hml, hown, hts⟩ (m_X2_markOn l dC dI ad S i q5 (by omega) (by omega)) (cwV 1 hts gX2_appendLot_X2_markOn rfl rfl rfl hdX2_markOn_1 ⟨Nat.le_of_ble_eq_true rfl, Nat.le_of_ble_eq_true rfl⟩) (hX.preRow (by omega)) rfl rfl hl.1 rfl (lv_room (Nat.le_of_ble_eq_true rfl)) dX2_appendLot_69 ⟨by show _ ≤ 4; omega, by show _ ≤ 640; omega⟩) (fun _ h => h) ?_
          have hcb := cap_b (q := n_3 + sb_dg (((S.1 i).2.1) q5)) (cp := c_3) (Q := 160) (by omega) (by omega)
          refine kt_app (sl := 0) (n2 := n_3 + sb_dg (((S.1 i).2.1) q5)) 160 (va_runV (As := [.int (nI (((S.1 i).2.1) q5))]) (rest := []) ⟨hx, hb, hml, hown, hts⟩ (m_J4_append_bf812 l dC dI cB z a9 b_3 n_3 c_3 f_3 (by omega) (by omega) hf (((S.1 i).2.1) q5) (by omega) (by omega)) (cwV 1 hts gX2_appendLot_J4_append_bf812 rfl rfl rfl hdJ4_append_bf812_1 ⟨Nat.le_of_ble_eq_true rfl, Nat.le_of_ble_eq_true rfl⟩) (hT.preV hX (ci := 1) (q := (RJ4, TJ4, 4)) rfl 0 rfl) rfl rfl hl.1 rfl (lv_room (Nat.le_of_ble_eq_true rfl)) dX2_appendLot_72 ⟨by show _ ≤ 4; omega, by show _ ≤ 640; have := gm_pot (n_3 + sb_dg (((S.1 i).2.1) q5)) c_3; omega⟩) hX hT (by omega) (by omega) (fun b_4 c_4 f_4 H locs hX hT hf _ _ _ => ?_)
          refine lv_bipush (v := nI 58) hx hb dX2_appendLot_75 (by decide) ?_
          have hcb := cap_b (q := n_3 + sb_dg (((S.1 i).2.1) q5) + 1) (cp := c_4) (Q := 160) (by omega) (by omega)
          refine kt_app (sl := 0) (n2 := n_3 + sb_dg (((S.1 i).2.1) q5) + 1) 160 (va_runV (As := [.int (nI 58)]) (rest := []) ⟨hx, hb, hml, hown, hts⟩ (m_J4_append_cf468 l dC dI cB z a9 b_4 (n_3 + sb_dg (((S.1 i).2.1) q5)) c_4 f_4 (by omega) (by omega) hf 58 (by omega) (by omega)) (cwV 1 hts gX2_appendLot_J4_append_cf468 rfl rfl rfl hdJ4_append_cf468_1 ⟨Nat.le_of_ble_eq_true rfl, Nat.le_of_ble_eq_true rfl⟩) (hT.preV hX (ci := 1) (q := (RJ4, TJ4, 4)) rfl 0 rfl) rfl rfl hl.1 rfl (lv_room (Nat.le_of_ble_eq_true rfl)) dX2_appendLot_77 ⟨by show _ ≤ 4; omega, by show _ ≤ 640; have := gm_pot (n_3 + sb_dg (((S.1 i).2.1) q5) + 1) c_4; omega⟩) hX hT (by omega) (by omega) (fun b_5 c_5 f_5 H locs hX hT hf _ _ _ => ?_)
          refine lv_iload hx hb dX2_appendLot_80 (lv_at hl 5 rfl) ?_
          have hcb := cap_b (q := n_3 + sb_dg (((S.1 i).2.1) q5) + 1 + sb_dg cn) (cp := c_5) (Q := 160) (by omega) (by omega)
          refine kt_app (sl := 0) (n2 := n_3 + sb_dg (((S.1 i).2.1) q5) + 1 + sb_dg cn) 160 (va_runV (As := [.int (nI cn)]) (rest := []) ⟨hx, hb, hml, hown, hts⟩ (m_J4_append_bf812 l dC dI cB z a9 b_5 (n_3 + sb_dg (((S.1 i).2.1) q5) + 1) c_5 f_5 (by omega) (by omega) hf cn (by omega) (by omega)) (cwV 1 hts gX2_appendLot_J4_append_bf812 rfl rfl rfl hdJ4_append_bf812_1 ⟨Nat.le_of_ble_eq_true rfl, Nat.le_of_ble_eq_true rfl⟩) (hT.preV hX (ci := 1) (q := (RJ4, TJ4, 4)) rfl 0 rfl) rfl rfl hl.1 rfl (lv_room (Nat.le_of_ble_eq_true rfl)) dX2_appendLot_82 ⟨by show _ ≤ 4; omega, by show _ ≤ 640; have := gm_pot (n_3 + sb_dg (((S.1 i).2.1) q5) + 1 + sb_dg cn) c_5; omega⟩) hX hT (by omega) (by omega) (fun b_6 c_6 f_6 H locs hX hT hf _ _ _ => ?_)
          refine lv_pop hx hb dX2_appendLot_85 rfl ?_
          exact W.widen (k := 4) (n := 640) (by omega) (by omega) (W.vret hx hb hr (fun t9 ht9 hW9 => ⟨⟨(b_6, n_3 + sb_dg (((S.1 i).2.1) q5) + 1 + sb_dg cn, c_6, f_6), rfl, ⟨by show n_3 + sb_dg (((S.1 i).2.1) q5) + 1 + sb_dg cn ≤ n + 10; omega, by show n_3 + sb_dg (((S.1 i).2.1) q5) + 1 + sb_dg cn ≤ c_6; omega, by show cp ≤ c_6; omega, by show c_6 ≤ 320; omega, hf⟩, hX.P ht9 hW9, hT.toPB hX ht9 hW9⟩, hX.2.2.2.F ht9⟩) hX.2.2.2.2.2 dX2_appendLot_86)
      · skip
        have hv9 := (hI.1 i (by omega)).2 k (by omega)
        have hrk := ordOK.rnk (hI.2 j (by omega)) hv9.1
        refine lv_aload_n hx hb dX2_appendLot_18 rfl (lv_at hl 2 rfl) ?_
        refine lv_aload_n hx hb dX2_appendLot_19 rfl (lv_at hl 0 rfl) ?_
        refine lv_iload hx hb dX2_appendLot_20 (lv_at hl 6 rfl) ?_
        refine kx_cr (v := nI (((S.1 i).1) k)) (va_runV (As := [.int (nI k)]) (rest := [.ref (ad (24 + 5 * j))]) ⟨hx, hb, hml, hown, hts⟩ (m_X2_valueOn l dC dI ad S i k (by omega) (by omega)) (cwV 1 hts gX2_appendLot_X2_valueOn rfl rfl rfl hdX2_valueOn_1 ⟨Nat.le_of_ble_eq_true rfl, Nat.le_of_ble_eq_true rfl⟩) (hX.preRow (by omega)) rfl rfl hl.1 rfl (lv_room (Nat.le_of_ble_eq_true rfl)) dX2_appendLot_22 ⟨by show _ ≤ 4; omega, by show _ ≤ 640; omega⟩) (fun _ h => h) ?_
        refine kx_cr (v := nI (((S.2.1 j).2.2.2.1) (((S.1 i).1) k))) (va_runV (As := [.int (nI (((S.1 i).1) k))]) (rest := []) ⟨hx, hb, hml, hown, hts⟩ (m_X1_rankOf l dC dI ad S j (((S.1 i).1) k) (by omega) (by omega)) (cwV 1 hts gX2_appendLot_X1_rankOf rfl rfl rfl hdX1_rankOf_1 ⟨Nat.le_of_ble_eq_true rfl, Nat.le_of_ble_eq_true rfl⟩) (hX.preOrd (by omega)) rfl rfl hl.1 rfl (lv_room (Nat.le_of_ble_eq_true rfl)) dX2_appendLot_25 ⟨by show _ ≤ 4; omega, by show _ ≤ 640; omega⟩) (fun _ h => h) ?_
        refine lv_iload_n hx hb dX2_appendLot_28 rfl (lv_at hl 3 rfl) ?_
        refine kn_icmp_ne (tgt := 50) hx hb (by omega) (by omega) dX2_appendLot_29 (by decide) (fun k_7 => ?_) (fun k_7 => ?_)
        · skip
          refine lv_iinc (v := nI (k + 1)) (lv' := [(6, .int (nI (k + 1))), (0, .ref (ad (3 * i))), (1, .ref a9), (2, .ref (ad (24 + 5 * j))), (3, .int (nI r9)), (4, .int x4), (5, .int (nI cn))]) hx hb dX2_appendLot_50 hl (k := 6) rfl (nI_1 k) (by decide) rfl (fun ls hl => ?_)
          refine lv_goto (tgt := 9) hx hb dX2_appendLot_53 (by decide) ?_
          refine W.widen (k := 0) (n := 0 + 2 * c1) (by omega) (by omega) ?_
          exact ih9  x4 cn (k + 1) b1 n1 c1 f1 (by omega) ⟨by omega, hcn.2⟩ hx4 (by omega) hf _ _ (by omega) hX hT _ (lv_sub hl [1, 2, 3, 4, 5, 6, 0] rfl)
        · skip
          refine lv_iload hx hb dX2_appendLot_32 (lv_at hl 4 rfl) ?_
          refine lv_iconst (v := (-1)) hx hb dX2_appendLot_34 (by decide) ?_
          refine lv_icmp_ne (tgt := 43) hx hb dX2_appendLot_35 (by decide) (fun k_8 => ?_) (fun k_8 => ?_)
          · skip
            have h35 := k_8
            refine lv_iload hx hb dX2_appendLot_43 (lv_at hl 4 rfl) ?_
            refine lv_istore (lv' := [(4, .int x4), (0, .ref (ad (3 * i))), (1, .ref a9), (2, .ref (ad (24 + 5 * j))), (3, .int (nI r9)), (5, .int (nI cn)), (6, .int (nI k))]) hx hb dX2_appendLot_45 hl (by decide) rfl (fun ls hl => ?_)
            refine lv_iinc (v := nI (cn + 1)) (lv' := [(5, .int (nI (cn + 1))), (4, .int x4), (0, .ref (ad (3 * i))), (1, .ref a9), (2, .ref (ad (24 + 5 * j))), (3, .int (nI r9)), (6, .int (nI k))]) hx hb dX2_appendLot_47 hl (k := 5) rfl (nI_1 cn) (by decide) rfl (fun ls hl => ?_)
            refine lv_iinc (v := nI (k + 1)) (lv' := [(6, .int (nI (k + 1))), (5, .int (nI (cn + 1))), (4, .int x4), (0, .ref (ad (3 * i))), (1, .ref a9), (2, .ref (ad (24 + 5 * j))), (3, .int (nI r9))]) hx hb dX2_appendLot_50 hl (k := 6) rfl (nI_1 k) (by decide) rfl (fun ls hl => ?_)
            refine lv_goto (tgt := 9) hx hb dX2_appendLot_53 (by decide) ?_
            refine W.widen (k := 0) (n := 0 + 2 * c1) (by omega) (by omega) ?_
            exact ih9  x4 (cn + 1) (k + 1) b1 n1 c1 f1 (by omega) ⟨by omega, fun _ => h35⟩ hx4 (by omega) hf _ _ (by omega) hX hT _ (lv_sub hl [3, 4, 5, 6, 2, 1, 0] rfl)
          · skip
            have h35 := k_8
            refine lv_iload hx hb dX2_appendLot_38 (lv_at hl 6 rfl) ?_
            refine lv_goto (tgt := 45) hx hb dX2_appendLot_40 (by decide) ?_
            refine lv_istore (lv' := [(4, .int (nI k)), (0, .ref (ad (3 * i))), (1, .ref a9), (2, .ref (ad (24 + 5 * j))), (3, .int (nI r9)), (5, .int (nI cn)), (6, .int (nI k))]) hx hb dX2_appendLot_45 hl (by decide) rfl (fun ls hl => ?_)
            refine lv_iinc (v := nI (cn + 1)) (lv' := [(5, .int (nI (cn + 1))), (4, .int (nI k)), (0, .ref (ad (3 * i))), (1, .ref a9), (2, .ref (ad (24 + 5 * j))), (3, .int (nI r9)), (6, .int (nI k))]) hx hb dX2_appendLot_47 hl (k := 5) rfl (nI_1 cn) (by decide) rfl (fun ls hl => ?_)
            refine lv_iinc (v := nI (k + 1)) (lv' := [(6, .int (nI (k + 1))), (5, .int (nI (cn + 1))), (4, .int (nI k)), (0, .ref (ad (3 * i))), (1, .ref a9), (2, .ref (ad (24 + 5 * j))), (3, .int (nI r9))]) hx hb dX2_appendLot_50 hl (k := 6) rfl (nI_1 k) (by decide) rfl (fun ls hl => ?_)
            refine lv_goto (tgt := 9) hx hb dX2_appendLot_53 (by decide) ?_
            refine W.widen (k := 0) (n := 0 + 2 * c1) (by omega) (by omega) ?_
            exact ih9  (nI k) (cn + 1) (k + 1) b1 n1 c1 f1 (by omega) ⟨by omega, fun _ => nI_nm1 (by omega)⟩ (Or.inr ⟨k, by omega, rfl⟩) (by omega) hf _ _ (by omega) hX hT _ (lv_sub hl [3, 4, 5, 6, 2, 1, 0] rfl)
  refine W.widen (k := 0) (n := 0 + 2 * cp) (by omega) (by omega) ?_
  exact loop9 ((S.1 i).2.2 + 1) (-1) 0 0 b n cp f (by omega) ⟨by omega, fun h9 => absurd h9 (by omega)⟩ (Or.inl rfl) (by omega) hf _ _ (by omega) hX hT _ (lv_sub hl [3, 4, 5, 6, 2, 1, 0] rfl)
set_option maxHeartbeats 4000000 in
set_option maxRecDepth 100000 in
theorem m_X2_lotsTold (l : Launch) (dC : Nat → ClassId) (dI : Nat → Nat → Nat) (cB : ClassId) (ad : Nat → Nat) (S : XS) (i j : Nat) (hi : i < 8) (hj : j < 6) (hI : InvX S) : Met l yX2_lotsTold wsX2_lotsTold ({ frames := 8, cells := 80, slots := 11200, locals := 172 } : Room) (va_Pc [.ref (ad (3 * i)), .ref (ad (24 + 5 * j))] (PT dC dI cB ad S)) (va_Qr (fun S1 : XS => S1 = S) (fun S1 _ t => PX dC dI ad S1 t) (AX ad)) 80 11200 (AX ad) := by
  refine Met.ofW (cc := cX2_lotsTold) (maxL := 4) (ret := (some (.object "java/lang/String"))) pl_X2 rfl ?_
  intro p e s m args below meth c s₁ B hml hv
  obtain ⟨rfl, hPT⟩ := hv
  have hx := B.exec
  have hb := B.bytes
  have hr := B.returns
  have hts := atoms_spec (ws := wsX2_lotsTold) B.pre
  have hown : s.vm.findClass RX2 = some m.cls := findClass_of_methodNamed B.named
  have hlocks := B.notSynchronized
  have hinJ4 : ∀ w ∈ u_ws RJ4 TJ4 4, w ∈ wsX2_lotsTold := tu 1326 (by decide +kernel) rfl
  have hN : NT s := hPT.2.2.2
  have hX := WX.ofT hPT
  have hT := TB.of hPT
  have hl := lv_entry ([.ref (ad (3 * i)), .ref (ad (24 + 5 * j))]) (n := 4) (Nat.le_of_ble_eq_true rfl)
  rw [lg_entry_eq]
  generalize (lg_sl ([.ref (ad (3 * i)), .ref (ad (24 + 5 * j))]) ++ List.replicate (4 - (lg_sl ([.ref (ad (3 * i)), .ref (ad (24 + 5 * j))])).length) Slot.unset).toArray = ls at hl ⊢
  have hl : lv_has ls 4 [(0, .ref (ad (3 * i))), (1, .ref (ad (24 + 5 * j)))] := hl
  show W p l e ({ frames := 8, cells := 80, slots := 11200, locals := 172 } : Room) s m ([.ref (ad (3 * i)), .ref (ad (24 + 5 * j))]).toArray below meth c s.heap [] 0 0 (MQ below (va_Qr (fun S1 : XS => S1 = S) (fun S1 _ t => PX dC dI ad S1 t) (AX ad)) ([.ref (ad (3 * i)), .ref (ad (24 + 5 * j))]).toArray s 80 11200 (AX ad)) (F0 m 0 ls [])
  have hcl := ordOK.cls (hI.2 j (by omega))
  refine kt_new hx hb hts hinJ4 hown (hts (.classLink RX2 62 RJ4) (tm 432 (by decide +kernel) rfl)) (hts (.instantiable RJ4 4) (tm 374 (by decide +kernel) rfl)) (hts (.initialized RJ4) (tm 328 (by decide +kernel) rfl)) hX hT (by show _ ≤ 80; omega) (by show _ ≤ 11200; omega) dX2_lotsTold_0 (fun a9 H hX hT => ?_)
  refine lv_dup hx hb dX2_lotsTold_3 rfl ?_
  refine kt_v (va_runI (As := []) (rest := [.ref a9]) ⟨hx, hb, hml, hown, hts⟩ (m_J4_init_da8c8 l dC dI cB s.heap.size a9) (cwI 0 hts gX2_lotsTold_J4_init_da8c8 rfl rfl rfl (hts (.initialized yJ4_init_da8c8.cls) (tm 328 (by decide +kernel) rfl)) (hts (.methodLink RX2 64 yJ4_init_da8c8) (tm 433 (by decide +kernel) rfl)) (hts (.instanceMethod yJ4_init_da8c8) (tm 414 (by decide +kernel) rfl)) rfl (by decide +kernel) ⟨Nat.le_of_ble_eq_true rfl, Nat.le_of_ble_eq_true rfl⟩) (hT.preS hX) rfl rfl hl.1 rfl (lv_room (Nat.le_of_ble_eq_true rfl)) dX2_lotsTold_4 ⟨by show _ ≤ 80; omega, by show _ ≤ 11200; omega⟩) hX hT (fun b0 H locs _ hX hT => ?_)
  refine W.widen (k := 2) (n := 4 + 2 * 16) (by omega) (by omega) ?_
  have hf : sb_Fit (fun _ => 0) := sb_fit0
  refine lv_astore_n (lv' := [(2, .ref a9), (0, .ref (ad (3 * i))), (1, .ref (ad (24 + 5 * j)))]) hx hb dX2_lotsTold_7 rfl hl (by decide) rfl (fun ls hl => ?_)
  refine lv_iconst (v := nI 0) hx hb dX2_lotsTold_8 (by decide) ?_
  refine lv_istore_n (lv' := [(3, .int (nI 0)), (2, .ref a9), (0, .ref (ad (3 * i))), (1, .ref (ad (24 + 5 * j)))]) hx hb dX2_lotsTold_9 rfl hl (by decide) rfl (fun ls hl => ?_)
  have loop10 : ∀ (fuel : Nat) (k : Nat) (b1 n1 c1 : Nat) (f1 : Nat → Int32) (hk : k ≤ 16) (hn1 : n1 ≤ 10 * k) (hnc : n1 ≤ c1 ∧ 16 ≤ c1 ∧ c1 ≤ 320) (hf : sb_Fit f1) (H : Heap) (locs : List Loc), 16 - k < fuel → WX dC dI ad S (AZ ad s.heap.size) s H locs → TB dC dI cB ad s.heap.size [(a9, eSB b1 n1), (b1, eBy cB c1 f1)] s H → ∀ ls : Array Slot, lv_has ls 4 [(0, .ref (ad (3 * i))), (1, .ref (ad (24 + 5 * j))), (2, .ref a9), (3, .int (nI k))] → W p l e ({ frames := 8, cells := 80, slots := 11200, locals := 172 } : Room) s m ([.ref (ad (3 * i)), .ref (ad (24 + 5 * j))]).toArray below meth c H locs (2 + 4 * k) ((4 + 640 * k) + 2 * c1) (MQ below (va_Qr (fun S1 : XS => S1 = S) (fun S1 _ t => PX dC dI ad S1 t) (AX ad)) ([.ref (ad (3 * i)), .ref (ad (24 + 5 * j))]).toArray s 80 11200 (AX ad)) (F0 m 10 ls []) := by
    intro fuel
    induction fuel with
    | zero => intro k b1 n1 c1 f1 hk hn1 hnc hf H locs hf9; exact absurd hf9 (Nat.not_lt_zero _)
    | succ fuel ih10 =>
      intro k b1 n1 c1 f1 hk hn1 hnc hf H locs hf9 hX hT ls hl
      refine lv_iload_n hx hb dX2_lotsTold_10 rfl (lv_at hl 3 rfl) ?_
      refine lv_aload_n hx hb dX2_lotsTold_11 rfl (lv_at hl 1 rfl) ?_
      refine kx_cr (v := nI ((S.2.1 j).2.2.2.2.2)) (va_runV (As := []) (rest := [.int (nI k)]) ⟨hx, hb, hml, hown, hts⟩ (m_X1_classCount l dC dI ad S j  (by omega)) (cwV 0 hts gX2_lotsTold_X1_classCount rfl rfl rfl hdX1_classCount_0 ⟨Nat.le_of_ble_eq_true rfl, Nat.le_of_ble_eq_true rfl⟩) (hX.preOrd (by omega)) rfl rfl hl.1 rfl (lv_room (Nat.le_of_ble_eq_true rfl)) dX2_lotsTold_12 ⟨by show _ ≤ 80; omega, by show _ ≤ 11200; omega⟩) (fun _ h => h) ?_
      refine kn_icmp_ge (tgt := 31) hx hb (by omega) (by omega) dX2_lotsTold_15 (by decide) (fun k_1 => ?_) (fun k_1 => ?_)
      · skip
        refine lv_aload_n hx hb dX2_lotsTold_31 rfl (lv_at hl 2 rfl) ?_
        refine kt_r (va_runV (As := []) (rest := []) ⟨hx, hb, hml, hown, hts⟩ (m_J4_toString_0e30d l dC dI cB s.heap.size a9 b1 n1 c1 f1 (by omega) (by omega) hf) (cwV 0 hts gX2_lotsTold_J4_toString_0e30d rfl rfl rfl hdJ4_toString_0e30d_0 ⟨Nat.le_of_ble_eq_true rfl, Nat.le_of_ble_eq_true rfl⟩) (hT.preV hX (ci := 1) (q := (RJ4, TJ4, 4)) rfl 0 rfl) rfl rfl hl.1 rfl (lv_room (Nat.le_of_ble_eq_true rfl)) dX2_lotsTold_32 ⟨by show _ ≤ 80; omega, by show _ ≤ 11200; omega⟩) hX hT (fun _ q9 H locs _ _ hX hT => ?_)
        exact W.widen (k := 80) (n := 11200) (by omega) (by omega) (W.filt (fun locs1 hl1 => W.aret (v := .ref q9) hx hb hr (Or.inl ⟨_, rfl⟩) (Or.inr ⟨_, rfl⟩) (fun t9 ht9 hW9 => ⟨⟨S, _, rfl, rfl, hX.P ht9 hW9⟩, (hX.2.2.2.F ht9).X⟩) (free_X hX.2.2.2 hl1) dX2_lotsTold_35))
      · skip
        refine lv_aload_n hx hb dX2_lotsTold_18 rfl (lv_at hl 0 rfl) ?_
        refine lv_aload_n hx hb dX2_lotsTold_19 rfl (lv_at hl 2 rfl) ?_
        refine lv_aload_n hx hb dX2_lotsTold_20 rfl (lv_at hl 1 rfl) ?_
        refine lv_iload_n hx hb dX2_lotsTold_21 rfl (lv_at hl 3 rfl) ?_
        refine kt_l (va_runV (As := [.ref a9, .ref (ad (24 + 5 * j)), .int (nI k)]) (rest := []) ⟨hx, hb, hml, hown, hts⟩ (m_X2_appendLot l dC dI cB ad S i j k s.heap.size a9 b1 n1 c1 f1 (by omega) (by omega) (by omega) hI (by omega) (by omega) (by omega) hf) (cwV 3 hts gX2_lotsTold_X2_appendLot rfl rfl rfl hdX2_appendLot_3 ⟨Nat.le_of_ble_eq_true rfl, Nat.le_of_ble_eq_true rfl⟩) (hT.preLot hX hN (by omega)) rfl rfl hl.1 rfl (lv_room (Nat.le_of_ble_eq_true rfl)) dX2_lotsTold_22 ⟨by show _ + 4 ≤ 80; omega, by show _ + 640 ≤ 11200; omega⟩) hX hT (fun u_2 H locs hu hX hT => ?_)
        obtain ⟨b_2, n_2, c_2, f_2⟩ := u_2
        obtain ⟨hu1, hu2, hu3, hu4, hf⟩ := hu
        replace hu1 : n_2 ≤ n1 + 10 := hu1
        replace hu2 : n_2 ≤ c_2 := hu2
        replace hu3 : c1 ≤ c_2 := hu3
        replace hu4 : c_2 ≤ 320 := hu4
        replace hf : sb_Fit f_2 := hf
        refine lv_iinc (v := nI (k + 1)) (lv' := [(3, .int (nI (k + 1))), (0, .ref (ad (3 * i))), (1, .ref (ad (24 + 5 * j))), (2, .ref a9)]) hx hb dX2_lotsTold_25 hl (k := 3) rfl (nI_1 k) (by decide) rfl (fun ls hl => ?_)
        refine lv_goto (tgt := 10) hx hb dX2_lotsTold_28 (by decide) ?_
        refine W.widen (k := 2 + 4 * (k + 1)) (n := (4 + 640 * (k + 1)) + 2 * c_2) (by omega) (by omega) ?_
        exact ih10  (k + 1) b_2 n_2 c_2 f_2 (by omega) (by omega) (by omega) hf _ _ (by omega) hX hT _ (lv_sub hl [1, 2, 3, 0] rfl)
  refine W.widen (k := 2 + 4 * 0) (n := (4 + 640 * 0) + 2 * 16) (by omega) (by omega) ?_
  exact loop10 (16 + 1) 0 b0 0 16 (fun _ => 0) (by omega) (by omega) (by omega) hf _ _ (by omega) hX hT _ (lv_sub hl [2, 3, 1, 0] rfl)
set_option maxHeartbeats 4000000 in
set_option maxRecDepth 100000 in
theorem m_X4_groups (l : Launch) (dC : Nat → ClassId) (dI : Nat → Nat → Nat) (cB : ClassId) (ad : Nat → Nat) (S : XS) (i j : Nat) (hi : i < 3) (hj : j < 4) (hI : InvX S) : Met l yX4_groups wsX4_groups ({ frames := 9, cells := 80, slots := 11200, locals := 195 } : Room) (va_Pc [.ref (ad 57), .int (nI i), .int (nI j)] (PT dC dI cB ad S)) (va_Qr (fun S1 : XS => S1 = S) (fun S1 _ t => PX dC dI ad S1 t) (AX ad)) 80 11200 (AX ad) := by
  refine Met.ofW (cc := cX4_groups) (maxL := 4) (ret := (some (.object "java/lang/String"))) pl_X4 rfl ?_
  intro p e s m args below meth c s₁ B hml hv
  obtain ⟨rfl, hPT⟩ := hv
  have hx := B.exec
  have hb := B.bytes
  have hr := B.returns
  have hts := atoms_spec (ws := wsX4_groups) B.pre
  have hown : s.vm.findClass RX4 = some m.cls := findClass_of_methodNamed B.named
  have hlocks := B.notSynchronized
  have hN : NT s := hPT.2.2.2
  have hX := WX.ofT hPT
  have hT := TB.of hPT
  have hl := lv_entry ([.ref (ad 57), .int (nI i), .int (nI j)]) (n := 4) (Nat.le_of_ble_eq_true rfl)
  rw [lg_entry_eq]
  generalize (lg_sl ([.ref (ad 57), .int (nI i), .int (nI j)]) ++ List.replicate (4 - (lg_sl ([.ref (ad 57), .int (nI i), .int (nI j)])).length) Slot.unset).toArray = ls at hl ⊢
  have hl : lv_has ls 4 [(0, .ref (ad 57)), (1, .int (nI i)), (2, .int (nI j))] := hl
  show W p l e ({ frames := 9, cells := 80, slots := 11200, locals := 195 } : Room) s m ([.ref (ad 57), .int (nI i), .int (nI j)]).toArray below meth c s.heap [] 0 0 (MQ below (va_Qr (fun S1 : XS => S1 = S) (fun S1 _ t => PX dC dI ad S1 t) (AX ad)) ([.ref (ad 57), .int (nI i), .int (nI j)]).toArray s 80 11200 (AX ad)) (F0 m 0 ls [])
  refine lv_aload_n hx hb dX4_groups_0 rfl (lv_at hl 0 rfl) ?_
  refine lv_iload_n hx hb dX4_groups_1 rfl (lv_at hl 1 rfl) ?_
  refine va_csr (va_Run.run (va_runV (As := [.int (nI i)]) (rest := []) ⟨hx, hb, hml, hown, hts⟩ (m_X4_rowAt l dC dI ad S i (by omega)) (cwV 1 hts gX4_groups_X4_rowAt rfl rfl rfl hdX4_rowAt_1 ⟨Nat.le_of_ble_eq_true rfl, Nat.le_of_ble_eq_true rfl⟩) (hX.preTop 57 6 (by decide) (by decide) rfl rfl) rfl rfl hl.1 rfl (lv_room (Nat.le_of_ble_eq_true rfl)) dX4_groups_2 ⟨by show _ ≤ 80; omega, by show _ ≤ 11200; omega⟩)) (fun k_ hk_ => ?_)
  rw [hk_]
  refine lv_astore_n (lv' := [(3, .ref (ad (3 * i))), (0, .ref (ad 57)), (1, .int (nI i)), (2, .int (nI j))]) hx hb dX4_groups_5 rfl hl (by decide) rfl (fun ls hl => ?_)
  refine lv_aload_n hx hb dX4_groups_6 rfl (lv_at hl 0 rfl) ?_
  refine lv_aload_n hx hb dX4_groups_7 rfl (lv_at hl 1 rfl) ?_
  refine lv_iload_n hx hb dX4_groups_8 rfl (lv_at hl 3 rfl) ?_
  refine va_csr (va_Run.run (va_runV (As := [.int (nI j)]) (rest := [.ref (ad (3 * i))]) ⟨hx, hb, hml, hown, hts⟩ (m_X4_orderAt l dC dI ad S j (by omega)) (cwV 1 hts gX4_groups_X4_orderAt rfl rfl rfl hdX4_orderAt_1 ⟨Nat.le_of_ble_eq_true rfl, Nat.le_of_ble_eq_true rfl⟩) (hX.preTop 57 6 (by decide) (by decide) rfl rfl) rfl rfl hl.1 rfl (lv_room (Nat.le_of_ble_eq_true rfl)) dX4_groups_9 ⟨by show _ ≤ 80; omega, by show _ ≤ 11200; omega⟩)) (fun k_ hk_ => ?_)
  rw [hk_]
  refine kt_t (va_runV (As := [.ref (ad (24 + 5 * j))]) (rest := []) ⟨hx, hb, hml, hown, hts⟩ (m_X2_lotsTold l dC dI cB ad S i j (by omega) (by omega) hI) (cwV 1 hts gX4_groups_X2_lotsTold rfl rfl rfl hdX2_lotsTold_1 ⟨Nat.le_of_ble_eq_true rfl, Nat.le_of_ble_eq_true rfl⟩) (hT.preRow hX hN (by omega)) rfl rfl hl.1 rfl (lv_room (Nat.le_of_ble_eq_true rfl)) dX4_groups_12 ⟨by show 0 + _ ≤ _; simp, by show 0 + _ ≤ _; simp⟩) hX hT (fun S1 q9 H locs hS9 hX hT => ?_)
  rw [hS9] at hX
  exact W.widen (k := 80) (n := 11200) (by omega) (by omega) (W.filt (fun locs1 hl1 => W.aret (v := .ref q9) hx hb hr (Or.inl ⟨_, rfl⟩) (Or.inr ⟨_, rfl⟩) (fun t9 ht9 hW9 => ⟨⟨S, _, rfl, rfl, hX.P ht9 hW9⟩, (hX.2.2.2.F ht9).X⟩) (free_X hX.2.2.2 hl1) dX4_groups_15))
