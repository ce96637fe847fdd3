set_option maxHeartbeats 4000000 in
set_option maxRecDepth 100000 in
theorem lc_11 {p : Program} {l : Launch} {e : Env} {s : State} {m : MethodId} {below : List Frame} {meth : Method} {c : Code} {b L : Nat} {xs : Nat → Int32} {dC : Nat → ClassId} {dI : Nat → Nat → Nat} {cB : ClassId} {ad am : Nat → Nat} {o n iL : Nat} {Q : State → Prop} (F : LF p l s m c b L xs dC dI cB ad am o) (hni : iL = 5 * n) (hiL : iL + 5 ≤ L) : LCase p l e s m below meth c b dC dI ad am o n iL Q 757 := by
  intro S M H locs hI9 hS kk9 ls hl
  have hx := F.x
  have hb := F.b
  have hml := F.ml
  have hown := F.own
  have hts := F.ts
  have hL := F.hL
  have hn9 : n ≤ 511 := by omega
  refine lv_aload_n hx hb dL_law_757 rfl (lv_at hl 1 rfl) ?_
  refine lv_aload_n hx hb dL_law_758 rfl (lv_at hl 0 rfl) ?_
  refine lv_iload hx hb dL_law_759 (lv_at hl 4 rfl) ?_
  refine lv_iconst (v := nI 1) hx hb dL_law_761 (by decide) ?_
  refine kn_iadd hx hb dL_law_762 ?_
  refine va_sld hx hb F.sc F.bl (fun z => Nat.not_le.mpr F.bl z) hS.st (vp_in_nI (show iL + 1 < L by omega) (by omega)) dL_law_763 ?_
  obtain ⟨x1, hx1⟩ : ∃ z, z = xs (nI (iL + 1)).toNatClampNeg := ⟨_, rfl⟩
  rw [← hx1]
  refine lv_aload_n hx hb dL_law_764 rfl (lv_at hl 0 rfl) ?_
  refine lv_iload hx hb dL_law_765 (lv_at hl 4 rfl) ?_
  refine lv_iconst (v := nI 2) hx hb dL_law_767 (by decide) ?_
  refine kn_iadd hx hb dL_law_768 ?_
  refine va_sld hx hb F.sc F.bl (fun z => Nat.not_le.mpr F.bl z) hS.st (vp_in_nI (show iL + 2 < L by omega) (by omega)) dL_law_769 ?_
  obtain ⟨x2, hx2⟩ : ∃ z, z = xs (nI (iL + 2)).toNatClampNeg := ⟨_, rfl⟩
  rw [← hx2]
  refine lv_aload_n hx hb dL_law_770 rfl (lv_at hl 3 rfl) ?_
  refine ll_w (vx_runSW (As := [.ref (ad 57), .int x1, .int x2, .ref o]) (rest := []) ⟨hx, hb, hml, hown, hts⟩ (m_L_isSorted l F.st dC dI cB ad o S x1 x2 hI9.x hI9.x5 (by have := hI9.xp; omega)) (vx_cwSW 4 hts gL_law_L_isSorted rfl rfl rfl hdL_isSorted_4.2 ⟨Nat.le_of_ble_eq_true rfl, Nat.le_of_ble_eq_true rfl⟩) (hS.preW F.K) rfl rfl hl.1 rfl (lv_room (Nat.le_of_ble_eq_true rfl)) dL_law_771 ⟨le_rc (by omega), le_rs (by omega)⟩) F.K hS (fun r0 S1 n1 H locs hq9 hN hS => ?_)
  have hLQ : LQ S S1 := hq9.1
  have hR : R_isSorted x1 x2 S r0 S1 n1 := hq9.2
  clear hq9
  rcases hR with ⟨hb9, rfl, rfl⟩ | ⟨i, hi, rfl, hb9, rfl, rfl⟩ | ⟨i, j, r7, hi, hj, rfl, rfl, rfl, rfl, hw1, hw2⟩
  · skip
    refine lv_istore (lv' := [(5, .int (nI 1)), (0, .ref b), (1, .ref (ad 57)), (2, .ref (am 0)), (3, .ref o), (4, .int (nI iL))]) hx hb dL_law_774 hl (by decide) rfl (fun ls hl => ?_)
    refine lv_aload_n hx hb dL_law_776 rfl (lv_at hl 3 rfl) ?_
    refine lv_aload_n hx hb dL_law_777 rfl (lv_at hl 1 rfl) ?_
    refine lv_iload hx hb dL_law_778 (lv_at hl 5 rfl) ?_
    refine lv_iconst (v := nI 1) hx hb dL_law_780 (by decide) ?_
    refine kn_iadd hx hb dL_law_781 ?_
    refine va_sld hx hb F.sc F.bl (fun z => Nat.not_le.mpr F.bl z) hS.st (vp_in_nI (show iL + 1 < L by omega) (by omega)) dL_law_782 ?_
    rw [← hx1]
    refine lv_aload_n hx hb dL_law_783 rfl (lv_at hl 1 rfl) ?_
    refine lv_iload hx hb dL_law_784 (lv_at hl 5 rfl) ?_
    refine lv_iconst (v := nI 2) hx hb dL_law_786 (by decide) ?_
    refine kn_iadd hx hb dL_law_787 ?_
    refine va_sld hx hb F.sc F.bl (fun z => Nat.not_le.mpr F.bl z) hS.st (vp_in_nI (show iL + 2 < L by omega) (by omega)) dL_law_788 ?_
    rw [← hx2]
    have hI := hI9.m
    have T := hI9.T
    have hc : M.2.2.2.1 + 12 < 1000000 := by have := hI9.mp; omega
    refine ll_m (va_runV (As := [.int x1, .int x2]) (rest := []) ⟨hx, hb, hml, hown, hts⟩ (o_X6_isSorted_1 l dC dI am M x1 x2 hb9 hI) (cwV 2 hts gL_law_X6_isSorted rfl rfl rfl hdX6_isSorted_2 ⟨Nat.le_of_ble_eq_true rfl, Nat.le_of_ble_eq_true rfl⟩) (hS.preM F.K) rfl rfl hl.1 rfl (lv_room (Nat.le_of_ble_eq_true rfl)) dL_law_789 ⟨le_rc (by omega), le_rs (by omega)⟩) F.K hS (fun r8 M1 H locs hko hv hS => ?_)
    have hLM : LM M M1 := by rw [hv]; exact LM_th hI _
    have hT : Tie2 S M1 := by rw [hv]; exact T.th _
    refine lv_istore (lv' := [(6, .int r8), (5, .int (nI 1)), (0, .ref b), (1, .ref (ad 57)), (2, .ref (am 0)), (3, .ref o), (4, .int (nI iL))]) hx hb dL_law_792 hl (by decide) rfl (fun ls hl => ?_)
    refine lv_goto (tgt := 2052) hx hb dL_law_794 (by decide) ?_
    exact W.widen (k := 100 + 224 * (n + 1)) (n := 1200 + 10680 * (n + 1)) (by omega) (by omega) (kk9 S M1 _ _ _ (hI9.next hLQ hLM hT) hS (lv_sub hl [2, 3, 4, 5, 6] rfl))
  · skip
    refine lv_istore (lv' := [(5, .int (nI 1)), (0, .ref b), (1, .ref (ad 57)), (2, .ref (am 0)), (3, .ref o), (4, .int (nI iL))]) hx hb dL_law_774 hl (by decide) rfl (fun ls hl => ?_)
    refine lv_aload_n hx hb dL_law_776 rfl (lv_at hl 3 rfl) ?_
    refine lv_aload_n hx hb dL_law_777 rfl (lv_at hl 1 rfl) ?_
    refine lv_iload hx hb dL_law_778 (lv_at hl 5 rfl) ?_
    refine lv_iconst (v := nI 1) hx hb dL_law_780 (by decide) ?_
    refine kn_iadd hx hb dL_law_781 ?_
    refine va_sld hx hb F.sc F.bl (fun z => Nat.not_le.mpr F.bl z) hS.st (vp_in_nI (show iL + 1 < L by omega) (by omega)) dL_law_782 ?_
    rw [← hx1]
    refine lv_aload_n hx hb dL_law_783 rfl (lv_at hl 1 rfl) ?_
    refine lv_iload hx hb dL_law_784 (lv_at hl 5 rfl) ?_
    refine lv_iconst (v := nI 2) hx hb dL_law_786 (by decide) ?_
    refine kn_iadd hx hb dL_law_787 ?_
    refine va_sld hx hb F.sc F.bl (fun z => Nat.not_le.mpr F.bl z) hS.st (vp_in_nI (show iL + 2 < L by omega) (by omega)) dL_law_788 ?_
    rw [← hx2]
    have hI := hI9.m
    have T := hI9.T
    have hc : M.2.2.2.1 + 12 < 1000000 := by have := hI9.mp; omega
    have hn := (hI.1 i hi).1
    refine ll_m (va_runV (As := [.int (nI i), .int x2]) (rest := []) ⟨hx, hb, hml, hown, hts⟩ (o_X6_isSorted_2 l dC dI am M i x2 hi hb9 hI) (cwV 2 hts gL_law_X6_isSorted rfl rfl rfl hdX6_isSorted_2 ⟨Nat.le_of_ble_eq_true rfl, Nat.le_of_ble_eq_true rfl⟩) (hS.preM F.K) rfl rfl hl.1 rfl (lv_room (Nat.le_of_ble_eq_true rfl)) dL_law_789 ⟨le_rc (by omega), le_rs (by omega)⟩) F.K hS (fun r8 M1 H locs hko hv hS => ?_)
    have hLM : LM M M1 := by rw [hv]; exact LM_th hI _
    have hT : Tie2 S M1 := by rw [hv]; exact T.th _
    refine lv_istore (lv' := [(6, .int r8), (5, .int (nI 1)), (0, .ref b), (1, .ref (ad 57)), (2, .ref (am 0)), (3, .ref o), (4, .int (nI iL))]) hx hb dL_law_792 hl (by decide) rfl (fun ls hl => ?_)
    refine lv_goto (tgt := 2052) hx hb dL_law_794 (by decide) ?_
    exact W.widen (k := 100 + 224 * (n + 1)) (n := 1200 + 10680 * (n + 1)) (by omega) (by omega) (kk9 S M1 _ _ _ (hI9.next hLQ hLM hT) hS (lv_sub hl [2, 3, 4, 5, 6] rfl))
  · skip
    have hw := And.intro hw1 hw2
    refine lv_istore (lv' := [(5, .int (nI 0)), (0, .ref b), (1, .ref (ad 57)), (2, .ref (am 0)), (3, .ref o), (4, .int (nI iL))]) hx hb dL_law_774 hl (by decide) rfl (fun ls hl => ?_)
    refine lv_aload_n hx hb dL_law_776 rfl (lv_at hl 3 rfl) ?_
    refine lv_aload_n hx hb dL_law_777 rfl (lv_at hl 1 rfl) ?_
    refine lv_iload hx hb dL_law_778 (lv_at hl 5 rfl) ?_
    refine lv_iconst (v := nI 1) hx hb dL_law_780 (by decide) ?_
    refine kn_iadd hx hb dL_law_781 ?_
    refine va_sld hx hb F.sc F.bl (fun z => Nat.not_le.mpr F.bl z) hS.st (vp_in_nI (show iL + 1 < L by omega) (by omega)) dL_law_782 ?_
    rw [← hx1]
    refine lv_aload_n hx hb dL_law_783 rfl (lv_at hl 1 rfl) ?_
    refine lv_iload hx hb dL_law_784 (lv_at hl 5 rfl) ?_
    refine lv_iconst (v := nI 2) hx hb dL_law_786 (by decide) ?_
    refine kn_iadd hx hb dL_law_787 ?_
    refine va_sld hx hb F.sc F.bl (fun z => Nat.not_le.mpr F.bl z) hS.st (vp_in_nI (show iL + 2 < L by omega) (by omega)) dL_law_788 ?_
    rw [← hx2]
    have hI := hI9.m
    have T := hI9.T
    have hc : M.2.2.2.1 + 12 < 1000000 := by have := hI9.mp; omega
    have hn := (hI.1 i hi).1
    refine ll_m (va_runV (As := [.int (nI i), .int (nI j)]) (rest := []) ⟨hx, hb, hml, hown, hts⟩ (m_X6_isSorted l dC dI am M i j hi hj hI) (cwV 2 hts gL_law_X6_isSorted rfl rfl rfl hdX6_isSorted_2 ⟨Nat.le_of_ble_eq_true rfl, Nat.le_of_ble_eq_true rfl⟩) (hS.preM F.K) rfl rfl hl.1 rfl (lv_room (Nat.le_of_ble_eq_true rfl)) dL_law_789 ⟨le_rc (by omega), le_rs (by omega)⟩) F.K hS (fun r8 M1 H locs hko hv hS => ?_)
    have hLM : LM M M1 := by rw [hv.2]; exact LM_th hI 0
    obtain ⟨hT, he9, ht9⟩ := A_isSorted T.1 T.2 hI9.x hi hj hw hv
    refine lv_istore (lv' := [(6, .int r8), (5, .int (nI 0)), (0, .ref b), (1, .ref (ad 57)), (2, .ref (am 0)), (3, .ref o), (4, .int (nI iL))]) hx hb dL_law_792 hl (by decide) rfl (fun ls hl => ?_)
    refine lv_goto (tgt := 2052) hx hb dL_law_794 (by decide) ?_
    exact W.widen (k := 100 + 224 * (n + 1)) (n := 1200 + 10680 * (n + 1)) (by omega) (by omega) (kk9 S1 M1 _ _ _ (hI9.next hLQ hLM hT) hS (lv_sub hl [2, 3, 4, 5, 6] rfl))
set_option maxHeartbeats 4000000 in
set_option maxRecDepth 100000 in
theorem lc_12 {p : Program} {l : Launch} {e : Env} {s : State} {m : MethodId} {below : List Frame} {meth : Method} {c : Code} {b L : Nat} {xs : Nat → Int32} {dC : Nat → ClassId} {dI : Nat → Nat → Nat} {cB : ClassId} {ad am : Nat → Nat} {o n iL : Nat} {Q : State → Prop} (F : LF p l s m c b L xs dC dI cB ad am o) (hni : iL = 5 * n) (hiL : iL + 5 ≤ L) : LCase p l e s m below meth c b dC dI ad am o n iL Q 797 := by
  intro S M H locs hI9 hS kk9 ls hl
  have hx := F.x
  have hb := F.b
  have hml := F.ml
  have hown := F.own
  have hts := F.ts
  have hL := F.hL
  have hn9 : n ≤ 511 := by omega
  refine lv_aload_n hx hb dL_law_797 rfl (lv_at hl 1 rfl) ?_
  refine lv_aload_n hx hb dL_law_798 rfl (lv_at hl 0 rfl) ?_
  refine lv_iload hx hb dL_law_799 (lv_at hl 4 rfl) ?_
  refine lv_iconst (v := nI 1) hx hb dL_law_801 (by decide) ?_
  refine kn_iadd hx hb dL_law_802 ?_
  refine va_sld hx hb F.sc F.bl (fun z => Nat.not_le.mpr F.bl z) hS.st (vp_in_nI (show iL + 1 < L by omega) (by omega)) dL_law_803 ?_
  obtain ⟨x1, hx1⟩ : ∃ z, z = xs (nI (iL + 1)).toNatClampNeg := ⟨_, rfl⟩
  rw [← hx1]
  refine lv_aload_n hx hb dL_law_804 rfl (lv_at hl 3 rfl) ?_
  refine ll_w (vx_runSW (As := [.ref (ad 57), .int x1, .ref o]) (rest := []) ⟨hx, hb, hml, hown, hts⟩ (m_L_size l F.st dC dI cB ad o S x1 hI9.x hI9.x5 (by have := hI9.xp; omega)) (vx_cwSW 3 hts gL_law_L_size rfl rfl rfl hdL_size_3.2 ⟨Nat.le_of_ble_eq_true rfl, Nat.le_of_ble_eq_true rfl⟩) (hS.preW F.K) rfl rfl hl.1 rfl (lv_room (Nat.le_of_ble_eq_true rfl)) dL_law_805 ⟨le_rc (by omega), le_rs (by omega)⟩) F.K hS (fun r0 S1 n1 H locs hq9 hN hS => ?_)
  have hLQ : LQ S S1 := hq9.1
  have hR : R_size x1 S r0 S1 n1 := hq9.2
  clear hq9
  rcases hR with ⟨hb9, rfl, rfl⟩ | ⟨i, r7, hi, rfl, rfl, rfl, hw1, hw2⟩
  · skip
    refine lv_istore (lv' := [(5, .int (nI 1)), (0, .ref b), (1, .ref (ad 57)), (2, .ref (am 0)), (3, .ref o), (4, .int (nI iL))]) hx hb dL_law_808 hl (by decide) rfl (fun ls hl => ?_)
    refine lv_aload_n hx hb dL_law_810 rfl (lv_at hl 3 rfl) ?_
    refine lv_aload_n hx hb dL_law_811 rfl (lv_at hl 1 rfl) ?_
    refine lv_iload hx hb dL_law_812 (lv_at hl 5 rfl) ?_
    refine lv_iconst (v := nI 1) hx hb dL_law_814 (by decide) ?_
    refine kn_iadd hx hb dL_law_815 ?_
    refine va_sld hx hb F.sc F.bl (fun z => Nat.not_le.mpr F.bl z) hS.st (vp_in_nI (show iL + 1 < L by omega) (by omega)) dL_law_816 ?_
    rw [← hx1]
    have hI := hI9.m
    have T := hI9.T
    have hc : M.2.2.2.1 + 12 < 1000000 := by have := hI9.mp; omega
    refine ll_m (va_runV (As := [.int x1]) (rest := []) ⟨hx, hb, hml, hown, hts⟩ (o_X6_size_1 l dC dI am M x1 hb9 hI) (cwV 1 hts gL_law_X6_size rfl rfl rfl hdX6_size_1 ⟨Nat.le_of_ble_eq_true rfl, Nat.le_of_ble_eq_true rfl⟩) (hS.preM F.K) rfl rfl hl.1 rfl (lv_room (Nat.le_of_ble_eq_true rfl)) dL_law_817 ⟨le_rc (by omega), le_rs (by omega)⟩) F.K hS (fun r8 M1 H locs hko hv hS => ?_)
    have hLM : LM M M1 := by rw [hv]; exact LM_th hI _
    have hT : Tie2 S M1 := by rw [hv]; exact T.th _
    refine lv_istore (lv' := [(6, .int r8), (5, .int (nI 1)), (0, .ref b), (1, .ref (ad 57)), (2, .ref (am 0)), (3, .ref o), (4, .int (nI iL))]) hx hb dL_law_820 hl (by decide) rfl (fun ls hl => ?_)
    refine lv_goto (tgt := 2052) hx hb dL_law_822 (by decide) ?_
    exact W.widen (k := 100 + 224 * (n + 1)) (n := 1200 + 10680 * (n + 1)) (by omega) (by omega) (kk9 S M1 _ _ _ (hI9.next hLQ hLM hT) hS (lv_sub hl [2, 3, 4, 5, 6] rfl))
  · skip
    have hw := And.intro hw1 hw2
    refine lv_istore (lv' := [(5, .int (nI 0)), (0, .ref b), (1, .ref (ad 57)), (2, .ref (am 0)), (3, .ref o), (4, .int (nI iL))]) hx hb dL_law_808 hl (by decide) rfl (fun ls hl => ?_)
    refine lv_aload_n hx hb dL_law_810 rfl (lv_at hl 3 rfl) ?_
    refine lv_aload_n hx hb dL_law_811 rfl (lv_at hl 1 rfl) ?_
    refine lv_iload hx hb dL_law_812 (lv_at hl 5 rfl) ?_
    refine lv_iconst (v := nI 1) hx hb dL_law_814 (by decide) ?_
    refine kn_iadd hx hb dL_law_815 ?_
    refine va_sld hx hb F.sc F.bl (fun z => Nat.not_le.mpr F.bl z) hS.st (vp_in_nI (show iL + 1 < L by omega) (by omega)) dL_law_816 ?_
    rw [← hx1]
    have hI := hI9.m
    have T := hI9.T
    have hc : M.2.2.2.1 + 12 < 1000000 := by have := hI9.mp; omega
    have hn := (hI.1 i hi).1
    refine ll_m (va_runV (As := [.int (nI i)]) (rest := []) ⟨hx, hb, hml, hown, hts⟩ (m_X6_size l dC dI am M i hi hI) (cwV 1 hts gL_law_X6_size rfl rfl rfl hdX6_size_1 ⟨Nat.le_of_ble_eq_true rfl, Nat.le_of_ble_eq_true rfl⟩) (hS.preM F.K) rfl rfl hl.1 rfl (lv_room (Nat.le_of_ble_eq_true rfl)) dL_law_817 ⟨le_rc (by omega), le_rs (by omega)⟩) F.K hS (fun r8 M1 H locs hko hv hS => ?_)
    have hLM : LM M M1 := by rw [hv.2]; exact LM_th hI 0
    obtain ⟨hT, he9, ht9⟩ := (A_size T.1 hi hw hv).two (E_same T.2 hw hv)
    refine lv_istore (lv' := [(6, .int r8), (5, .int (nI 0)), (0, .ref b), (1, .ref (ad 57)), (2, .ref (am 0)), (3, .ref o), (4, .int (nI iL))]) hx hb dL_law_820 hl (by decide) rfl (fun ls hl => ?_)
    refine lv_goto (tgt := 2052) hx hb dL_law_822 (by decide) ?_
    exact W.widen (k := 100 + 224 * (n + 1)) (n := 1200 + 10680 * (n + 1)) (by omega) (by omega) (kk9 S1 M1 _ _ _ (hI9.next hLQ hLM hT) hS (lv_sub hl [2, 3, 4, 5, 6] rfl))
set_option maxHeartbeats 4000000 in
set_option maxRecDepth 100000 in
theorem lc_13 {p : Program} {l : Launch} {e : Env} {s : State} {m : MethodId} {below : List Frame} {meth : Method} {c : Code} {b L : Nat} {xs : Nat → Int32} {dC : Nat → ClassId} {dI : Nat → Nat → Nat} {cB : ClassId} {ad am : Nat → Nat} {o n iL : Nat} {Q : State → Prop} (F : LF p l s m c b L xs dC dI cB ad am o) (hni : iL = 5 * n) (hiL : iL + 5 ≤ L) : LCase p l e s m below meth c b dC dI ad am o n iL Q 825 := by
  intro S M H locs hI9 hS kk9 ls hl
  have hx := F.x
  have hb := F.b
  have hml := F.ml
  have hown := F.own
  have hts := F.ts
  have hL := F.hL
  have hn9 : n ≤ 511 := by omega
  refine lv_aload_n hx hb dL_law_825 rfl (lv_at hl 1 rfl) ?_
  refine lv_aload_n hx hb dL_law_826 rfl (lv_at hl 0 rfl) ?_
  refine lv_iload hx hb dL_law_827 (lv_at hl 4 rfl) ?_
  refine lv_iconst (v := nI 1) hx hb dL_law_829 (by decide) ?_
  refine kn_iadd hx hb dL_law_830 ?_
  refine va_sld hx hb F.sc F.bl (fun z => Nat.not_le.mpr F.bl z) hS.st (vp_in_nI (show iL + 1 < L by omega) (by omega)) dL_law_831 ?_
  obtain ⟨x1, hx1⟩ : ∃ z, z = xs (nI (iL + 1)).toNatClampNeg := ⟨_, rfl⟩
  rw [← hx1]
  refine lv_aload_n hx hb dL_law_832 rfl (lv_at hl 0 rfl) ?_
  refine lv_iload hx hb dL_law_833 (lv_at hl 4 rfl) ?_
  refine lv_iconst (v := nI 2) hx hb dL_law_835 (by decide) ?_
  refine kn_iadd hx hb dL_law_836 ?_
  refine va_sld hx hb F.sc F.bl (fun z => Nat.not_le.mpr F.bl z) hS.st (vp_in_nI (show iL + 2 < L by omega) (by omega)) dL_law_837 ?_
  obtain ⟨x2, hx2⟩ : ∃ z, z = xs (nI (iL + 2)).toNatClampNeg := ⟨_, rfl⟩
  rw [← hx2]
  refine lv_aload_n hx hb dL_law_838 rfl (lv_at hl 3 rfl) ?_
  refine ll_w (vx_runSW (As := [.ref (ad 57), .int x1, .int x2, .ref o]) (rest := []) ⟨hx, hb, hml, hown, hts⟩ (m_L_valueAt l F.st dC dI cB ad o S x1 x2 hI9.x hI9.x5 (by have := hI9.xp; omega)) (vx_cwSW 4 hts gL_law_L_valueAt rfl rfl rfl hdL_valueAt_4.2 ⟨Nat.le_of_ble_eq_true rfl, Nat.le_of_ble_eq_true rfl⟩) (hS.preW F.K) rfl rfl hl.1 rfl (lv_room (Nat.le_of_ble_eq_true rfl)) dL_law_839 ⟨le_rc (by omega), le_rs (by omega)⟩) F.K hS (fun r0 S1 n1 H locs hq9 hN hS => ?_)
  have hLQ : LQ S S1 := hq9.1
  have hR : R_valueAt x1 x2 S r0 S1 n1 := hq9.2
  clear hq9
  rcases hR with ⟨hb9, rfl, rfl⟩ | ⟨i, hi, rfl, hb9, rfl, rfl⟩ | ⟨i, q, r7, hi, hq, rfl, rfl, rfl, rfl, hw1, hw2⟩
  · skip
    refine lv_istore (lv' := [(5, .int (nI 1)), (0, .ref b), (1, .ref (ad 57)), (2, .ref (am 0)), (3, .ref o), (4, .int (nI iL))]) hx hb dL_law_842 hl (by decide) rfl (fun ls hl => ?_)
    refine lv_aload_n hx hb dL_law_844 rfl (lv_at hl 3 rfl) ?_
    refine lv_aload_n hx hb dL_law_845 rfl (lv_at hl 1 rfl) ?_
    refine lv_iload hx hb dL_law_846 (lv_at hl 5 rfl) ?_
    refine lv_iconst (v := nI 1) hx hb dL_law_848 (by decide) ?_
    refine kn_iadd hx hb dL_law_849 ?_
    refine va_sld hx hb F.sc F.bl (fun z => Nat.not_le.mpr F.bl z) hS.st (vp_in_nI (show iL + 1 < L by omega) (by omega)) dL_law_850 ?_
    rw [← hx1]
    refine lv_aload_n hx hb dL_law_851 rfl (lv_at hl 1 rfl) ?_
    refine lv_iload hx hb dL_law_852 (lv_at hl 5 rfl) ?_
    refine lv_iconst (v := nI 2) hx hb dL_law_854 (by decide) ?_
    refine kn_iadd hx hb dL_law_855 ?_
    refine va_sld hx hb F.sc F.bl (fun z => Nat.not_le.mpr F.bl z) hS.st (vp_in_nI (show iL + 2 < L by omega) (by omega)) dL_law_856 ?_
    rw [← hx2]
    have hI := hI9.m
    have T := hI9.T
    have hc : M.2.2.2.1 + 12 < 1000000 := by have := hI9.mp; omega
    refine ll_m (va_runV (As := [.int x1, .int x2]) (rest := []) ⟨hx, hb, hml, hown, hts⟩ (o_X6_valueAt_1 l dC dI am M x1 x2 hb9 hI) (cwV 2 hts gL_law_X6_valueAt rfl rfl rfl hdX6_valueAt_2 ⟨Nat.le_of_ble_eq_true rfl, Nat.le_of_ble_eq_true rfl⟩) (hS.preM F.K) rfl rfl hl.1 rfl (lv_room (Nat.le_of_ble_eq_true rfl)) dL_law_857 ⟨le_rc (by omega), le_rs (by omega)⟩) F.K hS (fun r8 M1 H locs hko hv hS => ?_)
    have hLM : LM M M1 := by rw [hv]; exact LM_th hI _
    have hT : Tie2 S M1 := by rw [hv]; exact T.th _
    refine lv_istore (lv' := [(6, .int r8), (5, .int (nI 1)), (0, .ref b), (1, .ref (ad 57)), (2, .ref (am 0)), (3, .ref o), (4, .int (nI iL))]) hx hb dL_law_860 hl (by decide) rfl (fun ls hl => ?_)
    refine lv_goto (tgt := 2052) hx hb dL_law_862 (by decide) ?_
    exact W.widen (k := 100 + 224 * (n + 1)) (n := 1200 + 10680 * (n + 1)) (by omega) (by omega) (kk9 S M1 _ _ _ (hI9.next hLQ hLM hT) hS (lv_sub hl [2, 3, 4, 5, 6] rfl))
  · skip
    refine lv_istore (lv' := [(5, .int (nI 1)), (0, .ref b), (1, .ref (ad 57)), (2, .ref (am 0)), (3, .ref o), (4, .int (nI iL))]) hx hb dL_law_842 hl (by decide) rfl (fun ls hl => ?_)
    refine lv_aload_n hx hb dL_law_844 rfl (lv_at hl 3 rfl) ?_
    refine lv_aload_n hx hb dL_law_845 rfl (lv_at hl 1 rfl) ?_
    refine lv_iload hx hb dL_law_846 (lv_at hl 5 rfl) ?_
    refine lv_iconst (v := nI 1) hx hb dL_law_848 (by decide) ?_
    refine kn_iadd hx hb dL_law_849 ?_
    refine va_sld hx hb F.sc F.bl (fun z => Nat.not_le.mpr F.bl z) hS.st (vp_in_nI (show iL + 1 < L by omega) (by omega)) dL_law_850 ?_
    rw [← hx1]
    refine lv_aload_n hx hb dL_law_851 rfl (lv_at hl 1 rfl) ?_
    refine lv_iload hx hb dL_law_852 (lv_at hl 5 rfl) ?_
    refine lv_iconst (v := nI 2) hx hb dL_law_854 (by decide) ?_
    refine kn_iadd hx hb dL_law_855 ?_
    refine va_sld hx hb F.sc F.bl (fun z => Nat.not_le.mpr F.bl z) hS.st (vp_in_nI (show iL + 2 < L by omega) (by omega)) dL_law_856 ?_
    rw [← hx2]
    have hI := hI9.m
    have T := hI9.T
    have hc : M.2.2.2.1 + 12 < 1000000 := by have := hI9.mp; omega
    have hn := (hI.1 i hi).1
    rw [T.sz hi] at hb9
    refine ll_m (va_runV (As := [.int (nI i), .int x2]) (rest := []) ⟨hx, hb, hml, hown, hts⟩ (o_X6_valueAt_2 l dC dI am M i x2 hi hb9 hI) (cwV 2 hts gL_law_X6_valueAt rfl rfl rfl hdX6_valueAt_2 ⟨Nat.le_of_ble_eq_true rfl, Nat.le_of_ble_eq_true rfl⟩) (hS.preM F.K) rfl rfl hl.1 rfl (lv_room (Nat.le_of_ble_eq_true rfl)) dL_law_857 ⟨le_rc (by omega), le_rs (by omega)⟩) F.K hS (fun r8 M1 H locs hko hv hS => ?_)
    have hLM : LM M M1 := by rw [hv]; exact LM_th hI _
    have hT : Tie2 S M1 := by rw [hv]; exact T.th _
    refine lv_istore (lv' := [(6, .int r8), (5, .int (nI 1)), (0, .ref b), (1, .ref (ad 57)), (2, .ref (am 0)), (3, .ref o), (4, .int (nI iL))]) hx hb dL_law_860 hl (by decide) rfl (fun ls hl => ?_)
    refine lv_goto (tgt := 2052) hx hb dL_law_862 (by decide) ?_
    exact W.widen (k := 100 + 224 * (n + 1)) (n := 1200 + 10680 * (n + 1)) (by omega) (by omega) (kk9 S M1 _ _ _ (hI9.next hLQ hLM hT) hS (lv_sub hl [2, 3, 4, 5, 6] rfl))
  · skip
    have hw := And.intro hw1 hw2
    refine lv_istore (lv' := [(5, .int (nI 0)), (0, .ref b), (1, .ref (ad 57)), (2, .ref (am 0)), (3, .ref o), (4, .int (nI iL))]) hx hb dL_law_842 hl (by decide) rfl (fun ls hl => ?_)
    refine lv_aload_n hx hb dL_law_844 rfl (lv_at hl 3 rfl) ?_
    refine lv_aload_n hx hb dL_law_845 rfl (lv_at hl 1 rfl) ?_
    refine lv_iload hx hb dL_law_846 (lv_at hl 5 rfl) ?_
    refine lv_iconst (v := nI 1) hx hb dL_law_848 (by decide) ?_
    refine kn_iadd hx hb dL_law_849 ?_
    refine va_sld hx hb F.sc F.bl (fun z => Nat.not_le.mpr F.bl z) hS.st (vp_in_nI (show iL + 1 < L by omega) (by omega)) dL_law_850 ?_
    rw [← hx1]
    refine lv_aload_n hx hb dL_law_851 rfl (lv_at hl 1 rfl) ?_
    refine lv_iload hx hb dL_law_852 (lv_at hl 5 rfl) ?_
    refine lv_iconst (v := nI 2) hx hb dL_law_854 (by decide) ?_
    refine kn_iadd hx hb dL_law_855 ?_
    refine va_sld hx hb F.sc F.bl (fun z => Nat.not_le.mpr F.bl z) hS.st (vp_in_nI (show iL + 2 < L by omega) (by omega)) dL_law_856 ?_
    rw [← hx2]
    have hI := hI9.m
    have T := hI9.T
    have hc : M.2.2.2.1 + 12 < 1000000 := by have := hI9.mp; omega
    have hqM : q < (M.1 i).2.2 := by rw [← T.sz hi]; exact hq
    have hn := (hI.1 i hi).1
    refine ll_m (va_runV (As := [.int (nI i), .int (nI q)]) (rest := []) ⟨hx, hb, hml, hown, hts⟩ (m_X6_valueAt l dC dI am M i q hi hqM hI) (cwV 2 hts gL_law_X6_valueAt rfl rfl rfl hdX6_valueAt_2 ⟨Nat.le_of_ble_eq_true rfl, Nat.le_of_ble_eq_true rfl⟩) (hS.preM F.K) rfl rfl hl.1 rfl (lv_room (Nat.le_of_ble_eq_true rfl)) dL_law_857 ⟨le_rc (by omega), le_rs (by omega)⟩) F.K hS (fun r8 M1 H locs hko hv hS => ?_)
    have hLM : LM M M1 := by rw [hv.2]; exact LM_th hI 0
    obtain ⟨hT, he9, ht9⟩ := A_valueAt T.1 T.2 hi hq hw hv
    refine lv_istore (lv' := [(6, .int r8), (5, .int (nI 0)), (0, .ref b), (1, .ref (ad 57)), (2, .ref (am 0)), (3, .ref o), (4, .int (nI iL))]) hx hb dL_law_860 hl (by decide) rfl (fun ls hl => ?_)
    refine lv_goto (tgt := 2052) hx hb dL_law_862 (by decide) ?_
    exact W.widen (k := 100 + 224 * (n + 1)) (n := 1200 + 10680 * (n + 1)) (by omega) (by omega) (kk9 S1 M1 _ _ _ (hI9.next hLQ hLM hT) hS (lv_sub hl [2, 3, 4, 5, 6] rfl))
set_option maxHeartbeats 4000000 in
set_option maxRecDepth 100000 in
theorem lc_14 {p : Program} {l : Launch} {e : Env} {s : State} {m : MethodId} {below : List Frame} {meth : Method} {c : Code} {b L : Nat} {xs : Nat → Int32} {dC : Nat → ClassId} {dI : Nat → Nat → Nat} {cB : ClassId} {ad am : Nat → Nat} {o n iL : Nat} {Q : State → Prop} (F : LF p l s m c b L xs dC dI cB ad am o) (hni : iL = 5 * n) (hiL : iL + 5 ≤ L) : LCase p l e s m below meth c b dC dI ad am o n iL Q 865 := by
  intro S M H locs hI9 hS kk9 ls hl
  have hx := F.x
  have hb := F.b
  have hml := F.ml
  have hown := F.own
  have hts := F.ts
  have hL := F.hL
  have hn9 : n ≤ 511 := by omega
  refine lv_aload_n hx hb dL_law_865 rfl (lv_at hl 1 rfl) ?_
  refine lv_aload_n hx hb dL_law_866 rfl (lv_at hl 0 rfl) ?_
  refine lv_iload hx hb dL_law_867 (lv_at hl 4 rfl) ?_
  refine lv_iconst (v := nI 1) hx hb dL_law_869 (by decide) ?_
  refine kn_iadd hx hb dL_law_870 ?_
  refine va_sld hx hb F.sc F.bl (fun z => Nat.not_le.mpr F.bl z) hS.st (vp_in_nI (show iL + 1 < L by omega) (by omega)) dL_law_871 ?_
  obtain ⟨x1, hx1⟩ : ∃ z, z = xs (nI (iL + 1)).toNatClampNeg := ⟨_, rfl⟩
  rw [← hx1]
  refine lv_aload_n hx hb dL_law_872 rfl (lv_at hl 0 rfl) ?_
  refine lv_iload hx hb dL_law_873 (lv_at hl 4 rfl) ?_
  refine lv_iconst (v := nI 2) hx hb dL_law_875 (by decide) ?_
  refine kn_iadd hx hb dL_law_876 ?_
  refine va_sld hx hb F.sc F.bl (fun z => Nat.not_le.mpr F.bl z) hS.st (vp_in_nI (show iL + 2 < L by omega) (by omega)) dL_law_877 ?_
  obtain ⟨x2, hx2⟩ : ∃ z, z = xs (nI (iL + 2)).toNatClampNeg := ⟨_, rfl⟩
  rw [← hx2]
  refine lv_aload_n hx hb dL_law_878 rfl (lv_at hl 3 rfl) ?_
  refine ll_w (vx_runSW (As := [.ref (ad 57), .int x1, .int x2, .ref o]) (rest := []) ⟨hx, hb, hml, hown, hts⟩ (m_L_markAt l F.st dC dI cB ad o S x1 x2 hI9.x hI9.x5 (by have := hI9.xp; omega)) (vx_cwSW 4 hts gL_law_L_markAt rfl rfl rfl hdL_markAt_4.2 ⟨Nat.le_of_ble_eq_true rfl, Nat.le_of_ble_eq_true rfl⟩) (hS.preW F.K) rfl rfl hl.1 rfl (lv_room (Nat.le_of_ble_eq_true rfl)) dL_law_879 ⟨le_rc (by omega), le_rs (by omega)⟩) F.K hS (fun r0 S1 n1 H locs hq9 hN hS => ?_)
  have hLQ : LQ S S1 := hq9.1
  have hR : R_markAt x1 x2 S r0 S1 n1 := hq9.2
  clear hq9
  rcases hR with ⟨hb9, rfl, rfl⟩ | ⟨i, hi, rfl, hb9, rfl, rfl⟩ | ⟨i, q, r7, hi, hq, rfl, rfl, rfl, rfl, hw1, hw2⟩
  · skip
    refine lv_istore (lv' := [(5, .int (nI 1)), (0, .ref b), (1, .ref (ad 57)), (2, .ref (am 0)), (3, .ref o), (4, .int (nI iL))]) hx hb dL_law_882 hl (by decide) rfl (fun ls hl => ?_)
    refine lv_aload_n hx hb dL_law_884 rfl (lv_at hl 3 rfl) ?_
    refine lv_aload_n hx hb dL_law_885 rfl (lv_at hl 1 rfl) ?_
    refine lv_iload hx hb dL_law_886 (lv_at hl 5 rfl) ?_
    refine lv_iconst (v := nI 1) hx hb dL_law_888 (by decide) ?_
    refine kn_iadd hx hb dL_law_889 ?_
    refine va_sld hx hb F.sc F.bl (fun z => Nat.not_le.mpr F.bl z) hS.st (vp_in_nI (show iL + 1 < L by omega) (by omega)) dL_law_890 ?_
    rw [← hx1]
    refine lv_aload_n hx hb dL_law_891 rfl (lv_at hl 1 rfl) ?_
    refine lv_iload hx hb dL_law_892 (lv_at hl 5 rfl) ?_
    refine lv_iconst (v := nI 2) hx hb dL_law_894 (by decide) ?_
    refine kn_iadd hx hb dL_law_895 ?_
    refine va_sld hx hb F.sc F.bl (fun z => Nat.not_le.mpr F.bl z) hS.st (vp_in_nI (show iL + 2 < L by omega) (by omega)) dL_law_896 ?_
    rw [← hx2]
    have hI := hI9.m
    have T := hI9.T
    have hc : M.2.2.2.1 + 12 < 1000000 := by have := hI9.mp; omega
    refine ll_m (va_runV (As := [.int x1, .int x2]) (rest := []) ⟨hx, hb, hml, hown, hts⟩ (o_X6_markAt_1 l dC dI am M x1 x2 hb9 hI) (cwV 2 hts gL_law_X6_markAt rfl rfl rfl hdX6_markAt_2 ⟨Nat.le_of_ble_eq_true rfl, Nat.le_of_ble_eq_true rfl⟩) (hS.preM F.K) rfl rfl hl.1 rfl (lv_room (Nat.le_of_ble_eq_true rfl)) dL_law_897 ⟨le_rc (by omega), le_rs (by omega)⟩) F.K hS (fun r8 M1 H locs hko hv hS => ?_)
    have hLM : LM M M1 := by rw [hv]; exact LM_th hI _
    have hT : Tie2 S M1 := by rw [hv]; exact T.th _
    refine lv_istore (lv' := [(6, .int r8), (5, .int (nI 1)), (0, .ref b), (1, .ref (ad 57)), (2, .ref (am 0)), (3, .ref o), (4, .int (nI iL))]) hx hb dL_law_900 hl (by decide) rfl (fun ls hl => ?_)
    refine lv_goto (tgt := 2052) hx hb dL_law_902 (by decide) ?_
    exact W.widen (k := 100 + 224 * (n + 1)) (n := 1200 + 10680 * (n + 1)) (by omega) (by omega) (kk9 S M1 _ _ _ (hI9.next hLQ hLM hT) hS (lv_sub hl [2, 3, 4, 5, 6] rfl))
  · skip
    refine lv_istore (lv' := [(5, .int (nI 1)), (0, .ref b), (1, .ref (ad 57)), (2, .ref (am 0)), (3, .ref o), (4, .int (nI iL))]) hx hb dL_law_882 hl (by decide) rfl (fun ls hl => ?_)
    refine lv_aload_n hx hb dL_law_884 rfl (lv_at hl 3 rfl) ?_
    refine lv_aload_n hx hb dL_law_885 rfl (lv_at hl 1 rfl) ?_
    refine lv_iload hx hb dL_law_886 (lv_at hl 5 rfl) ?_
    refine lv_iconst (v := nI 1) hx hb dL_law_888 (by decide) ?_
    refine kn_iadd hx hb dL_law_889 ?_
    refine va_sld hx hb F.sc F.bl (fun z => Nat.not_le.mpr F.bl z) hS.st (vp_in_nI (show iL + 1 < L by omega) (by omega)) dL_law_890 ?_
    rw [← hx1]
    refine lv_aload_n hx hb dL_law_891 rfl (lv_at hl 1 rfl) ?_
    refine lv_iload hx hb dL_law_892 (lv_at hl 5 rfl) ?_
    refine lv_iconst (v := nI 2) hx hb dL_law_894 (by decide) ?_
    refine kn_iadd hx hb dL_law_895 ?_
    refine va_sld hx hb F.sc F.bl (fun z => Nat.not_le.mpr F.bl z) hS.st (vp_in_nI (show iL + 2 < L by omega) (by omega)) dL_law_896 ?_
    rw [← hx2]
    have hI := hI9.m
    have T := hI9.T
    have hc : M.2.2.2.1 + 12 < 1000000 := by have := hI9.mp; omega
    have hn := (hI.1 i hi).1
    rw [T.sz hi] at hb9
    refine ll_m (va_runV (As := [.int (nI i), .int x2]) (rest := []) ⟨hx, hb, hml, hown, hts⟩ (o_X6_markAt_2 l dC dI am M i x2 hi hb9 hI) (cwV 2 hts gL_law_X6_markAt rfl rfl rfl hdX6_markAt_2 ⟨Nat.le_of_ble_eq_true rfl, Nat.le_of_ble_eq_true rfl⟩) (hS.preM F.K) rfl rfl hl.1 rfl (lv_room (Nat.le_of_ble_eq_true rfl)) dL_law_897 ⟨le_rc (by omega), le_rs (by omega)⟩) F.K hS (fun r8 M1 H locs hko hv hS => ?_)
    have hLM : LM M M1 := by rw [hv]; exact LM_th hI _
    have hT : Tie2 S M1 := by rw [hv]; exact T.th _
    refine lv_istore (lv' := [(6, .int r8), (5, .int (nI 1)), (0, .ref b), (1, .ref (ad 57)), (2, .ref (am 0)), (3, .ref o), (4, .int (nI iL))]) hx hb dL_law_900 hl (by decide) rfl (fun ls hl => ?_)
    refine lv_goto (tgt := 2052) hx hb dL_law_902 (by decide) ?_
    exact W.widen (k := 100 + 224 * (n + 1)) (n := 1200 + 10680 * (n + 1)) (by omega) (by omega) (kk9 S M1 _ _ _ (hI9.next hLQ hLM hT) hS (lv_sub hl [2, 3, 4, 5, 6] rfl))
  · skip
    have hw := And.intro hw1 hw2
    refine lv_istore (lv' := [(5, .int (nI 0)), (0, .ref b), (1, .ref (ad 57)), (2, .ref (am 0)), (3, .ref o), (4, .int (nI iL))]) hx hb dL_law_882 hl (by decide) rfl (fun ls hl => ?_)
    refine lv_aload_n hx hb dL_law_884 rfl (lv_at hl 3 rfl) ?_
    refine lv_aload_n hx hb dL_law_885 rfl (lv_at hl 1 rfl) ?_
    refine lv_iload hx hb dL_law_886 (lv_at hl 5 rfl) ?_
    refine lv_iconst (v := nI 1) hx hb dL_law_888 (by decide) ?_
    refine kn_iadd hx hb dL_law_889 ?_
    refine va_sld hx hb F.sc F.bl (fun z => Nat.not_le.mpr F.bl z) hS.st (vp_in_nI (show iL + 1 < L by omega) (by omega)) dL_law_890 ?_
    rw [← hx1]
    refine lv_aload_n hx hb dL_law_891 rfl (lv_at hl 1 rfl) ?_
    refine lv_iload hx hb dL_law_892 (lv_at hl 5 rfl) ?_
    refine lv_iconst (v := nI 2) hx hb dL_law_894 (by decide) ?_
    refine kn_iadd hx hb dL_law_895 ?_
    refine va_sld hx hb F.sc F.bl (fun z => Nat.not_le.mpr F.bl z) hS.st (vp_in_nI (show iL + 2 < L by omega) (by omega)) dL_law_896 ?_
    rw [← hx2]
    have hI := hI9.m
    have T := hI9.T
    have hc : M.2.2.2.1 + 12 < 1000000 := by have := hI9.mp; omega
    have hqM : q < (M.1 i).2.2 := by rw [← T.sz hi]; exact hq
    have hn := (hI.1 i hi).1
    refine ll_m (va_runV (As := [.int (nI i), .int (nI q)]) (rest := []) ⟨hx, hb, hml, hown, hts⟩ (m_X6_markAt l dC dI am M i q hi hqM hI) (cwV 2 hts gL_law_X6_markAt rfl rfl rfl hdX6_markAt_2 ⟨Nat.le_of_ble_eq_true rfl, Nat.le_of_ble_eq_true rfl⟩) (hS.preM F.K) rfl rfl hl.1 rfl (lv_room (Nat.le_of_ble_eq_true rfl)) dL_law_897 ⟨le_rc (by omega), le_rs (by omega)⟩) F.K hS (fun r8 M1 H locs hko hv hS => ?_)
    have hLM : LM M M1 := by rw [hv.2]; exact LM_th hI 0
    obtain ⟨hT, he9, ht9⟩ := A_markAt T.1 T.2 hi hq hw hv
    refine lv_istore (lv' := [(6, .int r8), (5, .int (nI 0)), (0, .ref b), (1, .ref (ad 57)), (2, .ref (am 0)), (3, .ref o), (4, .int (nI iL))]) hx hb dL_law_900 hl (by decide) rfl (fun ls hl => ?_)
    refine lv_goto (tgt := 2052) hx hb dL_law_902 (by decide) ?_
    exact W.widen (k := 100 + 224 * (n + 1)) (n := 1200 + 10680 * (n + 1)) (by omega) (by omega) (kk9 S1 M1 _ _ _ (hI9.next hLQ hLM hT) hS (lv_sub hl [2, 3, 4, 5, 6] rfl))
set_option maxHeartbeats 4000000 in
set_option maxRecDepth 100000 in
theorem lc_15 {p : Program} {l : Launch} {e : Env} {s : State} {m : MethodId} {below : List Frame} {meth : Method} {c : Code} {b L : Nat} {xs : Nat → Int32} {dC : Nat → ClassId} {dI : Nat → Nat → Nat} {cB : ClassId} {ad am : Nat → Nat} {o n iL : Nat} {Q : State → Prop} (F : LF p l s m c b L xs dC dI cB ad am o) (hni : iL = 5 * n) (hiL : iL + 5 ≤ L) : LCase p l e s m below meth c b dC dI ad am o n iL Q 905 := by
  intro S M H locs hI9 hS kk9 ls hl
  have hx := F.x
  have hb := F.b
  have hml := F.ml
  have hown := F.own
  have hts := F.ts
  have hL := F.hL
  have hn9 : n ≤ 511 := by omega
  refine lv_aload_n hx hb dL_law_905 rfl (lv_at hl 1 rfl) ?_
  refine lv_aload_n hx hb dL_law_906 rfl (lv_at hl 0 rfl) ?_
  refine lv_iload hx hb dL_law_907 (lv_at hl 4 rfl) ?_
  refine lv_iconst (v := nI 1) hx hb dL_law_909 (by decide) ?_
  refine kn_iadd hx hb dL_law_910 ?_
  refine va_sld hx hb F.sc F.bl (fun z => Nat.not_le.mpr F.bl z) hS.st (vp_in_nI (show iL + 1 < L by omega) (by omega)) dL_law_911 ?_
  obtain ⟨x1, hx1⟩ : ∃ z, z = xs (nI (iL + 1)).toNatClampNeg := ⟨_, rfl⟩
  rw [← hx1]
  refine lv_aload_n hx hb dL_law_912 rfl (lv_at hl 3 rfl) ?_
  refine ll_w (vx_runSW (As := [.ref (ad 57), .int x1, .ref o]) (rest := []) ⟨hx, hb, hml, hown, hts⟩ (m_L_text l F.st dC dI cB ad o S x1 hI9.x hI9.x5 (by have := hI9.xp; omega)) (vx_cwSW 3 hts gL_law_L_text rfl rfl rfl hdL_text_3.2 ⟨Nat.le_of_ble_eq_true rfl, Nat.le_of_ble_eq_true rfl⟩) (hS.preW F.K) rfl rfl hl.1 rfl (lv_room (Nat.le_of_ble_eq_true rfl)) dL_law_913 ⟨le_rc (by omega), le_rs (by omega)⟩) F.K hS (fun r0 S1 n1 H locs hq9 hN hS => ?_)
  have hLQ : LQ S S1 := hq9.1
  have hR : R_text x1 S r0 S1 n1 := hq9.2
  clear hq9
  rcases hR with ⟨hb9, rfl, rfl⟩ | ⟨i, hi, rfl, rfl, hw⟩
  · skip
    refine lv_istore (lv' := [(5, .int (nI 1)), (0, .ref b), (1, .ref (ad 57)), (2, .ref (am 0)), (3, .ref o), (4, .int (nI iL))]) hx hb dL_law_916 hl (by decide) rfl (fun ls hl => ?_)
    refine lv_aload_n hx hb dL_law_918 rfl (lv_at hl 3 rfl) ?_
    refine lv_aload_n hx hb dL_law_919 rfl (lv_at hl 1 rfl) ?_
    refine lv_iload hx hb dL_law_920 (lv_at hl 5 rfl) ?_
    refine lv_iconst (v := nI 1) hx hb dL_law_922 (by decide) ?_
    refine kn_iadd hx hb dL_law_923 ?_
    refine va_sld hx hb F.sc F.bl (fun z => Nat.not_le.mpr F.bl z) hS.st (vp_in_nI (show iL + 1 < L by omega) (by omega)) dL_law_924 ?_
    rw [← hx1]
    have hI := hI9.m
    have T := hI9.T
    have hc : M.2.2.2.1 + 12 < 1000000 := by have := hI9.mp; omega
    refine ll_mr (va_runV (As := [.int x1]) (rest := []) ⟨hx, hb, hml, hown, hts⟩ (o_X6_text_1 l dC dI cB am M x1 hb9) (cwV 1 hts gL_law_X6_text rfl rfl rfl hdX6_text_1 ⟨Nat.le_of_ble_eq_true rfl, Nat.le_of_ble_eq_true rfl⟩) (hS.preMT F.K) rfl rfl hl.1 rfl (lv_room (Nat.le_of_ble_eq_true rfl)) dL_law_925 ⟨le_rc (by omega), le_rs (by omega)⟩) F.K hS (fun M1 q9 H locs hko hv hS => ?_)
    have hLM : LM M M1 := by rw [hv]; exact LM_th hI _
    have hT : Tie2 S M1 := by rw [hv]; exact T.th _
    refine lv_astore (lv' := [(6, .ref q9), (5, .int (nI 1)), (0, .ref b), (1, .ref (ad 57)), (2, .ref (am 0)), (3, .ref o), (4, .int (nI iL))]) hx hb dL_law_928 hl (by decide) rfl (fun ls hl => ?_)
    refine lv_goto (tgt := 2052) hx hb dL_law_930 (by decide) ?_
    exact W.widen (k := 100 + 224 * (n + 1)) (n := 1200 + 10680 * (n + 1)) (by omega) (by omega) (kk9 S M1 _ _ _ (hI9.next hLQ hLM hT) hS (lv_sub hl [2, 3, 4, 5, 6] rfl))
  · skip
    refine lv_istore (lv' := [(5, .int (nI 0)), (0, .ref b), (1, .ref (ad 57)), (2, .ref (am 0)), (3, .ref o), (4, .int (nI iL))]) hx hb dL_law_916 hl (by decide) rfl (fun ls hl => ?_)
    refine lv_aload_n hx hb dL_law_918 rfl (lv_at hl 3 rfl) ?_
    refine lv_aload_n hx hb dL_law_919 rfl (lv_at hl 1 rfl) ?_
    refine lv_iload hx hb dL_law_920 (lv_at hl 5 rfl) ?_
    refine lv_iconst (v := nI 1) hx hb dL_law_922 (by decide) ?_
    refine kn_iadd hx hb dL_law_923 ?_
    refine va_sld hx hb F.sc F.bl (fun z => Nat.not_le.mpr F.bl z) hS.st (vp_in_nI (show iL + 1 < L by omega) (by omega)) dL_law_924 ?_
    rw [← hx1]
    have hI := hI9.m
    have T := hI9.T
    have hc : M.2.2.2.1 + 12 < 1000000 := by have := hI9.mp; omega
    have hn := (hI.1 i hi).1
    refine ll_mr (va_runV (As := [.int (nI i)]) (rest := []) ⟨hx, hb, hml, hown, hts⟩ (m_X6_text l dC dI cB am M i hi hI) (cwV 1 hts gL_law_X6_text rfl rfl rfl hdX6_text_1 ⟨Nat.le_of_ble_eq_true rfl, Nat.le_of_ble_eq_true rfl⟩) (hS.preMT F.K) rfl rfl hl.1 rfl (lv_room (Nat.le_of_ble_eq_true rfl)) dL_law_925 ⟨le_rc (by omega), le_rs (by omega)⟩) F.K hS (fun M1 q9 H locs hko hv hS => ?_)
    have hLM : LM M M1 := by rw [hv]; exact LM_th hI 0
    have hT : Tie2 S1 M1 := by rw [hw, hv]; exact T.th 0
    refine lv_astore (lv' := [(6, .ref q9), (5, .int (nI 0)), (0, .ref b), (1, .ref (ad 57)), (2, .ref (am 0)), (3, .ref o), (4, .int (nI iL))]) hx hb dL_law_928 hl (by decide) rfl (fun ls hl => ?_)
    refine lv_goto (tgt := 2052) hx hb dL_law_930 (by decide) ?_
    exact W.widen (k := 100 + 224 * (n + 1)) (n := 1200 + 10680 * (n + 1)) (by omega) (by omega) (kk9 S1 M1 _ _ _ (hI9.next hLQ hLM hT) hS (lv_sub hl [2, 3, 4, 5, 6] rfl))
set_option maxHeartbeats 4000000 in
set_option maxRecDepth 100000 in
theorem lc_16 {p : Program} {l : Launch} {e : Env} {s : State} {m : MethodId} {below : List Frame} {meth : Method} {c : Code} {b L : Nat} {xs : Nat → Int32} {dC : Nat → ClassId} {dI : Nat → Nat → Nat} {cB : ClassId} {ad am : Nat → Nat} {o n iL : Nat} {Q : State → Prop} (F : LF p l s m c b L xs dC dI cB ad am o) (hni : iL = 5 * n) (hiL : iL + 5 ≤ L) : LCase p l e s m below meth c b dC dI ad am o n iL Q 933 := by
  intro S M H locs hI9 hS kk9 ls hl
  have hx := F.x
  have hb := F.b
  have hml := F.ml
  have hown := F.own
  have hts := F.ts
  have hL := F.hL
  have hn9 : n ≤ 511 := by omega
  refine lv_aload_n hx hb dL_law_933 rfl (lv_at hl 1 rfl) ?_
  refine lv_aload_n hx hb dL_law_934 rfl (lv_at hl 0 rfl) ?_
  refine lv_iload hx hb dL_law_935 (lv_at hl 4 rfl) ?_
  refine lv_iconst (v := nI 1) hx hb dL_law_937 (by decide) ?_
  refine kn_iadd hx hb dL_law_938 ?_
  refine va_sld hx hb F.sc F.bl (fun z => Nat.not_le.mpr F.bl z) hS.st (vp_in_nI (show iL + 1 < L by omega) (by omega)) dL_law_939 ?_
  obtain ⟨x1, hx1⟩ : ∃ z, z = xs (nI (iL + 1)).toNatClampNeg := ⟨_, rfl⟩
  rw [← hx1]
  refine lv_aload_n hx hb dL_law_940 rfl (lv_at hl 0 rfl) ?_
  refine lv_iload hx hb dL_law_941 (lv_at hl 4 rfl) ?_
  refine lv_iconst (v := nI 2) hx hb dL_law_943 (by decide) ?_
  refine kn_iadd hx hb dL_law_944 ?_
  refine va_sld hx hb F.sc F.bl (fun z => Nat.not_le.mpr F.bl z) hS.st (vp_in_nI (show iL + 2 < L by omega) (by omega)) dL_law_945 ?_
  obtain ⟨x2, hx2⟩ : ∃ z, z = xs (nI (iL + 2)).toNatClampNeg := ⟨_, rfl⟩
  rw [← hx2]
  refine lv_aload_n hx hb dL_law_946 rfl (lv_at hl 0 rfl) ?_
  refine lv_iload hx hb dL_law_947 (lv_at hl 4 rfl) ?_
  refine lv_iconst (v := nI 3) hx hb dL_law_949 (by decide) ?_
  refine kn_iadd hx hb dL_law_950 ?_
  refine va_sld hx hb F.sc F.bl (fun z => Nat.not_le.mpr F.bl z) hS.st (vp_in_nI (show iL + 3 < L by omega) (by omega)) dL_law_951 ?_
  obtain ⟨x3, hx3⟩ : ∃ z, z = xs (nI (iL + 3)).toNatClampNeg := ⟨_, rfl⟩
  rw [← hx3]
  refine lv_if_eq (tgt := 959) hx hb dL_law_952 (by decide) (fun k_4 => ?_) (fun k_4 => ?_)
  · skip
    refine lv_iconst (v := bI false) hx hb dL_law_959 (by decide) ?_
    refine lv_aload_n hx hb dL_law_960 rfl (lv_at hl 3 rfl) ?_
    refine ll_w (vx_runSW (As := [.ref (ad 57), .int x1, .int x2, .int (bI false), .ref o]) (rest := []) ⟨hx, hb, hml, hown, hts⟩ (m_L_extreme l F.st dC dI cB ad o S x1 x2 false hI9.x hI9.x5 (by have := hI9.xp; omega)) (vx_cwSW 5 hts gL_law_L_extreme rfl rfl rfl hdL_extreme_5.2 ⟨Nat.le_of_ble_eq_true rfl, Nat.le_of_ble_eq_true rfl⟩) (hS.preW F.K) rfl rfl hl.1 rfl (lv_room (Nat.le_of_ble_eq_true rfl)) dL_law_961 ⟨le_rc (by omega), le_rs (by omega)⟩) F.K hS (fun r0 S1 n1 H locs hq9 hN hS => ?_)
    have hLQ : LQ S S1 := hq9.1
    have hR : R_extreme x1 x2 false S r0 S1 n1 := hq9.2
    clear hq9
    rcases hR with ⟨hb9, rfl, rfl⟩ | ⟨i, hi, rfl, hb9, rfl, rfl⟩ | ⟨i, j, r7, hi, hj, rfl, rfl, rfl, rfl, hw1, hw2⟩
    · skip
      refine lv_istore (lv' := [(5, .int (nI 1)), (0, .ref b), (1, .ref (ad 57)), (2, .ref (am 0)), (3, .ref o), (4, .int (nI iL))]) hx hb dL_law_964 hl (by decide) rfl (fun ls hl => ?_)
      refine lv_aload_n hx hb dL_law_966 rfl (lv_at hl 3 rfl) ?_
      refine lv_aload_n hx hb dL_law_967 rfl (lv_at hl 1 rfl) ?_
      refine lv_iload hx hb dL_law_968 (lv_at hl 5 rfl) ?_
      refine lv_iconst (v := nI 1) hx hb dL_law_970 (by decide) ?_
      refine kn_iadd hx hb dL_law_971 ?_
      refine va_sld hx hb F.sc F.bl (fun z => Nat.not_le.mpr F.bl z) hS.st (vp_in_nI (show iL + 1 < L by omega) (by omega)) dL_law_972 ?_
      rw [← hx1]
      refine lv_aload_n hx hb dL_law_973 rfl (lv_at hl 1 rfl) ?_
      refine lv_iload hx hb dL_law_974 (lv_at hl 5 rfl) ?_
      refine lv_iconst (v := nI 2) hx hb dL_law_976 (by decide) ?_
      refine kn_iadd hx hb dL_law_977 ?_
      refine va_sld hx hb F.sc F.bl (fun z => Nat.not_le.mpr F.bl z) hS.st (vp_in_nI (show iL + 2 < L by omega) (by omega)) dL_law_978 ?_
      rw [← hx2]
      refine lv_aload_n hx hb dL_law_979 rfl (lv_at hl 1 rfl) ?_
      refine lv_iload hx hb dL_law_980 (lv_at hl 5 rfl) ?_
      refine lv_iconst (v := nI 3) hx hb dL_law_982 (by decide) ?_
      refine kn_iadd hx hb dL_law_983 ?_
      refine va_sld hx hb F.sc F.bl (fun z => Nat.not_le.mpr F.bl z) hS.st (vp_in_nI (show iL + 3 < L by omega) (by omega)) dL_law_984 ?_
      rw [← hx3]
      refine lv_if_eq (tgt := 992) hx hb dL_law_985 (by decide) (fun k_5 => ?_) (fun k_5 => absurd k_4 k_5)
      refine lv_iconst (v := bI false) hx hb dL_law_992 (by decide) ?_
      have hI := hI9.m
      have T := hI9.T
      have hc : M.2.2.2.1 + 12 < 1000000 := by have := hI9.mp; omega
      refine ll_m (va_runV (As := [.int x1, .int x2, .int (bI false)]) (rest := []) ⟨hx, hb, hml, hown, hts⟩ (o_X6_extreme_1 l dC dI am M x1 x2 false hb9 hI) (cwV 3 hts gL_law_X6_extreme rfl rfl rfl hdX6_extreme_3 ⟨Nat.le_of_ble_eq_true rfl, Nat.le_of_ble_eq_true rfl⟩) (hS.preM F.K) rfl rfl hl.1 rfl (lv_room (Nat.le_of_ble_eq_true rfl)) dL_law_993 ⟨le_rc (by omega), le_rs (by omega)⟩) F.K hS (fun r8 M1 H locs hko hv hS => ?_)
      have hLM : LM M M1 := by rw [hv]; exact LM_th hI _
      have hT : Tie2 S M1 := by rw [hv]; exact T.th _
      refine lv_istore (lv' := [(6, .int r8), (5, .int (nI 1)), (0, .ref b), (1, .ref (ad 57)), (2, .ref (am 0)), (3, .ref o), (4, .int (nI iL))]) hx hb dL_law_996 hl (by decide) rfl (fun ls hl => ?_)
      refine lv_goto (tgt := 2052) hx hb dL_law_998 (by decide) ?_
      exact W.widen (k := 100 + 224 * (n + 1)) (n := 1200 + 10680 * (n + 1)) (by omega) (by omega) (kk9 S M1 _ _ _ (hI9.next hLQ hLM hT) hS (lv_sub hl [2, 3, 4, 5, 6] rfl))
    · skip
      refine lv_istore (lv' := [(5, .int (nI 1)), (0, .ref b), (1, .ref (ad 57)), (2, .ref (am 0)), (3, .ref o), (4, .int (nI iL))]) hx hb dL_law_964 hl (by decide) rfl (fun ls hl => ?_)
      refine lv_aload_n hx hb dL_law_966 rfl (lv_at hl 3 rfl) ?_
      refine lv_aload_n hx hb dL_law_967 rfl (lv_at hl 1 rfl) ?_
      refine lv_iload hx hb dL_law_968 (lv_at hl 5 rfl) ?_
      refine lv_iconst (v := nI 1) hx hb dL_law_970 (by decide) ?_
      refine kn_iadd hx hb dL_law_971 ?_
      refine va_sld hx hb F.sc F.bl (fun z => Nat.not_le.mpr F.bl z) hS.st (vp_in_nI (show iL + 1 < L by omega) (by omega)) dL_law_972 ?_
      rw [← hx1]
      refine lv_aload_n hx hb dL_law_973 rfl (lv_at hl 1 rfl) ?_
      refine lv_iload hx hb dL_law_974 (lv_at hl 5 rfl) ?_
      refine lv_iconst (v := nI 2) hx hb dL_law_976 (by decide) ?_
      refine kn_iadd hx hb dL_law_977 ?_
      refine va_sld hx hb F.sc F.bl (fun z => Nat.not_le.mpr F.bl z) hS.st (vp_in_nI (show iL + 2 < L by omega) (by omega)) dL_law_978 ?_
      rw [← hx2]
      refine lv_aload_n hx hb dL_law_979 rfl (lv_at hl 1 rfl) ?_
      refine lv_iload hx hb dL_law_980 (lv_at hl 5 rfl) ?_
      refine lv_iconst (v := nI 3) hx hb dL_law_982 (by decide) ?_
      refine kn_iadd hx hb dL_law_983 ?_
      refine va_sld hx hb F.sc F.bl (fun z => Nat.not_le.mpr F.bl z) hS.st (vp_in_nI (show iL + 3 < L by omega) (by omega)) dL_law_984 ?_
      rw [← hx3]
      refine lv_if_eq (tgt := 992) hx hb dL_law_985 (by decide) (fun k_6 => ?_) (fun k_6 => absurd k_4 k_6)
      refine lv_iconst (v := bI false) hx hb dL_law_992 (by decide) ?_
      have hI := hI9.m
      have T := hI9.T
      have hc : M.2.2.2.1 + 12 < 1000000 := by have := hI9.mp; omega
      have hn := (hI.1 i hi).1
      refine ll_m (va_runV (As := [.int (nI i), .int x2, .int (bI false)]) (rest := []) ⟨hx, hb, hml, hown, hts⟩ (o_X6_extreme_2 l dC dI am M i x2 false hi hb9 hI) (cwV 3 hts gL_law_X6_extreme rfl rfl rfl hdX6_extreme_3 ⟨Nat.le_of_ble_eq_true rfl, Nat.le_of_ble_eq_true rfl⟩) (hS.preM F.K) rfl rfl hl.1 rfl (lv_room (Nat.le_of_ble_eq_true rfl)) dL_law_993 ⟨le_rc (by omega), le_rs (by omega)⟩) F.K hS (fun r8 M1 H locs hko hv hS => ?_)
      have hLM : LM M M1 := by rw [hv]; exact LM_th hI _
      have hT : Tie2 S M1 := by rw [hv]; exact T.th _
      refine lv_istore (lv' := [(6, .int r8), (5, .int (nI 1)), (0, .ref b), (1, .ref (ad 57)), (2, .ref (am 0)), (3, .ref o), (4, .int (nI iL))]) hx hb dL_law_996 hl (by decide) rfl (fun ls hl => ?_)
      refine lv_goto (tgt := 2052) hx hb dL_law_998 (by decide) ?_
      exact W.widen (k := 100 + 224 * (n + 1)) (n := 1200 + 10680 * (n + 1)) (by omega) (by omega) (kk9 S M1 _ _ _ (hI9.next hLQ hLM hT) hS (lv_sub hl [2, 3, 4, 5, 6] rfl))
    · skip
      have hw := And.intro hw1 hw2
      refine lv_istore (lv' := [(5, .int (nI 0)), (0, .ref b), (1, .ref (ad 57)), (2, .ref (am 0)), (3, .ref o), (4, .int (nI iL))]) hx hb dL_law_964 hl (by decide) rfl (fun ls hl => ?_)
      refine lv_aload_n hx hb dL_law_966 rfl (lv_at hl 3 rfl) ?_
      refine lv_aload_n hx hb dL_law_967 rfl (lv_at hl 1 rfl) ?_
      refine lv_iload hx hb dL_law_968 (lv_at hl 5 rfl) ?_
      refine lv_iconst (v := nI 1) hx hb dL_law_970 (by decide) ?_
      refine kn_iadd hx hb dL_law_971 ?_
      refine va_sld hx hb F.sc F.bl (fun z => Nat.not_le.mpr F.bl z) hS.st (vp_in_nI (show iL + 1 < L by omega) (by omega)) dL_law_972 ?_
      rw [← hx1]
      refine lv_aload_n hx hb dL_law_973 rfl (lv_at hl 1 rfl) ?_
      refine lv_iload hx hb dL_law_974 (lv_at hl 5 rfl) ?_
      refine lv_iconst (v := nI 2) hx hb dL_law_976 (by decide) ?_
      refine kn_iadd hx hb dL_law_977 ?_
      refine va_sld hx hb F.sc F.bl (fun z => Nat.not_le.mpr F.bl z) hS.st (vp_in_nI (show iL + 2 < L by omega) (by omega)) dL_law_978 ?_
      rw [← hx2]
      refine lv_aload_n hx hb dL_law_979 rfl (lv_at hl 1 rfl) ?_
      refine lv_iload hx hb dL_law_980 (lv_at hl 5 rfl) ?_
      refine lv_iconst (v := nI 3) hx hb dL_law_982 (by decide) ?_
      refine kn_iadd hx hb dL_law_983 ?_
      refine va_sld hx hb F.sc F.bl (fun z => Nat.not_le.mpr F.bl z) hS.st (vp_in_nI (show iL + 3 < L by omega) (by omega)) dL_law_984 ?_
      rw [← hx3]
      refine lv_if_eq (tgt := 992) hx hb dL_law_985 (by decide) (fun k_7 => ?_) (fun k_7 => absurd k_4 k_7)
      refine lv_iconst (v := bI false) hx hb dL_law_992 (by decide) ?_
      have hI := hI9.m
      have T := hI9.T
      have hc : M.2.2.2.1 + 12 < 1000000 := by have := hI9.mp; omega
      have hn := (hI.1 i hi).1
      refine ll_m (va_runV (As := [.int (nI i), .int (nI j), .int (bI false)]) (rest := []) ⟨hx, hb, hml, hown, hts⟩ (m_X6_extreme l dC dI am M i j false hi hj hI) (cwV 3 hts gL_law_X6_extreme rfl rfl rfl hdX6_extreme_3 ⟨Nat.le_of_ble_eq_true rfl, Nat.le_of_ble_eq_true rfl⟩) (hS.preM F.K) rfl rfl hl.1 rfl (lv_room (Nat.le_of_ble_eq_true rfl)) dL_law_993 ⟨le_rc (by omega), le_rs (by omega)⟩) F.K hS (fun r8 M1 H locs hko hv hS => ?_)
      have hLM : LM M M1 := by rw [hv.2]; exact LM_th hI 0
      obtain ⟨hT, he9, ht9⟩ := A_extreme T.1 T.2 hI9.x hi hj hw hv
      refine lv_istore (lv' := [(6, .int r8), (5, .int (nI 0)), (0, .ref b), (1, .ref (ad 57)), (2, .ref (am 0)), (3, .ref o), (4, .int (nI iL))]) hx hb dL_law_996 hl (by decide) rfl (fun ls hl => ?_)
      refine lv_goto (tgt := 2052) hx hb dL_law_998 (by decide) ?_
      exact W.widen (k := 100 + 224 * (n + 1)) (n := 1200 + 10680 * (n + 1)) (by omega) (by omega) (kk9 S1 M1 _ _ _ (hI9.next hLQ hLM hT) hS (lv_sub hl [2, 3, 4, 5, 6] rfl))
  · skip
    refine lv_iconst (v := bI true) hx hb dL_law_955 (by decide) ?_
    refine lv_goto (tgt := 960) hx hb dL_law_956 (by decide) ?_
    refine lv_aload_n hx hb dL_law_960 rfl (lv_at hl 3 rfl) ?_
    refine ll_w (vx_runSW (As := [.ref (ad 57), .int x1, .int x2, .int (bI true), .ref o]) (rest := []) ⟨hx, hb, hml, hown, hts⟩ (m_L_extreme l F.st dC dI cB ad o S x1 x2 true hI9.x hI9.x5 (by have := hI9.xp; omega)) (vx_cwSW 5 hts gL_law_L_extreme rfl rfl rfl hdL_extreme_5.2 ⟨Nat.le_of_ble_eq_true rfl, Nat.le_of_ble_eq_true rfl⟩) (hS.preW F.K) rfl rfl hl.1 rfl (lv_room (Nat.le_of_ble_eq_true rfl)) dL_law_961 ⟨le_rc (by omega), le_rs (by omega)⟩) F.K hS (fun r0 S1 n1 H locs hq9 hN hS => ?_)
    have hLQ : LQ S S1 := hq9.1
    have hR : R_extreme x1 x2 true S r0 S1 n1 := hq9.2
    clear hq9
    rcases hR with ⟨hb9, rfl, rfl⟩ | ⟨i, hi, rfl, hb9, rfl, rfl⟩ | ⟨i, j, r7, hi, hj, rfl, rfl, rfl, rfl, hw1, hw2⟩
    · skip
      refine lv_istore (lv' := [(5, .int (nI 1)), (0, .ref b), (1, .ref (ad 57)), (2, .ref (am 0)), (3, .ref o), (4, .int (nI iL))]) hx hb dL_law_964 hl (by decide) rfl (fun ls hl => ?_)
      refine lv_aload_n hx hb dL_law_966 rfl (lv_at hl 3 rfl) ?_
      refine lv_aload_n hx hb dL_law_967 rfl (lv_at hl 1 rfl) ?_
      refine lv_iload hx hb dL_law_968 (lv_at hl 5 rfl) ?_
      refine lv_iconst (v := nI 1) hx hb dL_law_970 (by decide) ?_
      refine kn_iadd hx hb dL_law_971 ?_
      refine va_sld hx hb F.sc F.bl (fun z => Nat.not_le.mpr F.bl z) hS.st (vp_in_nI (show iL + 1 < L by omega) (by omega)) dL_law_972 ?_
      rw [← hx1]
      refine lv_aload_n hx hb dL_law_973 rfl (lv_at hl 1 rfl) ?_
      refine lv_iload hx hb dL_law_974 (lv_at hl 5 rfl) ?_
      refine lv_iconst (v := nI 2) hx hb dL_law_976 (by decide) ?_
      refine kn_iadd hx hb dL_law_977 ?_
      refine va_sld hx hb F.sc F.bl (fun z => Nat.not_le.mpr F.bl z) hS.st (vp_in_nI (show iL + 2 < L by omega) (by omega)) dL_law_978 ?_
      rw [← hx2]
      refine lv_aload_n hx hb dL_law_979 rfl (lv_at hl 1 rfl) ?_
      refine lv_iload hx hb dL_law_980 (lv_at hl 5 rfl) ?_
      refine lv_iconst (v := nI 3) hx hb dL_law_982 (by decide) ?_
      refine kn_iadd hx hb dL_law_983 ?_
      refine va_sld hx hb F.sc F.bl (fun z => Nat.not_le.mpr F.bl z) hS.st (vp_in_nI (show iL + 3 < L by omega) (by omega)) dL_law_984 ?_
      rw [← hx3]
      refine lv_if_eq (tgt := 992) hx hb dL_law_985 (by decide) (fun k_8 => absurd k_8 k_4) (fun k_8 => ?_)
      refine lv_iconst (v := bI true) hx hb dL_law_988 (by decide) ?_
      refine lv_goto (tgt := 993) hx hb dL_law_989 (by decide) ?_
      have hI := hI9.m
      have T := hI9.T
      have hc : M.2.2.2.1 + 12 < 1000000 := by have := hI9.mp; omega
      refine ll_m (va_runV (As := [.int x1, .int x2, .int (bI true)]) (rest := []) ⟨hx, hb, hml, hown, hts⟩ (o_X6_extreme_1 l dC dI am M x1 x2 true hb9 hI) (cwV 3 hts gL_law_X6_extreme rfl rfl rfl hdX6_extreme_3 ⟨Nat.le_of_ble_eq_true rfl, Nat.le_of_ble_eq_true rfl⟩) (hS.preM F.K) rfl rfl hl.1 rfl (lv_room (Nat.le_of_ble_eq_true rfl)) dL_law_993 ⟨le_rc (by omega), le_rs (by omega)⟩) F.K hS (fun r8 M1 H locs hko hv hS => ?_)
      have hLM : LM M M1 := by rw [hv]; exact LM_th hI _
      have hT : Tie2 S M1 := by rw [hv]; exact T.th _
      refine lv_istore (lv' := [(6, .int r8), (5, .int (nI 1)), (0, .ref b), (1, .ref (ad 57)), (2, .ref (am 0)), (3, .ref o), (4, .int (nI iL))]) hx hb dL_law_996 hl (by decide) rfl (fun ls hl => ?_)
      refine lv_goto (tgt := 2052) hx hb dL_law_998 (by decide) ?_
      exact W.widen (k := 100 + 224 * (n + 1)) (n := 1200 + 10680 * (n + 1)) (by omega) (by omega) (kk9 S M1 _ _ _ (hI9.next hLQ hLM hT) hS (lv_sub hl [2, 3, 4, 5, 6] rfl))
    · skip
      refine lv_istore (lv' := [(5, .int (nI 1)), (0, .ref b), (1, .ref (ad 57)), (2, .ref (am 0)), (3, .ref o), (4, .int (nI iL))]) hx hb dL_law_964 hl (by decide) rfl (fun ls hl => ?_)
      refine lv_aload_n hx hb dL_law_966 rfl (lv_at hl 3 rfl) ?_
      refine lv_aload_n hx hb dL_law_967 rfl (lv_at hl 1 rfl) ?_
      refine lv_iload hx hb dL_law_968 (lv_at hl 5 rfl) ?_
      refine lv_iconst (v := nI 1) hx hb dL_law_970 (by decide) ?_
      refine kn_iadd hx hb dL_law_971 ?_
      refine va_sld hx hb F.sc F.bl (fun z => Nat.not_le.mpr F.bl z) hS.st (vp_in_nI (show iL + 1 < L by omega) (by omega)) dL_law_972 ?_
      rw [← hx1]
      refine lv_aload_n hx hb dL_law_973 rfl (lv_at hl 1 rfl) ?_
      refine lv_iload hx hb dL_law_974 (lv_at hl 5 rfl) ?_
      refine lv_iconst (v := nI 2) hx hb dL_law_976 (by decide) ?_
      refine kn_iadd hx hb dL_law_977 ?_
      refine va_sld hx hb F.sc F.bl (fun z => Nat.not_le.mpr F.bl z) hS.st (vp_in_nI (show iL + 2 < L by omega) (by omega)) dL_law_978 ?_
      rw [← hx2]
      refine lv_aload_n hx hb dL_law_979 rfl (lv_at hl 1 rfl) ?_
      refine lv_iload hx hb dL_law_980 (lv_at hl 5 rfl) ?_
      refine lv_iconst (v := nI 3) hx hb dL_law_982 (by decide) ?_
      refine kn_iadd hx hb dL_law_983 ?_
      refine va_sld hx hb F.sc F.bl (fun z => Nat.not_le.mpr F.bl z) hS.st (vp_in_nI (show iL + 3 < L by omega) (by omega)) dL_law_984 ?_
      rw [← hx3]
      refine lv_if_eq (tgt := 992) hx hb dL_law_985 (by decide) (fun k_9 => absurd k_9 k_4) (fun k_9 => ?_)
      refine lv_iconst (v := bI true) hx hb dL_law_988 (by decide) ?_
      refine lv_goto (tgt := 993) hx hb dL_law_989 (by decide) ?_
      have hI := hI9.m
      have T := hI9.T
      have hc : M.2.2.2.1 + 12 < 1000000 := by have := hI9.mp; omega
      have hn := (hI.1 i hi).1
      refine ll_m (va_runV (As := [.int (nI i), .int x2, .int (bI true)]) (rest := []) ⟨hx, hb, hml, hown, hts⟩ (o_X6_extreme_2 l dC dI am M i x2 true hi hb9 hI) (cwV 3 hts gL_law_X6_extreme rfl rfl rfl hdX6_extreme_3 ⟨Nat.le_of_ble_eq_true rfl, Nat.le_of_ble_eq_true rfl⟩) (hS.preM F.K) rfl rfl hl.1 rfl (lv_room (Nat.le_of_ble_eq_true rfl)) dL_law_993 ⟨le_rc (by omega), le_rs (by omega)⟩) F.K hS (fun r8 M1 H locs hko hv hS => ?_)
      have hLM : LM M M1 := by rw [hv]; exact LM_th hI _
      have hT : Tie2 S M1 := by rw [hv]; exact T.th _
      refine lv_istore (lv' := [(6, .int r8), (5, .int (nI 1)), (0, .ref b), (1, .ref (ad 57)), (2, .ref (am 0)), (3, .ref o), (4, .int (nI iL))]) hx hb dL_law_996 hl (by decide) rfl (fun ls hl => ?_)
      refine lv_goto (tgt := 2052) hx hb dL_law_998 (by decide) ?_
      exact W.widen (k := 100 + 224 * (n + 1)) (n := 1200 + 10680 * (n + 1)) (by omega) (by omega) (kk9 S M1 _ _ _ (hI9.next hLQ hLM hT) hS (lv_sub hl [2, 3, 4, 5, 6] rfl))
    · skip
      have hw := And.intro hw1 hw2
      refine lv_istore (lv' := [(5, .int (nI 0)), (0, .ref b), (1, .ref (ad 57)), (2, .ref (am 0)), (3, .ref o), (4, .int (nI iL))]) hx hb dL_law_964 hl (by decide) rfl (fun ls hl => ?_)
      refine lv_aload_n hx hb dL_law_966 rfl (lv_at hl 3 rfl) ?_
      refine lv_aload_n hx hb dL_law_967 rfl (lv_at hl 1 rfl) ?_
      refine lv_iload hx hb dL_law_968 (lv_at hl 5 rfl) ?_
      refine lv_iconst (v := nI 1) hx hb dL_law_970 (by decide) ?_
      refine kn_iadd hx hb dL_law_971 ?_
      refine va_sld hx hb F.sc F.bl (fun z => Nat.not_le.mpr F.bl z) hS.st (vp_in_nI (show iL + 1 < L by omega) (by omega)) dL_law_972 ?_
      rw [← hx1]
      refine lv_aload_n hx hb dL_law_973 rfl (lv_at hl 1 rfl) ?_
      refine lv_iload hx hb dL_law_974 (lv_at hl 5 rfl) ?_
      refine lv_iconst (v := nI 2) hx hb dL_law_976 (by decide) ?_
      refine kn_iadd hx hb dL_law_977 ?_
      refine va_sld hx hb F.sc F.bl (fun z => Nat.not_le.mpr F.bl z) hS.st (vp_in_nI (show iL + 2 < L by omega) (by omega)) dL_law_978 ?_
      rw [← hx2]
      refine lv_aload_n hx hb dL_law_979 rfl (lv_at hl 1 rfl) ?_
      refine lv_iload hx hb dL_law_980 (lv_at hl 5 rfl) ?_
      refine lv_iconst (v := nI 3) hx hb dL_law_982 (by decide) ?_
      refine kn_iadd hx hb dL_law_983 ?_
      refine va_sld hx hb F.sc F.bl (fun z => Nat.not_le.mpr F.bl z) hS.st (vp_in_nI (show iL + 3 < L by omega) (by omega)) dL_law_984 ?_
      rw [← hx3]
      refine lv_if_eq (tgt := 992) hx hb dL_law_985 (by decide) (fun k_10 => absurd k_10 k_4) (fun k_10 => ?_)
      refine lv_iconst (v := bI true) hx hb dL_law_988 (by decide) ?_
      refine lv_goto (tgt := 993) hx hb dL_law_989 (by decide) ?_
      have hI := hI9.m
      have T := hI9.T
      have hc : M.2.2.2.1 + 12 < 1000000 := by have := hI9.mp; omega
      have hn := (hI.1 i hi).1
      refine ll_m (va_runV (As := [.int (nI i), .int (nI j), .int (bI true)]) (rest := []) ⟨hx, hb, hml, hown, hts⟩ (m_X6_extreme l dC dI am M i j true hi hj hI) (cwV 3 hts gL_law_X6_extreme rfl rfl rfl hdX6_extreme_3 ⟨Nat.le_of_ble_eq_true rfl, Nat.le_of_ble_eq_true rfl⟩) (hS.preM F.K) rfl rfl hl.1 rfl (lv_room (Nat.le_of_ble_eq_true rfl)) dL_law_993 ⟨le_rc (by omega), le_rs (by omega)⟩) F.K hS (fun r8 M1 H locs hko hv hS => ?_)
      have hLM : LM M M1 := by rw [hv.2]; exact LM_th hI 0
      obtain ⟨hT, he9, ht9⟩ := A_extreme T.1 T.2 hI9.x hi hj hw hv
      refine lv_istore (lv' := [(6, .int r8), (5, .int (nI 0)), (0, .ref b), (1, .ref (ad 57)), (2, .ref (am 0)), (3, .ref o), (4, .int (nI iL))]) hx hb dL_law_996 hl (by decide) rfl (fun ls hl => ?_)
      refine lv_goto (tgt := 2052) hx hb dL_law_998 (by decide) ?_
      exact W.widen (k := 100 + 224 * (n + 1)) (n := 1200 + 10680 * (n + 1)) (by omega) (by omega) (kk9 S1 M1 _ _ _ (hI9.next hLQ hLM hT) hS (lv_sub hl [2, 3, 4, 5, 6] rfl))
set_option maxHeartbeats 4000000 in
set_option maxRecDepth 100000 in
theorem lc_17 {p : Program} {l : Launch} {e : Env} {s : State} {m : MethodId} {below : List Frame} {meth : Method} {c : Code} {b L : Nat} {xs : Nat → Int32} {dC : Nat → ClassId} {dI : Nat → Nat → Nat} {cB : ClassId} {ad am : Nat → Nat} {o n iL : Nat} {Q : State → Prop} (F : LF p l s m c b L xs dC dI cB ad am o) (hni : iL = 5 * n) (hiL : iL + 5 ≤ L) : LCase p l e s m below meth c b dC dI ad am o n iL Q 1001 := by
  intro S M H locs hI9 hS kk9 ls hl
  have hx := F.x
  have hb := F.b
  have hml := F.ml
  have hown := F.own
  have hts := F.ts
  have hL := F.hL
  have hn9 : n ≤ 511 := by omega
  refine lv_aload_n hx hb dL_law_1001 rfl (lv_at hl 1 rfl) ?_
  refine lv_aload_n hx hb dL_law_1002 rfl (lv_at hl 0 rfl) ?_
  refine lv_iload hx hb dL_law_1003 (lv_at hl 4 rfl) ?_
  refine lv_iconst (v := nI 1) hx hb dL_law_1005 (by decide) ?_
  refine kn_iadd hx hb dL_law_1006 ?_
  refine va_sld hx hb F.sc F.bl (fun z => Nat.not_le.mpr F.bl z) hS.st (vp_in_nI (show iL + 1 < L by omega) (by omega)) dL_law_1007 ?_
  obtain ⟨x1, hx1⟩ : ∃ z, z = xs (nI (iL + 1)).toNatClampNeg := ⟨_, rfl⟩
  rw [← hx1]
  refine lv_aload_n hx hb dL_law_1008 rfl (lv_at hl 0 rfl) ?_
  refine lv_iload hx hb dL_law_1009 (lv_at hl 4 rfl) ?_
  refine lv_iconst (v := nI 2) hx hb dL_law_1011 (by decide) ?_
  refine kn_iadd hx hb dL_law_1012 ?_
  refine va_sld hx hb F.sc F.bl (fun z => Nat.not_le.mpr F.bl z) hS.st (vp_in_nI (show iL + 2 < L by omega) (by omega)) dL_law_1013 ?_
  obtain ⟨x2, hx2⟩ : ∃ z, z = xs (nI (iL + 2)).toNatClampNeg := ⟨_, rfl⟩
  rw [← hx2]
  refine lv_aload_n hx hb dL_law_1014 rfl (lv_at hl 0 rfl) ?_
  refine lv_iload hx hb dL_law_1015 (lv_at hl 4 rfl) ?_
  refine lv_iconst (v := nI 3) hx hb dL_law_1017 (by decide) ?_
  refine kn_iadd hx hb dL_law_1018 ?_
  refine va_sld hx hb F.sc F.bl (fun z => Nat.not_le.mpr F.bl z) hS.st (vp_in_nI (show iL + 3 < L by omega) (by omega)) dL_law_1019 ?_
  obtain ⟨x3, hx3⟩ : ∃ z, z = xs (nI (iL + 3)).toNatClampNeg := ⟨_, rfl⟩
  rw [← hx3]
  refine lv_aload_n hx hb dL_law_1020 rfl (lv_at hl 3 rfl) ?_
  refine ll_w (vx_runSW (As := [.ref (ad 57), .int x1, .int x2, .int x3, .ref o]) (rest := []) ⟨hx, hb, hml, hown, hts⟩ (m_L_search l F.st dC dI cB ad o S x1 x2 x3 hI9.x hI9.x5 (by have := hI9.xp; omega)) (vx_cwSW 5 hts gL_law_L_search rfl rfl rfl hdL_search_5.2 ⟨Nat.le_of_ble_eq_true rfl, Nat.le_of_ble_eq_true rfl⟩) (hS.preW F.K) rfl rfl hl.1 rfl (lv_room (Nat.le_of_ble_eq_true rfl)) dL_law_1021 ⟨le_rc (by omega), le_rs (by omega)⟩) F.K hS (fun r0 S1 n1 H locs hq9 hN hS => ?_)
  have hLQ : LQ S S1 := hq9.1
  have hR : R_search x1 x2 x3 S r0 S1 n1 := hq9.2
  clear hq9
  rcases hR with ⟨hb9, rfl, rfl⟩ | ⟨i, hi, rfl, hb9, rfl, rfl⟩ | ⟨i, j, hi, hj, rfl, rfl, hb9, rfl, rfl⟩ | ⟨i, j, v, r7, hi, hj, hv9, rfl, rfl, rfl, rfl, rfl, hw⟩
  · skip
    refine lv_istore (lv' := [(5, .int (nI 1)), (0, .ref b), (1, .ref (ad 57)), (2, .ref (am 0)), (3, .ref o), (4, .int (nI iL))]) hx hb dL_law_1024 hl (by decide) rfl (fun ls hl => ?_)
    refine lv_aload_n hx hb dL_law_1026 rfl (lv_at hl 3 rfl) ?_
    refine lv_aload_n hx hb dL_law_1027 rfl (lv_at hl 1 rfl) ?_
    refine lv_iload hx hb dL_law_1028 (lv_at hl 5 rfl) ?_
    refine lv_iconst (v := nI 1) hx hb dL_law_1030 (by decide) ?_
    refine kn_iadd hx hb dL_law_1031 ?_
    refine va_sld hx hb F.sc F.bl (fun z => Nat.not_le.mpr F.bl z) hS.st (vp_in_nI (show iL + 1 < L by omega) (by omega)) dL_law_1032 ?_
    rw [← hx1]
    refine lv_aload_n hx hb dL_law_1033 rfl (lv_at hl 1 rfl) ?_
    refine lv_iload hx hb dL_law_1034 (lv_at hl 5 rfl) ?_
    refine lv_iconst (v := nI 2) hx hb dL_law_1036 (by decide) ?_
    refine kn_iadd hx hb dL_law_1037 ?_
    refine va_sld hx hb F.sc F.bl (fun z => Nat.not_le.mpr F.bl z) hS.st (vp_in_nI (show iL + 2 < L by omega) (by omega)) dL_law_1038 ?_
    rw [← hx2]
    refine lv_aload_n hx hb dL_law_1039 rfl (lv_at hl 1 rfl) ?_
    refine lv_iload hx hb dL_law_1040 (lv_at hl 5 rfl) ?_
    refine lv_iconst (v := nI 3) hx hb dL_law_1042 (by decide) ?_
    refine kn_iadd hx hb dL_law_1043 ?_
    refine va_sld hx hb F.sc F.bl (fun z => Nat.not_le.mpr F.bl z) hS.st (vp_in_nI (show iL + 3 < L by omega) (by omega)) dL_law_1044 ?_
    rw [← hx3]
    have hI := hI9.m
    have T := hI9.T
    have hc : M.2.2.2.1 + 12 < 1000000 := by have := hI9.mp; omega
    refine ll_m (va_runV (As := [.int x1, .int x2, .int x3]) (rest := []) ⟨hx, hb, hml, hown, hts⟩ (o_X6_search_1 l dC dI am M x1 x2 x3 hb9 hI) (cwV 3 hts gL_law_X6_search rfl rfl rfl hdX6_search_3 ⟨Nat.le_of_ble_eq_true rfl, Nat.le_of_ble_eq_true rfl⟩) (hS.preM F.K) rfl rfl hl.1 rfl (lv_room (Nat.le_of_ble_eq_true rfl)) dL_law_1045 ⟨le_rc (by omega), le_rs (by omega)⟩) F.K hS (fun r8 M1 H locs hko hv hS => ?_)
    have hLM : LM M M1 := by rw [hv]; exact LM_th hI _
    have hT : Tie2 S M1 := by rw [hv]; exact T.th _
    refine lv_istore (lv' := [(6, .int r8), (5, .int (nI 1)), (0, .ref b), (1, .ref (ad 57)), (2, .ref (am 0)), (3, .ref o), (4, .int (nI iL))]) hx hb dL_law_1048 hl (by decide) rfl (fun ls hl => ?_)
    refine lv_goto (tgt := 2052) hx hb dL_law_1050 (by decide) ?_
    exact W.widen (k := 100 + 224 * (n + 1)) (n := 1200 + 10680 * (n + 1)) (by omega) (by omega) (kk9 S M1 _ _ _ (hI9.next hLQ hLM hT) hS (lv_sub hl [2, 3, 4, 5, 6] rfl))
  · skip
    refine lv_istore (lv' := [(5, .int (nI 1)), (0, .ref b), (1, .ref (ad 57)), (2, .ref (am 0)), (3, .ref o), (4, .int (nI iL))]) hx hb dL_law_1024 hl (by decide) rfl (fun ls hl => ?_)
    refine lv_aload_n hx hb dL_law_1026 rfl (lv_at hl 3 rfl) ?_
    refine lv_aload_n hx hb dL_law_1027 rfl (lv_at hl 1 rfl) ?_
    refine lv_iload hx hb dL_law_1028 (lv_at hl 5 rfl) ?_
    refine lv_iconst (v := nI 1) hx hb dL_law_1030 (by decide) ?_
    refine kn_iadd hx hb dL_law_1031 ?_
    refine va_sld hx hb F.sc F.bl (fun z => Nat.not_le.mpr F.bl z) hS.st (vp_in_nI (show iL + 1 < L by omega) (by omega)) dL_law_1032 ?_
    rw [← hx1]
    refine lv_aload_n hx hb dL_law_1033 rfl (lv_at hl 1 rfl) ?_
    refine lv_iload hx hb dL_law_1034 (lv_at hl 5 rfl) ?_
    refine lv_iconst (v := nI 2) hx hb dL_law_1036 (by decide) ?_
    refine kn_iadd hx hb dL_law_1037 ?_
    refine va_sld hx hb F.sc F.bl (fun z => Nat.not_le.mpr F.bl z) hS.st (vp_in_nI (show iL + 2 < L by omega) (by omega)) dL_law_1038 ?_
    rw [← hx2]
    refine lv_aload_n hx hb dL_law_1039 rfl (lv_at hl 1 rfl) ?_
    refine lv_iload hx hb dL_law_1040 (lv_at hl 5 rfl) ?_
    refine lv_iconst (v := nI 3) hx hb dL_law_1042 (by decide) ?_
    refine kn_iadd hx hb dL_law_1043 ?_
    refine va_sld hx hb F.sc F.bl (fun z => Nat.not_le.mpr F.bl z) hS.st (vp_in_nI (show iL + 3 < L by omega) (by omega)) dL_law_1044 ?_
    rw [← hx3]
    have hI := hI9.m
    have T := hI9.T
    have hc : M.2.2.2.1 + 12 < 1000000 := by have := hI9.mp; omega
    have hn := (hI.1 i hi).1
    refine ll_m (va_runV (As := [.int (nI i), .int x2, .int x3]) (rest := []) ⟨hx, hb, hml, hown, hts⟩ (o_X6_search_2 l dC dI am M i x2 x3 hi hb9 hI) (cwV 3 hts gL_law_X6_search rfl rfl rfl hdX6_search_3 ⟨Nat.le_of_ble_eq_true rfl, Nat.le_of_ble_eq_true rfl⟩) (hS.preM F.K) rfl rfl hl.1 rfl (lv_room (Nat.le_of_ble_eq_true rfl)) dL_law_1045 ⟨le_rc (by omega), le_rs (by omega)⟩) F.K hS (fun r8 M1 H locs hko hv hS => ?_)
    have hLM : LM M M1 := by rw [hv]; exact LM_th hI _
    have hT : Tie2 S M1 := by rw [hv]; exact T.th _
    refine lv_istore (lv' := [(6, .int r8), (5, .int (nI 1)), (0, .ref b), (1, .ref (ad 57)), (2, .ref (am 0)), (3, .ref o), (4, .int (nI iL))]) hx hb dL_law_1048 hl (by decide) rfl (fun ls hl => ?_)
    refine lv_goto (tgt := 2052) hx hb dL_law_1050 (by decide) ?_
    exact W.widen (k := 100 + 224 * (n + 1)) (n := 1200 + 10680 * (n + 1)) (by omega) (by omega) (kk9 S M1 _ _ _ (hI9.next hLQ hLM hT) hS (lv_sub hl [2, 3, 4, 5, 6] rfl))
  · skip
    refine lv_istore (lv' := [(5, .int (nI 2)), (0, .ref b), (1, .ref (ad 57)), (2, .ref (am 0)), (3, .ref o), (4, .int (nI iL))]) hx hb dL_law_1024 hl (by decide) rfl (fun ls hl => ?_)
    refine lv_aload_n hx hb dL_law_1026 rfl (lv_at hl 3 rfl) ?_
    refine lv_aload_n hx hb dL_law_1027 rfl (lv_at hl 1 rfl) ?_
    refine lv_iload hx hb dL_law_1028 (lv_at hl 5 rfl) ?_
    refine lv_iconst (v := nI 1) hx hb dL_law_1030 (by decide) ?_
    refine kn_iadd hx hb dL_law_1031 ?_
    refine va_sld hx hb F.sc F.bl (fun z => Nat.not_le.mpr F.bl z) hS.st (vp_in_nI (show iL + 1 < L by omega) (by omega)) dL_law_1032 ?_
    rw [← hx1]
    refine lv_aload_n hx hb dL_law_1033 rfl (lv_at hl 1 rfl) ?_
    refine lv_iload hx hb dL_law_1034 (lv_at hl 5 rfl) ?_
    refine lv_iconst (v := nI 2) hx hb dL_law_1036 (by decide) ?_
    refine kn_iadd hx hb dL_law_1037 ?_
    refine va_sld hx hb F.sc F.bl (fun z => Nat.not_le.mpr F.bl z) hS.st (vp_in_nI (show iL + 2 < L by omega) (by omega)) dL_law_1038 ?_
    rw [← hx2]
    refine lv_aload_n hx hb dL_law_1039 rfl (lv_at hl 1 rfl) ?_
    refine lv_iload hx hb dL_law_1040 (lv_at hl 5 rfl) ?_
    refine lv_iconst (v := nI 3) hx hb dL_law_1042 (by decide) ?_
    refine kn_iadd hx hb dL_law_1043 ?_
    refine va_sld hx hb F.sc F.bl (fun z => Nat.not_le.mpr F.bl z) hS.st (vp_in_nI (show iL + 3 < L by omega) (by omega)) dL_law_1044 ?_
    rw [← hx3]
    have hI := hI9.m
    have T := hI9.T
    have hc : M.2.2.2.1 + 12 < 1000000 := by have := hI9.mp; omega
    have hn := (hI.1 i hi).1
    refine ll_m (va_runV (As := [.int (nI i), .int (nI j), .int x3]) (rest := []) ⟨hx, hb, hml, hown, hts⟩ (o_X6_search_3 l dC dI am M i j x3 hi hj hb9 hI) (cwV 3 hts gL_law_X6_search rfl rfl rfl hdX6_search_3 ⟨Nat.le_of_ble_eq_true rfl, Nat.le_of_ble_eq_true rfl⟩) (hS.preM F.K) rfl rfl hl.1 rfl (lv_room (Nat.le_of_ble_eq_true rfl)) dL_law_1045 ⟨le_rc (by omega), le_rs (by omega)⟩) F.K hS (fun r8 M1 H locs hko hv hS => ?_)
    have hLM : LM M M1 := by rw [hv]; exact LM_th hI _
    have hT : Tie2 S M1 := by rw [hv]; exact T.th _
    refine lv_istore (lv' := [(6, .int r8), (5, .int (nI 2)), (0, .ref b), (1, .ref (ad 57)), (2, .ref (am 0)), (3, .ref o), (4, .int (nI iL))]) hx hb dL_law_1048 hl (by decide) rfl (fun ls hl => ?_)
    refine lv_goto (tgt := 2052) hx hb dL_law_1050 (by decide) ?_
    exact W.widen (k := 100 + 224 * (n + 1)) (n := 1200 + 10680 * (n + 1)) (by omega) (by omega) (kk9 S M1 _ _ _ (hI9.next hLQ hLM hT) hS (lv_sub hl [2, 3, 4, 5, 6] rfl))
  · skip
    refine lv_istore (lv' := [(5, .int (nI 0)), (0, .ref b), (1, .ref (ad 57)), (2, .ref (am 0)), (3, .ref o), (4, .int (nI iL))]) hx hb dL_law_1024 hl (by decide) rfl (fun ls hl => ?_)
    refine lv_aload_n hx hb dL_law_1026 rfl (lv_at hl 3 rfl) ?_
    refine lv_aload_n hx hb dL_law_1027 rfl (lv_at hl 1 rfl) ?_
    refine lv_iload hx hb dL_law_1028 (lv_at hl 5 rfl) ?_
    refine lv_iconst (v := nI 1) hx hb dL_law_1030 (by decide) ?_
    refine kn_iadd hx hb dL_law_1031 ?_
    refine va_sld hx hb F.sc F.bl (fun z => Nat.not_le.mpr F.bl z) hS.st (vp_in_nI (show iL + 1 < L by omega) (by omega)) dL_law_1032 ?_
    rw [← hx1]
    refine lv_aload_n hx hb dL_law_1033 rfl (lv_at hl 1 rfl) ?_
    refine lv_iload hx hb dL_law_1034 (lv_at hl 5 rfl) ?_
    refine lv_iconst (v := nI 2) hx hb dL_law_1036 (by decide) ?_
    refine kn_iadd hx hb dL_law_1037 ?_
    refine va_sld hx hb F.sc F.bl (fun z => Nat.not_le.mpr F.bl z) hS.st (vp_in_nI (show iL + 2 < L by omega) (by omega)) dL_law_1038 ?_
    rw [← hx2]
    refine lv_aload_n hx hb dL_law_1039 rfl (lv_at hl 1 rfl) ?_
    refine lv_iload hx hb dL_law_1040 (lv_at hl 5 rfl) ?_
    refine lv_iconst (v := nI 3) hx hb dL_law_1042 (by decide) ?_
    refine kn_iadd hx hb dL_law_1043 ?_
    refine va_sld hx hb F.sc F.bl (fun z => Nat.not_le.mpr F.bl z) hS.st (vp_in_nI (show iL + 3 < L by omega) (by omega)) dL_law_1044 ?_
    rw [← hx3]
    have hI := hI9.m
    have T := hI9.T
    have hc : M.2.2.2.1 + 12 < 1000000 := by have := hI9.mp; omega
    have hn := (hI.1 i hi).1
    refine ll_m (va_runV (As := [.int (nI i), .int (nI j), .int (nI v)]) (rest := []) ⟨hx, hb, hml, hown, hts⟩ (m_X6_search l dC dI am M i j v hi hj hv9 hI) (cwV 3 hts gL_law_X6_search rfl rfl rfl hdX6_search_3 ⟨Nat.le_of_ble_eq_true rfl, Nat.le_of_ble_eq_true rfl⟩) (hS.preM F.K) rfl rfl hl.1 rfl (lv_room (Nat.le_of_ble_eq_true rfl)) dL_law_1045 ⟨le_rc (by omega), le_rs (by omega)⟩) F.K hS (fun r8 M1 H locs hko hv hS => ?_)
    have hLM : LM M M1 := LM_two hI (hv.imp id (fun h => ⟨h.1, h.2.2⟩))
    obtain ⟨hT, he9, ht9⟩ := A_search T.1 T.2 hI9.x hi hj hv9 hw hv
    refine lv_istore (lv' := [(6, .int r8), (5, .int (nI 0)), (0, .ref b), (1, .ref (ad 57)), (2, .ref (am 0)), (3, .ref o), (4, .int (nI iL))]) hx hb dL_law_1048 hl (by decide) rfl (fun ls hl => ?_)
    refine lv_goto (tgt := 2052) hx hb dL_law_1050 (by decide) ?_
    exact W.widen (k := 100 + 224 * (n + 1)) (n := 1200 + 10680 * (n + 1)) (by omega) (by omega) (kk9 S1 M1 _ _ _ (hI9.next hLQ hLM hT) hS (lv_sub hl [2, 3, 4, 5, 6] rfl))
set_option maxHeartbeats 4000000 in
set_option maxRecDepth 100000 in
theorem lc_18 {p : Program} {l : Launch} {e : Env} {s : State} {m : MethodId} {below : List Frame} {meth : Method} {c : Code} {b L : Nat} {xs : Nat → Int32} {dC : Nat → ClassId} {dI : Nat → Nat → Nat} {cB : ClassId} {ad am : Nat → Nat} {o n iL : Nat} {Q : State → Prop} (F : LF p l s m c b L xs dC dI cB ad am o) (hni : iL = 5 * n) (hiL : iL + 5 ≤ L) : LCase p l e s m below meth c b dC dI ad am o n iL Q 1053 := by
  intro S M H locs hI9 hS kk9 ls hl
  have hx := F.x
  have hb := F.b
  have hml := F.ml
  have hown := F.own
  have hts := F.ts
  have hL := F.hL
  have hn9 : n ≤ 511 := by omega
  refine lv_aload_n hx hb dL_law_1053 rfl (lv_at hl 1 rfl) ?_
  refine lv_aload_n hx hb dL_law_1054 rfl (lv_at hl 0 rfl) ?_
  refine lv_iload hx hb dL_law_1055 (lv_at hl 4 rfl) ?_
  refine lv_iconst (v := nI 1) hx hb dL_law_1057 (by decide) ?_
  refine kn_iadd hx hb dL_law_1058 ?_
  refine va_sld hx hb F.sc F.bl (fun z => Nat.not_le.mpr F.bl z) hS.st (vp_in_nI (show iL + 1 < L by omega) (by omega)) dL_law_1059 ?_
  obtain ⟨x1, hx1⟩ : ∃ z, z = xs (nI (iL + 1)).toNatClampNeg := ⟨_, rfl⟩
  rw [← hx1]
  refine lv_aload_n hx hb dL_law_1060 rfl (lv_at hl 0 rfl) ?_
  refine lv_iload hx hb dL_law_1061 (lv_at hl 4 rfl) ?_
  refine lv_iconst (v := nI 2) hx hb dL_law_1063 (by decide) ?_
  refine kn_iadd hx hb dL_law_1064 ?_
  refine va_sld hx hb F.sc F.bl (fun z => Nat.not_le.mpr F.bl z) hS.st (vp_in_nI (show iL + 2 < L by omega) (by omega)) dL_law_1065 ?_
  obtain ⟨x2, hx2⟩ : ∃ z, z = xs (nI (iL + 2)).toNatClampNeg := ⟨_, rfl⟩
  rw [← hx2]
  refine lv_aload_n hx hb dL_law_1066 rfl (lv_at hl 0 rfl) ?_
  refine lv_iload hx hb dL_law_1067 (lv_at hl 4 rfl) ?_
  refine lv_iconst (v := nI 3) hx hb dL_law_1069 (by decide) ?_
  refine kn_iadd hx hb dL_law_1070 ?_
  refine va_sld hx hb F.sc F.bl (fun z => Nat.not_le.mpr F.bl z) hS.st (vp_in_nI (show iL + 3 < L by omega) (by omega)) dL_law_1071 ?_
  obtain ⟨x3, hx3⟩ : ∃ z, z = xs (nI (iL + 3)).toNatClampNeg := ⟨_, rfl⟩
  rw [← hx3]
  refine lv_aload_n hx hb dL_law_1072 rfl (lv_at hl 0 rfl) ?_
  refine lv_iload hx hb dL_law_1073 (lv_at hl 4 rfl) ?_
  refine lv_iconst (v := nI 4) hx hb dL_law_1075 (by decide) ?_
  refine kn_iadd hx hb dL_law_1076 ?_
  refine va_sld hx hb F.sc F.bl (fun z => Nat.not_le.mpr F.bl z) hS.st (vp_in_nI (show iL + 4 < L by omega) (by omega)) dL_law_1077 ?_
  obtain ⟨x4, hx4⟩ : ∃ z, z = xs (nI (iL + 4)).toNatClampNeg := ⟨_, rfl⟩
  rw [← hx4]
  refine lv_aload_n hx hb dL_law_1078 rfl (lv_at hl 3 rfl) ?_
  refine ll_w (vx_runSW (As := [.ref (ad 57), .int x1, .int x2, .int x3, .int x4, .ref o]) (rest := []) ⟨hx, hb, hml, hown, hts⟩ (m_L_near l F.st dC dI cB ad o S x1 x2 x3 x4 hI9.x hI9.x5 (by have := hI9.xp; omega)) (vx_cwSW 6 hts gL_law_L_near rfl rfl rfl hdL_near_6.2 ⟨Nat.le_of_ble_eq_true rfl, Nat.le_of_ble_eq_true rfl⟩) (hS.preW F.K) rfl rfl hl.1 rfl (lv_room (Nat.le_of_ble_eq_true rfl)) dL_law_1079 ⟨le_rc (by omega), le_rs (by omega)⟩) F.K hS (fun r0 S1 n1 H locs hq9 hN hS => ?_)
  have hLQ : LQ S S1 := hq9.1
  have hR : R_near x1 x2 x3 x4 S r0 S1 n1 := hq9.2
  clear hq9
  rcases hR with ⟨hb9, rfl, rfl⟩ | ⟨i, hi, rfl, hb9, rfl, rfl⟩ | ⟨i, j, hi, hj, rfl, rfl, hb9, rfl, rfl⟩ | ⟨i, j, v, hi, hj, hv9, rfl, rfl, rfl, hb9, rfl, rfl⟩ | ⟨i, j, v, k, r7, hi, hj, hv9, hk, rfl, rfl, rfl, rfl, rfl, rfl, hw1, hw2⟩
  · skip
    refine lv_istore (lv' := [(5, .int (nI 1)), (0, .ref b), (1, .ref (ad 57)), (2, .ref (am 0)), (3, .ref o), (4, .int (nI iL))]) hx hb dL_law_1082 hl (by decide) rfl (fun ls hl => ?_)
    refine lv_aload_n hx hb dL_law_1084 rfl (lv_at hl 3 rfl) ?_
    refine lv_aload_n hx hb dL_law_1085 rfl (lv_at hl 1 rfl) ?_
    refine lv_iload hx hb dL_law_1086 (lv_at hl 5 rfl) ?_
    refine lv_iconst (v := nI 1) hx hb dL_law_1088 (by decide) ?_
    refine kn_iadd hx hb dL_law_1089 ?_
    refine va_sld hx hb F.sc F.bl (fun z => Nat.not_le.mpr F.bl z) hS.st (vp_in_nI (show iL + 1 < L by omega) (by omega)) dL_law_1090 ?_
    rw [← hx1]
    refine lv_aload_n hx hb dL_law_1091 rfl (lv_at hl 1 rfl) ?_
    refine lv_iload hx hb dL_law_1092 (lv_at hl 5 rfl) ?_
    refine lv_iconst (v := nI 2) hx hb dL_law_1094 (by decide) ?_
    refine kn_iadd hx hb dL_law_1095 ?_
    refine va_sld hx hb F.sc F.bl (fun z => Nat.not_le.mpr F.bl z) hS.st (vp_in_nI (show iL + 2 < L by omega) (by omega)) dL_law_1096 ?_
    rw [← hx2]
    refine lv_aload_n hx hb dL_law_1097 rfl (lv_at hl 1 rfl) ?_
    refine lv_iload hx hb dL_law_1098 (lv_at hl 5 rfl) ?_
    refine lv_iconst (v := nI 3) hx hb dL_law_1100 (by decide) ?_
    refine kn_iadd hx hb dL_law_1101 ?_
    refine va_sld hx hb F.sc F.bl (fun z => Nat.not_le.mpr F.bl z) hS.st (vp_in_nI (show iL + 3 < L by omega) (by omega)) dL_law_1102 ?_
    rw [← hx3]
    refine lv_aload_n hx hb dL_law_1103 rfl (lv_at hl 1 rfl) ?_
    refine lv_iload hx hb dL_law_1104 (lv_at hl 5 rfl) ?_
    refine lv_iconst (v := nI 4) hx hb dL_law_1106 (by decide) ?_
    refine kn_iadd hx hb dL_law_1107 ?_
    refine va_sld hx hb F.sc F.bl (fun z => Nat.not_le.mpr F.bl z) hS.st (vp_in_nI (show iL + 4 < L by omega) (by omega)) dL_law_1108 ?_
    rw [← hx4]
    have hI := hI9.m
    have T := hI9.T
    have hc : M.2.2.2.1 + 12 < 1000000 := by have := hI9.mp; omega
    refine ll_m (va_runV (As := [.int x1, .int x2, .int x3, .int x4]) (rest := []) ⟨hx, hb, hml, hown, hts⟩ (o_X6_near_1 l dC dI am M x1 x2 x3 x4 hb9 hI) (cwV 4 hts gL_law_X6_near rfl rfl rfl hdX6_near_4 ⟨Nat.le_of_ble_eq_true rfl, Nat.le_of_ble_eq_true rfl⟩) (hS.preM F.K) rfl rfl hl.1 rfl (lv_room (Nat.le_of_ble_eq_true rfl)) dL_law_1109 ⟨le_rc (by omega), le_rs (by omega)⟩) F.K hS (fun r8 M1 H locs hko hv hS => ?_)
    have hLM : LM M M1 := by rw [hv]; exact LM_th hI _
    have hT : Tie2 S M1 := by rw [hv]; exact T.th _
    refine lv_istore (lv' := [(6, .int r8), (5, .int (nI 1)), (0, .ref b), (1, .ref (ad 57)), (2, .ref (am 0)), (3, .ref o), (4, .int (nI iL))]) hx hb dL_law_1112 hl (by decide) rfl (fun ls hl => ?_)
    refine lv_goto (tgt := 2052) hx hb dL_law_1114 (by decide) ?_
    exact W.widen (k := 100 + 224 * (n + 1)) (n := 1200 + 10680 * (n + 1)) (by omega) (by omega) (kk9 S M1 _ _ _ (hI9.next hLQ hLM hT) hS (lv_sub hl [2, 3, 4, 5, 6] rfl))
  · skip
    refine lv_istore (lv' := [(5, .int (nI 1)), (0, .ref b), (1, .ref (ad 57)), (2, .ref (am 0)), (3, .ref o), (4, .int (nI iL))]) hx hb dL_law_1082 hl (by decide) rfl (fun ls hl => ?_)
    refine lv_aload_n hx hb dL_law_1084 rfl (lv_at hl 3 rfl) ?_
    refine lv_aload_n hx hb dL_law_1085 rfl (lv_at hl 1 rfl) ?_
    refine lv_iload hx hb dL_law_1086 (lv_at hl 5 rfl) ?_
    refine lv_iconst (v := nI 1) hx hb dL_law_1088 (by decide) ?_
    refine kn_iadd hx hb dL_law_1089 ?_
    refine va_sld hx hb F.sc F.bl (fun z => Nat.not_le.mpr F.bl z) hS.st (vp_in_nI (show iL + 1 < L by omega) (by omega)) dL_law_1090 ?_
    rw [← hx1]
    refine lv_aload_n hx hb dL_law_1091 rfl (lv_at hl 1 rfl) ?_
    refine lv_iload hx hb dL_law_1092 (lv_at hl 5 rfl) ?_
    refine lv_iconst (v := nI 2) hx hb dL_law_1094 (by decide) ?_
    refine kn_iadd hx hb dL_law_1095 ?_
    refine va_sld hx hb F.sc F.bl (fun z => Nat.not_le.mpr F.bl z) hS.st (vp_in_nI (show iL + 2 < L by omega) (by omega)) dL_law_1096 ?_
    rw [← hx2]
    refine lv_aload_n hx hb dL_law_1097 rfl (lv_at hl 1 rfl) ?_
    refine lv_iload hx hb dL_law_1098 (lv_at hl 5 rfl) ?_
    refine lv_iconst (v := nI 3) hx hb dL_law_1100 (by decide) ?_
    refine kn_iadd hx hb dL_law_1101 ?_
    refine va_sld hx hb F.sc F.bl (fun z => Nat.not_le.mpr F.bl z) hS.st (vp_in_nI (show iL + 3 < L by omega) (by omega)) dL_law_1102 ?_
    rw [← hx3]
    refine lv_aload_n hx hb dL_law_1103 rfl (lv_at hl 1 rfl) ?_
    refine lv_iload hx hb dL_law_1104 (lv_at hl 5 rfl) ?_
    refine lv_iconst (v := nI 4) hx hb dL_law_1106 (by decide) ?_
    refine kn_iadd hx hb dL_law_1107 ?_
    refine va_sld hx hb F.sc F.bl (fun z => Nat.not_le.mpr F.bl z) hS.st (vp_in_nI (show iL + 4 < L by omega) (by omega)) dL_law_1108 ?_
    rw [← hx4]
    have hI := hI9.m
    have T := hI9.T
    have hc : M.2.2.2.1 + 12 < 1000000 := by have := hI9.mp; omega
    have hn := (hI.1 i hi).1
    refine ll_m (va_runV (As := [.int (nI i), .int x2, .int x3, .int x4]) (rest := []) ⟨hx, hb, hml, hown, hts⟩ (o_X6_near_2 l dC dI am M i x2 x3 x4 hi hb9 hI) (cwV 4 hts gL_law_X6_near rfl rfl rfl hdX6_near_4 ⟨Nat.le_of_ble_eq_true rfl, Nat.le_of_ble_eq_true rfl⟩) (hS.preM F.K) rfl rfl hl.1 rfl (lv_room (Nat.le_of_ble_eq_true rfl)) dL_law_1109 ⟨le_rc (by omega), le_rs (by omega)⟩) F.K hS (fun r8 M1 H locs hko hv hS => ?_)
    have hLM : LM M M1 := by rw [hv]; exact LM_th hI _
    have hT : Tie2 S M1 := by rw [hv]; exact T.th _
    refine lv_istore (lv' := [(6, .int r8), (5, .int (nI 1)), (0, .ref b), (1, .ref (ad 57)), (2, .ref (am 0)), (3, .ref o), (4, .int (nI iL))]) hx hb dL_law_1112 hl (by decide) rfl (fun ls hl => ?_)
    refine lv_goto (tgt := 2052) hx hb dL_law_1114 (by decide) ?_
    exact W.widen (k := 100 + 224 * (n + 1)) (n := 1200 + 10680 * (n + 1)) (by omega) (by omega) (kk9 S M1 _ _ _ (hI9.next hLQ hLM hT) hS (lv_sub hl [2, 3, 4, 5, 6] rfl))
  · skip
    refine lv_istore (lv' := [(5, .int (nI 2)), (0, .ref b), (1, .ref (ad 57)), (2, .ref (am 0)), (3, .ref o), (4, .int (nI iL))]) hx hb dL_law_1082 hl (by decide) rfl (fun ls hl => ?_)
    refine lv_aload_n hx hb dL_law_1084 rfl (lv_at hl 3 rfl) ?_
    refine lv_aload_n hx hb dL_law_1085 rfl (lv_at hl 1 rfl) ?_
    refine lv_iload hx hb dL_law_1086 (lv_at hl 5 rfl) ?_
    refine lv_iconst (v := nI 1) hx hb dL_law_1088 (by decide) ?_
    refine kn_iadd hx hb dL_law_1089 ?_
    refine va_sld hx hb F.sc F.bl (fun z => Nat.not_le.mpr F.bl z) hS.st (vp_in_nI (show iL + 1 < L by omega) (by omega)) dL_law_1090 ?_
    rw [← hx1]
    refine lv_aload_n hx hb dL_law_1091 rfl (lv_at hl 1 rfl) ?_
    refine lv_iload hx hb dL_law_1092 (lv_at hl 5 rfl) ?_
    refine lv_iconst (v := nI 2) hx hb dL_law_1094 (by decide) ?_
    refine kn_iadd hx hb dL_law_1095 ?_
    refine va_sld hx hb F.sc F.bl (fun z => Nat.not_le.mpr F.bl z) hS.st (vp_in_nI (show iL + 2 < L by omega) (by omega)) dL_law_1096 ?_
    rw [← hx2]
    refine lv_aload_n hx hb dL_law_1097 rfl (lv_at hl 1 rfl) ?_
    refine lv_iload hx hb dL_law_1098 (lv_at hl 5 rfl) ?_
    refine lv_iconst (v := nI 3) hx hb dL_law_1100 (by decide) ?_
    refine kn_iadd hx hb dL_law_1101 ?_
    refine va_sld hx hb F.sc F.bl (fun z => Nat.not_le.mpr F.bl z) hS.st (vp_in_nI (show iL + 3 < L by omega) (by omega)) dL_law_1102 ?_
    rw [← hx3]
    refine lv_aload_n hx hb dL_law_1103 rfl (lv_at hl 1 rfl) ?_
    refine lv_iload hx hb dL_law_1104 (lv_at hl 5 rfl) ?_
    refine lv_iconst (v := nI 4) hx hb dL_law_1106 (by decide) ?_
    refine kn_iadd hx hb dL_law_1107 ?_
    refine va_sld hx hb F.sc F.bl (fun z => Nat.not_le.mpr F.bl z) hS.st (vp_in_nI (show iL + 4 < L by omega) (by omega)) dL_law_1108 ?_
    rw [← hx4]
    have hI := hI9.m
    have T := hI9.T
    have hc : M.2.2.2.1 + 12 < 1000000 := by have := hI9.mp; omega
    have hn := (hI.1 i hi).1
    refine ll_m (va_runV (As := [.int (nI i), .int (nI j), .int x3, .int x4]) (rest := []) ⟨hx, hb, hml, hown, hts⟩ (o_X6_near_3 l dC dI am M i j x3 x4 hi hj hb9 hI) (cwV 4 hts gL_law_X6_near rfl rfl rfl hdX6_near_4 ⟨Nat.le_of_ble_eq_true rfl, Nat.le_of_ble_eq_true rfl⟩) (hS.preM F.K) rfl rfl hl.1 rfl (lv_room (Nat.le_of_ble_eq_true rfl)) dL_law_1109 ⟨le_rc (by omega), le_rs (by omega)⟩) F.K hS (fun r8 M1 H locs hko hv hS => ?_)
    have hLM : LM M M1 := by rw [hv]; exact LM_th hI _
    have hT : Tie2 S M1 := by rw [hv]; exact T.th _
    refine lv_istore (lv' := [(6, .int r8), (5, .int (nI 2)), (0, .ref b), (1, .ref (ad 57)), (2, .ref (am 0)), (3, .ref o), (4, .int (nI iL))]) hx hb dL_law_1112 hl (by decide) rfl (fun ls hl => ?_)
    refine lv_goto (tgt := 2052) hx hb dL_law_1114 (by decide) ?_
    exact W.widen (k := 100 + 224 * (n + 1)) (n := 1200 + 10680 * (n + 1)) (by omega) (by omega) (kk9 S M1 _ _ _ (hI9.next hLQ hLM hT) hS (lv_sub hl [2, 3, 4, 5, 6] rfl))
  · skip
    refine lv_istore (lv' := [(5, .int (nI 2)), (0, .ref b), (1, .ref (ad 57)), (2, .ref (am 0)), (3, .ref o), (4, .int (nI iL))]) hx hb dL_law_1082 hl (by decide) rfl (fun ls hl => ?_)
    refine lv_aload_n hx hb dL_law_1084 rfl (lv_at hl 3 rfl) ?_
    refine lv_aload_n hx hb dL_law_1085 rfl (lv_at hl 1 rfl) ?_
    refine lv_iload hx hb dL_law_1086 (lv_at hl 5 rfl) ?_
    refine lv_iconst (v := nI 1) hx hb dL_law_1088 (by decide) ?_
    refine kn_iadd hx hb dL_law_1089 ?_
    refine va_sld hx hb F.sc F.bl (fun z => Nat.not_le.mpr F.bl z) hS.st (vp_in_nI (show iL + 1 < L by omega) (by omega)) dL_law_1090 ?_
    rw [← hx1]
    refine lv_aload_n hx hb dL_law_1091 rfl (lv_at hl 1 rfl) ?_
    refine lv_iload hx hb dL_law_1092 (lv_at hl 5 rfl) ?_
    refine lv_iconst (v := nI 2) hx hb dL_law_1094 (by decide) ?_
    refine kn_iadd hx hb dL_law_1095 ?_
    refine va_sld hx hb F.sc F.bl (fun z => Nat.not_le.mpr F.bl z) hS.st (vp_in_nI (show iL + 2 < L by omega) (by omega)) dL_law_1096 ?_
    rw [← hx2]
    refine lv_aload_n hx hb dL_law_1097 rfl (lv_at hl 1 rfl) ?_
    refine lv_iload hx hb dL_law_1098 (lv_at hl 5 rfl) ?_
    refine lv_iconst (v := nI 3) hx hb dL_law_1100 (by decide) ?_
    refine kn_iadd hx hb dL_law_1101 ?_
    refine va_sld hx hb F.sc F.bl (fun z => Nat.not_le.mpr F.bl z) hS.st (vp_in_nI (show iL + 3 < L by omega) (by omega)) dL_law_1102 ?_
    rw [← hx3]
    refine lv_aload_n hx hb dL_law_1103 rfl (lv_at hl 1 rfl) ?_
    refine lv_iload hx hb dL_law_1104 (lv_at hl 5 rfl) ?_
    refine lv_iconst (v := nI 4) hx hb dL_law_1106 (by decide) ?_
    refine kn_iadd hx hb dL_law_1107 ?_
    refine va_sld hx hb F.sc F.bl (fun z => Nat.not_le.mpr F.bl z) hS.st (vp_in_nI (show iL + 4 < L by omega) (by omega)) dL_law_1108 ?_
    rw [← hx4]
    have hI := hI9.m
    have T := hI9.T
    have hc : M.2.2.2.1 + 12 < 1000000 := by have := hI9.mp; omega
    have hn := (hI.1 i hi).1
    refine ll_m (va_runV (As := [.int (nI i), .int (nI j), .int (nI v), .int x4]) (rest := []) ⟨hx, hb, hml, hown, hts⟩ (o_X6_near_4 l dC dI am M i j v x4 hi hj hv9 hb9 hI) (cwV 4 hts gL_law_X6_near rfl rfl rfl hdX6_near_4 ⟨Nat.le_of_ble_eq_true rfl, Nat.le_of_ble_eq_true rfl⟩) (hS.preM F.K) rfl rfl hl.1 rfl (lv_room (Nat.le_of_ble_eq_true rfl)) dL_law_1109 ⟨le_rc (by omega), le_rs (by omega)⟩) F.K hS (fun r8 M1 H locs hko hv hS => ?_)
    have hLM : LM M M1 := by rw [hv]; exact LM_th hI _
    have hT : Tie2 S M1 := by rw [hv]; exact T.th _
    refine lv_istore (lv' := [(6, .int r8), (5, .int (nI 2)), (0, .ref b), (1, .ref (ad 57)), (2, .ref (am 0)), (3, .ref o), (4, .int (nI iL))]) hx hb dL_law_1112 hl (by decide) rfl (fun ls hl => ?_)
    refine lv_goto (tgt := 2052) hx hb dL_law_1114 (by decide) ?_
    exact W.widen (k := 100 + 224 * (n + 1)) (n := 1200 + 10680 * (n + 1)) (by omega) (by omega) (kk9 S M1 _ _ _ (hI9.next hLQ hLM hT) hS (lv_sub hl [2, 3, 4, 5, 6] rfl))
  · skip
    have hw := And.intro hw1 hw2
    refine lv_istore (lv' := [(5, .int (nI 0)), (0, .ref b), (1, .ref (ad 57)), (2, .ref (am 0)), (3, .ref o), (4, .int (nI iL))]) hx hb dL_law_1082 hl (by decide) rfl (fun ls hl => ?_)
    refine lv_aload_n hx hb dL_law_1084 rfl (lv_at hl 3 rfl) ?_
    refine lv_aload_n hx hb dL_law_1085 rfl (lv_at hl 1 rfl) ?_
    refine lv_iload hx hb dL_law_1086 (lv_at hl 5 rfl) ?_
    refine lv_iconst (v := nI 1) hx hb dL_law_1088 (by decide) ?_
    refine kn_iadd hx hb dL_law_1089 ?_
    refine va_sld hx hb F.sc F.bl (fun z => Nat.not_le.mpr F.bl z) hS.st (vp_in_nI (show iL + 1 < L by omega) (by omega)) dL_law_1090 ?_
    rw [← hx1]
    refine lv_aload_n hx hb dL_law_1091 rfl (lv_at hl 1 rfl) ?_
    refine lv_iload hx hb dL_law_1092 (lv_at hl 5 rfl) ?_
    refine lv_iconst (v := nI 2) hx hb dL_law_1094 (by decide) ?_
    refine kn_iadd hx hb dL_law_1095 ?_
    refine va_sld hx hb F.sc F.bl (fun z => Nat.not_le.mpr F.bl z) hS.st (vp_in_nI (show iL + 2 < L by omega) (by omega)) dL_law_1096 ?_
    rw [← hx2]
    refine lv_aload_n hx hb dL_law_1097 rfl (lv_at hl 1 rfl) ?_
    refine lv_iload hx hb dL_law_1098 (lv_at hl 5 rfl) ?_
    refine lv_iconst (v := nI 3) hx hb dL_law_1100 (by decide) ?_
    refine kn_iadd hx hb dL_law_1101 ?_
    refine va_sld hx hb F.sc F.bl (fun z => Nat.not_le.mpr F.bl z) hS.st (vp_in_nI (show iL + 3 < L by omega) (by omega)) dL_law_1102 ?_
    rw [← hx3]
    refine lv_aload_n hx hb dL_law_1103 rfl (lv_at hl 1 rfl) ?_
    refine lv_iload hx hb dL_law_1104 (lv_at hl 5 rfl) ?_
    refine lv_iconst (v := nI 4) hx hb dL_law_1106 (by decide) ?_
    refine kn_iadd hx hb dL_law_1107 ?_
    refine va_sld hx hb F.sc F.bl (fun z => Nat.not_le.mpr F.bl z) hS.st (vp_in_nI (show iL + 4 < L by omega) (by omega)) dL_law_1108 ?_
    rw [← hx4]
    have hI := hI9.m
    have T := hI9.T
    have hc : M.2.2.2.1 + 12 < 1000000 := by have := hI9.mp; omega
    have hn := (hI.1 i hi).1
    refine ll_m (va_runV (As := [.int (nI i), .int (nI j), .int (nI v), .int (nI k)]) (rest := []) ⟨hx, hb, hml, hown, hts⟩ (m_X6_near l dC dI am M i j v k hi hj hv9 hk hI) (cwV 4 hts gL_law_X6_near rfl rfl rfl hdX6_near_4 ⟨Nat.le_of_ble_eq_true rfl, Nat.le_of_ble_eq_true rfl⟩) (hS.preM F.K) rfl rfl hl.1 rfl (lv_room (Nat.le_of_ble_eq_true rfl)) dL_law_1109 ⟨le_rc (by omega), le_rs (by omega)⟩) F.K hS (fun r8 M1 H locs hko hv hS => ?_)
    have hLM : LM M M1 := by rw [hv.2]; exact LM_th hI 0
    obtain ⟨hT, he9, ht9⟩ := A_near T.1 T.2 hI9.x hi hj hv9 hw hv
    refine lv_istore (lv' := [(6, .int r8), (5, .int (nI 0)), (0, .ref b), (1, .ref (ad 57)), (2, .ref (am 0)), (3, .ref o), (4, .int (nI iL))]) hx hb dL_law_1112 hl (by decide) rfl (fun ls hl => ?_)
    refine lv_goto (tgt := 2052) hx hb dL_law_1114 (by decide) ?_
    exact W.widen (k := 100 + 224 * (n + 1)) (n := 1200 + 10680 * (n + 1)) (by omega) (by omega) (kk9 S1 M1 _ _ _ (hI9.next hLQ hLM hT) hS (lv_sub hl [2, 3, 4, 5, 6] rfl))
set_option maxHeartbeats 4000000 in
set_option maxRecDepth 100000 in
theorem lc_19 {p : Program} {l : Launch} {e : Env} {s : State} {m : MethodId} {below : List Frame} {meth : Method} {c : Code} {b L : Nat} {xs : Nat → Int32} {dC : Nat → ClassId} {dI : Nat → Nat → Nat} {cB : ClassId} {ad am : Nat → Nat} {o n iL : Nat} {Q : State → Prop} (F : LF p l s m c b L xs dC dI cB ad am o) (hni : iL = 5 * n) (hiL : iL + 5 ≤ L) : LCase p l e s m below meth c b dC dI ad am o n iL Q 1117 := by
  intro S M H locs hI9 hS kk9 ls hl
  have hx := F.x
  have hb := F.b
  have hml := F.ml
  have hown := F.own
  have hts := F.ts
  have hL := F.hL
  have hn9 : n ≤ 511 := by omega
  refine lv_aload_n hx hb dL_law_1117 rfl (lv_at hl 1 rfl) ?_
  refine lv_aload_n hx hb dL_law_1118 rfl (lv_at hl 0 rfl) ?_
  refine lv_iload hx hb dL_law_1119 (lv_at hl 4 rfl) ?_
  refine lv_iconst (v := nI 1) hx hb dL_law_1121 (by decide) ?_
  refine kn_iadd hx hb dL_law_1122 ?_
  refine va_sld hx hb F.sc F.bl (fun z => Nat.not_le.mpr F.bl z) hS.st (vp_in_nI (show iL + 1 < L by omega) (by omega)) dL_law_1123 ?_
  obtain ⟨x1, hx1⟩ : ∃ z, z = xs (nI (iL + 1)).toNatClampNeg := ⟨_, rfl⟩
  rw [← hx1]
  refine lv_aload_n hx hb dL_law_1124 rfl (lv_at hl 0 rfl) ?_
  refine lv_iload hx hb dL_law_1125 (lv_at hl 4 rfl) ?_
  refine lv_iconst (v := nI 2) hx hb dL_law_1127 (by decide) ?_
  refine kn_iadd hx hb dL_law_1128 ?_
  refine va_sld hx hb F.sc F.bl (fun z => Nat.not_le.mpr F.bl z) hS.st (vp_in_nI (show iL + 2 < L by omega) (by omega)) dL_law_1129 ?_
  obtain ⟨x2, hx2⟩ : ∃ z, z = xs (nI (iL + 2)).toNatClampNeg := ⟨_, rfl⟩
  rw [← hx2]
  refine lv_aload_n hx hb dL_law_1130 rfl (lv_at hl 3 rfl) ?_
  refine ll_w (vx_runSW (As := [.ref (ad 57), .int x1, .int x2, .ref o]) (rest := []) ⟨hx, hb, hml, hown, hts⟩ (m_L_kinds l F.st dC dI cB ad o S x1 x2 hI9.x hI9.x5 (by have := hI9.xp; omega)) (vx_cwSW 4 hts gL_law_L_kinds rfl rfl rfl hdL_kinds_4.2 ⟨Nat.le_of_ble_eq_true rfl, Nat.le_of_ble_eq_true rfl⟩) (hS.preW F.K) rfl rfl hl.1 rfl (lv_room (Nat.le_of_ble_eq_true rfl)) dL_law_1131 ⟨le_rc (by omega), le_rs (by omega)⟩) F.K hS (fun r0 S1 n1 H locs hq9 hN hS => ?_)
  have hLQ : LQ S S1 := hq9.1
  have hR : R_kinds x1 x2 S r0 S1 n1 := hq9.2
  clear hq9
  rcases hR with ⟨hb9, rfl, rfl⟩ | ⟨i, hi, rfl, hb9, rfl, rfl⟩ | ⟨i, j, r7, hi, hj, rfl, rfl, rfl, rfl, hw1, hw2⟩
  · skip
    refine lv_istore (lv' := [(5, .int (nI 1)), (0, .ref b), (1, .ref (ad 57)), (2, .ref (am 0)), (3, .ref o), (4, .int (nI iL))]) hx hb dL_law_1134 hl (by decide) rfl (fun ls hl => ?_)
    refine lv_aload_n hx hb dL_law_1136 rfl (lv_at hl 3 rfl) ?_
    refine lv_aload_n hx hb dL_law_1137 rfl (lv_at hl 1 rfl) ?_
    refine lv_iload hx hb dL_law_1138 (lv_at hl 5 rfl) ?_
    refine lv_iconst (v := nI 1) hx hb dL_law_1140 (by decide) ?_
    refine kn_iadd hx hb dL_law_1141 ?_
    refine va_sld hx hb F.sc F.bl (fun z => Nat.not_le.mpr F.bl z) hS.st (vp_in_nI (show iL + 1 < L by omega) (by omega)) dL_law_1142 ?_
    rw [← hx1]
    refine lv_aload_n hx hb dL_law_1143 rfl (lv_at hl 1 rfl) ?_
    refine lv_iload hx hb dL_law_1144 (lv_at hl 5 rfl) ?_
    refine lv_iconst (v := nI 2) hx hb dL_law_1146 (by decide) ?_
    refine kn_iadd hx hb dL_law_1147 ?_
    refine va_sld hx hb F.sc F.bl (fun z => Nat.not_le.mpr F.bl z) hS.st (vp_in_nI (show iL + 2 < L by omega) (by omega)) dL_law_1148 ?_
    rw [← hx2]
    have hI := hI9.m
    have T := hI9.T
    have hc : M.2.2.2.1 + 12 < 1000000 := by have := hI9.mp; omega
    refine ll_m (va_runV (As := [.int x1, .int x2]) (rest := []) ⟨hx, hb, hml, hown, hts⟩ (o_X6_kinds_1 l dC dI am M x1 x2 hb9 hI) (cwV 2 hts gL_law_X6_kinds rfl rfl rfl hdX6_kinds_2 ⟨Nat.le_of_ble_eq_true rfl, Nat.le_of_ble_eq_true rfl⟩) (hS.preM F.K) rfl rfl hl.1 rfl (lv_room (Nat.le_of_ble_eq_true rfl)) dL_law_1149 ⟨le_rc (by omega), le_rs (by omega)⟩) F.K hS (fun r8 M1 H locs hko hv hS => ?_)
    have hLM : LM M M1 := by rw [hv]; exact LM_th hI _
    have hT : Tie2 S M1 := by rw [hv]; exact T.th _
    refine lv_istore (lv' := [(6, .int r8), (5, .int (nI 1)), (0, .ref b), (1, .ref (ad 57)), (2, .ref (am 0)), (3, .ref o), (4, .int (nI iL))]) hx hb dL_law_1152 hl (by decide) rfl (fun ls hl => ?_)
    refine lv_goto (tgt := 2052) hx hb dL_law_1154 (by decide) ?_
    exact W.widen (k := 100 + 224 * (n + 1)) (n := 1200 + 10680 * (n + 1)) (by omega) (by omega) (kk9 S M1 _ _ _ (hI9.next hLQ hLM hT) hS (lv_sub hl [2, 3, 4, 5, 6] rfl))
  · skip
    refine lv_istore (lv' := [(5, .int (nI 1)), (0, .ref b), (1, .ref (ad 57)), (2, .ref (am 0)), (3, .ref o), (4, .int (nI iL))]) hx hb dL_law_1134 hl (by decide) rfl (fun ls hl => ?_)
    refine lv_aload_n hx hb dL_law_1136 rfl (lv_at hl 3 rfl) ?_
    refine lv_aload_n hx hb dL_law_1137 rfl (lv_at hl 1 rfl) ?_
    refine lv_iload hx hb dL_law_1138 (lv_at hl 5 rfl) ?_
    refine lv_iconst (v := nI 1) hx hb dL_law_1140 (by decide) ?_
    refine kn_iadd hx hb dL_law_1141 ?_
    refine va_sld hx hb F.sc F.bl (fun z => Nat.not_le.mpr F.bl z) hS.st (vp_in_nI (show iL + 1 < L by omega) (by omega)) dL_law_1142 ?_
    rw [← hx1]
    refine lv_aload_n hx hb dL_law_1143 rfl (lv_at hl 1 rfl) ?_
    refine lv_iload hx hb dL_law_1144 (lv_at hl 5 rfl) ?_
    refine lv_iconst (v := nI 2) hx hb dL_law_1146 (by decide) ?_
    refine kn_iadd hx hb dL_law_1147 ?_
    refine va_sld hx hb F.sc F.bl (fun z => Nat.not_le.mpr F.bl z) hS.st (vp_in_nI (show iL + 2 < L by omega) (by omega)) dL_law_1148 ?_
    rw [← hx2]
    have hI := hI9.m
    have T := hI9.T
    have hc : M.2.2.2.1 + 12 < 1000000 := by have := hI9.mp; omega
    have hn := (hI.1 i hi).1
    refine ll_m (va_runV (As := [.int (nI i), .int x2]) (rest := []) ⟨hx, hb, hml, hown, hts⟩ (o_X6_kinds_2 l dC dI am M i x2 hi hb9 hI) (cwV 2 hts gL_law_X6_kinds rfl rfl rfl hdX6_kinds_2 ⟨Nat.le_of_ble_eq_true rfl, Nat.le_of_ble_eq_true rfl⟩) (hS.preM F.K) rfl rfl hl.1 rfl (lv_room (Nat.le_of_ble_eq_true rfl)) dL_law_1149 ⟨le_rc (by omega), le_rs (by omega)⟩) F.K hS (fun r8 M1 H locs hko hv hS => ?_)
    have hLM : LM M M1 := by rw [hv]; exact LM_th hI _
    have hT : Tie2 S M1 := by rw [hv]; exact T.th _
    refine lv_istore (lv' := [(6, .int r8), (5, .int (nI 1)), (0, .ref b), (1, .ref (ad 57)), (2, .ref (am 0)), (3, .ref o), (4, .int (nI iL))]) hx hb dL_law_1152 hl (by decide) rfl (fun ls hl => ?_)
    refine lv_goto (tgt := 2052) hx hb dL_law_1154 (by decide) ?_
    exact W.widen (k := 100 + 224 * (n + 1)) (n := 1200 + 10680 * (n + 1)) (by omega) (by omega) (kk9 S M1 _ _ _ (hI9.next hLQ hLM hT) hS (lv_sub hl [2, 3, 4, 5, 6] rfl))
  · skip
    have hw := And.intro hw1 hw2
    refine lv_istore (lv' := [(5, .int (nI 0)), (0, .ref b), (1, .ref (ad 57)), (2, .ref (am 0)), (3, .ref o), (4, .int (nI iL))]) hx hb dL_law_1134 hl (by decide) rfl (fun ls hl => ?_)
    refine lv_aload_n hx hb dL_law_1136 rfl (lv_at hl 3 rfl) ?_
    refine lv_aload_n hx hb dL_law_1137 rfl (lv_at hl 1 rfl) ?_
    refine lv_iload hx hb dL_law_1138 (lv_at hl 5 rfl) ?_
    refine lv_iconst (v := nI 1) hx hb dL_law_1140 (by decide) ?_
    refine kn_iadd hx hb dL_law_1141 ?_
    refine va_sld hx hb F.sc F.bl (fun z => Nat.not_le.mpr F.bl z) hS.st (vp_in_nI (show iL + 1 < L by omega) (by omega)) dL_law_1142 ?_
    rw [← hx1]
    refine lv_aload_n hx hb dL_law_1143 rfl (lv_at hl 1 rfl) ?_
    refine lv_iload hx hb dL_law_1144 (lv_at hl 5 rfl) ?_
    refine lv_iconst (v := nI 2) hx hb dL_law_1146 (by decide) ?_
    refine kn_iadd hx hb dL_law_1147 ?_
    refine va_sld hx hb F.sc F.bl (fun z => Nat.not_le.mpr F.bl z) hS.st (vp_in_nI (show iL + 2 < L by omega) (by omega)) dL_law_1148 ?_
    rw [← hx2]
    have hI := hI9.m
    have T := hI9.T
    have hc : M.2.2.2.1 + 12 < 1000000 := by have := hI9.mp; omega
    have hn := (hI.1 i hi).1
    refine ll_m (va_runV (As := [.int (nI i), .int (nI j)]) (rest := []) ⟨hx, hb, hml, hown, hts⟩ (m_X6_kinds l dC dI am M i j hi hj hI) (cwV 2 hts gL_law_X6_kinds rfl rfl rfl hdX6_kinds_2 ⟨Nat.le_of_ble_eq_true rfl, Nat.le_of_ble_eq_true rfl⟩) (hS.preM F.K) rfl rfl hl.1 rfl (lv_room (Nat.le_of_ble_eq_true rfl)) dL_law_1149 ⟨le_rc (by omega), le_rs (by omega)⟩) F.K hS (fun r8 M1 H locs hko hv hS => ?_)
    have hLM : LM M M1 := by rw [hv.2]; exact LM_th hI 0
    obtain ⟨hT, he9, ht9⟩ := A_kinds T.1 T.2 hI9.x hi hj hw hv
    refine lv_istore (lv' := [(6, .int r8), (5, .int (nI 0)), (0, .ref b), (1, .ref (ad 57)), (2, .ref (am 0)), (3, .ref o), (4, .int (nI iL))]) hx hb dL_law_1152 hl (by decide) rfl (fun ls hl => ?_)
    refine lv_goto (tgt := 2052) hx hb dL_law_1154 (by decide) ?_
    exact W.widen (k := 100 + 224 * (n + 1)) (n := 1200 + 10680 * (n + 1)) (by omega) (by omega) (kk9 S1 M1 _ _ _ (hI9.next hLQ hLM hT) hS (lv_sub hl [2, 3, 4, 5, 6] rfl))
set_option maxHeartbeats 4000000 in
set_option maxRecDepth 100000 in
theorem lc_20 {p : Program} {l : Launch} {e : Env} {s : State} {m : MethodId} {below : List Frame} {meth : Method} {c : Code} {b L : Nat} {xs : Nat → Int32} {dC : Nat → ClassId} {dI : Nat → Nat → Nat} {cB : ClassId} {ad am : Nat → Nat} {o n iL : Nat} {Q : State → Prop} (F : LF p l s m c b L xs dC dI cB ad am o) (hni : iL = 5 * n) (hiL : iL + 5 ≤ L) : LCase p l e s m below meth c b dC dI ad am o n iL Q 1157 := by
  intro S M H locs hI9 hS kk9 ls hl
  have hx := F.x
  have hb := F.b
  have hml := F.ml
  have hown := F.own
  have hts := F.ts
  have hL := F.hL
  have hn9 : n ≤ 511 := by omega
  refine lv_aload_n hx hb dL_law_1157 rfl (lv_at hl 1 rfl) ?_
  refine lv_aload_n hx hb dL_law_1158 rfl (lv_at hl 0 rfl) ?_
  refine lv_iload hx hb dL_law_1159 (lv_at hl 4 rfl) ?_
  refine lv_iconst (v := nI 1) hx hb dL_law_1161 (by decide) ?_
  refine kn_iadd hx hb dL_law_1162 ?_
  refine va_sld hx hb F.sc F.bl (fun z => Nat.not_le.mpr F.bl z) hS.st (vp_in_nI (show iL + 1 < L by omega) (by omega)) dL_law_1163 ?_
  obtain ⟨x1, hx1⟩ : ∃ z, z = xs (nI (iL + 1)).toNatClampNeg := ⟨_, rfl⟩
  rw [← hx1]
  refine lv_aload_n hx hb dL_law_1164 rfl (lv_at hl 0 rfl) ?_
  refine lv_iload hx hb dL_law_1165 (lv_at hl 4 rfl) ?_
  refine lv_iconst (v := nI 2) hx hb dL_law_1167 (by decide) ?_
  refine kn_iadd hx hb dL_law_1168 ?_
  refine va_sld hx hb F.sc F.bl (fun z => Nat.not_le.mpr F.bl z) hS.st (vp_in_nI (show iL + 2 < L by omega) (by omega)) dL_law_1169 ?_
  obtain ⟨x2, hx2⟩ : ∃ z, z = xs (nI (iL + 2)).toNatClampNeg := ⟨_, rfl⟩
  rw [← hx2]
  refine lv_aload_n hx hb dL_law_1170 rfl (lv_at hl 0 rfl) ?_
  refine lv_iload hx hb dL_law_1171 (lv_at hl 4 rfl) ?_
  refine lv_iconst (v := nI 3) hx hb dL_law_1173 (by decide) ?_
  refine kn_iadd hx hb dL_law_1174 ?_
  refine va_sld hx hb F.sc F.bl (fun z => Nat.not_le.mpr F.bl z) hS.st (vp_in_nI (show iL + 3 < L by omega) (by omega)) dL_law_1175 ?_
  obtain ⟨x3, hx3⟩ : ∃ z, z = xs (nI (iL + 3)).toNatClampNeg := ⟨_, rfl⟩
  rw [← hx3]
  refine lv_aload_n hx hb dL_law_1176 rfl (lv_at hl 3 rfl) ?_
  refine ll_w (vx_runSW (As := [.ref (ad 57), .int x1, .int x2, .int x3, .ref o]) (rest := []) ⟨hx, hb, hml, hown, hts⟩ (m_L_ahead l F.st dC dI cB ad o S x1 x2 x3 hI9.x hI9.x5 (by have := hI9.xp; omega)) (vx_cwSW 5 hts gL_law_L_ahead rfl rfl rfl hdL_ahead_5.2 ⟨Nat.le_of_ble_eq_true rfl, Nat.le_of_ble_eq_true rfl⟩) (hS.preW F.K) rfl rfl hl.1 rfl (lv_room (Nat.le_of_ble_eq_true rfl)) dL_law_1177 ⟨le_rc (by omega), le_rs (by omega)⟩) F.K hS (fun r0 S1 n1 H locs hq9 hN hS => ?_)
  have hLQ : LQ S S1 := hq9.1
  have hR : R_ahead x1 x2 x3 S r0 S1 n1 := hq9.2
  clear hq9
  rcases hR with ⟨hb9, rfl, rfl⟩ | ⟨i, hi, rfl, hb9, rfl, rfl⟩ | ⟨i, j, hi, hj, rfl, rfl, hb9, rfl, rfl⟩ | ⟨i, j, v, r7, hi, hj, hv9, rfl, rfl, rfl, rfl, rfl, hw1, hw2⟩
  · skip
    refine lv_istore (lv' := [(5, .int (nI 1)), (0, .ref b), (1, .ref (ad 57)), (2, .ref (am 0)), (3, .ref o), (4, .int (nI iL))]) hx hb dL_law_1180 hl (by decide) rfl (fun ls hl => ?_)
    refine lv_aload_n hx hb dL_law_1182 rfl (lv_at hl 3 rfl) ?_
    refine lv_aload_n hx hb dL_law_1183 rfl (lv_at hl 1 rfl) ?_
    refine lv_iload hx hb dL_law_1184 (lv_at hl 5 rfl) ?_
    refine lv_iconst (v := nI 1) hx hb dL_law_1186 (by decide) ?_
    refine kn_iadd hx hb dL_law_1187 ?_
    refine va_sld hx hb F.sc F.bl (fun z => Nat.not_le.mpr F.bl z) hS.st (vp_in_nI (show iL + 1 < L by omega) (by omega)) dL_law_1188 ?_
    rw [← hx1]
    refine lv_aload_n hx hb dL_law_1189 rfl (lv_at hl 1 rfl) ?_
    refine lv_iload hx hb dL_law_1190 (lv_at hl 5 rfl) ?_
    refine lv_iconst (v := nI 2) hx hb dL_law_1192 (by decide) ?_
    refine kn_iadd hx hb dL_law_1193 ?_
    refine va_sld hx hb F.sc F.bl (fun z => Nat.not_le.mpr F.bl z) hS.st (vp_in_nI (show iL + 2 < L by omega) (by omega)) dL_law_1194 ?_
    rw [← hx2]
    refine lv_aload_n hx hb dL_law_1195 rfl (lv_at hl 1 rfl) ?_
    refine lv_iload hx hb dL_law_1196 (lv_at hl 5 rfl) ?_
    refine lv_iconst (v := nI 3) hx hb dL_law_1198 (by decide) ?_
    refine kn_iadd hx hb dL_law_1199 ?_
    refine va_sld hx hb F.sc F.bl (fun z => Nat.not_le.mpr F.bl z) hS.st (vp_in_nI (show iL + 3 < L by omega) (by omega)) dL_law_1200 ?_
    rw [← hx3]
    have hI := hI9.m
    have T := hI9.T
    have hc : M.2.2.2.1 + 12 < 1000000 := by have := hI9.mp; omega
    refine ll_m (va_runV (As := [.int x1, .int x2, .int x3]) (rest := []) ⟨hx, hb, hml, hown, hts⟩ (o_X6_ahead_1 l dC dI am M x1 x2 x3 hb9 hI) (cwV 3 hts gL_law_X6_ahead rfl rfl rfl hdX6_ahead_3 ⟨Nat.le_of_ble_eq_true rfl, Nat.le_of_ble_eq_true rfl⟩) (hS.preM F.K) rfl rfl hl.1 rfl (lv_room (Nat.le_of_ble_eq_true rfl)) dL_law_1201 ⟨le_rc (by omega), le_rs (by omega)⟩) F.K hS (fun r8 M1 H locs hko hv hS => ?_)
    have hLM : LM M M1 := by rw [hv]; exact LM_th hI _
    have hT : Tie2 S M1 := by rw [hv]; exact T.th _
    refine lv_istore (lv' := [(6, .int r8), (5, .int (nI 1)), (0, .ref b), (1, .ref (ad 57)), (2, .ref (am 0)), (3, .ref o), (4, .int (nI iL))]) hx hb dL_law_1204 hl (by decide) rfl (fun ls hl => ?_)
    refine lv_goto (tgt := 2052) hx hb dL_law_1206 (by decide) ?_
    exact W.widen (k := 100 + 224 * (n + 1)) (n := 1200 + 10680 * (n + 1)) (by omega) (by omega) (kk9 S M1 _ _ _ (hI9.next hLQ hLM hT) hS (lv_sub hl [2, 3, 4, 5, 6] rfl))
  · skip
    refine lv_istore (lv' := [(5, .int (nI 1)), (0, .ref b), (1, .ref (ad 57)), (2, .ref (am 0)), (3, .ref o), (4, .int (nI iL))]) hx hb dL_law_1180 hl (by decide) rfl (fun ls hl => ?_)
    refine lv_aload_n hx hb dL_law_1182 rfl (lv_at hl 3 rfl) ?_
    refine lv_aload_n hx hb dL_law_1183 rfl (lv_at hl 1 rfl) ?_
    refine lv_iload hx hb dL_law_1184 (lv_at hl 5 rfl) ?_
    refine lv_iconst (v := nI 1) hx hb dL_law_1186 (by decide) ?_
    refine kn_iadd hx hb dL_law_1187 ?_
    refine va_sld hx hb F.sc F.bl (fun z => Nat.not_le.mpr F.bl z) hS.st (vp_in_nI (show iL + 1 < L by omega) (by omega)) dL_law_1188 ?_
    rw [← hx1]
    refine lv_aload_n hx hb dL_law_1189 rfl (lv_at hl 1 rfl) ?_
    refine lv_iload hx hb dL_law_1190 (lv_at hl 5 rfl) ?_
    refine lv_iconst (v := nI 2) hx hb dL_law_1192 (by decide) ?_
    refine kn_iadd hx hb dL_law_1193 ?_
    refine va_sld hx hb F.sc F.bl (fun z => Nat.not_le.mpr F.bl z) hS.st (vp_in_nI (show iL + 2 < L by omega) (by omega)) dL_law_1194 ?_
    rw [← hx2]
    refine lv_aload_n hx hb dL_law_1195 rfl (lv_at hl 1 rfl) ?_
    refine lv_iload hx hb dL_law_1196 (lv_at hl 5 rfl) ?_
    refine lv_iconst (v := nI 3) hx hb dL_law_1198 (by decide) ?_
    refine kn_iadd hx hb dL_law_1199 ?_
    refine va_sld hx hb F.sc F.bl (fun z => Nat.not_le.mpr F.bl z) hS.st (vp_in_nI (show iL + 3 < L by omega) (by omega)) dL_law_1200 ?_
    rw [← hx3]
    have hI := hI9.m
    have T := hI9.T
    have hc : M.2.2.2.1 + 12 < 1000000 := by have := hI9.mp; omega
    have hn := (hI.1 i hi).1
    refine ll_m (va_runV (As := [.int (nI i), .int x2, .int x3]) (rest := []) ⟨hx, hb, hml, hown, hts⟩ (o_X6_ahead_2 l dC dI am M i x2 x3 hi hb9 hI) (cwV 3 hts gL_law_X6_ahead rfl rfl rfl hdX6_ahead_3 ⟨Nat.le_of_ble_eq_true rfl, Nat.le_of_ble_eq_true rfl⟩) (hS.preM F.K) rfl rfl hl.1 rfl (lv_room (Nat.le_of_ble_eq_true rfl)) dL_law_1201 ⟨le_rc (by omega), le_rs (by omega)⟩) F.K hS (fun r8 M1 H locs hko hv hS => ?_)
    have hLM : LM M M1 := by rw [hv]; exact LM_th hI _
    have hT : Tie2 S M1 := by rw [hv]; exact T.th _
    refine lv_istore (lv' := [(6, .int r8), (5, .int (nI 1)), (0, .ref b), (1, .ref (ad 57)), (2, .ref (am 0)), (3, .ref o), (4, .int (nI iL))]) hx hb dL_law_1204 hl (by decide) rfl (fun ls hl => ?_)
    refine lv_goto (tgt := 2052) hx hb dL_law_1206 (by decide) ?_
    exact W.widen (k := 100 + 224 * (n + 1)) (n := 1200 + 10680 * (n + 1)) (by omega) (by omega) (kk9 S M1 _ _ _ (hI9.next hLQ hLM hT) hS (lv_sub hl [2, 3, 4, 5, 6] rfl))
  · skip
    refine lv_istore (lv' := [(5, .int (nI 2)), (0, .ref b), (1, .ref (ad 57)), (2, .ref (am 0)), (3, .ref o), (4, .int (nI iL))]) hx hb dL_law_1180 hl (by decide) rfl (fun ls hl => ?_)
    refine lv_aload_n hx hb dL_law_1182 rfl (lv_at hl 3 rfl) ?_
    refine lv_aload_n hx hb dL_law_1183 rfl (lv_at hl 1 rfl) ?_
    refine lv_iload hx hb dL_law_1184 (lv_at hl 5 rfl) ?_
    refine lv_iconst (v := nI 1) hx hb dL_law_1186 (by decide) ?_
    refine kn_iadd hx hb dL_law_1187 ?_
    refine va_sld hx hb F.sc F.bl (fun z => Nat.not_le.mpr F.bl z) hS.st (vp_in_nI (show iL + 1 < L by omega) (by omega)) dL_law_1188 ?_
    rw [← hx1]
    refine lv_aload_n hx hb dL_law_1189 rfl (lv_at hl 1 rfl) ?_
    refine lv_iload hx hb dL_law_1190 (lv_at hl 5 rfl) ?_
    refine lv_iconst (v := nI 2) hx hb dL_law_1192 (by decide) ?_
    refine kn_iadd hx hb dL_law_1193 ?_
    refine va_sld hx hb F.sc F.bl (fun z => Nat.not_le.mpr F.bl z) hS.st (vp_in_nI (show iL + 2 < L by omega) (by omega)) dL_law_1194 ?_
    rw [← hx2]
    refine lv_aload_n hx hb dL_law_1195 rfl (lv_at hl 1 rfl) ?_
    refine lv_iload hx hb dL_law_1196 (lv_at hl 5 rfl) ?_
    refine lv_iconst (v := nI 3) hx hb dL_law_1198 (by decide) ?_
    refine kn_iadd hx hb dL_law_1199 ?_
    refine va_sld hx hb F.sc F.bl (fun z => Nat.not_le.mpr F.bl z) hS.st (vp_in_nI (show iL + 3 < L by omega) (by omega)) dL_law_1200 ?_
    rw [← hx3]
    have hI := hI9.m
    have T := hI9.T
    have hc : M.2.2.2.1 + 12 < 1000000 := by have := hI9.mp; omega
    have hn := (hI.1 i hi).1
    refine ll_m (va_runV (As := [.int (nI i), .int (nI j), .int x3]) (rest := []) ⟨hx, hb, hml, hown, hts⟩ (o_X6_ahead_3 l dC dI am M i j x3 hi hj hb9 hI) (cwV 3 hts gL_law_X6_ahead rfl rfl rfl hdX6_ahead_3 ⟨Nat.le_of_ble_eq_true rfl, Nat.le_of_ble_eq_true rfl⟩) (hS.preM F.K) rfl rfl hl.1 rfl (lv_room (Nat.le_of_ble_eq_true rfl)) dL_law_1201 ⟨le_rc (by omega), le_rs (by omega)⟩) F.K hS (fun r8 M1 H locs hko hv hS => ?_)
    have hLM : LM M M1 := by rw [hv]; exact LM_th hI _
    have hT : Tie2 S M1 := by rw [hv]; exact T.th _
    refine lv_istore (lv' := [(6, .int r8), (5, .int (nI 2)), (0, .ref b), (1, .ref (ad 57)), (2, .ref (am 0)), (3, .ref o), (4, .int (nI iL))]) hx hb dL_law_1204 hl (by decide) rfl (fun ls hl => ?_)
    refine lv_goto (tgt := 2052) hx hb dL_law_1206 (by decide) ?_
    exact W.widen (k := 100 + 224 * (n + 1)) (n := 1200 + 10680 * (n + 1)) (by omega) (by omega) (kk9 S M1 _ _ _ (hI9.next hLQ hLM hT) hS (lv_sub hl [2, 3, 4, 5, 6] rfl))
  · skip
    have hw := And.intro hw1 hw2
    refine lv_istore (lv' := [(5, .int (nI 0)), (0, .ref b), (1, .ref (ad 57)), (2, .ref (am 0)), (3, .ref o), (4, .int (nI iL))]) hx hb dL_law_1180 hl (by decide) rfl (fun ls hl => ?_)
    refine lv_aload_n hx hb dL_law_1182 rfl (lv_at hl 3 rfl) ?_
    refine lv_aload_n hx hb dL_law_1183 rfl (lv_at hl 1 rfl) ?_
    refine lv_iload hx hb dL_law_1184 (lv_at hl 5 rfl) ?_
    refine lv_iconst (v := nI 1) hx hb dL_law_1186 (by decide) ?_
    refine kn_iadd hx hb dL_law_1187 ?_
    refine va_sld hx hb F.sc F.bl (fun z => Nat.not_le.mpr F.bl z) hS.st (vp_in_nI (show iL + 1 < L by omega) (by omega)) dL_law_1188 ?_
    rw [← hx1]
    refine lv_aload_n hx hb dL_law_1189 rfl (lv_at hl 1 rfl) ?_
    refine lv_iload hx hb dL_law_1190 (lv_at hl 5 rfl) ?_
    refine lv_iconst (v := nI 2) hx hb dL_law_1192 (by decide) ?_
    refine kn_iadd hx hb dL_law_1193 ?_
    refine va_sld hx hb F.sc F.bl (fun z => Nat.not_le.mpr F.bl z) hS.st (vp_in_nI (show iL + 2 < L by omega) (by omega)) dL_law_1194 ?_
    rw [← hx2]
    refine lv_aload_n hx hb dL_law_1195 rfl (lv_at hl 1 rfl) ?_
    refine lv_iload hx hb dL_law_1196 (lv_at hl 5 rfl) ?_
    refine lv_iconst (v := nI 3) hx hb dL_law_1198 (by decide) ?_
    refine kn_iadd hx hb dL_law_1199 ?_
    refine va_sld hx hb F.sc F.bl (fun z => Nat.not_le.mpr F.bl z) hS.st (vp_in_nI (show iL + 3 < L by omega) (by omega)) dL_law_1200 ?_
    rw [← hx3]
    have hI := hI9.m
    have T := hI9.T
    have hc : M.2.2.2.1 + 12 < 1000000 := by have := hI9.mp; omega
    have hn := (hI.1 i hi).1
    refine ll_m (va_runV (As := [.int (nI i), .int (nI j), .int (nI v)]) (rest := []) ⟨hx, hb, hml, hown, hts⟩ (m_X6_ahead l dC dI am M i j v hi hj hv9 hI) (cwV 3 hts gL_law_X6_ahead rfl rfl rfl hdX6_ahead_3 ⟨Nat.le_of_ble_eq_true rfl, Nat.le_of_ble_eq_true rfl⟩) (hS.preM F.K) rfl rfl hl.1 rfl (lv_room (Nat.le_of_ble_eq_true rfl)) dL_law_1201 ⟨le_rc (by omega), le_rs (by omega)⟩) F.K hS (fun r8 M1 H locs hko hv hS => ?_)
    have hLM : LM M M1 := by rw [hv.2]; exact LM_th hI 0
    obtain ⟨hT, he9, ht9⟩ := A_ahead T.1 T.2 hI9.x hi hj hv9 hw hv
    refine lv_istore (lv' := [(6, .int r8), (5, .int (nI 0)), (0, .ref b), (1, .ref (ad 57)), (2, .ref (am 0)), (3, .ref o), (4, .int (nI iL))]) hx hb dL_law_1204 hl (by decide) rfl (fun ls hl => ?_)
    refine lv_goto (tgt := 2052) hx hb dL_law_1206 (by decide) ?_
    exact W.widen (k := 100 + 224 * (n + 1)) (n := 1200 + 10680 * (n + 1)) (by omega) (by omega) (kk9 S1 M1 _ _ _ (hI9.next hLQ hLM hT) hS (lv_sub hl [2, 3, 4, 5, 6] rfl))
set_option maxHeartbeats 4000000 in
set_option maxRecDepth 100000 in
theorem lc_21 {p : Program} {l : Launch} {e : Env} {s : State} {m : MethodId} {below : List Frame} {meth : Method} {c : Code} {b L : Nat} {xs : Nat → Int32} {dC : Nat → ClassId} {dI : Nat → Nat → Nat} {cB : ClassId} {ad am : Nat → Nat} {o n iL : Nat} {Q : State → Prop} (F : LF p l s m c b L xs dC dI cB ad am o) (hni : iL = 5 * n) (hiL : iL + 5 ≤ L) : LCase p l e s m below meth c b dC dI ad am o n iL Q 1209 := by
  intro S M H locs hI9 hS kk9 ls hl
  have hx := F.x
  have hb := F.b
  have hml := F.ml
  have hown := F.own
  have hts := F.ts
  have hL := F.hL
  have hn9 : n ≤ 511 := by omega
  refine lv_aload_n hx hb dL_law_1209 rfl (lv_at hl 1 rfl) ?_
  refine lv_aload_n hx hb dL_law_1210 rfl (lv_at hl 0 rfl) ?_
  refine lv_iload hx hb dL_law_1211 (lv_at hl 4 rfl) ?_
  refine lv_iconst (v := nI 1) hx hb dL_law_1213 (by decide) ?_
  refine kn_iadd hx hb dL_law_1214 ?_
  refine va_sld hx hb F.sc F.bl (fun z => Nat.not_le.mpr F.bl z) hS.st (vp_in_nI (show iL + 1 < L by omega) (by omega)) dL_law_1215 ?_
  obtain ⟨x1, hx1⟩ : ∃ z, z = xs (nI (iL + 1)).toNatClampNeg := ⟨_, rfl⟩
  rw [← hx1]
  refine lv_aload_n hx hb dL_law_1216 rfl (lv_at hl 0 rfl) ?_
  refine lv_iload hx hb dL_law_1217 (lv_at hl 4 rfl) ?_
  refine lv_iconst (v := nI 2) hx hb dL_law_1219 (by decide) ?_
  refine kn_iadd hx hb dL_law_1220 ?_
  refine va_sld hx hb F.sc F.bl (fun z => Nat.not_le.mpr F.bl z) hS.st (vp_in_nI (show iL + 2 < L by omega) (by omega)) dL_law_1221 ?_
  obtain ⟨x2, hx2⟩ : ∃ z, z = xs (nI (iL + 2)).toNatClampNeg := ⟨_, rfl⟩
  rw [← hx2]
  refine lv_aload_n hx hb dL_law_1222 rfl (lv_at hl 3 rfl) ?_
  refine ll_w (vx_runSW (As := [.ref (ad 57), .int x1, .int x2, .ref o]) (rest := []) ⟨hx, hb, hml, hown, hts⟩ (m_L_groups l F.st dC dI cB ad o S x1 x2 hI9.x hI9.x5 (by have := hI9.xp; omega)) (vx_cwSW 4 hts gL_law_L_groups rfl rfl rfl hdL_groups_4.2 ⟨Nat.le_of_ble_eq_true rfl, Nat.le_of_ble_eq_true rfl⟩) (hS.preW F.K) rfl rfl hl.1 rfl (lv_room (Nat.le_of_ble_eq_true rfl)) dL_law_1223 ⟨le_rc (by omega), le_rs (by omega)⟩) F.K hS (fun r0 S1 n1 H locs hq9 hN hS => ?_)
  have hLQ : LQ S S1 := hq9.1
  have hR : R_groups x1 x2 S r0 S1 n1 := hq9.2
  clear hq9
  rcases hR with ⟨hb9, rfl, rfl⟩ | ⟨i, hi, rfl, hb9, rfl, rfl⟩ | ⟨i, j, hi, hj, rfl, rfl, rfl, hw⟩
  · skip
    refine lv_istore (lv' := [(5, .int (nI 1)), (0, .ref b), (1, .ref (ad 57)), (2, .ref (am 0)), (3, .ref o), (4, .int (nI iL))]) hx hb dL_law_1226 hl (by decide) rfl (fun ls hl => ?_)
    refine lv_aload_n hx hb dL_law_1228 rfl (lv_at hl 3 rfl) ?_
    refine lv_aload_n hx hb dL_law_1229 rfl (lv_at hl 1 rfl) ?_
    refine lv_iload hx hb dL_law_1230 (lv_at hl 5 rfl) ?_
    refine lv_iconst (v := nI 1) hx hb dL_law_1232 (by decide) ?_
    refine kn_iadd hx hb dL_law_1233 ?_
    refine va_sld hx hb F.sc F.bl (fun z => Nat.not_le.mpr F.bl z) hS.st (vp_in_nI (show iL + 1 < L by omega) (by omega)) dL_law_1234 ?_
    rw [← hx1]
    refine lv_aload_n hx hb dL_law_1235 rfl (lv_at hl 1 rfl) ?_
    refine lv_iload hx hb dL_law_1236 (lv_at hl 5 rfl) ?_
    refine lv_iconst (v := nI 2) hx hb dL_law_1238 (by decide) ?_
    refine kn_iadd hx hb dL_law_1239 ?_
    refine va_sld hx hb F.sc F.bl (fun z => Nat.not_le.mpr F.bl z) hS.st (vp_in_nI (show iL + 2 < L by omega) (by omega)) dL_law_1240 ?_
    rw [← hx2]
    have hI := hI9.m
    have T := hI9.T
    have hc : M.2.2.2.1 + 12 < 1000000 := by have := hI9.mp; omega
    refine ll_mr (va_runV (As := [.int x1, .int x2]) (rest := []) ⟨hx, hb, hml, hown, hts⟩ (o_X6_groups_1 l dC dI cB am M x1 x2 hb9) (cwV 2 hts gL_law_X6_groups rfl rfl rfl hdX6_groups_2 ⟨Nat.le_of_ble_eq_true rfl, Nat.le_of_ble_eq_true rfl⟩) (hS.preMT F.K) rfl rfl hl.1 rfl (lv_room (Nat.le_of_ble_eq_true rfl)) dL_law_1241 ⟨le_rc (by omega), le_rs (by omega)⟩) F.K hS (fun M1 q9 H locs hko hv hS => ?_)
    have hLM : LM M M1 := by rw [hv]; exact LM_th hI _
    have hT : Tie2 S M1 := by rw [hv]; exact T.th _
    refine lv_astore (lv' := [(6, .ref q9), (5, .int (nI 1)), (0, .ref b), (1, .ref (ad 57)), (2, .ref (am 0)), (3, .ref o), (4, .int (nI iL))]) hx hb dL_law_1244 hl (by decide) rfl (fun ls hl => ?_)
    refine lv_goto (tgt := 2052) hx hb dL_law_1246 (by decide) ?_
    exact W.widen (k := 100 + 224 * (n + 1)) (n := 1200 + 10680 * (n + 1)) (by omega) (by omega) (kk9 S M1 _ _ _ (hI9.next hLQ hLM hT) hS (lv_sub hl [2, 3, 4, 5, 6] rfl))
  · skip
    refine lv_istore (lv' := [(5, .int (nI 1)), (0, .ref b), (1, .ref (ad 57)), (2, .ref (am 0)), (3, .ref o), (4, .int (nI iL))]) hx hb dL_law_1226 hl (by decide) rfl (fun ls hl => ?_)
    refine lv_aload_n hx hb dL_law_1228 rfl (lv_at hl 3 rfl) ?_
    refine lv_aload_n hx hb dL_law_1229 rfl (lv_at hl 1 rfl) ?_
    refine lv_iload hx hb dL_law_1230 (lv_at hl 5 rfl) ?_
    refine lv_iconst (v := nI 1) hx hb dL_law_1232 (by decide) ?_
    refine kn_iadd hx hb dL_law_1233 ?_
    refine va_sld hx hb F.sc F.bl (fun z => Nat.not_le.mpr F.bl z) hS.st (vp_in_nI (show iL + 1 < L by omega) (by omega)) dL_law_1234 ?_
    rw [← hx1]
    refine lv_aload_n hx hb dL_law_1235 rfl (lv_at hl 1 rfl) ?_
    refine lv_iload hx hb dL_law_1236 (lv_at hl 5 rfl) ?_
    refine lv_iconst (v := nI 2) hx hb dL_law_1238 (by decide) ?_
    refine kn_iadd hx hb dL_law_1239 ?_
    refine va_sld hx hb F.sc F.bl (fun z => Nat.not_le.mpr F.bl z) hS.st (vp_in_nI (show iL + 2 < L by omega) (by omega)) dL_law_1240 ?_
    rw [← hx2]
    have hI := hI9.m
    have T := hI9.T
    have hc : M.2.2.2.1 + 12 < 1000000 := by have := hI9.mp; omega
    have hn := (hI.1 i hi).1
    refine ll_mr (va_runV (As := [.int (nI i), .int x2]) (rest := []) ⟨hx, hb, hml, hown, hts⟩ (o_X6_groups_2 l dC dI cB am M i x2 hi hb9) (cwV 2 hts gL_law_X6_groups rfl rfl rfl hdX6_groups_2 ⟨Nat.le_of_ble_eq_true rfl, Nat.le_of_ble_eq_true rfl⟩) (hS.preMT F.K) rfl rfl hl.1 rfl (lv_room (Nat.le_of_ble_eq_true rfl)) dL_law_1241 ⟨le_rc (by omega), le_rs (by omega)⟩) F.K hS (fun M1 q9 H locs hko hv hS => ?_)
    have hLM : LM M M1 := by rw [hv]; exact LM_th hI _
    have hT : Tie2 S M1 := by rw [hv]; exact T.th _
    refine lv_astore (lv' := [(6, .ref q9), (5, .int (nI 1)), (0, .ref b), (1, .ref (ad 57)), (2, .ref (am 0)), (3, .ref o), (4, .int (nI iL))]) hx hb dL_law_1244 hl (by decide) rfl (fun ls hl => ?_)
    refine lv_goto (tgt := 2052) hx hb dL_law_1246 (by decide) ?_
    exact W.widen (k := 100 + 224 * (n + 1)) (n := 1200 + 10680 * (n + 1)) (by omega) (by omega) (kk9 S M1 _ _ _ (hI9.next hLQ hLM hT) hS (lv_sub hl [2, 3, 4, 5, 6] rfl))
  · skip
    refine lv_istore (lv' := [(5, .int (nI 0)), (0, .ref b), (1, .ref (ad 57)), (2, .ref (am 0)), (3, .ref o), (4, .int (nI iL))]) hx hb dL_law_1226 hl (by decide) rfl (fun ls hl => ?_)
    refine lv_aload_n hx hb dL_law_1228 rfl (lv_at hl 3 rfl) ?_
    refine lv_aload_n hx hb dL_law_1229 rfl (lv_at hl 1 rfl) ?_
    refine lv_iload hx hb dL_law_1230 (lv_at hl 5 rfl) ?_
    refine lv_iconst (v := nI 1) hx hb dL_law_1232 (by decide) ?_
    refine kn_iadd hx hb dL_law_1233 ?_
    refine va_sld hx hb F.sc F.bl (fun z => Nat.not_le.mpr F.bl z) hS.st (vp_in_nI (show iL + 1 < L by omega) (by omega)) dL_law_1234 ?_
    rw [← hx1]
    refine lv_aload_n hx hb dL_law_1235 rfl (lv_at hl 1 rfl) ?_
    refine lv_iload hx hb dL_law_1236 (lv_at hl 5 rfl) ?_
    refine lv_iconst (v := nI 2) hx hb dL_law_1238 (by decide) ?_
    refine kn_iadd hx hb dL_law_1239 ?_
    refine va_sld hx hb F.sc F.bl (fun z => Nat.not_le.mpr F.bl z) hS.st (vp_in_nI (show iL + 2 < L by omega) (by omega)) dL_law_1240 ?_
    rw [← hx2]
    have hI := hI9.m
    have T := hI9.T
    have hc : M.2.2.2.1 + 12 < 1000000 := by have := hI9.mp; omega
    have hn := (hI.1 i hi).1
    refine ll_mr (va_runV (As := [.int (nI i), .int (nI j)]) (rest := []) ⟨hx, hb, hml, hown, hts⟩ (m_X6_groups l dC dI cB am M i j hi hj hI) (cwV 2 hts gL_law_X6_groups rfl rfl rfl hdX6_groups_2 ⟨Nat.le_of_ble_eq_true rfl, Nat.le_of_ble_eq_true rfl⟩) (hS.preMT F.K) rfl rfl hl.1 rfl (lv_room (Nat.le_of_ble_eq_true rfl)) dL_law_1241 ⟨le_rc (by omega), le_rs (by omega)⟩) F.K hS (fun M1 q9 H locs hko hv hS => ?_)
    have hLM : LM M M1 := by rw [hv]; exact LM_th hI 0
    have hT : Tie2 S1 M1 := by rw [hw, hv]; exact T.th 0
    refine lv_astore (lv' := [(6, .ref q9), (5, .int (nI 0)), (0, .ref b), (1, .ref (ad 57)), (2, .ref (am 0)), (3, .ref o), (4, .int (nI iL))]) hx hb dL_law_1244 hl (by decide) rfl (fun ls hl => ?_)
    refine lv_goto (tgt := 2052) hx hb dL_law_1246 (by decide) ?_
    exact W.widen (k := 100 + 224 * (n + 1)) (n := 1200 + 10680 * (n + 1)) (by omega) (by omega) (kk9 S1 M1 _ _ _ (hI9.next hLQ hLM hT) hS (lv_sub hl [2, 3, 4, 5, 6] rfl))
