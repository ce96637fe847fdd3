set_option maxHeartbeats 4000000 in
set_option maxRecDepth 100000 in
theorem lc_11 {p : Program} {l : Launch} {e : Env} {s : State} {m : MethodId} {below : List Frame} {meth : Method} {c : Code} {b L : Nat} {xs : Nat → Int32} {dC : Nat → ClassId} {dI : Nat → Nat → Nat} {cB : ClassId} {ad am : Nat → Nat} {o n iL : Nat} {Q : State → Prop} (F : LF p l s m c b L xs dC dI cB ad am o) (hni : iL = 5 * n) (hiL : iL + 5 ≤ L) : LCase p l e s m below meth c b dC dI ad am o n iL Q 728 := by
  intro S M H locs hI9 hS kk9 ls hl
  have hx := F.x
  have hb := F.b
  have hml := F.ml
  have hown := F.own
  have hts := F.ts
  have hL := F.hL
  have hn9 : n ≤ 511 := by omega
  refine lv_aload_n hx hb dL_law_728 rfl (lv_at hl 1 rfl) ?_
  refine lv_aload_n hx hb dL_law_729 rfl (lv_at hl 0 rfl) ?_
  refine lv_iload hx hb dL_law_730 (lv_at hl 4 rfl) ?_
  refine lv_iconst (v := nI 1) hx hb dL_law_732 (by decide) ?_
  refine kn_iadd hx hb dL_law_733 ?_
  refine va_sld hx hb F.sc F.bl (fun z => Nat.not_le.mpr F.bl z) hS.st (vp_in_nI (show iL + 1 < L by omega) (by omega)) dL_law_734 ?_
  obtain ⟨x1, hx1⟩ : ∃ z, z = xs (nI (iL + 1)).toNatClampNeg := ⟨_, rfl⟩
  rw [← hx1]
  refine lv_aload_n hx hb dL_law_735 rfl (lv_at hl 0 rfl) ?_
  refine lv_iload hx hb dL_law_736 (lv_at hl 4 rfl) ?_
  refine lv_iconst (v := nI 2) hx hb dL_law_738 (by decide) ?_
  refine kn_iadd hx hb dL_law_739 ?_
  refine va_sld hx hb F.sc F.bl (fun z => Nat.not_le.mpr F.bl z) hS.st (vp_in_nI (show iL + 2 < L by omega) (by omega)) dL_law_740 ?_
  obtain ⟨x2, hx2⟩ : ∃ z, z = xs (nI (iL + 2)).toNatClampNeg := ⟨_, rfl⟩
  rw [← hx2]
  refine lv_aload_n hx hb dL_law_741 rfl (lv_at hl 3 rfl) ?_
  refine ll_w (vx_runSW (As := [.ref (ad 57), .int x1, .int x2, .ref o]) (rest := []) ⟨hx, hb, hml, hown, hts⟩ (m_L_isSorted l F.st dC dI cB ad o S x1 x2 hI9.x hI9.x5 (by have := hI9.xp; omega)) (vx_cwSW 4 hts gL_law_L_isSorted rfl rfl rfl hdL_isSorted_4.2 ⟨Nat.le_of_ble_eq_true rfl, Nat.le_of_ble_eq_true rfl⟩) (hS.preW F.K) rfl rfl hl.1 rfl (lv_room (Nat.le_of_ble_eq_true rfl)) dL_law_742 ⟨le_rc (by omega), le_rs (by omega)⟩) F.K hS (fun r0 S1 n1 H locs hq9 hN hS => ?_)
  have hLQ : LQ S S1 := hq9.1
  have hR : R_isSorted x1 x2 S r0 S1 n1 := hq9.2
  clear hq9
  rcases hR with ⟨hb9, rfl, rfl⟩ | ⟨i, hi, rfl, hb9, rfl, rfl⟩ | ⟨i, j, r7, hi, hj, rfl, rfl, rfl, rfl, hw1, hw2⟩
  · skip
    refine lv_istore (lv' := [(5, .int (nI 1)), (0, .ref b), (1, .ref (ad 57)), (2, .ref (am 0)), (3, .ref o), (4, .int (nI iL))]) hx hb dL_law_745 hl (by decide) rfl (fun ls hl => ?_)
    refine lv_aload_n hx hb dL_law_747 rfl (lv_at hl 3 rfl) ?_
    refine lv_aload_n hx hb dL_law_748 rfl (lv_at hl 1 rfl) ?_
    refine lv_iload hx hb dL_law_749 (lv_at hl 5 rfl) ?_
    refine lv_iconst (v := nI 1) hx hb dL_law_751 (by decide) ?_
    refine kn_iadd hx hb dL_law_752 ?_
    refine va_sld hx hb F.sc F.bl (fun z => Nat.not_le.mpr F.bl z) hS.st (vp_in_nI (show iL + 1 < L by omega) (by omega)) dL_law_753 ?_
    rw [← hx1]
    refine lv_aload_n hx hb dL_law_754 rfl (lv_at hl 1 rfl) ?_
    refine lv_iload hx hb dL_law_755 (lv_at hl 5 rfl) ?_
    refine lv_iconst (v := nI 2) hx hb dL_law_757 (by decide) ?_
    refine kn_iadd hx hb dL_law_758 ?_
    refine va_sld hx hb F.sc F.bl (fun z => Nat.not_le.mpr F.bl z) hS.st (vp_in_nI (show iL + 2 < L by omega) (by omega)) dL_law_759 ?_
    rw [← hx2]
    have hI := hI9.m
    have T := hI9.T
    have hc : M.2.2.2.1 + 12 < 1000000 := by have := hI9.mp; omega
    refine ll_m (va_runV (As := [.int x1, .int x2]) (rest := []) ⟨hx, hb, hml, hown, hts⟩ (o_X6_isSorted_1 l dC dI am M x1 x2 hb9 hI) (cwV 2 hts gL_law_X6_isSorted rfl rfl rfl hdX6_isSorted_2 ⟨Nat.le_of_ble_eq_true rfl, Nat.le_of_ble_eq_true rfl⟩) (hS.preM F.K) rfl rfl hl.1 rfl (lv_room (Nat.le_of_ble_eq_true rfl)) dL_law_760 ⟨le_rc (by omega), le_rs (by omega)⟩) F.K hS (fun r8 M1 H locs hko hv hS => ?_)
    have hLM : LM M M1 := by rw [hv]; exact LM_th hI _
    have hT : Tie S M1 := by rw [hv]; exact T.th _
    refine lv_istore (lv' := [(6, .int r8), (5, .int (nI 1)), (0, .ref b), (1, .ref (ad 57)), (2, .ref (am 0)), (3, .ref o), (4, .int (nI iL))]) hx hb dL_law_763 hl (by decide) rfl (fun ls hl => ?_)
    refine lv_goto (tgt := 2052) hx hb dL_law_765 (by decide) ?_
    exact W.widen (k := 100 + 224 * (n + 1)) (n := 1200 + 10680 * (n + 1)) (by omega) (by omega) (kk9 S M1 _ _ _ (hI9.next hLQ hLM hT) hS (lv_sub hl [2, 3, 4, 5, 6] rfl))
  · skip
    refine lv_istore (lv' := [(5, .int (nI 1)), (0, .ref b), (1, .ref (ad 57)), (2, .ref (am 0)), (3, .ref o), (4, .int (nI iL))]) hx hb dL_law_745 hl (by decide) rfl (fun ls hl => ?_)
    refine lv_aload_n hx hb dL_law_747 rfl (lv_at hl 3 rfl) ?_
    refine lv_aload_n hx hb dL_law_748 rfl (lv_at hl 1 rfl) ?_
    refine lv_iload hx hb dL_law_749 (lv_at hl 5 rfl) ?_
    refine lv_iconst (v := nI 1) hx hb dL_law_751 (by decide) ?_
    refine kn_iadd hx hb dL_law_752 ?_
    refine va_sld hx hb F.sc F.bl (fun z => Nat.not_le.mpr F.bl z) hS.st (vp_in_nI (show iL + 1 < L by omega) (by omega)) dL_law_753 ?_
    rw [← hx1]
    refine lv_aload_n hx hb dL_law_754 rfl (lv_at hl 1 rfl) ?_
    refine lv_iload hx hb dL_law_755 (lv_at hl 5 rfl) ?_
    refine lv_iconst (v := nI 2) hx hb dL_law_757 (by decide) ?_
    refine kn_iadd hx hb dL_law_758 ?_
    refine va_sld hx hb F.sc F.bl (fun z => Nat.not_le.mpr F.bl z) hS.st (vp_in_nI (show iL + 2 < L by omega) (by omega)) dL_law_759 ?_
    rw [← hx2]
    have hI := hI9.m
    have T := hI9.T
    have hc : M.2.2.2.1 + 12 < 1000000 := by have := hI9.mp; omega
    have hn := (hI.1 i hi).1
    refine ll_m (va_runV (As := [.int (nI i), .int x2]) (rest := []) ⟨hx, hb, hml, hown, hts⟩ (o_X6_isSorted_2 l dC dI am M i x2 hi hb9 hI) (cwV 2 hts gL_law_X6_isSorted rfl rfl rfl hdX6_isSorted_2 ⟨Nat.le_of_ble_eq_true rfl, Nat.le_of_ble_eq_true rfl⟩) (hS.preM F.K) rfl rfl hl.1 rfl (lv_room (Nat.le_of_ble_eq_true rfl)) dL_law_760 ⟨le_rc (by omega), le_rs (by omega)⟩) F.K hS (fun r8 M1 H locs hko hv hS => ?_)
    have hLM : LM M M1 := by rw [hv]; exact LM_th hI _
    have hT : Tie S M1 := by rw [hv]; exact T.th _
    refine lv_istore (lv' := [(6, .int r8), (5, .int (nI 1)), (0, .ref b), (1, .ref (ad 57)), (2, .ref (am 0)), (3, .ref o), (4, .int (nI iL))]) hx hb dL_law_763 hl (by decide) rfl (fun ls hl => ?_)
    refine lv_goto (tgt := 2052) hx hb dL_law_765 (by decide) ?_
    exact W.widen (k := 100 + 224 * (n + 1)) (n := 1200 + 10680 * (n + 1)) (by omega) (by omega) (kk9 S M1 _ _ _ (hI9.next hLQ hLM hT) hS (lv_sub hl [2, 3, 4, 5, 6] rfl))
  · skip
    have hw := And.intro hw1 hw2
    refine lv_istore (lv' := [(5, .int (nI 0)), (0, .ref b), (1, .ref (ad 57)), (2, .ref (am 0)), (3, .ref o), (4, .int (nI iL))]) hx hb dL_law_745 hl (by decide) rfl (fun ls hl => ?_)
    refine lv_aload_n hx hb dL_law_747 rfl (lv_at hl 3 rfl) ?_
    refine lv_aload_n hx hb dL_law_748 rfl (lv_at hl 1 rfl) ?_
    refine lv_iload hx hb dL_law_749 (lv_at hl 5 rfl) ?_
    refine lv_iconst (v := nI 1) hx hb dL_law_751 (by decide) ?_
    refine kn_iadd hx hb dL_law_752 ?_
    refine va_sld hx hb F.sc F.bl (fun z => Nat.not_le.mpr F.bl z) hS.st (vp_in_nI (show iL + 1 < L by omega) (by omega)) dL_law_753 ?_
    rw [← hx1]
    refine lv_aload_n hx hb dL_law_754 rfl (lv_at hl 1 rfl) ?_
    refine lv_iload hx hb dL_law_755 (lv_at hl 5 rfl) ?_
    refine lv_iconst (v := nI 2) hx hb dL_law_757 (by decide) ?_
    refine kn_iadd hx hb dL_law_758 ?_
    refine va_sld hx hb F.sc F.bl (fun z => Nat.not_le.mpr F.bl z) hS.st (vp_in_nI (show iL + 2 < L by omega) (by omega)) dL_law_759 ?_
    rw [← hx2]
    have hI := hI9.m
    have T := hI9.T
    have hc : M.2.2.2.1 + 12 < 1000000 := by have := hI9.mp; omega
    have hn := (hI.1 i hi).1
    refine ll_m (va_runV (As := [.int (nI i), .int (nI j)]) (rest := []) ⟨hx, hb, hml, hown, hts⟩ (m_X6_isSorted l dC dI am M i j hi hj hI) (cwV 2 hts gL_law_X6_isSorted rfl rfl rfl hdX6_isSorted_2 ⟨Nat.le_of_ble_eq_true rfl, Nat.le_of_ble_eq_true rfl⟩) (hS.preM F.K) rfl rfl hl.1 rfl (lv_room (Nat.le_of_ble_eq_true rfl)) dL_law_760 ⟨le_rc (by omega), le_rs (by omega)⟩) F.K hS (fun r8 M1 H locs hko hv hS => ?_)
    have hLM : LM M M1 := by rw [hv.2]; exact LM_th hI 0
    have hT : Tie S1 M1 := B_same T ⟨hw.1, hw.2⟩ hv
    refine lv_istore (lv' := [(6, .int r8), (5, .int (nI 0)), (0, .ref b), (1, .ref (ad 57)), (2, .ref (am 0)), (3, .ref o), (4, .int (nI iL))]) hx hb dL_law_763 hl (by decide) rfl (fun ls hl => ?_)
    refine lv_goto (tgt := 2052) hx hb dL_law_765 (by decide) ?_
    exact W.widen (k := 100 + 224 * (n + 1)) (n := 1200 + 10680 * (n + 1)) (by omega) (by omega) (kk9 S1 M1 _ _ _ (hI9.next hLQ hLM hT) hS (lv_sub hl [2, 3, 4, 5, 6] rfl))
set_option maxHeartbeats 4000000 in
set_option maxRecDepth 100000 in
theorem lc_12 {p : Program} {l : Launch} {e : Env} {s : State} {m : MethodId} {below : List Frame} {meth : Method} {c : Code} {b L : Nat} {xs : Nat → Int32} {dC : Nat → ClassId} {dI : Nat → Nat → Nat} {cB : ClassId} {ad am : Nat → Nat} {o n iL : Nat} {Q : State → Prop} (F : LF p l s m c b L xs dC dI cB ad am o) (hni : iL = 5 * n) (hiL : iL + 5 ≤ L) : LCase p l e s m below meth c b dC dI ad am o n iL Q 768 := by
  intro S M H locs hI9 hS kk9 ls hl
  have hx := F.x
  have hb := F.b
  have hml := F.ml
  have hown := F.own
  have hts := F.ts
  have hL := F.hL
  have hn9 : n ≤ 511 := by omega
  refine lv_aload_n hx hb dL_law_768 rfl (lv_at hl 1 rfl) ?_
  refine lv_aload_n hx hb dL_law_769 rfl (lv_at hl 0 rfl) ?_
  refine lv_iload hx hb dL_law_770 (lv_at hl 4 rfl) ?_
  refine lv_iconst (v := nI 1) hx hb dL_law_772 (by decide) ?_
  refine kn_iadd hx hb dL_law_773 ?_
  refine va_sld hx hb F.sc F.bl (fun z => Nat.not_le.mpr F.bl z) hS.st (vp_in_nI (show iL + 1 < L by omega) (by omega)) dL_law_774 ?_
  obtain ⟨x1, hx1⟩ : ∃ z, z = xs (nI (iL + 1)).toNatClampNeg := ⟨_, rfl⟩
  rw [← hx1]
  refine lv_aload_n hx hb dL_law_775 rfl (lv_at hl 3 rfl) ?_
  refine ll_w (vx_runSW (As := [.ref (ad 57), .int x1, .ref o]) (rest := []) ⟨hx, hb, hml, hown, hts⟩ (m_L_size l F.st dC dI cB ad o S x1 hI9.x hI9.x5 (by have := hI9.xp; omega)) (vx_cwSW 3 hts gL_law_L_size rfl rfl rfl hdL_size_3.2 ⟨Nat.le_of_ble_eq_true rfl, Nat.le_of_ble_eq_true rfl⟩) (hS.preW F.K) rfl rfl hl.1 rfl (lv_room (Nat.le_of_ble_eq_true rfl)) dL_law_776 ⟨le_rc (by omega), le_rs (by omega)⟩) F.K hS (fun r0 S1 n1 H locs hq9 hN hS => ?_)
  have hLQ : LQ S S1 := hq9.1
  have hR : R_size x1 S r0 S1 n1 := hq9.2
  clear hq9
  rcases hR with ⟨hb9, rfl, rfl⟩ | ⟨i, r7, hi, rfl, rfl, rfl, hw1, hw2⟩
  · skip
    refine lv_istore (lv' := [(5, .int (nI 1)), (0, .ref b), (1, .ref (ad 57)), (2, .ref (am 0)), (3, .ref o), (4, .int (nI iL))]) hx hb dL_law_779 hl (by decide) rfl (fun ls hl => ?_)
    refine lv_aload_n hx hb dL_law_781 rfl (lv_at hl 3 rfl) ?_
    refine lv_aload_n hx hb dL_law_782 rfl (lv_at hl 1 rfl) ?_
    refine lv_iload hx hb dL_law_783 (lv_at hl 5 rfl) ?_
    refine lv_iconst (v := nI 1) hx hb dL_law_785 (by decide) ?_
    refine kn_iadd hx hb dL_law_786 ?_
    refine va_sld hx hb F.sc F.bl (fun z => Nat.not_le.mpr F.bl z) hS.st (vp_in_nI (show iL + 1 < L by omega) (by omega)) dL_law_787 ?_
    rw [← hx1]
    have hI := hI9.m
    have T := hI9.T
    have hc : M.2.2.2.1 + 12 < 1000000 := by have := hI9.mp; omega
    refine ll_m (va_runV (As := [.int x1]) (rest := []) ⟨hx, hb, hml, hown, hts⟩ (o_X6_size_1 l dC dI am M x1 hb9 hI) (cwV 1 hts gL_law_X6_size rfl rfl rfl hdX6_size_1 ⟨Nat.le_of_ble_eq_true rfl, Nat.le_of_ble_eq_true rfl⟩) (hS.preM F.K) rfl rfl hl.1 rfl (lv_room (Nat.le_of_ble_eq_true rfl)) dL_law_788 ⟨le_rc (by omega), le_rs (by omega)⟩) F.K hS (fun r8 M1 H locs hko hv hS => ?_)
    have hLM : LM M M1 := by rw [hv]; exact LM_th hI _
    have hT : Tie S M1 := by rw [hv]; exact T.th _
    refine lv_istore (lv' := [(6, .int r8), (5, .int (nI 1)), (0, .ref b), (1, .ref (ad 57)), (2, .ref (am 0)), (3, .ref o), (4, .int (nI iL))]) hx hb dL_law_791 hl (by decide) rfl (fun ls hl => ?_)
    refine lv_goto (tgt := 2052) hx hb dL_law_793 (by decide) ?_
    exact W.widen (k := 100 + 224 * (n + 1)) (n := 1200 + 10680 * (n + 1)) (by omega) (by omega) (kk9 S M1 _ _ _ (hI9.next hLQ hLM hT) hS (lv_sub hl [2, 3, 4, 5, 6] rfl))
  · skip
    have hw := And.intro hw1 hw2
    refine lv_istore (lv' := [(5, .int (nI 0)), (0, .ref b), (1, .ref (ad 57)), (2, .ref (am 0)), (3, .ref o), (4, .int (nI iL))]) hx hb dL_law_779 hl (by decide) rfl (fun ls hl => ?_)
    refine lv_aload_n hx hb dL_law_781 rfl (lv_at hl 3 rfl) ?_
    refine lv_aload_n hx hb dL_law_782 rfl (lv_at hl 1 rfl) ?_
    refine lv_iload hx hb dL_law_783 (lv_at hl 5 rfl) ?_
    refine lv_iconst (v := nI 1) hx hb dL_law_785 (by decide) ?_
    refine kn_iadd hx hb dL_law_786 ?_
    refine va_sld hx hb F.sc F.bl (fun z => Nat.not_le.mpr F.bl z) hS.st (vp_in_nI (show iL + 1 < L by omega) (by omega)) dL_law_787 ?_
    rw [← hx1]
    have hI := hI9.m
    have T := hI9.T
    have hc : M.2.2.2.1 + 12 < 1000000 := by have := hI9.mp; omega
    have hn := (hI.1 i hi).1
    refine ll_m (va_runV (As := [.int (nI i)]) (rest := []) ⟨hx, hb, hml, hown, hts⟩ (m_X6_size l dC dI am M i hi hI) (cwV 1 hts gL_law_X6_size rfl rfl rfl hdX6_size_1 ⟨Nat.le_of_ble_eq_true rfl, Nat.le_of_ble_eq_true rfl⟩) (hS.preM F.K) rfl rfl hl.1 rfl (lv_room (Nat.le_of_ble_eq_true rfl)) dL_law_788 ⟨le_rc (by omega), le_rs (by omega)⟩) F.K hS (fun r8 M1 H locs hko hv hS => ?_)
    have hLM : LM M M1 := by rw [hv.2]; exact LM_th hI 0
    obtain ⟨hT, he9, ht9⟩ := A_size T hi hw hv
    refine lv_istore (lv' := [(6, .int r8), (5, .int (nI 0)), (0, .ref b), (1, .ref (ad 57)), (2, .ref (am 0)), (3, .ref o), (4, .int (nI iL))]) hx hb dL_law_791 hl (by decide) rfl (fun ls hl => ?_)
    refine lv_goto (tgt := 2052) hx hb dL_law_793 (by decide) ?_
    exact W.widen (k := 100 + 224 * (n + 1)) (n := 1200 + 10680 * (n + 1)) (by omega) (by omega) (kk9 S1 M1 _ _ _ (hI9.next hLQ hLM hT) hS (lv_sub hl [2, 3, 4, 5, 6] rfl))
set_option maxHeartbeats 4000000 in
set_option maxRecDepth 100000 in
theorem lc_13 {p : Program} {l : Launch} {e : Env} {s : State} {m : MethodId} {below : List Frame} {meth : Method} {c : Code} {b L : Nat} {xs : Nat → Int32} {dC : Nat → ClassId} {dI : Nat → Nat → Nat} {cB : ClassId} {ad am : Nat → Nat} {o n iL : Nat} {Q : State → Prop} (F : LF p l s m c b L xs dC dI cB ad am o) (hni : iL = 5 * n) (hiL : iL + 5 ≤ L) : LCase p l e s m below meth c b dC dI ad am o n iL Q 796 := by
  intro S M H locs hI9 hS kk9 ls hl
  have hx := F.x
  have hb := F.b
  have hml := F.ml
  have hown := F.own
  have hts := F.ts
  have hL := F.hL
  have hn9 : n ≤ 511 := by omega
  refine lv_aload_n hx hb dL_law_796 rfl (lv_at hl 1 rfl) ?_
  refine lv_aload_n hx hb dL_law_797 rfl (lv_at hl 0 rfl) ?_
  refine lv_iload hx hb dL_law_798 (lv_at hl 4 rfl) ?_
  refine lv_iconst (v := nI 1) hx hb dL_law_800 (by decide) ?_
  refine kn_iadd hx hb dL_law_801 ?_
  refine va_sld hx hb F.sc F.bl (fun z => Nat.not_le.mpr F.bl z) hS.st (vp_in_nI (show iL + 1 < L by omega) (by omega)) dL_law_802 ?_
  obtain ⟨x1, hx1⟩ : ∃ z, z = xs (nI (iL + 1)).toNatClampNeg := ⟨_, rfl⟩
  rw [← hx1]
  refine lv_aload_n hx hb dL_law_803 rfl (lv_at hl 0 rfl) ?_
  refine lv_iload hx hb dL_law_804 (lv_at hl 4 rfl) ?_
  refine lv_iconst (v := nI 2) hx hb dL_law_806 (by decide) ?_
  refine kn_iadd hx hb dL_law_807 ?_
  refine va_sld hx hb F.sc F.bl (fun z => Nat.not_le.mpr F.bl z) hS.st (vp_in_nI (show iL + 2 < L by omega) (by omega)) dL_law_808 ?_
  obtain ⟨x2, hx2⟩ : ∃ z, z = xs (nI (iL + 2)).toNatClampNeg := ⟨_, rfl⟩
  rw [← hx2]
  refine lv_aload_n hx hb dL_law_809 rfl (lv_at hl 3 rfl) ?_
  refine ll_w (vx_runSW (As := [.ref (ad 57), .int x1, .int x2, .ref o]) (rest := []) ⟨hx, hb, hml, hown, hts⟩ (m_L_valueAt l F.st dC dI cB ad o S x1 x2 hI9.x hI9.x5 (by have := hI9.xp; omega)) (vx_cwSW 4 hts gL_law_L_valueAt rfl rfl rfl hdL_valueAt_4.2 ⟨Nat.le_of_ble_eq_true rfl, Nat.le_of_ble_eq_true rfl⟩) (hS.preW F.K) rfl rfl hl.1 rfl (lv_room (Nat.le_of_ble_eq_true rfl)) dL_law_810 ⟨le_rc (by omega), le_rs (by omega)⟩) F.K hS (fun r0 S1 n1 H locs hq9 hN hS => ?_)
  have hLQ : LQ S S1 := hq9.1
  have hR : R_valueAt x1 x2 S r0 S1 n1 := hq9.2
  clear hq9
  rcases hR with ⟨hb9, rfl, rfl⟩ | ⟨i, hi, rfl, hb9, rfl, rfl⟩ | ⟨i, q, r7, hi, hq, rfl, rfl, rfl, rfl, hw1, hw2⟩
  · skip
    refine lv_istore (lv' := [(5, .int (nI 1)), (0, .ref b), (1, .ref (ad 57)), (2, .ref (am 0)), (3, .ref o), (4, .int (nI iL))]) hx hb dL_law_813 hl (by decide) rfl (fun ls hl => ?_)
    refine lv_aload_n hx hb dL_law_815 rfl (lv_at hl 3 rfl) ?_
    refine lv_aload_n hx hb dL_law_816 rfl (lv_at hl 1 rfl) ?_
    refine lv_iload hx hb dL_law_817 (lv_at hl 5 rfl) ?_
    refine lv_iconst (v := nI 1) hx hb dL_law_819 (by decide) ?_
    refine kn_iadd hx hb dL_law_820 ?_
    refine va_sld hx hb F.sc F.bl (fun z => Nat.not_le.mpr F.bl z) hS.st (vp_in_nI (show iL + 1 < L by omega) (by omega)) dL_law_821 ?_
    rw [← hx1]
    refine lv_aload_n hx hb dL_law_822 rfl (lv_at hl 1 rfl) ?_
    refine lv_iload hx hb dL_law_823 (lv_at hl 5 rfl) ?_
    refine lv_iconst (v := nI 2) hx hb dL_law_825 (by decide) ?_
    refine kn_iadd hx hb dL_law_826 ?_
    refine va_sld hx hb F.sc F.bl (fun z => Nat.not_le.mpr F.bl z) hS.st (vp_in_nI (show iL + 2 < L by omega) (by omega)) dL_law_827 ?_
    rw [← hx2]
    have hI := hI9.m
    have T := hI9.T
    have hc : M.2.2.2.1 + 12 < 1000000 := by have := hI9.mp; omega
    refine ll_m (va_runV (As := [.int x1, .int x2]) (rest := []) ⟨hx, hb, hml, hown, hts⟩ (o_X6_valueAt_1 l dC dI am M x1 x2 hb9 hI) (cwV 2 hts gL_law_X6_valueAt rfl rfl rfl hdX6_valueAt_2 ⟨Nat.le_of_ble_eq_true rfl, Nat.le_of_ble_eq_true rfl⟩) (hS.preM F.K) rfl rfl hl.1 rfl (lv_room (Nat.le_of_ble_eq_true rfl)) dL_law_828 ⟨le_rc (by omega), le_rs (by omega)⟩) F.K hS (fun r8 M1 H locs hko hv hS => ?_)
    have hLM : LM M M1 := by rw [hv]; exact LM_th hI _
    have hT : Tie S M1 := by rw [hv]; exact T.th _
    refine lv_istore (lv' := [(6, .int r8), (5, .int (nI 1)), (0, .ref b), (1, .ref (ad 57)), (2, .ref (am 0)), (3, .ref o), (4, .int (nI iL))]) hx hb dL_law_831 hl (by decide) rfl (fun ls hl => ?_)
    refine lv_goto (tgt := 2052) hx hb dL_law_833 (by decide) ?_
    exact W.widen (k := 100 + 224 * (n + 1)) (n := 1200 + 10680 * (n + 1)) (by omega) (by omega) (kk9 S M1 _ _ _ (hI9.next hLQ hLM hT) hS (lv_sub hl [2, 3, 4, 5, 6] rfl))
  · skip
    refine lv_istore (lv' := [(5, .int (nI 1)), (0, .ref b), (1, .ref (ad 57)), (2, .ref (am 0)), (3, .ref o), (4, .int (nI iL))]) hx hb dL_law_813 hl (by decide) rfl (fun ls hl => ?_)
    refine lv_aload_n hx hb dL_law_815 rfl (lv_at hl 3 rfl) ?_
    refine lv_aload_n hx hb dL_law_816 rfl (lv_at hl 1 rfl) ?_
    refine lv_iload hx hb dL_law_817 (lv_at hl 5 rfl) ?_
    refine lv_iconst (v := nI 1) hx hb dL_law_819 (by decide) ?_
    refine kn_iadd hx hb dL_law_820 ?_
    refine va_sld hx hb F.sc F.bl (fun z => Nat.not_le.mpr F.bl z) hS.st (vp_in_nI (show iL + 1 < L by omega) (by omega)) dL_law_821 ?_
    rw [← hx1]
    refine lv_aload_n hx hb dL_law_822 rfl (lv_at hl 1 rfl) ?_
    refine lv_iload hx hb dL_law_823 (lv_at hl 5 rfl) ?_
    refine lv_iconst (v := nI 2) hx hb dL_law_825 (by decide) ?_
    refine kn_iadd hx hb dL_law_826 ?_
    refine va_sld hx hb F.sc F.bl (fun z => Nat.not_le.mpr F.bl z) hS.st (vp_in_nI (show iL + 2 < L by omega) (by omega)) dL_law_827 ?_
    rw [← hx2]
    have hI := hI9.m
    have T := hI9.T
    have hc : M.2.2.2.1 + 12 < 1000000 := by have := hI9.mp; omega
    have hn := (hI.1 i hi).1
    rw [T.sz hi] at hb9
    refine ll_m (va_runV (As := [.int (nI i), .int x2]) (rest := []) ⟨hx, hb, hml, hown, hts⟩ (o_X6_valueAt_2 l dC dI am M i x2 hi hb9 hI) (cwV 2 hts gL_law_X6_valueAt rfl rfl rfl hdX6_valueAt_2 ⟨Nat.le_of_ble_eq_true rfl, Nat.le_of_ble_eq_true rfl⟩) (hS.preM F.K) rfl rfl hl.1 rfl (lv_room (Nat.le_of_ble_eq_true rfl)) dL_law_828 ⟨le_rc (by omega), le_rs (by omega)⟩) F.K hS (fun r8 M1 H locs hko hv hS => ?_)
    have hLM : LM M M1 := by rw [hv]; exact LM_th hI _
    have hT : Tie S M1 := by rw [hv]; exact T.th _
    refine lv_istore (lv' := [(6, .int r8), (5, .int (nI 1)), (0, .ref b), (1, .ref (ad 57)), (2, .ref (am 0)), (3, .ref o), (4, .int (nI iL))]) hx hb dL_law_831 hl (by decide) rfl (fun ls hl => ?_)
    refine lv_goto (tgt := 2052) hx hb dL_law_833 (by decide) ?_
    exact W.widen (k := 100 + 224 * (n + 1)) (n := 1200 + 10680 * (n + 1)) (by omega) (by omega) (kk9 S M1 _ _ _ (hI9.next hLQ hLM hT) hS (lv_sub hl [2, 3, 4, 5, 6] rfl))
  · skip
    have hw := And.intro hw1 hw2
    refine lv_istore (lv' := [(5, .int (nI 0)), (0, .ref b), (1, .ref (ad 57)), (2, .ref (am 0)), (3, .ref o), (4, .int (nI iL))]) hx hb dL_law_813 hl (by decide) rfl (fun ls hl => ?_)
    refine lv_aload_n hx hb dL_law_815 rfl (lv_at hl 3 rfl) ?_
    refine lv_aload_n hx hb dL_law_816 rfl (lv_at hl 1 rfl) ?_
    refine lv_iload hx hb dL_law_817 (lv_at hl 5 rfl) ?_
    refine lv_iconst (v := nI 1) hx hb dL_law_819 (by decide) ?_
    refine kn_iadd hx hb dL_law_820 ?_
    refine va_sld hx hb F.sc F.bl (fun z => Nat.not_le.mpr F.bl z) hS.st (vp_in_nI (show iL + 1 < L by omega) (by omega)) dL_law_821 ?_
    rw [← hx1]
    refine lv_aload_n hx hb dL_law_822 rfl (lv_at hl 1 rfl) ?_
    refine lv_iload hx hb dL_law_823 (lv_at hl 5 rfl) ?_
    refine lv_iconst (v := nI 2) hx hb dL_law_825 (by decide) ?_
    refine kn_iadd hx hb dL_law_826 ?_
    refine va_sld hx hb F.sc F.bl (fun z => Nat.not_le.mpr F.bl z) hS.st (vp_in_nI (show iL + 2 < L by omega) (by omega)) dL_law_827 ?_
    rw [← hx2]
    have hI := hI9.m
    have T := hI9.T
    have hc : M.2.2.2.1 + 12 < 1000000 := by have := hI9.mp; omega
    have hqM : q < (M.1 i).2.2 := by rw [← T.sz hi]; exact hq
    have hn := (hI.1 i hi).1
    refine ll_m (va_runV (As := [.int (nI i), .int (nI q)]) (rest := []) ⟨hx, hb, hml, hown, hts⟩ (m_X6_valueAt l dC dI am M i q hi hqM hI) (cwV 2 hts gL_law_X6_valueAt rfl rfl rfl hdX6_valueAt_2 ⟨Nat.le_of_ble_eq_true rfl, Nat.le_of_ble_eq_true rfl⟩) (hS.preM F.K) rfl rfl hl.1 rfl (lv_room (Nat.le_of_ble_eq_true rfl)) dL_law_828 ⟨le_rc (by omega), le_rs (by omega)⟩) F.K hS (fun r8 M1 H locs hko hv hS => ?_)
    have hLM : LM M M1 := by rw [hv.2]; exact LM_th hI 0
    have hT : Tie S1 M1 := B_same T ⟨hw.1, hw.2⟩ hv
    refine lv_istore (lv' := [(6, .int r8), (5, .int (nI 0)), (0, .ref b), (1, .ref (ad 57)), (2, .ref (am 0)), (3, .ref o), (4, .int (nI iL))]) hx hb dL_law_831 hl (by decide) rfl (fun ls hl => ?_)
    refine lv_goto (tgt := 2052) hx hb dL_law_833 (by decide) ?_
    exact W.widen (k := 100 + 224 * (n + 1)) (n := 1200 + 10680 * (n + 1)) (by omega) (by omega) (kk9 S1 M1 _ _ _ (hI9.next hLQ hLM hT) hS (lv_sub hl [2, 3, 4, 5, 6] rfl))
set_option maxHeartbeats 4000000 in
set_option maxRecDepth 100000 in
theorem lc_14 {p : Program} {l : Launch} {e : Env} {s : State} {m : MethodId} {below : List Frame} {meth : Method} {c : Code} {b L : Nat} {xs : Nat → Int32} {dC : Nat → ClassId} {dI : Nat → Nat → Nat} {cB : ClassId} {ad am : Nat → Nat} {o n iL : Nat} {Q : State → Prop} (F : LF p l s m c b L xs dC dI cB ad am o) (hni : iL = 5 * n) (hiL : iL + 5 ≤ L) : LCase p l e s m below meth c b dC dI ad am o n iL Q 836 := by
  intro S M H locs hI9 hS kk9 ls hl
  have hx := F.x
  have hb := F.b
  have hml := F.ml
  have hown := F.own
  have hts := F.ts
  have hL := F.hL
  have hn9 : n ≤ 511 := by omega
  refine lv_aload_n hx hb dL_law_836 rfl (lv_at hl 1 rfl) ?_
  refine lv_aload_n hx hb dL_law_837 rfl (lv_at hl 0 rfl) ?_
  refine lv_iload hx hb dL_law_838 (lv_at hl 4 rfl) ?_
  refine lv_iconst (v := nI 1) hx hb dL_law_840 (by decide) ?_
  refine kn_iadd hx hb dL_law_841 ?_
  refine va_sld hx hb F.sc F.bl (fun z => Nat.not_le.mpr F.bl z) hS.st (vp_in_nI (show iL + 1 < L by omega) (by omega)) dL_law_842 ?_
  obtain ⟨x1, hx1⟩ : ∃ z, z = xs (nI (iL + 1)).toNatClampNeg := ⟨_, rfl⟩
  rw [← hx1]
  refine lv_aload_n hx hb dL_law_843 rfl (lv_at hl 0 rfl) ?_
  refine lv_iload hx hb dL_law_844 (lv_at hl 4 rfl) ?_
  refine lv_iconst (v := nI 2) hx hb dL_law_846 (by decide) ?_
  refine kn_iadd hx hb dL_law_847 ?_
  refine va_sld hx hb F.sc F.bl (fun z => Nat.not_le.mpr F.bl z) hS.st (vp_in_nI (show iL + 2 < L by omega) (by omega)) dL_law_848 ?_
  obtain ⟨x2, hx2⟩ : ∃ z, z = xs (nI (iL + 2)).toNatClampNeg := ⟨_, rfl⟩
  rw [← hx2]
  refine lv_aload_n hx hb dL_law_849 rfl (lv_at hl 3 rfl) ?_
  refine ll_w (vx_runSW (As := [.ref (ad 57), .int x1, .int x2, .ref o]) (rest := []) ⟨hx, hb, hml, hown, hts⟩ (m_L_markAt l F.st dC dI cB ad o S x1 x2 hI9.x hI9.x5 (by have := hI9.xp; omega)) (vx_cwSW 4 hts gL_law_L_markAt rfl rfl rfl hdL_markAt_4.2 ⟨Nat.le_of_ble_eq_true rfl, Nat.le_of_ble_eq_true rfl⟩) (hS.preW F.K) rfl rfl hl.1 rfl (lv_room (Nat.le_of_ble_eq_true rfl)) dL_law_850 ⟨le_rc (by omega), le_rs (by omega)⟩) F.K hS (fun r0 S1 n1 H locs hq9 hN hS => ?_)
  have hLQ : LQ S S1 := hq9.1
  have hR : R_markAt x1 x2 S r0 S1 n1 := hq9.2
  clear hq9
  rcases hR with ⟨hb9, rfl, rfl⟩ | ⟨i, hi, rfl, hb9, rfl, rfl⟩ | ⟨i, q, r7, hi, hq, rfl, rfl, rfl, rfl, hw1, hw2⟩
  · skip
    refine lv_istore (lv' := [(5, .int (nI 1)), (0, .ref b), (1, .ref (ad 57)), (2, .ref (am 0)), (3, .ref o), (4, .int (nI iL))]) hx hb dL_law_853 hl (by decide) rfl (fun ls hl => ?_)
    refine lv_aload_n hx hb dL_law_855 rfl (lv_at hl 3 rfl) ?_
    refine lv_aload_n hx hb dL_law_856 rfl (lv_at hl 1 rfl) ?_
    refine lv_iload hx hb dL_law_857 (lv_at hl 5 rfl) ?_
    refine lv_iconst (v := nI 1) hx hb dL_law_859 (by decide) ?_
    refine kn_iadd hx hb dL_law_860 ?_
    refine va_sld hx hb F.sc F.bl (fun z => Nat.not_le.mpr F.bl z) hS.st (vp_in_nI (show iL + 1 < L by omega) (by omega)) dL_law_861 ?_
    rw [← hx1]
    refine lv_aload_n hx hb dL_law_862 rfl (lv_at hl 1 rfl) ?_
    refine lv_iload hx hb dL_law_863 (lv_at hl 5 rfl) ?_
    refine lv_iconst (v := nI 2) hx hb dL_law_865 (by decide) ?_
    refine kn_iadd hx hb dL_law_866 ?_
    refine va_sld hx hb F.sc F.bl (fun z => Nat.not_le.mpr F.bl z) hS.st (vp_in_nI (show iL + 2 < L by omega) (by omega)) dL_law_867 ?_
    rw [← hx2]
    have hI := hI9.m
    have T := hI9.T
    have hc : M.2.2.2.1 + 12 < 1000000 := by have := hI9.mp; omega
    refine ll_m (va_runV (As := [.int x1, .int x2]) (rest := []) ⟨hx, hb, hml, hown, hts⟩ (o_X6_markAt_1 l dC dI am M x1 x2 hb9 hI) (cwV 2 hts gL_law_X6_markAt rfl rfl rfl hdX6_markAt_2 ⟨Nat.le_of_ble_eq_true rfl, Nat.le_of_ble_eq_true rfl⟩) (hS.preM F.K) rfl rfl hl.1 rfl (lv_room (Nat.le_of_ble_eq_true rfl)) dL_law_868 ⟨le_rc (by omega), le_rs (by omega)⟩) F.K hS (fun r8 M1 H locs hko hv hS => ?_)
    have hLM : LM M M1 := by rw [hv]; exact LM_th hI _
    have hT : Tie S M1 := by rw [hv]; exact T.th _
    refine lv_istore (lv' := [(6, .int r8), (5, .int (nI 1)), (0, .ref b), (1, .ref (ad 57)), (2, .ref (am 0)), (3, .ref o), (4, .int (nI iL))]) hx hb dL_law_871 hl (by decide) rfl (fun ls hl => ?_)
    refine lv_goto (tgt := 2052) hx hb dL_law_873 (by decide) ?_
    exact W.widen (k := 100 + 224 * (n + 1)) (n := 1200 + 10680 * (n + 1)) (by omega) (by omega) (kk9 S M1 _ _ _ (hI9.next hLQ hLM hT) hS (lv_sub hl [2, 3, 4, 5, 6] rfl))
  · skip
    refine lv_istore (lv' := [(5, .int (nI 1)), (0, .ref b), (1, .ref (ad 57)), (2, .ref (am 0)), (3, .ref o), (4, .int (nI iL))]) hx hb dL_law_853 hl (by decide) rfl (fun ls hl => ?_)
    refine lv_aload_n hx hb dL_law_855 rfl (lv_at hl 3 rfl) ?_
    refine lv_aload_n hx hb dL_law_856 rfl (lv_at hl 1 rfl) ?_
    refine lv_iload hx hb dL_law_857 (lv_at hl 5 rfl) ?_
    refine lv_iconst (v := nI 1) hx hb dL_law_859 (by decide) ?_
    refine kn_iadd hx hb dL_law_860 ?_
    refine va_sld hx hb F.sc F.bl (fun z => Nat.not_le.mpr F.bl z) hS.st (vp_in_nI (show iL + 1 < L by omega) (by omega)) dL_law_861 ?_
    rw [← hx1]
    refine lv_aload_n hx hb dL_law_862 rfl (lv_at hl 1 rfl) ?_
    refine lv_iload hx hb dL_law_863 (lv_at hl 5 rfl) ?_
    refine lv_iconst (v := nI 2) hx hb dL_law_865 (by decide) ?_
    refine kn_iadd hx hb dL_law_866 ?_
    refine va_sld hx hb F.sc F.bl (fun z => Nat.not_le.mpr F.bl z) hS.st (vp_in_nI (show iL + 2 < L by omega) (by omega)) dL_law_867 ?_
    rw [← hx2]
    have hI := hI9.m
    have T := hI9.T
    have hc : M.2.2.2.1 + 12 < 1000000 := by have := hI9.mp; omega
    have hn := (hI.1 i hi).1
    rw [T.sz hi] at hb9
    refine ll_m (va_runV (As := [.int (nI i), .int x2]) (rest := []) ⟨hx, hb, hml, hown, hts⟩ (o_X6_markAt_2 l dC dI am M i x2 hi hb9 hI) (cwV 2 hts gL_law_X6_markAt rfl rfl rfl hdX6_markAt_2 ⟨Nat.le_of_ble_eq_true rfl, Nat.le_of_ble_eq_true rfl⟩) (hS.preM F.K) rfl rfl hl.1 rfl (lv_room (Nat.le_of_ble_eq_true rfl)) dL_law_868 ⟨le_rc (by omega), le_rs (by omega)⟩) F.K hS (fun r8 M1 H locs hko hv hS => ?_)
    have hLM : LM M M1 := by rw [hv]; exact LM_th hI _
    have hT : Tie S M1 := by rw [hv]; exact T.th _
    refine lv_istore (lv' := [(6, .int r8), (5, .int (nI 1)), (0, .ref b), (1, .ref (ad 57)), (2, .ref (am 0)), (3, .ref o), (4, .int (nI iL))]) hx hb dL_law_871 hl (by decide) rfl (fun ls hl => ?_)
    refine lv_goto (tgt := 2052) hx hb dL_law_873 (by decide) ?_
    exact W.widen (k := 100 + 224 * (n + 1)) (n := 1200 + 10680 * (n + 1)) (by omega) (by omega) (kk9 S M1 _ _ _ (hI9.next hLQ hLM hT) hS (lv_sub hl [2, 3, 4, 5, 6] rfl))
  · skip
    have hw := And.intro hw1 hw2
    refine lv_istore (lv' := [(5, .int (nI 0)), (0, .ref b), (1, .ref (ad 57)), (2, .ref (am 0)), (3, .ref o), (4, .int (nI iL))]) hx hb dL_law_853 hl (by decide) rfl (fun ls hl => ?_)
    refine lv_aload_n hx hb dL_law_855 rfl (lv_at hl 3 rfl) ?_
    refine lv_aload_n hx hb dL_law_856 rfl (lv_at hl 1 rfl) ?_
    refine lv_iload hx hb dL_law_857 (lv_at hl 5 rfl) ?_
    refine lv_iconst (v := nI 1) hx hb dL_law_859 (by decide) ?_
    refine kn_iadd hx hb dL_law_860 ?_
    refine va_sld hx hb F.sc F.bl (fun z => Nat.not_le.mpr F.bl z) hS.st (vp_in_nI (show iL + 1 < L by omega) (by omega)) dL_law_861 ?_
    rw [← hx1]
    refine lv_aload_n hx hb dL_law_862 rfl (lv_at hl 1 rfl) ?_
    refine lv_iload hx hb dL_law_863 (lv_at hl 5 rfl) ?_
    refine lv_iconst (v := nI 2) hx hb dL_law_865 (by decide) ?_
    refine kn_iadd hx hb dL_law_866 ?_
    refine va_sld hx hb F.sc F.bl (fun z => Nat.not_le.mpr F.bl z) hS.st (vp_in_nI (show iL + 2 < L by omega) (by omega)) dL_law_867 ?_
    rw [← hx2]
    have hI := hI9.m
    have T := hI9.T
    have hc : M.2.2.2.1 + 12 < 1000000 := by have := hI9.mp; omega
    have hqM : q < (M.1 i).2.2 := by rw [← T.sz hi]; exact hq
    have hn := (hI.1 i hi).1
    refine ll_m (va_runV (As := [.int (nI i), .int (nI q)]) (rest := []) ⟨hx, hb, hml, hown, hts⟩ (m_X6_markAt l dC dI am M i q hi hqM hI) (cwV 2 hts gL_law_X6_markAt rfl rfl rfl hdX6_markAt_2 ⟨Nat.le_of_ble_eq_true rfl, Nat.le_of_ble_eq_true rfl⟩) (hS.preM F.K) rfl rfl hl.1 rfl (lv_room (Nat.le_of_ble_eq_true rfl)) dL_law_868 ⟨le_rc (by omega), le_rs (by omega)⟩) F.K hS (fun r8 M1 H locs hko hv hS => ?_)
    have hLM : LM M M1 := by rw [hv.2]; exact LM_th hI 0
    have hT : Tie S1 M1 := B_same T ⟨hw.1, hw.2⟩ hv
    refine lv_istore (lv' := [(6, .int r8), (5, .int (nI 0)), (0, .ref b), (1, .ref (ad 57)), (2, .ref (am 0)), (3, .ref o), (4, .int (nI iL))]) hx hb dL_law_871 hl (by decide) rfl (fun ls hl => ?_)
    refine lv_goto (tgt := 2052) hx hb dL_law_873 (by decide) ?_
    exact W.widen (k := 100 + 224 * (n + 1)) (n := 1200 + 10680 * (n + 1)) (by omega) (by omega) (kk9 S1 M1 _ _ _ (hI9.next hLQ hLM hT) hS (lv_sub hl [2, 3, 4, 5, 6] rfl))
set_option maxHeartbeats 4000000 in
set_option maxRecDepth 100000 in
theorem lc_15 {p : Program} {l : Launch} {e : Env} {s : State} {m : MethodId} {below : List Frame} {meth : Method} {c : Code} {b L : Nat} {xs : Nat → Int32} {dC : Nat → ClassId} {dI : Nat → Nat → Nat} {cB : ClassId} {ad am : Nat → Nat} {o n iL : Nat} {Q : State → Prop} (F : LF p l s m c b L xs dC dI cB ad am o) (hni : iL = 5 * n) (hiL : iL + 5 ≤ L) : LCase p l e s m below meth c b dC dI ad am o n iL Q 876 := by
  intro S M H locs hI9 hS kk9 ls hl
  have hx := F.x
  have hb := F.b
  have hml := F.ml
  have hown := F.own
  have hts := F.ts
  have hL := F.hL
  have hn9 : n ≤ 511 := by omega
  refine lv_aload_n hx hb dL_law_876 rfl (lv_at hl 1 rfl) ?_
  refine lv_aload_n hx hb dL_law_877 rfl (lv_at hl 0 rfl) ?_
  refine lv_iload hx hb dL_law_878 (lv_at hl 4 rfl) ?_
  refine lv_iconst (v := nI 1) hx hb dL_law_880 (by decide) ?_
  refine kn_iadd hx hb dL_law_881 ?_
  refine va_sld hx hb F.sc F.bl (fun z => Nat.not_le.mpr F.bl z) hS.st (vp_in_nI (show iL + 1 < L by omega) (by omega)) dL_law_882 ?_
  obtain ⟨x1, hx1⟩ : ∃ z, z = xs (nI (iL + 1)).toNatClampNeg := ⟨_, rfl⟩
  rw [← hx1]
  refine lv_aload_n hx hb dL_law_883 rfl (lv_at hl 3 rfl) ?_
  refine ll_w (vx_runSW (As := [.ref (ad 57), .int x1, .ref o]) (rest := []) ⟨hx, hb, hml, hown, hts⟩ (m_L_text l F.st dC dI cB ad o S x1 hI9.x hI9.x5 (by have := hI9.xp; omega)) (vx_cwSW 3 hts gL_law_L_text rfl rfl rfl hdL_text_3.2 ⟨Nat.le_of_ble_eq_true rfl, Nat.le_of_ble_eq_true rfl⟩) (hS.preW F.K) rfl rfl hl.1 rfl (lv_room (Nat.le_of_ble_eq_true rfl)) dL_law_884 ⟨le_rc (by omega), le_rs (by omega)⟩) F.K hS (fun r0 S1 n1 H locs hq9 hN hS => ?_)
  have hLQ : LQ S S1 := hq9.1
  have hR : R_text x1 S r0 S1 n1 := hq9.2
  clear hq9
  rcases hR with ⟨hb9, rfl, rfl⟩ | ⟨i, hi, rfl, rfl, hw⟩
  · skip
    refine lv_istore (lv' := [(5, .int (nI 1)), (0, .ref b), (1, .ref (ad 57)), (2, .ref (am 0)), (3, .ref o), (4, .int (nI iL))]) hx hb dL_law_887 hl (by decide) rfl (fun ls hl => ?_)
    refine lv_aload_n hx hb dL_law_889 rfl (lv_at hl 3 rfl) ?_
    refine lv_aload_n hx hb dL_law_890 rfl (lv_at hl 1 rfl) ?_
    refine lv_iload hx hb dL_law_891 (lv_at hl 5 rfl) ?_
    refine lv_iconst (v := nI 1) hx hb dL_law_893 (by decide) ?_
    refine kn_iadd hx hb dL_law_894 ?_
    refine va_sld hx hb F.sc F.bl (fun z => Nat.not_le.mpr F.bl z) hS.st (vp_in_nI (show iL + 1 < L by omega) (by omega)) dL_law_895 ?_
    rw [← hx1]
    have hI := hI9.m
    have T := hI9.T
    have hc : M.2.2.2.1 + 12 < 1000000 := by have := hI9.mp; omega
    refine ll_mr (va_runV (As := [.int x1]) (rest := []) ⟨hx, hb, hml, hown, hts⟩ (o_X6_text_1 l dC dI cB am M x1 hb9) (cwV 1 hts gL_law_X6_text rfl rfl rfl hdX6_text_1 ⟨Nat.le_of_ble_eq_true rfl, Nat.le_of_ble_eq_true rfl⟩) (hS.preMT F.K) rfl rfl hl.1 rfl (lv_room (Nat.le_of_ble_eq_true rfl)) dL_law_896 ⟨le_rc (by omega), le_rs (by omega)⟩) F.K hS (fun M1 q9 H locs hko hv hS => ?_)
    have hLM : LM M M1 := by rw [hv]; exact LM_th hI _
    have hT : Tie S M1 := by rw [hv]; exact T.th _
    refine lv_astore (lv' := [(6, .ref q9), (5, .int (nI 1)), (0, .ref b), (1, .ref (ad 57)), (2, .ref (am 0)), (3, .ref o), (4, .int (nI iL))]) hx hb dL_law_899 hl (by decide) rfl (fun ls hl => ?_)
    refine lv_goto (tgt := 2052) hx hb dL_law_901 (by decide) ?_
    exact W.widen (k := 100 + 224 * (n + 1)) (n := 1200 + 10680 * (n + 1)) (by omega) (by omega) (kk9 S M1 _ _ _ (hI9.next hLQ hLM hT) hS (lv_sub hl [2, 3, 4, 5, 6] rfl))
  · skip
    refine lv_istore (lv' := [(5, .int (nI 0)), (0, .ref b), (1, .ref (ad 57)), (2, .ref (am 0)), (3, .ref o), (4, .int (nI iL))]) hx hb dL_law_887 hl (by decide) rfl (fun ls hl => ?_)
    refine lv_aload_n hx hb dL_law_889 rfl (lv_at hl 3 rfl) ?_
    refine lv_aload_n hx hb dL_law_890 rfl (lv_at hl 1 rfl) ?_
    refine lv_iload hx hb dL_law_891 (lv_at hl 5 rfl) ?_
    refine lv_iconst (v := nI 1) hx hb dL_law_893 (by decide) ?_
    refine kn_iadd hx hb dL_law_894 ?_
    refine va_sld hx hb F.sc F.bl (fun z => Nat.not_le.mpr F.bl z) hS.st (vp_in_nI (show iL + 1 < L by omega) (by omega)) dL_law_895 ?_
    rw [← hx1]
    have hI := hI9.m
    have T := hI9.T
    have hc : M.2.2.2.1 + 12 < 1000000 := by have := hI9.mp; omega
    have hn := (hI.1 i hi).1
    refine ll_mr (va_runV (As := [.int (nI i)]) (rest := []) ⟨hx, hb, hml, hown, hts⟩ (m_X6_text l dC dI cB am M i hi hI) (cwV 1 hts gL_law_X6_text rfl rfl rfl hdX6_text_1 ⟨Nat.le_of_ble_eq_true rfl, Nat.le_of_ble_eq_true rfl⟩) (hS.preMT F.K) rfl rfl hl.1 rfl (lv_room (Nat.le_of_ble_eq_true rfl)) dL_law_896 ⟨le_rc (by omega), le_rs (by omega)⟩) F.K hS (fun M1 q9 H locs hko hv hS => ?_)
    have hLM : LM M M1 := by rw [hv]; exact LM_th hI 0
    have hT : Tie S1 M1 := by rw [hw, hv]; exact T.th 0
    refine lv_astore (lv' := [(6, .ref q9), (5, .int (nI 0)), (0, .ref b), (1, .ref (ad 57)), (2, .ref (am 0)), (3, .ref o), (4, .int (nI iL))]) hx hb dL_law_899 hl (by decide) rfl (fun ls hl => ?_)
    refine lv_goto (tgt := 2052) hx hb dL_law_901 (by decide) ?_
    exact W.widen (k := 100 + 224 * (n + 1)) (n := 1200 + 10680 * (n + 1)) (by omega) (by omega) (kk9 S1 M1 _ _ _ (hI9.next hLQ hLM hT) hS (lv_sub hl [2, 3, 4, 5, 6] rfl))
set_option maxHeartbeats 4000000 in
set_option maxRecDepth 100000 in
theorem lc_16 {p : Program} {l : Launch} {e : Env} {s : State} {m : MethodId} {below : List Frame} {meth : Method} {c : Code} {b L : Nat} {xs : Nat → Int32} {dC : Nat → ClassId} {dI : Nat → Nat → Nat} {cB : ClassId} {ad am : Nat → Nat} {o n iL : Nat} {Q : State → Prop} (F : LF p l s m c b L xs dC dI cB ad am o) (hni : iL = 5 * n) (hiL : iL + 5 ≤ L) : LCase p l e s m below meth c b dC dI ad am o n iL Q 904 := by
  intro S M H locs hI9 hS kk9 ls hl
  have hx := F.x
  have hb := F.b
  have hml := F.ml
  have hown := F.own
  have hts := F.ts
  have hL := F.hL
  have hn9 : n ≤ 511 := by omega
  refine lv_aload_n hx hb dL_law_904 rfl (lv_at hl 1 rfl) ?_
  refine lv_aload_n hx hb dL_law_905 rfl (lv_at hl 0 rfl) ?_
  refine lv_iload hx hb dL_law_906 (lv_at hl 4 rfl) ?_
  refine lv_iconst (v := nI 1) hx hb dL_law_908 (by decide) ?_
  refine kn_iadd hx hb dL_law_909 ?_
  refine va_sld hx hb F.sc F.bl (fun z => Nat.not_le.mpr F.bl z) hS.st (vp_in_nI (show iL + 1 < L by omega) (by omega)) dL_law_910 ?_
  obtain ⟨x1, hx1⟩ : ∃ z, z = xs (nI (iL + 1)).toNatClampNeg := ⟨_, rfl⟩
  rw [← hx1]
  refine lv_aload_n hx hb dL_law_911 rfl (lv_at hl 0 rfl) ?_
  refine lv_iload hx hb dL_law_912 (lv_at hl 4 rfl) ?_
  refine lv_iconst (v := nI 2) hx hb dL_law_914 (by decide) ?_
  refine kn_iadd hx hb dL_law_915 ?_
  refine va_sld hx hb F.sc F.bl (fun z => Nat.not_le.mpr F.bl z) hS.st (vp_in_nI (show iL + 2 < L by omega) (by omega)) dL_law_916 ?_
  obtain ⟨x2, hx2⟩ : ∃ z, z = xs (nI (iL + 2)).toNatClampNeg := ⟨_, rfl⟩
  rw [← hx2]
  refine lv_aload_n hx hb dL_law_917 rfl (lv_at hl 0 rfl) ?_
  refine lv_iload hx hb dL_law_918 (lv_at hl 4 rfl) ?_
  refine lv_iconst (v := nI 3) hx hb dL_law_920 (by decide) ?_
  refine kn_iadd hx hb dL_law_921 ?_
  refine va_sld hx hb F.sc F.bl (fun z => Nat.not_le.mpr F.bl z) hS.st (vp_in_nI (show iL + 3 < L by omega) (by omega)) dL_law_922 ?_
  obtain ⟨x3, hx3⟩ : ∃ z, z = xs (nI (iL + 3)).toNatClampNeg := ⟨_, rfl⟩
  rw [← hx3]
  refine lv_if_eq (tgt := 930) hx hb dL_law_923 (by decide) (fun k_4 => ?_) (fun k_4 => ?_)
  · skip
    refine lv_iconst (v := bI false) hx hb dL_law_930 (by decide) ?_
    refine lv_aload_n hx hb dL_law_931 rfl (lv_at hl 3 rfl) ?_
    refine ll_w (vx_runSW (As := [.ref (ad 57), .int x1, .int x2, .int (bI false), .ref o]) (rest := []) ⟨hx, hb, hml, hown, hts⟩ (m_L_extreme l F.st dC dI cB ad o S x1 x2 false hI9.x hI9.x5 (by have := hI9.xp; omega)) (vx_cwSW 5 hts gL_law_L_extreme rfl rfl rfl hdL_extreme_5.2 ⟨Nat.le_of_ble_eq_true rfl, Nat.le_of_ble_eq_true rfl⟩) (hS.preW F.K) rfl rfl hl.1 rfl (lv_room (Nat.le_of_ble_eq_true rfl)) dL_law_932 ⟨le_rc (by omega), le_rs (by omega)⟩) F.K hS (fun r0 S1 n1 H locs hq9 hN hS => ?_)
    have hLQ : LQ S S1 := hq9.1
    have hR : R_extreme x1 x2 false S r0 S1 n1 := hq9.2
    clear hq9
    rcases hR with ⟨hb9, rfl, rfl⟩ | ⟨i, hi, rfl, hb9, rfl, rfl⟩ | ⟨i, j, r7, hi, hj, rfl, rfl, rfl, rfl, hw1, hw2⟩
    · skip
      refine lv_istore (lv' := [(5, .int (nI 1)), (0, .ref b), (1, .ref (ad 57)), (2, .ref (am 0)), (3, .ref o), (4, .int (nI iL))]) hx hb dL_law_935 hl (by decide) rfl (fun ls hl => ?_)
      refine lv_aload_n hx hb dL_law_937 rfl (lv_at hl 3 rfl) ?_
      refine lv_aload_n hx hb dL_law_938 rfl (lv_at hl 1 rfl) ?_
      refine lv_iload hx hb dL_law_939 (lv_at hl 5 rfl) ?_
      refine lv_iconst (v := nI 1) hx hb dL_law_941 (by decide) ?_
      refine kn_iadd hx hb dL_law_942 ?_
      refine va_sld hx hb F.sc F.bl (fun z => Nat.not_le.mpr F.bl z) hS.st (vp_in_nI (show iL + 1 < L by omega) (by omega)) dL_law_943 ?_
      rw [← hx1]
      refine lv_aload_n hx hb dL_law_944 rfl (lv_at hl 1 rfl) ?_
      refine lv_iload hx hb dL_law_945 (lv_at hl 5 rfl) ?_
      refine lv_iconst (v := nI 2) hx hb dL_law_947 (by decide) ?_
      refine kn_iadd hx hb dL_law_948 ?_
      refine va_sld hx hb F.sc F.bl (fun z => Nat.not_le.mpr F.bl z) hS.st (vp_in_nI (show iL + 2 < L by omega) (by omega)) dL_law_949 ?_
      rw [← hx2]
      refine lv_aload_n hx hb dL_law_950 rfl (lv_at hl 1 rfl) ?_
      refine lv_iload hx hb dL_law_951 (lv_at hl 5 rfl) ?_
      refine lv_iconst (v := nI 3) hx hb dL_law_953 (by decide) ?_
      refine kn_iadd hx hb dL_law_954 ?_
      refine va_sld hx hb F.sc F.bl (fun z => Nat.not_le.mpr F.bl z) hS.st (vp_in_nI (show iL + 3 < L by omega) (by omega)) dL_law_955 ?_
      rw [← hx3]
      refine lv_if_eq (tgt := 963) hx hb dL_law_956 (by decide) (fun k_5 => ?_) (fun k_5 => absurd k_4 k_5)
      refine lv_iconst (v := bI false) hx hb dL_law_963 (by decide) ?_
      have hI := hI9.m
      have T := hI9.T
      have hc : M.2.2.2.1 + 12 < 1000000 := by have := hI9.mp; omega
      refine ll_m (va_runV (As := [.int x1, .int x2, .int (bI false)]) (rest := []) ⟨hx, hb, hml, hown, hts⟩ (o_X6_extreme_1 l dC dI am M x1 x2 false hb9 hI) (cwV 3 hts gL_law_X6_extreme rfl rfl rfl hdX6_extreme_3 ⟨Nat.le_of_ble_eq_true rfl, Nat.le_of_ble_eq_true rfl⟩) (hS.preM F.K) rfl rfl hl.1 rfl (lv_room (Nat.le_of_ble_eq_true rfl)) dL_law_964 ⟨le_rc (by omega), le_rs (by omega)⟩) F.K hS (fun r8 M1 H locs hko hv hS => ?_)
      have hLM : LM M M1 := by rw [hv]; exact LM_th hI _
      have hT : Tie S M1 := by rw [hv]; exact T.th _
      refine lv_istore (lv' := [(6, .int r8), (5, .int (nI 1)), (0, .ref b), (1, .ref (ad 57)), (2, .ref (am 0)), (3, .ref o), (4, .int (nI iL))]) hx hb dL_law_967 hl (by decide) rfl (fun ls hl => ?_)
      refine lv_goto (tgt := 2052) hx hb dL_law_969 (by decide) ?_
      exact W.widen (k := 100 + 224 * (n + 1)) (n := 1200 + 10680 * (n + 1)) (by omega) (by omega) (kk9 S M1 _ _ _ (hI9.next hLQ hLM hT) hS (lv_sub hl [2, 3, 4, 5, 6] rfl))
    · skip
      refine lv_istore (lv' := [(5, .int (nI 1)), (0, .ref b), (1, .ref (ad 57)), (2, .ref (am 0)), (3, .ref o), (4, .int (nI iL))]) hx hb dL_law_935 hl (by decide) rfl (fun ls hl => ?_)
      refine lv_aload_n hx hb dL_law_937 rfl (lv_at hl 3 rfl) ?_
      refine lv_aload_n hx hb dL_law_938 rfl (lv_at hl 1 rfl) ?_
      refine lv_iload hx hb dL_law_939 (lv_at hl 5 rfl) ?_
      refine lv_iconst (v := nI 1) hx hb dL_law_941 (by decide) ?_
      refine kn_iadd hx hb dL_law_942 ?_
      refine va_sld hx hb F.sc F.bl (fun z => Nat.not_le.mpr F.bl z) hS.st (vp_in_nI (show iL + 1 < L by omega) (by omega)) dL_law_943 ?_
      rw [← hx1]
      refine lv_aload_n hx hb dL_law_944 rfl (lv_at hl 1 rfl) ?_
      refine lv_iload hx hb dL_law_945 (lv_at hl 5 rfl) ?_
      refine lv_iconst (v := nI 2) hx hb dL_law_947 (by decide) ?_
      refine kn_iadd hx hb dL_law_948 ?_
      refine va_sld hx hb F.sc F.bl (fun z => Nat.not_le.mpr F.bl z) hS.st (vp_in_nI (show iL + 2 < L by omega) (by omega)) dL_law_949 ?_
      rw [← hx2]
      refine lv_aload_n hx hb dL_law_950 rfl (lv_at hl 1 rfl) ?_
      refine lv_iload hx hb dL_law_951 (lv_at hl 5 rfl) ?_
      refine lv_iconst (v := nI 3) hx hb dL_law_953 (by decide) ?_
      refine kn_iadd hx hb dL_law_954 ?_
      refine va_sld hx hb F.sc F.bl (fun z => Nat.not_le.mpr F.bl z) hS.st (vp_in_nI (show iL + 3 < L by omega) (by omega)) dL_law_955 ?_
      rw [← hx3]
      refine lv_if_eq (tgt := 963) hx hb dL_law_956 (by decide) (fun k_6 => ?_) (fun k_6 => absurd k_4 k_6)
      refine lv_iconst (v := bI false) hx hb dL_law_963 (by decide) ?_
      have hI := hI9.m
      have T := hI9.T
      have hc : M.2.2.2.1 + 12 < 1000000 := by have := hI9.mp; omega
      have hn := (hI.1 i hi).1
      refine ll_m (va_runV (As := [.int (nI i), .int x2, .int (bI false)]) (rest := []) ⟨hx, hb, hml, hown, hts⟩ (o_X6_extreme_2 l dC dI am M i x2 false hi hb9 hI) (cwV 3 hts gL_law_X6_extreme rfl rfl rfl hdX6_extreme_3 ⟨Nat.le_of_ble_eq_true rfl, Nat.le_of_ble_eq_true rfl⟩) (hS.preM F.K) rfl rfl hl.1 rfl (lv_room (Nat.le_of_ble_eq_true rfl)) dL_law_964 ⟨le_rc (by omega), le_rs (by omega)⟩) F.K hS (fun r8 M1 H locs hko hv hS => ?_)
      have hLM : LM M M1 := by rw [hv]; exact LM_th hI _
      have hT : Tie S M1 := by rw [hv]; exact T.th _
      refine lv_istore (lv' := [(6, .int r8), (5, .int (nI 1)), (0, .ref b), (1, .ref (ad 57)), (2, .ref (am 0)), (3, .ref o), (4, .int (nI iL))]) hx hb dL_law_967 hl (by decide) rfl (fun ls hl => ?_)
      refine lv_goto (tgt := 2052) hx hb dL_law_969 (by decide) ?_
      exact W.widen (k := 100 + 224 * (n + 1)) (n := 1200 + 10680 * (n + 1)) (by omega) (by omega) (kk9 S M1 _ _ _ (hI9.next hLQ hLM hT) hS (lv_sub hl [2, 3, 4, 5, 6] rfl))
    · skip
      have hw := And.intro hw1 hw2
      refine lv_istore (lv' := [(5, .int (nI 0)), (0, .ref b), (1, .ref (ad 57)), (2, .ref (am 0)), (3, .ref o), (4, .int (nI iL))]) hx hb dL_law_935 hl (by decide) rfl (fun ls hl => ?_)
      refine lv_aload_n hx hb dL_law_937 rfl (lv_at hl 3 rfl) ?_
      refine lv_aload_n hx hb dL_law_938 rfl (lv_at hl 1 rfl) ?_
      refine lv_iload hx hb dL_law_939 (lv_at hl 5 rfl) ?_
      refine lv_iconst (v := nI 1) hx hb dL_law_941 (by decide) ?_
      refine kn_iadd hx hb dL_law_942 ?_
      refine va_sld hx hb F.sc F.bl (fun z => Nat.not_le.mpr F.bl z) hS.st (vp_in_nI (show iL + 1 < L by omega) (by omega)) dL_law_943 ?_
      rw [← hx1]
      refine lv_aload_n hx hb dL_law_944 rfl (lv_at hl 1 rfl) ?_
      refine lv_iload hx hb dL_law_945 (lv_at hl 5 rfl) ?_
      refine lv_iconst (v := nI 2) hx hb dL_law_947 (by decide) ?_
      refine kn_iadd hx hb dL_law_948 ?_
      refine va_sld hx hb F.sc F.bl (fun z => Nat.not_le.mpr F.bl z) hS.st (vp_in_nI (show iL + 2 < L by omega) (by omega)) dL_law_949 ?_
      rw [← hx2]
      refine lv_aload_n hx hb dL_law_950 rfl (lv_at hl 1 rfl) ?_
      refine lv_iload hx hb dL_law_951 (lv_at hl 5 rfl) ?_
      refine lv_iconst (v := nI 3) hx hb dL_law_953 (by decide) ?_
      refine kn_iadd hx hb dL_law_954 ?_
      refine va_sld hx hb F.sc F.bl (fun z => Nat.not_le.mpr F.bl z) hS.st (vp_in_nI (show iL + 3 < L by omega) (by omega)) dL_law_955 ?_
      rw [← hx3]
      refine lv_if_eq (tgt := 963) hx hb dL_law_956 (by decide) (fun k_7 => ?_) (fun k_7 => absurd k_4 k_7)
      refine lv_iconst (v := bI false) hx hb dL_law_963 (by decide) ?_
      have hI := hI9.m
      have T := hI9.T
      have hc : M.2.2.2.1 + 12 < 1000000 := by have := hI9.mp; omega
      have hn := (hI.1 i hi).1
      refine ll_m (va_runV (As := [.int (nI i), .int (nI j), .int (bI false)]) (rest := []) ⟨hx, hb, hml, hown, hts⟩ (m_X6_extreme l dC dI am M i j false hi hj hI) (cwV 3 hts gL_law_X6_extreme rfl rfl rfl hdX6_extreme_3 ⟨Nat.le_of_ble_eq_true rfl, Nat.le_of_ble_eq_true rfl⟩) (hS.preM F.K) rfl rfl hl.1 rfl (lv_room (Nat.le_of_ble_eq_true rfl)) dL_law_964 ⟨le_rc (by omega), le_rs (by omega)⟩) F.K hS (fun r8 M1 H locs hko hv hS => ?_)
      have hLM : LM M M1 := by rw [hv.2]; exact LM_th hI 0
      have hT : Tie S1 M1 := B_same T ⟨hw.1, hw.2⟩ hv
      refine lv_istore (lv' := [(6, .int r8), (5, .int (nI 0)), (0, .ref b), (1, .ref (ad 57)), (2, .ref (am 0)), (3, .ref o), (4, .int (nI iL))]) hx hb dL_law_967 hl (by decide) rfl (fun ls hl => ?_)
      refine lv_goto (tgt := 2052) hx hb dL_law_969 (by decide) ?_
      exact W.widen (k := 100 + 224 * (n + 1)) (n := 1200 + 10680 * (n + 1)) (by omega) (by omega) (kk9 S1 M1 _ _ _ (hI9.next hLQ hLM hT) hS (lv_sub hl [2, 3, 4, 5, 6] rfl))
  · skip
    refine lv_iconst (v := bI true) hx hb dL_law_926 (by decide) ?_
    refine lv_goto (tgt := 931) hx hb dL_law_927 (by decide) ?_
    refine lv_aload_n hx hb dL_law_931 rfl (lv_at hl 3 rfl) ?_
    refine ll_w (vx_runSW (As := [.ref (ad 57), .int x1, .int x2, .int (bI true), .ref o]) (rest := []) ⟨hx, hb, hml, hown, hts⟩ (m_L_extreme l F.st dC dI cB ad o S x1 x2 true hI9.x hI9.x5 (by have := hI9.xp; omega)) (vx_cwSW 5 hts gL_law_L_extreme rfl rfl rfl hdL_extreme_5.2 ⟨Nat.le_of_ble_eq_true rfl, Nat.le_of_ble_eq_true rfl⟩) (hS.preW F.K) rfl rfl hl.1 rfl (lv_room (Nat.le_of_ble_eq_true rfl)) dL_law_932 ⟨le_rc (by omega), le_rs (by omega)⟩) F.K hS (fun r0 S1 n1 H locs hq9 hN hS => ?_)
    have hLQ : LQ S S1 := hq9.1
    have hR : R_extreme x1 x2 true S r0 S1 n1 := hq9.2
    clear hq9
    rcases hR with ⟨hb9, rfl, rfl⟩ | ⟨i, hi, rfl, hb9, rfl, rfl⟩ | ⟨i, j, r7, hi, hj, rfl, rfl, rfl, rfl, hw1, hw2⟩
    · skip
      refine lv_istore (lv' := [(5, .int (nI 1)), (0, .ref b), (1, .ref (ad 57)), (2, .ref (am 0)), (3, .ref o), (4, .int (nI iL))]) hx hb dL_law_935 hl (by decide) rfl (fun ls hl => ?_)
      refine lv_aload_n hx hb dL_law_937 rfl (lv_at hl 3 rfl) ?_
      refine lv_aload_n hx hb dL_law_938 rfl (lv_at hl 1 rfl) ?_
      refine lv_iload hx hb dL_law_939 (lv_at hl 5 rfl) ?_
      refine lv_iconst (v := nI 1) hx hb dL_law_941 (by decide) ?_
      refine kn_iadd hx hb dL_law_942 ?_
      refine va_sld hx hb F.sc F.bl (fun z => Nat.not_le.mpr F.bl z) hS.st (vp_in_nI (show iL + 1 < L by omega) (by omega)) dL_law_943 ?_
      rw [← hx1]
      refine lv_aload_n hx hb dL_law_944 rfl (lv_at hl 1 rfl) ?_
      refine lv_iload hx hb dL_law_945 (lv_at hl 5 rfl) ?_
      refine lv_iconst (v := nI 2) hx hb dL_law_947 (by decide) ?_
      refine kn_iadd hx hb dL_law_948 ?_
      refine va_sld hx hb F.sc F.bl (fun z => Nat.not_le.mpr F.bl z) hS.st (vp_in_nI (show iL + 2 < L by omega) (by omega)) dL_law_949 ?_
      rw [← hx2]
      refine lv_aload_n hx hb dL_law_950 rfl (lv_at hl 1 rfl) ?_
      refine lv_iload hx hb dL_law_951 (lv_at hl 5 rfl) ?_
      refine lv_iconst (v := nI 3) hx hb dL_law_953 (by decide) ?_
      refine kn_iadd hx hb dL_law_954 ?_
      refine va_sld hx hb F.sc F.bl (fun z => Nat.not_le.mpr F.bl z) hS.st (vp_in_nI (show iL + 3 < L by omega) (by omega)) dL_law_955 ?_
      rw [← hx3]
      refine lv_if_eq (tgt := 963) hx hb dL_law_956 (by decide) (fun k_8 => absurd k_8 k_4) (fun k_8 => ?_)
      refine lv_iconst (v := bI true) hx hb dL_law_959 (by decide) ?_
      refine lv_goto (tgt := 964) hx hb dL_law_960 (by decide) ?_
      have hI := hI9.m
      have T := hI9.T
      have hc : M.2.2.2.1 + 12 < 1000000 := by have := hI9.mp; omega
      refine ll_m (va_runV (As := [.int x1, .int x2, .int (bI true)]) (rest := []) ⟨hx, hb, hml, hown, hts⟩ (o_X6_extreme_1 l dC dI am M x1 x2 true hb9 hI) (cwV 3 hts gL_law_X6_extreme rfl rfl rfl hdX6_extreme_3 ⟨Nat.le_of_ble_eq_true rfl, Nat.le_of_ble_eq_true rfl⟩) (hS.preM F.K) rfl rfl hl.1 rfl (lv_room (Nat.le_of_ble_eq_true rfl)) dL_law_964 ⟨le_rc (by omega), le_rs (by omega)⟩) F.K hS (fun r8 M1 H locs hko hv hS => ?_)
      have hLM : LM M M1 := by rw [hv]; exact LM_th hI _
      have hT : Tie S M1 := by rw [hv]; exact T.th _
      refine lv_istore (lv' := [(6, .int r8), (5, .int (nI 1)), (0, .ref b), (1, .ref (ad 57)), (2, .ref (am 0)), (3, .ref o), (4, .int (nI iL))]) hx hb dL_law_967 hl (by decide) rfl (fun ls hl => ?_)
      refine lv_goto (tgt := 2052) hx hb dL_law_969 (by decide) ?_
      exact W.widen (k := 100 + 224 * (n + 1)) (n := 1200 + 10680 * (n + 1)) (by omega) (by omega) (kk9 S M1 _ _ _ (hI9.next hLQ hLM hT) hS (lv_sub hl [2, 3, 4, 5, 6] rfl))
    · skip
      refine lv_istore (lv' := [(5, .int (nI 1)), (0, .ref b), (1, .ref (ad 57)), (2, .ref (am 0)), (3, .ref o), (4, .int (nI iL))]) hx hb dL_law_935 hl (by decide) rfl (fun ls hl => ?_)
      refine lv_aload_n hx hb dL_law_937 rfl (lv_at hl 3 rfl) ?_
      refine lv_aload_n hx hb dL_law_938 rfl (lv_at hl 1 rfl) ?_
      refine lv_iload hx hb dL_law_939 (lv_at hl 5 rfl) ?_
      refine lv_iconst (v := nI 1) hx hb dL_law_941 (by decide) ?_
      refine kn_iadd hx hb dL_law_942 ?_
      refine va_sld hx hb F.sc F.bl (fun z => Nat.not_le.mpr F.bl z) hS.st (vp_in_nI (show iL + 1 < L by omega) (by omega)) dL_law_943 ?_
      rw [← hx1]
      refine lv_aload_n hx hb dL_law_944 rfl (lv_at hl 1 rfl) ?_
      refine lv_iload hx hb dL_law_945 (lv_at hl 5 rfl) ?_
      refine lv_iconst (v := nI 2) hx hb dL_law_947 (by decide) ?_
      refine kn_iadd hx hb dL_law_948 ?_
      refine va_sld hx hb F.sc F.bl (fun z => Nat.not_le.mpr F.bl z) hS.st (vp_in_nI (show iL + 2 < L by omega) (by omega)) dL_law_949 ?_
      rw [← hx2]
      refine lv_aload_n hx hb dL_law_950 rfl (lv_at hl 1 rfl) ?_
      refine lv_iload hx hb dL_law_951 (lv_at hl 5 rfl) ?_
      refine lv_iconst (v := nI 3) hx hb dL_law_953 (by decide) ?_
      refine kn_iadd hx hb dL_law_954 ?_
      refine va_sld hx hb F.sc F.bl (fun z => Nat.not_le.mpr F.bl z) hS.st (vp_in_nI (show iL + 3 < L by omega) (by omega)) dL_law_955 ?_
      rw [← hx3]
      refine lv_if_eq (tgt := 963) hx hb dL_law_956 (by decide) (fun k_9 => absurd k_9 k_4) (fun k_9 => ?_)
      refine lv_iconst (v := bI true) hx hb dL_law_959 (by decide) ?_
      refine lv_goto (tgt := 964) hx hb dL_law_960 (by decide) ?_
      have hI := hI9.m
      have T := hI9.T
      have hc : M.2.2.2.1 + 12 < 1000000 := by have := hI9.mp; omega
      have hn := (hI.1 i hi).1
      refine ll_m (va_runV (As := [.int (nI i), .int x2, .int (bI true)]) (rest := []) ⟨hx, hb, hml, hown, hts⟩ (o_X6_extreme_2 l dC dI am M i x2 true hi hb9 hI) (cwV 3 hts gL_law_X6_extreme rfl rfl rfl hdX6_extreme_3 ⟨Nat.le_of_ble_eq_true rfl, Nat.le_of_ble_eq_true rfl⟩) (hS.preM F.K) rfl rfl hl.1 rfl (lv_room (Nat.le_of_ble_eq_true rfl)) dL_law_964 ⟨le_rc (by omega), le_rs (by omega)⟩) F.K hS (fun r8 M1 H locs hko hv hS => ?_)
      have hLM : LM M M1 := by rw [hv]; exact LM_th hI _
      have hT : Tie S M1 := by rw [hv]; exact T.th _
      refine lv_istore (lv' := [(6, .int r8), (5, .int (nI 1)), (0, .ref b), (1, .ref (ad 57)), (2, .ref (am 0)), (3, .ref o), (4, .int (nI iL))]) hx hb dL_law_967 hl (by decide) rfl (fun ls hl => ?_)
      refine lv_goto (tgt := 2052) hx hb dL_law_969 (by decide) ?_
      exact W.widen (k := 100 + 224 * (n + 1)) (n := 1200 + 10680 * (n + 1)) (by omega) (by omega) (kk9 S M1 _ _ _ (hI9.next hLQ hLM hT) hS (lv_sub hl [2, 3, 4, 5, 6] rfl))
    · skip
      have hw := And.intro hw1 hw2
      refine lv_istore (lv' := [(5, .int (nI 0)), (0, .ref b), (1, .ref (ad 57)), (2, .ref (am 0)), (3, .ref o), (4, .int (nI iL))]) hx hb dL_law_935 hl (by decide) rfl (fun ls hl => ?_)
      refine lv_aload_n hx hb dL_law_937 rfl (lv_at hl 3 rfl) ?_
      refine lv_aload_n hx hb dL_law_938 rfl (lv_at hl 1 rfl) ?_
      refine lv_iload hx hb dL_law_939 (lv_at hl 5 rfl) ?_
      refine lv_iconst (v := nI 1) hx hb dL_law_941 (by decide) ?_
      refine kn_iadd hx hb dL_law_942 ?_
      refine va_sld hx hb F.sc F.bl (fun z => Nat.not_le.mpr F.bl z) hS.st (vp_in_nI (show iL + 1 < L by omega) (by omega)) dL_law_943 ?_
      rw [← hx1]
      refine lv_aload_n hx hb dL_law_944 rfl (lv_at hl 1 rfl) ?_
      refine lv_iload hx hb dL_law_945 (lv_at hl 5 rfl) ?_
      refine lv_iconst (v := nI 2) hx hb dL_law_947 (by decide) ?_
      refine kn_iadd hx hb dL_law_948 ?_
      refine va_sld hx hb F.sc F.bl (fun z => Nat.not_le.mpr F.bl z) hS.st (vp_in_nI (show iL + 2 < L by omega) (by omega)) dL_law_949 ?_
      rw [← hx2]
      refine lv_aload_n hx hb dL_law_950 rfl (lv_at hl 1 rfl) ?_
      refine lv_iload hx hb dL_law_951 (lv_at hl 5 rfl) ?_
      refine lv_iconst (v := nI 3) hx hb dL_law_953 (by decide) ?_
      refine kn_iadd hx hb dL_law_954 ?_
      refine va_sld hx hb F.sc F.bl (fun z => Nat.not_le.mpr F.bl z) hS.st (vp_in_nI (show iL + 3 < L by omega) (by omega)) dL_law_955 ?_
      rw [← hx3]
      refine lv_if_eq (tgt := 963) hx hb dL_law_956 (by decide) (fun k_10 => absurd k_10 k_4) (fun k_10 => ?_)
      refine lv_iconst (v := bI true) hx hb dL_law_959 (by decide) ?_
      refine lv_goto (tgt := 964) hx hb dL_law_960 (by decide) ?_
      have hI := hI9.m
      have T := hI9.T
      have hc : M.2.2.2.1 + 12 < 1000000 := by have := hI9.mp; omega
      have hn := (hI.1 i hi).1
      refine ll_m (va_runV (As := [.int (nI i), .int (nI j), .int (bI true)]) (rest := []) ⟨hx, hb, hml, hown, hts⟩ (m_X6_extreme l dC dI am M i j true hi hj hI) (cwV 3 hts gL_law_X6_extreme rfl rfl rfl hdX6_extreme_3 ⟨Nat.le_of_ble_eq_true rfl, Nat.le_of_ble_eq_true rfl⟩) (hS.preM F.K) rfl rfl hl.1 rfl (lv_room (Nat.le_of_ble_eq_true rfl)) dL_law_964 ⟨le_rc (by omega), le_rs (by omega)⟩) F.K hS (fun r8 M1 H locs hko hv hS => ?_)
      have hLM : LM M M1 := by rw [hv.2]; exact LM_th hI 0
      have hT : Tie S1 M1 := B_same T ⟨hw.1, hw.2⟩ hv
      refine lv_istore (lv' := [(6, .int r8), (5, .int (nI 0)), (0, .ref b), (1, .ref (ad 57)), (2, .ref (am 0)), (3, .ref o), (4, .int (nI iL))]) hx hb dL_law_967 hl (by decide) rfl (fun ls hl => ?_)
      refine lv_goto (tgt := 2052) hx hb dL_law_969 (by decide) ?_
      exact W.widen (k := 100 + 224 * (n + 1)) (n := 1200 + 10680 * (n + 1)) (by omega) (by omega) (kk9 S1 M1 _ _ _ (hI9.next hLQ hLM hT) hS (lv_sub hl [2, 3, 4, 5, 6] rfl))
set_option maxHeartbeats 4000000 in
set_option maxRecDepth 100000 in
theorem lc_17 {p : Program} {l : Launch} {e : Env} {s : State} {m : MethodId} {below : List Frame} {meth : Method} {c : Code} {b L : Nat} {xs : Nat → Int32} {dC : Nat → ClassId} {dI : Nat → Nat → Nat} {cB : ClassId} {ad am : Nat → Nat} {o n iL : Nat} {Q : State → Prop} (F : LF p l s m c b L xs dC dI cB ad am o) (hni : iL = 5 * n) (hiL : iL + 5 ≤ L) : LCase p l e s m below meth c b dC dI ad am o n iL Q 972 := by
  intro S M H locs hI9 hS kk9 ls hl
  have hx := F.x
  have hb := F.b
  have hml := F.ml
  have hown := F.own
  have hts := F.ts
  have hL := F.hL
  have hn9 : n ≤ 511 := by omega
  refine lv_aload_n hx hb dL_law_972 rfl (lv_at hl 1 rfl) ?_
  refine lv_aload_n hx hb dL_law_973 rfl (lv_at hl 0 rfl) ?_
  refine lv_iload hx hb dL_law_974 (lv_at hl 4 rfl) ?_
  refine lv_iconst (v := nI 1) hx hb dL_law_976 (by decide) ?_
  refine kn_iadd hx hb dL_law_977 ?_
  refine va_sld hx hb F.sc F.bl (fun z => Nat.not_le.mpr F.bl z) hS.st (vp_in_nI (show iL + 1 < L by omega) (by omega)) dL_law_978 ?_
  obtain ⟨x1, hx1⟩ : ∃ z, z = xs (nI (iL + 1)).toNatClampNeg := ⟨_, rfl⟩
  rw [← hx1]
  refine lv_aload_n hx hb dL_law_979 rfl (lv_at hl 0 rfl) ?_
  refine lv_iload hx hb dL_law_980 (lv_at hl 4 rfl) ?_
  refine lv_iconst (v := nI 2) hx hb dL_law_982 (by decide) ?_
  refine kn_iadd hx hb dL_law_983 ?_
  refine va_sld hx hb F.sc F.bl (fun z => Nat.not_le.mpr F.bl z) hS.st (vp_in_nI (show iL + 2 < L by omega) (by omega)) dL_law_984 ?_
  obtain ⟨x2, hx2⟩ : ∃ z, z = xs (nI (iL + 2)).toNatClampNeg := ⟨_, rfl⟩
  rw [← hx2]
  refine lv_aload_n hx hb dL_law_985 rfl (lv_at hl 0 rfl) ?_
  refine lv_iload hx hb dL_law_986 (lv_at hl 4 rfl) ?_
  refine lv_iconst (v := nI 3) hx hb dL_law_988 (by decide) ?_
  refine kn_iadd hx hb dL_law_989 ?_
  refine va_sld hx hb F.sc F.bl (fun z => Nat.not_le.mpr F.bl z) hS.st (vp_in_nI (show iL + 3 < L by omega) (by omega)) dL_law_990 ?_
  obtain ⟨x3, hx3⟩ : ∃ z, z = xs (nI (iL + 3)).toNatClampNeg := ⟨_, rfl⟩
  rw [← hx3]
  refine lv_aload_n hx hb dL_law_991 rfl (lv_at hl 3 rfl) ?_
  refine ll_w (vx_runSW (As := [.ref (ad 57), .int x1, .int x2, .int x3, .ref o]) (rest := []) ⟨hx, hb, hml, hown, hts⟩ (m_L_search l F.st dC dI cB ad o S x1 x2 x3 hI9.x hI9.x5 (by have := hI9.xp; omega)) (vx_cwSW 5 hts gL_law_L_search rfl rfl rfl hdL_search_5.2 ⟨Nat.le_of_ble_eq_true rfl, Nat.le_of_ble_eq_true rfl⟩) (hS.preW F.K) rfl rfl hl.1 rfl (lv_room (Nat.le_of_ble_eq_true rfl)) dL_law_992 ⟨le_rc (by omega), le_rs (by omega)⟩) F.K hS (fun r0 S1 n1 H locs hq9 hN hS => ?_)
  have hLQ : LQ S S1 := hq9.1
  have hR : R_search x1 x2 x3 S r0 S1 n1 := hq9.2
  clear hq9
  rcases hR with ⟨hb9, rfl, rfl⟩ | ⟨i, hi, rfl, hb9, rfl, rfl⟩ | ⟨i, j, hi, hj, rfl, rfl, hb9, rfl, rfl⟩ | ⟨i, j, v, r7, hi, hj, hv9, rfl, rfl, rfl, rfl, rfl, hw⟩
  · skip
    refine lv_istore (lv' := [(5, .int (nI 1)), (0, .ref b), (1, .ref (ad 57)), (2, .ref (am 0)), (3, .ref o), (4, .int (nI iL))]) hx hb dL_law_995 hl (by decide) rfl (fun ls hl => ?_)
    refine lv_aload_n hx hb dL_law_997 rfl (lv_at hl 3 rfl) ?_
    refine lv_aload_n hx hb dL_law_998 rfl (lv_at hl 1 rfl) ?_
    refine lv_iload hx hb dL_law_999 (lv_at hl 5 rfl) ?_
    refine lv_iconst (v := nI 1) hx hb dL_law_1001 (by decide) ?_
    refine kn_iadd hx hb dL_law_1002 ?_
    refine va_sld hx hb F.sc F.bl (fun z => Nat.not_le.mpr F.bl z) hS.st (vp_in_nI (show iL + 1 < L by omega) (by omega)) dL_law_1003 ?_
    rw [← hx1]
    refine lv_aload_n hx hb dL_law_1004 rfl (lv_at hl 1 rfl) ?_
    refine lv_iload hx hb dL_law_1005 (lv_at hl 5 rfl) ?_
    refine lv_iconst (v := nI 2) hx hb dL_law_1007 (by decide) ?_
    refine kn_iadd hx hb dL_law_1008 ?_
    refine va_sld hx hb F.sc F.bl (fun z => Nat.not_le.mpr F.bl z) hS.st (vp_in_nI (show iL + 2 < L by omega) (by omega)) dL_law_1009 ?_
    rw [← hx2]
    refine lv_aload_n hx hb dL_law_1010 rfl (lv_at hl 1 rfl) ?_
    refine lv_iload hx hb dL_law_1011 (lv_at hl 5 rfl) ?_
    refine lv_iconst (v := nI 3) hx hb dL_law_1013 (by decide) ?_
    refine kn_iadd hx hb dL_law_1014 ?_
    refine va_sld hx hb F.sc F.bl (fun z => Nat.not_le.mpr F.bl z) hS.st (vp_in_nI (show iL + 3 < L by omega) (by omega)) dL_law_1015 ?_
    rw [← hx3]
    have hI := hI9.m
    have T := hI9.T
    have hc : M.2.2.2.1 + 12 < 1000000 := by have := hI9.mp; omega
    refine ll_m (va_runV (As := [.int x1, .int x2, .int x3]) (rest := []) ⟨hx, hb, hml, hown, hts⟩ (o_X6_search_1 l dC dI am M x1 x2 x3 hb9 hI) (cwV 3 hts gL_law_X6_search rfl rfl rfl hdX6_search_3 ⟨Nat.le_of_ble_eq_true rfl, Nat.le_of_ble_eq_true rfl⟩) (hS.preM F.K) rfl rfl hl.1 rfl (lv_room (Nat.le_of_ble_eq_true rfl)) dL_law_1016 ⟨le_rc (by omega), le_rs (by omega)⟩) F.K hS (fun r8 M1 H locs hko hv hS => ?_)
    have hLM : LM M M1 := by rw [hv]; exact LM_th hI _
    have hT : Tie S M1 := by rw [hv]; exact T.th _
    refine lv_istore (lv' := [(6, .int r8), (5, .int (nI 1)), (0, .ref b), (1, .ref (ad 57)), (2, .ref (am 0)), (3, .ref o), (4, .int (nI iL))]) hx hb dL_law_1019 hl (by decide) rfl (fun ls hl => ?_)
    refine lv_goto (tgt := 2052) hx hb dL_law_1021 (by decide) ?_
    exact W.widen (k := 100 + 224 * (n + 1)) (n := 1200 + 10680 * (n + 1)) (by omega) (by omega) (kk9 S M1 _ _ _ (hI9.next hLQ hLM hT) hS (lv_sub hl [2, 3, 4, 5, 6] rfl))
  · skip
    refine lv_istore (lv' := [(5, .int (nI 1)), (0, .ref b), (1, .ref (ad 57)), (2, .ref (am 0)), (3, .ref o), (4, .int (nI iL))]) hx hb dL_law_995 hl (by decide) rfl (fun ls hl => ?_)
    refine lv_aload_n hx hb dL_law_997 rfl (lv_at hl 3 rfl) ?_
    refine lv_aload_n hx hb dL_law_998 rfl (lv_at hl 1 rfl) ?_
    refine lv_iload hx hb dL_law_999 (lv_at hl 5 rfl) ?_
    refine lv_iconst (v := nI 1) hx hb dL_law_1001 (by decide) ?_
    refine kn_iadd hx hb dL_law_1002 ?_
    refine va_sld hx hb F.sc F.bl (fun z => Nat.not_le.mpr F.bl z) hS.st (vp_in_nI (show iL + 1 < L by omega) (by omega)) dL_law_1003 ?_
    rw [← hx1]
    refine lv_aload_n hx hb dL_law_1004 rfl (lv_at hl 1 rfl) ?_
    refine lv_iload hx hb dL_law_1005 (lv_at hl 5 rfl) ?_
    refine lv_iconst (v := nI 2) hx hb dL_law_1007 (by decide) ?_
    refine kn_iadd hx hb dL_law_1008 ?_
    refine va_sld hx hb F.sc F.bl (fun z => Nat.not_le.mpr F.bl z) hS.st (vp_in_nI (show iL + 2 < L by omega) (by omega)) dL_law_1009 ?_
    rw [← hx2]
    refine lv_aload_n hx hb dL_law_1010 rfl (lv_at hl 1 rfl) ?_
    refine lv_iload hx hb dL_law_1011 (lv_at hl 5 rfl) ?_
    refine lv_iconst (v := nI 3) hx hb dL_law_1013 (by decide) ?_
    refine kn_iadd hx hb dL_law_1014 ?_
    refine va_sld hx hb F.sc F.bl (fun z => Nat.not_le.mpr F.bl z) hS.st (vp_in_nI (show iL + 3 < L by omega) (by omega)) dL_law_1015 ?_
    rw [← hx3]
    have hI := hI9.m
    have T := hI9.T
    have hc : M.2.2.2.1 + 12 < 1000000 := by have := hI9.mp; omega
    have hn := (hI.1 i hi).1
    refine ll_m (va_runV (As := [.int (nI i), .int x2, .int x3]) (rest := []) ⟨hx, hb, hml, hown, hts⟩ (o_X6_search_2 l dC dI am M i x2 x3 hi hb9 hI) (cwV 3 hts gL_law_X6_search rfl rfl rfl hdX6_search_3 ⟨Nat.le_of_ble_eq_true rfl, Nat.le_of_ble_eq_true rfl⟩) (hS.preM F.K) rfl rfl hl.1 rfl (lv_room (Nat.le_of_ble_eq_true rfl)) dL_law_1016 ⟨le_rc (by omega), le_rs (by omega)⟩) F.K hS (fun r8 M1 H locs hko hv hS => ?_)
    have hLM : LM M M1 := by rw [hv]; exact LM_th hI _
    have hT : Tie S M1 := by rw [hv]; exact T.th _
    refine lv_istore (lv' := [(6, .int r8), (5, .int (nI 1)), (0, .ref b), (1, .ref (ad 57)), (2, .ref (am 0)), (3, .ref o), (4, .int (nI iL))]) hx hb dL_law_1019 hl (by decide) rfl (fun ls hl => ?_)
    refine lv_goto (tgt := 2052) hx hb dL_law_1021 (by decide) ?_
    exact W.widen (k := 100 + 224 * (n + 1)) (n := 1200 + 10680 * (n + 1)) (by omega) (by omega) (kk9 S M1 _ _ _ (hI9.next hLQ hLM hT) hS (lv_sub hl [2, 3, 4, 5, 6] rfl))
  · skip
    refine lv_istore (lv' := [(5, .int (nI 2)), (0, .ref b), (1, .ref (ad 57)), (2, .ref (am 0)), (3, .ref o), (4, .int (nI iL))]) hx hb dL_law_995 hl (by decide) rfl (fun ls hl => ?_)
    refine lv_aload_n hx hb dL_law_997 rfl (lv_at hl 3 rfl) ?_
    refine lv_aload_n hx hb dL_law_998 rfl (lv_at hl 1 rfl) ?_
    refine lv_iload hx hb dL_law_999 (lv_at hl 5 rfl) ?_
    refine lv_iconst (v := nI 1) hx hb dL_law_1001 (by decide) ?_
    refine kn_iadd hx hb dL_law_1002 ?_
    refine va_sld hx hb F.sc F.bl (fun z => Nat.not_le.mpr F.bl z) hS.st (vp_in_nI (show iL + 1 < L by omega) (by omega)) dL_law_1003 ?_
    rw [← hx1]
    refine lv_aload_n hx hb dL_law_1004 rfl (lv_at hl 1 rfl) ?_
    refine lv_iload hx hb dL_law_1005 (lv_at hl 5 rfl) ?_
    refine lv_iconst (v := nI 2) hx hb dL_law_1007 (by decide) ?_
    refine kn_iadd hx hb dL_law_1008 ?_
    refine va_sld hx hb F.sc F.bl (fun z => Nat.not_le.mpr F.bl z) hS.st (vp_in_nI (show iL + 2 < L by omega) (by omega)) dL_law_1009 ?_
    rw [← hx2]
    refine lv_aload_n hx hb dL_law_1010 rfl (lv_at hl 1 rfl) ?_
    refine lv_iload hx hb dL_law_1011 (lv_at hl 5 rfl) ?_
    refine lv_iconst (v := nI 3) hx hb dL_law_1013 (by decide) ?_
    refine kn_iadd hx hb dL_law_1014 ?_
    refine va_sld hx hb F.sc F.bl (fun z => Nat.not_le.mpr F.bl z) hS.st (vp_in_nI (show iL + 3 < L by omega) (by omega)) dL_law_1015 ?_
    rw [← hx3]
    have hI := hI9.m
    have T := hI9.T
    have hc : M.2.2.2.1 + 12 < 1000000 := by have := hI9.mp; omega
    have hn := (hI.1 i hi).1
    refine ll_m (va_runV (As := [.int (nI i), .int (nI j), .int x3]) (rest := []) ⟨hx, hb, hml, hown, hts⟩ (o_X6_search_3 l dC dI am M i j x3 hi hj hb9 hI) (cwV 3 hts gL_law_X6_search rfl rfl rfl hdX6_search_3 ⟨Nat.le_of_ble_eq_true rfl, Nat.le_of_ble_eq_true rfl⟩) (hS.preM F.K) rfl rfl hl.1 rfl (lv_room (Nat.le_of_ble_eq_true rfl)) dL_law_1016 ⟨le_rc (by omega), le_rs (by omega)⟩) F.K hS (fun r8 M1 H locs hko hv hS => ?_)
    have hLM : LM M M1 := by rw [hv]; exact LM_th hI _
    have hT : Tie S M1 := by rw [hv]; exact T.th _
    refine lv_istore (lv' := [(6, .int r8), (5, .int (nI 2)), (0, .ref b), (1, .ref (ad 57)), (2, .ref (am 0)), (3, .ref o), (4, .int (nI iL))]) hx hb dL_law_1019 hl (by decide) rfl (fun ls hl => ?_)
    refine lv_goto (tgt := 2052) hx hb dL_law_1021 (by decide) ?_
    exact W.widen (k := 100 + 224 * (n + 1)) (n := 1200 + 10680 * (n + 1)) (by omega) (by omega) (kk9 S M1 _ _ _ (hI9.next hLQ hLM hT) hS (lv_sub hl [2, 3, 4, 5, 6] rfl))
  · skip
    refine lv_istore (lv' := [(5, .int (nI 0)), (0, .ref b), (1, .ref (ad 57)), (2, .ref (am 0)), (3, .ref o), (4, .int (nI iL))]) hx hb dL_law_995 hl (by decide) rfl (fun ls hl => ?_)
    refine lv_aload_n hx hb dL_law_997 rfl (lv_at hl 3 rfl) ?_
    refine lv_aload_n hx hb dL_law_998 rfl (lv_at hl 1 rfl) ?_
    refine lv_iload hx hb dL_law_999 (lv_at hl 5 rfl) ?_
    refine lv_iconst (v := nI 1) hx hb dL_law_1001 (by decide) ?_
    refine kn_iadd hx hb dL_law_1002 ?_
    refine va_sld hx hb F.sc F.bl (fun z => Nat.not_le.mpr F.bl z) hS.st (vp_in_nI (show iL + 1 < L by omega) (by omega)) dL_law_1003 ?_
    rw [← hx1]
    refine lv_aload_n hx hb dL_law_1004 rfl (lv_at hl 1 rfl) ?_
    refine lv_iload hx hb dL_law_1005 (lv_at hl 5 rfl) ?_
    refine lv_iconst (v := nI 2) hx hb dL_law_1007 (by decide) ?_
    refine kn_iadd hx hb dL_law_1008 ?_
    refine va_sld hx hb F.sc F.bl (fun z => Nat.not_le.mpr F.bl z) hS.st (vp_in_nI (show iL + 2 < L by omega) (by omega)) dL_law_1009 ?_
    rw [← hx2]
    refine lv_aload_n hx hb dL_law_1010 rfl (lv_at hl 1 rfl) ?_
    refine lv_iload hx hb dL_law_1011 (lv_at hl 5 rfl) ?_
    refine lv_iconst (v := nI 3) hx hb dL_law_1013 (by decide) ?_
    refine kn_iadd hx hb dL_law_1014 ?_
    refine va_sld hx hb F.sc F.bl (fun z => Nat.not_le.mpr F.bl z) hS.st (vp_in_nI (show iL + 3 < L by omega) (by omega)) dL_law_1015 ?_
    rw [← hx3]
    have hI := hI9.m
    have T := hI9.T
    have hc : M.2.2.2.1 + 12 < 1000000 := by have := hI9.mp; omega
    have hn := (hI.1 i hi).1
    refine ll_m (va_runV (As := [.int (nI i), .int (nI j), .int (nI v)]) (rest := []) ⟨hx, hb, hml, hown, hts⟩ (m_X6_search l dC dI am M i j v hi hj hv9 hI) (cwV 3 hts gL_law_X6_search rfl rfl rfl hdX6_search_3 ⟨Nat.le_of_ble_eq_true rfl, Nat.le_of_ble_eq_true rfl⟩) (hS.preM F.K) rfl rfl hl.1 rfl (lv_room (Nat.le_of_ble_eq_true rfl)) dL_law_1016 ⟨le_rc (by omega), le_rs (by omega)⟩) F.K hS (fun r8 M1 H locs hko hv hS => ?_)
    have hLM : LM M M1 := LM_two hI (hv.imp id (fun h => ⟨h.1, h.2.2⟩))
    have hT : Tie S1 M1 := B_search T hw hv
    refine lv_istore (lv' := [(6, .int r8), (5, .int (nI 0)), (0, .ref b), (1, .ref (ad 57)), (2, .ref (am 0)), (3, .ref o), (4, .int (nI iL))]) hx hb dL_law_1019 hl (by decide) rfl (fun ls hl => ?_)
    refine lv_goto (tgt := 2052) hx hb dL_law_1021 (by decide) ?_
    exact W.widen (k := 100 + 224 * (n + 1)) (n := 1200 + 10680 * (n + 1)) (by omega) (by omega) (kk9 S1 M1 _ _ _ (hI9.next hLQ hLM hT) hS (lv_sub hl [2, 3, 4, 5, 6] rfl))
set_option maxHeartbeats 4000000 in
set_option maxRecDepth 100000 in
theorem lc_18 {p : Program} {l : Launch} {e : Env} {s : State} {m : MethodId} {below : List Frame} {meth : Method} {c : Code} {b L : Nat} {xs : Nat → Int32} {dC : Nat → ClassId} {dI : Nat → Nat → Nat} {cB : ClassId} {ad am : Nat → Nat} {o n iL : Nat} {Q : State → Prop} (F : LF p l s m c b L xs dC dI cB ad am o) (hni : iL = 5 * n) (hiL : iL + 5 ≤ L) : LCase p l e s m below meth c b dC dI ad am o n iL Q 1024 := by
  intro S M H locs hI9 hS kk9 ls hl
  have hx := F.x
  have hb := F.b
  have hml := F.ml
  have hown := F.own
  have hts := F.ts
  have hL := F.hL
  have hn9 : n ≤ 511 := by omega
  refine lv_aload_n hx hb dL_law_1024 rfl (lv_at hl 1 rfl) ?_
  refine lv_aload_n hx hb dL_law_1025 rfl (lv_at hl 0 rfl) ?_
  refine lv_iload hx hb dL_law_1026 (lv_at hl 4 rfl) ?_
  refine lv_iconst (v := nI 1) hx hb dL_law_1028 (by decide) ?_
  refine kn_iadd hx hb dL_law_1029 ?_
  refine va_sld hx hb F.sc F.bl (fun z => Nat.not_le.mpr F.bl z) hS.st (vp_in_nI (show iL + 1 < L by omega) (by omega)) dL_law_1030 ?_
  obtain ⟨x1, hx1⟩ : ∃ z, z = xs (nI (iL + 1)).toNatClampNeg := ⟨_, rfl⟩
  rw [← hx1]
  refine lv_aload_n hx hb dL_law_1031 rfl (lv_at hl 0 rfl) ?_
  refine lv_iload hx hb dL_law_1032 (lv_at hl 4 rfl) ?_
  refine lv_iconst (v := nI 2) hx hb dL_law_1034 (by decide) ?_
  refine kn_iadd hx hb dL_law_1035 ?_
  refine va_sld hx hb F.sc F.bl (fun z => Nat.not_le.mpr F.bl z) hS.st (vp_in_nI (show iL + 2 < L by omega) (by omega)) dL_law_1036 ?_
  obtain ⟨x2, hx2⟩ : ∃ z, z = xs (nI (iL + 2)).toNatClampNeg := ⟨_, rfl⟩
  rw [← hx2]
  refine lv_aload_n hx hb dL_law_1037 rfl (lv_at hl 0 rfl) ?_
  refine lv_iload hx hb dL_law_1038 (lv_at hl 4 rfl) ?_
  refine lv_iconst (v := nI 3) hx hb dL_law_1040 (by decide) ?_
  refine kn_iadd hx hb dL_law_1041 ?_
  refine va_sld hx hb F.sc F.bl (fun z => Nat.not_le.mpr F.bl z) hS.st (vp_in_nI (show iL + 3 < L by omega) (by omega)) dL_law_1042 ?_
  obtain ⟨x3, hx3⟩ : ∃ z, z = xs (nI (iL + 3)).toNatClampNeg := ⟨_, rfl⟩
  rw [← hx3]
  refine lv_aload_n hx hb dL_law_1043 rfl (lv_at hl 0 rfl) ?_
  refine lv_iload hx hb dL_law_1044 (lv_at hl 4 rfl) ?_
  refine lv_iconst (v := nI 4) hx hb dL_law_1046 (by decide) ?_
  refine kn_iadd hx hb dL_law_1047 ?_
  refine va_sld hx hb F.sc F.bl (fun z => Nat.not_le.mpr F.bl z) hS.st (vp_in_nI (show iL + 4 < L by omega) (by omega)) dL_law_1048 ?_
  obtain ⟨x4, hx4⟩ : ∃ z, z = xs (nI (iL + 4)).toNatClampNeg := ⟨_, rfl⟩
  rw [← hx4]
  refine lv_aload_n hx hb dL_law_1049 rfl (lv_at hl 3 rfl) ?_
  refine ll_w (vx_runSW (As := [.ref (ad 57), .int x1, .int x2, .int x3, .int x4, .ref o]) (rest := []) ⟨hx, hb, hml, hown, hts⟩ (m_L_near l F.st dC dI cB ad o S x1 x2 x3 x4 hI9.x hI9.x5 (by have := hI9.xp; omega)) (vx_cwSW 6 hts gL_law_L_near rfl rfl rfl hdL_near_6.2 ⟨Nat.le_of_ble_eq_true rfl, Nat.le_of_ble_eq_true rfl⟩) (hS.preW F.K) rfl rfl hl.1 rfl (lv_room (Nat.le_of_ble_eq_true rfl)) dL_law_1050 ⟨le_rc (by omega), le_rs (by omega)⟩) F.K hS (fun r0 S1 n1 H locs hq9 hN hS => ?_)
  have hLQ : LQ S S1 := hq9.1
  have hR : R_near x1 x2 x3 x4 S r0 S1 n1 := hq9.2
  clear hq9
  rcases hR with ⟨hb9, rfl, rfl⟩ | ⟨i, hi, rfl, hb9, rfl, rfl⟩ | ⟨i, j, hi, hj, rfl, rfl, hb9, rfl, rfl⟩ | ⟨i, j, v, hi, hj, hv9, rfl, rfl, rfl, hb9, rfl, rfl⟩ | ⟨i, j, v, k, r7, hi, hj, hv9, hk, rfl, rfl, rfl, rfl, rfl, rfl, hw1, hw2⟩
  · skip
    refine lv_istore (lv' := [(5, .int (nI 1)), (0, .ref b), (1, .ref (ad 57)), (2, .ref (am 0)), (3, .ref o), (4, .int (nI iL))]) hx hb dL_law_1053 hl (by decide) rfl (fun ls hl => ?_)
    refine lv_aload_n hx hb dL_law_1055 rfl (lv_at hl 3 rfl) ?_
    refine lv_aload_n hx hb dL_law_1056 rfl (lv_at hl 1 rfl) ?_
    refine lv_iload hx hb dL_law_1057 (lv_at hl 5 rfl) ?_
    refine lv_iconst (v := nI 1) hx hb dL_law_1059 (by decide) ?_
    refine kn_iadd hx hb dL_law_1060 ?_
    refine va_sld hx hb F.sc F.bl (fun z => Nat.not_le.mpr F.bl z) hS.st (vp_in_nI (show iL + 1 < L by omega) (by omega)) dL_law_1061 ?_
    rw [← hx1]
    refine lv_aload_n hx hb dL_law_1062 rfl (lv_at hl 1 rfl) ?_
    refine lv_iload hx hb dL_law_1063 (lv_at hl 5 rfl) ?_
    refine lv_iconst (v := nI 2) hx hb dL_law_1065 (by decide) ?_
    refine kn_iadd hx hb dL_law_1066 ?_
    refine va_sld hx hb F.sc F.bl (fun z => Nat.not_le.mpr F.bl z) hS.st (vp_in_nI (show iL + 2 < L by omega) (by omega)) dL_law_1067 ?_
    rw [← hx2]
    refine lv_aload_n hx hb dL_law_1068 rfl (lv_at hl 1 rfl) ?_
    refine lv_iload hx hb dL_law_1069 (lv_at hl 5 rfl) ?_
    refine lv_iconst (v := nI 3) hx hb dL_law_1071 (by decide) ?_
    refine kn_iadd hx hb dL_law_1072 ?_
    refine va_sld hx hb F.sc F.bl (fun z => Nat.not_le.mpr F.bl z) hS.st (vp_in_nI (show iL + 3 < L by omega) (by omega)) dL_law_1073 ?_
    rw [← hx3]
    refine lv_aload_n hx hb dL_law_1074 rfl (lv_at hl 1 rfl) ?_
    refine lv_iload hx hb dL_law_1075 (lv_at hl 5 rfl) ?_
    refine lv_iconst (v := nI 4) hx hb dL_law_1077 (by decide) ?_
    refine kn_iadd hx hb dL_law_1078 ?_
    refine va_sld hx hb F.sc F.bl (fun z => Nat.not_le.mpr F.bl z) hS.st (vp_in_nI (show iL + 4 < L by omega) (by omega)) dL_law_1079 ?_
    rw [← hx4]
    have hI := hI9.m
    have T := hI9.T
    have hc : M.2.2.2.1 + 12 < 1000000 := by have := hI9.mp; omega
    refine ll_m (va_runV (As := [.int x1, .int x2, .int x3, .int x4]) (rest := []) ⟨hx, hb, hml, hown, hts⟩ (o_X6_near_1 l dC dI am M x1 x2 x3 x4 hb9 hI) (cwV 4 hts gL_law_X6_near rfl rfl rfl hdX6_near_4 ⟨Nat.le_of_ble_eq_true rfl, Nat.le_of_ble_eq_true rfl⟩) (hS.preM F.K) rfl rfl hl.1 rfl (lv_room (Nat.le_of_ble_eq_true rfl)) dL_law_1080 ⟨le_rc (by omega), le_rs (by omega)⟩) F.K hS (fun r8 M1 H locs hko hv hS => ?_)
    have hLM : LM M M1 := by rw [hv]; exact LM_th hI _
    have hT : Tie S M1 := by rw [hv]; exact T.th _
    refine lv_istore (lv' := [(6, .int r8), (5, .int (nI 1)), (0, .ref b), (1, .ref (ad 57)), (2, .ref (am 0)), (3, .ref o), (4, .int (nI iL))]) hx hb dL_law_1083 hl (by decide) rfl (fun ls hl => ?_)
    refine lv_goto (tgt := 2052) hx hb dL_law_1085 (by decide) ?_
    exact W.widen (k := 100 + 224 * (n + 1)) (n := 1200 + 10680 * (n + 1)) (by omega) (by omega) (kk9 S M1 _ _ _ (hI9.next hLQ hLM hT) hS (lv_sub hl [2, 3, 4, 5, 6] rfl))
  · skip
    refine lv_istore (lv' := [(5, .int (nI 1)), (0, .ref b), (1, .ref (ad 57)), (2, .ref (am 0)), (3, .ref o), (4, .int (nI iL))]) hx hb dL_law_1053 hl (by decide) rfl (fun ls hl => ?_)
    refine lv_aload_n hx hb dL_law_1055 rfl (lv_at hl 3 rfl) ?_
    refine lv_aload_n hx hb dL_law_1056 rfl (lv_at hl 1 rfl) ?_
    refine lv_iload hx hb dL_law_1057 (lv_at hl 5 rfl) ?_
    refine lv_iconst (v := nI 1) hx hb dL_law_1059 (by decide) ?_
    refine kn_iadd hx hb dL_law_1060 ?_
    refine va_sld hx hb F.sc F.bl (fun z => Nat.not_le.mpr F.bl z) hS.st (vp_in_nI (show iL + 1 < L by omega) (by omega)) dL_law_1061 ?_
    rw [← hx1]
    refine lv_aload_n hx hb dL_law_1062 rfl (lv_at hl 1 rfl) ?_
    refine lv_iload hx hb dL_law_1063 (lv_at hl 5 rfl) ?_
    refine lv_iconst (v := nI 2) hx hb dL_law_1065 (by decide) ?_
    refine kn_iadd hx hb dL_law_1066 ?_
    refine va_sld hx hb F.sc F.bl (fun z => Nat.not_le.mpr F.bl z) hS.st (vp_in_nI (show iL + 2 < L by omega) (by omega)) dL_law_1067 ?_
    rw [← hx2]
    refine lv_aload_n hx hb dL_law_1068 rfl (lv_at hl 1 rfl) ?_
    refine lv_iload hx hb dL_law_1069 (lv_at hl 5 rfl) ?_
    refine lv_iconst (v := nI 3) hx hb dL_law_1071 (by decide) ?_
    refine kn_iadd hx hb dL_law_1072 ?_
    refine va_sld hx hb F.sc F.bl (fun z => Nat.not_le.mpr F.bl z) hS.st (vp_in_nI (show iL + 3 < L by omega) (by omega)) dL_law_1073 ?_
    rw [← hx3]
    refine lv_aload_n hx hb dL_law_1074 rfl (lv_at hl 1 rfl) ?_
    refine lv_iload hx hb dL_law_1075 (lv_at hl 5 rfl) ?_
    refine lv_iconst (v := nI 4) hx hb dL_law_1077 (by decide) ?_
    refine kn_iadd hx hb dL_law_1078 ?_
    refine va_sld hx hb F.sc F.bl (fun z => Nat.not_le.mpr F.bl z) hS.st (vp_in_nI (show iL + 4 < L by omega) (by omega)) dL_law_1079 ?_
    rw [← hx4]
    have hI := hI9.m
    have T := hI9.T
    have hc : M.2.2.2.1 + 12 < 1000000 := by have := hI9.mp; omega
    have hn := (hI.1 i hi).1
    refine ll_m (va_runV (As := [.int (nI i), .int x2, .int x3, .int x4]) (rest := []) ⟨hx, hb, hml, hown, hts⟩ (o_X6_near_2 l dC dI am M i x2 x3 x4 hi hb9 hI) (cwV 4 hts gL_law_X6_near rfl rfl rfl hdX6_near_4 ⟨Nat.le_of_ble_eq_true rfl, Nat.le_of_ble_eq_true rfl⟩) (hS.preM F.K) rfl rfl hl.1 rfl (lv_room (Nat.le_of_ble_eq_true rfl)) dL_law_1080 ⟨le_rc (by omega), le_rs (by omega)⟩) F.K hS (fun r8 M1 H locs hko hv hS => ?_)
    have hLM : LM M M1 := by rw [hv]; exact LM_th hI _
    have hT : Tie S M1 := by rw [hv]; exact T.th _
    refine lv_istore (lv' := [(6, .int r8), (5, .int (nI 1)), (0, .ref b), (1, .ref (ad 57)), (2, .ref (am 0)), (3, .ref o), (4, .int (nI iL))]) hx hb dL_law_1083 hl (by decide) rfl (fun ls hl => ?_)
    refine lv_goto (tgt := 2052) hx hb dL_law_1085 (by decide) ?_
    exact W.widen (k := 100 + 224 * (n + 1)) (n := 1200 + 10680 * (n + 1)) (by omega) (by omega) (kk9 S M1 _ _ _ (hI9.next hLQ hLM hT) hS (lv_sub hl [2, 3, 4, 5, 6] rfl))
  · skip
    refine lv_istore (lv' := [(5, .int (nI 2)), (0, .ref b), (1, .ref (ad 57)), (2, .ref (am 0)), (3, .ref o), (4, .int (nI iL))]) hx hb dL_law_1053 hl (by decide) rfl (fun ls hl => ?_)
    refine lv_aload_n hx hb dL_law_1055 rfl (lv_at hl 3 rfl) ?_
    refine lv_aload_n hx hb dL_law_1056 rfl (lv_at hl 1 rfl) ?_
    refine lv_iload hx hb dL_law_1057 (lv_at hl 5 rfl) ?_
    refine lv_iconst (v := nI 1) hx hb dL_law_1059 (by decide) ?_
    refine kn_iadd hx hb dL_law_1060 ?_
    refine va_sld hx hb F.sc F.bl (fun z => Nat.not_le.mpr F.bl z) hS.st (vp_in_nI (show iL + 1 < L by omega) (by omega)) dL_law_1061 ?_
    rw [← hx1]
    refine lv_aload_n hx hb dL_law_1062 rfl (lv_at hl 1 rfl) ?_
    refine lv_iload hx hb dL_law_1063 (lv_at hl 5 rfl) ?_
    refine lv_iconst (v := nI 2) hx hb dL_law_1065 (by decide) ?_
    refine kn_iadd hx hb dL_law_1066 ?_
    refine va_sld hx hb F.sc F.bl (fun z => Nat.not_le.mpr F.bl z) hS.st (vp_in_nI (show iL + 2 < L by omega) (by omega)) dL_law_1067 ?_
    rw [← hx2]
    refine lv_aload_n hx hb dL_law_1068 rfl (lv_at hl 1 rfl) ?_
    refine lv_iload hx hb dL_law_1069 (lv_at hl 5 rfl) ?_
    refine lv_iconst (v := nI 3) hx hb dL_law_1071 (by decide) ?_
    refine kn_iadd hx hb dL_law_1072 ?_
    refine va_sld hx hb F.sc F.bl (fun z => Nat.not_le.mpr F.bl z) hS.st (vp_in_nI (show iL + 3 < L by omega) (by omega)) dL_law_1073 ?_
    rw [← hx3]
    refine lv_aload_n hx hb dL_law_1074 rfl (lv_at hl 1 rfl) ?_
    refine lv_iload hx hb dL_law_1075 (lv_at hl 5 rfl) ?_
    refine lv_iconst (v := nI 4) hx hb dL_law_1077 (by decide) ?_
    refine kn_iadd hx hb dL_law_1078 ?_
    refine va_sld hx hb F.sc F.bl (fun z => Nat.not_le.mpr F.bl z) hS.st (vp_in_nI (show iL + 4 < L by omega) (by omega)) dL_law_1079 ?_
    rw [← hx4]
    have hI := hI9.m
    have T := hI9.T
    have hc : M.2.2.2.1 + 12 < 1000000 := by have := hI9.mp; omega
    have hn := (hI.1 i hi).1
    refine ll_m (va_runV (As := [.int (nI i), .int (nI j), .int x3, .int x4]) (rest := []) ⟨hx, hb, hml, hown, hts⟩ (o_X6_near_3 l dC dI am M i j x3 x4 hi hj hb9 hI) (cwV 4 hts gL_law_X6_near rfl rfl rfl hdX6_near_4 ⟨Nat.le_of_ble_eq_true rfl, Nat.le_of_ble_eq_true rfl⟩) (hS.preM F.K) rfl rfl hl.1 rfl (lv_room (Nat.le_of_ble_eq_true rfl)) dL_law_1080 ⟨le_rc (by omega), le_rs (by omega)⟩) F.K hS (fun r8 M1 H locs hko hv hS => ?_)
    have hLM : LM M M1 := by rw [hv]; exact LM_th hI _
    have hT : Tie S M1 := by rw [hv]; exact T.th _
    refine lv_istore (lv' := [(6, .int r8), (5, .int (nI 2)), (0, .ref b), (1, .ref (ad 57)), (2, .ref (am 0)), (3, .ref o), (4, .int (nI iL))]) hx hb dL_law_1083 hl (by decide) rfl (fun ls hl => ?_)
    refine lv_goto (tgt := 2052) hx hb dL_law_1085 (by decide) ?_
    exact W.widen (k := 100 + 224 * (n + 1)) (n := 1200 + 10680 * (n + 1)) (by omega) (by omega) (kk9 S M1 _ _ _ (hI9.next hLQ hLM hT) hS (lv_sub hl [2, 3, 4, 5, 6] rfl))
  · skip
    refine lv_istore (lv' := [(5, .int (nI 2)), (0, .ref b), (1, .ref (ad 57)), (2, .ref (am 0)), (3, .ref o), (4, .int (nI iL))]) hx hb dL_law_1053 hl (by decide) rfl (fun ls hl => ?_)
    refine lv_aload_n hx hb dL_law_1055 rfl (lv_at hl 3 rfl) ?_
    refine lv_aload_n hx hb dL_law_1056 rfl (lv_at hl 1 rfl) ?_
    refine lv_iload hx hb dL_law_1057 (lv_at hl 5 rfl) ?_
    refine lv_iconst (v := nI 1) hx hb dL_law_1059 (by decide) ?_
    refine kn_iadd hx hb dL_law_1060 ?_
    refine va_sld hx hb F.sc F.bl (fun z => Nat.not_le.mpr F.bl z) hS.st (vp_in_nI (show iL + 1 < L by omega) (by omega)) dL_law_1061 ?_
    rw [← hx1]
    refine lv_aload_n hx hb dL_law_1062 rfl (lv_at hl 1 rfl) ?_
    refine lv_iload hx hb dL_law_1063 (lv_at hl 5 rfl) ?_
    refine lv_iconst (v := nI 2) hx hb dL_law_1065 (by decide) ?_
    refine kn_iadd hx hb dL_law_1066 ?_
    refine va_sld hx hb F.sc F.bl (fun z => Nat.not_le.mpr F.bl z) hS.st (vp_in_nI (show iL + 2 < L by omega) (by omega)) dL_law_1067 ?_
    rw [← hx2]
    refine lv_aload_n hx hb dL_law_1068 rfl (lv_at hl 1 rfl) ?_
    refine lv_iload hx hb dL_law_1069 (lv_at hl 5 rfl) ?_
    refine lv_iconst (v := nI 3) hx hb dL_law_1071 (by decide) ?_
    refine kn_iadd hx hb dL_law_1072 ?_
    refine va_sld hx hb F.sc F.bl (fun z => Nat.not_le.mpr F.bl z) hS.st (vp_in_nI (show iL + 3 < L by omega) (by omega)) dL_law_1073 ?_
    rw [← hx3]
    refine lv_aload_n hx hb dL_law_1074 rfl (lv_at hl 1 rfl) ?_
    refine lv_iload hx hb dL_law_1075 (lv_at hl 5 rfl) ?_
    refine lv_iconst (v := nI 4) hx hb dL_law_1077 (by decide) ?_
    refine kn_iadd hx hb dL_law_1078 ?_
    refine va_sld hx hb F.sc F.bl (fun z => Nat.not_le.mpr F.bl z) hS.st (vp_in_nI (show iL + 4 < L by omega) (by omega)) dL_law_1079 ?_
    rw [← hx4]
    have hI := hI9.m
    have T := hI9.T
    have hc : M.2.2.2.1 + 12 < 1000000 := by have := hI9.mp; omega
    have hn := (hI.1 i hi).1
    refine ll_m (va_runV (As := [.int (nI i), .int (nI j), .int (nI v), .int x4]) (rest := []) ⟨hx, hb, hml, hown, hts⟩ (o_X6_near_4 l dC dI am M i j v x4 hi hj hv9 hb9 hI) (cwV 4 hts gL_law_X6_near rfl rfl rfl hdX6_near_4 ⟨Nat.le_of_ble_eq_true rfl, Nat.le_of_ble_eq_true rfl⟩) (hS.preM F.K) rfl rfl hl.1 rfl (lv_room (Nat.le_of_ble_eq_true rfl)) dL_law_1080 ⟨le_rc (by omega), le_rs (by omega)⟩) F.K hS (fun r8 M1 H locs hko hv hS => ?_)
    have hLM : LM M M1 := by rw [hv]; exact LM_th hI _
    have hT : Tie S M1 := by rw [hv]; exact T.th _
    refine lv_istore (lv' := [(6, .int r8), (5, .int (nI 2)), (0, .ref b), (1, .ref (ad 57)), (2, .ref (am 0)), (3, .ref o), (4, .int (nI iL))]) hx hb dL_law_1083 hl (by decide) rfl (fun ls hl => ?_)
    refine lv_goto (tgt := 2052) hx hb dL_law_1085 (by decide) ?_
    exact W.widen (k := 100 + 224 * (n + 1)) (n := 1200 + 10680 * (n + 1)) (by omega) (by omega) (kk9 S M1 _ _ _ (hI9.next hLQ hLM hT) hS (lv_sub hl [2, 3, 4, 5, 6] rfl))
  · skip
    have hw := And.intro hw1 hw2
    refine lv_istore (lv' := [(5, .int (nI 0)), (0, .ref b), (1, .ref (ad 57)), (2, .ref (am 0)), (3, .ref o), (4, .int (nI iL))]) hx hb dL_law_1053 hl (by decide) rfl (fun ls hl => ?_)
    refine lv_aload_n hx hb dL_law_1055 rfl (lv_at hl 3 rfl) ?_
    refine lv_aload_n hx hb dL_law_1056 rfl (lv_at hl 1 rfl) ?_
    refine lv_iload hx hb dL_law_1057 (lv_at hl 5 rfl) ?_
    refine lv_iconst (v := nI 1) hx hb dL_law_1059 (by decide) ?_
    refine kn_iadd hx hb dL_law_1060 ?_
    refine va_sld hx hb F.sc F.bl (fun z => Nat.not_le.mpr F.bl z) hS.st (vp_in_nI (show iL + 1 < L by omega) (by omega)) dL_law_1061 ?_
    rw [← hx1]
    refine lv_aload_n hx hb dL_law_1062 rfl (lv_at hl 1 rfl) ?_
    refine lv_iload hx hb dL_law_1063 (lv_at hl 5 rfl) ?_
    refine lv_iconst (v := nI 2) hx hb dL_law_1065 (by decide) ?_
    refine kn_iadd hx hb dL_law_1066 ?_
    refine va_sld hx hb F.sc F.bl (fun z => Nat.not_le.mpr F.bl z) hS.st (vp_in_nI (show iL + 2 < L by omega) (by omega)) dL_law_1067 ?_
    rw [← hx2]
    refine lv_aload_n hx hb dL_law_1068 rfl (lv_at hl 1 rfl) ?_
    refine lv_iload hx hb dL_law_1069 (lv_at hl 5 rfl) ?_
    refine lv_iconst (v := nI 3) hx hb dL_law_1071 (by decide) ?_
    refine kn_iadd hx hb dL_law_1072 ?_
    refine va_sld hx hb F.sc F.bl (fun z => Nat.not_le.mpr F.bl z) hS.st (vp_in_nI (show iL + 3 < L by omega) (by omega)) dL_law_1073 ?_
    rw [← hx3]
    refine lv_aload_n hx hb dL_law_1074 rfl (lv_at hl 1 rfl) ?_
    refine lv_iload hx hb dL_law_1075 (lv_at hl 5 rfl) ?_
    refine lv_iconst (v := nI 4) hx hb dL_law_1077 (by decide) ?_
    refine kn_iadd hx hb dL_law_1078 ?_
    refine va_sld hx hb F.sc F.bl (fun z => Nat.not_le.mpr F.bl z) hS.st (vp_in_nI (show iL + 4 < L by omega) (by omega)) dL_law_1079 ?_
    rw [← hx4]
    have hI := hI9.m
    have T := hI9.T
    have hc : M.2.2.2.1 + 12 < 1000000 := by have := hI9.mp; omega
    have hn := (hI.1 i hi).1
    refine ll_m (va_runV (As := [.int (nI i), .int (nI j), .int (nI v), .int (nI k)]) (rest := []) ⟨hx, hb, hml, hown, hts⟩ (m_X6_near l dC dI am M i j v k hi hj hv9 hk hI) (cwV 4 hts gL_law_X6_near rfl rfl rfl hdX6_near_4 ⟨Nat.le_of_ble_eq_true rfl, Nat.le_of_ble_eq_true rfl⟩) (hS.preM F.K) rfl rfl hl.1 rfl (lv_room (Nat.le_of_ble_eq_true rfl)) dL_law_1080 ⟨le_rc (by omega), le_rs (by omega)⟩) F.K hS (fun r8 M1 H locs hko hv hS => ?_)
    have hLM : LM M M1 := by rw [hv.2]; exact LM_th hI 0
    have hT : Tie S1 M1 := B_same T ⟨hw.1, hw.2⟩ hv
    refine lv_istore (lv' := [(6, .int r8), (5, .int (nI 0)), (0, .ref b), (1, .ref (ad 57)), (2, .ref (am 0)), (3, .ref o), (4, .int (nI iL))]) hx hb dL_law_1083 hl (by decide) rfl (fun ls hl => ?_)
    refine lv_goto (tgt := 2052) hx hb dL_law_1085 (by decide) ?_
    exact W.widen (k := 100 + 224 * (n + 1)) (n := 1200 + 10680 * (n + 1)) (by omega) (by omega) (kk9 S1 M1 _ _ _ (hI9.next hLQ hLM hT) hS (lv_sub hl [2, 3, 4, 5, 6] rfl))
set_option maxHeartbeats 4000000 in
set_option maxRecDepth 100000 in
theorem lc_19 {p : Program} {l : Launch} {e : Env} {s : State} {m : MethodId} {below : List Frame} {meth : Method} {c : Code} {b L : Nat} {xs : Nat → Int32} {dC : Nat → ClassId} {dI : Nat → Nat → Nat} {cB : ClassId} {ad am : Nat → Nat} {o n iL : Nat} {Q : State → Prop} (F : LF p l s m c b L xs dC dI cB ad am o) (hni : iL = 5 * n) (hiL : iL + 5 ≤ L) : LCase p l e s m below meth c b dC dI ad am o n iL Q 1088 := by
  intro S M H locs hI9 hS kk9 ls hl
  have hx := F.x
  have hb := F.b
  have hml := F.ml
  have hown := F.own
  have hts := F.ts
  have hL := F.hL
  have hn9 : n ≤ 511 := by omega
  refine lv_aload_n hx hb dL_law_1088 rfl (lv_at hl 1 rfl) ?_
  refine lv_aload_n hx hb dL_law_1089 rfl (lv_at hl 0 rfl) ?_
  refine lv_iload hx hb dL_law_1090 (lv_at hl 4 rfl) ?_
  refine lv_iconst (v := nI 1) hx hb dL_law_1092 (by decide) ?_
  refine kn_iadd hx hb dL_law_1093 ?_
  refine va_sld hx hb F.sc F.bl (fun z => Nat.not_le.mpr F.bl z) hS.st (vp_in_nI (show iL + 1 < L by omega) (by omega)) dL_law_1094 ?_
  obtain ⟨x1, hx1⟩ : ∃ z, z = xs (nI (iL + 1)).toNatClampNeg := ⟨_, rfl⟩
  rw [← hx1]
  refine lv_aload_n hx hb dL_law_1095 rfl (lv_at hl 0 rfl) ?_
  refine lv_iload hx hb dL_law_1096 (lv_at hl 4 rfl) ?_
  refine lv_iconst (v := nI 2) hx hb dL_law_1098 (by decide) ?_
  refine kn_iadd hx hb dL_law_1099 ?_
  refine va_sld hx hb F.sc F.bl (fun z => Nat.not_le.mpr F.bl z) hS.st (vp_in_nI (show iL + 2 < L by omega) (by omega)) dL_law_1100 ?_
  obtain ⟨x2, hx2⟩ : ∃ z, z = xs (nI (iL + 2)).toNatClampNeg := ⟨_, rfl⟩
  rw [← hx2]
  refine lv_aload_n hx hb dL_law_1101 rfl (lv_at hl 3 rfl) ?_
  refine ll_w (vx_runSW (As := [.ref (ad 57), .int x1, .int x2, .ref o]) (rest := []) ⟨hx, hb, hml, hown, hts⟩ (m_L_kinds l F.st dC dI cB ad o S x1 x2 hI9.x hI9.x5 (by have := hI9.xp; omega)) (vx_cwSW 4 hts gL_law_L_kinds rfl rfl rfl hdL_kinds_4.2 ⟨Nat.le_of_ble_eq_true rfl, Nat.le_of_ble_eq_true rfl⟩) (hS.preW F.K) rfl rfl hl.1 rfl (lv_room (Nat.le_of_ble_eq_true rfl)) dL_law_1102 ⟨le_rc (by omega), le_rs (by omega)⟩) F.K hS (fun r0 S1 n1 H locs hq9 hN hS => ?_)
  have hLQ : LQ S S1 := hq9.1
  have hR : R_kinds x1 x2 S r0 S1 n1 := hq9.2
  clear hq9
  rcases hR with ⟨hb9, rfl, rfl⟩ | ⟨i, hi, rfl, hb9, rfl, rfl⟩ | ⟨i, j, r7, hi, hj, rfl, rfl, rfl, rfl, hw1, hw2⟩
  · skip
    refine lv_istore (lv' := [(5, .int (nI 1)), (0, .ref b), (1, .ref (ad 57)), (2, .ref (am 0)), (3, .ref o), (4, .int (nI iL))]) hx hb dL_law_1105 hl (by decide) rfl (fun ls hl => ?_)
    refine lv_aload_n hx hb dL_law_1107 rfl (lv_at hl 3 rfl) ?_
    refine lv_aload_n hx hb dL_law_1108 rfl (lv_at hl 1 rfl) ?_
    refine lv_iload hx hb dL_law_1109 (lv_at hl 5 rfl) ?_
    refine lv_iconst (v := nI 1) hx hb dL_law_1111 (by decide) ?_
    refine kn_iadd hx hb dL_law_1112 ?_
    refine va_sld hx hb F.sc F.bl (fun z => Nat.not_le.mpr F.bl z) hS.st (vp_in_nI (show iL + 1 < L by omega) (by omega)) dL_law_1113 ?_
    rw [← hx1]
    refine lv_aload_n hx hb dL_law_1114 rfl (lv_at hl 1 rfl) ?_
    refine lv_iload hx hb dL_law_1115 (lv_at hl 5 rfl) ?_
    refine lv_iconst (v := nI 2) hx hb dL_law_1117 (by decide) ?_
    refine kn_iadd hx hb dL_law_1118 ?_
    refine va_sld hx hb F.sc F.bl (fun z => Nat.not_le.mpr F.bl z) hS.st (vp_in_nI (show iL + 2 < L by omega) (by omega)) dL_law_1119 ?_
    rw [← hx2]
    have hI := hI9.m
    have T := hI9.T
    have hc : M.2.2.2.1 + 12 < 1000000 := by have := hI9.mp; omega
    refine ll_m (va_runV (As := [.int x1, .int x2]) (rest := []) ⟨hx, hb, hml, hown, hts⟩ (o_X6_kinds_1 l dC dI am M x1 x2 hb9 hI) (cwV 2 hts gL_law_X6_kinds rfl rfl rfl hdX6_kinds_2 ⟨Nat.le_of_ble_eq_true rfl, Nat.le_of_ble_eq_true rfl⟩) (hS.preM F.K) rfl rfl hl.1 rfl (lv_room (Nat.le_of_ble_eq_true rfl)) dL_law_1120 ⟨le_rc (by omega), le_rs (by omega)⟩) F.K hS (fun r8 M1 H locs hko hv hS => ?_)
    have hLM : LM M M1 := by rw [hv]; exact LM_th hI _
    have hT : Tie S M1 := by rw [hv]; exact T.th _
    refine lv_istore (lv' := [(6, .int r8), (5, .int (nI 1)), (0, .ref b), (1, .ref (ad 57)), (2, .ref (am 0)), (3, .ref o), (4, .int (nI iL))]) hx hb dL_law_1123 hl (by decide) rfl (fun ls hl => ?_)
    refine lv_goto (tgt := 2052) hx hb dL_law_1125 (by decide) ?_
    exact W.widen (k := 100 + 224 * (n + 1)) (n := 1200 + 10680 * (n + 1)) (by omega) (by omega) (kk9 S M1 _ _ _ (hI9.next hLQ hLM hT) hS (lv_sub hl [2, 3, 4, 5, 6] rfl))
  · skip
    refine lv_istore (lv' := [(5, .int (nI 1)), (0, .ref b), (1, .ref (ad 57)), (2, .ref (am 0)), (3, .ref o), (4, .int (nI iL))]) hx hb dL_law_1105 hl (by decide) rfl (fun ls hl => ?_)
    refine lv_aload_n hx hb dL_law_1107 rfl (lv_at hl 3 rfl) ?_
    refine lv_aload_n hx hb dL_law_1108 rfl (lv_at hl 1 rfl) ?_
    refine lv_iload hx hb dL_law_1109 (lv_at hl 5 rfl) ?_
    refine lv_iconst (v := nI 1) hx hb dL_law_1111 (by decide) ?_
    refine kn_iadd hx hb dL_law_1112 ?_
    refine va_sld hx hb F.sc F.bl (fun z => Nat.not_le.mpr F.bl z) hS.st (vp_in_nI (show iL + 1 < L by omega) (by omega)) dL_law_1113 ?_
    rw [← hx1]
    refine lv_aload_n hx hb dL_law_1114 rfl (lv_at hl 1 rfl) ?_
    refine lv_iload hx hb dL_law_1115 (lv_at hl 5 rfl) ?_
    refine lv_iconst (v := nI 2) hx hb dL_law_1117 (by decide) ?_
    refine kn_iadd hx hb dL_law_1118 ?_
    refine va_sld hx hb F.sc F.bl (fun z => Nat.not_le.mpr F.bl z) hS.st (vp_in_nI (show iL + 2 < L by omega) (by omega)) dL_law_1119 ?_
    rw [← hx2]
    have hI := hI9.m
    have T := hI9.T
    have hc : M.2.2.2.1 + 12 < 1000000 := by have := hI9.mp; omega
    have hn := (hI.1 i hi).1
    refine ll_m (va_runV (As := [.int (nI i), .int x2]) (rest := []) ⟨hx, hb, hml, hown, hts⟩ (o_X6_kinds_2 l dC dI am M i x2 hi hb9 hI) (cwV 2 hts gL_law_X6_kinds rfl rfl rfl hdX6_kinds_2 ⟨Nat.le_of_ble_eq_true rfl, Nat.le_of_ble_eq_true rfl⟩) (hS.preM F.K) rfl rfl hl.1 rfl (lv_room (Nat.le_of_ble_eq_true rfl)) dL_law_1120 ⟨le_rc (by omega), le_rs (by omega)⟩) F.K hS (fun r8 M1 H locs hko hv hS => ?_)
    have hLM : LM M M1 := by rw [hv]; exact LM_th hI _
    have hT : Tie S M1 := by rw [hv]; exact T.th _
    refine lv_istore (lv' := [(6, .int r8), (5, .int (nI 1)), (0, .ref b), (1, .ref (ad 57)), (2, .ref (am 0)), (3, .ref o), (4, .int (nI iL))]) hx hb dL_law_1123 hl (by decide) rfl (fun ls hl => ?_)
    refine lv_goto (tgt := 2052) hx hb dL_law_1125 (by decide) ?_
    exact W.widen (k := 100 + 224 * (n + 1)) (n := 1200 + 10680 * (n + 1)) (by omega) (by omega) (kk9 S M1 _ _ _ (hI9.next hLQ hLM hT) hS (lv_sub hl [2, 3, 4, 5, 6] rfl))
  · skip
    have hw := And.intro hw1 hw2
    refine lv_istore (lv' := [(5, .int (nI 0)), (0, .ref b), (1, .ref (ad 57)), (2, .ref (am 0)), (3, .ref o), (4, .int (nI iL))]) hx hb dL_law_1105 hl (by decide) rfl (fun ls hl => ?_)
    refine lv_aload_n hx hb dL_law_1107 rfl (lv_at hl 3 rfl) ?_
    refine lv_aload_n hx hb dL_law_1108 rfl (lv_at hl 1 rfl) ?_
    refine lv_iload hx hb dL_law_1109 (lv_at hl 5 rfl) ?_
    refine lv_iconst (v := nI 1) hx hb dL_law_1111 (by decide) ?_
    refine kn_iadd hx hb dL_law_1112 ?_
    refine va_sld hx hb F.sc F.bl (fun z => Nat.not_le.mpr F.bl z) hS.st (vp_in_nI (show iL + 1 < L by omega) (by omega)) dL_law_1113 ?_
    rw [← hx1]
    refine lv_aload_n hx hb dL_law_1114 rfl (lv_at hl 1 rfl) ?_
    refine lv_iload hx hb dL_law_1115 (lv_at hl 5 rfl) ?_
    refine lv_iconst (v := nI 2) hx hb dL_law_1117 (by decide) ?_
    refine kn_iadd hx hb dL_law_1118 ?_
    refine va_sld hx hb F.sc F.bl (fun z => Nat.not_le.mpr F.bl z) hS.st (vp_in_nI (show iL + 2 < L by omega) (by omega)) dL_law_1119 ?_
    rw [← hx2]
    have hI := hI9.m
    have T := hI9.T
    have hc : M.2.2.2.1 + 12 < 1000000 := by have := hI9.mp; omega
    have hn := (hI.1 i hi).1
    refine ll_m (va_runV (As := [.int (nI i), .int (nI j)]) (rest := []) ⟨hx, hb, hml, hown, hts⟩ (m_X6_kinds l dC dI am M i j hi hj hI) (cwV 2 hts gL_law_X6_kinds rfl rfl rfl hdX6_kinds_2 ⟨Nat.le_of_ble_eq_true rfl, Nat.le_of_ble_eq_true rfl⟩) (hS.preM F.K) rfl rfl hl.1 rfl (lv_room (Nat.le_of_ble_eq_true rfl)) dL_law_1120 ⟨le_rc (by omega), le_rs (by omega)⟩) F.K hS (fun r8 M1 H locs hko hv hS => ?_)
    have hLM : LM M M1 := by rw [hv.2]; exact LM_th hI 0
    have hT : Tie S1 M1 := B_same T ⟨hw.1, hw.2⟩ hv
    refine lv_istore (lv' := [(6, .int r8), (5, .int (nI 0)), (0, .ref b), (1, .ref (ad 57)), (2, .ref (am 0)), (3, .ref o), (4, .int (nI iL))]) hx hb dL_law_1123 hl (by decide) rfl (fun ls hl => ?_)
    refine lv_goto (tgt := 2052) hx hb dL_law_1125 (by decide) ?_
    exact W.widen (k := 100 + 224 * (n + 1)) (n := 1200 + 10680 * (n + 1)) (by omega) (by omega) (kk9 S1 M1 _ _ _ (hI9.next hLQ hLM hT) hS (lv_sub hl [2, 3, 4, 5, 6] rfl))
set_option maxHeartbeats 4000000 in
set_option maxRecDepth 100000 in
theorem lc_20 {p : Program} {l : Launch} {e : Env} {s : State} {m : MethodId} {below : List Frame} {meth : Method} {c : Code} {b L : Nat} {xs : Nat → Int32} {dC : Nat → ClassId} {dI : Nat → Nat → Nat} {cB : ClassId} {ad am : Nat → Nat} {o n iL : Nat} {Q : State → Prop} (F : LF p l s m c b L xs dC dI cB ad am o) (hni : iL = 5 * n) (hiL : iL + 5 ≤ L) : LCase p l e s m below meth c b dC dI ad am o n iL Q 1128 := by
  intro S M H locs hI9 hS kk9 ls hl
  have hx := F.x
  have hb := F.b
  have hml := F.ml
  have hown := F.own
  have hts := F.ts
  have hL := F.hL
  have hn9 : n ≤ 511 := by omega
  refine lv_aload_n hx hb dL_law_1128 rfl (lv_at hl 1 rfl) ?_
  refine lv_aload_n hx hb dL_law_1129 rfl (lv_at hl 0 rfl) ?_
  refine lv_iload hx hb dL_law_1130 (lv_at hl 4 rfl) ?_
  refine lv_iconst (v := nI 1) hx hb dL_law_1132 (by decide) ?_
  refine kn_iadd hx hb dL_law_1133 ?_
  refine va_sld hx hb F.sc F.bl (fun z => Nat.not_le.mpr F.bl z) hS.st (vp_in_nI (show iL + 1 < L by omega) (by omega)) dL_law_1134 ?_
  obtain ⟨x1, hx1⟩ : ∃ z, z = xs (nI (iL + 1)).toNatClampNeg := ⟨_, rfl⟩
  rw [← hx1]
  refine lv_aload_n hx hb dL_law_1135 rfl (lv_at hl 0 rfl) ?_
  refine lv_iload hx hb dL_law_1136 (lv_at hl 4 rfl) ?_
  refine lv_iconst (v := nI 2) hx hb dL_law_1138 (by decide) ?_
  refine kn_iadd hx hb dL_law_1139 ?_
  refine va_sld hx hb F.sc F.bl (fun z => Nat.not_le.mpr F.bl z) hS.st (vp_in_nI (show iL + 2 < L by omega) (by omega)) dL_law_1140 ?_
  obtain ⟨x2, hx2⟩ : ∃ z, z = xs (nI (iL + 2)).toNatClampNeg := ⟨_, rfl⟩
  rw [← hx2]
  refine lv_aload_n hx hb dL_law_1141 rfl (lv_at hl 0 rfl) ?_
  refine lv_iload hx hb dL_law_1142 (lv_at hl 4 rfl) ?_
  refine lv_iconst (v := nI 3) hx hb dL_law_1144 (by decide) ?_
  refine kn_iadd hx hb dL_law_1145 ?_
  refine va_sld hx hb F.sc F.bl (fun z => Nat.not_le.mpr F.bl z) hS.st (vp_in_nI (show iL + 3 < L by omega) (by omega)) dL_law_1146 ?_
  obtain ⟨x3, hx3⟩ : ∃ z, z = xs (nI (iL + 3)).toNatClampNeg := ⟨_, rfl⟩
  rw [← hx3]
  refine lv_aload_n hx hb dL_law_1147 rfl (lv_at hl 3 rfl) ?_
  refine ll_w (vx_runSW (As := [.ref (ad 57), .int x1, .int x2, .int x3, .ref o]) (rest := []) ⟨hx, hb, hml, hown, hts⟩ (m_L_ahead l F.st dC dI cB ad o S x1 x2 x3 hI9.x hI9.x5 (by have := hI9.xp; omega)) (vx_cwSW 5 hts gL_law_L_ahead rfl rfl rfl hdL_ahead_5.2 ⟨Nat.le_of_ble_eq_true rfl, Nat.le_of_ble_eq_true rfl⟩) (hS.preW F.K) rfl rfl hl.1 rfl (lv_room (Nat.le_of_ble_eq_true rfl)) dL_law_1148 ⟨le_rc (by omega), le_rs (by omega)⟩) F.K hS (fun r0 S1 n1 H locs hq9 hN hS => ?_)
  have hLQ : LQ S S1 := hq9.1
  have hR : R_ahead x1 x2 x3 S r0 S1 n1 := hq9.2
  clear hq9
  rcases hR with ⟨hb9, rfl, rfl⟩ | ⟨i, hi, rfl, hb9, rfl, rfl⟩ | ⟨i, j, hi, hj, rfl, rfl, hb9, rfl, rfl⟩ | ⟨i, j, v, r7, hi, hj, hv9, rfl, rfl, rfl, rfl, rfl, hw1, hw2⟩
  · skip
    refine lv_istore (lv' := [(5, .int (nI 1)), (0, .ref b), (1, .ref (ad 57)), (2, .ref (am 0)), (3, .ref o), (4, .int (nI iL))]) hx hb dL_law_1151 hl (by decide) rfl (fun ls hl => ?_)
    refine lv_aload_n hx hb dL_law_1153 rfl (lv_at hl 3 rfl) ?_
    refine lv_aload_n hx hb dL_law_1154 rfl (lv_at hl 1 rfl) ?_
    refine lv_iload hx hb dL_law_1155 (lv_at hl 5 rfl) ?_
    refine lv_iconst (v := nI 1) hx hb dL_law_1157 (by decide) ?_
    refine kn_iadd hx hb dL_law_1158 ?_
    refine va_sld hx hb F.sc F.bl (fun z => Nat.not_le.mpr F.bl z) hS.st (vp_in_nI (show iL + 1 < L by omega) (by omega)) dL_law_1159 ?_
    rw [← hx1]
    refine lv_aload_n hx hb dL_law_1160 rfl (lv_at hl 1 rfl) ?_
    refine lv_iload hx hb dL_law_1161 (lv_at hl 5 rfl) ?_
    refine lv_iconst (v := nI 2) hx hb dL_law_1163 (by decide) ?_
    refine kn_iadd hx hb dL_law_1164 ?_
    refine va_sld hx hb F.sc F.bl (fun z => Nat.not_le.mpr F.bl z) hS.st (vp_in_nI (show iL + 2 < L by omega) (by omega)) dL_law_1165 ?_
    rw [← hx2]
    refine lv_aload_n hx hb dL_law_1166 rfl (lv_at hl 1 rfl) ?_
    refine lv_iload hx hb dL_law_1167 (lv_at hl 5 rfl) ?_
    refine lv_iconst (v := nI 3) hx hb dL_law_1169 (by decide) ?_
    refine kn_iadd hx hb dL_law_1170 ?_
    refine va_sld hx hb F.sc F.bl (fun z => Nat.not_le.mpr F.bl z) hS.st (vp_in_nI (show iL + 3 < L by omega) (by omega)) dL_law_1171 ?_
    rw [← hx3]
    have hI := hI9.m
    have T := hI9.T
    have hc : M.2.2.2.1 + 12 < 1000000 := by have := hI9.mp; omega
    refine ll_m (va_runV (As := [.int x1, .int x2, .int x3]) (rest := []) ⟨hx, hb, hml, hown, hts⟩ (o_X6_ahead_1 l dC dI am M x1 x2 x3 hb9 hI) (cwV 3 hts gL_law_X6_ahead rfl rfl rfl hdX6_ahead_3 ⟨Nat.le_of_ble_eq_true rfl, Nat.le_of_ble_eq_true rfl⟩) (hS.preM F.K) rfl rfl hl.1 rfl (lv_room (Nat.le_of_ble_eq_true rfl)) dL_law_1172 ⟨le_rc (by omega), le_rs (by omega)⟩) F.K hS (fun r8 M1 H locs hko hv hS => ?_)
    have hLM : LM M M1 := by rw [hv]; exact LM_th hI _
    have hT : Tie S M1 := by rw [hv]; exact T.th _
    refine lv_istore (lv' := [(6, .int r8), (5, .int (nI 1)), (0, .ref b), (1, .ref (ad 57)), (2, .ref (am 0)), (3, .ref o), (4, .int (nI iL))]) hx hb dL_law_1175 hl (by decide) rfl (fun ls hl => ?_)
    refine lv_goto (tgt := 2052) hx hb dL_law_1177 (by decide) ?_
    exact W.widen (k := 100 + 224 * (n + 1)) (n := 1200 + 10680 * (n + 1)) (by omega) (by omega) (kk9 S M1 _ _ _ (hI9.next hLQ hLM hT) hS (lv_sub hl [2, 3, 4, 5, 6] rfl))
  · skip
    refine lv_istore (lv' := [(5, .int (nI 1)), (0, .ref b), (1, .ref (ad 57)), (2, .ref (am 0)), (3, .ref o), (4, .int (nI iL))]) hx hb dL_law_1151 hl (by decide) rfl (fun ls hl => ?_)
    refine lv_aload_n hx hb dL_law_1153 rfl (lv_at hl 3 rfl) ?_
    refine lv_aload_n hx hb dL_law_1154 rfl (lv_at hl 1 rfl) ?_
    refine lv_iload hx hb dL_law_1155 (lv_at hl 5 rfl) ?_
    refine lv_iconst (v := nI 1) hx hb dL_law_1157 (by decide) ?_
    refine kn_iadd hx hb dL_law_1158 ?_
    refine va_sld hx hb F.sc F.bl (fun z => Nat.not_le.mpr F.bl z) hS.st (vp_in_nI (show iL + 1 < L by omega) (by omega)) dL_law_1159 ?_
    rw [← hx1]
    refine lv_aload_n hx hb dL_law_1160 rfl (lv_at hl 1 rfl) ?_
    refine lv_iload hx hb dL_law_1161 (lv_at hl 5 rfl) ?_
    refine lv_iconst (v := nI 2) hx hb dL_law_1163 (by decide) ?_
    refine kn_iadd hx hb dL_law_1164 ?_
    refine va_sld hx hb F.sc F.bl (fun z => Nat.not_le.mpr F.bl z) hS.st (vp_in_nI (show iL + 2 < L by omega) (by omega)) dL_law_1165 ?_
    rw [← hx2]
    refine lv_aload_n hx hb dL_law_1166 rfl (lv_at hl 1 rfl) ?_
    refine lv_iload hx hb dL_law_1167 (lv_at hl 5 rfl) ?_
    refine lv_iconst (v := nI 3) hx hb dL_law_1169 (by decide) ?_
    refine kn_iadd hx hb dL_law_1170 ?_
    refine va_sld hx hb F.sc F.bl (fun z => Nat.not_le.mpr F.bl z) hS.st (vp_in_nI (show iL + 3 < L by omega) (by omega)) dL_law_1171 ?_
    rw [← hx3]
    have hI := hI9.m
    have T := hI9.T
    have hc : M.2.2.2.1 + 12 < 1000000 := by have := hI9.mp; omega
    have hn := (hI.1 i hi).1
    refine ll_m (va_runV (As := [.int (nI i), .int x2, .int x3]) (rest := []) ⟨hx, hb, hml, hown, hts⟩ (o_X6_ahead_2 l dC dI am M i x2 x3 hi hb9 hI) (cwV 3 hts gL_law_X6_ahead rfl rfl rfl hdX6_ahead_3 ⟨Nat.le_of_ble_eq_true rfl, Nat.le_of_ble_eq_true rfl⟩) (hS.preM F.K) rfl rfl hl.1 rfl (lv_room (Nat.le_of_ble_eq_true rfl)) dL_law_1172 ⟨le_rc (by omega), le_rs (by omega)⟩) F.K hS (fun r8 M1 H locs hko hv hS => ?_)
    have hLM : LM M M1 := by rw [hv]; exact LM_th hI _
    have hT : Tie S M1 := by rw [hv]; exact T.th _
    refine lv_istore (lv' := [(6, .int r8), (5, .int (nI 1)), (0, .ref b), (1, .ref (ad 57)), (2, .ref (am 0)), (3, .ref o), (4, .int (nI iL))]) hx hb dL_law_1175 hl (by decide) rfl (fun ls hl => ?_)
    refine lv_goto (tgt := 2052) hx hb dL_law_1177 (by decide) ?_
    exact W.widen (k := 100 + 224 * (n + 1)) (n := 1200 + 10680 * (n + 1)) (by omega) (by omega) (kk9 S M1 _ _ _ (hI9.next hLQ hLM hT) hS (lv_sub hl [2, 3, 4, 5, 6] rfl))
  · skip
    refine lv_istore (lv' := [(5, .int (nI 2)), (0, .ref b), (1, .ref (ad 57)), (2, .ref (am 0)), (3, .ref o), (4, .int (nI iL))]) hx hb dL_law_1151 hl (by decide) rfl (fun ls hl => ?_)
    refine lv_aload_n hx hb dL_law_1153 rfl (lv_at hl 3 rfl) ?_
    refine lv_aload_n hx hb dL_law_1154 rfl (lv_at hl 1 rfl) ?_
    refine lv_iload hx hb dL_law_1155 (lv_at hl 5 rfl) ?_
    refine lv_iconst (v := nI 1) hx hb dL_law_1157 (by decide) ?_
    refine kn_iadd hx hb dL_law_1158 ?_
    refine va_sld hx hb F.sc F.bl (fun z => Nat.not_le.mpr F.bl z) hS.st (vp_in_nI (show iL + 1 < L by omega) (by omega)) dL_law_1159 ?_
    rw [← hx1]
    refine lv_aload_n hx hb dL_law_1160 rfl (lv_at hl 1 rfl) ?_
    refine lv_iload hx hb dL_law_1161 (lv_at hl 5 rfl) ?_
    refine lv_iconst (v := nI 2) hx hb dL_law_1163 (by decide) ?_
    refine kn_iadd hx hb dL_law_1164 ?_
    refine va_sld hx hb F.sc F.bl (fun z => Nat.not_le.mpr F.bl z) hS.st (vp_in_nI (show iL + 2 < L by omega) (by omega)) dL_law_1165 ?_
    rw [← hx2]
    refine lv_aload_n hx hb dL_law_1166 rfl (lv_at hl 1 rfl) ?_
    refine lv_iload hx hb dL_law_1167 (lv_at hl 5 rfl) ?_
    refine lv_iconst (v := nI 3) hx hb dL_law_1169 (by decide) ?_
    refine kn_iadd hx hb dL_law_1170 ?_
    refine va_sld hx hb F.sc F.bl (fun z => Nat.not_le.mpr F.bl z) hS.st (vp_in_nI (show iL + 3 < L by omega) (by omega)) dL_law_1171 ?_
    rw [← hx3]
    have hI := hI9.m
    have T := hI9.T
    have hc : M.2.2.2.1 + 12 < 1000000 := by have := hI9.mp; omega
    have hn := (hI.1 i hi).1
    refine ll_m (va_runV (As := [.int (nI i), .int (nI j), .int x3]) (rest := []) ⟨hx, hb, hml, hown, hts⟩ (o_X6_ahead_3 l dC dI am M i j x3 hi hj hb9 hI) (cwV 3 hts gL_law_X6_ahead rfl rfl rfl hdX6_ahead_3 ⟨Nat.le_of_ble_eq_true rfl, Nat.le_of_ble_eq_true rfl⟩) (hS.preM F.K) rfl rfl hl.1 rfl (lv_room (Nat.le_of_ble_eq_true rfl)) dL_law_1172 ⟨le_rc (by omega), le_rs (by omega)⟩) F.K hS (fun r8 M1 H locs hko hv hS => ?_)
    have hLM : LM M M1 := by rw [hv]; exact LM_th hI _
    have hT : Tie S M1 := by rw [hv]; exact T.th _
    refine lv_istore (lv' := [(6, .int r8), (5, .int (nI 2)), (0, .ref b), (1, .ref (ad 57)), (2, .ref (am 0)), (3, .ref o), (4, .int (nI iL))]) hx hb dL_law_1175 hl (by decide) rfl (fun ls hl => ?_)
    refine lv_goto (tgt := 2052) hx hb dL_law_1177 (by decide) ?_
    exact W.widen (k := 100 + 224 * (n + 1)) (n := 1200 + 10680 * (n + 1)) (by omega) (by omega) (kk9 S M1 _ _ _ (hI9.next hLQ hLM hT) hS (lv_sub hl [2, 3, 4, 5, 6] rfl))
  · skip
    have hw := And.intro hw1 hw2
    refine lv_istore (lv' := [(5, .int (nI 0)), (0, .ref b), (1, .ref (ad 57)), (2, .ref (am 0)), (3, .ref o), (4, .int (nI iL))]) hx hb dL_law_1151 hl (by decide) rfl (fun ls hl => ?_)
    refine lv_aload_n hx hb dL_law_1153 rfl (lv_at hl 3 rfl) ?_
    refine lv_aload_n hx hb dL_law_1154 rfl (lv_at hl 1 rfl) ?_
    refine lv_iload hx hb dL_law_1155 (lv_at hl 5 rfl) ?_
    refine lv_iconst (v := nI 1) hx hb dL_law_1157 (by decide) ?_
    refine kn_iadd hx hb dL_law_1158 ?_
    refine va_sld hx hb F.sc F.bl (fun z => Nat.not_le.mpr F.bl z) hS.st (vp_in_nI (show iL + 1 < L by omega) (by omega)) dL_law_1159 ?_
    rw [← hx1]
    refine lv_aload_n hx hb dL_law_1160 rfl (lv_at hl 1 rfl) ?_
    refine lv_iload hx hb dL_law_1161 (lv_at hl 5 rfl) ?_
    refine lv_iconst (v := nI 2) hx hb dL_law_1163 (by decide) ?_
    refine kn_iadd hx hb dL_law_1164 ?_
    refine va_sld hx hb F.sc F.bl (fun z => Nat.not_le.mpr F.bl z) hS.st (vp_in_nI (show iL + 2 < L by omega) (by omega)) dL_law_1165 ?_
    rw [← hx2]
    refine lv_aload_n hx hb dL_law_1166 rfl (lv_at hl 1 rfl) ?_
    refine lv_iload hx hb dL_law_1167 (lv_at hl 5 rfl) ?_
    refine lv_iconst (v := nI 3) hx hb dL_law_1169 (by decide) ?_
    refine kn_iadd hx hb dL_law_1170 ?_
    refine va_sld hx hb F.sc F.bl (fun z => Nat.not_le.mpr F.bl z) hS.st (vp_in_nI (show iL + 3 < L by omega) (by omega)) dL_law_1171 ?_
    rw [← hx3]
    have hI := hI9.m
    have T := hI9.T
    have hc : M.2.2.2.1 + 12 < 1000000 := by have := hI9.mp; omega
    have hn := (hI.1 i hi).1
    refine ll_m (va_runV (As := [.int (nI i), .int (nI j), .int (nI v)]) (rest := []) ⟨hx, hb, hml, hown, hts⟩ (m_X6_ahead l dC dI am M i j v hi hj hv9 hI) (cwV 3 hts gL_law_X6_ahead rfl rfl rfl hdX6_ahead_3 ⟨Nat.le_of_ble_eq_true rfl, Nat.le_of_ble_eq_true rfl⟩) (hS.preM F.K) rfl rfl hl.1 rfl (lv_room (Nat.le_of_ble_eq_true rfl)) dL_law_1172 ⟨le_rc (by omega), le_rs (by omega)⟩) F.K hS (fun r8 M1 H locs hko hv hS => ?_)
    have hLM : LM M M1 := by rw [hv.2]; exact LM_th hI 0
    have hT : Tie S1 M1 := B_same T ⟨hw.1, hw.2⟩ hv
    refine lv_istore (lv' := [(6, .int r8), (5, .int (nI 0)), (0, .ref b), (1, .ref (ad 57)), (2, .ref (am 0)), (3, .ref o), (4, .int (nI iL))]) hx hb dL_law_1175 hl (by decide) rfl (fun ls hl => ?_)
    refine lv_goto (tgt := 2052) hx hb dL_law_1177 (by decide) ?_
    exact W.widen (k := 100 + 224 * (n + 1)) (n := 1200 + 10680 * (n + 1)) (by omega) (by omega) (kk9 S1 M1 _ _ _ (hI9.next hLQ hLM hT) hS (lv_sub hl [2, 3, 4, 5, 6] rfl))
set_option maxHeartbeats 4000000 in
set_option maxRecDepth 100000 in
theorem lc_21 {p : Program} {l : Launch} {e : Env} {s : State} {m : MethodId} {below : List Frame} {meth : Method} {c : Code} {b L : Nat} {xs : Nat → Int32} {dC : Nat → ClassId} {dI : Nat → Nat → Nat} {cB : ClassId} {ad am : Nat → Nat} {o n iL : Nat} {Q : State → Prop} (F : LF p l s m c b L xs dC dI cB ad am o) (hni : iL = 5 * n) (hiL : iL + 5 ≤ L) : LCase p l e s m below meth c b dC dI ad am o n iL Q 1180 := by
  intro S M H locs hI9 hS kk9 ls hl
  have hx := F.x
  have hb := F.b
  have hml := F.ml
  have hown := F.own
  have hts := F.ts
  have hL := F.hL
  have hn9 : n ≤ 511 := by omega
  refine lv_aload_n hx hb dL_law_1180 rfl (lv_at hl 1 rfl) ?_
  refine lv_aload_n hx hb dL_law_1181 rfl (lv_at hl 0 rfl) ?_
  refine lv_iload hx hb dL_law_1182 (lv_at hl 4 rfl) ?_
  refine lv_iconst (v := nI 1) hx hb dL_law_1184 (by decide) ?_
  refine kn_iadd hx hb dL_law_1185 ?_
  refine va_sld hx hb F.sc F.bl (fun z => Nat.not_le.mpr F.bl z) hS.st (vp_in_nI (show iL + 1 < L by omega) (by omega)) dL_law_1186 ?_
  obtain ⟨x1, hx1⟩ : ∃ z, z = xs (nI (iL + 1)).toNatClampNeg := ⟨_, rfl⟩
  rw [← hx1]
  refine lv_aload_n hx hb dL_law_1187 rfl (lv_at hl 0 rfl) ?_
  refine lv_iload hx hb dL_law_1188 (lv_at hl 4 rfl) ?_
  refine lv_iconst (v := nI 2) hx hb dL_law_1190 (by decide) ?_
  refine kn_iadd hx hb dL_law_1191 ?_
  refine va_sld hx hb F.sc F.bl (fun z => Nat.not_le.mpr F.bl z) hS.st (vp_in_nI (show iL + 2 < L by omega) (by omega)) dL_law_1192 ?_
  obtain ⟨x2, hx2⟩ : ∃ z, z = xs (nI (iL + 2)).toNatClampNeg := ⟨_, rfl⟩
  rw [← hx2]
  refine lv_aload_n hx hb dL_law_1193 rfl (lv_at hl 3 rfl) ?_
  refine ll_w (vx_runSW (As := [.ref (ad 57), .int x1, .int x2, .ref o]) (rest := []) ⟨hx, hb, hml, hown, hts⟩ (m_L_groups l F.st dC dI cB ad o S x1 x2 hI9.x hI9.x5 (by have := hI9.xp; omega)) (vx_cwSW 4 hts gL_law_L_groups rfl rfl rfl hdL_groups_4.2 ⟨Nat.le_of_ble_eq_true rfl, Nat.le_of_ble_eq_true rfl⟩) (hS.preW F.K) rfl rfl hl.1 rfl (lv_room (Nat.le_of_ble_eq_true rfl)) dL_law_1194 ⟨le_rc (by omega), le_rs (by omega)⟩) F.K hS (fun r0 S1 n1 H locs hq9 hN hS => ?_)
  have hLQ : LQ S S1 := hq9.1
  have hR : R_groups x1 x2 S r0 S1 n1 := hq9.2
  clear hq9
  rcases hR with ⟨hb9, rfl, rfl⟩ | ⟨i, hi, rfl, hb9, rfl, rfl⟩ | ⟨i, j, hi, hj, rfl, rfl, rfl, hw⟩
  · skip
    refine lv_istore (lv' := [(5, .int (nI 1)), (0, .ref b), (1, .ref (ad 57)), (2, .ref (am 0)), (3, .ref o), (4, .int (nI iL))]) hx hb dL_law_1197 hl (by decide) rfl (fun ls hl => ?_)
    refine lv_aload_n hx hb dL_law_1199 rfl (lv_at hl 3 rfl) ?_
    refine lv_aload_n hx hb dL_law_1200 rfl (lv_at hl 1 rfl) ?_
    refine lv_iload hx hb dL_law_1201 (lv_at hl 5 rfl) ?_
    refine lv_iconst (v := nI 1) hx hb dL_law_1203 (by decide) ?_
    refine kn_iadd hx hb dL_law_1204 ?_
    refine va_sld hx hb F.sc F.bl (fun z => Nat.not_le.mpr F.bl z) hS.st (vp_in_nI (show iL + 1 < L by omega) (by omega)) dL_law_1205 ?_
    rw [← hx1]
    refine lv_aload_n hx hb dL_law_1206 rfl (lv_at hl 1 rfl) ?_
    refine lv_iload hx hb dL_law_1207 (lv_at hl 5 rfl) ?_
    refine lv_iconst (v := nI 2) hx hb dL_law_1209 (by decide) ?_
    refine kn_iadd hx hb dL_law_1210 ?_
    refine va_sld hx hb F.sc F.bl (fun z => Nat.not_le.mpr F.bl z) hS.st (vp_in_nI (show iL + 2 < L by omega) (by omega)) dL_law_1211 ?_
    rw [← hx2]
    have hI := hI9.m
    have T := hI9.T
    have hc : M.2.2.2.1 + 12 < 1000000 := by have := hI9.mp; omega
    refine ll_mr (va_runV (As := [.int x1, .int x2]) (rest := []) ⟨hx, hb, hml, hown, hts⟩ (o_X6_groups_1 l dC dI cB am M x1 x2 hb9) (cwV 2 hts gL_law_X6_groups rfl rfl rfl hdX6_groups_2 ⟨Nat.le_of_ble_eq_true rfl, Nat.le_of_ble_eq_true rfl⟩) (hS.preMT F.K) rfl rfl hl.1 rfl (lv_room (Nat.le_of_ble_eq_true rfl)) dL_law_1212 ⟨le_rc (by omega), le_rs (by omega)⟩) F.K hS (fun M1 q9 H locs hko hv hS => ?_)
    have hLM : LM M M1 := by rw [hv]; exact LM_th hI _
    have hT : Tie S M1 := by rw [hv]; exact T.th _
    refine lv_astore (lv' := [(6, .ref q9), (5, .int (nI 1)), (0, .ref b), (1, .ref (ad 57)), (2, .ref (am 0)), (3, .ref o), (4, .int (nI iL))]) hx hb dL_law_1215 hl (by decide) rfl (fun ls hl => ?_)
    refine lv_goto (tgt := 2052) hx hb dL_law_1217 (by decide) ?_
    exact W.widen (k := 100 + 224 * (n + 1)) (n := 1200 + 10680 * (n + 1)) (by omega) (by omega) (kk9 S M1 _ _ _ (hI9.next hLQ hLM hT) hS (lv_sub hl [2, 3, 4, 5, 6] rfl))
  · skip
    refine lv_istore (lv' := [(5, .int (nI 1)), (0, .ref b), (1, .ref (ad 57)), (2, .ref (am 0)), (3, .ref o), (4, .int (nI iL))]) hx hb dL_law_1197 hl (by decide) rfl (fun ls hl => ?_)
    refine lv_aload_n hx hb dL_law_1199 rfl (lv_at hl 3 rfl) ?_
    refine lv_aload_n hx hb dL_law_1200 rfl (lv_at hl 1 rfl) ?_
    refine lv_iload hx hb dL_law_1201 (lv_at hl 5 rfl) ?_
    refine lv_iconst (v := nI 1) hx hb dL_law_1203 (by decide) ?_
    refine kn_iadd hx hb dL_law_1204 ?_
    refine va_sld hx hb F.sc F.bl (fun z => Nat.not_le.mpr F.bl z) hS.st (vp_in_nI (show iL + 1 < L by omega) (by omega)) dL_law_1205 ?_
    rw [← hx1]
    refine lv_aload_n hx hb dL_law_1206 rfl (lv_at hl 1 rfl) ?_
    refine lv_iload hx hb dL_law_1207 (lv_at hl 5 rfl) ?_
    refine lv_iconst (v := nI 2) hx hb dL_law_1209 (by decide) ?_
    refine kn_iadd hx hb dL_law_1210 ?_
    refine va_sld hx hb F.sc F.bl (fun z => Nat.not_le.mpr F.bl z) hS.st (vp_in_nI (show iL + 2 < L by omega) (by omega)) dL_law_1211 ?_
    rw [← hx2]
    have hI := hI9.m
    have T := hI9.T
    have hc : M.2.2.2.1 + 12 < 1000000 := by have := hI9.mp; omega
    have hn := (hI.1 i hi).1
    refine ll_mr (va_runV (As := [.int (nI i), .int x2]) (rest := []) ⟨hx, hb, hml, hown, hts⟩ (o_X6_groups_2 l dC dI cB am M i x2 hi hb9) (cwV 2 hts gL_law_X6_groups rfl rfl rfl hdX6_groups_2 ⟨Nat.le_of_ble_eq_true rfl, Nat.le_of_ble_eq_true rfl⟩) (hS.preMT F.K) rfl rfl hl.1 rfl (lv_room (Nat.le_of_ble_eq_true rfl)) dL_law_1212 ⟨le_rc (by omega), le_rs (by omega)⟩) F.K hS (fun M1 q9 H locs hko hv hS => ?_)
    have hLM : LM M M1 := by rw [hv]; exact LM_th hI _
    have hT : Tie S M1 := by rw [hv]; exact T.th _
    refine lv_astore (lv' := [(6, .ref q9), (5, .int (nI 1)), (0, .ref b), (1, .ref (ad 57)), (2, .ref (am 0)), (3, .ref o), (4, .int (nI iL))]) hx hb dL_law_1215 hl (by decide) rfl (fun ls hl => ?_)
    refine lv_goto (tgt := 2052) hx hb dL_law_1217 (by decide) ?_
    exact W.widen (k := 100 + 224 * (n + 1)) (n := 1200 + 10680 * (n + 1)) (by omega) (by omega) (kk9 S M1 _ _ _ (hI9.next hLQ hLM hT) hS (lv_sub hl [2, 3, 4, 5, 6] rfl))
  · skip
    refine lv_istore (lv' := [(5, .int (nI 0)), (0, .ref b), (1, .ref (ad 57)), (2, .ref (am 0)), (3, .ref o), (4, .int (nI iL))]) hx hb dL_law_1197 hl (by decide) rfl (fun ls hl => ?_)
    refine lv_aload_n hx hb dL_law_1199 rfl (lv_at hl 3 rfl) ?_
    refine lv_aload_n hx hb dL_law_1200 rfl (lv_at hl 1 rfl) ?_
    refine lv_iload hx hb dL_law_1201 (lv_at hl 5 rfl) ?_
    refine lv_iconst (v := nI 1) hx hb dL_law_1203 (by decide) ?_
    refine kn_iadd hx hb dL_law_1204 ?_
    refine va_sld hx hb F.sc F.bl (fun z => Nat.not_le.mpr F.bl z) hS.st (vp_in_nI (show iL + 1 < L by omega) (by omega)) dL_law_1205 ?_
    rw [← hx1]
    refine lv_aload_n hx hb dL_law_1206 rfl (lv_at hl 1 rfl) ?_
    refine lv_iload hx hb dL_law_1207 (lv_at hl 5 rfl) ?_
    refine lv_iconst (v := nI 2) hx hb dL_law_1209 (by decide) ?_
    refine kn_iadd hx hb dL_law_1210 ?_
    refine va_sld hx hb F.sc F.bl (fun z => Nat.not_le.mpr F.bl z) hS.st (vp_in_nI (show iL + 2 < L by omega) (by omega)) dL_law_1211 ?_
    rw [← hx2]
    have hI := hI9.m
    have T := hI9.T
    have hc : M.2.2.2.1 + 12 < 1000000 := by have := hI9.mp; omega
    have hn := (hI.1 i hi).1
    refine ll_mr (va_runV (As := [.int (nI i), .int (nI j)]) (rest := []) ⟨hx, hb, hml, hown, hts⟩ (m_X6_groups l dC dI cB am M i j hi hj hI) (cwV 2 hts gL_law_X6_groups rfl rfl rfl hdX6_groups_2 ⟨Nat.le_of_ble_eq_true rfl, Nat.le_of_ble_eq_true rfl⟩) (hS.preMT F.K) rfl rfl hl.1 rfl (lv_room (Nat.le_of_ble_eq_true rfl)) dL_law_1212 ⟨le_rc (by omega), le_rs (by omega)⟩) F.K hS (fun M1 q9 H locs hko hv hS => ?_)
    have hLM : LM M M1 := by rw [hv]; exact LM_th hI 0
    have hT : Tie S1 M1 := by rw [hw, hv]; exact T.th 0
    refine lv_astore (lv' := [(6, .ref q9), (5, .int (nI 0)), (0, .ref b), (1, .ref (ad 57)), (2, .ref (am 0)), (3, .ref o), (4, .int (nI iL))]) hx hb dL_law_1215 hl (by decide) rfl (fun ls hl => ?_)
    refine lv_goto (tgt := 2052) hx hb dL_law_1217 (by decide) ?_
    exact W.widen (k := 100 + 224 * (n + 1)) (n := 1200 + 10680 * (n + 1)) (by omega) (by omega) (kk9 S1 M1 _ _ _ (hI9.next hLQ hLM hT) hS (lv_sub hl [2, 3, 4, 5, 6] rfl))
