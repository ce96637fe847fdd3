set_option maxHeartbeats 4000000 in
set_option maxRecDepth 100000 in
theorem lc_33 {p : Program} {l : Launch} {e : Env} {s : State} {m : MethodId} {below : List Frame} {meth : Method} {c : Code} {b L : Nat} {xs : Nat → Int32} {dC : Nat → ClassId} {dI : Nat → Nat → Nat} {cB : ClassId} {ad am : Nat → Nat} {o n iL : Nat} {Q : State → Prop} (F : LF p l s m c b L xs dC dI cB ad am o) (hni : iL = 5 * n) (hiL : iL + 5 ≤ L) : LCase p l e s m below meth c b dC dI ad am o n iL Q 1728 := by
  intro S M H locs hI9 hS kk9 ls hl
  have hx := F.x
  have hb := F.b
  have hml := F.ml
  have hown := F.own
  have hts := F.ts
  have hL := F.hL
  have hn9 : n ≤ 511 := by omega
  refine lv_aload_n hx hb dL_law_1728 rfl (lv_at hl 1 rfl) ?_
  refine lv_aload_n hx hb dL_law_1729 rfl (lv_at hl 0 rfl) ?_
  refine lv_iload hx hb dL_law_1730 (lv_at hl 4 rfl) ?_
  refine lv_iconst (v := nI 1) hx hb dL_law_1732 (by decide) ?_
  refine kn_iadd hx hb dL_law_1733 ?_
  refine va_sld hx hb F.sc F.bl (fun z => Nat.not_le.mpr F.bl z) hS.st (vp_in_nI (show iL + 1 < L by omega) (by omega)) dL_law_1734 ?_
  generalize xs (nI (iL + 1)).toNatClampNeg = x1
  refine lv_aload_n hx hb dL_law_1735 rfl (lv_at hl 0 rfl) ?_
  refine lv_iload hx hb dL_law_1736 (lv_at hl 4 rfl) ?_
  refine lv_iconst (v := nI 2) hx hb dL_law_1738 (by decide) ?_
  refine kn_iadd hx hb dL_law_1739 ?_
  refine va_sld hx hb F.sc F.bl (fun z => Nat.not_le.mpr F.bl z) hS.st (vp_in_nI (show iL + 2 < L by omega) (by omega)) dL_law_1740 ?_
  generalize xs (nI (iL + 2)).toNatClampNeg = x2
  refine lv_aload_n hx hb dL_law_1741 rfl (lv_at hl 3 rfl) ?_
  refine ll_w (vx_runSW (As := [.ref (ad 57), .int x1, .int x2, .ref o]) (rest := []) ⟨hx, hb, hml, hown, hts⟩ (m_L_refines l F.st dC dI cB ad o S x1 x2 hI9.x hI9.x5 (by have := hI9.xp; omega)) (vx_cwSW 4 hts gL_law_L_refines rfl rfl rfl (by decide +kernel) ⟨Nat.le_of_ble_eq_true rfl, Nat.le_of_ble_eq_true rfl⟩) (hS.preW F.K) rfl rfl hl.1 rfl (lv_room (Nat.le_of_ble_eq_true rfl)) dL_law_1742 ⟨by show _ ≤ 1064969; omega, by show _ ≤ 5901198; omega⟩) F.K hS (fun r9 S1 H locs hLQ hS => ?_)
  refine lv_istore (lv' := [(5, .int r9), (0, .ref b), (1, .ref (ad 57)), (2, .ref (am 0)), (3, .ref o), (4, .int (nI iL))]) hx hb dL_law_1745 hl (by decide) rfl (fun ls hl => ?_)
  refine lv_aload_n hx hb dL_law_1747 rfl (lv_at hl 3 rfl) ?_
  refine lv_aload_n hx hb dL_law_1748 rfl (lv_at hl 1 rfl) ?_
  refine lv_iload hx hb dL_law_1749 (lv_at hl 5 rfl) ?_
  refine lv_iconst (v := nI 1) hx hb dL_law_1751 (by decide) ?_
  refine kn_iadd hx hb dL_law_1752 ?_
  refine va_sld hx hb F.sc F.bl (fun z => Nat.not_le.mpr F.bl z) hS.st (vp_in_nI (show iL + 1 < L by omega) (by omega)) dL_law_1753 ?_
  generalize xs (nI (iL + 1)).toNatClampNeg = x3
  refine lv_aload_n hx hb dL_law_1754 rfl (lv_at hl 1 rfl) ?_
  refine lv_iload hx hb dL_law_1755 (lv_at hl 5 rfl) ?_
  refine lv_iconst (v := nI 2) hx hb dL_law_1757 (by decide) ?_
  refine kn_iadd hx hb dL_law_1758 ?_
  refine va_sld hx hb F.sc F.bl (fun z => Nat.not_le.mpr F.bl z) hS.st (vp_in_nI (show iL + 2 < L by omega) (by omega)) dL_law_1759 ?_
  generalize xs (nI (iL + 2)).toNatClampNeg = x4
  have hI := hI9.m
  have hc : M.2.2.2.1 + 12 < 1000000 := by have := hI9.mp; omega
  rcases lim_lt 4 (by decide) x3 with ⟨j, hj, rfl⟩ | hb9
  rotate_left
  · skip
    refine ll_m (va_runV (As := [.int x3, .int x4]) (rest := []) ⟨hx, hb, hml, hown, hts⟩ (o_X6_refines_1 l dC dI am M x3 x4 hb9 hI) (cwV 2 hts gL_law_X6_refines rfl rfl rfl (by decide +kernel) ⟨Nat.le_of_ble_eq_true rfl, Nat.le_of_ble_eq_true rfl⟩) (hS.preM F.K) rfl rfl hl.1 rfl (lv_room (Nat.le_of_ble_eq_true rfl)) dL_law_1760 ⟨by show _ ≤ 1064969; omega, by show _ ≤ 5901198; omega⟩) F.K hS (fun r8 M1 H locs hw hS => ?_)
    have hLM : LM M M1 := by rw [hw]; exact LM_th hI _
    refine lv_istore (lv' := [(6, .int r8), (5, .int r9), (0, .ref b), (1, .ref (ad 57)), (2, .ref (am 0)), (3, .ref o), (4, .int (nI iL))]) hx hb dL_law_1763 hl (by decide) rfl (fun ls hl => ?_)
    refine lv_goto (tgt := 2023) hx hb dL_law_1765 (by decide) ?_
    exact W.widen (k := 100 + 224 * (n + 1)) (n := 1200 + 10680 * (n + 1)) (by omega) (by omega) (kk9 S1 M1 _ _ _ (hI9.next hLQ hLM) hS (lv_sub hl [2, 3, 4, 5, 6] rfl))
  replace hj : j < 4 := by omega
  rcases lim_lt 4 (by decide) x4 with ⟨j2, hj2, rfl⟩ | hb9
  rotate_left
  · skip
    refine ll_m (va_runV (As := [.int (nI j), .int x4]) (rest := []) ⟨hx, hb, hml, hown, hts⟩ (o_X6_refines_2 l dC dI am M j x4 hj hb9 hI) (cwV 2 hts gL_law_X6_refines rfl rfl rfl (by decide +kernel) ⟨Nat.le_of_ble_eq_true rfl, Nat.le_of_ble_eq_true rfl⟩) (hS.preM F.K) rfl rfl hl.1 rfl (lv_room (Nat.le_of_ble_eq_true rfl)) dL_law_1760 ⟨by show _ ≤ 1064969; omega, by show _ ≤ 5901198; omega⟩) F.K hS (fun r8 M1 H locs hw hS => ?_)
    have hLM : LM M M1 := by rw [hw]; exact LM_th hI _
    refine lv_istore (lv' := [(6, .int r8), (5, .int r9), (0, .ref b), (1, .ref (ad 57)), (2, .ref (am 0)), (3, .ref o), (4, .int (nI iL))]) hx hb dL_law_1763 hl (by decide) rfl (fun ls hl => ?_)
    refine lv_goto (tgt := 2023) hx hb dL_law_1765 (by decide) ?_
    exact W.widen (k := 100 + 224 * (n + 1)) (n := 1200 + 10680 * (n + 1)) (by omega) (by omega) (kk9 S1 M1 _ _ _ (hI9.next hLQ hLM) hS (lv_sub hl [2, 3, 4, 5, 6] rfl))
  replace hj2 : j2 < 4 := by omega
  refine ll_m (va_runV (As := [.int (nI j), .int (nI j2)]) (rest := []) ⟨hx, hb, hml, hown, hts⟩ (m_X6_refines l dC dI am M j j2 hj hj2 hI) (cwV 2 hts gL_law_X6_refines rfl rfl rfl (by decide +kernel) ⟨Nat.le_of_ble_eq_true rfl, Nat.le_of_ble_eq_true rfl⟩) (hS.preM F.K) rfl rfl hl.1 rfl (lv_room (Nat.le_of_ble_eq_true rfl)) dL_law_1760 ⟨by show _ ≤ 1064969; omega, by show _ ≤ 5901198; omega⟩) F.K hS (fun r8 M1 H locs hw hS => ?_)
  have hLM : LM M M1 := by rw [hw.2]; exact LM_th hI 0
  refine lv_istore (lv' := [(6, .int r8), (5, .int r9), (0, .ref b), (1, .ref (ad 57)), (2, .ref (am 0)), (3, .ref o), (4, .int (nI iL))]) hx hb dL_law_1763 hl (by decide) rfl (fun ls hl => ?_)
  refine lv_goto (tgt := 2023) hx hb dL_law_1765 (by decide) ?_
  exact W.widen (k := 100 + 224 * (n + 1)) (n := 1200 + 10680 * (n + 1)) (by omega) (by omega) (kk9 S1 M1 _ _ _ (hI9.next hLQ hLM) hS (lv_sub hl [2, 3, 4, 5, 6] rfl))
set_option maxHeartbeats 4000000 in
set_option maxRecDepth 100000 in
theorem lc_34 {p : Program} {l : Launch} {e : Env} {s : State} {m : MethodId} {below : List Frame} {meth : Method} {c : Code} {b L : Nat} {xs : Nat → Int32} {dC : Nat → ClassId} {dI : Nat → Nat → Nat} {cB : ClassId} {ad am : Nat → Nat} {o n iL : Nat} {Q : State → Prop} (F : LF p l s m c b L xs dC dI cB ad am o) (hni : iL = 5 * n) (hiL : iL + 5 ≤ L) : LCase p l e s m below meth c b dC dI ad am o n iL Q 1768 := by
  intro S M H locs hI9 hS kk9 ls hl
  have hx := F.x
  have hb := F.b
  have hml := F.ml
  have hown := F.own
  have hts := F.ts
  have hL := F.hL
  have hn9 : n ≤ 511 := by omega
  refine lv_aload_n hx hb dL_law_1768 rfl (lv_at hl 1 rfl) ?_
  refine lv_aload_n hx hb dL_law_1769 rfl (lv_at hl 0 rfl) ?_
  refine lv_iload hx hb dL_law_1770 (lv_at hl 4 rfl) ?_
  refine lv_iconst (v := nI 1) hx hb dL_law_1772 (by decide) ?_
  refine kn_iadd hx hb dL_law_1773 ?_
  refine va_sld hx hb F.sc F.bl (fun z => Nat.not_le.mpr F.bl z) hS.st (vp_in_nI (show iL + 1 < L by omega) (by omega)) dL_law_1774 ?_
  generalize xs (nI (iL + 1)).toNatClampNeg = x1
  refine lv_aload_n hx hb dL_law_1775 rfl (lv_at hl 0 rfl) ?_
  refine lv_iload hx hb dL_law_1776 (lv_at hl 4 rfl) ?_
  refine lv_iconst (v := nI 2) hx hb dL_law_1778 (by decide) ?_
  refine kn_iadd hx hb dL_law_1779 ?_
  refine va_sld hx hb F.sc F.bl (fun z => Nat.not_le.mpr F.bl z) hS.st (vp_in_nI (show iL + 2 < L by omega) (by omega)) dL_law_1780 ?_
  generalize xs (nI (iL + 2)).toNatClampNeg = x2
  refine lv_aload_n hx hb dL_law_1781 rfl (lv_at hl 3 rfl) ?_
  refine ll_w (vx_runSW (As := [.ref (ad 57), .int x1, .int x2, .ref o]) (rest := []) ⟨hx, hb, hml, hown, hts⟩ (m_L_areSame l F.st dC dI cB ad o S x1 x2 hI9.x hI9.x5 (by have := hI9.xp; omega)) (vx_cwSW 4 hts gL_law_L_areSame rfl rfl rfl (by decide +kernel) ⟨Nat.le_of_ble_eq_true rfl, Nat.le_of_ble_eq_true rfl⟩) (hS.preW F.K) rfl rfl hl.1 rfl (lv_room (Nat.le_of_ble_eq_true rfl)) dL_law_1782 ⟨by show _ ≤ 1064969; omega, by show _ ≤ 5901198; omega⟩) F.K hS (fun r9 S1 H locs hLQ hS => ?_)
  refine lv_istore (lv' := [(5, .int r9), (0, .ref b), (1, .ref (ad 57)), (2, .ref (am 0)), (3, .ref o), (4, .int (nI iL))]) hx hb dL_law_1785 hl (by decide) rfl (fun ls hl => ?_)
  refine lv_aload_n hx hb dL_law_1787 rfl (lv_at hl 3 rfl) ?_
  refine lv_aload_n hx hb dL_law_1788 rfl (lv_at hl 1 rfl) ?_
  refine lv_iload hx hb dL_law_1789 (lv_at hl 5 rfl) ?_
  refine lv_iconst (v := nI 1) hx hb dL_law_1791 (by decide) ?_
  refine kn_iadd hx hb dL_law_1792 ?_
  refine va_sld hx hb F.sc F.bl (fun z => Nat.not_le.mpr F.bl z) hS.st (vp_in_nI (show iL + 1 < L by omega) (by omega)) dL_law_1793 ?_
  generalize xs (nI (iL + 1)).toNatClampNeg = x3
  refine lv_aload_n hx hb dL_law_1794 rfl (lv_at hl 1 rfl) ?_
  refine lv_iload hx hb dL_law_1795 (lv_at hl 5 rfl) ?_
  refine lv_iconst (v := nI 2) hx hb dL_law_1797 (by decide) ?_
  refine kn_iadd hx hb dL_law_1798 ?_
  refine va_sld hx hb F.sc F.bl (fun z => Nat.not_le.mpr F.bl z) hS.st (vp_in_nI (show iL + 2 < L by omega) (by omega)) dL_law_1799 ?_
  generalize xs (nI (iL + 2)).toNatClampNeg = x4
  have hI := hI9.m
  have hc : M.2.2.2.1 + 12 < 1000000 := by have := hI9.mp; omega
  rcases lim_lt 4 (by decide) x3 with ⟨j, hj, rfl⟩ | hb9
  rotate_left
  · skip
    refine ll_m (va_runV (As := [.int x3, .int x4]) (rest := []) ⟨hx, hb, hml, hown, hts⟩ (o_X6_areSame_1 l dC dI am M x3 x4 hb9 hI) (cwV 2 hts gL_law_X6_areSame rfl rfl rfl (by decide +kernel) ⟨Nat.le_of_ble_eq_true rfl, Nat.le_of_ble_eq_true rfl⟩) (hS.preM F.K) rfl rfl hl.1 rfl (lv_room (Nat.le_of_ble_eq_true rfl)) dL_law_1800 ⟨by show _ ≤ 1064969; omega, by show _ ≤ 5901198; omega⟩) F.K hS (fun r8 M1 H locs hw hS => ?_)
    have hLM : LM M M1 := by rw [hw]; exact LM_th hI _
    refine lv_istore (lv' := [(6, .int r8), (5, .int r9), (0, .ref b), (1, .ref (ad 57)), (2, .ref (am 0)), (3, .ref o), (4, .int (nI iL))]) hx hb dL_law_1803 hl (by decide) rfl (fun ls hl => ?_)
    refine lv_goto (tgt := 2023) hx hb dL_law_1805 (by decide) ?_
    exact W.widen (k := 100 + 224 * (n + 1)) (n := 1200 + 10680 * (n + 1)) (by omega) (by omega) (kk9 S1 M1 _ _ _ (hI9.next hLQ hLM) hS (lv_sub hl [2, 3, 4, 5, 6] rfl))
  replace hj : j < 4 := by omega
  rcases lim_lt 4 (by decide) x4 with ⟨j2, hj2, rfl⟩ | hb9
  rotate_left
  · skip
    refine ll_m (va_runV (As := [.int (nI j), .int x4]) (rest := []) ⟨hx, hb, hml, hown, hts⟩ (o_X6_areSame_2 l dC dI am M j x4 hj hb9 hI) (cwV 2 hts gL_law_X6_areSame rfl rfl rfl (by decide +kernel) ⟨Nat.le_of_ble_eq_true rfl, Nat.le_of_ble_eq_true rfl⟩) (hS.preM F.K) rfl rfl hl.1 rfl (lv_room (Nat.le_of_ble_eq_true rfl)) dL_law_1800 ⟨by show _ ≤ 1064969; omega, by show _ ≤ 5901198; omega⟩) F.K hS (fun r8 M1 H locs hw hS => ?_)
    have hLM : LM M M1 := by rw [hw]; exact LM_th hI _
    refine lv_istore (lv' := [(6, .int r8), (5, .int r9), (0, .ref b), (1, .ref (ad 57)), (2, .ref (am 0)), (3, .ref o), (4, .int (nI iL))]) hx hb dL_law_1803 hl (by decide) rfl (fun ls hl => ?_)
    refine lv_goto (tgt := 2023) hx hb dL_law_1805 (by decide) ?_
    exact W.widen (k := 100 + 224 * (n + 1)) (n := 1200 + 10680 * (n + 1)) (by omega) (by omega) (kk9 S1 M1 _ _ _ (hI9.next hLQ hLM) hS (lv_sub hl [2, 3, 4, 5, 6] rfl))
  replace hj2 : j2 < 4 := by omega
  refine ll_m (va_runV (As := [.int (nI j), .int (nI j2)]) (rest := []) ⟨hx, hb, hml, hown, hts⟩ (m_X6_areSame l dC dI am M j j2 hj hj2 hI) (cwV 2 hts gL_law_X6_areSame rfl rfl rfl (by decide +kernel) ⟨Nat.le_of_ble_eq_true rfl, Nat.le_of_ble_eq_true rfl⟩) (hS.preM F.K) rfl rfl hl.1 rfl (lv_room (Nat.le_of_ble_eq_true rfl)) dL_law_1800 ⟨by show _ ≤ 1064969; omega, by show _ ≤ 5901198; omega⟩) F.K hS (fun r8 M1 H locs hw hS => ?_)
  have hLM : LM M M1 := by rw [hw.2]; exact LM_th hI 0
  refine lv_istore (lv' := [(6, .int r8), (5, .int r9), (0, .ref b), (1, .ref (ad 57)), (2, .ref (am 0)), (3, .ref o), (4, .int (nI iL))]) hx hb dL_law_1803 hl (by decide) rfl (fun ls hl => ?_)
  refine lv_goto (tgt := 2023) hx hb dL_law_1805 (by decide) ?_
  exact W.widen (k := 100 + 224 * (n + 1)) (n := 1200 + 10680 * (n + 1)) (by omega) (by omega) (kk9 S1 M1 _ _ _ (hI9.next hLQ hLM) hS (lv_sub hl [2, 3, 4, 5, 6] rfl))
set_option maxHeartbeats 4000000 in
set_option maxRecDepth 100000 in
theorem lc_35 {p : Program} {l : Launch} {e : Env} {s : State} {m : MethodId} {below : List Frame} {meth : Method} {c : Code} {b L : Nat} {xs : Nat → Int32} {dC : Nat → ClassId} {dI : Nat → Nat → Nat} {cB : ClassId} {ad am : Nat → Nat} {o n iL : Nat} {Q : State → Prop} (F : LF p l s m c b L xs dC dI cB ad am o) (hni : iL = 5 * n) (hiL : iL + 5 ≤ L) : LCase p l e s m below meth c b dC dI ad am o n iL Q 1808 := by
  intro S M H locs hI9 hS kk9 ls hl
  have hx := F.x
  have hb := F.b
  have hml := F.ml
  have hown := F.own
  have hts := F.ts
  have hL := F.hL
  have hn9 : n ≤ 511 := by omega
  refine lv_aload_n hx hb dL_law_1808 rfl (lv_at hl 1 rfl) ?_
  refine lv_aload_n hx hb dL_law_1809 rfl (lv_at hl 0 rfl) ?_
  refine lv_iload hx hb dL_law_1810 (lv_at hl 4 rfl) ?_
  refine lv_iconst (v := nI 1) hx hb dL_law_1812 (by decide) ?_
  refine kn_iadd hx hb dL_law_1813 ?_
  refine va_sld hx hb F.sc F.bl (fun z => Nat.not_le.mpr F.bl z) hS.st (vp_in_nI (show iL + 1 < L by omega) (by omega)) dL_law_1814 ?_
  generalize xs (nI (iL + 1)).toNatClampNeg = x1
  refine lv_aload_n hx hb dL_law_1815 rfl (lv_at hl 0 rfl) ?_
  refine lv_iload hx hb dL_law_1816 (lv_at hl 4 rfl) ?_
  refine lv_iconst (v := nI 2) hx hb dL_law_1818 (by decide) ?_
  refine kn_iadd hx hb dL_law_1819 ?_
  refine va_sld hx hb F.sc F.bl (fun z => Nat.not_le.mpr F.bl z) hS.st (vp_in_nI (show iL + 2 < L by omega) (by omega)) dL_law_1820 ?_
  generalize xs (nI (iL + 2)).toNatClampNeg = x2
  refine lv_aload_n hx hb dL_law_1821 rfl (lv_at hl 3 rfl) ?_
  refine ll_w (vx_runSW (As := [.ref (ad 57), .int x1, .int x2, .ref o]) (rest := []) ⟨hx, hb, hml, hown, hts⟩ (m_L_apart l F.st dC dI cB ad o S x1 x2 hI9.x hI9.x5 (by have := hI9.xp; omega)) (vx_cwSW 4 hts gL_law_L_apart rfl rfl rfl (by decide +kernel) ⟨Nat.le_of_ble_eq_true rfl, Nat.le_of_ble_eq_true rfl⟩) (hS.preW F.K) rfl rfl hl.1 rfl (lv_room (Nat.le_of_ble_eq_true rfl)) dL_law_1822 ⟨by show _ ≤ 1064969; omega, by show _ ≤ 5901198; omega⟩) F.K hS (fun r9 S1 H locs hLQ hS => ?_)
  refine lv_istore (lv' := [(5, .int r9), (0, .ref b), (1, .ref (ad 57)), (2, .ref (am 0)), (3, .ref o), (4, .int (nI iL))]) hx hb dL_law_1825 hl (by decide) rfl (fun ls hl => ?_)
  refine lv_aload_n hx hb dL_law_1827 rfl (lv_at hl 3 rfl) ?_
  refine lv_aload_n hx hb dL_law_1828 rfl (lv_at hl 1 rfl) ?_
  refine lv_iload hx hb dL_law_1829 (lv_at hl 5 rfl) ?_
  refine lv_iconst (v := nI 1) hx hb dL_law_1831 (by decide) ?_
  refine kn_iadd hx hb dL_law_1832 ?_
  refine va_sld hx hb F.sc F.bl (fun z => Nat.not_le.mpr F.bl z) hS.st (vp_in_nI (show iL + 1 < L by omega) (by omega)) dL_law_1833 ?_
  generalize xs (nI (iL + 1)).toNatClampNeg = x3
  refine lv_aload_n hx hb dL_law_1834 rfl (lv_at hl 1 rfl) ?_
  refine lv_iload hx hb dL_law_1835 (lv_at hl 5 rfl) ?_
  refine lv_iconst (v := nI 2) hx hb dL_law_1837 (by decide) ?_
  refine kn_iadd hx hb dL_law_1838 ?_
  refine va_sld hx hb F.sc F.bl (fun z => Nat.not_le.mpr F.bl z) hS.st (vp_in_nI (show iL + 2 < L by omega) (by omega)) dL_law_1839 ?_
  generalize xs (nI (iL + 2)).toNatClampNeg = x4
  have hI := hI9.m
  have hc : M.2.2.2.1 + 12 < 1000000 := by have := hI9.mp; omega
  rcases lim_lt 4 (by decide) x3 with ⟨j, hj, rfl⟩ | hb9
  rotate_left
  · skip
    refine ll_m (va_runV (As := [.int x3, .int x4]) (rest := []) ⟨hx, hb, hml, hown, hts⟩ (o_X6_apart_1 l dC dI am M x3 x4 hb9 hI) (cwV 2 hts gL_law_X6_apart rfl rfl rfl (by decide +kernel) ⟨Nat.le_of_ble_eq_true rfl, Nat.le_of_ble_eq_true rfl⟩) (hS.preM F.K) rfl rfl hl.1 rfl (lv_room (Nat.le_of_ble_eq_true rfl)) dL_law_1840 ⟨by show _ ≤ 1064969; omega, by show _ ≤ 5901198; omega⟩) F.K hS (fun r8 M1 H locs hw hS => ?_)
    have hLM : LM M M1 := by rw [hw]; exact LM_th hI _
    refine lv_istore (lv' := [(6, .int r8), (5, .int r9), (0, .ref b), (1, .ref (ad 57)), (2, .ref (am 0)), (3, .ref o), (4, .int (nI iL))]) hx hb dL_law_1843 hl (by decide) rfl (fun ls hl => ?_)
    refine lv_goto (tgt := 2023) hx hb dL_law_1845 (by decide) ?_
    exact W.widen (k := 100 + 224 * (n + 1)) (n := 1200 + 10680 * (n + 1)) (by omega) (by omega) (kk9 S1 M1 _ _ _ (hI9.next hLQ hLM) hS (lv_sub hl [2, 3, 4, 5, 6] rfl))
  replace hj : j < 4 := by omega
  rcases lim_lt 4 (by decide) x4 with ⟨j2, hj2, rfl⟩ | hb9
  rotate_left
  · skip
    refine ll_m (va_runV (As := [.int (nI j), .int x4]) (rest := []) ⟨hx, hb, hml, hown, hts⟩ (o_X6_apart_2 l dC dI am M j x4 hj hb9 hI) (cwV 2 hts gL_law_X6_apart rfl rfl rfl (by decide +kernel) ⟨Nat.le_of_ble_eq_true rfl, Nat.le_of_ble_eq_true rfl⟩) (hS.preM F.K) rfl rfl hl.1 rfl (lv_room (Nat.le_of_ble_eq_true rfl)) dL_law_1840 ⟨by show _ ≤ 1064969; omega, by show _ ≤ 5901198; omega⟩) F.K hS (fun r8 M1 H locs hw hS => ?_)
    have hLM : LM M M1 := by rw [hw]; exact LM_th hI _
    refine lv_istore (lv' := [(6, .int r8), (5, .int r9), (0, .ref b), (1, .ref (ad 57)), (2, .ref (am 0)), (3, .ref o), (4, .int (nI iL))]) hx hb dL_law_1843 hl (by decide) rfl (fun ls hl => ?_)
    refine lv_goto (tgt := 2023) hx hb dL_law_1845 (by decide) ?_
    exact W.widen (k := 100 + 224 * (n + 1)) (n := 1200 + 10680 * (n + 1)) (by omega) (by omega) (kk9 S1 M1 _ _ _ (hI9.next hLQ hLM) hS (lv_sub hl [2, 3, 4, 5, 6] rfl))
  replace hj2 : j2 < 4 := by omega
  refine ll_m (va_runV (As := [.int (nI j), .int (nI j2)]) (rest := []) ⟨hx, hb, hml, hown, hts⟩ (m_X6_apart l dC dI am M j j2 hj hj2 hI) (cwV 2 hts gL_law_X6_apart rfl rfl rfl (by decide +kernel) ⟨Nat.le_of_ble_eq_true rfl, Nat.le_of_ble_eq_true rfl⟩) (hS.preM F.K) rfl rfl hl.1 rfl (lv_room (Nat.le_of_ble_eq_true rfl)) dL_law_1840 ⟨by show _ ≤ 1064969; omega, by show _ ≤ 5901198; omega⟩) F.K hS (fun r8 M1 H locs hw hS => ?_)
  have hLM : LM M M1 := by rw [hw.2]; exact LM_th hI 0
  refine lv_istore (lv' := [(6, .int r8), (5, .int r9), (0, .ref b), (1, .ref (ad 57)), (2, .ref (am 0)), (3, .ref o), (4, .int (nI iL))]) hx hb dL_law_1843 hl (by decide) rfl (fun ls hl => ?_)
  refine lv_goto (tgt := 2023) hx hb dL_law_1845 (by decide) ?_
  exact W.widen (k := 100 + 224 * (n + 1)) (n := 1200 + 10680 * (n + 1)) (by omega) (by omega) (kk9 S1 M1 _ _ _ (hI9.next hLQ hLM) hS (lv_sub hl [2, 3, 4, 5, 6] rfl))
set_option maxHeartbeats 4000000 in
set_option maxRecDepth 100000 in
theorem lc_36 {p : Program} {l : Launch} {e : Env} {s : State} {m : MethodId} {below : List Frame} {meth : Method} {c : Code} {b L : Nat} {xs : Nat → Int32} {dC : Nat → ClassId} {dI : Nat → Nat → Nat} {cB : ClassId} {ad am : Nat → Nat} {o n iL : Nat} {Q : State → Prop} (F : LF p l s m c b L xs dC dI cB ad am o) (hni : iL = 5 * n) (hiL : iL + 5 ≤ L) : LCase p l e s m below meth c b dC dI ad am o n iL Q 1848 := by
  intro S M H locs hI9 hS kk9 ls hl
  have hx := F.x
  have hb := F.b
  have hml := F.ml
  have hown := F.own
  have hts := F.ts
  have hL := F.hL
  have hn9 : n ≤ 511 := by omega
  refine lv_aload_n hx hb dL_law_1848 rfl (lv_at hl 1 rfl) ?_
  refine lv_aload_n hx hb dL_law_1849 rfl (lv_at hl 0 rfl) ?_
  refine lv_iload hx hb dL_law_1850 (lv_at hl 4 rfl) ?_
  refine lv_iconst (v := nI 1) hx hb dL_law_1852 (by decide) ?_
  refine kn_iadd hx hb dL_law_1853 ?_
  refine va_sld hx hb F.sc F.bl (fun z => Nat.not_le.mpr F.bl z) hS.st (vp_in_nI (show iL + 1 < L by omega) (by omega)) dL_law_1854 ?_
  generalize xs (nI (iL + 1)).toNatClampNeg = x1
  refine lv_aload_n hx hb dL_law_1855 rfl (lv_at hl 3 rfl) ?_
  refine ll_w (vx_runSW (As := [.ref (ad 57), .int x1, .ref o]) (rest := []) ⟨hx, hb, hml, hown, hts⟩ (m_L_classes l F.st dC dI cB ad o S x1 hI9.x hI9.x5 (by have := hI9.xp; omega)) (vx_cwSW 3 hts gL_law_L_classes rfl rfl rfl (by decide +kernel) ⟨Nat.le_of_ble_eq_true rfl, Nat.le_of_ble_eq_true rfl⟩) (hS.preW F.K) rfl rfl hl.1 rfl (lv_room (Nat.le_of_ble_eq_true rfl)) dL_law_1856 ⟨by show _ ≤ 1064969; omega, by show _ ≤ 5901198; omega⟩) F.K hS (fun r9 S1 H locs hLQ hS => ?_)
  refine lv_istore (lv' := [(5, .int r9), (0, .ref b), (1, .ref (ad 57)), (2, .ref (am 0)), (3, .ref o), (4, .int (nI iL))]) hx hb dL_law_1859 hl (by decide) rfl (fun ls hl => ?_)
  refine lv_aload_n hx hb dL_law_1861 rfl (lv_at hl 3 rfl) ?_
  refine lv_aload_n hx hb dL_law_1862 rfl (lv_at hl 1 rfl) ?_
  refine lv_iload hx hb dL_law_1863 (lv_at hl 5 rfl) ?_
  refine lv_iconst (v := nI 1) hx hb dL_law_1865 (by decide) ?_
  refine kn_iadd hx hb dL_law_1866 ?_
  refine va_sld hx hb F.sc F.bl (fun z => Nat.not_le.mpr F.bl z) hS.st (vp_in_nI (show iL + 1 < L by omega) (by omega)) dL_law_1867 ?_
  generalize xs (nI (iL + 1)).toNatClampNeg = x2
  have hI := hI9.m
  have hc : M.2.2.2.1 + 12 < 1000000 := by have := hI9.mp; omega
  rcases lim_lt 4 (by decide) x2 with ⟨j, hj, rfl⟩ | hb9
  rotate_left
  · skip
    refine ll_m (va_runV (As := [.int x2]) (rest := []) ⟨hx, hb, hml, hown, hts⟩ (o_X6_classes_1 l dC dI am M x2 hb9 hI) (cwV 1 hts gL_law_X6_classes rfl rfl rfl (by decide +kernel) ⟨Nat.le_of_ble_eq_true rfl, Nat.le_of_ble_eq_true rfl⟩) (hS.preM F.K) rfl rfl hl.1 rfl (lv_room (Nat.le_of_ble_eq_true rfl)) dL_law_1868 ⟨by show _ ≤ 1064969; omega, by show _ ≤ 5901198; omega⟩) F.K hS (fun r8 M1 H locs hw hS => ?_)
    have hLM : LM M M1 := by rw [hw]; exact LM_th hI _
    refine lv_istore (lv' := [(6, .int r8), (5, .int r9), (0, .ref b), (1, .ref (ad 57)), (2, .ref (am 0)), (3, .ref o), (4, .int (nI iL))]) hx hb dL_law_1871 hl (by decide) rfl (fun ls hl => ?_)
    refine lv_goto (tgt := 2023) hx hb dL_law_1873 (by decide) ?_
    exact W.widen (k := 100 + 224 * (n + 1)) (n := 1200 + 10680 * (n + 1)) (by omega) (by omega) (kk9 S1 M1 _ _ _ (hI9.next hLQ hLM) hS (lv_sub hl [2, 3, 4, 5, 6] rfl))
  replace hj : j < 4 := by omega
  refine ll_m (va_runV (As := [.int (nI j)]) (rest := []) ⟨hx, hb, hml, hown, hts⟩ (m_X6_classes l dC dI am M j hj hI) (cwV 1 hts gL_law_X6_classes rfl rfl rfl (by decide +kernel) ⟨Nat.le_of_ble_eq_true rfl, Nat.le_of_ble_eq_true rfl⟩) (hS.preM F.K) rfl rfl hl.1 rfl (lv_room (Nat.le_of_ble_eq_true rfl)) dL_law_1868 ⟨by show _ ≤ 1064969; omega, by show _ ≤ 5901198; omega⟩) F.K hS (fun r8 M1 H locs hw hS => ?_)
  have hLM : LM M M1 := by rw [hw.2]; exact LM_th hI 0
  refine lv_istore (lv' := [(6, .int r8), (5, .int r9), (0, .ref b), (1, .ref (ad 57)), (2, .ref (am 0)), (3, .ref o), (4, .int (nI iL))]) hx hb dL_law_1871 hl (by decide) rfl (fun ls hl => ?_)
  refine lv_goto (tgt := 2023) hx hb dL_law_1873 (by decide) ?_
  exact W.widen (k := 100 + 224 * (n + 1)) (n := 1200 + 10680 * (n + 1)) (by omega) (by omega) (kk9 S1 M1 _ _ _ (hI9.next hLQ hLM) hS (lv_sub hl [2, 3, 4, 5, 6] rfl))
set_option maxHeartbeats 4000000 in
set_option maxRecDepth 100000 in
theorem lc_37 {p : Program} {l : Launch} {e : Env} {s : State} {m : MethodId} {below : List Frame} {meth : Method} {c : Code} {b L : Nat} {xs : Nat → Int32} {dC : Nat → ClassId} {dI : Nat → Nat → Nat} {cB : ClassId} {ad am : Nat → Nat} {o n iL : Nat} {Q : State → Prop} (F : LF p l s m c b L xs dC dI cB ad am o) (hni : iL = 5 * n) (hiL : iL + 5 ≤ L) : LCase p l e s m below meth c b dC dI ad am o n iL Q 1876 := by
  intro S M H locs hI9 hS kk9 ls hl
  have hx := F.x
  have hb := F.b
  have hml := F.ml
  have hown := F.own
  have hts := F.ts
  have hL := F.hL
  have hn9 : n ≤ 511 := by omega
  refine lv_aload_n hx hb dL_law_1876 rfl (lv_at hl 1 rfl) ?_
  refine lv_aload_n hx hb dL_law_1877 rfl (lv_at hl 0 rfl) ?_
  refine lv_iload hx hb dL_law_1878 (lv_at hl 4 rfl) ?_
  refine lv_iconst (v := nI 1) hx hb dL_law_1880 (by decide) ?_
  refine kn_iadd hx hb dL_law_1881 ?_
  refine va_sld hx hb F.sc F.bl (fun z => Nat.not_le.mpr F.bl z) hS.st (vp_in_nI (show iL + 1 < L by omega) (by omega)) dL_law_1882 ?_
  generalize xs (nI (iL + 1)).toNatClampNeg = x1
  refine lv_aload_n hx hb dL_law_1883 rfl (lv_at hl 0 rfl) ?_
  refine lv_iload hx hb dL_law_1884 (lv_at hl 4 rfl) ?_
  refine lv_iconst (v := nI 2) hx hb dL_law_1886 (by decide) ?_
  refine kn_iadd hx hb dL_law_1887 ?_
  refine va_sld hx hb F.sc F.bl (fun z => Nat.not_le.mpr F.bl z) hS.st (vp_in_nI (show iL + 2 < L by omega) (by omega)) dL_law_1888 ?_
  generalize xs (nI (iL + 2)).toNatClampNeg = x2
  refine lv_aload_n hx hb dL_law_1889 rfl (lv_at hl 3 rfl) ?_
  refine ll_w (vx_runSW (As := [.ref (ad 57), .int x1, .int x2, .ref o]) (rest := []) ⟨hx, hb, hml, hown, hts⟩ (m_L_rank l F.st dC dI cB ad o S x1 x2 hI9.x hI9.x5 (by have := hI9.xp; omega)) (vx_cwSW 4 hts gL_law_L_rank rfl rfl rfl (by decide +kernel) ⟨Nat.le_of_ble_eq_true rfl, Nat.le_of_ble_eq_true rfl⟩) (hS.preW F.K) rfl rfl hl.1 rfl (lv_room (Nat.le_of_ble_eq_true rfl)) dL_law_1890 ⟨by show _ ≤ 1064969; omega, by show _ ≤ 5901198; omega⟩) F.K hS (fun r9 S1 H locs hLQ hS => ?_)
  refine lv_istore (lv' := [(5, .int r9), (0, .ref b), (1, .ref (ad 57)), (2, .ref (am 0)), (3, .ref o), (4, .int (nI iL))]) hx hb dL_law_1893 hl (by decide) rfl (fun ls hl => ?_)
  refine lv_aload_n hx hb dL_law_1895 rfl (lv_at hl 3 rfl) ?_
  refine lv_aload_n hx hb dL_law_1896 rfl (lv_at hl 1 rfl) ?_
  refine lv_iload hx hb dL_law_1897 (lv_at hl 5 rfl) ?_
  refine lv_iconst (v := nI 1) hx hb dL_law_1899 (by decide) ?_
  refine kn_iadd hx hb dL_law_1900 ?_
  refine va_sld hx hb F.sc F.bl (fun z => Nat.not_le.mpr F.bl z) hS.st (vp_in_nI (show iL + 1 < L by omega) (by omega)) dL_law_1901 ?_
  generalize xs (nI (iL + 1)).toNatClampNeg = x3
  refine lv_aload_n hx hb dL_law_1902 rfl (lv_at hl 1 rfl) ?_
  refine lv_iload hx hb dL_law_1903 (lv_at hl 5 rfl) ?_
  refine lv_iconst (v := nI 2) hx hb dL_law_1905 (by decide) ?_
  refine kn_iadd hx hb dL_law_1906 ?_
  refine va_sld hx hb F.sc F.bl (fun z => Nat.not_le.mpr F.bl z) hS.st (vp_in_nI (show iL + 2 < L by omega) (by omega)) dL_law_1907 ?_
  generalize xs (nI (iL + 2)).toNatClampNeg = x4
  have hI := hI9.m
  have hc : M.2.2.2.1 + 12 < 1000000 := by have := hI9.mp; omega
  rcases lim_lt 4 (by decide) x3 with ⟨j, hj, rfl⟩ | hb9
  rotate_left
  · skip
    refine ll_m (va_runV (As := [.int x3, .int x4]) (rest := []) ⟨hx, hb, hml, hown, hts⟩ (o_X6_rank_1 l dC dI am M x3 x4 hb9 hI) (cwV 2 hts gL_law_X6_rank rfl rfl rfl (by decide +kernel) ⟨Nat.le_of_ble_eq_true rfl, Nat.le_of_ble_eq_true rfl⟩) (hS.preM F.K) rfl rfl hl.1 rfl (lv_room (Nat.le_of_ble_eq_true rfl)) dL_law_1908 ⟨by show _ ≤ 1064969; omega, by show _ ≤ 5901198; omega⟩) F.K hS (fun r8 M1 H locs hw hS => ?_)
    have hLM : LM M M1 := by rw [hw]; exact LM_th hI _
    refine lv_istore (lv' := [(6, .int r8), (5, .int r9), (0, .ref b), (1, .ref (ad 57)), (2, .ref (am 0)), (3, .ref o), (4, .int (nI iL))]) hx hb dL_law_1911 hl (by decide) rfl (fun ls hl => ?_)
    refine lv_goto (tgt := 2023) hx hb dL_law_1913 (by decide) ?_
    exact W.widen (k := 100 + 224 * (n + 1)) (n := 1200 + 10680 * (n + 1)) (by omega) (by omega) (kk9 S1 M1 _ _ _ (hI9.next hLQ hLM) hS (lv_sub hl [2, 3, 4, 5, 6] rfl))
  replace hj : j < 4 := by omega
  rcases lim_le 15 (by decide) x4 with ⟨v, hv, rfl⟩ | hb9
  rotate_left
  · skip
    refine ll_m (va_runV (As := [.int (nI j), .int x4]) (rest := []) ⟨hx, hb, hml, hown, hts⟩ (o_X6_rank_2 l dC dI am M j x4 hj hb9 hI) (cwV 2 hts gL_law_X6_rank rfl rfl rfl (by decide +kernel) ⟨Nat.le_of_ble_eq_true rfl, Nat.le_of_ble_eq_true rfl⟩) (hS.preM F.K) rfl rfl hl.1 rfl (lv_room (Nat.le_of_ble_eq_true rfl)) dL_law_1908 ⟨by show _ ≤ 1064969; omega, by show _ ≤ 5901198; omega⟩) F.K hS (fun r8 M1 H locs hw hS => ?_)
    have hLM : LM M M1 := by rw [hw]; exact LM_th hI _
    refine lv_istore (lv' := [(6, .int r8), (5, .int r9), (0, .ref b), (1, .ref (ad 57)), (2, .ref (am 0)), (3, .ref o), (4, .int (nI iL))]) hx hb dL_law_1911 hl (by decide) rfl (fun ls hl => ?_)
    refine lv_goto (tgt := 2023) hx hb dL_law_1913 (by decide) ?_
    exact W.widen (k := 100 + 224 * (n + 1)) (n := 1200 + 10680 * (n + 1)) (by omega) (by omega) (kk9 S1 M1 _ _ _ (hI9.next hLQ hLM) hS (lv_sub hl [2, 3, 4, 5, 6] rfl))
  replace hv : v < 16 := by omega
  refine ll_m (va_runV (As := [.int (nI j), .int (nI v)]) (rest := []) ⟨hx, hb, hml, hown, hts⟩ (m_X6_rank l dC dI am M j v hj hv hI) (cwV 2 hts gL_law_X6_rank rfl rfl rfl (by decide +kernel) ⟨Nat.le_of_ble_eq_true rfl, Nat.le_of_ble_eq_true rfl⟩) (hS.preM F.K) rfl rfl hl.1 rfl (lv_room (Nat.le_of_ble_eq_true rfl)) dL_law_1908 ⟨by show _ ≤ 1064969; omega, by show _ ≤ 5901198; omega⟩) F.K hS (fun r8 M1 H locs hw hS => ?_)
  have hLM : LM M M1 := by rw [hw.2]; exact LM_th hI 0
  refine lv_istore (lv' := [(6, .int r8), (5, .int r9), (0, .ref b), (1, .ref (ad 57)), (2, .ref (am 0)), (3, .ref o), (4, .int (nI iL))]) hx hb dL_law_1911 hl (by decide) rfl (fun ls hl => ?_)
  refine lv_goto (tgt := 2023) hx hb dL_law_1913 (by decide) ?_
  exact W.widen (k := 100 + 224 * (n + 1)) (n := 1200 + 10680 * (n + 1)) (by omega) (by omega) (kk9 S1 M1 _ _ _ (hI9.next hLQ hLM) hS (lv_sub hl [2, 3, 4, 5, 6] rfl))
set_option maxHeartbeats 4000000 in
set_option maxRecDepth 100000 in
theorem lc_38 {p : Program} {l : Launch} {e : Env} {s : State} {m : MethodId} {below : List Frame} {meth : Method} {c : Code} {b L : Nat} {xs : Nat → Int32} {dC : Nat → ClassId} {dI : Nat → Nat → Nat} {cB : ClassId} {ad am : Nat → Nat} {o n iL : Nat} {Q : State → Prop} (F : LF p l s m c b L xs dC dI cB ad am o) (hni : iL = 5 * n) (hiL : iL + 5 ≤ L) : LCase p l e s m below meth c b dC dI ad am o n iL Q 1916 := by
  intro S M H locs hI9 hS kk9 ls hl
  have hx := F.x
  have hb := F.b
  have hml := F.ml
  have hown := F.own
  have hts := F.ts
  have hL := F.hL
  have hn9 : n ≤ 511 := by omega
  refine lv_aload_n hx hb dL_law_1916 rfl (lv_at hl 1 rfl) ?_
  refine lv_aload_n hx hb dL_law_1917 rfl (lv_at hl 0 rfl) ?_
  refine lv_iload hx hb dL_law_1918 (lv_at hl 4 rfl) ?_
  refine lv_iconst (v := nI 1) hx hb dL_law_1920 (by decide) ?_
  refine kn_iadd hx hb dL_law_1921 ?_
  refine va_sld hx hb F.sc F.bl (fun z => Nat.not_le.mpr F.bl z) hS.st (vp_in_nI (show iL + 1 < L by omega) (by omega)) dL_law_1922 ?_
  generalize xs (nI (iL + 1)).toNatClampNeg = x1
  refine lv_aload_n hx hb dL_law_1923 rfl (lv_at hl 0 rfl) ?_
  refine lv_iload hx hb dL_law_1924 (lv_at hl 4 rfl) ?_
  refine lv_iconst (v := nI 2) hx hb dL_law_1926 (by decide) ?_
  refine kn_iadd hx hb dL_law_1927 ?_
  refine va_sld hx hb F.sc F.bl (fun z => Nat.not_le.mpr F.bl z) hS.st (vp_in_nI (show iL + 2 < L by omega) (by omega)) dL_law_1928 ?_
  generalize xs (nI (iL + 2)).toNatClampNeg = x2
  refine lv_aload_n hx hb dL_law_1929 rfl (lv_at hl 3 rfl) ?_
  refine ll_w (vx_runSW (As := [.ref (ad 57), .int x1, .int x2, .ref o]) (rest := []) ⟨hx, hb, hml, hown, hts⟩ (m_L_keyOf l F.st dC dI cB ad o S x1 x2 hI9.x hI9.x5 (by have := hI9.xp; omega)) (vx_cwSW 4 hts gL_law_L_keyOf rfl rfl rfl (by decide +kernel) ⟨Nat.le_of_ble_eq_true rfl, Nat.le_of_ble_eq_true rfl⟩) (hS.preW F.K) rfl rfl hl.1 rfl (lv_room (Nat.le_of_ble_eq_true rfl)) dL_law_1930 ⟨by show _ ≤ 1064969; omega, by show _ ≤ 5901198; omega⟩) F.K hS (fun r9 S1 H locs hLQ hS => ?_)
  refine lv_istore (lv' := [(5, .int r9), (0, .ref b), (1, .ref (ad 57)), (2, .ref (am 0)), (3, .ref o), (4, .int (nI iL))]) hx hb dL_law_1933 hl (by decide) rfl (fun ls hl => ?_)
  refine lv_aload_n hx hb dL_law_1935 rfl (lv_at hl 3 rfl) ?_
  refine lv_aload_n hx hb dL_law_1936 rfl (lv_at hl 1 rfl) ?_
  refine lv_iload hx hb dL_law_1937 (lv_at hl 5 rfl) ?_
  refine lv_iconst (v := nI 1) hx hb dL_law_1939 (by decide) ?_
  refine kn_iadd hx hb dL_law_1940 ?_
  refine va_sld hx hb F.sc F.bl (fun z => Nat.not_le.mpr F.bl z) hS.st (vp_in_nI (show iL + 1 < L by omega) (by omega)) dL_law_1941 ?_
  generalize xs (nI (iL + 1)).toNatClampNeg = x3
  refine lv_aload_n hx hb dL_law_1942 rfl (lv_at hl 1 rfl) ?_
  refine lv_iload hx hb dL_law_1943 (lv_at hl 5 rfl) ?_
  refine lv_iconst (v := nI 2) hx hb dL_law_1945 (by decide) ?_
  refine kn_iadd hx hb dL_law_1946 ?_
  refine va_sld hx hb F.sc F.bl (fun z => Nat.not_le.mpr F.bl z) hS.st (vp_in_nI (show iL + 2 < L by omega) (by omega)) dL_law_1947 ?_
  generalize xs (nI (iL + 2)).toNatClampNeg = x4
  have hI := hI9.m
  have hc : M.2.2.2.1 + 12 < 1000000 := by have := hI9.mp; omega
  rcases lim_le 7 (by decide) x3 with ⟨k, hk, rfl⟩ | hb9
  rotate_left
  · skip
    refine ll_m (va_runV (As := [.int x3, .int x4]) (rest := []) ⟨hx, hb, hml, hown, hts⟩ (o_X6_keyOf_1 l dC dI am M x3 x4 hb9 hI) (cwV 2 hts gL_law_X6_keyOf rfl rfl rfl (by decide +kernel) ⟨Nat.le_of_ble_eq_true rfl, Nat.le_of_ble_eq_true rfl⟩) (hS.preM F.K) rfl rfl hl.1 rfl (lv_room (Nat.le_of_ble_eq_true rfl)) dL_law_1948 ⟨by show _ ≤ 1064969; omega, by show _ ≤ 5901198; omega⟩) F.K hS (fun r8 M1 H locs hw hS => ?_)
    have hLM : LM M M1 := by rw [hw]; exact LM_th hI _
    refine lv_istore (lv' := [(6, .int r8), (5, .int r9), (0, .ref b), (1, .ref (ad 57)), (2, .ref (am 0)), (3, .ref o), (4, .int (nI iL))]) hx hb dL_law_1951 hl (by decide) rfl (fun ls hl => ?_)
    refine lv_goto (tgt := 2023) hx hb dL_law_1953 (by decide) ?_
    exact W.widen (k := 100 + 224 * (n + 1)) (n := 1200 + 10680 * (n + 1)) (by omega) (by omega) (kk9 S1 M1 _ _ _ (hI9.next hLQ hLM) hS (lv_sub hl [2, 3, 4, 5, 6] rfl))
  replace hk : k ≤ 7 := by omega
  rcases lim_le 15 (by decide) x4 with ⟨v, hv, rfl⟩ | hb9
  rotate_left
  · skip
    refine ll_m (va_runV (As := [.int (nI k), .int x4]) (rest := []) ⟨hx, hb, hml, hown, hts⟩ (o_X6_keyOf_2 l dC dI am M k x4 hk hb9 hI) (cwV 2 hts gL_law_X6_keyOf rfl rfl rfl (by decide +kernel) ⟨Nat.le_of_ble_eq_true rfl, Nat.le_of_ble_eq_true rfl⟩) (hS.preM F.K) rfl rfl hl.1 rfl (lv_room (Nat.le_of_ble_eq_true rfl)) dL_law_1948 ⟨by show _ ≤ 1064969; omega, by show _ ≤ 5901198; omega⟩) F.K hS (fun r8 M1 H locs hw hS => ?_)
    have hLM : LM M M1 := by rw [hw]; exact LM_th hI _
    refine lv_istore (lv' := [(6, .int r8), (5, .int r9), (0, .ref b), (1, .ref (ad 57)), (2, .ref (am 0)), (3, .ref o), (4, .int (nI iL))]) hx hb dL_law_1951 hl (by decide) rfl (fun ls hl => ?_)
    refine lv_goto (tgt := 2023) hx hb dL_law_1953 (by decide) ?_
    exact W.widen (k := 100 + 224 * (n + 1)) (n := 1200 + 10680 * (n + 1)) (by omega) (by omega) (kk9 S1 M1 _ _ _ (hI9.next hLQ hLM) hS (lv_sub hl [2, 3, 4, 5, 6] rfl))
  replace hv : v < 16 := by omega
  refine ll_m (va_runV (As := [.int (nI k), .int (nI v)]) (rest := []) ⟨hx, hb, hml, hown, hts⟩ (m_X6_keyOf l dC dI am M k v hk hv hI) (cwV 2 hts gL_law_X6_keyOf rfl rfl rfl (by decide +kernel) ⟨Nat.le_of_ble_eq_true rfl, Nat.le_of_ble_eq_true rfl⟩) (hS.preM F.K) rfl rfl hl.1 rfl (lv_room (Nat.le_of_ble_eq_true rfl)) dL_law_1948 ⟨by show _ ≤ 1064969; omega, by show _ ≤ 5901198; omega⟩) F.K hS (fun r8 M1 H locs hw hS => ?_)
  have hLM : LM M M1 := by rw [hw.2]; exact LM_th hI 0
  refine lv_istore (lv' := [(6, .int r8), (5, .int r9), (0, .ref b), (1, .ref (ad 57)), (2, .ref (am 0)), (3, .ref o), (4, .int (nI iL))]) hx hb dL_law_1951 hl (by decide) rfl (fun ls hl => ?_)
  refine lv_goto (tgt := 2023) hx hb dL_law_1953 (by decide) ?_
  exact W.widen (k := 100 + 224 * (n + 1)) (n := 1200 + 10680 * (n + 1)) (by omega) (by omega) (kk9 S1 M1 _ _ _ (hI9.next hLQ hLM) hS (lv_sub hl [2, 3, 4, 5, 6] rfl))
set_option maxHeartbeats 4000000 in
set_option maxRecDepth 100000 in
theorem lc_39 {p : Program} {l : Launch} {e : Env} {s : State} {m : MethodId} {below : List Frame} {meth : Method} {c : Code} {b L : Nat} {xs : Nat → Int32} {dC : Nat → ClassId} {dI : Nat → Nat → Nat} {cB : ClassId} {ad am : Nat → Nat} {o n iL : Nat} {Q : State → Prop} (F : LF p l s m c b L xs dC dI cB ad am o) (hni : iL = 5 * n) (hiL : iL + 5 ≤ L) : LCase p l e s m below meth c b dC dI ad am o n iL Q 1956 := by
  intro S M H locs hI9 hS kk9 ls hl
  have hx := F.x
  have hb := F.b
  have hml := F.ml
  have hown := F.own
  have hts := F.ts
  have hL := F.hL
  have hn9 : n ≤ 511 := by omega
  refine lv_aload_n hx hb dL_law_1956 rfl (lv_at hl 1 rfl) ?_
  refine ll_x (va_runV (As := []) (rest := []) ⟨hx, hb, hml, hown, hts⟩ (m_X4_knock l dC dI ad S) (cwV 0 hts gL_law_X4_knock rfl rfl rfl (by decide +kernel) ⟨Nat.le_of_ble_eq_true rfl, Nat.le_of_ble_eq_true rfl⟩) (hS.preX F.K) rfl rfl hl.1 rfl (lv_room (Nat.le_of_ble_eq_true rfl)) dL_law_1957 ⟨by show _ ≤ 1064969; omega, by show _ ≤ 5901198; omega⟩) F.K hS (fun r9 S1 H locs hw hS => ?_)
  obtain ⟨rfl, hw1⟩ := hw
  refine lv_aload_n hx hb dL_law_1960 rfl (lv_at hl 2 rfl) ?_
  have hI := hI9.m
  have hc : M.2.2.2.1 + 12 < 1000000 := by have := hI9.mp; omega
  refine ll_m (va_runV (As := []) (rest := [.int (nI (S.2.2.2.2 + 1))]) ⟨hx, hb, hml, hown, hts⟩ (m_X6_knock l dC dI am M) (cwV 0 hts gL_law_X6_knock rfl rfl rfl (by decide +kernel) ⟨Nat.le_of_ble_eq_true rfl, Nat.le_of_ble_eq_true rfl⟩) (hS.preM F.K) rfl rfl hl.1 rfl (lv_room (Nat.le_of_ble_eq_true rfl)) dL_law_1961 ⟨by show _ ≤ 1064969; omega, by show _ ≤ 5901198; omega⟩) F.K hS (fun r9 M1 H locs hw hS => ?_)
  obtain ⟨rfl, hw2⟩ := hw
  refine lv_icmp_eq (tgt := 2023) hx hb dL_law_1964 (by decide) (fun k_1 => ?_) (fun k_1 => absurd (by rw [hI9.kk]) k_1)
  exact W.widen (k := 100 + 224 * (n + 1)) (n := 1200 + 10680 * (n + 1)) (by omega) (by omega) (kk9 S1 M1 _ _ _ (LI.knock hI9 hw1 hw2) hS (lv_sub hl [0, 1, 2, 3, 4] rfl))
set_option maxHeartbeats 4000000 in
set_option maxRecDepth 100000 in
theorem lc_40 {p : Program} {l : Launch} {e : Env} {s : State} {m : MethodId} {below : List Frame} {meth : Method} {c : Code} {b L : Nat} {xs : Nat → Int32} {dC : Nat → ClassId} {dI : Nat → Nat → Nat} {cB : ClassId} {ad am : Nat → Nat} {o n iL : Nat} {Q : State → Prop} (F : LF p l s m c b L xs dC dI cB ad am o) (hni : iL = 5 * n) (hiL : iL + 5 ≤ L) : LCase p l e s m below meth c b dC dI ad am o n iL Q 1969 := by
  intro S M H locs hI9 hS kk9 ls hl
  have hx := F.x
  have hb := F.b
  have hml := F.ml
  have hown := F.own
  have hts := F.ts
  have hL := F.hL
  have hn9 : n ≤ 511 := by omega
  refine lv_aload_n hx hb dL_law_1969 rfl (lv_at hl 1 rfl) ?_
  refine lv_aload_n hx hb dL_law_1970 rfl (lv_at hl 0 rfl) ?_
  refine lv_iload hx hb dL_law_1971 (lv_at hl 4 rfl) ?_
  refine lv_iconst (v := nI 1) hx hb dL_law_1973 (by decide) ?_
  refine kn_iadd hx hb dL_law_1974 ?_
  refine va_sld hx hb F.sc F.bl (fun z => Nat.not_le.mpr F.bl z) hS.st (vp_in_nI (show iL + 1 < L by omega) (by omega)) dL_law_1975 ?_
  generalize xs (nI (iL + 1)).toNatClampNeg = x1
  refine lv_aload_n hx hb dL_law_1976 rfl (lv_at hl 3 rfl) ?_
  refine ll_w (vx_runSW (As := [.ref (ad 57), .int x1, .ref o]) (rest := []) ⟨hx, hb, hml, hown, hts⟩ (m_L_house l F.st dC dI cB ad o S x1 hI9.x hI9.x5 (by have := hI9.xp; omega)) (vx_cwSW 3 hts gL_law_L_house rfl rfl rfl (by decide +kernel) ⟨Nat.le_of_ble_eq_true rfl, Nat.le_of_ble_eq_true rfl⟩) (hS.preW F.K) rfl rfl hl.1 rfl (lv_room (Nat.le_of_ble_eq_true rfl)) dL_law_1977 ⟨by show _ ≤ 1064969; omega, by show _ ≤ 5901198; omega⟩) F.K hS (fun r9 S1 H locs hLQ hS => ?_)
  refine lv_istore (lv' := [(5, .int r9), (0, .ref b), (1, .ref (ad 57)), (2, .ref (am 0)), (3, .ref o), (4, .int (nI iL))]) hx hb dL_law_1980 hl (by decide) rfl (fun ls hl => ?_)
  refine lv_aload_n hx hb dL_law_1982 rfl (lv_at hl 3 rfl) ?_
  refine lv_aload_n hx hb dL_law_1983 rfl (lv_at hl 1 rfl) ?_
  refine lv_iload hx hb dL_law_1984 (lv_at hl 5 rfl) ?_
  refine lv_iconst (v := nI 1) hx hb dL_law_1986 (by decide) ?_
  refine kn_iadd hx hb dL_law_1987 ?_
  refine va_sld hx hb F.sc F.bl (fun z => Nat.not_le.mpr F.bl z) hS.st (vp_in_nI (show iL + 1 < L by omega) (by omega)) dL_law_1988 ?_
  generalize xs (nI (iL + 1)).toNatClampNeg = x2
  have hI := hI9.m
  have hc : M.2.2.2.1 + 12 < 1000000 := by have := hI9.mp; omega
  rcases lim_le 4 (by decide) x2 with ⟨k, hk, rfl⟩ | hb9
  rotate_left
  · skip
    refine ll_m (va_runV (As := [.int x2]) (rest := []) ⟨hx, hb, hml, hown, hts⟩ (o_X6_house_1 l dC dI am M x2 hb9 hI) (cwV 1 hts gL_law_X6_house rfl rfl rfl (by decide +kernel) ⟨Nat.le_of_ble_eq_true rfl, Nat.le_of_ble_eq_true rfl⟩) (hS.preM F.K) rfl rfl hl.1 rfl (lv_room (Nat.le_of_ble_eq_true rfl)) dL_law_1989 ⟨by show _ ≤ 1064969; omega, by show _ ≤ 5901198; omega⟩) F.K hS (fun r8 M1 H locs hw hS => ?_)
    have hLM : LM M M1 := by rw [hw]; exact LM_th hI _
    refine lv_istore (lv' := [(6, .int r8), (5, .int r9), (0, .ref b), (1, .ref (ad 57)), (2, .ref (am 0)), (3, .ref o), (4, .int (nI iL))]) hx hb dL_law_1992 hl (by decide) rfl (fun ls hl => ?_)
    refine lv_goto (tgt := 2023) hx hb dL_law_1994 (by decide) ?_
    exact W.widen (k := 100 + 224 * (n + 1)) (n := 1200 + 10680 * (n + 1)) (by omega) (by omega) (kk9 S1 M1 _ _ _ (hI9.next hLQ hLM) hS (lv_sub hl [2, 3, 4, 5, 6] rfl))
  replace hk : k ≤ 4 := by omega
  refine ll_m (va_runV (As := [.int (nI k)]) (rest := []) ⟨hx, hb, hml, hown, hts⟩ (m_X6_house l dC dI am M k hk hI) (cwV 1 hts gL_law_X6_house rfl rfl rfl (by decide +kernel) ⟨Nat.le_of_ble_eq_true rfl, Nat.le_of_ble_eq_true rfl⟩) (hS.preM F.K) rfl rfl hl.1 rfl (lv_room (Nat.le_of_ble_eq_true rfl)) dL_law_1989 ⟨by show _ ≤ 1064969; omega, by show _ ≤ 5901198; omega⟩) F.K hS (fun r8 M1 H locs hw hS => ?_)
  have hLM : LM M M1 := by rw [hw.2]; exact LM_th hI 0
  refine lv_istore (lv' := [(6, .int r8), (5, .int r9), (0, .ref b), (1, .ref (ad 57)), (2, .ref (am 0)), (3, .ref o), (4, .int (nI iL))]) hx hb dL_law_1992 hl (by decide) rfl (fun ls hl => ?_)
  refine lv_goto (tgt := 2023) hx hb dL_law_1994 (by decide) ?_
  exact W.widen (k := 100 + 224 * (n + 1)) (n := 1200 + 10680 * (n + 1)) (by omega) (by omega) (kk9 S1 M1 _ _ _ (hI9.next hLQ hLM) hS (lv_sub hl [2, 3, 4, 5, 6] rfl))
set_option maxHeartbeats 4000000 in
set_option maxRecDepth 100000 in
theorem lc_41 {p : Program} {l : Launch} {e : Env} {s : State} {m : MethodId} {below : List Frame} {meth : Method} {c : Code} {b L : Nat} {xs : Nat → Int32} {dC : Nat → ClassId} {dI : Nat → Nat → Nat} {cB : ClassId} {ad am : Nat → Nat} {o n iL : Nat} {Q : State → Prop} (F : LF p l s m c b L xs dC dI cB ad am o) (hni : iL = 5 * n) (hiL : iL + 5 ≤ L) : LCase p l e s m below meth c b dC dI ad am o n iL Q 1997 := by
  intro S M H locs hI9 hS kk9 ls hl
  have hx := F.x
  have hb := F.b
  have hml := F.ml
  have hown := F.own
  have hts := F.ts
  have hL := F.hL
  have hn9 : n ≤ 511 := by omega
  refine lv_aload_n hx hb dL_law_1997 rfl (lv_at hl 1 rfl) ?_
  refine ll_x (va_runV (As := []) (rest := []) ⟨hx, hb, hml, hown, hts⟩ (m_X4_isSound l dC dI ad S hI9.x hI9.x5) (cwV 0 hts gL_law_X4_isSound rfl rfl rfl (by decide +kernel) ⟨Nat.le_of_ble_eq_true rfl, Nat.le_of_ble_eq_true rfl⟩) (hS.preX F.K) rfl rfl hl.1 rfl (lv_room (Nat.le_of_ble_eq_true rfl)) dL_law_1998 ⟨by show _ ≤ 1064969; omega, by show _ ≤ 5901198; omega⟩) F.K hS (fun r9 S1 H locs hw hS => ?_)
  have hLQ : LQ S S1 := LQ_KA hI9.x5 hw.2
  refine lv_pop hx hb dL_law_2001 rfl ?_
  refine lv_aload_n hx hb dL_law_2002 rfl (lv_at hl 2 rfl) ?_
  have hI := hI9.m
  have hc : M.2.2.2.1 + 12 < 1000000 := by have := hI9.mp; omega
  refine ll_m (va_runV (As := []) (rest := []) ⟨hx, hb, hml, hown, hts⟩ (m_X6_isSound l dC dI am M) (cwV 0 hts gL_law_X6_isSound rfl rfl rfl (by decide +kernel) ⟨Nat.le_of_ble_eq_true rfl, Nat.le_of_ble_eq_true rfl⟩) (hS.preM F.K) rfl rfl hl.1 rfl (lv_room (Nat.le_of_ble_eq_true rfl)) dL_law_2003 ⟨by show _ ≤ 1064969; omega, by show _ ≤ 5901198; omega⟩) F.K hS (fun r8 M1 H locs hw hS => ?_)
  have hLM : LM M M1 := by rw [hw.2]; exact LM_th hI 0
  refine lv_pop hx hb dL_law_2006 rfl ?_
  refine lv_goto (tgt := 2023) hx hb dL_law_2007 (by decide) ?_
  exact W.widen (k := 100 + 224 * (n + 1)) (n := 1200 + 10680 * (n + 1)) (by omega) (by omega) (kk9 S1 M1 _ _ _ (hI9.next hLQ hLM) hS (lv_sub hl [0, 1, 2, 3, 4] rfl))
set_option maxHeartbeats 4000000 in
set_option maxRecDepth 100000 in
theorem lc_42 {p : Program} {l : Launch} {e : Env} {s : State} {m : MethodId} {below : List Frame} {meth : Method} {c : Code} {b L : Nat} {xs : Nat → Int32} {dC : Nat → ClassId} {dI : Nat → Nat → Nat} {cB : ClassId} {ad am : Nat → Nat} {o n iL : Nat} {Q : State → Prop} (F : LF p l s m c b L xs dC dI cB ad am o) (hni : iL = 5 * n) (hiL : iL + 5 ≤ L) : LCase p l e s m below meth c b dC dI ad am o n iL Q 2010 := by
  intro S M H locs hI9 hS kk9 ls hl
  have hx := F.x
  have hb := F.b
  have hml := F.ml
  have hown := F.own
  have hts := F.ts
  have hL := F.hL
  have hn9 : n ≤ 511 := by omega
  refine lv_aload_n hx hb dL_law_2010 rfl (lv_at hl 1 rfl) ?_
  refine ll_xl (va_runV (As := []) (rest := []) ⟨hx, hb, hml, hown, hts⟩ (m_X4_digest l dC dI ad S hI9.x hI9.x5 (by have := hI9.xp; have := hI9.xr; have := hI9.kn; omega)) (cwV 0 hts gL_law_X4_digest rfl rfl rfl (by decide +kernel) ⟨Nat.le_of_ble_eq_true rfl, Nat.le_of_ble_eq_true rfl⟩) (hS.preX F.K) rfl rfl hl.1 rfl (lv_room (Nat.le_of_ble_eq_true rfl)) dL_law_2011 ⟨by show _ ≤ 1064969; omega, by show _ ≤ 5901198; omega⟩) F.K hS (fun r9 S1 H locs hw hS => ?_)
  have hLQ : LQ S S1 := LQ_KA hI9.x5 hw.2
  refine lv_pop2_2 hx hb dL_law_2014 rfl ?_
  refine lv_aload_n hx hb dL_law_2015 rfl (lv_at hl 2 rfl) ?_
  have hI := hI9.m
  have hc : M.2.2.2.1 + 12 < 1000000 := by have := hI9.mp; omega
  refine ll_ml (va_runV (As := []) (rest := []) ⟨hx, hb, hml, hown, hts⟩ (m_X6_digest l dC dI am M hI (by have := hI9.mp; have := hI9.mr; have := hI9.kk; have := hI9.kn; omega)) (cwV 0 hts gL_law_X6_digest rfl rfl rfl (by decide +kernel) ⟨Nat.le_of_ble_eq_true rfl, Nat.le_of_ble_eq_true rfl⟩) (hS.preM F.K) rfl rfl hl.1 rfl (lv_room (Nat.le_of_ble_eq_true rfl)) dL_law_2016 ⟨by show _ ≤ 1064969; omega, by show _ ≤ 5901198; omega⟩) F.K hS (fun r8 M1 H locs hw hS => ?_)
  have hLM : LM M M1 := by rw [hw.2]; exact LM_th hI 0
  refine lv_pop2_2 hx hb dL_law_2019 rfl ?_
  refine lv_goto (tgt := 2023) hx hb dL_law_2020 (by decide) ?_
  exact W.widen (k := 100 + 224 * (n + 1)) (n := 1200 + 10680 * (n + 1)) (by omega) (by omega) (kk9 S1 M1 _ _ _ (hI9.next hLQ hLM) hS (lv_sub hl [0, 1, 2, 3, 4] rfl))
