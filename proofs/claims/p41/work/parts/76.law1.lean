theorem ovl_key {K K2 : Nat → Nat} {n : Nat} (h : ∀ x, x < 5 → K x < 8) (h2 : ∀ x, x < 5 → K2 x < 8) : ∀ x, x < 5 → ovl K K2 n x < 8 := fun x hx => by
  unfold ovl
  split
  · exact h x hx
  · exact h2 x hx
theorem LI.knock {n : Nat} {S S1 : XS} {M M1 : MS} (h : LI n S M) (h1 : S1 = xN S (S.2.2.1, S.2.2.2.1, S.2.2.2.2 + 1)) (h2 : M1 = mN M (0, M.2.2.2.1, M.2.2.2.2.1, M.2.2.2.2.2 + 1)) : LI (n + 1) S1 M1 := by
  subst h1; subst h2
  refine ⟨h.x, h.x5, h.m, ?_, ?_, ?_, ?_, ?_, ?_⟩
  · show S.2.2.1 ≤ 12 * (n + 1); have := h.xp; omega
  · show S.2.2.2.1 ≤ n + 1; have := h.xr; omega
  · show M.2.2.2.1 ≤ 12 * (n + 1); have := h.mp; omega
  · show M.2.2.2.2.1 ≤ n + 1; have := h.mr; omega
  · show S.2.2.2.2 + 1 = M.2.2.2.2.2 + 1; rw [h.kk]
  · show S.2.2.2.2 + 1 ≤ n + 1; have := h.kn; omega
set_option maxHeartbeats 4000000 in
set_option maxRecDepth 100000 in
theorem lc_0 {p : Program} {l : Launch} {e : Env} {s : State} {m : MethodId} {below : List Frame} {meth : Method} {c : Code} {b L : Nat} {xs : Nat → Int32} {dC : Nat → ClassId} {dI : Nat → Nat → Nat} {cB : ClassId} {ad am : Nat → Nat} {o n iL : Nat} {Q : State → Prop} (F : LF p l s m c b L xs dC dI cB ad am o) (hni : iL = 5 * n) (hiL : iL + 5 ≤ L) : LCase p l e s m below meth c b dC dI ad am o n iL Q 228 := by
  intro S M H locs hI9 hS kk9 ls hl
  have hx := F.x
  have hb := F.b
  have hml := F.ml
  have hown := F.own
  have hts := F.ts
  have hL := F.hL
  have hn9 : n ≤ 511 := by omega
  refine lv_aload_n hx hb dL_law_228 rfl (lv_at hl 1 rfl) ?_
  refine lv_aload_n hx hb dL_law_229 rfl (lv_at hl 0 rfl) ?_
  refine lv_iload hx hb dL_law_230 (lv_at hl 4 rfl) ?_
  refine lv_iconst (v := nI 1) hx hb dL_law_232 (by decide) ?_
  refine kn_iadd hx hb dL_law_233 ?_
  refine va_sld hx hb F.sc F.bl (fun z => Nat.not_le.mpr F.bl z) hS.st (vp_in_nI (show iL + 1 < L by omega) (by omega)) dL_law_234 ?_
  generalize xs (nI (iL + 1)).toNatClampNeg = x1
  refine lv_aload_n hx hb dL_law_235 rfl (lv_at hl 0 rfl) ?_
  refine lv_iload hx hb dL_law_236 (lv_at hl 4 rfl) ?_
  refine lv_iconst (v := nI 2) hx hb dL_law_238 (by decide) ?_
  refine kn_iadd hx hb dL_law_239 ?_
  refine va_sld hx hb F.sc F.bl (fun z => Nat.not_le.mpr F.bl z) hS.st (vp_in_nI (show iL + 2 < L by omega) (by omega)) dL_law_240 ?_
  generalize xs (nI (iL + 2)).toNatClampNeg = x2
  refine lv_aload_n hx hb dL_law_241 rfl (lv_at hl 3 rfl) ?_
  refine ll_w (vx_runSW (As := [.ref (ad 57), .int x1, .int x2, .ref o]) (rest := []) ⟨hx, hb, hml, hown, hts⟩ (m_L_put l F.st dC dI cB ad o S x1 x2 hI9.x hI9.x5 (by have := hI9.xp; omega)) (vx_cwSW 4 hts gL_law_L_put rfl rfl rfl (by decide +kernel) ⟨Nat.le_of_ble_eq_true rfl, Nat.le_of_ble_eq_true rfl⟩) (hS.preW F.K) rfl rfl hl.1 rfl (lv_room (Nat.le_of_ble_eq_true rfl)) dL_law_242 ⟨by show _ ≤ 1064969; omega, by show _ ≤ 5901198; omega⟩) F.K hS (fun r9 S1 H locs hLQ hS => ?_)
  refine lv_istore (lv' := [(5, .int r9), (0, .ref b), (1, .ref (ad 57)), (2, .ref (am 0)), (3, .ref o), (4, .int (nI iL))]) hx hb dL_law_245 hl (by decide) rfl (fun ls hl => ?_)
  refine lv_aload_n hx hb dL_law_247 rfl (lv_at hl 3 rfl) ?_
  refine lv_aload_n hx hb dL_law_248 rfl (lv_at hl 1 rfl) ?_
  refine lv_iload hx hb dL_law_249 (lv_at hl 5 rfl) ?_
  refine lv_iconst (v := nI 1) hx hb dL_law_251 (by decide) ?_
  refine kn_iadd hx hb dL_law_252 ?_
  refine va_sld hx hb F.sc F.bl (fun z => Nat.not_le.mpr F.bl z) hS.st (vp_in_nI (show iL + 1 < L by omega) (by omega)) dL_law_253 ?_
  generalize xs (nI (iL + 1)).toNatClampNeg = x3
  refine lv_aload_n hx hb dL_law_254 rfl (lv_at hl 1 rfl) ?_
  refine lv_iload hx hb dL_law_255 (lv_at hl 5 rfl) ?_
  refine lv_iconst (v := nI 2) hx hb dL_law_257 (by decide) ?_
  refine kn_iadd hx hb dL_law_258 ?_
  refine va_sld hx hb F.sc F.bl (fun z => Nat.not_le.mpr F.bl z) hS.st (vp_in_nI (show iL + 2 < L by omega) (by omega)) dL_law_259 ?_
  generalize xs (nI (iL + 2)).toNatClampNeg = x4
  have hI := hI9.m
  have hc : M.2.2.2.1 + 12 < 1000000 := by have := hI9.mp; omega
  rcases lim_lt 3 (by decide) x3 with ⟨i, hi, rfl⟩ | hb9
  rotate_left
  · skip
    refine ll_m (va_runV (As := [.int x3, .int x4]) (rest := []) ⟨hx, hb, hml, hown, hts⟩ (o_X6_put_1 l dC dI am M x3 x4 hb9 hI) (cwV 2 hts gL_law_X6_put rfl rfl rfl (by decide +kernel) ⟨Nat.le_of_ble_eq_true rfl, Nat.le_of_ble_eq_true rfl⟩) (hS.preM F.K) rfl rfl hl.1 rfl (lv_room (Nat.le_of_ble_eq_true rfl)) dL_law_260 ⟨by show _ ≤ 1064969; omega, by show _ ≤ 5901198; omega⟩) F.K hS (fun r8 M1 H locs hw hS => ?_)
    have hLM : LM M M1 := by rw [hw]; exact LM_th hI _
    refine lv_istore (lv' := [(6, .int r8), (5, .int r9), (0, .ref b), (1, .ref (ad 57)), (2, .ref (am 0)), (3, .ref o), (4, .int (nI iL))]) hx hb dL_law_263 hl (by decide) rfl (fun ls hl => ?_)
    refine lv_goto (tgt := 2023) hx hb dL_law_265 (by decide) ?_
    exact W.widen (k := 100 + 224 * (n + 1)) (n := 1200 + 10680 * (n + 1)) (by omega) (by omega) (kk9 S1 M1 _ _ _ (hI9.next hLQ hLM) hS (lv_sub hl [2, 3, 4, 5, 6] rfl))
  replace hi : i < 3 := by omega
  have hn := (hI.1 i hi).1
  rcases lim_le 15 (by decide) x4 with ⟨v, hv, rfl⟩ | hb9
  rotate_left
  · skip
    refine ll_m (va_runV (As := [.int (nI i), .int x4]) (rest := []) ⟨hx, hb, hml, hown, hts⟩ (o_X6_put_2 l dC dI am M i x4 hi hb9 hI) (cwV 2 hts gL_law_X6_put rfl rfl rfl (by decide +kernel) ⟨Nat.le_of_ble_eq_true rfl, Nat.le_of_ble_eq_true rfl⟩) (hS.preM F.K) rfl rfl hl.1 rfl (lv_room (Nat.le_of_ble_eq_true rfl)) dL_law_260 ⟨by show _ ≤ 1064969; omega, by show _ ≤ 5901198; omega⟩) F.K hS (fun r8 M1 H locs hw hS => ?_)
    have hLM : LM M M1 := by rw [hw]; exact LM_th hI _
    refine lv_istore (lv' := [(6, .int r8), (5, .int r9), (0, .ref b), (1, .ref (ad 57)), (2, .ref (am 0)), (3, .ref o), (4, .int (nI iL))]) hx hb dL_law_263 hl (by decide) rfl (fun ls hl => ?_)
    refine lv_goto (tgt := 2023) hx hb dL_law_265 (by decide) ?_
    exact W.widen (k := 100 + 224 * (n + 1)) (n := 1200 + 10680 * (n + 1)) (by omega) (by omega) (kk9 S1 M1 _ _ _ (hI9.next hLQ hLM) hS (lv_sub hl [2, 3, 4, 5, 6] rfl))
  replace hv : v < 16 := by omega
  refine ll_m (va_runV (As := [.int (nI i), .int (nI v)]) (rest := []) ⟨hx, hb, hml, hown, hts⟩ (m_X6_put l dC dI am M i v hi hv hI) (cwV 2 hts gL_law_X6_put rfl rfl rfl (by decide +kernel) ⟨Nat.le_of_ble_eq_true rfl, Nat.le_of_ble_eq_true rfl⟩) (hS.preM F.K) rfl rfl hl.1 rfl (lv_room (Nat.le_of_ble_eq_true rfl)) dL_law_260 ⟨by show _ ≤ 1064969; omega, by show _ ≤ 5901198; omega⟩) F.K hS (fun r8 M1 H locs hw hS => ?_)
  have hLM : LM M M1 := LM_put hI hc hi hv hw
  refine lv_istore (lv' := [(6, .int r8), (5, .int r9), (0, .ref b), (1, .ref (ad 57)), (2, .ref (am 0)), (3, .ref o), (4, .int (nI iL))]) hx hb dL_law_263 hl (by decide) rfl (fun ls hl => ?_)
  refine lv_goto (tgt := 2023) hx hb dL_law_265 (by decide) ?_
  exact W.widen (k := 100 + 224 * (n + 1)) (n := 1200 + 10680 * (n + 1)) (by omega) (by omega) (kk9 S1 M1 _ _ _ (hI9.next hLQ hLM) hS (lv_sub hl [2, 3, 4, 5, 6] rfl))
set_option maxHeartbeats 4000000 in
set_option maxRecDepth 100000 in
theorem lc_10 {p : Program} {l : Launch} {e : Env} {s : State} {m : MethodId} {below : List Frame} {meth : Method} {c : Code} {b L : Nat} {xs : Nat → Int32} {dC : Nat → ClassId} {dI : Nat → Nat → Nat} {cB : ClassId} {ad am : Nat → Nat} {o n iL : Nat} {Q : State → Prop} (F : LF p l s m c b L xs dC dI cB ad am o) (hni : iL = 5 * n) (hiL : iL + 5 ≤ L) : LCase p l e s m below meth c b dC dI ad am o n iL Q 664 := by
  intro S M H locs hI9 hS kk9 ls hl
  have hx := F.x
  have hb := F.b
  have hml := F.ml
  have hown := F.own
  have hts := F.ts
  have hL := F.hL
  have hn9 : n ≤ 511 := by omega
  refine lv_aload_n hx hb dL_law_664 rfl (lv_at hl 1 rfl) ?_
  refine lv_aload_n hx hb dL_law_665 rfl (lv_at hl 0 rfl) ?_
  refine lv_iload hx hb dL_law_666 (lv_at hl 4 rfl) ?_
  refine lv_iconst (v := nI 1) hx hb dL_law_668 (by decide) ?_
  refine kn_iadd hx hb dL_law_669 ?_
  refine va_sld hx hb F.sc F.bl (fun z => Nat.not_le.mpr F.bl z) hS.st (vp_in_nI (show iL + 1 < L by omega) (by omega)) dL_law_670 ?_
  generalize xs (nI (iL + 1)).toNatClampNeg = x1
  refine lv_aload_n hx hb dL_law_671 rfl (lv_at hl 0 rfl) ?_
  refine lv_iload hx hb dL_law_672 (lv_at hl 4 rfl) ?_
  refine lv_iconst (v := nI 2) hx hb dL_law_674 (by decide) ?_
  refine kn_iadd hx hb dL_law_675 ?_
  refine va_sld hx hb F.sc F.bl (fun z => Nat.not_le.mpr F.bl z) hS.st (vp_in_nI (show iL + 2 < L by omega) (by omega)) dL_law_676 ?_
  generalize xs (nI (iL + 2)).toNatClampNeg = x2
  refine lv_aload_n hx hb dL_law_677 rfl (lv_at hl 0 rfl) ?_
  refine lv_iload hx hb dL_law_678 (lv_at hl 4 rfl) ?_
  refine lv_iconst (v := nI 3) hx hb dL_law_680 (by decide) ?_
  refine kn_iadd hx hb dL_law_681 ?_
  refine va_sld hx hb F.sc F.bl (fun z => Nat.not_le.mpr F.bl z) hS.st (vp_in_nI (show iL + 3 < L by omega) (by omega)) dL_law_682 ?_
  generalize xs (nI (iL + 3)).toNatClampNeg = x3
  refine lv_aload_n hx hb dL_law_683 rfl (lv_at hl 0 rfl) ?_
  refine lv_iload hx hb dL_law_684 (lv_at hl 4 rfl) ?_
  refine lv_iconst (v := nI 4) hx hb dL_law_686 (by decide) ?_
  refine kn_iadd hx hb dL_law_687 ?_
  refine va_sld hx hb F.sc F.bl (fun z => Nat.not_le.mpr F.bl z) hS.st (vp_in_nI (show iL + 4 < L by omega) (by omega)) dL_law_688 ?_
  generalize xs (nI (iL + 4)).toNatClampNeg = x4
  refine lv_aload_n hx hb dL_law_689 rfl (lv_at hl 3 rfl) ?_
  refine ll_w (vx_runSW (As := [.ref (ad 57), .int x1, .int x2, .int x3, .int x4, .ref o]) (rest := []) ⟨hx, hb, hml, hown, hts⟩ (m_L_sortPart l F.st dC dI cB ad o S x1 x2 x3 x4 hI9.x hI9.x5 (by have := hI9.xp; omega)) (vx_cwSW 6 hts gL_law_L_sortPart rfl rfl rfl (by decide +kernel) ⟨Nat.le_of_ble_eq_true rfl, Nat.le_of_ble_eq_true rfl⟩) (hS.preW F.K) rfl rfl hl.1 rfl (lv_room (Nat.le_of_ble_eq_true rfl)) dL_law_690 ⟨by show _ ≤ 1064969; omega, by show _ ≤ 5901198; omega⟩) F.K hS (fun r9 S1 H locs hLQ hS => ?_)
  refine lv_istore (lv' := [(5, .int r9), (0, .ref b), (1, .ref (ad 57)), (2, .ref (am 0)), (3, .ref o), (4, .int (nI iL))]) hx hb dL_law_693 hl (by decide) rfl (fun ls hl => ?_)
  refine lv_aload_n hx hb dL_law_695 rfl (lv_at hl 3 rfl) ?_
  refine lv_aload_n hx hb dL_law_696 rfl (lv_at hl 1 rfl) ?_
  refine lv_iload hx hb dL_law_697 (lv_at hl 5 rfl) ?_
  refine lv_iconst (v := nI 1) hx hb dL_law_699 (by decide) ?_
  refine kn_iadd hx hb dL_law_700 ?_
  refine va_sld hx hb F.sc F.bl (fun z => Nat.not_le.mpr F.bl z) hS.st (vp_in_nI (show iL + 1 < L by omega) (by omega)) dL_law_701 ?_
  generalize xs (nI (iL + 1)).toNatClampNeg = x5
  refine lv_aload_n hx hb dL_law_702 rfl (lv_at hl 1 rfl) ?_
  refine lv_iload hx hb dL_law_703 (lv_at hl 5 rfl) ?_
  refine lv_iconst (v := nI 2) hx hb dL_law_705 (by decide) ?_
  refine kn_iadd hx hb dL_law_706 ?_
  refine va_sld hx hb F.sc F.bl (fun z => Nat.not_le.mpr F.bl z) hS.st (vp_in_nI (show iL + 2 < L by omega) (by omega)) dL_law_707 ?_
  generalize xs (nI (iL + 2)).toNatClampNeg = x6
  refine lv_aload_n hx hb dL_law_708 rfl (lv_at hl 1 rfl) ?_
  refine lv_iload hx hb dL_law_709 (lv_at hl 5 rfl) ?_
  refine lv_iconst (v := nI 3) hx hb dL_law_711 (by decide) ?_
  refine kn_iadd hx hb dL_law_712 ?_
  refine va_sld hx hb F.sc F.bl (fun z => Nat.not_le.mpr F.bl z) hS.st (vp_in_nI (show iL + 3 < L by omega) (by omega)) dL_law_713 ?_
  generalize xs (nI (iL + 3)).toNatClampNeg = x7
  refine lv_aload_n hx hb dL_law_714 rfl (lv_at hl 1 rfl) ?_
  refine lv_iload hx hb dL_law_715 (lv_at hl 5 rfl) ?_
  refine lv_iconst (v := nI 4) hx hb dL_law_717 (by decide) ?_
  refine kn_iadd hx hb dL_law_718 ?_
  refine va_sld hx hb F.sc F.bl (fun z => Nat.not_le.mpr F.bl z) hS.st (vp_in_nI (show iL + 4 < L by omega) (by omega)) dL_law_719 ?_
  generalize xs (nI (iL + 4)).toNatClampNeg = x8
  have hI := hI9.m
  have hc : M.2.2.2.1 + 12 < 1000000 := by have := hI9.mp; omega
  rcases lim_lt 3 (by decide) x5 with ⟨i, hi, rfl⟩ | hb9
  rotate_left
  · skip
    refine ll_m (va_runV (As := [.int x5, .int x6, .int x7, .int x8]) (rest := []) ⟨hx, hb, hml, hown, hts⟩ (o_X6_sortPart_1 l dC dI am M x5 x6 x7 x8 hb9 hI) (cwV 4 hts gL_law_X6_sortPart rfl rfl rfl (by decide +kernel) ⟨Nat.le_of_ble_eq_true rfl, Nat.le_of_ble_eq_true rfl⟩) (hS.preM F.K) rfl rfl hl.1 rfl (lv_room (Nat.le_of_ble_eq_true rfl)) dL_law_720 ⟨by show _ ≤ 1064969; omega, by show _ ≤ 5901198; omega⟩) F.K hS (fun r8 M1 H locs hw hS => ?_)
    have hLM : LM M M1 := by rw [hw]; exact LM_th hI _
    refine lv_istore (lv' := [(6, .int r8), (5, .int r9), (0, .ref b), (1, .ref (ad 57)), (2, .ref (am 0)), (3, .ref o), (4, .int (nI iL))]) hx hb dL_law_723 hl (by decide) rfl (fun ls hl => ?_)
    refine lv_goto (tgt := 2023) hx hb dL_law_725 (by decide) ?_
    exact W.widen (k := 100 + 224 * (n + 1)) (n := 1200 + 10680 * (n + 1)) (by omega) (by omega) (kk9 S1 M1 _ _ _ (hI9.next hLQ hLM) hS (lv_sub hl [2, 3, 4, 5, 6] rfl))
  replace hi : i < 3 := by omega
  have hn := (hI.1 i hi).1
  rcases lim_lt 4 (by decide) x6 with ⟨j, hj, rfl⟩ | hb9
  rotate_left
  · skip
    refine ll_m (va_runV (As := [.int (nI i), .int x6, .int x7, .int x8]) (rest := []) ⟨hx, hb, hml, hown, hts⟩ (o_X6_sortPart_2 l dC dI am M i x6 x7 x8 hi hb9 hI) (cwV 4 hts gL_law_X6_sortPart rfl rfl rfl (by decide +kernel) ⟨Nat.le_of_ble_eq_true rfl, Nat.le_of_ble_eq_true rfl⟩) (hS.preM F.K) rfl rfl hl.1 rfl (lv_room (Nat.le_of_ble_eq_true rfl)) dL_law_720 ⟨by show _ ≤ 1064969; omega, by show _ ≤ 5901198; omega⟩) F.K hS (fun r8 M1 H locs hw hS => ?_)
    have hLM : LM M M1 := by rw [hw]; exact LM_th hI _
    refine lv_istore (lv' := [(6, .int r8), (5, .int r9), (0, .ref b), (1, .ref (ad 57)), (2, .ref (am 0)), (3, .ref o), (4, .int (nI iL))]) hx hb dL_law_723 hl (by decide) rfl (fun ls hl => ?_)
    refine lv_goto (tgt := 2023) hx hb dL_law_725 (by decide) ?_
    exact W.widen (k := 100 + 224 * (n + 1)) (n := 1200 + 10680 * (n + 1)) (by omega) (by omega) (kk9 S1 M1 _ _ _ (hI9.next hLQ hLM) hS (lv_sub hl [2, 3, 4, 5, 6] rfl))
  replace hj : j < 4 := by omega
  rcases lim_le (M.1 i).2.2 (by omega) x7 with ⟨q, hq, rfl⟩ | hb9
  rotate_left
  · skip
    refine ll_m (va_runV (As := [.int (nI i), .int (nI j), .int x7, .int x8]) (rest := []) ⟨hx, hb, hml, hown, hts⟩ (o_X6_sortPart_3 l dC dI am M i j x7 x8 hi hj hb9 hI) (cwV 4 hts gL_law_X6_sortPart rfl rfl rfl (by decide +kernel) ⟨Nat.le_of_ble_eq_true rfl, Nat.le_of_ble_eq_true rfl⟩) (hS.preM F.K) rfl rfl hl.1 rfl (lv_room (Nat.le_of_ble_eq_true rfl)) dL_law_720 ⟨by show _ ≤ 1064969; omega, by show _ ≤ 5901198; omega⟩) F.K hS (fun r8 M1 H locs hw hS => ?_)
    have hLM : LM M M1 := by rw [hw]; exact LM_th hI _
    refine lv_istore (lv' := [(6, .int r8), (5, .int r9), (0, .ref b), (1, .ref (ad 57)), (2, .ref (am 0)), (3, .ref o), (4, .int (nI iL))]) hx hb dL_law_723 hl (by decide) rfl (fun ls hl => ?_)
    refine lv_goto (tgt := 2023) hx hb dL_law_725 (by decide) ?_
    exact W.widen (k := 100 + 224 * (n + 1)) (n := 1200 + 10680 * (n + 1)) (by omega) (by omega) (kk9 S1 M1 _ _ _ (hI9.next hLQ hLM) hS (lv_sub hl [2, 3, 4, 5, 6] rfl))
  replace hq : q ≤ (M.1 i).2.2 := by omega
  rcases lim_le (M.1 i).2.2 (by omega) x8 with ⟨q2, hq2, rfl⟩ | hb9
  rotate_left
  · skip
    refine ll_m (va_runV (As := [.int (nI i), .int (nI j), .int (nI q), .int x8]) (rest := []) ⟨hx, hb, hml, hown, hts⟩ (o_X6_sortPart_4 l dC dI am M i j q x8 hi hj hq hb9 hI) (cwV 4 hts gL_law_X6_sortPart rfl rfl rfl (by decide +kernel) ⟨Nat.le_of_ble_eq_true rfl, Nat.le_of_ble_eq_true rfl⟩) (hS.preM F.K) rfl rfl hl.1 rfl (lv_room (Nat.le_of_ble_eq_true rfl)) dL_law_720 ⟨by show _ ≤ 1064969; omega, by show _ ≤ 5901198; omega⟩) F.K hS (fun r8 M1 H locs hw hS => ?_)
    have hLM : LM M M1 := by rw [hw]; exact LM_th hI _
    refine lv_istore (lv' := [(6, .int r8), (5, .int r9), (0, .ref b), (1, .ref (ad 57)), (2, .ref (am 0)), (3, .ref o), (4, .int (nI iL))]) hx hb dL_law_723 hl (by decide) rfl (fun ls hl => ?_)
    refine lv_goto (tgt := 2023) hx hb dL_law_725 (by decide) ?_
    exact W.widen (k := 100 + 224 * (n + 1)) (n := 1200 + 10680 * (n + 1)) (by omega) (by omega) (kk9 S1 M1 _ _ _ (hI9.next hLQ hLM) hS (lv_sub hl [2, 3, 4, 5, 6] rfl))
  replace hq2 : q2 ≤ (M.1 i).2.2 := by omega
  by_cases hqq : q ≤ q2
  rotate_left
  · skip
    refine ll_m (va_runV (As := [.int (nI i), .int (nI j), .int (nI q), .int (nI q2)]) (rest := []) ⟨hx, hb, hml, hown, hts⟩ (o_X6_sortPart_5 l dC dI am M i j q q2 hi hj hq hq2 (by omega) hI) (cwV 4 hts gL_law_X6_sortPart rfl rfl rfl (by decide +kernel) ⟨Nat.le_of_ble_eq_true rfl, Nat.le_of_ble_eq_true rfl⟩) (hS.preM F.K) rfl rfl hl.1 rfl (lv_room (Nat.le_of_ble_eq_true rfl)) dL_law_720 ⟨by show _ ≤ 1064969; omega, by show _ ≤ 5901198; omega⟩) F.K hS (fun r8 M1 H locs hw hS => ?_)
    have hLM : LM M M1 := by rw [hw]; exact LM_th hI _
    refine lv_istore (lv' := [(6, .int r8), (5, .int r9), (0, .ref b), (1, .ref (ad 57)), (2, .ref (am 0)), (3, .ref o), (4, .int (nI iL))]) hx hb dL_law_723 hl (by decide) rfl (fun ls hl => ?_)
    refine lv_goto (tgt := 2023) hx hb dL_law_725 (by decide) ?_
    exact W.widen (k := 100 + 224 * (n + 1)) (n := 1200 + 10680 * (n + 1)) (by omega) (by omega) (kk9 S1 M1 _ _ _ (hI9.next hLQ hLM) hS (lv_sub hl [2, 3, 4, 5, 6] rfl))
  refine ll_m (va_runV (As := [.int (nI i), .int (nI j), .int (nI q), .int (nI q2)]) (rest := []) ⟨hx, hb, hml, hown, hts⟩ (m_X6_sortPart l dC dI am M i j q q2 hi hj hq hq2 hqq hI) (cwV 4 hts gL_law_X6_sortPart rfl rfl rfl (by decide +kernel) ⟨Nat.le_of_ble_eq_true rfl, Nat.le_of_ble_eq_true rfl⟩) (hS.preM F.K) rfl rfl hl.1 rfl (lv_room (Nat.le_of_ble_eq_true rfl)) dL_law_720 ⟨by show _ ≤ 1064969; omega, by show _ ≤ 5901198; omega⟩) F.K hS (fun r8 M1 H locs hw hS => ?_)
  have hLM : LM M M1 := by rw [hw.2]; exact LM_row0 hI (rowM_srt hI hi hqq hq2)
  refine lv_istore (lv' := [(6, .int r8), (5, .int r9), (0, .ref b), (1, .ref (ad 57)), (2, .ref (am 0)), (3, .ref o), (4, .int (nI iL))]) hx hb dL_law_723 hl (by decide) rfl (fun ls hl => ?_)
  refine lv_goto (tgt := 2023) hx hb dL_law_725 (by decide) ?_
  exact W.widen (k := 100 + 224 * (n + 1)) (n := 1200 + 10680 * (n + 1)) (by omega) (by omega) (kk9 S1 M1 _ _ _ (hI9.next hLQ hLM) hS (lv_sub hl [2, 3, 4, 5, 6] rfl))
set_option maxHeartbeats 4000000 in
set_option maxRecDepth 100000 in
theorem lc_15 {p : Program} {l : Launch} {e : Env} {s : State} {m : MethodId} {below : List Frame} {meth : Method} {c : Code} {b L : Nat} {xs : Nat → Int32} {dC : Nat → ClassId} {dI : Nat → Nat → Nat} {cB : ClassId} {ad am : Nat → Nat} {o n iL : Nat} {Q : State → Prop} (F : LF p l s m c b L xs dC dI cB ad am o) (hni : iL = 5 * n) (hiL : iL + 5 ≤ L) : LCase p l e s m below meth c b dC dI ad am o n iL Q 876 := by
  intro S M H locs hI9 hS kk9 ls hl
  have hx := F.x
  have hb := F.b
  have hml := F.ml
  have hown := F.own
  have hts := F.ts
  have hL := F.hL
  have hn9 : n ≤ 511 := by omega
  refine lv_aload_n hx hb dL_law_876 rfl (lv_at hl 1 rfl) ?_
  refine lv_aload_n hx hb dL_law_877 rfl (lv_at hl 0 rfl) ?_
  refine lv_iload hx hb dL_law_878 (lv_at hl 4 rfl) ?_
  refine lv_iconst (v := nI 1) hx hb dL_law_880 (by decide) ?_
  refine kn_iadd hx hb dL_law_881 ?_
  refine va_sld hx hb F.sc F.bl (fun z => Nat.not_le.mpr F.bl z) hS.st (vp_in_nI (show iL + 1 < L by omega) (by omega)) dL_law_882 ?_
  generalize xs (nI (iL + 1)).toNatClampNeg = x1
  refine lv_aload_n hx hb dL_law_883 rfl (lv_at hl 3 rfl) ?_
  refine ll_w (vx_runSW (As := [.ref (ad 57), .int x1, .ref o]) (rest := []) ⟨hx, hb, hml, hown, hts⟩ (m_L_text l F.st dC dI cB ad o S x1 hI9.x hI9.x5 (by have := hI9.xp; omega)) (vx_cwSW 3 hts gL_law_L_text rfl rfl rfl (by decide +kernel) ⟨Nat.le_of_ble_eq_true rfl, Nat.le_of_ble_eq_true rfl⟩) (hS.preW F.K) rfl rfl hl.1 rfl (lv_room (Nat.le_of_ble_eq_true rfl)) dL_law_884 ⟨by show _ ≤ 1064969; omega, by show _ ≤ 5901198; omega⟩) F.K hS (fun r9 S1 H locs hLQ hS => ?_)
  refine lv_istore (lv' := [(5, .int r9), (0, .ref b), (1, .ref (ad 57)), (2, .ref (am 0)), (3, .ref o), (4, .int (nI iL))]) hx hb dL_law_887 hl (by decide) rfl (fun ls hl => ?_)
  refine lv_aload_n hx hb dL_law_889 rfl (lv_at hl 3 rfl) ?_
  refine lv_aload_n hx hb dL_law_890 rfl (lv_at hl 1 rfl) ?_
  refine lv_iload hx hb dL_law_891 (lv_at hl 5 rfl) ?_
  refine lv_iconst (v := nI 1) hx hb dL_law_893 (by decide) ?_
  refine kn_iadd hx hb dL_law_894 ?_
  refine va_sld hx hb F.sc F.bl (fun z => Nat.not_le.mpr F.bl z) hS.st (vp_in_nI (show iL + 1 < L by omega) (by omega)) dL_law_895 ?_
  generalize xs (nI (iL + 1)).toNatClampNeg = x2
  have hI := hI9.m
  have hc : M.2.2.2.1 + 12 < 1000000 := by have := hI9.mp; omega
  rcases lim_lt 3 (by decide) x2 with ⟨i, hi, rfl⟩ | hb9
  rotate_left
  · skip
    refine ll_mr (va_runV (As := [.int x2]) (rest := []) ⟨hx, hb, hml, hown, hts⟩ (o_X6_text_1 l dC dI cB am M x2 hb9) (cwV 1 hts gL_law_X6_text rfl rfl rfl (by decide +kernel) ⟨Nat.le_of_ble_eq_true rfl, Nat.le_of_ble_eq_true rfl⟩) (hS.preMT F.K) rfl rfl hl.1 rfl (lv_room (Nat.le_of_ble_eq_true rfl)) dL_law_896 ⟨by show _ ≤ 1064969; omega, by show _ ≤ 5901198; omega⟩) F.K hS (fun M1 q9 H locs hw hS => ?_)
    have hLM : LM M M1 := by rw [hw]; exact LM_th hI _
    refine lv_astore (lv' := [(6, .ref q9), (5, .int r9), (0, .ref b), (1, .ref (ad 57)), (2, .ref (am 0)), (3, .ref o), (4, .int (nI iL))]) hx hb dL_law_899 hl (by decide) rfl (fun ls hl => ?_)
    refine lv_goto (tgt := 2023) hx hb dL_law_901 (by decide) ?_
    exact W.widen (k := 100 + 224 * (n + 1)) (n := 1200 + 10680 * (n + 1)) (by omega) (by omega) (kk9 S1 M1 _ _ _ (hI9.next hLQ hLM) hS (lv_sub hl [2, 3, 4, 5, 6] rfl))
  replace hi : i < 3 := by omega
  have hn := (hI.1 i hi).1
  refine ll_mr (va_runV (As := [.int (nI i)]) (rest := []) ⟨hx, hb, hml, hown, hts⟩ (m_X6_text l dC dI cB am M i hi hI) (cwV 1 hts gL_law_X6_text rfl rfl rfl (by decide +kernel) ⟨Nat.le_of_ble_eq_true rfl, Nat.le_of_ble_eq_true rfl⟩) (hS.preMT F.K) rfl rfl hl.1 rfl (lv_room (Nat.le_of_ble_eq_true rfl)) dL_law_896 ⟨by show _ ≤ 1064969; omega, by show _ ≤ 5901198; omega⟩) F.K hS (fun M1 q9 H locs hw hS => ?_)
  have hLM : LM M M1 := by rw [hw]; exact LM_th hI 0
  refine lv_astore (lv' := [(6, .ref q9), (5, .int r9), (0, .ref b), (1, .ref (ad 57)), (2, .ref (am 0)), (3, .ref o), (4, .int (nI iL))]) hx hb dL_law_899 hl (by decide) rfl (fun ls hl => ?_)
  refine lv_goto (tgt := 2023) hx hb dL_law_901 (by decide) ?_
  exact W.widen (k := 100 + 224 * (n + 1)) (n := 1200 + 10680 * (n + 1)) (by omega) (by omega) (kk9 S1 M1 _ _ _ (hI9.next hLQ hLM) hS (lv_sub hl [2, 3, 4, 5, 6] rfl))
set_option maxHeartbeats 4000000 in
set_option maxRecDepth 100000 in
theorem lc_16 {p : Program} {l : Launch} {e : Env} {s : State} {m : MethodId} {below : List Frame} {meth : Method} {c : Code} {b L : Nat} {xs : Nat → Int32} {dC : Nat → ClassId} {dI : Nat → Nat → Nat} {cB : ClassId} {ad am : Nat → Nat} {o n iL : Nat} {Q : State → Prop} (F : LF p l s m c b L xs dC dI cB ad am o) (hni : iL = 5 * n) (hiL : iL + 5 ≤ L) : LCase p l e s m below meth c b dC dI ad am o n iL Q 904 := by
  intro S M H locs hI9 hS kk9 ls hl
  have hx := F.x
  have hb := F.b
  have hml := F.ml
  have hown := F.own
  have hts := F.ts
  have hL := F.hL
  have hn9 : n ≤ 511 := by omega
  refine lv_aload_n hx hb dL_law_904 rfl (lv_at hl 1 rfl) ?_
  refine lv_aload_n hx hb dL_law_905 rfl (lv_at hl 0 rfl) ?_
  refine lv_iload hx hb dL_law_906 (lv_at hl 4 rfl) ?_
  refine lv_iconst (v := nI 1) hx hb dL_law_908 (by decide) ?_
  refine kn_iadd hx hb dL_law_909 ?_
  refine va_sld hx hb F.sc F.bl (fun z => Nat.not_le.mpr F.bl z) hS.st (vp_in_nI (show iL + 1 < L by omega) (by omega)) dL_law_910 ?_
  generalize xs (nI (iL + 1)).toNatClampNeg = x1
  refine lv_aload_n hx hb dL_law_911 rfl (lv_at hl 0 rfl) ?_
  refine lv_iload hx hb dL_law_912 (lv_at hl 4 rfl) ?_
  refine lv_iconst (v := nI 2) hx hb dL_law_914 (by decide) ?_
  refine kn_iadd hx hb dL_law_915 ?_
  refine va_sld hx hb F.sc F.bl (fun z => Nat.not_le.mpr F.bl z) hS.st (vp_in_nI (show iL + 2 < L by omega) (by omega)) dL_law_916 ?_
  generalize xs (nI (iL + 2)).toNatClampNeg = x2
  refine lv_aload_n hx hb dL_law_917 rfl (lv_at hl 0 rfl) ?_
  refine lv_iload hx hb dL_law_918 (lv_at hl 4 rfl) ?_
  refine lv_iconst (v := nI 3) hx hb dL_law_920 (by decide) ?_
  refine kn_iadd hx hb dL_law_921 ?_
  refine va_sld hx hb F.sc F.bl (fun z => Nat.not_le.mpr F.bl z) hS.st (vp_in_nI (show iL + 3 < L by omega) (by omega)) dL_law_922 ?_
  generalize xs (nI (iL + 3)).toNatClampNeg = x3
  refine lv_if_eq (tgt := 930) hx hb dL_law_923 (by decide) (fun k_4 => ?_) (fun k_4 => ?_)
  · skip
    refine lv_iconst (v := bI false) hx hb dL_law_930 (by decide) ?_
    refine lv_aload_n hx hb dL_law_931 rfl (lv_at hl 3 rfl) ?_
    refine ll_w (vx_runSW (As := [.ref (ad 57), .int x1, .int x2, .int (bI false), .ref o]) (rest := []) ⟨hx, hb, hml, hown, hts⟩ (m_L_extreme l F.st dC dI cB ad o S x1 x2 false hI9.x hI9.x5 (by have := hI9.xp; omega)) (vx_cwSW 5 hts gL_law_L_extreme rfl rfl rfl (by decide +kernel) ⟨Nat.le_of_ble_eq_true rfl, Nat.le_of_ble_eq_true rfl⟩) (hS.preW F.K) rfl rfl hl.1 rfl (lv_room (Nat.le_of_ble_eq_true rfl)) dL_law_932 ⟨by show _ ≤ 1064969; omega, by show _ ≤ 5901198; omega⟩) F.K hS (fun r9 S1 H locs hLQ hS => ?_)
    refine lv_istore (lv' := [(5, .int r9), (0, .ref b), (1, .ref (ad 57)), (2, .ref (am 0)), (3, .ref o), (4, .int (nI iL))]) hx hb dL_law_935 hl (by decide) rfl (fun ls hl => ?_)
    refine lv_aload_n hx hb dL_law_937 rfl (lv_at hl 3 rfl) ?_
    refine lv_aload_n hx hb dL_law_938 rfl (lv_at hl 1 rfl) ?_
    refine lv_iload hx hb dL_law_939 (lv_at hl 5 rfl) ?_
    refine lv_iconst (v := nI 1) hx hb dL_law_941 (by decide) ?_
    refine kn_iadd hx hb dL_law_942 ?_
    refine va_sld hx hb F.sc F.bl (fun z => Nat.not_le.mpr F.bl z) hS.st (vp_in_nI (show iL + 1 < L by omega) (by omega)) dL_law_943 ?_
    generalize xs (nI (iL + 1)).toNatClampNeg = x5
    refine lv_aload_n hx hb dL_law_944 rfl (lv_at hl 1 rfl) ?_
    refine lv_iload hx hb dL_law_945 (lv_at hl 5 rfl) ?_
    refine lv_iconst (v := nI 2) hx hb dL_law_947 (by decide) ?_
    refine kn_iadd hx hb dL_law_948 ?_
    refine va_sld hx hb F.sc F.bl (fun z => Nat.not_le.mpr F.bl z) hS.st (vp_in_nI (show iL + 2 < L by omega) (by omega)) dL_law_949 ?_
    generalize xs (nI (iL + 2)).toNatClampNeg = x6
    refine lv_aload_n hx hb dL_law_950 rfl (lv_at hl 1 rfl) ?_
    refine lv_iload hx hb dL_law_951 (lv_at hl 5 rfl) ?_
    refine lv_iconst (v := nI 3) hx hb dL_law_953 (by decide) ?_
    refine kn_iadd hx hb dL_law_954 ?_
    refine va_sld hx hb F.sc F.bl (fun z => Nat.not_le.mpr F.bl z) hS.st (vp_in_nI (show iL + 3 < L by omega) (by omega)) dL_law_955 ?_
    generalize xs (nI (iL + 3)).toNatClampNeg = x7
    refine lv_if_eq (tgt := 963) hx hb dL_law_956 (by decide) (fun k_8 => ?_) (fun k_8 => ?_)
    · skip
      refine lv_iconst (v := bI false) hx hb dL_law_963 (by decide) ?_
      have hI := hI9.m
      have hc : M.2.2.2.1 + 12 < 1000000 := by have := hI9.mp; omega
      rcases lim_lt 3 (by decide) x5 with ⟨i, hi, rfl⟩ | hb9
      rotate_left
      · skip
        refine ll_m (va_runV (As := [.int x5, .int x6, .int (bI false)]) (rest := []) ⟨hx, hb, hml, hown, hts⟩ (o_X6_extreme_1 l dC dI am M x5 x6 false hb9 hI) (cwV 3 hts gL_law_X6_extreme rfl rfl rfl (by decide +kernel) ⟨Nat.le_of_ble_eq_true rfl, Nat.le_of_ble_eq_true rfl⟩) (hS.preM F.K) rfl rfl hl.1 rfl (lv_room (Nat.le_of_ble_eq_true rfl)) dL_law_964 ⟨by show _ ≤ 1064969; omega, by show _ ≤ 5901198; omega⟩) F.K hS (fun r8 M1 H locs hw hS => ?_)
        have hLM : LM M M1 := by rw [hw]; exact LM_th hI _
        refine lv_istore (lv' := [(6, .int r8), (5, .int r9), (0, .ref b), (1, .ref (ad 57)), (2, .ref (am 0)), (3, .ref o), (4, .int (nI iL))]) hx hb dL_law_967 hl (by decide) rfl (fun ls hl => ?_)
        refine lv_goto (tgt := 2023) hx hb dL_law_969 (by decide) ?_
        exact W.widen (k := 100 + 224 * (n + 1)) (n := 1200 + 10680 * (n + 1)) (by omega) (by omega) (kk9 S1 M1 _ _ _ (hI9.next hLQ hLM) hS (lv_sub hl [2, 3, 4, 5, 6] rfl))
      replace hi : i < 3 := by omega
      have hn := (hI.1 i hi).1
      rcases lim_lt 4 (by decide) x6 with ⟨j, hj, rfl⟩ | hb9
      rotate_left
      · skip
        refine ll_m (va_runV (As := [.int (nI i), .int x6, .int (bI false)]) (rest := []) ⟨hx, hb, hml, hown, hts⟩ (o_X6_extreme_2 l dC dI am M i x6 false hi hb9 hI) (cwV 3 hts gL_law_X6_extreme rfl rfl rfl (by decide +kernel) ⟨Nat.le_of_ble_eq_true rfl, Nat.le_of_ble_eq_true rfl⟩) (hS.preM F.K) rfl rfl hl.1 rfl (lv_room (Nat.le_of_ble_eq_true rfl)) dL_law_964 ⟨by show _ ≤ 1064969; omega, by show _ ≤ 5901198; omega⟩) F.K hS (fun r8 M1 H locs hw hS => ?_)
        have hLM : LM M M1 := by rw [hw]; exact LM_th hI _
        refine lv_istore (lv' := [(6, .int r8), (5, .int r9), (0, .ref b), (1, .ref (ad 57)), (2, .ref (am 0)), (3, .ref o), (4, .int (nI iL))]) hx hb dL_law_967 hl (by decide) rfl (fun ls hl => ?_)
        refine lv_goto (tgt := 2023) hx hb dL_law_969 (by decide) ?_
        exact W.widen (k := 100 + 224 * (n + 1)) (n := 1200 + 10680 * (n + 1)) (by omega) (by omega) (kk9 S1 M1 _ _ _ (hI9.next hLQ hLM) hS (lv_sub hl [2, 3, 4, 5, 6] rfl))
      replace hj : j < 4 := by omega
      refine ll_m (va_runV (As := [.int (nI i), .int (nI j), .int (bI false)]) (rest := []) ⟨hx, hb, hml, hown, hts⟩ (m_X6_extreme l dC dI am M i j false hi hj hI) (cwV 3 hts gL_law_X6_extreme rfl rfl rfl (by decide +kernel) ⟨Nat.le_of_ble_eq_true rfl, Nat.le_of_ble_eq_true rfl⟩) (hS.preM F.K) rfl rfl hl.1 rfl (lv_room (Nat.le_of_ble_eq_true rfl)) dL_law_964 ⟨by show _ ≤ 1064969; omega, by show _ ≤ 5901198; omega⟩) F.K hS (fun r8 M1 H locs hw hS => ?_)
      have hLM : LM M M1 := by rw [hw.2]; exact LM_th hI 0
      refine lv_istore (lv' := [(6, .int r8), (5, .int r9), (0, .ref b), (1, .ref (ad 57)), (2, .ref (am 0)), (3, .ref o), (4, .int (nI iL))]) hx hb dL_law_967 hl (by decide) rfl (fun ls hl => ?_)
      refine lv_goto (tgt := 2023) hx hb dL_law_969 (by decide) ?_
      exact W.widen (k := 100 + 224 * (n + 1)) (n := 1200 + 10680 * (n + 1)) (by omega) (by omega) (kk9 S1 M1 _ _ _ (hI9.next hLQ hLM) hS (lv_sub hl [2, 3, 4, 5, 6] rfl))
    · skip
      refine lv_iconst (v := bI true) hx hb dL_law_959 (by decide) ?_
      refine lv_goto (tgt := 964) hx hb dL_law_960 (by decide) ?_
      have hI := hI9.m
      have hc : M.2.2.2.1 + 12 < 1000000 := by have := hI9.mp; omega
      rcases lim_lt 3 (by decide) x5 with ⟨i, hi, rfl⟩ | hb9
      rotate_left
      · skip
        refine ll_m (va_runV (As := [.int x5, .int x6, .int (bI true)]) (rest := []) ⟨hx, hb, hml, hown, hts⟩ (o_X6_extreme_1 l dC dI am M x5 x6 true hb9 hI) (cwV 3 hts gL_law_X6_extreme rfl rfl rfl (by decide +kernel) ⟨Nat.le_of_ble_eq_true rfl, Nat.le_of_ble_eq_true rfl⟩) (hS.preM F.K) rfl rfl hl.1 rfl (lv_room (Nat.le_of_ble_eq_true rfl)) dL_law_964 ⟨by show _ ≤ 1064969; omega, by show _ ≤ 5901198; omega⟩) F.K hS (fun r8 M1 H locs hw hS => ?_)
        have hLM : LM M M1 := by rw [hw]; exact LM_th hI _
        refine lv_istore (lv' := [(6, .int r8), (5, .int r9), (0, .ref b), (1, .ref (ad 57)), (2, .ref (am 0)), (3, .ref o), (4, .int (nI iL))]) hx hb dL_law_967 hl (by decide) rfl (fun ls hl => ?_)
        refine lv_goto (tgt := 2023) hx hb dL_law_969 (by decide) ?_
        exact W.widen (k := 100 + 224 * (n + 1)) (n := 1200 + 10680 * (n + 1)) (by omega) (by omega) (kk9 S1 M1 _ _ _ (hI9.next hLQ hLM) hS (lv_sub hl [2, 3, 4, 5, 6] rfl))
      replace hi : i < 3 := by omega
      have hn := (hI.1 i hi).1
      rcases lim_lt 4 (by decide) x6 with ⟨j, hj, rfl⟩ | hb9
      rotate_left
      · skip
        refine ll_m (va_runV (As := [.int (nI i), .int x6, .int (bI true)]) (rest := []) ⟨hx, hb, hml, hown, hts⟩ (o_X6_extreme_2 l dC dI am M i x6 true hi hb9 hI) (cwV 3 hts gL_law_X6_extreme rfl rfl rfl (by decide +kernel) ⟨Nat.le_of_ble_eq_true rfl, Nat.le_of_ble_eq_true rfl⟩) (hS.preM F.K) rfl rfl hl.1 rfl (lv_room (Nat.le_of_ble_eq_true rfl)) dL_law_964 ⟨by show _ ≤ 1064969; omega, by show _ ≤ 5901198; omega⟩) F.K hS (fun r8 M1 H locs hw hS => ?_)
        have hLM : LM M M1 := by rw [hw]; exact LM_th hI _
        refine lv_istore (lv' := [(6, .int r8), (5, .int r9), (0, .ref b), (1, .ref (ad 57)), (2, .ref (am 0)), (3, .ref o), (4, .int (nI iL))]) hx hb dL_law_967 hl (by decide) rfl (fun ls hl => ?_)
        refine lv_goto (tgt := 2023) hx hb dL_law_969 (by decide) ?_
        exact W.widen (k := 100 + 224 * (n + 1)) (n := 1200 + 10680 * (n + 1)) (by omega) (by omega) (kk9 S1 M1 _ _ _ (hI9.next hLQ hLM) hS (lv_sub hl [2, 3, 4, 5, 6] rfl))
      replace hj : j < 4 := by omega
      refine ll_m (va_runV (As := [.int (nI i), .int (nI j), .int (bI true)]) (rest := []) ⟨hx, hb, hml, hown, hts⟩ (m_X6_extreme l dC dI am M i j true hi hj hI) (cwV 3 hts gL_law_X6_extreme rfl rfl rfl (by decide +kernel) ⟨Nat.le_of_ble_eq_true rfl, Nat.le_of_ble_eq_true rfl⟩) (hS.preM F.K) rfl rfl hl.1 rfl (lv_room (Nat.le_of_ble_eq_true rfl)) dL_law_964 ⟨by show _ ≤ 1064969; omega, by show _ ≤ 5901198; omega⟩) F.K hS (fun r8 M1 H locs hw hS => ?_)
      have hLM : LM M M1 := by rw [hw.2]; exact LM_th hI 0
      refine lv_istore (lv' := [(6, .int r8), (5, .int r9), (0, .ref b), (1, .ref (ad 57)), (2, .ref (am 0)), (3, .ref o), (4, .int (nI iL))]) hx hb dL_law_967 hl (by decide) rfl (fun ls hl => ?_)
      refine lv_goto (tgt := 2023) hx hb dL_law_969 (by decide) ?_
      exact W.widen (k := 100 + 224 * (n + 1)) (n := 1200 + 10680 * (n + 1)) (by omega) (by omega) (kk9 S1 M1 _ _ _ (hI9.next hLQ hLM) hS (lv_sub hl [2, 3, 4, 5, 6] rfl))
  · skip
    refine lv_iconst (v := bI true) hx hb dL_law_926 (by decide) ?_
    refine lv_goto (tgt := 931) hx hb dL_law_927 (by decide) ?_
    refine lv_aload_n hx hb dL_law_931 rfl (lv_at hl 3 rfl) ?_
    refine ll_w (vx_runSW (As := [.ref (ad 57), .int x1, .int x2, .int (bI true), .ref o]) (rest := []) ⟨hx, hb, hml, hown, hts⟩ (m_L_extreme l F.st dC dI cB ad o S x1 x2 true hI9.x hI9.x5 (by have := hI9.xp; omega)) (vx_cwSW 5 hts gL_law_L_extreme rfl rfl rfl (by decide +kernel) ⟨Nat.le_of_ble_eq_true rfl, Nat.le_of_ble_eq_true rfl⟩) (hS.preW F.K) rfl rfl hl.1 rfl (lv_room (Nat.le_of_ble_eq_true rfl)) dL_law_932 ⟨by show _ ≤ 1064969; omega, by show _ ≤ 5901198; omega⟩) F.K hS (fun r9 S1 H locs hLQ hS => ?_)
    refine lv_istore (lv' := [(5, .int r9), (0, .ref b), (1, .ref (ad 57)), (2, .ref (am 0)), (3, .ref o), (4, .int (nI iL))]) hx hb dL_law_935 hl (by decide) rfl (fun ls hl => ?_)
    refine lv_aload_n hx hb dL_law_937 rfl (lv_at hl 3 rfl) ?_
    refine lv_aload_n hx hb dL_law_938 rfl (lv_at hl 1 rfl) ?_
    refine lv_iload hx hb dL_law_939 (lv_at hl 5 rfl) ?_
    refine lv_iconst (v := nI 1) hx hb dL_law_941 (by decide) ?_
    refine kn_iadd hx hb dL_law_942 ?_
    refine va_sld hx hb F.sc F.bl (fun z => Nat.not_le.mpr F.bl z) hS.st (vp_in_nI (show iL + 1 < L by omega) (by omega)) dL_law_943 ?_
    generalize xs (nI (iL + 1)).toNatClampNeg = x9
    refine lv_aload_n hx hb dL_law_944 rfl (lv_at hl 1 rfl) ?_
    refine lv_iload hx hb dL_law_945 (lv_at hl 5 rfl) ?_
    refine lv_iconst (v := nI 2) hx hb dL_law_947 (by decide) ?_
    refine kn_iadd hx hb dL_law_948 ?_
    refine va_sld hx hb F.sc F.bl (fun z => Nat.not_le.mpr F.bl z) hS.st (vp_in_nI (show iL + 2 < L by omega) (by omega)) dL_law_949 ?_
    generalize xs (nI (iL + 2)).toNatClampNeg = x10
    refine lv_aload_n hx hb dL_law_950 rfl (lv_at hl 1 rfl) ?_
    refine lv_iload hx hb dL_law_951 (lv_at hl 5 rfl) ?_
    refine lv_iconst (v := nI 3) hx hb dL_law_953 (by decide) ?_
    refine kn_iadd hx hb dL_law_954 ?_
    refine va_sld hx hb F.sc F.bl (fun z => Nat.not_le.mpr F.bl z) hS.st (vp_in_nI (show iL + 3 < L by omega) (by omega)) dL_law_955 ?_
    generalize xs (nI (iL + 3)).toNatClampNeg = x11
    refine lv_if_eq (tgt := 963) hx hb dL_law_956 (by decide) (fun k_12 => ?_) (fun k_12 => ?_)
    · skip
      refine lv_iconst (v := bI false) hx hb dL_law_963 (by decide) ?_
      have hI := hI9.m
      have hc : M.2.2.2.1 + 12 < 1000000 := by have := hI9.mp; omega
      rcases lim_lt 3 (by decide) x9 with ⟨i, hi, rfl⟩ | hb9
      rotate_left
      · skip
        refine ll_m (va_runV (As := [.int x9, .int x10, .int (bI false)]) (rest := []) ⟨hx, hb, hml, hown, hts⟩ (o_X6_extreme_1 l dC dI am M x9 x10 false hb9 hI) (cwV 3 hts gL_law_X6_extreme rfl rfl rfl (by decide +kernel) ⟨Nat.le_of_ble_eq_true rfl, Nat.le_of_ble_eq_true rfl⟩) (hS.preM F.K) rfl rfl hl.1 rfl (lv_room (Nat.le_of_ble_eq_true rfl)) dL_law_964 ⟨by show _ ≤ 1064969; omega, by show _ ≤ 5901198; omega⟩) F.K hS (fun r8 M1 H locs hw hS => ?_)
        have hLM : LM M M1 := by rw [hw]; exact LM_th hI _
        refine lv_istore (lv' := [(6, .int r8), (5, .int r9), (0, .ref b), (1, .ref (ad 57)), (2, .ref (am 0)), (3, .ref o), (4, .int (nI iL))]) hx hb dL_law_967 hl (by decide) rfl (fun ls hl => ?_)
        refine lv_goto (tgt := 2023) hx hb dL_law_969 (by decide) ?_
        exact W.widen (k := 100 + 224 * (n + 1)) (n := 1200 + 10680 * (n + 1)) (by omega) (by omega) (kk9 S1 M1 _ _ _ (hI9.next hLQ hLM) hS (lv_sub hl [2, 3, 4, 5, 6] rfl))
      replace hi : i < 3 := by omega
      have hn := (hI.1 i hi).1
      rcases lim_lt 4 (by decide) x10 with ⟨j, hj, rfl⟩ | hb9
      rotate_left
      · skip
        refine ll_m (va_runV (As := [.int (nI i), .int x10, .int (bI false)]) (rest := []) ⟨hx, hb, hml, hown, hts⟩ (o_X6_extreme_2 l dC dI am M i x10 false hi hb9 hI) (cwV 3 hts gL_law_X6_extreme rfl rfl rfl (by decide +kernel) ⟨Nat.le_of_ble_eq_true rfl, Nat.le_of_ble_eq_true rfl⟩) (hS.preM F.K) rfl rfl hl.1 rfl (lv_room (Nat.le_of_ble_eq_true rfl)) dL_law_964 ⟨by show _ ≤ 1064969; omega, by show _ ≤ 5901198; omega⟩) F.K hS (fun r8 M1 H locs hw hS => ?_)
        have hLM : LM M M1 := by rw [hw]; exact LM_th hI _
        refine lv_istore (lv' := [(6, .int r8), (5, .int r9), (0, .ref b), (1, .ref (ad 57)), (2, .ref (am 0)), (3, .ref o), (4, .int (nI iL))]) hx hb dL_law_967 hl (by decide) rfl (fun ls hl => ?_)
        refine lv_goto (tgt := 2023) hx hb dL_law_969 (by decide) ?_
        exact W.widen (k := 100 + 224 * (n + 1)) (n := 1200 + 10680 * (n + 1)) (by omega) (by omega) (kk9 S1 M1 _ _ _ (hI9.next hLQ hLM) hS (lv_sub hl [2, 3, 4, 5, 6] rfl))
      replace hj : j < 4 := by omega
      refine ll_m (va_runV (As := [.int (nI i), .int (nI j), .int (bI false)]) (rest := []) ⟨hx, hb, hml, hown, hts⟩ (m_X6_extreme l dC dI am M i j false hi hj hI) (cwV 3 hts gL_law_X6_extreme rfl rfl rfl (by decide +kernel) ⟨Nat.le_of_ble_eq_true rfl, Nat.le_of_ble_eq_true rfl⟩) (hS.preM F.K) rfl rfl hl.1 rfl (lv_room (Nat.le_of_ble_eq_true rfl)) dL_law_964 ⟨by show _ ≤ 1064969; omega, by show _ ≤ 5901198; omega⟩) F.K hS (fun r8 M1 H locs hw hS => ?_)
      have hLM : LM M M1 := by rw [hw.2]; exact LM_th hI 0
      refine lv_istore (lv' := [(6, .int r8), (5, .int r9), (0, .ref b), (1, .ref (ad 57)), (2, .ref (am 0)), (3, .ref o), (4, .int (nI iL))]) hx hb dL_law_967 hl (by decide) rfl (fun ls hl => ?_)
      refine lv_goto (tgt := 2023) hx hb dL_law_969 (by decide) ?_
      exact W.widen (k := 100 + 224 * (n + 1)) (n := 1200 + 10680 * (n + 1)) (by omega) (by omega) (kk9 S1 M1 _ _ _ (hI9.next hLQ hLM) hS (lv_sub hl [2, 3, 4, 5, 6] rfl))
    · skip
      refine lv_iconst (v := bI true) hx hb dL_law_959 (by decide) ?_
      refine lv_goto (tgt := 964) hx hb dL_law_960 (by decide) ?_
      have hI := hI9.m
      have hc : M.2.2.2.1 + 12 < 1000000 := by have := hI9.mp; omega
      rcases lim_lt 3 (by decide) x9 with ⟨i, hi, rfl⟩ | hb9
      rotate_left
      · skip
        refine ll_m (va_runV (As := [.int x9, .int x10, .int (bI true)]) (rest := []) ⟨hx, hb, hml, hown, hts⟩ (o_X6_extreme_1 l dC dI am M x9 x10 true hb9 hI) (cwV 3 hts gL_law_X6_extreme rfl rfl rfl (by decide +kernel) ⟨Nat.le_of_ble_eq_true rfl, Nat.le_of_ble_eq_true rfl⟩) (hS.preM F.K) rfl rfl hl.1 rfl (lv_room (Nat.le_of_ble_eq_true rfl)) dL_law_964 ⟨by show _ ≤ 1064969; omega, by show _ ≤ 5901198; omega⟩) F.K hS (fun r8 M1 H locs hw hS => ?_)
        have hLM : LM M M1 := by rw [hw]; exact LM_th hI _
        refine lv_istore (lv' := [(6, .int r8), (5, .int r9), (0, .ref b), (1, .ref (ad 57)), (2, .ref (am 0)), (3, .ref o), (4, .int (nI iL))]) hx hb dL_law_967 hl (by decide) rfl (fun ls hl => ?_)
        refine lv_goto (tgt := 2023) hx hb dL_law_969 (by decide) ?_
        exact W.widen (k := 100 + 224 * (n + 1)) (n := 1200 + 10680 * (n + 1)) (by omega) (by omega) (kk9 S1 M1 _ _ _ (hI9.next hLQ hLM) hS (lv_sub hl [2, 3, 4, 5, 6] rfl))
      replace hi : i < 3 := by omega
      have hn := (hI.1 i hi).1
      rcases lim_lt 4 (by decide) x10 with ⟨j, hj, rfl⟩ | hb9
      rotate_left
      · skip
        refine ll_m (va_runV (As := [.int (nI i), .int x10, .int (bI true)]) (rest := []) ⟨hx, hb, hml, hown, hts⟩ (o_X6_extreme_2 l dC dI am M i x10 true hi hb9 hI) (cwV 3 hts gL_law_X6_extreme rfl rfl rfl (by decide +kernel) ⟨Nat.le_of_ble_eq_true rfl, Nat.le_of_ble_eq_true rfl⟩) (hS.preM F.K) rfl rfl hl.1 rfl (lv_room (Nat.le_of_ble_eq_true rfl)) dL_law_964 ⟨by show _ ≤ 1064969; omega, by show _ ≤ 5901198; omega⟩) F.K hS (fun r8 M1 H locs hw hS => ?_)
        have hLM : LM M M1 := by rw [hw]; exact LM_th hI _
        refine lv_istore (lv' := [(6, .int r8), (5, .int r9), (0, .ref b), (1, .ref (ad 57)), (2, .ref (am 0)), (3, .ref o), (4, .int (nI iL))]) hx hb dL_law_967 hl (by decide) rfl (fun ls hl => ?_)
        refine lv_goto (tgt := 2023) hx hb dL_law_969 (by decide) ?_
        exact W.widen (k := 100 + 224 * (n + 1)) (n := 1200 + 10680 * (n + 1)) (by omega) (by omega) (kk9 S1 M1 _ _ _ (hI9.next hLQ hLM) hS (lv_sub hl [2, 3, 4, 5, 6] rfl))
      replace hj : j < 4 := by omega
      refine ll_m (va_runV (As := [.int (nI i), .int (nI j), .int (bI true)]) (rest := []) ⟨hx, hb, hml, hown, hts⟩ (m_X6_extreme l dC dI am M i j true hi hj hI) (cwV 3 hts gL_law_X6_extreme rfl rfl rfl (by decide +kernel) ⟨Nat.le_of_ble_eq_true rfl, Nat.le_of_ble_eq_true rfl⟩) (hS.preM F.K) rfl rfl hl.1 rfl (lv_room (Nat.le_of_ble_eq_true rfl)) dL_law_964 ⟨by show _ ≤ 1064969; omega, by show _ ≤ 5901198; omega⟩) F.K hS (fun r8 M1 H locs hw hS => ?_)
      have hLM : LM M M1 := by rw [hw.2]; exact LM_th hI 0
      refine lv_istore (lv' := [(6, .int r8), (5, .int r9), (0, .ref b), (1, .ref (ad 57)), (2, .ref (am 0)), (3, .ref o), (4, .int (nI iL))]) hx hb dL_law_967 hl (by decide) rfl (fun ls hl => ?_)
      refine lv_goto (tgt := 2023) hx hb dL_law_969 (by decide) ?_
      exact W.widen (k := 100 + 224 * (n + 1)) (n := 1200 + 10680 * (n + 1)) (by omega) (by omega) (kk9 S1 M1 _ _ _ (hI9.next hLQ hLM) hS (lv_sub hl [2, 3, 4, 5, 6] rfl))
set_option maxHeartbeats 4000000 in
set_option maxRecDepth 100000 in
theorem lc_39 {p : Program} {l : Launch} {e : Env} {s : State} {m : MethodId} {below : List Frame} {meth : Method} {c : Code} {b L : Nat} {xs : Nat → Int32} {dC : Nat → ClassId} {dI : Nat → Nat → Nat} {cB : ClassId} {ad am : Nat → Nat} {o n iL : Nat} {Q : State → Prop} (F : LF p l s m c b L xs dC dI cB ad am o) (hni : iL = 5 * n) (hiL : iL + 5 ≤ L) : LCase p l e s m below meth c b dC dI ad am o n iL Q 1956 := by
  intro S M H locs hI9 hS kk9 ls hl
  have hx := F.x
  have hb := F.b
  have hml := F.ml
  have hown := F.own
  have hts := F.ts
  have hL := F.hL
  have hn9 : n ≤ 511 := by omega
  refine lv_aload_n hx hb dL_law_1956 rfl (lv_at hl 1 rfl) ?_
  refine ll_x (va_runV (As := []) (rest := []) ⟨hx, hb, hml, hown, hts⟩ (m_X4_knock l dC dI ad S) (cwV 0 hts gL_law_X4_knock rfl rfl rfl (by decide +kernel) ⟨Nat.le_of_ble_eq_true rfl, Nat.le_of_ble_eq_true rfl⟩) (hS.preX F.K) rfl rfl hl.1 rfl (lv_room (Nat.le_of_ble_eq_true rfl)) dL_law_1957 ⟨by show _ ≤ 1064969; omega, by show _ ≤ 5901198; omega⟩) F.K hS (fun r9 S1 H locs hw hS => ?_)
  obtain ⟨rfl, hw1⟩ := hw
  refine lv_aload_n hx hb dL_law_1960 rfl (lv_at hl 2 rfl) ?_
  have hI := hI9.m
  have hc : M.2.2.2.1 + 12 < 1000000 := by have := hI9.mp; omega
  refine ll_m (va_runV (As := []) (rest := [.int (nI (S.2.2.2.2 + 1))]) ⟨hx, hb, hml, hown, hts⟩ (m_X6_knock l dC dI am M) (cwV 0 hts gL_law_X6_knock rfl rfl rfl (by decide +kernel) ⟨Nat.le_of_ble_eq_true rfl, Nat.le_of_ble_eq_true rfl⟩) (hS.preM F.K) rfl rfl hl.1 rfl (lv_room (Nat.le_of_ble_eq_true rfl)) dL_law_1961 ⟨by show _ ≤ 1064969; omega, by show _ ≤ 5901198; omega⟩) F.K hS (fun r9 M1 H locs hw hS => ?_)
  obtain ⟨rfl, hw2⟩ := hw
  refine lv_icmp_eq (tgt := 2023) hx hb dL_law_1964 (by decide) (fun k_1 => ?_) (fun k_1 => absurd (by rw [hI9.kk]) k_1)
  exact W.widen (k := 100 + 224 * (n + 1)) (n := 1200 + 10680 * (n + 1)) (by omega) (by omega) (kk9 S1 M1 _ _ _ (LI.knock hI9 hw1 hw2) hS (lv_sub hl [0, 1, 2, 3, 4] rfl))
set_option maxHeartbeats 4000000 in
set_option maxRecDepth 100000 in
theorem lc_42 {p : Program} {l : Launch} {e : Env} {s : State} {m : MethodId} {below : List Frame} {meth : Method} {c : Code} {b L : Nat} {xs : Nat → Int32} {dC : Nat → ClassId} {dI : Nat → Nat → Nat} {cB : ClassId} {ad am : Nat → Nat} {o n iL : Nat} {Q : State → Prop} (F : LF p l s m c b L xs dC dI cB ad am o) (hni : iL = 5 * n) (hiL : iL + 5 ≤ L) : LCase p l e s m below meth c b dC dI ad am o n iL Q 2010 := by
  intro S M H locs hI9 hS kk9 ls hl
  have hx := F.x
  have hb := F.b
  have hml := F.ml
  have hown := F.own
  have hts := F.ts
  have hL := F.hL
  have hn9 : n ≤ 511 := by omega
  refine lv_aload_n hx hb dL_law_2010 rfl (lv_at hl 1 rfl) ?_
  refine ll_xl (va_runV (As := []) (rest := []) ⟨hx, hb, hml, hown, hts⟩ (m_X4_digest l dC dI ad S hI9.x hI9.x5 (by have := hI9.xp; have := hI9.xr; have := hI9.kn; omega)) (cwV 0 hts gL_law_X4_digest rfl rfl rfl (by decide +kernel) ⟨Nat.le_of_ble_eq_true rfl, Nat.le_of_ble_eq_true rfl⟩) (hS.preX F.K) rfl rfl hl.1 rfl (lv_room (Nat.le_of_ble_eq_true rfl)) dL_law_2011 ⟨by show _ ≤ 1064969; omega, by show _ ≤ 5901198; omega⟩) F.K hS (fun r9 S1 H locs hw hS => ?_)
  have hLQ : LQ S S1 := LQ_KA hI9.x5 hw.2
  refine lv_pop2_2 hx hb dL_law_2014 rfl ?_
  refine lv_aload_n hx hb dL_law_2015 rfl (lv_at hl 2 rfl) ?_
  have hI := hI9.m
  have hc : M.2.2.2.1 + 12 < 1000000 := by have := hI9.mp; omega
  refine ll_ml (va_runV (As := []) (rest := []) ⟨hx, hb, hml, hown, hts⟩ (m_X6_digest l dC dI am M hI (by have := hI9.mp; have := hI9.mr; have := hI9.kk; have := hI9.kn; omega)) (cwV 0 hts gL_law_X6_digest rfl rfl rfl (by decide +kernel) ⟨Nat.le_of_ble_eq_true rfl, Nat.le_of_ble_eq_true rfl⟩) (hS.preM F.K) rfl rfl hl.1 rfl (lv_room (Nat.le_of_ble_eq_true rfl)) dL_law_2016 ⟨by show _ ≤ 1064969; omega, by show _ ≤ 5901198; omega⟩) F.K hS (fun r8 M1 H locs hw hS => ?_)
  have hLM : LM M M1 := by rw [hw.2]; exact LM_th hI 0
  refine lv_pop2_2 hx hb dL_law_2019 rfl ?_
  refine lv_goto (tgt := 2023) hx hb dL_law_2020 (by decide) ?_
  exact W.widen (k := 100 + 224 * (n + 1)) (n := 1200 + 10680 * (n + 1)) (by omega) (by omega) (kk9 S1 M1 _ _ _ (hI9.next hLQ hLM) hS (lv_sub hl [0, 1, 2, 3, 4] rfl))
