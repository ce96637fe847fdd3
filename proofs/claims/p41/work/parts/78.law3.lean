set_option maxHeartbeats 4000000 in
set_option maxRecDepth 100000 in
theorem lc_22 {p : Program} {l : Launch} {e : Env} {s : State} {m : MethodId} {below : List Frame} {meth : Method} {c : Code} {b L : Nat} {xs : Nat → Int32} {dC : Nat → ClassId} {dI : Nat → Nat → Nat} {cB : ClassId} {ad am : Nat → Nat} {o n iL : Nat} {Q : State → Prop} (F : LF p l s m c b L xs dC dI cB ad am o) (hni : iL = 5 * n) (hiL : iL + 5 ≤ L) : LCase p l e s m below meth c b dC dI ad am o n iL Q 1220 := by
  intro S M H locs hI9 hS kk9 ls hl
  have hx := F.x
  have hb := F.b
  have hml := F.ml
  have hown := F.own
  have hts := F.ts
  have hL := F.hL
  have hn9 : n ≤ 511 := by omega
  refine lv_aload_n hx hb dL_law_1220 rfl (lv_at hl 1 rfl) ?_
  refine lv_aload_n hx hb dL_law_1221 rfl (lv_at hl 0 rfl) ?_
  refine lv_iload hx hb dL_law_1222 (lv_at hl 4 rfl) ?_
  refine lv_iconst (v := nI 1) hx hb dL_law_1224 (by decide) ?_
  refine kn_iadd hx hb dL_law_1225 ?_
  refine va_sld hx hb F.sc F.bl (fun z => Nat.not_le.mpr F.bl z) hS.st (vp_in_nI (show iL + 1 < L by omega) (by omega)) dL_law_1226 ?_
  generalize xs (nI (iL + 1)).toNatClampNeg = x1
  refine lv_aload_n hx hb dL_law_1227 rfl (lv_at hl 0 rfl) ?_
  refine lv_iload hx hb dL_law_1228 (lv_at hl 4 rfl) ?_
  refine lv_iconst (v := nI 2) hx hb dL_law_1230 (by decide) ?_
  refine kn_iadd hx hb dL_law_1231 ?_
  refine va_sld hx hb F.sc F.bl (fun z => Nat.not_le.mpr F.bl z) hS.st (vp_in_nI (show iL + 2 < L by omega) (by omega)) dL_law_1232 ?_
  generalize xs (nI (iL + 2)).toNatClampNeg = x2
  refine lv_aload_n hx hb dL_law_1233 rfl (lv_at hl 0 rfl) ?_
  refine lv_iload hx hb dL_law_1234 (lv_at hl 4 rfl) ?_
  refine lv_iconst (v := nI 3) hx hb dL_law_1236 (by decide) ?_
  refine kn_iadd hx hb dL_law_1237 ?_
  refine va_sld hx hb F.sc F.bl (fun z => Nat.not_le.mpr F.bl z) hS.st (vp_in_nI (show iL + 3 < L by omega) (by omega)) dL_law_1238 ?_
  generalize xs (nI (iL + 3)).toNatClampNeg = x3
  refine lv_if_eq (tgt := 1246) hx hb dL_law_1239 (by decide) (fun k_4 => ?_) (fun k_4 => ?_)
  · skip
    refine lv_iconst (v := bI false) hx hb dL_law_1246 (by decide) ?_
    refine lv_aload_n hx hb dL_law_1247 rfl (lv_at hl 3 rfl) ?_
    refine ll_w (vx_runSW (As := [.ref (ad 57), .int x1, .int x2, .int (bI false), .ref o]) (rest := []) ⟨hx, hb, hml, hown, hts⟩ (m_L_ranks l F.st dC dI cB ad o S x1 x2 false hI9.x hI9.x5 (by have := hI9.xp; omega)) (vx_cwSW 5 hts gL_law_L_ranks rfl rfl rfl (by decide +kernel) ⟨Nat.le_of_ble_eq_true rfl, Nat.le_of_ble_eq_true rfl⟩) (hS.preW F.K) rfl rfl hl.1 rfl (lv_room (Nat.le_of_ble_eq_true rfl)) dL_law_1248 ⟨by show _ ≤ 1064969; omega, by show _ ≤ 5901198; omega⟩) F.K hS (fun r9 S1 H locs hLQ hS => ?_)
    refine lv_istore (lv' := [(5, .int r9), (0, .ref b), (1, .ref (ad 57)), (2, .ref (am 0)), (3, .ref o), (4, .int (nI iL))]) hx hb dL_law_1251 hl (by decide) rfl (fun ls hl => ?_)
    refine lv_aload_n hx hb dL_law_1253 rfl (lv_at hl 3 rfl) ?_
    refine lv_aload_n hx hb dL_law_1254 rfl (lv_at hl 1 rfl) ?_
    refine lv_iload hx hb dL_law_1255 (lv_at hl 5 rfl) ?_
    refine lv_iconst (v := nI 1) hx hb dL_law_1257 (by decide) ?_
    refine kn_iadd hx hb dL_law_1258 ?_
    refine va_sld hx hb F.sc F.bl (fun z => Nat.not_le.mpr F.bl z) hS.st (vp_in_nI (show iL + 1 < L by omega) (by omega)) dL_law_1259 ?_
    generalize xs (nI (iL + 1)).toNatClampNeg = x5
    refine lv_aload_n hx hb dL_law_1260 rfl (lv_at hl 1 rfl) ?_
    refine lv_iload hx hb dL_law_1261 (lv_at hl 5 rfl) ?_
    refine lv_iconst (v := nI 2) hx hb dL_law_1263 (by decide) ?_
    refine kn_iadd hx hb dL_law_1264 ?_
    refine va_sld hx hb F.sc F.bl (fun z => Nat.not_le.mpr F.bl z) hS.st (vp_in_nI (show iL + 2 < L by omega) (by omega)) dL_law_1265 ?_
    generalize xs (nI (iL + 2)).toNatClampNeg = x6
    refine lv_aload_n hx hb dL_law_1266 rfl (lv_at hl 1 rfl) ?_
    refine lv_iload hx hb dL_law_1267 (lv_at hl 5 rfl) ?_
    refine lv_iconst (v := nI 3) hx hb dL_law_1269 (by decide) ?_
    refine kn_iadd hx hb dL_law_1270 ?_
    refine va_sld hx hb F.sc F.bl (fun z => Nat.not_le.mpr F.bl z) hS.st (vp_in_nI (show iL + 3 < L by omega) (by omega)) dL_law_1271 ?_
    generalize xs (nI (iL + 3)).toNatClampNeg = x7
    refine lv_if_eq (tgt := 1279) hx hb dL_law_1272 (by decide) (fun k_8 => ?_) (fun k_8 => ?_)
    · skip
      refine lv_iconst (v := bI false) hx hb dL_law_1279 (by decide) ?_
      have hI := hI9.m
      have hc : M.2.2.2.1 + 12 < 1000000 := by have := hI9.mp; omega
      rcases lim_lt 3 (by decide) x5 with ⟨i, hi, rfl⟩ | hb9
      rotate_left
      · skip
        refine ll_mr (va_runV (As := [.int x5, .int x6, .int (bI false)]) (rest := []) ⟨hx, hb, hml, hown, hts⟩ (o_X6_ranks_1 l dC dI cB am M x5 x6 false hb9) (cwV 3 hts gL_law_X6_ranks rfl rfl rfl (by decide +kernel) ⟨Nat.le_of_ble_eq_true rfl, Nat.le_of_ble_eq_true rfl⟩) (hS.preMT F.K) rfl rfl hl.1 rfl (lv_room (Nat.le_of_ble_eq_true rfl)) dL_law_1280 ⟨by show _ ≤ 1064969; omega, by show _ ≤ 5901198; omega⟩) F.K hS (fun M1 q9 H locs hw hS => ?_)
        have hLM : LM M M1 := by rw [hw]; exact LM_th hI _
        refine lv_astore (lv' := [(6, .ref q9), (5, .int r9), (0, .ref b), (1, .ref (ad 57)), (2, .ref (am 0)), (3, .ref o), (4, .int (nI iL))]) hx hb dL_law_1283 hl (by decide) rfl (fun ls hl => ?_)
        refine lv_goto (tgt := 2023) hx hb dL_law_1285 (by decide) ?_
        exact W.widen (k := 100 + 224 * (n + 1)) (n := 1200 + 10680 * (n + 1)) (by omega) (by omega) (kk9 S1 M1 _ _ _ (hI9.next hLQ hLM) hS (lv_sub hl [2, 3, 4, 5, 6] rfl))
      replace hi : i < 3 := by omega
      have hn := (hI.1 i hi).1
      rcases lim_lt 4 (by decide) x6 with ⟨j, hj, rfl⟩ | hb9
      rotate_left
      · skip
        refine ll_mr (va_runV (As := [.int (nI i), .int x6, .int (bI false)]) (rest := []) ⟨hx, hb, hml, hown, hts⟩ (o_X6_ranks_2 l dC dI cB am M i x6 false hi hb9) (cwV 3 hts gL_law_X6_ranks rfl rfl rfl (by decide +kernel) ⟨Nat.le_of_ble_eq_true rfl, Nat.le_of_ble_eq_true rfl⟩) (hS.preMT F.K) rfl rfl hl.1 rfl (lv_room (Nat.le_of_ble_eq_true rfl)) dL_law_1280 ⟨by show _ ≤ 1064969; omega, by show _ ≤ 5901198; omega⟩) F.K hS (fun M1 q9 H locs hw hS => ?_)
        have hLM : LM M M1 := by rw [hw]; exact LM_th hI _
        refine lv_astore (lv' := [(6, .ref q9), (5, .int r9), (0, .ref b), (1, .ref (ad 57)), (2, .ref (am 0)), (3, .ref o), (4, .int (nI iL))]) hx hb dL_law_1283 hl (by decide) rfl (fun ls hl => ?_)
        refine lv_goto (tgt := 2023) hx hb dL_law_1285 (by decide) ?_
        exact W.widen (k := 100 + 224 * (n + 1)) (n := 1200 + 10680 * (n + 1)) (by omega) (by omega) (kk9 S1 M1 _ _ _ (hI9.next hLQ hLM) hS (lv_sub hl [2, 3, 4, 5, 6] rfl))
      replace hj : j < 4 := by omega
      refine ll_mr (va_runV (As := [.int (nI i), .int (nI j), .int (bI false)]) (rest := []) ⟨hx, hb, hml, hown, hts⟩ (m_X6_ranks_f l dC dI cB am M i j hi hj hI) (cwV 3 hts gL_law_X6_ranks rfl rfl rfl (by decide +kernel) ⟨Nat.le_of_ble_eq_true rfl, Nat.le_of_ble_eq_true rfl⟩) (hS.preMT F.K) rfl rfl hl.1 rfl (lv_room (Nat.le_of_ble_eq_true rfl)) dL_law_1280 ⟨by show _ ≤ 1064969; omega, by show _ ≤ 5901198; omega⟩) F.K hS (fun M1 q9 H locs hw hS => ?_)
      have hLM : LM M M1 := by rw [hw]; exact LM_th hI 0
      refine lv_astore (lv' := [(6, .ref q9), (5, .int r9), (0, .ref b), (1, .ref (ad 57)), (2, .ref (am 0)), (3, .ref o), (4, .int (nI iL))]) hx hb dL_law_1283 hl (by decide) rfl (fun ls hl => ?_)
      refine lv_goto (tgt := 2023) hx hb dL_law_1285 (by decide) ?_
      exact W.widen (k := 100 + 224 * (n + 1)) (n := 1200 + 10680 * (n + 1)) (by omega) (by omega) (kk9 S1 M1 _ _ _ (hI9.next hLQ hLM) hS (lv_sub hl [2, 3, 4, 5, 6] rfl))
    · skip
      refine lv_iconst (v := bI true) hx hb dL_law_1275 (by decide) ?_
      refine lv_goto (tgt := 1280) hx hb dL_law_1276 (by decide) ?_
      have hI := hI9.m
      have hc : M.2.2.2.1 + 12 < 1000000 := by have := hI9.mp; omega
      rcases lim_lt 3 (by decide) x5 with ⟨i, hi, rfl⟩ | hb9
      rotate_left
      · skip
        refine ll_mr (va_runV (As := [.int x5, .int x6, .int (bI true)]) (rest := []) ⟨hx, hb, hml, hown, hts⟩ (o_X6_ranks_1 l dC dI cB am M x5 x6 true hb9) (cwV 3 hts gL_law_X6_ranks rfl rfl rfl (by decide +kernel) ⟨Nat.le_of_ble_eq_true rfl, Nat.le_of_ble_eq_true rfl⟩) (hS.preMT F.K) rfl rfl hl.1 rfl (lv_room (Nat.le_of_ble_eq_true rfl)) dL_law_1280 ⟨by show _ ≤ 1064969; omega, by show _ ≤ 5901198; omega⟩) F.K hS (fun M1 q9 H locs hw hS => ?_)
        have hLM : LM M M1 := by rw [hw]; exact LM_th hI _
        refine lv_astore (lv' := [(6, .ref q9), (5, .int r9), (0, .ref b), (1, .ref (ad 57)), (2, .ref (am 0)), (3, .ref o), (4, .int (nI iL))]) hx hb dL_law_1283 hl (by decide) rfl (fun ls hl => ?_)
        refine lv_goto (tgt := 2023) hx hb dL_law_1285 (by decide) ?_
        exact W.widen (k := 100 + 224 * (n + 1)) (n := 1200 + 10680 * (n + 1)) (by omega) (by omega) (kk9 S1 M1 _ _ _ (hI9.next hLQ hLM) hS (lv_sub hl [2, 3, 4, 5, 6] rfl))
      replace hi : i < 3 := by omega
      have hn := (hI.1 i hi).1
      rcases lim_lt 4 (by decide) x6 with ⟨j, hj, rfl⟩ | hb9
      rotate_left
      · skip
        refine ll_mr (va_runV (As := [.int (nI i), .int x6, .int (bI true)]) (rest := []) ⟨hx, hb, hml, hown, hts⟩ (o_X6_ranks_2 l dC dI cB am M i x6 true hi hb9) (cwV 3 hts gL_law_X6_ranks rfl rfl rfl (by decide +kernel) ⟨Nat.le_of_ble_eq_true rfl, Nat.le_of_ble_eq_true rfl⟩) (hS.preMT F.K) rfl rfl hl.1 rfl (lv_room (Nat.le_of_ble_eq_true rfl)) dL_law_1280 ⟨by show _ ≤ 1064969; omega, by show _ ≤ 5901198; omega⟩) F.K hS (fun M1 q9 H locs hw hS => ?_)
        have hLM : LM M M1 := by rw [hw]; exact LM_th hI _
        refine lv_astore (lv' := [(6, .ref q9), (5, .int r9), (0, .ref b), (1, .ref (ad 57)), (2, .ref (am 0)), (3, .ref o), (4, .int (nI iL))]) hx hb dL_law_1283 hl (by decide) rfl (fun ls hl => ?_)
        refine lv_goto (tgt := 2023) hx hb dL_law_1285 (by decide) ?_
        exact W.widen (k := 100 + 224 * (n + 1)) (n := 1200 + 10680 * (n + 1)) (by omega) (by omega) (kk9 S1 M1 _ _ _ (hI9.next hLQ hLM) hS (lv_sub hl [2, 3, 4, 5, 6] rfl))
      replace hj : j < 4 := by omega
      refine ll_mr (va_runV (As := [.int (nI i), .int (nI j), .int (bI true)]) (rest := []) ⟨hx, hb, hml, hown, hts⟩ (m_X6_ranks_t l dC dI cB am M i j hi hj hI) (cwV 3 hts gL_law_X6_ranks rfl rfl rfl (by decide +kernel) ⟨Nat.le_of_ble_eq_true rfl, Nat.le_of_ble_eq_true rfl⟩) (hS.preMT F.K) rfl rfl hl.1 rfl (lv_room (Nat.le_of_ble_eq_true rfl)) dL_law_1280 ⟨by show _ ≤ 1064969; omega, by show _ ≤ 5901198; omega⟩) F.K hS (fun M1 q9 H locs hw hS => ?_)
      have hLM : LM M M1 := by rw [hw]; exact LM_th hI 0
      refine lv_astore (lv' := [(6, .ref q9), (5, .int r9), (0, .ref b), (1, .ref (ad 57)), (2, .ref (am 0)), (3, .ref o), (4, .int (nI iL))]) hx hb dL_law_1283 hl (by decide) rfl (fun ls hl => ?_)
      refine lv_goto (tgt := 2023) hx hb dL_law_1285 (by decide) ?_
      exact W.widen (k := 100 + 224 * (n + 1)) (n := 1200 + 10680 * (n + 1)) (by omega) (by omega) (kk9 S1 M1 _ _ _ (hI9.next hLQ hLM) hS (lv_sub hl [2, 3, 4, 5, 6] rfl))
  · skip
    refine lv_iconst (v := bI true) hx hb dL_law_1242 (by decide) ?_
    refine lv_goto (tgt := 1247) hx hb dL_law_1243 (by decide) ?_
    refine lv_aload_n hx hb dL_law_1247 rfl (lv_at hl 3 rfl) ?_
    refine ll_w (vx_runSW (As := [.ref (ad 57), .int x1, .int x2, .int (bI true), .ref o]) (rest := []) ⟨hx, hb, hml, hown, hts⟩ (m_L_ranks l F.st dC dI cB ad o S x1 x2 true hI9.x hI9.x5 (by have := hI9.xp; omega)) (vx_cwSW 5 hts gL_law_L_ranks rfl rfl rfl (by decide +kernel) ⟨Nat.le_of_ble_eq_true rfl, Nat.le_of_ble_eq_true rfl⟩) (hS.preW F.K) rfl rfl hl.1 rfl (lv_room (Nat.le_of_ble_eq_true rfl)) dL_law_1248 ⟨by show _ ≤ 1064969; omega, by show _ ≤ 5901198; omega⟩) F.K hS (fun r9 S1 H locs hLQ hS => ?_)
    refine lv_istore (lv' := [(5, .int r9), (0, .ref b), (1, .ref (ad 57)), (2, .ref (am 0)), (3, .ref o), (4, .int (nI iL))]) hx hb dL_law_1251 hl (by decide) rfl (fun ls hl => ?_)
    refine lv_aload_n hx hb dL_law_1253 rfl (lv_at hl 3 rfl) ?_
    refine lv_aload_n hx hb dL_law_1254 rfl (lv_at hl 1 rfl) ?_
    refine lv_iload hx hb dL_law_1255 (lv_at hl 5 rfl) ?_
    refine lv_iconst (v := nI 1) hx hb dL_law_1257 (by decide) ?_
    refine kn_iadd hx hb dL_law_1258 ?_
    refine va_sld hx hb F.sc F.bl (fun z => Nat.not_le.mpr F.bl z) hS.st (vp_in_nI (show iL + 1 < L by omega) (by omega)) dL_law_1259 ?_
    generalize xs (nI (iL + 1)).toNatClampNeg = x9
    refine lv_aload_n hx hb dL_law_1260 rfl (lv_at hl 1 rfl) ?_
    refine lv_iload hx hb dL_law_1261 (lv_at hl 5 rfl) ?_
    refine lv_iconst (v := nI 2) hx hb dL_law_1263 (by decide) ?_
    refine kn_iadd hx hb dL_law_1264 ?_
    refine va_sld hx hb F.sc F.bl (fun z => Nat.not_le.mpr F.bl z) hS.st (vp_in_nI (show iL + 2 < L by omega) (by omega)) dL_law_1265 ?_
    generalize xs (nI (iL + 2)).toNatClampNeg = x10
    refine lv_aload_n hx hb dL_law_1266 rfl (lv_at hl 1 rfl) ?_
    refine lv_iload hx hb dL_law_1267 (lv_at hl 5 rfl) ?_
    refine lv_iconst (v := nI 3) hx hb dL_law_1269 (by decide) ?_
    refine kn_iadd hx hb dL_law_1270 ?_
    refine va_sld hx hb F.sc F.bl (fun z => Nat.not_le.mpr F.bl z) hS.st (vp_in_nI (show iL + 3 < L by omega) (by omega)) dL_law_1271 ?_
    generalize xs (nI (iL + 3)).toNatClampNeg = x11
    refine lv_if_eq (tgt := 1279) hx hb dL_law_1272 (by decide) (fun k_12 => ?_) (fun k_12 => ?_)
    · skip
      refine lv_iconst (v := bI false) hx hb dL_law_1279 (by decide) ?_
      have hI := hI9.m
      have hc : M.2.2.2.1 + 12 < 1000000 := by have := hI9.mp; omega
      rcases lim_lt 3 (by decide) x9 with ⟨i, hi, rfl⟩ | hb9
      rotate_left
      · skip
        refine ll_mr (va_runV (As := [.int x9, .int x10, .int (bI false)]) (rest := []) ⟨hx, hb, hml, hown, hts⟩ (o_X6_ranks_1 l dC dI cB am M x9 x10 false hb9) (cwV 3 hts gL_law_X6_ranks rfl rfl rfl (by decide +kernel) ⟨Nat.le_of_ble_eq_true rfl, Nat.le_of_ble_eq_true rfl⟩) (hS.preMT F.K) rfl rfl hl.1 rfl (lv_room (Nat.le_of_ble_eq_true rfl)) dL_law_1280 ⟨by show _ ≤ 1064969; omega, by show _ ≤ 5901198; omega⟩) F.K hS (fun M1 q9 H locs hw hS => ?_)
        have hLM : LM M M1 := by rw [hw]; exact LM_th hI _
        refine lv_astore (lv' := [(6, .ref q9), (5, .int r9), (0, .ref b), (1, .ref (ad 57)), (2, .ref (am 0)), (3, .ref o), (4, .int (nI iL))]) hx hb dL_law_1283 hl (by decide) rfl (fun ls hl => ?_)
        refine lv_goto (tgt := 2023) hx hb dL_law_1285 (by decide) ?_
        exact W.widen (k := 100 + 224 * (n + 1)) (n := 1200 + 10680 * (n + 1)) (by omega) (by omega) (kk9 S1 M1 _ _ _ (hI9.next hLQ hLM) hS (lv_sub hl [2, 3, 4, 5, 6] rfl))
      replace hi : i < 3 := by omega
      have hn := (hI.1 i hi).1
      rcases lim_lt 4 (by decide) x10 with ⟨j, hj, rfl⟩ | hb9
      rotate_left
      · skip
        refine ll_mr (va_runV (As := [.int (nI i), .int x10, .int (bI false)]) (rest := []) ⟨hx, hb, hml, hown, hts⟩ (o_X6_ranks_2 l dC dI cB am M i x10 false hi hb9) (cwV 3 hts gL_law_X6_ranks rfl rfl rfl (by decide +kernel) ⟨Nat.le_of_ble_eq_true rfl, Nat.le_of_ble_eq_true rfl⟩) (hS.preMT F.K) rfl rfl hl.1 rfl (lv_room (Nat.le_of_ble_eq_true rfl)) dL_law_1280 ⟨by show _ ≤ 1064969; omega, by show _ ≤ 5901198; omega⟩) F.K hS (fun M1 q9 H locs hw hS => ?_)
        have hLM : LM M M1 := by rw [hw]; exact LM_th hI _
        refine lv_astore (lv' := [(6, .ref q9), (5, .int r9), (0, .ref b), (1, .ref (ad 57)), (2, .ref (am 0)), (3, .ref o), (4, .int (nI iL))]) hx hb dL_law_1283 hl (by decide) rfl (fun ls hl => ?_)
        refine lv_goto (tgt := 2023) hx hb dL_law_1285 (by decide) ?_
        exact W.widen (k := 100 + 224 * (n + 1)) (n := 1200 + 10680 * (n + 1)) (by omega) (by omega) (kk9 S1 M1 _ _ _ (hI9.next hLQ hLM) hS (lv_sub hl [2, 3, 4, 5, 6] rfl))
      replace hj : j < 4 := by omega
      refine ll_mr (va_runV (As := [.int (nI i), .int (nI j), .int (bI false)]) (rest := []) ⟨hx, hb, hml, hown, hts⟩ (m_X6_ranks_f l dC dI cB am M i j hi hj hI) (cwV 3 hts gL_law_X6_ranks rfl rfl rfl (by decide +kernel) ⟨Nat.le_of_ble_eq_true rfl, Nat.le_of_ble_eq_true rfl⟩) (hS.preMT F.K) rfl rfl hl.1 rfl (lv_room (Nat.le_of_ble_eq_true rfl)) dL_law_1280 ⟨by show _ ≤ 1064969; omega, by show _ ≤ 5901198; omega⟩) F.K hS (fun M1 q9 H locs hw hS => ?_)
      have hLM : LM M M1 := by rw [hw]; exact LM_th hI 0
      refine lv_astore (lv' := [(6, .ref q9), (5, .int r9), (0, .ref b), (1, .ref (ad 57)), (2, .ref (am 0)), (3, .ref o), (4, .int (nI iL))]) hx hb dL_law_1283 hl (by decide) rfl (fun ls hl => ?_)
      refine lv_goto (tgt := 2023) hx hb dL_law_1285 (by decide) ?_
      exact W.widen (k := 100 + 224 * (n + 1)) (n := 1200 + 10680 * (n + 1)) (by omega) (by omega) (kk9 S1 M1 _ _ _ (hI9.next hLQ hLM) hS (lv_sub hl [2, 3, 4, 5, 6] rfl))
    · skip
      refine lv_iconst (v := bI true) hx hb dL_law_1275 (by decide) ?_
      refine lv_goto (tgt := 1280) hx hb dL_law_1276 (by decide) ?_
      have hI := hI9.m
      have hc : M.2.2.2.1 + 12 < 1000000 := by have := hI9.mp; omega
      rcases lim_lt 3 (by decide) x9 with ⟨i, hi, rfl⟩ | hb9
      rotate_left
      · skip
        refine ll_mr (va_runV (As := [.int x9, .int x10, .int (bI true)]) (rest := []) ⟨hx, hb, hml, hown, hts⟩ (o_X6_ranks_1 l dC dI cB am M x9 x10 true hb9) (cwV 3 hts gL_law_X6_ranks rfl rfl rfl (by decide +kernel) ⟨Nat.le_of_ble_eq_true rfl, Nat.le_of_ble_eq_true rfl⟩) (hS.preMT F.K) rfl rfl hl.1 rfl (lv_room (Nat.le_of_ble_eq_true rfl)) dL_law_1280 ⟨by show _ ≤ 1064969; omega, by show _ ≤ 5901198; omega⟩) F.K hS (fun M1 q9 H locs hw hS => ?_)
        have hLM : LM M M1 := by rw [hw]; exact LM_th hI _
        refine lv_astore (lv' := [(6, .ref q9), (5, .int r9), (0, .ref b), (1, .ref (ad 57)), (2, .ref (am 0)), (3, .ref o), (4, .int (nI iL))]) hx hb dL_law_1283 hl (by decide) rfl (fun ls hl => ?_)
        refine lv_goto (tgt := 2023) hx hb dL_law_1285 (by decide) ?_
        exact W.widen (k := 100 + 224 * (n + 1)) (n := 1200 + 10680 * (n + 1)) (by omega) (by omega) (kk9 S1 M1 _ _ _ (hI9.next hLQ hLM) hS (lv_sub hl [2, 3, 4, 5, 6] rfl))
      replace hi : i < 3 := by omega
      have hn := (hI.1 i hi).1
      rcases lim_lt 4 (by decide) x10 with ⟨j, hj, rfl⟩ | hb9
      rotate_left
      · skip
        refine ll_mr (va_runV (As := [.int (nI i), .int x10, .int (bI true)]) (rest := []) ⟨hx, hb, hml, hown, hts⟩ (o_X6_ranks_2 l dC dI cB am M i x10 true hi hb9) (cwV 3 hts gL_law_X6_ranks rfl rfl rfl (by decide +kernel) ⟨Nat.le_of_ble_eq_true rfl, Nat.le_of_ble_eq_true rfl⟩) (hS.preMT F.K) rfl rfl hl.1 rfl (lv_room (Nat.le_of_ble_eq_true rfl)) dL_law_1280 ⟨by show _ ≤ 1064969; omega, by show _ ≤ 5901198; omega⟩) F.K hS (fun M1 q9 H locs hw hS => ?_)
        have hLM : LM M M1 := by rw [hw]; exact LM_th hI _
        refine lv_astore (lv' := [(6, .ref q9), (5, .int r9), (0, .ref b), (1, .ref (ad 57)), (2, .ref (am 0)), (3, .ref o), (4, .int (nI iL))]) hx hb dL_law_1283 hl (by decide) rfl (fun ls hl => ?_)
        refine lv_goto (tgt := 2023) hx hb dL_law_1285 (by decide) ?_
        exact W.widen (k := 100 + 224 * (n + 1)) (n := 1200 + 10680 * (n + 1)) (by omega) (by omega) (kk9 S1 M1 _ _ _ (hI9.next hLQ hLM) hS (lv_sub hl [2, 3, 4, 5, 6] rfl))
      replace hj : j < 4 := by omega
      refine ll_mr (va_runV (As := [.int (nI i), .int (nI j), .int (bI true)]) (rest := []) ⟨hx, hb, hml, hown, hts⟩ (m_X6_ranks_t l dC dI cB am M i j hi hj hI) (cwV 3 hts gL_law_X6_ranks rfl rfl rfl (by decide +kernel) ⟨Nat.le_of_ble_eq_true rfl, Nat.le_of_ble_eq_true rfl⟩) (hS.preMT F.K) rfl rfl hl.1 rfl (lv_room (Nat.le_of_ble_eq_true rfl)) dL_law_1280 ⟨by show _ ≤ 1064969; omega, by show _ ≤ 5901198; omega⟩) F.K hS (fun M1 q9 H locs hw hS => ?_)
      have hLM : LM M M1 := by rw [hw]; exact LM_th hI 0
      refine lv_astore (lv' := [(6, .ref q9), (5, .int r9), (0, .ref b), (1, .ref (ad 57)), (2, .ref (am 0)), (3, .ref o), (4, .int (nI iL))]) hx hb dL_law_1283 hl (by decide) rfl (fun ls hl => ?_)
      refine lv_goto (tgt := 2023) hx hb dL_law_1285 (by decide) ?_
      exact W.widen (k := 100 + 224 * (n + 1)) (n := 1200 + 10680 * (n + 1)) (by omega) (by omega) (kk9 S1 M1 _ _ _ (hI9.next hLQ hLM) hS (lv_sub hl [2, 3, 4, 5, 6] rfl))
set_option maxHeartbeats 4000000 in
set_option maxRecDepth 100000 in
theorem lc_23 {p : Program} {l : Launch} {e : Env} {s : State} {m : MethodId} {below : List Frame} {meth : Method} {c : Code} {b L : Nat} {xs : Nat → Int32} {dC : Nat → ClassId} {dI : Nat → Nat → Nat} {cB : ClassId} {ad am : Nat → Nat} {o n iL : Nat} {Q : State → Prop} (F : LF p l s m c b L xs dC dI cB ad am o) (hni : iL = 5 * n) (hiL : iL + 5 ≤ L) : LCase p l e s m below meth c b dC dI ad am o n iL Q 1288 := by
  intro S M H locs hI9 hS kk9 ls hl
  have hx := F.x
  have hb := F.b
  have hml := F.ml
  have hown := F.own
  have hts := F.ts
  have hL := F.hL
  have hn9 : n ≤ 511 := by omega
  refine lv_aload_n hx hb dL_law_1288 rfl (lv_at hl 1 rfl) ?_
  refine lv_aload_n hx hb dL_law_1289 rfl (lv_at hl 0 rfl) ?_
  refine lv_iload hx hb dL_law_1290 (lv_at hl 4 rfl) ?_
  refine lv_iconst (v := nI 1) hx hb dL_law_1292 (by decide) ?_
  refine kn_iadd hx hb dL_law_1293 ?_
  refine va_sld hx hb F.sc F.bl (fun z => Nat.not_le.mpr F.bl z) hS.st (vp_in_nI (show iL + 1 < L by omega) (by omega)) dL_law_1294 ?_
  generalize xs (nI (iL + 1)).toNatClampNeg = x1
  refine lv_aload_n hx hb dL_law_1295 rfl (lv_at hl 0 rfl) ?_
  refine lv_iload hx hb dL_law_1296 (lv_at hl 4 rfl) ?_
  refine lv_iconst (v := nI 2) hx hb dL_law_1298 (by decide) ?_
  refine kn_iadd hx hb dL_law_1299 ?_
  refine va_sld hx hb F.sc F.bl (fun z => Nat.not_le.mpr F.bl z) hS.st (vp_in_nI (show iL + 2 < L by omega) (by omega)) dL_law_1300 ?_
  generalize xs (nI (iL + 2)).toNatClampNeg = x2
  refine lv_aload_n hx hb dL_law_1301 rfl (lv_at hl 0 rfl) ?_
  refine lv_iload hx hb dL_law_1302 (lv_at hl 4 rfl) ?_
  refine lv_iconst (v := nI 3) hx hb dL_law_1304 (by decide) ?_
  refine kn_iadd hx hb dL_law_1305 ?_
  refine va_sld hx hb F.sc F.bl (fun z => Nat.not_le.mpr F.bl z) hS.st (vp_in_nI (show iL + 3 < L by omega) (by omega)) dL_law_1306 ?_
  generalize xs (nI (iL + 3)).toNatClampNeg = x3
  refine lv_if_eq (tgt := 1314) hx hb dL_law_1307 (by decide) (fun k_4 => ?_) (fun k_4 => ?_)
  · skip
    refine lv_iconst (v := bI false) hx hb dL_law_1314 (by decide) ?_
    refine lv_aload_n hx hb dL_law_1315 rfl (lv_at hl 3 rfl) ?_
    refine ll_w (vx_runSW (As := [.ref (ad 57), .int x1, .int x2, .int (bI false), .ref o]) (rest := []) ⟨hx, hb, hml, hown, hts⟩ (m_L_step l F.st dC dI cB ad o S x1 x2 false hI9.x hI9.x5 (by have := hI9.xp; omega)) (vx_cwSW 5 hts gL_law_L_step rfl rfl rfl (by decide +kernel) ⟨Nat.le_of_ble_eq_true rfl, Nat.le_of_ble_eq_true rfl⟩) (hS.preW F.K) rfl rfl hl.1 rfl (lv_room (Nat.le_of_ble_eq_true rfl)) dL_law_1316 ⟨by show _ ≤ 1064969; omega, by show _ ≤ 5901198; omega⟩) F.K hS (fun r9 S1 H locs hLQ hS => ?_)
    refine lv_istore (lv' := [(5, .int r9), (0, .ref b), (1, .ref (ad 57)), (2, .ref (am 0)), (3, .ref o), (4, .int (nI iL))]) hx hb dL_law_1319 hl (by decide) rfl (fun ls hl => ?_)
    refine lv_aload_n hx hb dL_law_1321 rfl (lv_at hl 3 rfl) ?_
    refine lv_aload_n hx hb dL_law_1322 rfl (lv_at hl 1 rfl) ?_
    refine lv_iload hx hb dL_law_1323 (lv_at hl 5 rfl) ?_
    refine lv_iconst (v := nI 1) hx hb dL_law_1325 (by decide) ?_
    refine kn_iadd hx hb dL_law_1326 ?_
    refine va_sld hx hb F.sc F.bl (fun z => Nat.not_le.mpr F.bl z) hS.st (vp_in_nI (show iL + 1 < L by omega) (by omega)) dL_law_1327 ?_
    generalize xs (nI (iL + 1)).toNatClampNeg = x5
    refine lv_aload_n hx hb dL_law_1328 rfl (lv_at hl 1 rfl) ?_
    refine lv_iload hx hb dL_law_1329 (lv_at hl 5 rfl) ?_
    refine lv_iconst (v := nI 2) hx hb dL_law_1331 (by decide) ?_
    refine kn_iadd hx hb dL_law_1332 ?_
    refine va_sld hx hb F.sc F.bl (fun z => Nat.not_le.mpr F.bl z) hS.st (vp_in_nI (show iL + 2 < L by omega) (by omega)) dL_law_1333 ?_
    generalize xs (nI (iL + 2)).toNatClampNeg = x6
    refine lv_aload_n hx hb dL_law_1334 rfl (lv_at hl 1 rfl) ?_
    refine lv_iload hx hb dL_law_1335 (lv_at hl 5 rfl) ?_
    refine lv_iconst (v := nI 3) hx hb dL_law_1337 (by decide) ?_
    refine kn_iadd hx hb dL_law_1338 ?_
    refine va_sld hx hb F.sc F.bl (fun z => Nat.not_le.mpr F.bl z) hS.st (vp_in_nI (show iL + 3 < L by omega) (by omega)) dL_law_1339 ?_
    generalize xs (nI (iL + 3)).toNatClampNeg = x7
    refine lv_if_eq (tgt := 1347) hx hb dL_law_1340 (by decide) (fun k_8 => ?_) (fun k_8 => ?_)
    · skip
      refine lv_iconst (v := bI false) hx hb dL_law_1347 (by decide) ?_
      have hI := hI9.m
      have hc : M.2.2.2.1 + 12 < 1000000 := by have := hI9.mp; omega
      rcases lim_lt 4 (by decide) x5 with ⟨j, hj, rfl⟩ | hb9
      rotate_left
      · skip
        refine ll_m (va_runV (As := [.int x5, .int x6, .int (bI false)]) (rest := []) ⟨hx, hb, hml, hown, hts⟩ (o_X6_step_1 l dC dI am M x5 x6 false hb9 hI) (cwV 3 hts gL_law_X6_step rfl rfl rfl (by decide +kernel) ⟨Nat.le_of_ble_eq_true rfl, Nat.le_of_ble_eq_true rfl⟩) (hS.preM F.K) rfl rfl hl.1 rfl (lv_room (Nat.le_of_ble_eq_true rfl)) dL_law_1348 ⟨by show _ ≤ 1064969; omega, by show _ ≤ 5901198; omega⟩) F.K hS (fun r8 M1 H locs hw hS => ?_)
        have hLM : LM M M1 := by rw [hw]; exact LM_th hI _
        refine lv_istore (lv' := [(6, .int r8), (5, .int r9), (0, .ref b), (1, .ref (ad 57)), (2, .ref (am 0)), (3, .ref o), (4, .int (nI iL))]) hx hb dL_law_1351 hl (by decide) rfl (fun ls hl => ?_)
        refine lv_goto (tgt := 2023) hx hb dL_law_1353 (by decide) ?_
        exact W.widen (k := 100 + 224 * (n + 1)) (n := 1200 + 10680 * (n + 1)) (by omega) (by omega) (kk9 S1 M1 _ _ _ (hI9.next hLQ hLM) hS (lv_sub hl [2, 3, 4, 5, 6] rfl))
      replace hj : j < 4 := by omega
      rcases lim_le 7 (by decide) x6 with ⟨k, hk, rfl⟩ | hb9
      rotate_left
      · skip
        refine ll_m (va_runV (As := [.int (nI j), .int x6, .int (bI false)]) (rest := []) ⟨hx, hb, hml, hown, hts⟩ (o_X6_step_2 l dC dI am M j x6 false hj hb9 hI) (cwV 3 hts gL_law_X6_step rfl rfl rfl (by decide +kernel) ⟨Nat.le_of_ble_eq_true rfl, Nat.le_of_ble_eq_true rfl⟩) (hS.preM F.K) rfl rfl hl.1 rfl (lv_room (Nat.le_of_ble_eq_true rfl)) dL_law_1348 ⟨by show _ ≤ 1064969; omega, by show _ ≤ 5901198; omega⟩) F.K hS (fun r8 M1 H locs hw hS => ?_)
        have hLM : LM M M1 := by rw [hw]; exact LM_th hI _
        refine lv_istore (lv' := [(6, .int r8), (5, .int r9), (0, .ref b), (1, .ref (ad 57)), (2, .ref (am 0)), (3, .ref o), (4, .int (nI iL))]) hx hb dL_law_1351 hl (by decide) rfl (fun ls hl => ?_)
        refine lv_goto (tgt := 2023) hx hb dL_law_1353 (by decide) ?_
        exact W.widen (k := 100 + 224 * (n + 1)) (n := 1200 + 10680 * (n + 1)) (by omega) (by omega) (kk9 S1 M1 _ _ _ (hI9.next hLQ hLM) hS (lv_sub hl [2, 3, 4, 5, 6] rfl))
      replace hk : k ≤ 7 := by omega
      refine ll_m (va_runV (As := [.int (nI j), .int (nI k), .int (bI false)]) (rest := []) ⟨hx, hb, hml, hown, hts⟩ (m_X6_step l dC dI am M j k false hj hk hI) (cwV 3 hts gL_law_X6_step rfl rfl rfl (by decide +kernel) ⟨Nat.le_of_ble_eq_true rfl, Nat.le_of_ble_eq_true rfl⟩) (hS.preM F.K) rfl rfl hl.1 rfl (lv_room (Nat.le_of_ble_eq_true rfl)) dL_law_1348 ⟨by show _ ≤ 1064969; omega, by show _ ≤ 5901198; omega⟩) F.K hS (fun r8 M1 H locs hw hS => ?_)
      have hLM : LM M M1 := hw.elim (fun h => by rw [h.2.2]; exact LM_ord hI (ordM_add (hI.2 j hj) h.1 (by omega))) (fun h => by rw [h.2.2]; exact LM_ref hI)
      refine lv_istore (lv' := [(6, .int r8), (5, .int r9), (0, .ref b), (1, .ref (ad 57)), (2, .ref (am 0)), (3, .ref o), (4, .int (nI iL))]) hx hb dL_law_1351 hl (by decide) rfl (fun ls hl => ?_)
      refine lv_goto (tgt := 2023) hx hb dL_law_1353 (by decide) ?_
      exact W.widen (k := 100 + 224 * (n + 1)) (n := 1200 + 10680 * (n + 1)) (by omega) (by omega) (kk9 S1 M1 _ _ _ (hI9.next hLQ hLM) hS (lv_sub hl [2, 3, 4, 5, 6] rfl))
    · skip
      refine lv_iconst (v := bI true) hx hb dL_law_1343 (by decide) ?_
      refine lv_goto (tgt := 1348) hx hb dL_law_1344 (by decide) ?_
      have hI := hI9.m
      have hc : M.2.2.2.1 + 12 < 1000000 := by have := hI9.mp; omega
      rcases lim_lt 4 (by decide) x5 with ⟨j, hj, rfl⟩ | hb9
      rotate_left
      · skip
        refine ll_m (va_runV (As := [.int x5, .int x6, .int (bI true)]) (rest := []) ⟨hx, hb, hml, hown, hts⟩ (o_X6_step_1 l dC dI am M x5 x6 true hb9 hI) (cwV 3 hts gL_law_X6_step rfl rfl rfl (by decide +kernel) ⟨Nat.le_of_ble_eq_true rfl, Nat.le_of_ble_eq_true rfl⟩) (hS.preM F.K) rfl rfl hl.1 rfl (lv_room (Nat.le_of_ble_eq_true rfl)) dL_law_1348 ⟨by show _ ≤ 1064969; omega, by show _ ≤ 5901198; omega⟩) F.K hS (fun r8 M1 H locs hw hS => ?_)
        have hLM : LM M M1 := by rw [hw]; exact LM_th hI _
        refine lv_istore (lv' := [(6, .int r8), (5, .int r9), (0, .ref b), (1, .ref (ad 57)), (2, .ref (am 0)), (3, .ref o), (4, .int (nI iL))]) hx hb dL_law_1351 hl (by decide) rfl (fun ls hl => ?_)
        refine lv_goto (tgt := 2023) hx hb dL_law_1353 (by decide) ?_
        exact W.widen (k := 100 + 224 * (n + 1)) (n := 1200 + 10680 * (n + 1)) (by omega) (by omega) (kk9 S1 M1 _ _ _ (hI9.next hLQ hLM) hS (lv_sub hl [2, 3, 4, 5, 6] rfl))
      replace hj : j < 4 := by omega
      rcases lim_le 7 (by decide) x6 with ⟨k, hk, rfl⟩ | hb9
      rotate_left
      · skip
        refine ll_m (va_runV (As := [.int (nI j), .int x6, .int (bI true)]) (rest := []) ⟨hx, hb, hml, hown, hts⟩ (o_X6_step_2 l dC dI am M j x6 true hj hb9 hI) (cwV 3 hts gL_law_X6_step rfl rfl rfl (by decide +kernel) ⟨Nat.le_of_ble_eq_true rfl, Nat.le_of_ble_eq_true rfl⟩) (hS.preM F.K) rfl rfl hl.1 rfl (lv_room (Nat.le_of_ble_eq_true rfl)) dL_law_1348 ⟨by show _ ≤ 1064969; omega, by show _ ≤ 5901198; omega⟩) F.K hS (fun r8 M1 H locs hw hS => ?_)
        have hLM : LM M M1 := by rw [hw]; exact LM_th hI _
        refine lv_istore (lv' := [(6, .int r8), (5, .int r9), (0, .ref b), (1, .ref (ad 57)), (2, .ref (am 0)), (3, .ref o), (4, .int (nI iL))]) hx hb dL_law_1351 hl (by decide) rfl (fun ls hl => ?_)
        refine lv_goto (tgt := 2023) hx hb dL_law_1353 (by decide) ?_
        exact W.widen (k := 100 + 224 * (n + 1)) (n := 1200 + 10680 * (n + 1)) (by omega) (by omega) (kk9 S1 M1 _ _ _ (hI9.next hLQ hLM) hS (lv_sub hl [2, 3, 4, 5, 6] rfl))
      replace hk : k ≤ 7 := by omega
      refine ll_m (va_runV (As := [.int (nI j), .int (nI k), .int (bI true)]) (rest := []) ⟨hx, hb, hml, hown, hts⟩ (m_X6_step l dC dI am M j k true hj hk hI) (cwV 3 hts gL_law_X6_step rfl rfl rfl (by decide +kernel) ⟨Nat.le_of_ble_eq_true rfl, Nat.le_of_ble_eq_true rfl⟩) (hS.preM F.K) rfl rfl hl.1 rfl (lv_room (Nat.le_of_ble_eq_true rfl)) dL_law_1348 ⟨by show _ ≤ 1064969; omega, by show _ ≤ 5901198; omega⟩) F.K hS (fun r8 M1 H locs hw hS => ?_)
      have hLM : LM M M1 := hw.elim (fun h => by rw [h.2.2]; exact LM_ord hI (ordM_add (hI.2 j hj) h.1 (by omega))) (fun h => by rw [h.2.2]; exact LM_ref hI)
      refine lv_istore (lv' := [(6, .int r8), (5, .int r9), (0, .ref b), (1, .ref (ad 57)), (2, .ref (am 0)), (3, .ref o), (4, .int (nI iL))]) hx hb dL_law_1351 hl (by decide) rfl (fun ls hl => ?_)
      refine lv_goto (tgt := 2023) hx hb dL_law_1353 (by decide) ?_
      exact W.widen (k := 100 + 224 * (n + 1)) (n := 1200 + 10680 * (n + 1)) (by omega) (by omega) (kk9 S1 M1 _ _ _ (hI9.next hLQ hLM) hS (lv_sub hl [2, 3, 4, 5, 6] rfl))
  · skip
    refine lv_iconst (v := bI true) hx hb dL_law_1310 (by decide) ?_
    refine lv_goto (tgt := 1315) hx hb dL_law_1311 (by decide) ?_
    refine lv_aload_n hx hb dL_law_1315 rfl (lv_at hl 3 rfl) ?_
    refine ll_w (vx_runSW (As := [.ref (ad 57), .int x1, .int x2, .int (bI true), .ref o]) (rest := []) ⟨hx, hb, hml, hown, hts⟩ (m_L_step l F.st dC dI cB ad o S x1 x2 true hI9.x hI9.x5 (by have := hI9.xp; omega)) (vx_cwSW 5 hts gL_law_L_step rfl rfl rfl (by decide +kernel) ⟨Nat.le_of_ble_eq_true rfl, Nat.le_of_ble_eq_true rfl⟩) (hS.preW F.K) rfl rfl hl.1 rfl (lv_room (Nat.le_of_ble_eq_true rfl)) dL_law_1316 ⟨by show _ ≤ 1064969; omega, by show _ ≤ 5901198; omega⟩) F.K hS (fun r9 S1 H locs hLQ hS => ?_)
    refine lv_istore (lv' := [(5, .int r9), (0, .ref b), (1, .ref (ad 57)), (2, .ref (am 0)), (3, .ref o), (4, .int (nI iL))]) hx hb dL_law_1319 hl (by decide) rfl (fun ls hl => ?_)
    refine lv_aload_n hx hb dL_law_1321 rfl (lv_at hl 3 rfl) ?_
    refine lv_aload_n hx hb dL_law_1322 rfl (lv_at hl 1 rfl) ?_
    refine lv_iload hx hb dL_law_1323 (lv_at hl 5 rfl) ?_
    refine lv_iconst (v := nI 1) hx hb dL_law_1325 (by decide) ?_
    refine kn_iadd hx hb dL_law_1326 ?_
    refine va_sld hx hb F.sc F.bl (fun z => Nat.not_le.mpr F.bl z) hS.st (vp_in_nI (show iL + 1 < L by omega) (by omega)) dL_law_1327 ?_
    generalize xs (nI (iL + 1)).toNatClampNeg = x9
    refine lv_aload_n hx hb dL_law_1328 rfl (lv_at hl 1 rfl) ?_
    refine lv_iload hx hb dL_law_1329 (lv_at hl 5 rfl) ?_
    refine lv_iconst (v := nI 2) hx hb dL_law_1331 (by decide) ?_
    refine kn_iadd hx hb dL_law_1332 ?_
    refine va_sld hx hb F.sc F.bl (fun z => Nat.not_le.mpr F.bl z) hS.st (vp_in_nI (show iL + 2 < L by omega) (by omega)) dL_law_1333 ?_
    generalize xs (nI (iL + 2)).toNatClampNeg = x10
    refine lv_aload_n hx hb dL_law_1334 rfl (lv_at hl 1 rfl) ?_
    refine lv_iload hx hb dL_law_1335 (lv_at hl 5 rfl) ?_
    refine lv_iconst (v := nI 3) hx hb dL_law_1337 (by decide) ?_
    refine kn_iadd hx hb dL_law_1338 ?_
    refine va_sld hx hb F.sc F.bl (fun z => Nat.not_le.mpr F.bl z) hS.st (vp_in_nI (show iL + 3 < L by omega) (by omega)) dL_law_1339 ?_
    generalize xs (nI (iL + 3)).toNatClampNeg = x11
    refine lv_if_eq (tgt := 1347) hx hb dL_law_1340 (by decide) (fun k_12 => ?_) (fun k_12 => ?_)
    · skip
      refine lv_iconst (v := bI false) hx hb dL_law_1347 (by decide) ?_
      have hI := hI9.m
      have hc : M.2.2.2.1 + 12 < 1000000 := by have := hI9.mp; omega
      rcases lim_lt 4 (by decide) x9 with ⟨j, hj, rfl⟩ | hb9
      rotate_left
      · skip
        refine ll_m (va_runV (As := [.int x9, .int x10, .int (bI false)]) (rest := []) ⟨hx, hb, hml, hown, hts⟩ (o_X6_step_1 l dC dI am M x9 x10 false hb9 hI) (cwV 3 hts gL_law_X6_step rfl rfl rfl (by decide +kernel) ⟨Nat.le_of_ble_eq_true rfl, Nat.le_of_ble_eq_true rfl⟩) (hS.preM F.K) rfl rfl hl.1 rfl (lv_room (Nat.le_of_ble_eq_true rfl)) dL_law_1348 ⟨by show _ ≤ 1064969; omega, by show _ ≤ 5901198; omega⟩) F.K hS (fun r8 M1 H locs hw hS => ?_)
        have hLM : LM M M1 := by rw [hw]; exact LM_th hI _
        refine lv_istore (lv' := [(6, .int r8), (5, .int r9), (0, .ref b), (1, .ref (ad 57)), (2, .ref (am 0)), (3, .ref o), (4, .int (nI iL))]) hx hb dL_law_1351 hl (by decide) rfl (fun ls hl => ?_)
        refine lv_goto (tgt := 2023) hx hb dL_law_1353 (by decide) ?_
        exact W.widen (k := 100 + 224 * (n + 1)) (n := 1200 + 10680 * (n + 1)) (by omega) (by omega) (kk9 S1 M1 _ _ _ (hI9.next hLQ hLM) hS (lv_sub hl [2, 3, 4, 5, 6] rfl))
      replace hj : j < 4 := by omega
      rcases lim_le 7 (by decide) x10 with ⟨k, hk, rfl⟩ | hb9
      rotate_left
      · skip
        refine ll_m (va_runV (As := [.int (nI j), .int x10, .int (bI false)]) (rest := []) ⟨hx, hb, hml, hown, hts⟩ (o_X6_step_2 l dC dI am M j x10 false hj hb9 hI) (cwV 3 hts gL_law_X6_step rfl rfl rfl (by decide +kernel) ⟨Nat.le_of_ble_eq_true rfl, Nat.le_of_ble_eq_true rfl⟩) (hS.preM F.K) rfl rfl hl.1 rfl (lv_room (Nat.le_of_ble_eq_true rfl)) dL_law_1348 ⟨by show _ ≤ 1064969; omega, by show _ ≤ 5901198; omega⟩) F.K hS (fun r8 M1 H locs hw hS => ?_)
        have hLM : LM M M1 := by rw [hw]; exact LM_th hI _
        refine lv_istore (lv' := [(6, .int r8), (5, .int r9), (0, .ref b), (1, .ref (ad 57)), (2, .ref (am 0)), (3, .ref o), (4, .int (nI iL))]) hx hb dL_law_1351 hl (by decide) rfl (fun ls hl => ?_)
        refine lv_goto (tgt := 2023) hx hb dL_law_1353 (by decide) ?_
        exact W.widen (k := 100 + 224 * (n + 1)) (n := 1200 + 10680 * (n + 1)) (by omega) (by omega) (kk9 S1 M1 _ _ _ (hI9.next hLQ hLM) hS (lv_sub hl [2, 3, 4, 5, 6] rfl))
      replace hk : k ≤ 7 := by omega
      refine ll_m (va_runV (As := [.int (nI j), .int (nI k), .int (bI false)]) (rest := []) ⟨hx, hb, hml, hown, hts⟩ (m_X6_step l dC dI am M j k false hj hk hI) (cwV 3 hts gL_law_X6_step rfl rfl rfl (by decide +kernel) ⟨Nat.le_of_ble_eq_true rfl, Nat.le_of_ble_eq_true rfl⟩) (hS.preM F.K) rfl rfl hl.1 rfl (lv_room (Nat.le_of_ble_eq_true rfl)) dL_law_1348 ⟨by show _ ≤ 1064969; omega, by show _ ≤ 5901198; omega⟩) F.K hS (fun r8 M1 H locs hw hS => ?_)
      have hLM : LM M M1 := hw.elim (fun h => by rw [h.2.2]; exact LM_ord hI (ordM_add (hI.2 j hj) h.1 (by omega))) (fun h => by rw [h.2.2]; exact LM_ref hI)
      refine lv_istore (lv' := [(6, .int r8), (5, .int r9), (0, .ref b), (1, .ref (ad 57)), (2, .ref (am 0)), (3, .ref o), (4, .int (nI iL))]) hx hb dL_law_1351 hl (by decide) rfl (fun ls hl => ?_)
      refine lv_goto (tgt := 2023) hx hb dL_law_1353 (by decide) ?_
      exact W.widen (k := 100 + 224 * (n + 1)) (n := 1200 + 10680 * (n + 1)) (by omega) (by omega) (kk9 S1 M1 _ _ _ (hI9.next hLQ hLM) hS (lv_sub hl [2, 3, 4, 5, 6] rfl))
    · skip
      refine lv_iconst (v := bI true) hx hb dL_law_1343 (by decide) ?_
      refine lv_goto (tgt := 1348) hx hb dL_law_1344 (by decide) ?_
      have hI := hI9.m
      have hc : M.2.2.2.1 + 12 < 1000000 := by have := hI9.mp; omega
      rcases lim_lt 4 (by decide) x9 with ⟨j, hj, rfl⟩ | hb9
      rotate_left
      · skip
        refine ll_m (va_runV (As := [.int x9, .int x10, .int (bI true)]) (rest := []) ⟨hx, hb, hml, hown, hts⟩ (o_X6_step_1 l dC dI am M x9 x10 true hb9 hI) (cwV 3 hts gL_law_X6_step rfl rfl rfl (by decide +kernel) ⟨Nat.le_of_ble_eq_true rfl, Nat.le_of_ble_eq_true rfl⟩) (hS.preM F.K) rfl rfl hl.1 rfl (lv_room (Nat.le_of_ble_eq_true rfl)) dL_law_1348 ⟨by show _ ≤ 1064969; omega, by show _ ≤ 5901198; omega⟩) F.K hS (fun r8 M1 H locs hw hS => ?_)
        have hLM : LM M M1 := by rw [hw]; exact LM_th hI _
        refine lv_istore (lv' := [(6, .int r8), (5, .int r9), (0, .ref b), (1, .ref (ad 57)), (2, .ref (am 0)), (3, .ref o), (4, .int (nI iL))]) hx hb dL_law_1351 hl (by decide) rfl (fun ls hl => ?_)
        refine lv_goto (tgt := 2023) hx hb dL_law_1353 (by decide) ?_
        exact W.widen (k := 100 + 224 * (n + 1)) (n := 1200 + 10680 * (n + 1)) (by omega) (by omega) (kk9 S1 M1 _ _ _ (hI9.next hLQ hLM) hS (lv_sub hl [2, 3, 4, 5, 6] rfl))
      replace hj : j < 4 := by omega
      rcases lim_le 7 (by decide) x10 with ⟨k, hk, rfl⟩ | hb9
      rotate_left
      · skip
        refine ll_m (va_runV (As := [.int (nI j), .int x10, .int (bI true)]) (rest := []) ⟨hx, hb, hml, hown, hts⟩ (o_X6_step_2 l dC dI am M j x10 true hj hb9 hI) (cwV 3 hts gL_law_X6_step rfl rfl rfl (by decide +kernel) ⟨Nat.le_of_ble_eq_true rfl, Nat.le_of_ble_eq_true rfl⟩) (hS.preM F.K) rfl rfl hl.1 rfl (lv_room (Nat.le_of_ble_eq_true rfl)) dL_law_1348 ⟨by show _ ≤ 1064969; omega, by show _ ≤ 5901198; omega⟩) F.K hS (fun r8 M1 H locs hw hS => ?_)
        have hLM : LM M M1 := by rw [hw]; exact LM_th hI _
        refine lv_istore (lv' := [(6, .int r8), (5, .int r9), (0, .ref b), (1, .ref (ad 57)), (2, .ref (am 0)), (3, .ref o), (4, .int (nI iL))]) hx hb dL_law_1351 hl (by decide) rfl (fun ls hl => ?_)
        refine lv_goto (tgt := 2023) hx hb dL_law_1353 (by decide) ?_
        exact W.widen (k := 100 + 224 * (n + 1)) (n := 1200 + 10680 * (n + 1)) (by omega) (by omega) (kk9 S1 M1 _ _ _ (hI9.next hLQ hLM) hS (lv_sub hl [2, 3, 4, 5, 6] rfl))
      replace hk : k ≤ 7 := by omega
      refine ll_m (va_runV (As := [.int (nI j), .int (nI k), .int (bI true)]) (rest := []) ⟨hx, hb, hml, hown, hts⟩ (m_X6_step l dC dI am M j k true hj hk hI) (cwV 3 hts gL_law_X6_step rfl rfl rfl (by decide +kernel) ⟨Nat.le_of_ble_eq_true rfl, Nat.le_of_ble_eq_true rfl⟩) (hS.preM F.K) rfl rfl hl.1 rfl (lv_room (Nat.le_of_ble_eq_true rfl)) dL_law_1348 ⟨by show _ ≤ 1064969; omega, by show _ ≤ 5901198; omega⟩) F.K hS (fun r8 M1 H locs hw hS => ?_)
      have hLM : LM M M1 := hw.elim (fun h => by rw [h.2.2]; exact LM_ord hI (ordM_add (hI.2 j hj) h.1 (by omega))) (fun h => by rw [h.2.2]; exact LM_ref hI)
      refine lv_istore (lv' := [(6, .int r8), (5, .int r9), (0, .ref b), (1, .ref (ad 57)), (2, .ref (am 0)), (3, .ref o), (4, .int (nI iL))]) hx hb dL_law_1351 hl (by decide) rfl (fun ls hl => ?_)
      refine lv_goto (tgt := 2023) hx hb dL_law_1353 (by decide) ?_
      exact W.widen (k := 100 + 224 * (n + 1)) (n := 1200 + 10680 * (n + 1)) (by omega) (by omega) (kk9 S1 M1 _ _ _ (hI9.next hLQ hLM) hS (lv_sub hl [2, 3, 4, 5, 6] rfl))
set_option maxHeartbeats 4000000 in
set_option maxRecDepth 100000 in
theorem lc_24 {p : Program} {l : Launch} {e : Env} {s : State} {m : MethodId} {below : List Frame} {meth : Method} {c : Code} {b L : Nat} {xs : Nat → Int32} {dC : Nat → ClassId} {dI : Nat → Nat → Nat} {cB : ClassId} {ad am : Nat → Nat} {o n iL : Nat} {Q : State → Prop} (F : LF p l s m c b L xs dC dI cB ad am o) (hni : iL = 5 * n) (hiL : iL + 5 ≤ L) : LCase p l e s m below meth c b dC dI ad am o n iL Q 1356 := by
  intro S M H locs hI9 hS kk9 ls hl
  have hx := F.x
  have hb := F.b
  have hml := F.ml
  have hown := F.own
  have hts := F.ts
  have hL := F.hL
  have hn9 : n ≤ 511 := by omega
  refine lv_aload_n hx hb dL_law_1356 rfl (lv_at hl 1 rfl) ?_
  refine lv_aload_n hx hb dL_law_1357 rfl (lv_at hl 0 rfl) ?_
  refine lv_iload hx hb dL_law_1358 (lv_at hl 4 rfl) ?_
  refine lv_iconst (v := nI 1) hx hb dL_law_1360 (by decide) ?_
  refine kn_iadd hx hb dL_law_1361 ?_
  refine va_sld hx hb F.sc F.bl (fun z => Nat.not_le.mpr F.bl z) hS.st (vp_in_nI (show iL + 1 < L by omega) (by omega)) dL_law_1362 ?_
  generalize xs (nI (iL + 1)).toNatClampNeg = x1
  refine lv_aload_n hx hb dL_law_1363 rfl (lv_at hl 3 rfl) ?_
  refine ll_w (vx_runSW (As := [.ref (ad 57), .int x1, .ref o]) (rest := []) ⟨hx, hb, hml, hown, hts⟩ (m_L_unstep l F.st dC dI cB ad o S x1 hI9.x hI9.x5 (by have := hI9.xp; omega)) (vx_cwSW 3 hts gL_law_L_unstep rfl rfl rfl (by decide +kernel) ⟨Nat.le_of_ble_eq_true rfl, Nat.le_of_ble_eq_true rfl⟩) (hS.preW F.K) rfl rfl hl.1 rfl (lv_room (Nat.le_of_ble_eq_true rfl)) dL_law_1364 ⟨by show _ ≤ 1064969; omega, by show _ ≤ 5901198; omega⟩) F.K hS (fun r9 S1 H locs hLQ hS => ?_)
  refine lv_istore (lv' := [(5, .int r9), (0, .ref b), (1, .ref (ad 57)), (2, .ref (am 0)), (3, .ref o), (4, .int (nI iL))]) hx hb dL_law_1367 hl (by decide) rfl (fun ls hl => ?_)
  refine lv_aload_n hx hb dL_law_1369 rfl (lv_at hl 3 rfl) ?_
  refine lv_aload_n hx hb dL_law_1370 rfl (lv_at hl 1 rfl) ?_
  refine lv_iload hx hb dL_law_1371 (lv_at hl 5 rfl) ?_
  refine lv_iconst (v := nI 1) hx hb dL_law_1373 (by decide) ?_
  refine kn_iadd hx hb dL_law_1374 ?_
  refine va_sld hx hb F.sc F.bl (fun z => Nat.not_le.mpr F.bl z) hS.st (vp_in_nI (show iL + 1 < L by omega) (by omega)) dL_law_1375 ?_
  generalize xs (nI (iL + 1)).toNatClampNeg = x2
  have hI := hI9.m
  have hc : M.2.2.2.1 + 12 < 1000000 := by have := hI9.mp; omega
  rcases lim_lt 4 (by decide) x2 with ⟨j, hj, rfl⟩ | hb9
  rotate_left
  · skip
    refine ll_m (va_runV (As := [.int x2]) (rest := []) ⟨hx, hb, hml, hown, hts⟩ (o_X6_unstep_1 l dC dI am M x2 hb9 hI) (cwV 1 hts gL_law_X6_unstep rfl rfl rfl (by decide +kernel) ⟨Nat.le_of_ble_eq_true rfl, Nat.le_of_ble_eq_true rfl⟩) (hS.preM F.K) rfl rfl hl.1 rfl (lv_room (Nat.le_of_ble_eq_true rfl)) dL_law_1376 ⟨by show _ ≤ 1064969; omega, by show _ ≤ 5901198; omega⟩) F.K hS (fun r8 M1 H locs hw hS => ?_)
    have hLM : LM M M1 := by rw [hw]; exact LM_th hI _
    refine lv_istore (lv' := [(6, .int r8), (5, .int r9), (0, .ref b), (1, .ref (ad 57)), (2, .ref (am 0)), (3, .ref o), (4, .int (nI iL))]) hx hb dL_law_1379 hl (by decide) rfl (fun ls hl => ?_)
    refine lv_goto (tgt := 2023) hx hb dL_law_1381 (by decide) ?_
    exact W.widen (k := 100 + 224 * (n + 1)) (n := 1200 + 10680 * (n + 1)) (by omega) (by omega) (kk9 S1 M1 _ _ _ (hI9.next hLQ hLM) hS (lv_sub hl [2, 3, 4, 5, 6] rfl))
  replace hj : j < 4 := by omega
  refine ll_m (va_runV (As := [.int (nI j)]) (rest := []) ⟨hx, hb, hml, hown, hts⟩ (m_X6_unstep l dC dI am M j hj hI) (cwV 1 hts gL_law_X6_unstep rfl rfl rfl (by decide +kernel) ⟨Nat.le_of_ble_eq_true rfl, Nat.le_of_ble_eq_true rfl⟩) (hS.preM F.K) rfl rfl hl.1 rfl (lv_room (Nat.le_of_ble_eq_true rfl)) dL_law_1376 ⟨by show _ ≤ 1064969; omega, by show _ ≤ 5901198; omega⟩) F.K hS (fun r8 M1 H locs hw hS => ?_)
  have hLM : LM M M1 := hw.elim (fun h => by rw [h.2.2]; exact LM_ord hI ⟨by have := (hI.2 j hj).1; show (M.2.1 j).2.2 - 1 ≤ 5; omega, (hI.2 j hj).2⟩) (fun h => by rw [h.2.2]; exact LM_ref hI)
  refine lv_istore (lv' := [(6, .int r8), (5, .int r9), (0, .ref b), (1, .ref (ad 57)), (2, .ref (am 0)), (3, .ref o), (4, .int (nI iL))]) hx hb dL_law_1379 hl (by decide) rfl (fun ls hl => ?_)
  refine lv_goto (tgt := 2023) hx hb dL_law_1381 (by decide) ?_
  exact W.widen (k := 100 + 224 * (n + 1)) (n := 1200 + 10680 * (n + 1)) (by omega) (by omega) (kk9 S1 M1 _ _ _ (hI9.next hLQ hLM) hS (lv_sub hl [2, 3, 4, 5, 6] rfl))
set_option maxHeartbeats 4000000 in
set_option maxRecDepth 100000 in
theorem lc_25 {p : Program} {l : Launch} {e : Env} {s : State} {m : MethodId} {below : List Frame} {meth : Method} {c : Code} {b L : Nat} {xs : Nat → Int32} {dC : Nat → ClassId} {dI : Nat → Nat → Nat} {cB : ClassId} {ad am : Nat → Nat} {o n iL : Nat} {Q : State → Prop} (F : LF p l s m c b L xs dC dI cB ad am o) (hni : iL = 5 * n) (hiL : iL + 5 ≤ L) : LCase p l e s m below meth c b dC dI ad am o n iL Q 1384 := by
  intro S M H locs hI9 hS kk9 ls hl
  have hx := F.x
  have hb := F.b
  have hml := F.ml
  have hown := F.own
  have hts := F.ts
  have hL := F.hL
  have hn9 : n ≤ 511 := by omega
  refine lv_aload_n hx hb dL_law_1384 rfl (lv_at hl 1 rfl) ?_
  refine lv_aload_n hx hb dL_law_1385 rfl (lv_at hl 0 rfl) ?_
  refine lv_iload hx hb dL_law_1386 (lv_at hl 4 rfl) ?_
  refine lv_iconst (v := nI 1) hx hb dL_law_1388 (by decide) ?_
  refine kn_iadd hx hb dL_law_1389 ?_
  refine va_sld hx hb F.sc F.bl (fun z => Nat.not_le.mpr F.bl z) hS.st (vp_in_nI (show iL + 1 < L by omega) (by omega)) dL_law_1390 ?_
  generalize xs (nI (iL + 1)).toNatClampNeg = x1
  refine lv_aload_n hx hb dL_law_1391 rfl (lv_at hl 3 rfl) ?_
  refine ll_w (vx_runSW (As := [.ref (ad 57), .int x1, .ref o]) (rest := []) ⟨hx, hb, hml, hown, hts⟩ (m_L_wipe l F.st dC dI cB ad o S x1 hI9.x hI9.x5 (by have := hI9.xp; omega)) (vx_cwSW 3 hts gL_law_L_wipe rfl rfl rfl (by decide +kernel) ⟨Nat.le_of_ble_eq_true rfl, Nat.le_of_ble_eq_true rfl⟩) (hS.preW F.K) rfl rfl hl.1 rfl (lv_room (Nat.le_of_ble_eq_true rfl)) dL_law_1392 ⟨by show _ ≤ 1064969; omega, by show _ ≤ 5901198; omega⟩) F.K hS (fun r9 S1 H locs hLQ hS => ?_)
  refine lv_istore (lv' := [(5, .int r9), (0, .ref b), (1, .ref (ad 57)), (2, .ref (am 0)), (3, .ref o), (4, .int (nI iL))]) hx hb dL_law_1395 hl (by decide) rfl (fun ls hl => ?_)
  refine lv_aload_n hx hb dL_law_1397 rfl (lv_at hl 3 rfl) ?_
  refine lv_aload_n hx hb dL_law_1398 rfl (lv_at hl 1 rfl) ?_
  refine lv_iload hx hb dL_law_1399 (lv_at hl 5 rfl) ?_
  refine lv_iconst (v := nI 1) hx hb dL_law_1401 (by decide) ?_
  refine kn_iadd hx hb dL_law_1402 ?_
  refine va_sld hx hb F.sc F.bl (fun z => Nat.not_le.mpr F.bl z) hS.st (vp_in_nI (show iL + 1 < L by omega) (by omega)) dL_law_1403 ?_
  generalize xs (nI (iL + 1)).toNatClampNeg = x2
  have hI := hI9.m
  have hc : M.2.2.2.1 + 12 < 1000000 := by have := hI9.mp; omega
  rcases lim_lt 4 (by decide) x2 with ⟨j, hj, rfl⟩ | hb9
  rotate_left
  · skip
    refine ll_m (va_runV (As := [.int x2]) (rest := []) ⟨hx, hb, hml, hown, hts⟩ (o_X6_wipe_1 l dC dI am M x2 hb9 hI) (cwV 1 hts gL_law_X6_wipe rfl rfl rfl (by decide +kernel) ⟨Nat.le_of_ble_eq_true rfl, Nat.le_of_ble_eq_true rfl⟩) (hS.preM F.K) rfl rfl hl.1 rfl (lv_room (Nat.le_of_ble_eq_true rfl)) dL_law_1404 ⟨by show _ ≤ 1064969; omega, by show _ ≤ 5901198; omega⟩) F.K hS (fun r8 M1 H locs hw hS => ?_)
    have hLM : LM M M1 := by rw [hw]; exact LM_th hI _
    refine lv_istore (lv' := [(6, .int r8), (5, .int r9), (0, .ref b), (1, .ref (ad 57)), (2, .ref (am 0)), (3, .ref o), (4, .int (nI iL))]) hx hb dL_law_1407 hl (by decide) rfl (fun ls hl => ?_)
    refine lv_goto (tgt := 2023) hx hb dL_law_1409 (by decide) ?_
    exact W.widen (k := 100 + 224 * (n + 1)) (n := 1200 + 10680 * (n + 1)) (by omega) (by omega) (kk9 S1 M1 _ _ _ (hI9.next hLQ hLM) hS (lv_sub hl [2, 3, 4, 5, 6] rfl))
  replace hj : j < 4 := by omega
  refine ll_m (va_runV (As := [.int (nI j)]) (rest := []) ⟨hx, hb, hml, hown, hts⟩ (m_X6_wipe l dC dI am M j hj hI) (cwV 1 hts gL_law_X6_wipe rfl rfl rfl (by decide +kernel) ⟨Nat.le_of_ble_eq_true rfl, Nat.le_of_ble_eq_true rfl⟩) (hS.preM F.K) rfl rfl hl.1 rfl (lv_room (Nat.le_of_ble_eq_true rfl)) dL_law_1404 ⟨by show _ ≤ 1064969; omega, by show _ ≤ 5901198; omega⟩) F.K hS (fun r8 M1 H locs hw hS => ?_)
  have hLM : LM M M1 := by rw [hw.2]; exact LM_ord hI ⟨Nat.zero_le _, (hI.2 j hj).2⟩
  refine lv_istore (lv' := [(6, .int r8), (5, .int r9), (0, .ref b), (1, .ref (ad 57)), (2, .ref (am 0)), (3, .ref o), (4, .int (nI iL))]) hx hb dL_law_1407 hl (by decide) rfl (fun ls hl => ?_)
  refine lv_goto (tgt := 2023) hx hb dL_law_1409 (by decide) ?_
  exact W.widen (k := 100 + 224 * (n + 1)) (n := 1200 + 10680 * (n + 1)) (by omega) (by omega) (kk9 S1 M1 _ _ _ (hI9.next hLQ hLM) hS (lv_sub hl [2, 3, 4, 5, 6] rfl))
set_option maxHeartbeats 4000000 in
set_option maxRecDepth 100000 in
theorem lc_26 {p : Program} {l : Launch} {e : Env} {s : State} {m : MethodId} {below : List Frame} {meth : Method} {c : Code} {b L : Nat} {xs : Nat → Int32} {dC : Nat → ClassId} {dI : Nat → Nat → Nat} {cB : ClassId} {ad am : Nat → Nat} {o n iL : Nat} {Q : State → Prop} (F : LF p l s m c b L xs dC dI cB ad am o) (hni : iL = 5 * n) (hiL : iL + 5 ≤ L) : LCase p l e s m below meth c b dC dI ad am o n iL Q 1412 := by
  intro S M H locs hI9 hS kk9 ls hl
  have hx := F.x
  have hb := F.b
  have hml := F.ml
  have hown := F.own
  have hts := F.ts
  have hL := F.hL
  have hn9 : n ≤ 511 := by omega
  refine lv_aload_n hx hb dL_law_1412 rfl (lv_at hl 1 rfl) ?_
  refine lv_aload_n hx hb dL_law_1413 rfl (lv_at hl 0 rfl) ?_
  refine lv_iload hx hb dL_law_1414 (lv_at hl 4 rfl) ?_
  refine lv_iconst (v := nI 1) hx hb dL_law_1416 (by decide) ?_
  refine kn_iadd hx hb dL_law_1417 ?_
  refine va_sld hx hb F.sc F.bl (fun z => Nat.not_le.mpr F.bl z) hS.st (vp_in_nI (show iL + 1 < L by omega) (by omega)) dL_law_1418 ?_
  generalize xs (nI (iL + 1)).toNatClampNeg = x1
  refine lv_aload_n hx hb dL_law_1419 rfl (lv_at hl 0 rfl) ?_
  refine lv_iload hx hb dL_law_1420 (lv_at hl 4 rfl) ?_
  refine lv_iconst (v := nI 2) hx hb dL_law_1422 (by decide) ?_
  refine kn_iadd hx hb dL_law_1423 ?_
  refine va_sld hx hb F.sc F.bl (fun z => Nat.not_le.mpr F.bl z) hS.st (vp_in_nI (show iL + 2 < L by omega) (by omega)) dL_law_1424 ?_
  generalize xs (nI (iL + 2)).toNatClampNeg = x2
  refine lv_aload_n hx hb dL_law_1425 rfl (lv_at hl 3 rfl) ?_
  refine ll_w (vx_runSW (As := [.ref (ad 57), .int x1, .int x2, .ref o]) (rest := []) ⟨hx, hb, hml, hown, hts⟩ (m_L_copyOrder l F.st dC dI cB ad o S x1 x2 hI9.x hI9.x5 (by have := hI9.xp; omega)) (vx_cwSW 4 hts gL_law_L_copyOrder rfl rfl rfl (by decide +kernel) ⟨Nat.le_of_ble_eq_true rfl, Nat.le_of_ble_eq_true rfl⟩) (hS.preW F.K) rfl rfl hl.1 rfl (lv_room (Nat.le_of_ble_eq_true rfl)) dL_law_1426 ⟨by show _ ≤ 1064969; omega, by show _ ≤ 5901198; omega⟩) F.K hS (fun r9 S1 H locs hLQ hS => ?_)
  refine lv_istore (lv' := [(5, .int r9), (0, .ref b), (1, .ref (ad 57)), (2, .ref (am 0)), (3, .ref o), (4, .int (nI iL))]) hx hb dL_law_1429 hl (by decide) rfl (fun ls hl => ?_)
  refine lv_aload_n hx hb dL_law_1431 rfl (lv_at hl 3 rfl) ?_
  refine lv_aload_n hx hb dL_law_1432 rfl (lv_at hl 1 rfl) ?_
  refine lv_iload hx hb dL_law_1433 (lv_at hl 5 rfl) ?_
  refine lv_iconst (v := nI 1) hx hb dL_law_1435 (by decide) ?_
  refine kn_iadd hx hb dL_law_1436 ?_
  refine va_sld hx hb F.sc F.bl (fun z => Nat.not_le.mpr F.bl z) hS.st (vp_in_nI (show iL + 1 < L by omega) (by omega)) dL_law_1437 ?_
  generalize xs (nI (iL + 1)).toNatClampNeg = x3
  refine lv_aload_n hx hb dL_law_1438 rfl (lv_at hl 1 rfl) ?_
  refine lv_iload hx hb dL_law_1439 (lv_at hl 5 rfl) ?_
  refine lv_iconst (v := nI 2) hx hb dL_law_1441 (by decide) ?_
  refine kn_iadd hx hb dL_law_1442 ?_
  refine va_sld hx hb F.sc F.bl (fun z => Nat.not_le.mpr F.bl z) hS.st (vp_in_nI (show iL + 2 < L by omega) (by omega)) dL_law_1443 ?_
  generalize xs (nI (iL + 2)).toNatClampNeg = x4
  have hI := hI9.m
  have hc : M.2.2.2.1 + 12 < 1000000 := by have := hI9.mp; omega
  rcases lim_lt 4 (by decide) x3 with ⟨j, hj, rfl⟩ | hb9
  rotate_left
  · skip
    refine ll_m (va_runV (As := [.int x3, .int x4]) (rest := []) ⟨hx, hb, hml, hown, hts⟩ (o_X6_copyOrder_1 l dC dI am M x3 x4 hb9 hI) (cwV 2 hts gL_law_X6_copyOrder rfl rfl rfl (by decide +kernel) ⟨Nat.le_of_ble_eq_true rfl, Nat.le_of_ble_eq_true rfl⟩) (hS.preM F.K) rfl rfl hl.1 rfl (lv_room (Nat.le_of_ble_eq_true rfl)) dL_law_1444 ⟨by show _ ≤ 1064969; omega, by show _ ≤ 5901198; omega⟩) F.K hS (fun r8 M1 H locs hw hS => ?_)
    have hLM : LM M M1 := by rw [hw]; exact LM_th hI _
    refine lv_istore (lv' := [(6, .int r8), (5, .int r9), (0, .ref b), (1, .ref (ad 57)), (2, .ref (am 0)), (3, .ref o), (4, .int (nI iL))]) hx hb dL_law_1447 hl (by decide) rfl (fun ls hl => ?_)
    refine lv_goto (tgt := 2023) hx hb dL_law_1449 (by decide) ?_
    exact W.widen (k := 100 + 224 * (n + 1)) (n := 1200 + 10680 * (n + 1)) (by omega) (by omega) (kk9 S1 M1 _ _ _ (hI9.next hLQ hLM) hS (lv_sub hl [2, 3, 4, 5, 6] rfl))
  replace hj : j < 4 := by omega
  rcases lim_lt 4 (by decide) x4 with ⟨j2, hj2, rfl⟩ | hb9
  rotate_left
  · skip
    refine ll_m (va_runV (As := [.int (nI j), .int x4]) (rest := []) ⟨hx, hb, hml, hown, hts⟩ (o_X6_copyOrder_2 l dC dI am M j x4 hj hb9 hI) (cwV 2 hts gL_law_X6_copyOrder rfl rfl rfl (by decide +kernel) ⟨Nat.le_of_ble_eq_true rfl, Nat.le_of_ble_eq_true rfl⟩) (hS.preM F.K) rfl rfl hl.1 rfl (lv_room (Nat.le_of_ble_eq_true rfl)) dL_law_1444 ⟨by show _ ≤ 1064969; omega, by show _ ≤ 5901198; omega⟩) F.K hS (fun r8 M1 H locs hw hS => ?_)
    have hLM : LM M M1 := by rw [hw]; exact LM_th hI _
    refine lv_istore (lv' := [(6, .int r8), (5, .int r9), (0, .ref b), (1, .ref (ad 57)), (2, .ref (am 0)), (3, .ref o), (4, .int (nI iL))]) hx hb dL_law_1447 hl (by decide) rfl (fun ls hl => ?_)
    refine lv_goto (tgt := 2023) hx hb dL_law_1449 (by decide) ?_
    exact W.widen (k := 100 + 224 * (n + 1)) (n := 1200 + 10680 * (n + 1)) (by omega) (by omega) (kk9 S1 M1 _ _ _ (hI9.next hLQ hLM) hS (lv_sub hl [2, 3, 4, 5, 6] rfl))
  replace hj2 : j2 < 4 := by omega
  refine ll_m (va_runV (As := [.int (nI j), .int (nI j2)]) (rest := []) ⟨hx, hb, hml, hown, hts⟩ (m_X6_copyOrder l dC dI am M j j2 hj hj2 hI) (cwV 2 hts gL_law_X6_copyOrder rfl rfl rfl (by decide +kernel) ⟨Nat.le_of_ble_eq_true rfl, Nat.le_of_ble_eq_true rfl⟩) (hS.preM F.K) rfl rfl hl.1 rfl (lv_room (Nat.le_of_ble_eq_true rfl)) dL_law_1444 ⟨by show _ ≤ 1064969; omega, by show _ ≤ 5901198; omega⟩) F.K hS (fun r8 M1 H locs hw hS => ?_)
  have hLM : LM M M1 := by rw [hw.2]; exact LM_ord hI ⟨(hI.2 j hj).1, ovl_key (hI.2 j hj).2 (hI.2 j2 hj2).2⟩
  refine lv_istore (lv' := [(6, .int r8), (5, .int r9), (0, .ref b), (1, .ref (ad 57)), (2, .ref (am 0)), (3, .ref o), (4, .int (nI iL))]) hx hb dL_law_1447 hl (by decide) rfl (fun ls hl => ?_)
  refine lv_goto (tgt := 2023) hx hb dL_law_1449 (by decide) ?_
  exact W.widen (k := 100 + 224 * (n + 1)) (n := 1200 + 10680 * (n + 1)) (by omega) (by omega) (kk9 S1 M1 _ _ _ (hI9.next hLQ hLM) hS (lv_sub hl [2, 3, 4, 5, 6] rfl))
set_option maxHeartbeats 4000000 in
set_option maxRecDepth 100000 in
theorem lc_27 {p : Program} {l : Launch} {e : Env} {s : State} {m : MethodId} {below : List Frame} {meth : Method} {c : Code} {b L : Nat} {xs : Nat → Int32} {dC : Nat → ClassId} {dI : Nat → Nat → Nat} {cB : ClassId} {ad am : Nat → Nat} {o n iL : Nat} {Q : State → Prop} (F : LF p l s m c b L xs dC dI cB ad am o) (hni : iL = 5 * n) (hiL : iL + 5 ≤ L) : LCase p l e s m below meth c b dC dI ad am o n iL Q 1452 := by
  intro S M H locs hI9 hS kk9 ls hl
  have hx := F.x
  have hb := F.b
  have hml := F.ml
  have hown := F.own
  have hts := F.ts
  have hL := F.hL
  have hn9 : n ≤ 511 := by omega
  refine lv_aload_n hx hb dL_law_1452 rfl (lv_at hl 1 rfl) ?_
  refine lv_aload_n hx hb dL_law_1453 rfl (lv_at hl 0 rfl) ?_
  refine lv_iload hx hb dL_law_1454 (lv_at hl 4 rfl) ?_
  refine lv_iconst (v := nI 1) hx hb dL_law_1456 (by decide) ?_
  refine kn_iadd hx hb dL_law_1457 ?_
  refine va_sld hx hb F.sc F.bl (fun z => Nat.not_le.mpr F.bl z) hS.st (vp_in_nI (show iL + 1 < L by omega) (by omega)) dL_law_1458 ?_
  generalize xs (nI (iL + 1)).toNatClampNeg = x1
  refine lv_aload_n hx hb dL_law_1459 rfl (lv_at hl 3 rfl) ?_
  refine ll_w (vx_runSW (As := [.ref (ad 57), .int x1, .ref o]) (rest := []) ⟨hx, hb, hml, hown, hts⟩ (m_L_turn l F.st dC dI cB ad o S x1 hI9.x hI9.x5 (by have := hI9.xp; omega)) (vx_cwSW 3 hts gL_law_L_turn rfl rfl rfl (by decide +kernel) ⟨Nat.le_of_ble_eq_true rfl, Nat.le_of_ble_eq_true rfl⟩) (hS.preW F.K) rfl rfl hl.1 rfl (lv_room (Nat.le_of_ble_eq_true rfl)) dL_law_1460 ⟨by show _ ≤ 1064969; omega, by show _ ≤ 5901198; omega⟩) F.K hS (fun r9 S1 H locs hLQ hS => ?_)
  refine lv_istore (lv' := [(5, .int r9), (0, .ref b), (1, .ref (ad 57)), (2, .ref (am 0)), (3, .ref o), (4, .int (nI iL))]) hx hb dL_law_1463 hl (by decide) rfl (fun ls hl => ?_)
  refine lv_aload_n hx hb dL_law_1465 rfl (lv_at hl 3 rfl) ?_
  refine lv_aload_n hx hb dL_law_1466 rfl (lv_at hl 1 rfl) ?_
  refine lv_iload hx hb dL_law_1467 (lv_at hl 5 rfl) ?_
  refine lv_iconst (v := nI 1) hx hb dL_law_1469 (by decide) ?_
  refine kn_iadd hx hb dL_law_1470 ?_
  refine va_sld hx hb F.sc F.bl (fun z => Nat.not_le.mpr F.bl z) hS.st (vp_in_nI (show iL + 1 < L by omega) (by omega)) dL_law_1471 ?_
  generalize xs (nI (iL + 1)).toNatClampNeg = x2
  have hI := hI9.m
  have hc : M.2.2.2.1 + 12 < 1000000 := by have := hI9.mp; omega
  rcases lim_lt 4 (by decide) x2 with ⟨j, hj, rfl⟩ | hb9
  rotate_left
  · skip
    refine ll_m (va_runV (As := [.int x2]) (rest := []) ⟨hx, hb, hml, hown, hts⟩ (o_X6_turn_1 l dC dI am M x2 hb9 hI) (cwV 1 hts gL_law_X6_turn rfl rfl rfl (by decide +kernel) ⟨Nat.le_of_ble_eq_true rfl, Nat.le_of_ble_eq_true rfl⟩) (hS.preM F.K) rfl rfl hl.1 rfl (lv_room (Nat.le_of_ble_eq_true rfl)) dL_law_1472 ⟨by show _ ≤ 1064969; omega, by show _ ≤ 5901198; omega⟩) F.K hS (fun r8 M1 H locs hw hS => ?_)
    have hLM : LM M M1 := by rw [hw]; exact LM_th hI _
    refine lv_istore (lv' := [(6, .int r8), (5, .int r9), (0, .ref b), (1, .ref (ad 57)), (2, .ref (am 0)), (3, .ref o), (4, .int (nI iL))]) hx hb dL_law_1475 hl (by decide) rfl (fun ls hl => ?_)
    refine lv_goto (tgt := 2023) hx hb dL_law_1477 (by decide) ?_
    exact W.widen (k := 100 + 224 * (n + 1)) (n := 1200 + 10680 * (n + 1)) (by omega) (by omega) (kk9 S1 M1 _ _ _ (hI9.next hLQ hLM) hS (lv_sub hl [2, 3, 4, 5, 6] rfl))
  replace hj : j < 4 := by omega
  refine ll_m (va_runV (As := [.int (nI j)]) (rest := []) ⟨hx, hb, hml, hown, hts⟩ (m_X6_turn l dC dI am M j hj hI) (cwV 1 hts gL_law_X6_turn rfl rfl rfl (by decide +kernel) ⟨Nat.le_of_ble_eq_true rfl, Nat.le_of_ble_eq_true rfl⟩) (hS.preM F.K) rfl rfl hl.1 rfl (lv_room (Nat.le_of_ble_eq_true rfl)) dL_law_1472 ⟨by show _ ≤ 1064969; omega, by show _ ≤ 5901198; omega⟩) F.K hS (fun r8 M1 H locs hw hS => ?_)
  have hLM : LM M M1 := by rw [hw.2]; exact LM_ord hI ⟨(hI.2 j hj).1, (hI.2 j hj).2⟩
  refine lv_istore (lv' := [(6, .int r8), (5, .int r9), (0, .ref b), (1, .ref (ad 57)), (2, .ref (am 0)), (3, .ref o), (4, .int (nI iL))]) hx hb dL_law_1475 hl (by decide) rfl (fun ls hl => ?_)
  refine lv_goto (tgt := 2023) hx hb dL_law_1477 (by decide) ?_
  exact W.widen (k := 100 + 224 * (n + 1)) (n := 1200 + 10680 * (n + 1)) (by omega) (by omega) (kk9 S1 M1 _ _ _ (hI9.next hLQ hLM) hS (lv_sub hl [2, 3, 4, 5, 6] rfl))
set_option maxHeartbeats 4000000 in
set_option maxRecDepth 100000 in
theorem lc_28 {p : Program} {l : Launch} {e : Env} {s : State} {m : MethodId} {below : List Frame} {meth : Method} {c : Code} {b L : Nat} {xs : Nat → Int32} {dC : Nat → ClassId} {dI : Nat → Nat → Nat} {cB : ClassId} {ad am : Nat → Nat} {o n iL : Nat} {Q : State → Prop} (F : LF p l s m c b L xs dC dI cB ad am o) (hni : iL = 5 * n) (hiL : iL + 5 ≤ L) : LCase p l e s m below meth c b dC dI ad am o n iL Q 1480 := by
  intro S M H locs hI9 hS kk9 ls hl
  have hx := F.x
  have hb := F.b
  have hml := F.ml
  have hown := F.own
  have hts := F.ts
  have hL := F.hL
  have hn9 : n ≤ 511 := by omega
  refine lv_aload_n hx hb dL_law_1480 rfl (lv_at hl 1 rfl) ?_
  refine lv_aload_n hx hb dL_law_1481 rfl (lv_at hl 0 rfl) ?_
  refine lv_iload hx hb dL_law_1482 (lv_at hl 4 rfl) ?_
  refine lv_iconst (v := nI 1) hx hb dL_law_1484 (by decide) ?_
  refine kn_iadd hx hb dL_law_1485 ?_
  refine va_sld hx hb F.sc F.bl (fun z => Nat.not_le.mpr F.bl z) hS.st (vp_in_nI (show iL + 1 < L by omega) (by omega)) dL_law_1486 ?_
  generalize xs (nI (iL + 1)).toNatClampNeg = x1
  refine lv_aload_n hx hb dL_law_1487 rfl (lv_at hl 0 rfl) ?_
  refine lv_iload hx hb dL_law_1488 (lv_at hl 4 rfl) ?_
  refine lv_iconst (v := nI 2) hx hb dL_law_1490 (by decide) ?_
  refine kn_iadd hx hb dL_law_1491 ?_
  refine va_sld hx hb F.sc F.bl (fun z => Nat.not_le.mpr F.bl z) hS.st (vp_in_nI (show iL + 2 < L by omega) (by omega)) dL_law_1492 ?_
  generalize xs (nI (iL + 2)).toNatClampNeg = x2
  refine lv_aload_n hx hb dL_law_1493 rfl (lv_at hl 0 rfl) ?_
  refine lv_iload hx hb dL_law_1494 (lv_at hl 4 rfl) ?_
  refine lv_iconst (v := nI 3) hx hb dL_law_1496 (by decide) ?_
  refine kn_iadd hx hb dL_law_1497 ?_
  refine va_sld hx hb F.sc F.bl (fun z => Nat.not_le.mpr F.bl z) hS.st (vp_in_nI (show iL + 3 < L by omega) (by omega)) dL_law_1498 ?_
  generalize xs (nI (iL + 3)).toNatClampNeg = x3
  refine lv_aload_n hx hb dL_law_1499 rfl (lv_at hl 3 rfl) ?_
  refine ll_w (vx_runSW (As := [.ref (ad 57), .int x1, .int x2, .int x3, .ref o]) (rest := []) ⟨hx, hb, hml, hown, hts⟩ (m_L_product l F.st dC dI cB ad o S x1 x2 x3 hI9.x hI9.x5 (by have := hI9.xp; omega)) (vx_cwSW 5 hts gL_law_L_product rfl rfl rfl (by decide +kernel) ⟨Nat.le_of_ble_eq_true rfl, Nat.le_of_ble_eq_true rfl⟩) (hS.preW F.K) rfl rfl hl.1 rfl (lv_room (Nat.le_of_ble_eq_true rfl)) dL_law_1500 ⟨by show _ ≤ 1064969; omega, by show _ ≤ 5901198; omega⟩) F.K hS (fun r9 S1 H locs hLQ hS => ?_)
  refine lv_istore (lv' := [(5, .int r9), (0, .ref b), (1, .ref (ad 57)), (2, .ref (am 0)), (3, .ref o), (4, .int (nI iL))]) hx hb dL_law_1503 hl (by decide) rfl (fun ls hl => ?_)
  refine lv_aload_n hx hb dL_law_1505 rfl (lv_at hl 3 rfl) ?_
  refine lv_aload_n hx hb dL_law_1506 rfl (lv_at hl 1 rfl) ?_
  refine lv_iload hx hb dL_law_1507 (lv_at hl 5 rfl) ?_
  refine lv_iconst (v := nI 1) hx hb dL_law_1509 (by decide) ?_
  refine kn_iadd hx hb dL_law_1510 ?_
  refine va_sld hx hb F.sc F.bl (fun z => Nat.not_le.mpr F.bl z) hS.st (vp_in_nI (show iL + 1 < L by omega) (by omega)) dL_law_1511 ?_
  generalize xs (nI (iL + 1)).toNatClampNeg = x4
  refine lv_aload_n hx hb dL_law_1512 rfl (lv_at hl 1 rfl) ?_
  refine lv_iload hx hb dL_law_1513 (lv_at hl 5 rfl) ?_
  refine lv_iconst (v := nI 2) hx hb dL_law_1515 (by decide) ?_
  refine kn_iadd hx hb dL_law_1516 ?_
  refine va_sld hx hb F.sc F.bl (fun z => Nat.not_le.mpr F.bl z) hS.st (vp_in_nI (show iL + 2 < L by omega) (by omega)) dL_law_1517 ?_
  generalize xs (nI (iL + 2)).toNatClampNeg = x5
  refine lv_aload_n hx hb dL_law_1518 rfl (lv_at hl 1 rfl) ?_
  refine lv_iload hx hb dL_law_1519 (lv_at hl 5 rfl) ?_
  refine lv_iconst (v := nI 3) hx hb dL_law_1521 (by decide) ?_
  refine kn_iadd hx hb dL_law_1522 ?_
  refine va_sld hx hb F.sc F.bl (fun z => Nat.not_le.mpr F.bl z) hS.st (vp_in_nI (show iL + 3 < L by omega) (by omega)) dL_law_1523 ?_
  generalize xs (nI (iL + 3)).toNatClampNeg = x6
  have hI := hI9.m
  have hc : M.2.2.2.1 + 12 < 1000000 := by have := hI9.mp; omega
  rcases lim_lt 4 (by decide) x4 with ⟨j, hj, rfl⟩ | hb9
  rotate_left
  · skip
    refine ll_m (va_runV (As := [.int x4, .int x5, .int x6]) (rest := []) ⟨hx, hb, hml, hown, hts⟩ (o_X6_product_1 l dC dI am M x4 x5 x6 hb9 hI) (cwV 3 hts gL_law_X6_product rfl rfl rfl (by decide +kernel) ⟨Nat.le_of_ble_eq_true rfl, Nat.le_of_ble_eq_true rfl⟩) (hS.preM F.K) rfl rfl hl.1 rfl (lv_room (Nat.le_of_ble_eq_true rfl)) dL_law_1524 ⟨by show _ ≤ 1064969; omega, by show _ ≤ 5901198; omega⟩) F.K hS (fun r8 M1 H locs hw hS => ?_)
    have hLM : LM M M1 := by rw [hw]; exact LM_th hI _
    refine lv_istore (lv' := [(6, .int r8), (5, .int r9), (0, .ref b), (1, .ref (ad 57)), (2, .ref (am 0)), (3, .ref o), (4, .int (nI iL))]) hx hb dL_law_1527 hl (by decide) rfl (fun ls hl => ?_)
    refine lv_goto (tgt := 2023) hx hb dL_law_1529 (by decide) ?_
    exact W.widen (k := 100 + 224 * (n + 1)) (n := 1200 + 10680 * (n + 1)) (by omega) (by omega) (kk9 S1 M1 _ _ _ (hI9.next hLQ hLM) hS (lv_sub hl [2, 3, 4, 5, 6] rfl))
  replace hj : j < 4 := by omega
  rcases lim_lt 4 (by decide) x5 with ⟨j2, hj2, rfl⟩ | hb9
  rotate_left
  · skip
    refine ll_m (va_runV (As := [.int (nI j), .int x5, .int x6]) (rest := []) ⟨hx, hb, hml, hown, hts⟩ (o_X6_product_2 l dC dI am M j x5 x6 hj hb9 hI) (cwV 3 hts gL_law_X6_product rfl rfl rfl (by decide +kernel) ⟨Nat.le_of_ble_eq_true rfl, Nat.le_of_ble_eq_true rfl⟩) (hS.preM F.K) rfl rfl hl.1 rfl (lv_room (Nat.le_of_ble_eq_true rfl)) dL_law_1524 ⟨by show _ ≤ 1064969; omega, by show _ ≤ 5901198; omega⟩) F.K hS (fun r8 M1 H locs hw hS => ?_)
    have hLM : LM M M1 := by rw [hw]; exact LM_th hI _
    refine lv_istore (lv' := [(6, .int r8), (5, .int r9), (0, .ref b), (1, .ref (ad 57)), (2, .ref (am 0)), (3, .ref o), (4, .int (nI iL))]) hx hb dL_law_1527 hl (by decide) rfl (fun ls hl => ?_)
    refine lv_goto (tgt := 2023) hx hb dL_law_1529 (by decide) ?_
    exact W.widen (k := 100 + 224 * (n + 1)) (n := 1200 + 10680 * (n + 1)) (by omega) (by omega) (kk9 S1 M1 _ _ _ (hI9.next hLQ hLM) hS (lv_sub hl [2, 3, 4, 5, 6] rfl))
  replace hj2 : j2 < 4 := by omega
  rcases lim_lt 4 (by decide) x6 with ⟨j3, hj3, rfl⟩ | hb9
  rotate_left
  · skip
    refine ll_m (va_runV (As := [.int (nI j), .int (nI j2), .int x6]) (rest := []) ⟨hx, hb, hml, hown, hts⟩ (o_X6_product_3 l dC dI am M j j2 x6 hj hj2 hb9 hI) (cwV 3 hts gL_law_X6_product rfl rfl rfl (by decide +kernel) ⟨Nat.le_of_ble_eq_true rfl, Nat.le_of_ble_eq_true rfl⟩) (hS.preM F.K) rfl rfl hl.1 rfl (lv_room (Nat.le_of_ble_eq_true rfl)) dL_law_1524 ⟨by show _ ≤ 1064969; omega, by show _ ≤ 5901198; omega⟩) F.K hS (fun r8 M1 H locs hw hS => ?_)
    have hLM : LM M M1 := by rw [hw]; exact LM_th hI _
    refine lv_istore (lv' := [(6, .int r8), (5, .int r9), (0, .ref b), (1, .ref (ad 57)), (2, .ref (am 0)), (3, .ref o), (4, .int (nI iL))]) hx hb dL_law_1527 hl (by decide) rfl (fun ls hl => ?_)
    refine lv_goto (tgt := 2023) hx hb dL_law_1529 (by decide) ?_
    exact W.widen (k := 100 + 224 * (n + 1)) (n := 1200 + 10680 * (n + 1)) (by omega) (by omega) (kk9 S1 M1 _ _ _ (hI9.next hLQ hLM) hS (lv_sub hl [2, 3, 4, 5, 6] rfl))
  replace hj3 : j3 < 4 := by omega
  refine ll_m (va_runV (As := [.int (nI j), .int (nI j2), .int (nI j3)]) (rest := []) ⟨hx, hb, hml, hown, hts⟩ (m_X6_product l dC dI am M j j2 j3 hj hj2 hj3 hI) (cwV 3 hts gL_law_X6_product rfl rfl rfl (by decide +kernel) ⟨Nat.le_of_ble_eq_true rfl, Nat.le_of_ble_eq_true rfl⟩) (hS.preM F.K) rfl rfl hl.1 rfl (lv_room (Nat.le_of_ble_eq_true rfl)) dL_law_1524 ⟨by show _ ≤ 1064969; omega, by show _ ≤ 5901198; omega⟩) F.K hS (fun r8 M1 H locs hw hS => ?_)
  have hLM : LM M M1 := hw.elim (fun h => by rw [h.2.2]; exact LM_ord hI (ordM_prod (hI.2 j hj) (hI.2 j2 hj2) (hI.2 j3 hj3) h.1)) (fun h => by rw [h.2.2]; exact LM_ref hI)
  refine lv_istore (lv' := [(6, .int r8), (5, .int r9), (0, .ref b), (1, .ref (ad 57)), (2, .ref (am 0)), (3, .ref o), (4, .int (nI iL))]) hx hb dL_law_1527 hl (by decide) rfl (fun ls hl => ?_)
  refine lv_goto (tgt := 2023) hx hb dL_law_1529 (by decide) ?_
  exact W.widen (k := 100 + 224 * (n + 1)) (n := 1200 + 10680 * (n + 1)) (by omega) (by omega) (kk9 S1 M1 _ _ _ (hI9.next hLQ hLM) hS (lv_sub hl [2, 3, 4, 5, 6] rfl))
set_option maxHeartbeats 4000000 in
set_option maxRecDepth 100000 in
theorem lc_29 {p : Program} {l : Launch} {e : Env} {s : State} {m : MethodId} {below : List Frame} {meth : Method} {c : Code} {b L : Nat} {xs : Nat → Int32} {dC : Nat → ClassId} {dI : Nat → Nat → Nat} {cB : ClassId} {ad am : Nat → Nat} {o n iL : Nat} {Q : State → Prop} (F : LF p l s m c b L xs dC dI cB ad am o) (hni : iL = 5 * n) (hiL : iL + 5 ≤ L) : LCase p l e s m below meth c b dC dI ad am o n iL Q 1532 := by
  intro S M H locs hI9 hS kk9 ls hl
  have hx := F.x
  have hb := F.b
  have hml := F.ml
  have hown := F.own
  have hts := F.ts
  have hL := F.hL
  have hn9 : n ≤ 511 := by omega
  refine lv_aload_n hx hb dL_law_1532 rfl (lv_at hl 1 rfl) ?_
  refine lv_aload_n hx hb dL_law_1533 rfl (lv_at hl 0 rfl) ?_
  refine lv_iload hx hb dL_law_1534 (lv_at hl 4 rfl) ?_
  refine lv_iconst (v := nI 1) hx hb dL_law_1536 (by decide) ?_
  refine kn_iadd hx hb dL_law_1537 ?_
  refine va_sld hx hb F.sc F.bl (fun z => Nat.not_le.mpr F.bl z) hS.st (vp_in_nI (show iL + 1 < L by omega) (by omega)) dL_law_1538 ?_
  generalize xs (nI (iL + 1)).toNatClampNeg = x1
  refine lv_aload_n hx hb dL_law_1539 rfl (lv_at hl 0 rfl) ?_
  refine lv_iload hx hb dL_law_1540 (lv_at hl 4 rfl) ?_
  refine lv_iconst (v := nI 2) hx hb dL_law_1542 (by decide) ?_
  refine kn_iadd hx hb dL_law_1543 ?_
  refine va_sld hx hb F.sc F.bl (fun z => Nat.not_le.mpr F.bl z) hS.st (vp_in_nI (show iL + 2 < L by omega) (by omega)) dL_law_1544 ?_
  generalize xs (nI (iL + 2)).toNatClampNeg = x2
  refine lv_aload_n hx hb dL_law_1545 rfl (lv_at hl 0 rfl) ?_
  refine lv_iload hx hb dL_law_1546 (lv_at hl 4 rfl) ?_
  refine lv_iconst (v := nI 3) hx hb dL_law_1548 (by decide) ?_
  refine kn_iadd hx hb dL_law_1549 ?_
  refine va_sld hx hb F.sc F.bl (fun z => Nat.not_le.mpr F.bl z) hS.st (vp_in_nI (show iL + 3 < L by omega) (by omega)) dL_law_1550 ?_
  generalize xs (nI (iL + 3)).toNatClampNeg = x3
  refine lv_aload_n hx hb dL_law_1551 rfl (lv_at hl 3 rfl) ?_
  refine ll_w (vx_runSW (As := [.ref (ad 57), .int x1, .int x2, .int x3, .ref o]) (rest := []) ⟨hx, hb, hml, hown, hts⟩ (m_L_tellApart l F.st dC dI cB ad o S x1 x2 x3 hI9.x hI9.x5 (by have := hI9.xp; omega)) (vx_cwSW 5 hts gL_law_L_tellApart rfl rfl rfl (by decide +kernel) ⟨Nat.le_of_ble_eq_true rfl, Nat.le_of_ble_eq_true rfl⟩) (hS.preW F.K) rfl rfl hl.1 rfl (lv_room (Nat.le_of_ble_eq_true rfl)) dL_law_1552 ⟨by show _ ≤ 1064969; omega, by show _ ≤ 5901198; omega⟩) F.K hS (fun r9 S1 H locs hLQ hS => ?_)
  refine lv_istore (lv' := [(5, .int r9), (0, .ref b), (1, .ref (ad 57)), (2, .ref (am 0)), (3, .ref o), (4, .int (nI iL))]) hx hb dL_law_1555 hl (by decide) rfl (fun ls hl => ?_)
  refine lv_aload_n hx hb dL_law_1557 rfl (lv_at hl 3 rfl) ?_
  refine lv_aload_n hx hb dL_law_1558 rfl (lv_at hl 1 rfl) ?_
  refine lv_iload hx hb dL_law_1559 (lv_at hl 5 rfl) ?_
  refine lv_iconst (v := nI 1) hx hb dL_law_1561 (by decide) ?_
  refine kn_iadd hx hb dL_law_1562 ?_
  refine va_sld hx hb F.sc F.bl (fun z => Nat.not_le.mpr F.bl z) hS.st (vp_in_nI (show iL + 1 < L by omega) (by omega)) dL_law_1563 ?_
  generalize xs (nI (iL + 1)).toNatClampNeg = x4
  refine lv_aload_n hx hb dL_law_1564 rfl (lv_at hl 1 rfl) ?_
  refine lv_iload hx hb dL_law_1565 (lv_at hl 5 rfl) ?_
  refine lv_iconst (v := nI 2) hx hb dL_law_1567 (by decide) ?_
  refine kn_iadd hx hb dL_law_1568 ?_
  refine va_sld hx hb F.sc F.bl (fun z => Nat.not_le.mpr F.bl z) hS.st (vp_in_nI (show iL + 2 < L by omega) (by omega)) dL_law_1569 ?_
  generalize xs (nI (iL + 2)).toNatClampNeg = x5
  refine lv_aload_n hx hb dL_law_1570 rfl (lv_at hl 1 rfl) ?_
  refine lv_iload hx hb dL_law_1571 (lv_at hl 5 rfl) ?_
  refine lv_iconst (v := nI 3) hx hb dL_law_1573 (by decide) ?_
  refine kn_iadd hx hb dL_law_1574 ?_
  refine va_sld hx hb F.sc F.bl (fun z => Nat.not_le.mpr F.bl z) hS.st (vp_in_nI (show iL + 3 < L by omega) (by omega)) dL_law_1575 ?_
  generalize xs (nI (iL + 3)).toNatClampNeg = x6
  have hI := hI9.m
  have hc : M.2.2.2.1 + 12 < 1000000 := by have := hI9.mp; omega
  rcases lim_lt 4 (by decide) x4 with ⟨j, hj, rfl⟩ | hb9
  rotate_left
  · skip
    refine ll_m (va_runV (As := [.int x4, .int x5, .int x6]) (rest := []) ⟨hx, hb, hml, hown, hts⟩ (o_X6_tellApart_1 l dC dI am M x4 x5 x6 hb9 hI) (cwV 3 hts gL_law_X6_tellApart rfl rfl rfl (by decide +kernel) ⟨Nat.le_of_ble_eq_true rfl, Nat.le_of_ble_eq_true rfl⟩) (hS.preM F.K) rfl rfl hl.1 rfl (lv_room (Nat.le_of_ble_eq_true rfl)) dL_law_1576 ⟨by show _ ≤ 1064969; omega, by show _ ≤ 5901198; omega⟩) F.K hS (fun r8 M1 H locs hw hS => ?_)
    have hLM : LM M M1 := by rw [hw]; exact LM_th hI _
    refine lv_istore (lv' := [(6, .int r8), (5, .int r9), (0, .ref b), (1, .ref (ad 57)), (2, .ref (am 0)), (3, .ref o), (4, .int (nI iL))]) hx hb dL_law_1579 hl (by decide) rfl (fun ls hl => ?_)
    refine lv_goto (tgt := 2023) hx hb dL_law_1581 (by decide) ?_
    exact W.widen (k := 100 + 224 * (n + 1)) (n := 1200 + 10680 * (n + 1)) (by omega) (by omega) (kk9 S1 M1 _ _ _ (hI9.next hLQ hLM) hS (lv_sub hl [2, 3, 4, 5, 6] rfl))
  replace hj : j < 4 := by omega
  rcases lim_le 15 (by decide) x5 with ⟨v, hv, rfl⟩ | hb9
  rotate_left
  · skip
    refine ll_m (va_runV (As := [.int (nI j), .int x5, .int x6]) (rest := []) ⟨hx, hb, hml, hown, hts⟩ (o_X6_tellApart_2 l dC dI am M j x5 x6 hj hb9 hI) (cwV 3 hts gL_law_X6_tellApart rfl rfl rfl (by decide +kernel) ⟨Nat.le_of_ble_eq_true rfl, Nat.le_of_ble_eq_true rfl⟩) (hS.preM F.K) rfl rfl hl.1 rfl (lv_room (Nat.le_of_ble_eq_true rfl)) dL_law_1576 ⟨by show _ ≤ 1064969; omega, by show _ ≤ 5901198; omega⟩) F.K hS (fun r8 M1 H locs hw hS => ?_)
    have hLM : LM M M1 := by rw [hw]; exact LM_th hI _
    refine lv_istore (lv' := [(6, .int r8), (5, .int r9), (0, .ref b), (1, .ref (ad 57)), (2, .ref (am 0)), (3, .ref o), (4, .int (nI iL))]) hx hb dL_law_1579 hl (by decide) rfl (fun ls hl => ?_)
    refine lv_goto (tgt := 2023) hx hb dL_law_1581 (by decide) ?_
    exact W.widen (k := 100 + 224 * (n + 1)) (n := 1200 + 10680 * (n + 1)) (by omega) (by omega) (kk9 S1 M1 _ _ _ (hI9.next hLQ hLM) hS (lv_sub hl [2, 3, 4, 5, 6] rfl))
  replace hv : v < 16 := by omega
  rcases lim_le 15 (by decide) x6 with ⟨v2, hv2, rfl⟩ | hb9
  rotate_left
  · skip
    refine ll_m (va_runV (As := [.int (nI j), .int (nI v), .int x6]) (rest := []) ⟨hx, hb, hml, hown, hts⟩ (o_X6_tellApart_3 l dC dI am M j v x6 hj hv hb9 hI) (cwV 3 hts gL_law_X6_tellApart rfl rfl rfl (by decide +kernel) ⟨Nat.le_of_ble_eq_true rfl, Nat.le_of_ble_eq_true rfl⟩) (hS.preM F.K) rfl rfl hl.1 rfl (lv_room (Nat.le_of_ble_eq_true rfl)) dL_law_1576 ⟨by show _ ≤ 1064969; omega, by show _ ≤ 5901198; omega⟩) F.K hS (fun r8 M1 H locs hw hS => ?_)
    have hLM : LM M M1 := by rw [hw]; exact LM_th hI _
    refine lv_istore (lv' := [(6, .int r8), (5, .int r9), (0, .ref b), (1, .ref (ad 57)), (2, .ref (am 0)), (3, .ref o), (4, .int (nI iL))]) hx hb dL_law_1579 hl (by decide) rfl (fun ls hl => ?_)
    refine lv_goto (tgt := 2023) hx hb dL_law_1581 (by decide) ?_
    exact W.widen (k := 100 + 224 * (n + 1)) (n := 1200 + 10680 * (n + 1)) (by omega) (by omega) (kk9 S1 M1 _ _ _ (hI9.next hLQ hLM) hS (lv_sub hl [2, 3, 4, 5, 6] rfl))
  replace hv2 : v2 < 16 := by omega
  refine ll_m (va_runV (As := [.int (nI j), .int (nI v), .int (nI v2)]) (rest := []) ⟨hx, hb, hml, hown, hts⟩ (n_X6_tellApart l dC dI am M j v v2 hj hv hv2 hI) (cwV 3 hts gL_law_X6_tellApart rfl rfl rfl (by decide +kernel) ⟨Nat.le_of_ble_eq_true rfl, Nat.le_of_ble_eq_true rfl⟩) (hS.preM F.K) rfl rfl hl.1 rfl (lv_room (Nat.le_of_ble_eq_true rfl)) dL_law_1576 ⟨by show _ ≤ 1064969; omega, by show _ ≤ 5901198; omega⟩) F.K hS (fun r8 M1 H locs hw hS => ?_)
  have hLM : LM M M1 := LM_tell hI hj hw
  refine lv_istore (lv' := [(6, .int r8), (5, .int r9), (0, .ref b), (1, .ref (ad 57)), (2, .ref (am 0)), (3, .ref o), (4, .int (nI iL))]) hx hb dL_law_1579 hl (by decide) rfl (fun ls hl => ?_)
  refine lv_goto (tgt := 2023) hx hb dL_law_1581 (by decide) ?_
  exact W.widen (k := 100 + 224 * (n + 1)) (n := 1200 + 10680 * (n + 1)) (by omega) (by omega) (kk9 S1 M1 _ _ _ (hI9.next hLQ hLM) hS (lv_sub hl [2, 3, 4, 5, 6] rfl))
set_option maxHeartbeats 4000000 in
set_option maxRecDepth 100000 in
theorem lc_30 {p : Program} {l : Launch} {e : Env} {s : State} {m : MethodId} {below : List Frame} {meth : Method} {c : Code} {b L : Nat} {xs : Nat → Int32} {dC : Nat → ClassId} {dI : Nat → Nat → Nat} {cB : ClassId} {ad am : Nat → Nat} {o n iL : Nat} {Q : State → Prop} (F : LF p l s m c b L xs dC dI cB ad am o) (hni : iL = 5 * n) (hiL : iL + 5 ≤ L) : LCase p l e s m below meth c b dC dI ad am o n iL Q 1584 := by
  intro S M H locs hI9 hS kk9 ls hl
  have hx := F.x
  have hb := F.b
  have hml := F.ml
  have hown := F.own
  have hts := F.ts
  have hL := F.hL
  have hn9 : n ≤ 511 := by omega
  refine lv_aload_n hx hb dL_law_1584 rfl (lv_at hl 1 rfl) ?_
  refine lv_aload_n hx hb dL_law_1585 rfl (lv_at hl 0 rfl) ?_
  refine lv_iload hx hb dL_law_1586 (lv_at hl 4 rfl) ?_
  refine lv_iconst (v := nI 1) hx hb dL_law_1588 (by decide) ?_
  refine kn_iadd hx hb dL_law_1589 ?_
  refine va_sld hx hb F.sc F.bl (fun z => Nat.not_le.mpr F.bl z) hS.st (vp_in_nI (show iL + 1 < L by omega) (by omega)) dL_law_1590 ?_
  generalize xs (nI (iL + 1)).toNatClampNeg = x1
  refine lv_aload_n hx hb dL_law_1591 rfl (lv_at hl 3 rfl) ?_
  refine ll_w (vx_runSW (As := [.ref (ad 57), .int x1, .ref o]) (rest := []) ⟨hx, hb, hml, hown, hts⟩ (m_L_orderText l F.st dC dI cB ad o S x1 hI9.x hI9.x5 (by have := hI9.xp; omega)) (vx_cwSW 3 hts gL_law_L_orderText rfl rfl rfl (by decide +kernel) ⟨Nat.le_of_ble_eq_true rfl, Nat.le_of_ble_eq_true rfl⟩) (hS.preW F.K) rfl rfl hl.1 rfl (lv_room (Nat.le_of_ble_eq_true rfl)) dL_law_1592 ⟨by show _ ≤ 1064969; omega, by show _ ≤ 5901198; omega⟩) F.K hS (fun r9 S1 H locs hLQ hS => ?_)
  refine lv_istore (lv' := [(5, .int r9), (0, .ref b), (1, .ref (ad 57)), (2, .ref (am 0)), (3, .ref o), (4, .int (nI iL))]) hx hb dL_law_1595 hl (by decide) rfl (fun ls hl => ?_)
  refine lv_aload_n hx hb dL_law_1597 rfl (lv_at hl 3 rfl) ?_
  refine lv_aload_n hx hb dL_law_1598 rfl (lv_at hl 1 rfl) ?_
  refine lv_iload hx hb dL_law_1599 (lv_at hl 5 rfl) ?_
  refine lv_iconst (v := nI 1) hx hb dL_law_1601 (by decide) ?_
  refine kn_iadd hx hb dL_law_1602 ?_
  refine va_sld hx hb F.sc F.bl (fun z => Nat.not_le.mpr F.bl z) hS.st (vp_in_nI (show iL + 1 < L by omega) (by omega)) dL_law_1603 ?_
  generalize xs (nI (iL + 1)).toNatClampNeg = x2
  have hI := hI9.m
  have hc : M.2.2.2.1 + 12 < 1000000 := by have := hI9.mp; omega
  rcases lim_lt 4 (by decide) x2 with ⟨j, hj, rfl⟩ | hb9
  rotate_left
  · skip
    refine ll_mr (va_runV (As := [.int x2]) (rest := []) ⟨hx, hb, hml, hown, hts⟩ (o_X6_orderText_1 l dC dI cB am M x2 hb9) (cwV 1 hts gL_law_X6_orderText rfl rfl rfl (by decide +kernel) ⟨Nat.le_of_ble_eq_true rfl, Nat.le_of_ble_eq_true rfl⟩) (hS.preMT F.K) rfl rfl hl.1 rfl (lv_room (Nat.le_of_ble_eq_true rfl)) dL_law_1604 ⟨by show _ ≤ 1064969; omega, by show _ ≤ 5901198; omega⟩) F.K hS (fun M1 q9 H locs hw hS => ?_)
    have hLM : LM M M1 := by rw [hw]; exact LM_th hI _
    refine lv_astore (lv' := [(6, .ref q9), (5, .int r9), (0, .ref b), (1, .ref (ad 57)), (2, .ref (am 0)), (3, .ref o), (4, .int (nI iL))]) hx hb dL_law_1607 hl (by decide) rfl (fun ls hl => ?_)
    refine lv_goto (tgt := 2023) hx hb dL_law_1609 (by decide) ?_
    exact W.widen (k := 100 + 224 * (n + 1)) (n := 1200 + 10680 * (n + 1)) (by omega) (by omega) (kk9 S1 M1 _ _ _ (hI9.next hLQ hLM) hS (lv_sub hl [2, 3, 4, 5, 6] rfl))
  replace hj : j < 4 := by omega
  refine ll_mr (va_runV (As := [.int (nI j)]) (rest := []) ⟨hx, hb, hml, hown, hts⟩ (m_X6_orderText l dC dI cB am M j hj hI) (cwV 1 hts gL_law_X6_orderText rfl rfl rfl (by decide +kernel) ⟨Nat.le_of_ble_eq_true rfl, Nat.le_of_ble_eq_true rfl⟩) (hS.preMT F.K) rfl rfl hl.1 rfl (lv_room (Nat.le_of_ble_eq_true rfl)) dL_law_1604 ⟨by show _ ≤ 1064969; omega, by show _ ≤ 5901198; omega⟩) F.K hS (fun M1 q9 H locs hw hS => ?_)
  have hLM : LM M M1 := by rw [hw]; exact LM_th hI 0
  refine lv_astore (lv' := [(6, .ref q9), (5, .int r9), (0, .ref b), (1, .ref (ad 57)), (2, .ref (am 0)), (3, .ref o), (4, .int (nI iL))]) hx hb dL_law_1607 hl (by decide) rfl (fun ls hl => ?_)
  refine lv_goto (tgt := 2023) hx hb dL_law_1609 (by decide) ?_
  exact W.widen (k := 100 + 224 * (n + 1)) (n := 1200 + 10680 * (n + 1)) (by omega) (by omega) (kk9 S1 M1 _ _ _ (hI9.next hLQ hLM) hS (lv_sub hl [2, 3, 4, 5, 6] rfl))
set_option maxHeartbeats 4000000 in
set_option maxRecDepth 100000 in
theorem lc_31 {p : Program} {l : Launch} {e : Env} {s : State} {m : MethodId} {below : List Frame} {meth : Method} {c : Code} {b L : Nat} {xs : Nat → Int32} {dC : Nat → ClassId} {dI : Nat → Nat → Nat} {cB : ClassId} {ad am : Nat → Nat} {o n iL : Nat} {Q : State → Prop} (F : LF p l s m c b L xs dC dI cB ad am o) (hni : iL = 5 * n) (hiL : iL + 5 ≤ L) : LCase p l e s m below meth c b dC dI ad am o n iL Q 1612 := by
  intro S M H locs hI9 hS kk9 ls hl
  have hx := F.x
  have hb := F.b
  have hml := F.ml
  have hown := F.own
  have hts := F.ts
  have hL := F.hL
  have hn9 : n ≤ 511 := by omega
  refine lv_aload_n hx hb dL_law_1612 rfl (lv_at hl 1 rfl) ?_
  refine lv_aload_n hx hb dL_law_1613 rfl (lv_at hl 0 rfl) ?_
  refine lv_iload hx hb dL_law_1614 (lv_at hl 4 rfl) ?_
  refine lv_iconst (v := nI 1) hx hb dL_law_1616 (by decide) ?_
  refine kn_iadd hx hb dL_law_1617 ?_
  refine va_sld hx hb F.sc F.bl (fun z => Nat.not_le.mpr F.bl z) hS.st (vp_in_nI (show iL + 1 < L by omega) (by omega)) dL_law_1618 ?_
  generalize xs (nI (iL + 1)).toNatClampNeg = x1
  refine lv_aload_n hx hb dL_law_1619 rfl (lv_at hl 0 rfl) ?_
  refine lv_iload hx hb dL_law_1620 (lv_at hl 4 rfl) ?_
  refine lv_iconst (v := nI 2) hx hb dL_law_1622 (by decide) ?_
  refine kn_iadd hx hb dL_law_1623 ?_
  refine va_sld hx hb F.sc F.bl (fun z => Nat.not_le.mpr F.bl z) hS.st (vp_in_nI (show iL + 2 < L by omega) (by omega)) dL_law_1624 ?_
  generalize xs (nI (iL + 2)).toNatClampNeg = x2
  refine lv_aload_n hx hb dL_law_1625 rfl (lv_at hl 0 rfl) ?_
  refine lv_iload hx hb dL_law_1626 (lv_at hl 4 rfl) ?_
  refine lv_iconst (v := nI 3) hx hb dL_law_1628 (by decide) ?_
  refine kn_iadd hx hb dL_law_1629 ?_
  refine va_sld hx hb F.sc F.bl (fun z => Nat.not_le.mpr F.bl z) hS.st (vp_in_nI (show iL + 3 < L by omega) (by omega)) dL_law_1630 ?_
  generalize xs (nI (iL + 3)).toNatClampNeg = x3
  refine lv_aload_n hx hb dL_law_1631 rfl (lv_at hl 3 rfl) ?_
  refine ll_w (vx_runSW (As := [.ref (ad 57), .int x1, .int x2, .int x3, .ref o]) (rest := []) ⟨hx, hb, hml, hown, hts⟩ (m_L_compare l F.st dC dI cB ad o S x1 x2 x3 hI9.x hI9.x5 (by have := hI9.xp; omega)) (vx_cwSW 5 hts gL_law_L_compare rfl rfl rfl (by decide +kernel) ⟨Nat.le_of_ble_eq_true rfl, Nat.le_of_ble_eq_true rfl⟩) (hS.preW F.K) rfl rfl hl.1 rfl (lv_room (Nat.le_of_ble_eq_true rfl)) dL_law_1632 ⟨by show _ ≤ 1064969; omega, by show _ ≤ 5901198; omega⟩) F.K hS (fun r9 S1 H locs hLQ hS => ?_)
  refine lv_istore (lv' := [(5, .int r9), (0, .ref b), (1, .ref (ad 57)), (2, .ref (am 0)), (3, .ref o), (4, .int (nI iL))]) hx hb dL_law_1635 hl (by decide) rfl (fun ls hl => ?_)
  refine lv_aload_n hx hb dL_law_1637 rfl (lv_at hl 3 rfl) ?_
  refine lv_aload_n hx hb dL_law_1638 rfl (lv_at hl 1 rfl) ?_
  refine lv_iload hx hb dL_law_1639 (lv_at hl 5 rfl) ?_
  refine lv_iconst (v := nI 1) hx hb dL_law_1641 (by decide) ?_
  refine kn_iadd hx hb dL_law_1642 ?_
  refine va_sld hx hb F.sc F.bl (fun z => Nat.not_le.mpr F.bl z) hS.st (vp_in_nI (show iL + 1 < L by omega) (by omega)) dL_law_1643 ?_
  generalize xs (nI (iL + 1)).toNatClampNeg = x4
  refine lv_aload_n hx hb dL_law_1644 rfl (lv_at hl 1 rfl) ?_
  refine lv_iload hx hb dL_law_1645 (lv_at hl 5 rfl) ?_
  refine lv_iconst (v := nI 2) hx hb dL_law_1647 (by decide) ?_
  refine kn_iadd hx hb dL_law_1648 ?_
  refine va_sld hx hb F.sc F.bl (fun z => Nat.not_le.mpr F.bl z) hS.st (vp_in_nI (show iL + 2 < L by omega) (by omega)) dL_law_1649 ?_
  generalize xs (nI (iL + 2)).toNatClampNeg = x5
  refine lv_aload_n hx hb dL_law_1650 rfl (lv_at hl 1 rfl) ?_
  refine lv_iload hx hb dL_law_1651 (lv_at hl 5 rfl) ?_
  refine lv_iconst (v := nI 3) hx hb dL_law_1653 (by decide) ?_
  refine kn_iadd hx hb dL_law_1654 ?_
  refine va_sld hx hb F.sc F.bl (fun z => Nat.not_le.mpr F.bl z) hS.st (vp_in_nI (show iL + 3 < L by omega) (by omega)) dL_law_1655 ?_
  generalize xs (nI (iL + 3)).toNatClampNeg = x6
  have hI := hI9.m
  have hc : M.2.2.2.1 + 12 < 1000000 := by have := hI9.mp; omega
  rcases lim_lt 4 (by decide) x4 with ⟨j, hj, rfl⟩ | hb9
  rotate_left
  · skip
    refine ll_m (va_runV (As := [.int x4, .int x5, .int x6]) (rest := []) ⟨hx, hb, hml, hown, hts⟩ (o_X6_compare_1 l dC dI am M x4 x5 x6 hb9 hI) (cwV 3 hts gL_law_X6_compare rfl rfl rfl (by decide +kernel) ⟨Nat.le_of_ble_eq_true rfl, Nat.le_of_ble_eq_true rfl⟩) (hS.preM F.K) rfl rfl hl.1 rfl (lv_room (Nat.le_of_ble_eq_true rfl)) dL_law_1656 ⟨by show _ ≤ 1064969; omega, by show _ ≤ 5901198; omega⟩) F.K hS (fun r8 M1 H locs hw hS => ?_)
    have hLM : LM M M1 := by rw [hw]; exact LM_th hI _
    refine lv_istore (lv' := [(6, .int r8), (5, .int r9), (0, .ref b), (1, .ref (ad 57)), (2, .ref (am 0)), (3, .ref o), (4, .int (nI iL))]) hx hb dL_law_1659 hl (by decide) rfl (fun ls hl => ?_)
    refine lv_goto (tgt := 2023) hx hb dL_law_1661 (by decide) ?_
    exact W.widen (k := 100 + 224 * (n + 1)) (n := 1200 + 10680 * (n + 1)) (by omega) (by omega) (kk9 S1 M1 _ _ _ (hI9.next hLQ hLM) hS (lv_sub hl [2, 3, 4, 5, 6] rfl))
  replace hj : j < 4 := by omega
  rcases lim_le 15 (by decide) x5 with ⟨v, hv, rfl⟩ | hb9
  rotate_left
  · skip
    refine ll_m (va_runV (As := [.int (nI j), .int x5, .int x6]) (rest := []) ⟨hx, hb, hml, hown, hts⟩ (o_X6_compare_2 l dC dI am M j x5 x6 hj hb9 hI) (cwV 3 hts gL_law_X6_compare rfl rfl rfl (by decide +kernel) ⟨Nat.le_of_ble_eq_true rfl, Nat.le_of_ble_eq_true rfl⟩) (hS.preM F.K) rfl rfl hl.1 rfl (lv_room (Nat.le_of_ble_eq_true rfl)) dL_law_1656 ⟨by show _ ≤ 1064969; omega, by show _ ≤ 5901198; omega⟩) F.K hS (fun r8 M1 H locs hw hS => ?_)
    have hLM : LM M M1 := by rw [hw]; exact LM_th hI _
    refine lv_istore (lv' := [(6, .int r8), (5, .int r9), (0, .ref b), (1, .ref (ad 57)), (2, .ref (am 0)), (3, .ref o), (4, .int (nI iL))]) hx hb dL_law_1659 hl (by decide) rfl (fun ls hl => ?_)
    refine lv_goto (tgt := 2023) hx hb dL_law_1661 (by decide) ?_
    exact W.widen (k := 100 + 224 * (n + 1)) (n := 1200 + 10680 * (n + 1)) (by omega) (by omega) (kk9 S1 M1 _ _ _ (hI9.next hLQ hLM) hS (lv_sub hl [2, 3, 4, 5, 6] rfl))
  replace hv : v < 16 := by omega
  rcases lim_le 15 (by decide) x6 with ⟨v2, hv2, rfl⟩ | hb9
  rotate_left
  · skip
    refine ll_m (va_runV (As := [.int (nI j), .int (nI v), .int x6]) (rest := []) ⟨hx, hb, hml, hown, hts⟩ (o_X6_compare_3 l dC dI am M j v x6 hj hv hb9 hI) (cwV 3 hts gL_law_X6_compare rfl rfl rfl (by decide +kernel) ⟨Nat.le_of_ble_eq_true rfl, Nat.le_of_ble_eq_true rfl⟩) (hS.preM F.K) rfl rfl hl.1 rfl (lv_room (Nat.le_of_ble_eq_true rfl)) dL_law_1656 ⟨by show _ ≤ 1064969; omega, by show _ ≤ 5901198; omega⟩) F.K hS (fun r8 M1 H locs hw hS => ?_)
    have hLM : LM M M1 := by rw [hw]; exact LM_th hI _
    refine lv_istore (lv' := [(6, .int r8), (5, .int r9), (0, .ref b), (1, .ref (ad 57)), (2, .ref (am 0)), (3, .ref o), (4, .int (nI iL))]) hx hb dL_law_1659 hl (by decide) rfl (fun ls hl => ?_)
    refine lv_goto (tgt := 2023) hx hb dL_law_1661 (by decide) ?_
    exact W.widen (k := 100 + 224 * (n + 1)) (n := 1200 + 10680 * (n + 1)) (by omega) (by omega) (kk9 S1 M1 _ _ _ (hI9.next hLQ hLM) hS (lv_sub hl [2, 3, 4, 5, 6] rfl))
  replace hv2 : v2 < 16 := by omega
  refine ll_m (va_runV (As := [.int (nI j), .int (nI v), .int (nI v2)]) (rest := []) ⟨hx, hb, hml, hown, hts⟩ (m_X6_compare l dC dI am M j v v2 hj hv hv2 hI) (cwV 3 hts gL_law_X6_compare rfl rfl rfl (by decide +kernel) ⟨Nat.le_of_ble_eq_true rfl, Nat.le_of_ble_eq_true rfl⟩) (hS.preM F.K) rfl rfl hl.1 rfl (lv_room (Nat.le_of_ble_eq_true rfl)) dL_law_1656 ⟨by show _ ≤ 1064969; omega, by show _ ≤ 5901198; omega⟩) F.K hS (fun r8 M1 H locs hw hS => ?_)
  have hLM : LM M M1 := by rw [hw.2]; exact LM_th hI 0
  refine lv_istore (lv' := [(6, .int r8), (5, .int r9), (0, .ref b), (1, .ref (ad 57)), (2, .ref (am 0)), (3, .ref o), (4, .int (nI iL))]) hx hb dL_law_1659 hl (by decide) rfl (fun ls hl => ?_)
  refine lv_goto (tgt := 2023) hx hb dL_law_1661 (by decide) ?_
  exact W.widen (k := 100 + 224 * (n + 1)) (n := 1200 + 10680 * (n + 1)) (by omega) (by omega) (kk9 S1 M1 _ _ _ (hI9.next hLQ hLM) hS (lv_sub hl [2, 3, 4, 5, 6] rfl))
set_option maxHeartbeats 4000000 in
set_option maxRecDepth 100000 in
theorem lc_32 {p : Program} {l : Launch} {e : Env} {s : State} {m : MethodId} {below : List Frame} {meth : Method} {c : Code} {b L : Nat} {xs : Nat → Int32} {dC : Nat → ClassId} {dI : Nat → Nat → Nat} {cB : ClassId} {ad am : Nat → Nat} {o n iL : Nat} {Q : State → Prop} (F : LF p l s m c b L xs dC dI cB ad am o) (hni : iL = 5 * n) (hiL : iL + 5 ≤ L) : LCase p l e s m below meth c b dC dI ad am o n iL Q 1664 := by
  intro S M H locs hI9 hS kk9 ls hl
  have hx := F.x
  have hb := F.b
  have hml := F.ml
  have hown := F.own
  have hts := F.ts
  have hL := F.hL
  have hn9 : n ≤ 511 := by omega
  refine lv_aload_n hx hb dL_law_1664 rfl (lv_at hl 1 rfl) ?_
  refine lv_aload_n hx hb dL_law_1665 rfl (lv_at hl 0 rfl) ?_
  refine lv_iload hx hb dL_law_1666 (lv_at hl 4 rfl) ?_
  refine lv_iconst (v := nI 1) hx hb dL_law_1668 (by decide) ?_
  refine kn_iadd hx hb dL_law_1669 ?_
  refine va_sld hx hb F.sc F.bl (fun z => Nat.not_le.mpr F.bl z) hS.st (vp_in_nI (show iL + 1 < L by omega) (by omega)) dL_law_1670 ?_
  generalize xs (nI (iL + 1)).toNatClampNeg = x1
  refine lv_aload_n hx hb dL_law_1671 rfl (lv_at hl 0 rfl) ?_
  refine lv_iload hx hb dL_law_1672 (lv_at hl 4 rfl) ?_
  refine lv_iconst (v := nI 2) hx hb dL_law_1674 (by decide) ?_
  refine kn_iadd hx hb dL_law_1675 ?_
  refine va_sld hx hb F.sc F.bl (fun z => Nat.not_le.mpr F.bl z) hS.st (vp_in_nI (show iL + 2 < L by omega) (by omega)) dL_law_1676 ?_
  generalize xs (nI (iL + 2)).toNatClampNeg = x2
  refine lv_aload_n hx hb dL_law_1677 rfl (lv_at hl 0 rfl) ?_
  refine lv_iload hx hb dL_law_1678 (lv_at hl 4 rfl) ?_
  refine lv_iconst (v := nI 3) hx hb dL_law_1680 (by decide) ?_
  refine kn_iadd hx hb dL_law_1681 ?_
  refine va_sld hx hb F.sc F.bl (fun z => Nat.not_le.mpr F.bl z) hS.st (vp_in_nI (show iL + 3 < L by omega) (by omega)) dL_law_1682 ?_
  generalize xs (nI (iL + 3)).toNatClampNeg = x3
  refine lv_aload_n hx hb dL_law_1683 rfl (lv_at hl 0 rfl) ?_
  refine lv_iload hx hb dL_law_1684 (lv_at hl 4 rfl) ?_
  refine lv_iconst (v := nI 4) hx hb dL_law_1686 (by decide) ?_
  refine kn_iadd hx hb dL_law_1687 ?_
  refine va_sld hx hb F.sc F.bl (fun z => Nat.not_le.mpr F.bl z) hS.st (vp_in_nI (show iL + 4 < L by omega) (by omega)) dL_law_1688 ?_
  generalize xs (nI (iL + 4)).toNatClampNeg = x4
  refine lv_aload_n hx hb dL_law_1689 rfl (lv_at hl 3 rfl) ?_
  refine ll_w (vx_runSW (As := [.ref (ad 57), .int x1, .int x2, .int x3, .int x4, .ref o]) (rest := []) ⟨hx, hb, hml, hown, hts⟩ (m_L_both l F.st dC dI cB ad o S x1 x2 x3 x4 hI9.x hI9.x5 (by have := hI9.xp; omega)) (vx_cwSW 6 hts gL_law_L_both rfl rfl rfl (by decide +kernel) ⟨Nat.le_of_ble_eq_true rfl, Nat.le_of_ble_eq_true rfl⟩) (hS.preW F.K) rfl rfl hl.1 rfl (lv_room (Nat.le_of_ble_eq_true rfl)) dL_law_1690 ⟨by show _ ≤ 1064969; omega, by show _ ≤ 5901198; omega⟩) F.K hS (fun r9 S1 H locs hLQ hS => ?_)
  refine lv_istore (lv' := [(5, .int r9), (0, .ref b), (1, .ref (ad 57)), (2, .ref (am 0)), (3, .ref o), (4, .int (nI iL))]) hx hb dL_law_1693 hl (by decide) rfl (fun ls hl => ?_)
  refine lv_aload_n hx hb dL_law_1695 rfl (lv_at hl 3 rfl) ?_
  refine lv_aload_n hx hb dL_law_1696 rfl (lv_at hl 1 rfl) ?_
  refine lv_iload hx hb dL_law_1697 (lv_at hl 5 rfl) ?_
  refine lv_iconst (v := nI 1) hx hb dL_law_1699 (by decide) ?_
  refine kn_iadd hx hb dL_law_1700 ?_
  refine va_sld hx hb F.sc F.bl (fun z => Nat.not_le.mpr F.bl z) hS.st (vp_in_nI (show iL + 1 < L by omega) (by omega)) dL_law_1701 ?_
  generalize xs (nI (iL + 1)).toNatClampNeg = x5
  refine lv_aload_n hx hb dL_law_1702 rfl (lv_at hl 1 rfl) ?_
  refine lv_iload hx hb dL_law_1703 (lv_at hl 5 rfl) ?_
  refine lv_iconst (v := nI 2) hx hb dL_law_1705 (by decide) ?_
  refine kn_iadd hx hb dL_law_1706 ?_
  refine va_sld hx hb F.sc F.bl (fun z => Nat.not_le.mpr F.bl z) hS.st (vp_in_nI (show iL + 2 < L by omega) (by omega)) dL_law_1707 ?_
  generalize xs (nI (iL + 2)).toNatClampNeg = x6
  refine lv_aload_n hx hb dL_law_1708 rfl (lv_at hl 1 rfl) ?_
  refine lv_iload hx hb dL_law_1709 (lv_at hl 5 rfl) ?_
  refine lv_iconst (v := nI 3) hx hb dL_law_1711 (by decide) ?_
  refine kn_iadd hx hb dL_law_1712 ?_
  refine va_sld hx hb F.sc F.bl (fun z => Nat.not_le.mpr F.bl z) hS.st (vp_in_nI (show iL + 3 < L by omega) (by omega)) dL_law_1713 ?_
  generalize xs (nI (iL + 3)).toNatClampNeg = x7
  refine lv_aload_n hx hb dL_law_1714 rfl (lv_at hl 1 rfl) ?_
  refine lv_iload hx hb dL_law_1715 (lv_at hl 5 rfl) ?_
  refine lv_iconst (v := nI 4) hx hb dL_law_1717 (by decide) ?_
  refine kn_iadd hx hb dL_law_1718 ?_
  refine va_sld hx hb F.sc F.bl (fun z => Nat.not_le.mpr F.bl z) hS.st (vp_in_nI (show iL + 4 < L by omega) (by omega)) dL_law_1719 ?_
  generalize xs (nI (iL + 4)).toNatClampNeg = x8
  have hI := hI9.m
  have hc : M.2.2.2.1 + 12 < 1000000 := by have := hI9.mp; omega
  rcases lim_lt 4 (by decide) x5 with ⟨j, hj, rfl⟩ | hb9
  rotate_left
  · skip
    refine ll_m (va_runV (As := [.int x5, .int x6, .int x7, .int x8]) (rest := []) ⟨hx, hb, hml, hown, hts⟩ (o_X6_both_1 l dC dI am M x5 x6 x7 x8 hb9 hI) (cwV 4 hts gL_law_X6_both rfl rfl rfl (by decide +kernel) ⟨Nat.le_of_ble_eq_true rfl, Nat.le_of_ble_eq_true rfl⟩) (hS.preM F.K) rfl rfl hl.1 rfl (lv_room (Nat.le_of_ble_eq_true rfl)) dL_law_1720 ⟨by show _ ≤ 1064969; omega, by show _ ≤ 5901198; omega⟩) F.K hS (fun r8 M1 H locs hw hS => ?_)
    have hLM : LM M M1 := by rw [hw]; exact LM_th hI _
    refine lv_istore (lv' := [(6, .int r8), (5, .int r9), (0, .ref b), (1, .ref (ad 57)), (2, .ref (am 0)), (3, .ref o), (4, .int (nI iL))]) hx hb dL_law_1723 hl (by decide) rfl (fun ls hl => ?_)
    refine lv_goto (tgt := 2023) hx hb dL_law_1725 (by decide) ?_
    exact W.widen (k := 100 + 224 * (n + 1)) (n := 1200 + 10680 * (n + 1)) (by omega) (by omega) (kk9 S1 M1 _ _ _ (hI9.next hLQ hLM) hS (lv_sub hl [2, 3, 4, 5, 6] rfl))
  replace hj : j < 4 := by omega
  rcases lim_lt 4 (by decide) x6 with ⟨j2, hj2, rfl⟩ | hb9
  rotate_left
  · skip
    refine ll_m (va_runV (As := [.int (nI j), .int x6, .int x7, .int x8]) (rest := []) ⟨hx, hb, hml, hown, hts⟩ (o_X6_both_2 l dC dI am M j x6 x7 x8 hj hb9 hI) (cwV 4 hts gL_law_X6_both rfl rfl rfl (by decide +kernel) ⟨Nat.le_of_ble_eq_true rfl, Nat.le_of_ble_eq_true rfl⟩) (hS.preM F.K) rfl rfl hl.1 rfl (lv_room (Nat.le_of_ble_eq_true rfl)) dL_law_1720 ⟨by show _ ≤ 1064969; omega, by show _ ≤ 5901198; omega⟩) F.K hS (fun r8 M1 H locs hw hS => ?_)
    have hLM : LM M M1 := by rw [hw]; exact LM_th hI _
    refine lv_istore (lv' := [(6, .int r8), (5, .int r9), (0, .ref b), (1, .ref (ad 57)), (2, .ref (am 0)), (3, .ref o), (4, .int (nI iL))]) hx hb dL_law_1723 hl (by decide) rfl (fun ls hl => ?_)
    refine lv_goto (tgt := 2023) hx hb dL_law_1725 (by decide) ?_
    exact W.widen (k := 100 + 224 * (n + 1)) (n := 1200 + 10680 * (n + 1)) (by omega) (by omega) (kk9 S1 M1 _ _ _ (hI9.next hLQ hLM) hS (lv_sub hl [2, 3, 4, 5, 6] rfl))
  replace hj2 : j2 < 4 := by omega
  rcases lim_le 15 (by decide) x7 with ⟨v, hv, rfl⟩ | hb9
  rotate_left
  · skip
    refine ll_m (va_runV (As := [.int (nI j), .int (nI j2), .int x7, .int x8]) (rest := []) ⟨hx, hb, hml, hown, hts⟩ (o_X6_both_3 l dC dI am M j j2 x7 x8 hj hj2 hb9 hI) (cwV 4 hts gL_law_X6_both rfl rfl rfl (by decide +kernel) ⟨Nat.le_of_ble_eq_true rfl, Nat.le_of_ble_eq_true rfl⟩) (hS.preM F.K) rfl rfl hl.1 rfl (lv_room (Nat.le_of_ble_eq_true rfl)) dL_law_1720 ⟨by show _ ≤ 1064969; omega, by show _ ≤ 5901198; omega⟩) F.K hS (fun r8 M1 H locs hw hS => ?_)
    have hLM : LM M M1 := by rw [hw]; exact LM_th hI _
    refine lv_istore (lv' := [(6, .int r8), (5, .int r9), (0, .ref b), (1, .ref (ad 57)), (2, .ref (am 0)), (3, .ref o), (4, .int (nI iL))]) hx hb dL_law_1723 hl (by decide) rfl (fun ls hl => ?_)
    refine lv_goto (tgt := 2023) hx hb dL_law_1725 (by decide) ?_
    exact W.widen (k := 100 + 224 * (n + 1)) (n := 1200 + 10680 * (n + 1)) (by omega) (by omega) (kk9 S1 M1 _ _ _ (hI9.next hLQ hLM) hS (lv_sub hl [2, 3, 4, 5, 6] rfl))
  replace hv : v < 16 := by omega
  rcases lim_le 15 (by decide) x8 with ⟨v2, hv2, rfl⟩ | hb9
  rotate_left
  · skip
    refine ll_m (va_runV (As := [.int (nI j), .int (nI j2), .int (nI v), .int x8]) (rest := []) ⟨hx, hb, hml, hown, hts⟩ (o_X6_both_4 l dC dI am M j j2 v x8 hj hj2 hv hb9 hI) (cwV 4 hts gL_law_X6_both rfl rfl rfl (by decide +kernel) ⟨Nat.le_of_ble_eq_true rfl, Nat.le_of_ble_eq_true rfl⟩) (hS.preM F.K) rfl rfl hl.1 rfl (lv_room (Nat.le_of_ble_eq_true rfl)) dL_law_1720 ⟨by show _ ≤ 1064969; omega, by show _ ≤ 5901198; omega⟩) F.K hS (fun r8 M1 H locs hw hS => ?_)
    have hLM : LM M M1 := by rw [hw]; exact LM_th hI _
    refine lv_istore (lv' := [(6, .int r8), (5, .int r9), (0, .ref b), (1, .ref (ad 57)), (2, .ref (am 0)), (3, .ref o), (4, .int (nI iL))]) hx hb dL_law_1723 hl (by decide) rfl (fun ls hl => ?_)
    refine lv_goto (tgt := 2023) hx hb dL_law_1725 (by decide) ?_
    exact W.widen (k := 100 + 224 * (n + 1)) (n := 1200 + 10680 * (n + 1)) (by omega) (by omega) (kk9 S1 M1 _ _ _ (hI9.next hLQ hLM) hS (lv_sub hl [2, 3, 4, 5, 6] rfl))
  replace hv2 : v2 < 16 := by omega
  refine ll_m (va_runV (As := [.int (nI j), .int (nI j2), .int (nI v), .int (nI v2)]) (rest := []) ⟨hx, hb, hml, hown, hts⟩ (m_X6_both l dC dI am M j j2 v v2 hj hj2 hv hv2 hI) (cwV 4 hts gL_law_X6_both rfl rfl rfl (by decide +kernel) ⟨Nat.le_of_ble_eq_true rfl, Nat.le_of_ble_eq_true rfl⟩) (hS.preM F.K) rfl rfl hl.1 rfl (lv_room (Nat.le_of_ble_eq_true rfl)) dL_law_1720 ⟨by show _ ≤ 1064969; omega, by show _ ≤ 5901198; omega⟩) F.K hS (fun r8 M1 H locs hw hS => ?_)
  have hLM : LM M M1 := by rw [hw.2]; exact LM_th hI 0
  refine lv_istore (lv' := [(6, .int r8), (5, .int r9), (0, .ref b), (1, .ref (ad 57)), (2, .ref (am 0)), (3, .ref o), (4, .int (nI iL))]) hx hb dL_law_1723 hl (by decide) rfl (fun ls hl => ?_)
  refine lv_goto (tgt := 2023) hx hb dL_law_1725 (by decide) ?_
  exact W.widen (k := 100 + 224 * (n + 1)) (n := 1200 + 10680 * (n + 1)) (by omega) (by omega) (kk9 S1 M1 _ _ _ (hI9.next hLQ hLM) hS (lv_sub hl [2, 3, 4, 5, 6] rfl))
