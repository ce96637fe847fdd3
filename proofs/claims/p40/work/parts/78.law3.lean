set_option maxHeartbeats 4000000 in
set_option maxRecDepth 100000 in
theorem lc_22 {p : Program} {l : Launch} {e : Env} {s : State} {m : MethodId} {below : List Frame} {meth : Method} {c : Code} {b L : Nat} {xs : Nat → Int32} {dC : Nat → ClassId} {dI : Nat → Nat → Nat} {cB : ClassId} {ad am : Nat → Nat} {o n iL : Nat} {Q : State → Prop} (F : LF p l s m c b L xs dC dI cB ad am o) (hni : iL = 5 * n) (hiL : iL + 5 ≤ L) : LCase p l e s m below meth c b dC dI ad am o n iL Q 1220 := by
  intro S M H locs hI9 hS kk9 ls hl
  have hx := F.x
  have hb := F.b
  have hml := F.ml
  have hown := F.own
  have hts := F.ts
  have hL := F.hL
  have hn9 : n ≤ 511 := by omega
  refine lv_aload_n hx hb dL_law_1220 rfl (lv_at hl 1 rfl) ?_
  refine lv_aload_n hx hb dL_law_1221 rfl (lv_at hl 0 rfl) ?_
  refine lv_iload hx hb dL_law_1222 (lv_at hl 4 rfl) ?_
  refine lv_iconst (v := nI 1) hx hb dL_law_1224 (by decide) ?_
  refine kn_iadd hx hb dL_law_1225 ?_
  refine va_sld hx hb F.sc F.bl (fun z => Nat.not_le.mpr F.bl z) hS.st (vp_in_nI (show iL + 1 < L by omega) (by omega)) dL_law_1226 ?_
  obtain ⟨x1, hx1⟩ : ∃ z, z = xs (nI (iL + 1)).toNatClampNeg := ⟨_, rfl⟩
  rw [← hx1]
  refine lv_aload_n hx hb dL_law_1227 rfl (lv_at hl 0 rfl) ?_
  refine lv_iload hx hb dL_law_1228 (lv_at hl 4 rfl) ?_
  refine lv_iconst (v := nI 2) hx hb dL_law_1230 (by decide) ?_
  refine kn_iadd hx hb dL_law_1231 ?_
  refine va_sld hx hb F.sc F.bl (fun z => Nat.not_le.mpr F.bl z) hS.st (vp_in_nI (show iL + 2 < L by omega) (by omega)) dL_law_1232 ?_
  obtain ⟨x2, hx2⟩ : ∃ z, z = xs (nI (iL + 2)).toNatClampNeg := ⟨_, rfl⟩
  rw [← hx2]
  refine lv_aload_n hx hb dL_law_1233 rfl (lv_at hl 0 rfl) ?_
  refine lv_iload hx hb dL_law_1234 (lv_at hl 4 rfl) ?_
  refine lv_iconst (v := nI 3) hx hb dL_law_1236 (by decide) ?_
  refine kn_iadd hx hb dL_law_1237 ?_
  refine va_sld hx hb F.sc F.bl (fun z => Nat.not_le.mpr F.bl z) hS.st (vp_in_nI (show iL + 3 < L by omega) (by omega)) dL_law_1238 ?_
  obtain ⟨x3, hx3⟩ : ∃ z, z = xs (nI (iL + 3)).toNatClampNeg := ⟨_, rfl⟩
  rw [← hx3]
  refine lv_if_eq (tgt := 1246) hx hb dL_law_1239 (by decide) (fun k_4 => ?_) (fun k_4 => ?_)
  · skip
    refine lv_iconst (v := bI false) hx hb dL_law_1246 (by decide) ?_
    refine lv_aload_n hx hb dL_law_1247 rfl (lv_at hl 3 rfl) ?_
    refine ll_w (vx_runSW (As := [.ref (ad 57), .int x1, .int x2, .int (bI false), .ref o]) (rest := []) ⟨hx, hb, hml, hown, hts⟩ (m_L_ranks l F.st dC dI cB ad o S x1 x2 false hI9.x hI9.x5 (by have := hI9.xp; omega)) (vx_cwSW 5 hts gL_law_L_ranks rfl rfl rfl hdL_ranks_5.2 ⟨Nat.le_of_ble_eq_true rfl, Nat.le_of_ble_eq_true rfl⟩) (hS.preW F.K) rfl rfl hl.1 rfl (lv_room (Nat.le_of_ble_eq_true rfl)) dL_law_1248 ⟨le_rc (by omega), le_rs (by omega)⟩) F.K hS (fun r0 S1 n1 H locs hq9 hN hS => ?_)
    have hLQ : LQ S S1 := hq9.1
    have hR : R_ranks x1 x2 false S r0 S1 n1 := hq9.2
    clear hq9
    rcases hR with ⟨hb9, rfl, rfl⟩ | ⟨i, hi, rfl, hb9, rfl, rfl⟩ | ⟨i, j, hi, hj, rfl, rfl, rfl, hw⟩
    · skip
      refine lv_istore (lv' := [(5, .int (nI 1)), (0, .ref b), (1, .ref (ad 57)), (2, .ref (am 0)), (3, .ref o), (4, .int (nI iL))]) hx hb dL_law_1251 hl (by decide) rfl (fun ls hl => ?_)
      refine lv_aload_n hx hb dL_law_1253 rfl (lv_at hl 3 rfl) ?_
      refine lv_aload_n hx hb dL_law_1254 rfl (lv_at hl 1 rfl) ?_
      refine lv_iload hx hb dL_law_1255 (lv_at hl 5 rfl) ?_
      refine lv_iconst (v := nI 1) hx hb dL_law_1257 (by decide) ?_
      refine kn_iadd hx hb dL_law_1258 ?_
      refine va_sld hx hb F.sc F.bl (fun z => Nat.not_le.mpr F.bl z) hS.st (vp_in_nI (show iL + 1 < L by omega) (by omega)) dL_law_1259 ?_
      rw [← hx1]
      refine lv_aload_n hx hb dL_law_1260 rfl (lv_at hl 1 rfl) ?_
      refine lv_iload hx hb dL_law_1261 (lv_at hl 5 rfl) ?_
      refine lv_iconst (v := nI 2) hx hb dL_law_1263 (by decide) ?_
      refine kn_iadd hx hb dL_law_1264 ?_
      refine va_sld hx hb F.sc F.bl (fun z => Nat.not_le.mpr F.bl z) hS.st (vp_in_nI (show iL + 2 < L by omega) (by omega)) dL_law_1265 ?_
      rw [← hx2]
      refine lv_aload_n hx hb dL_law_1266 rfl (lv_at hl 1 rfl) ?_
      refine lv_iload hx hb dL_law_1267 (lv_at hl 5 rfl) ?_
      refine lv_iconst (v := nI 3) hx hb dL_law_1269 (by decide) ?_
      refine kn_iadd hx hb dL_law_1270 ?_
      refine va_sld hx hb F.sc F.bl (fun z => Nat.not_le.mpr F.bl z) hS.st (vp_in_nI (show iL + 3 < L by omega) (by omega)) dL_law_1271 ?_
      rw [← hx3]
      refine lv_if_eq (tgt := 1279) hx hb dL_law_1272 (by decide) (fun k_5 => ?_) (fun k_5 => absurd k_4 k_5)
      refine lv_iconst (v := bI false) hx hb dL_law_1279 (by decide) ?_
      have hI := hI9.m
      have T := hI9.T
      have hc : M.2.2.2.1 + 12 < 1000000 := by have := hI9.mp; omega
      refine ll_mr (va_runV (As := [.int x1, .int x2, .int (bI false)]) (rest := []) ⟨hx, hb, hml, hown, hts⟩ (o_X6_ranks_1 l dC dI cB am M x1 x2 false hb9) (cwV 3 hts gL_law_X6_ranks rfl rfl rfl hdX6_ranks_3 ⟨Nat.le_of_ble_eq_true rfl, Nat.le_of_ble_eq_true rfl⟩) (hS.preMT F.K) rfl rfl hl.1 rfl (lv_room (Nat.le_of_ble_eq_true rfl)) dL_law_1280 ⟨le_rc (by omega), le_rs (by omega)⟩) F.K hS (fun M1 q9 H locs hko hv hS => ?_)
      have hLM : LM M M1 := by rw [hv]; exact LM_th hI _
      have hT : Tie S M1 := by rw [hv]; exact T.th _
      refine lv_astore (lv' := [(6, .ref q9), (5, .int (nI 1)), (0, .ref b), (1, .ref (ad 57)), (2, .ref (am 0)), (3, .ref o), (4, .int (nI iL))]) hx hb dL_law_1283 hl (by decide) rfl (fun ls hl => ?_)
      refine lv_goto (tgt := 2052) hx hb dL_law_1285 (by decide) ?_
      exact W.widen (k := 100 + 224 * (n + 1)) (n := 1200 + 10680 * (n + 1)) (by omega) (by omega) (kk9 S M1 _ _ _ (hI9.next hLQ hLM hT) hS (lv_sub hl [2, 3, 4, 5, 6] rfl))
    · skip
      refine lv_istore (lv' := [(5, .int (nI 1)), (0, .ref b), (1, .ref (ad 57)), (2, .ref (am 0)), (3, .ref o), (4, .int (nI iL))]) hx hb dL_law_1251 hl (by decide) rfl (fun ls hl => ?_)
      refine lv_aload_n hx hb dL_law_1253 rfl (lv_at hl 3 rfl) ?_
      refine lv_aload_n hx hb dL_law_1254 rfl (lv_at hl 1 rfl) ?_
      refine lv_iload hx hb dL_law_1255 (lv_at hl 5 rfl) ?_
      refine lv_iconst (v := nI 1) hx hb dL_law_1257 (by decide) ?_
      refine kn_iadd hx hb dL_law_1258 ?_
      refine va_sld hx hb F.sc F.bl (fun z => Nat.not_le.mpr F.bl z) hS.st (vp_in_nI (show iL + 1 < L by omega) (by omega)) dL_law_1259 ?_
      rw [← hx1]
      refine lv_aload_n hx hb dL_law_1260 rfl (lv_at hl 1 rfl) ?_
      refine lv_iload hx hb dL_law_1261 (lv_at hl 5 rfl) ?_
      refine lv_iconst (v := nI 2) hx hb dL_law_1263 (by decide) ?_
      refine kn_iadd hx hb dL_law_1264 ?_
      refine va_sld hx hb F.sc F.bl (fun z => Nat.not_le.mpr F.bl z) hS.st (vp_in_nI (show iL + 2 < L by omega) (by omega)) dL_law_1265 ?_
      rw [← hx2]
      refine lv_aload_n hx hb dL_law_1266 rfl (lv_at hl 1 rfl) ?_
      refine lv_iload hx hb dL_law_1267 (lv_at hl 5 rfl) ?_
      refine lv_iconst (v := nI 3) hx hb dL_law_1269 (by decide) ?_
      refine kn_iadd hx hb dL_law_1270 ?_
      refine va_sld hx hb F.sc F.bl (fun z => Nat.not_le.mpr F.bl z) hS.st (vp_in_nI (show iL + 3 < L by omega) (by omega)) dL_law_1271 ?_
      rw [← hx3]
      refine lv_if_eq (tgt := 1279) hx hb dL_law_1272 (by decide) (fun k_6 => ?_) (fun k_6 => absurd k_4 k_6)
      refine lv_iconst (v := bI false) hx hb dL_law_1279 (by decide) ?_
      have hI := hI9.m
      have T := hI9.T
      have hc : M.2.2.2.1 + 12 < 1000000 := by have := hI9.mp; omega
      have hn := (hI.1 i hi).1
      refine ll_mr (va_runV (As := [.int (nI i), .int x2, .int (bI false)]) (rest := []) ⟨hx, hb, hml, hown, hts⟩ (o_X6_ranks_2 l dC dI cB am M i x2 false hi hb9) (cwV 3 hts gL_law_X6_ranks rfl rfl rfl hdX6_ranks_3 ⟨Nat.le_of_ble_eq_true rfl, Nat.le_of_ble_eq_true rfl⟩) (hS.preMT F.K) rfl rfl hl.1 rfl (lv_room (Nat.le_of_ble_eq_true rfl)) dL_law_1280 ⟨le_rc (by omega), le_rs (by omega)⟩) F.K hS (fun M1 q9 H locs hko hv hS => ?_)
      have hLM : LM M M1 := by rw [hv]; exact LM_th hI _
      have hT : Tie S M1 := by rw [hv]; exact T.th _
      refine lv_astore (lv' := [(6, .ref q9), (5, .int (nI 1)), (0, .ref b), (1, .ref (ad 57)), (2, .ref (am 0)), (3, .ref o), (4, .int (nI iL))]) hx hb dL_law_1283 hl (by decide) rfl (fun ls hl => ?_)
      refine lv_goto (tgt := 2052) hx hb dL_law_1285 (by decide) ?_
      exact W.widen (k := 100 + 224 * (n + 1)) (n := 1200 + 10680 * (n + 1)) (by omega) (by omega) (kk9 S M1 _ _ _ (hI9.next hLQ hLM hT) hS (lv_sub hl [2, 3, 4, 5, 6] rfl))
    · skip
      refine lv_istore (lv' := [(5, .int (nI 0)), (0, .ref b), (1, .ref (ad 57)), (2, .ref (am 0)), (3, .ref o), (4, .int (nI iL))]) hx hb dL_law_1251 hl (by decide) rfl (fun ls hl => ?_)
      refine lv_aload_n hx hb dL_law_1253 rfl (lv_at hl 3 rfl) ?_
      refine lv_aload_n hx hb dL_law_1254 rfl (lv_at hl 1 rfl) ?_
      refine lv_iload hx hb dL_law_1255 (lv_at hl 5 rfl) ?_
      refine lv_iconst (v := nI 1) hx hb dL_law_1257 (by decide) ?_
      refine kn_iadd hx hb dL_law_1258 ?_
      refine va_sld hx hb F.sc F.bl (fun z => Nat.not_le.mpr F.bl z) hS.st (vp_in_nI (show iL + 1 < L by omega) (by omega)) dL_law_1259 ?_
      rw [← hx1]
      refine lv_aload_n hx hb dL_law_1260 rfl (lv_at hl 1 rfl) ?_
      refine lv_iload hx hb dL_law_1261 (lv_at hl 5 rfl) ?_
      refine lv_iconst (v := nI 2) hx hb dL_law_1263 (by decide) ?_
      refine kn_iadd hx hb dL_law_1264 ?_
      refine va_sld hx hb F.sc F.bl (fun z => Nat.not_le.mpr F.bl z) hS.st (vp_in_nI (show iL + 2 < L by omega) (by omega)) dL_law_1265 ?_
      rw [← hx2]
      refine lv_aload_n hx hb dL_law_1266 rfl (lv_at hl 1 rfl) ?_
      refine lv_iload hx hb dL_law_1267 (lv_at hl 5 rfl) ?_
      refine lv_iconst (v := nI 3) hx hb dL_law_1269 (by decide) ?_
      refine kn_iadd hx hb dL_law_1270 ?_
      refine va_sld hx hb F.sc F.bl (fun z => Nat.not_le.mpr F.bl z) hS.st (vp_in_nI (show iL + 3 < L by omega) (by omega)) dL_law_1271 ?_
      rw [← hx3]
      refine lv_if_eq (tgt := 1279) hx hb dL_law_1272 (by decide) (fun k_7 => ?_) (fun k_7 => absurd k_4 k_7)
      refine lv_iconst (v := bI false) hx hb dL_law_1279 (by decide) ?_
      have hI := hI9.m
      have T := hI9.T
      have hc : M.2.2.2.1 + 12 < 1000000 := by have := hI9.mp; omega
      have hn := (hI.1 i hi).1
      refine ll_mr (va_runV (As := [.int (nI i), .int (nI j), .int (bI false)]) (rest := []) ⟨hx, hb, hml, hown, hts⟩ (m_X6_ranks_f l dC dI cB am M i j hi hj hI) (cwV 3 hts gL_law_X6_ranks rfl rfl rfl hdX6_ranks_3 ⟨Nat.le_of_ble_eq_true rfl, Nat.le_of_ble_eq_true rfl⟩) (hS.preMT F.K) rfl rfl hl.1 rfl (lv_room (Nat.le_of_ble_eq_true rfl)) dL_law_1280 ⟨le_rc (by omega), le_rs (by omega)⟩) F.K hS (fun M1 q9 H locs hko hv hS => ?_)
      have hLM : LM M M1 := by rw [hv]; exact LM_th hI 0
      have hT : Tie S1 M1 := by rw [hv]; exact (T.KR hw).th 0
      refine lv_astore (lv' := [(6, .ref q9), (5, .int (nI 0)), (0, .ref b), (1, .ref (ad 57)), (2, .ref (am 0)), (3, .ref o), (4, .int (nI iL))]) hx hb dL_law_1283 hl (by decide) rfl (fun ls hl => ?_)
      refine lv_goto (tgt := 2052) hx hb dL_law_1285 (by decide) ?_
      exact W.widen (k := 100 + 224 * (n + 1)) (n := 1200 + 10680 * (n + 1)) (by omega) (by omega) (kk9 S1 M1 _ _ _ (hI9.next hLQ hLM hT) hS (lv_sub hl [2, 3, 4, 5, 6] rfl))
  · skip
    refine lv_iconst (v := bI true) hx hb dL_law_1242 (by decide) ?_
    refine lv_goto (tgt := 1247) hx hb dL_law_1243 (by decide) ?_
    refine lv_aload_n hx hb dL_law_1247 rfl (lv_at hl 3 rfl) ?_
    refine ll_w (vx_runSW (As := [.ref (ad 57), .int x1, .int x2, .int (bI true), .ref o]) (rest := []) ⟨hx, hb, hml, hown, hts⟩ (m_L_ranks l F.st dC dI cB ad o S x1 x2 true hI9.x hI9.x5 (by have := hI9.xp; omega)) (vx_cwSW 5 hts gL_law_L_ranks rfl rfl rfl hdL_ranks_5.2 ⟨Nat.le_of_ble_eq_true rfl, Nat.le_of_ble_eq_true rfl⟩) (hS.preW F.K) rfl rfl hl.1 rfl (lv_room (Nat.le_of_ble_eq_true rfl)) dL_law_1248 ⟨le_rc (by omega), le_rs (by omega)⟩) F.K hS (fun r0 S1 n1 H locs hq9 hN hS => ?_)
    have hLQ : LQ S S1 := hq9.1
    have hR : R_ranks x1 x2 true S r0 S1 n1 := hq9.2
    clear hq9
    rcases hR with ⟨hb9, rfl, rfl⟩ | ⟨i, hi, rfl, hb9, rfl, rfl⟩ | ⟨i, j, hi, hj, rfl, rfl, rfl, hw⟩
    · skip
      refine lv_istore (lv' := [(5, .int (nI 1)), (0, .ref b), (1, .ref (ad 57)), (2, .ref (am 0)), (3, .ref o), (4, .int (nI iL))]) hx hb dL_law_1251 hl (by decide) rfl (fun ls hl => ?_)
      refine lv_aload_n hx hb dL_law_1253 rfl (lv_at hl 3 rfl) ?_
      refine lv_aload_n hx hb dL_law_1254 rfl (lv_at hl 1 rfl) ?_
      refine lv_iload hx hb dL_law_1255 (lv_at hl 5 rfl) ?_
      refine lv_iconst (v := nI 1) hx hb dL_law_1257 (by decide) ?_
      refine kn_iadd hx hb dL_law_1258 ?_
      refine va_sld hx hb F.sc F.bl (fun z => Nat.not_le.mpr F.bl z) hS.st (vp_in_nI (show iL + 1 < L by omega) (by omega)) dL_law_1259 ?_
      rw [← hx1]
      refine lv_aload_n hx hb dL_law_1260 rfl (lv_at hl 1 rfl) ?_
      refine lv_iload hx hb dL_law_1261 (lv_at hl 5 rfl) ?_
      refine lv_iconst (v := nI 2) hx hb dL_law_1263 (by decide) ?_
      refine kn_iadd hx hb dL_law_1264 ?_
      refine va_sld hx hb F.sc F.bl (fun z => Nat.not_le.mpr F.bl z) hS.st (vp_in_nI (show iL + 2 < L by omega) (by omega)) dL_law_1265 ?_
      rw [← hx2]
      refine lv_aload_n hx hb dL_law_1266 rfl (lv_at hl 1 rfl) ?_
      refine lv_iload hx hb dL_law_1267 (lv_at hl 5 rfl) ?_
      refine lv_iconst (v := nI 3) hx hb dL_law_1269 (by decide) ?_
      refine kn_iadd hx hb dL_law_1270 ?_
      refine va_sld hx hb F.sc F.bl (fun z => Nat.not_le.mpr F.bl z) hS.st (vp_in_nI (show iL + 3 < L by omega) (by omega)) dL_law_1271 ?_
      rw [← hx3]
      refine lv_if_eq (tgt := 1279) hx hb dL_law_1272 (by decide) (fun k_8 => absurd k_8 k_4) (fun k_8 => ?_)
      refine lv_iconst (v := bI true) hx hb dL_law_1275 (by decide) ?_
      refine lv_goto (tgt := 1280) hx hb dL_law_1276 (by decide) ?_
      have hI := hI9.m
      have T := hI9.T
      have hc : M.2.2.2.1 + 12 < 1000000 := by have := hI9.mp; omega
      refine ll_mr (va_runV (As := [.int x1, .int x2, .int (bI true)]) (rest := []) ⟨hx, hb, hml, hown, hts⟩ (o_X6_ranks_1 l dC dI cB am M x1 x2 true hb9) (cwV 3 hts gL_law_X6_ranks rfl rfl rfl hdX6_ranks_3 ⟨Nat.le_of_ble_eq_true rfl, Nat.le_of_ble_eq_true rfl⟩) (hS.preMT F.K) rfl rfl hl.1 rfl (lv_room (Nat.le_of_ble_eq_true rfl)) dL_law_1280 ⟨le_rc (by omega), le_rs (by omega)⟩) F.K hS (fun M1 q9 H locs hko hv hS => ?_)
      have hLM : LM M M1 := by rw [hv]; exact LM_th hI _
      have hT : Tie S M1 := by rw [hv]; exact T.th _
      refine lv_astore (lv' := [(6, .ref q9), (5, .int (nI 1)), (0, .ref b), (1, .ref (ad 57)), (2, .ref (am 0)), (3, .ref o), (4, .int (nI iL))]) hx hb dL_law_1283 hl (by decide) rfl (fun ls hl => ?_)
      refine lv_goto (tgt := 2052) hx hb dL_law_1285 (by decide) ?_
      exact W.widen (k := 100 + 224 * (n + 1)) (n := 1200 + 10680 * (n + 1)) (by omega) (by omega) (kk9 S M1 _ _ _ (hI9.next hLQ hLM hT) hS (lv_sub hl [2, 3, 4, 5, 6] rfl))
    · skip
      refine lv_istore (lv' := [(5, .int (nI 1)), (0, .ref b), (1, .ref (ad 57)), (2, .ref (am 0)), (3, .ref o), (4, .int (nI iL))]) hx hb dL_law_1251 hl (by decide) rfl (fun ls hl => ?_)
      refine lv_aload_n hx hb dL_law_1253 rfl (lv_at hl 3 rfl) ?_
      refine lv_aload_n hx hb dL_law_1254 rfl (lv_at hl 1 rfl) ?_
      refine lv_iload hx hb dL_law_1255 (lv_at hl 5 rfl) ?_
      refine lv_iconst (v := nI 1) hx hb dL_law_1257 (by decide) ?_
      refine kn_iadd hx hb dL_law_1258 ?_
      refine va_sld hx hb F.sc F.bl (fun z => Nat.not_le.mpr F.bl z) hS.st (vp_in_nI (show iL + 1 < L by omega) (by omega)) dL_law_1259 ?_
      rw [← hx1]
      refine lv_aload_n hx hb dL_law_1260 rfl (lv_at hl 1 rfl) ?_
      refine lv_iload hx hb dL_law_1261 (lv_at hl 5 rfl) ?_
      refine lv_iconst (v := nI 2) hx hb dL_law_1263 (by decide) ?_
      refine kn_iadd hx hb dL_law_1264 ?_
      refine va_sld hx hb F.sc F.bl (fun z => Nat.not_le.mpr F.bl z) hS.st (vp_in_nI (show iL + 2 < L by omega) (by omega)) dL_law_1265 ?_
      rw [← hx2]
      refine lv_aload_n hx hb dL_law_1266 rfl (lv_at hl 1 rfl) ?_
      refine lv_iload hx hb dL_law_1267 (lv_at hl 5 rfl) ?_
      refine lv_iconst (v := nI 3) hx hb dL_law_1269 (by decide) ?_
      refine kn_iadd hx hb dL_law_1270 ?_
      refine va_sld hx hb F.sc F.bl (fun z => Nat.not_le.mpr F.bl z) hS.st (vp_in_nI (show iL + 3 < L by omega) (by omega)) dL_law_1271 ?_
      rw [← hx3]
      refine lv_if_eq (tgt := 1279) hx hb dL_law_1272 (by decide) (fun k_9 => absurd k_9 k_4) (fun k_9 => ?_)
      refine lv_iconst (v := bI true) hx hb dL_law_1275 (by decide) ?_
      refine lv_goto (tgt := 1280) hx hb dL_law_1276 (by decide) ?_
      have hI := hI9.m
      have T := hI9.T
      have hc : M.2.2.2.1 + 12 < 1000000 := by have := hI9.mp; omega
      have hn := (hI.1 i hi).1
      refine ll_mr (va_runV (As := [.int (nI i), .int x2, .int (bI true)]) (rest := []) ⟨hx, hb, hml, hown, hts⟩ (o_X6_ranks_2 l dC dI cB am M i x2 true hi hb9) (cwV 3 hts gL_law_X6_ranks rfl rfl rfl hdX6_ranks_3 ⟨Nat.le_of_ble_eq_true rfl, Nat.le_of_ble_eq_true rfl⟩) (hS.preMT F.K) rfl rfl hl.1 rfl (lv_room (Nat.le_of_ble_eq_true rfl)) dL_law_1280 ⟨le_rc (by omega), le_rs (by omega)⟩) F.K hS (fun M1 q9 H locs hko hv hS => ?_)
      have hLM : LM M M1 := by rw [hv]; exact LM_th hI _
      have hT : Tie S M1 := by rw [hv]; exact T.th _
      refine lv_astore (lv' := [(6, .ref q9), (5, .int (nI 1)), (0, .ref b), (1, .ref (ad 57)), (2, .ref (am 0)), (3, .ref o), (4, .int (nI iL))]) hx hb dL_law_1283 hl (by decide) rfl (fun ls hl => ?_)
      refine lv_goto (tgt := 2052) hx hb dL_law_1285 (by decide) ?_
      exact W.widen (k := 100 + 224 * (n + 1)) (n := 1200 + 10680 * (n + 1)) (by omega) (by omega) (kk9 S M1 _ _ _ (hI9.next hLQ hLM hT) hS (lv_sub hl [2, 3, 4, 5, 6] rfl))
    · skip
      refine lv_istore (lv' := [(5, .int (nI 0)), (0, .ref b), (1, .ref (ad 57)), (2, .ref (am 0)), (3, .ref o), (4, .int (nI iL))]) hx hb dL_law_1251 hl (by decide) rfl (fun ls hl => ?_)
      refine lv_aload_n hx hb dL_law_1253 rfl (lv_at hl 3 rfl) ?_
      refine lv_aload_n hx hb dL_law_1254 rfl (lv_at hl 1 rfl) ?_
      refine lv_iload hx hb dL_law_1255 (lv_at hl 5 rfl) ?_
      refine lv_iconst (v := nI 1) hx hb dL_law_1257 (by decide) ?_
      refine kn_iadd hx hb dL_law_1258 ?_
      refine va_sld hx hb F.sc F.bl (fun z => Nat.not_le.mpr F.bl z) hS.st (vp_in_nI (show iL + 1 < L by omega) (by omega)) dL_law_1259 ?_
      rw [← hx1]
      refine lv_aload_n hx hb dL_law_1260 rfl (lv_at hl 1 rfl) ?_
      refine lv_iload hx hb dL_law_1261 (lv_at hl 5 rfl) ?_
      refine lv_iconst (v := nI 2) hx hb dL_law_1263 (by decide) ?_
      refine kn_iadd hx hb dL_law_1264 ?_
      refine va_sld hx hb F.sc F.bl (fun z => Nat.not_le.mpr F.bl z) hS.st (vp_in_nI (show iL + 2 < L by omega) (by omega)) dL_law_1265 ?_
      rw [← hx2]
      refine lv_aload_n hx hb dL_law_1266 rfl (lv_at hl 1 rfl) ?_
      refine lv_iload hx hb dL_law_1267 (lv_at hl 5 rfl) ?_
      refine lv_iconst (v := nI 3) hx hb dL_law_1269 (by decide) ?_
      refine kn_iadd hx hb dL_law_1270 ?_
      refine va_sld hx hb F.sc F.bl (fun z => Nat.not_le.mpr F.bl z) hS.st (vp_in_nI (show iL + 3 < L by omega) (by omega)) dL_law_1271 ?_
      rw [← hx3]
      refine lv_if_eq (tgt := 1279) hx hb dL_law_1272 (by decide) (fun k_10 => absurd k_10 k_4) (fun k_10 => ?_)
      refine lv_iconst (v := bI true) hx hb dL_law_1275 (by decide) ?_
      refine lv_goto (tgt := 1280) hx hb dL_law_1276 (by decide) ?_
      have hI := hI9.m
      have T := hI9.T
      have hc : M.2.2.2.1 + 12 < 1000000 := by have := hI9.mp; omega
      have hn := (hI.1 i hi).1
      refine ll_mr (va_runV (As := [.int (nI i), .int (nI j), .int (bI true)]) (rest := []) ⟨hx, hb, hml, hown, hts⟩ (m_X6_ranks_t l dC dI cB am M i j hi hj hI) (cwV 3 hts gL_law_X6_ranks rfl rfl rfl hdX6_ranks_3 ⟨Nat.le_of_ble_eq_true rfl, Nat.le_of_ble_eq_true rfl⟩) (hS.preMT F.K) rfl rfl hl.1 rfl (lv_room (Nat.le_of_ble_eq_true rfl)) dL_law_1280 ⟨le_rc (by omega), le_rs (by omega)⟩) F.K hS (fun M1 q9 H locs hko hv hS => ?_)
      have hLM : LM M M1 := by rw [hv]; exact LM_th hI 0
      have hT : Tie S1 M1 := by rw [hv]; exact (T.KR hw).th 0
      refine lv_astore (lv' := [(6, .ref q9), (5, .int (nI 0)), (0, .ref b), (1, .ref (ad 57)), (2, .ref (am 0)), (3, .ref o), (4, .int (nI iL))]) hx hb dL_law_1283 hl (by decide) rfl (fun ls hl => ?_)
      refine lv_goto (tgt := 2052) hx hb dL_law_1285 (by decide) ?_
      exact W.widen (k := 100 + 224 * (n + 1)) (n := 1200 + 10680 * (n + 1)) (by omega) (by omega) (kk9 S1 M1 _ _ _ (hI9.next hLQ hLM hT) hS (lv_sub hl [2, 3, 4, 5, 6] rfl))
set_option maxHeartbeats 4000000 in
set_option maxRecDepth 100000 in
theorem lc_23 {p : Program} {l : Launch} {e : Env} {s : State} {m : MethodId} {below : List Frame} {meth : Method} {c : Code} {b L : Nat} {xs : Nat → Int32} {dC : Nat → ClassId} {dI : Nat → Nat → Nat} {cB : ClassId} {ad am : Nat → Nat} {o n iL : Nat} {Q : State → Prop} (F : LF p l s m c b L xs dC dI cB ad am o) (hni : iL = 5 * n) (hiL : iL + 5 ≤ L) : LCase p l e s m below meth c b dC dI ad am o n iL Q 1288 := by
  intro S M H locs hI9 hS kk9 ls hl
  have hx := F.x
  have hb := F.b
  have hml := F.ml
  have hown := F.own
  have hts := F.ts
  have hL := F.hL
  have hn9 : n ≤ 511 := by omega
  refine lv_aload_n hx hb dL_law_1288 rfl (lv_at hl 1 rfl) ?_
  refine lv_aload_n hx hb dL_law_1289 rfl (lv_at hl 0 rfl) ?_
  refine lv_iload hx hb dL_law_1290 (lv_at hl 4 rfl) ?_
  refine lv_iconst (v := nI 1) hx hb dL_law_1292 (by decide) ?_
  refine kn_iadd hx hb dL_law_1293 ?_
  refine va_sld hx hb F.sc F.bl (fun z => Nat.not_le.mpr F.bl z) hS.st (vp_in_nI (show iL + 1 < L by omega) (by omega)) dL_law_1294 ?_
  obtain ⟨x1, hx1⟩ : ∃ z, z = xs (nI (iL + 1)).toNatClampNeg := ⟨_, rfl⟩
  rw [← hx1]
  refine lv_aload_n hx hb dL_law_1295 rfl (lv_at hl 0 rfl) ?_
  refine lv_iload hx hb dL_law_1296 (lv_at hl 4 rfl) ?_
  refine lv_iconst (v := nI 2) hx hb dL_law_1298 (by decide) ?_
  refine kn_iadd hx hb dL_law_1299 ?_
  refine va_sld hx hb F.sc F.bl (fun z => Nat.not_le.mpr F.bl z) hS.st (vp_in_nI (show iL + 2 < L by omega) (by omega)) dL_law_1300 ?_
  obtain ⟨x2, hx2⟩ : ∃ z, z = xs (nI (iL + 2)).toNatClampNeg := ⟨_, rfl⟩
  rw [← hx2]
  refine lv_aload_n hx hb dL_law_1301 rfl (lv_at hl 0 rfl) ?_
  refine lv_iload hx hb dL_law_1302 (lv_at hl 4 rfl) ?_
  refine lv_iconst (v := nI 3) hx hb dL_law_1304 (by decide) ?_
  refine kn_iadd hx hb dL_law_1305 ?_
  refine va_sld hx hb F.sc F.bl (fun z => Nat.not_le.mpr F.bl z) hS.st (vp_in_nI (show iL + 3 < L by omega) (by omega)) dL_law_1306 ?_
  obtain ⟨x3, hx3⟩ : ∃ z, z = xs (nI (iL + 3)).toNatClampNeg := ⟨_, rfl⟩
  rw [← hx3]
  refine lv_if_eq (tgt := 1314) hx hb dL_law_1307 (by decide) (fun k_4 => ?_) (fun k_4 => ?_)
  · skip
    refine lv_iconst (v := bI false) hx hb dL_law_1314 (by decide) ?_
    refine lv_aload_n hx hb dL_law_1315 rfl (lv_at hl 3 rfl) ?_
    refine ll_w (vx_runSW (As := [.ref (ad 57), .int x1, .int x2, .int (bI false), .ref o]) (rest := []) ⟨hx, hb, hml, hown, hts⟩ (m_L_step l F.st dC dI cB ad o S x1 x2 false hI9.x hI9.x5 (by have := hI9.xp; omega)) (vx_cwSW 5 hts gL_law_L_step rfl rfl rfl hdL_step_5.2 ⟨Nat.le_of_ble_eq_true rfl, Nat.le_of_ble_eq_true rfl⟩) (hS.preW F.K) rfl rfl hl.1 rfl (lv_room (Nat.le_of_ble_eq_true rfl)) dL_law_1316 ⟨le_rc (by omega), le_rs (by omega)⟩) F.K hS (fun r0 S1 n1 H locs hq9 hN hS => ?_)
    have hLQ : LQ S S1 := hq9.1
    have hR : R_step x1 x2 false S r0 S1 n1 := hq9.2
    clear hq9
    rcases hR with ⟨hb9, rfl, rfl⟩ | ⟨j, hj, rfl, hb9, rfl, rfl⟩ | ⟨j, k, r7, hj, hk, rfl, rfl, rfl, rfl, hw⟩
    · skip
      refine lv_istore (lv' := [(5, .int (nI 1)), (0, .ref b), (1, .ref (ad 57)), (2, .ref (am 0)), (3, .ref o), (4, .int (nI iL))]) hx hb dL_law_1319 hl (by decide) rfl (fun ls hl => ?_)
      refine lv_aload_n hx hb dL_law_1321 rfl (lv_at hl 3 rfl) ?_
      refine lv_aload_n hx hb dL_law_1322 rfl (lv_at hl 1 rfl) ?_
      refine lv_iload hx hb dL_law_1323 (lv_at hl 5 rfl) ?_
      refine lv_iconst (v := nI 1) hx hb dL_law_1325 (by decide) ?_
      refine kn_iadd hx hb dL_law_1326 ?_
      refine va_sld hx hb F.sc F.bl (fun z => Nat.not_le.mpr F.bl z) hS.st (vp_in_nI (show iL + 1 < L by omega) (by omega)) dL_law_1327 ?_
      rw [← hx1]
      refine lv_aload_n hx hb dL_law_1328 rfl (lv_at hl 1 rfl) ?_
      refine lv_iload hx hb dL_law_1329 (lv_at hl 5 rfl) ?_
      refine lv_iconst (v := nI 2) hx hb dL_law_1331 (by decide) ?_
      refine kn_iadd hx hb dL_law_1332 ?_
      refine va_sld hx hb F.sc F.bl (fun z => Nat.not_le.mpr F.bl z) hS.st (vp_in_nI (show iL + 2 < L by omega) (by omega)) dL_law_1333 ?_
      rw [← hx2]
      refine lv_aload_n hx hb dL_law_1334 rfl (lv_at hl 1 rfl) ?_
      refine lv_iload hx hb dL_law_1335 (lv_at hl 5 rfl) ?_
      refine lv_iconst (v := nI 3) hx hb dL_law_1337 (by decide) ?_
      refine kn_iadd hx hb dL_law_1338 ?_
      refine va_sld hx hb F.sc F.bl (fun z => Nat.not_le.mpr F.bl z) hS.st (vp_in_nI (show iL + 3 < L by omega) (by omega)) dL_law_1339 ?_
      rw [← hx3]
      refine lv_if_eq (tgt := 1347) hx hb dL_law_1340 (by decide) (fun k_5 => ?_) (fun k_5 => absurd k_4 k_5)
      refine lv_iconst (v := bI false) hx hb dL_law_1347 (by decide) ?_
      have hI := hI9.m
      have T := hI9.T
      have hc : M.2.2.2.1 + 12 < 1000000 := by have := hI9.mp; omega
      refine ll_m (va_runV (As := [.int x1, .int x2, .int (bI false)]) (rest := []) ⟨hx, hb, hml, hown, hts⟩ (o_X6_step_1 l dC dI am M x1 x2 false hb9 hI) (cwV 3 hts gL_law_X6_step rfl rfl rfl hdX6_step_3 ⟨Nat.le_of_ble_eq_true rfl, Nat.le_of_ble_eq_true rfl⟩) (hS.preM F.K) rfl rfl hl.1 rfl (lv_room (Nat.le_of_ble_eq_true rfl)) dL_law_1348 ⟨le_rc (by omega), le_rs (by omega)⟩) F.K hS (fun r8 M1 H locs hko hv hS => ?_)
      have hLM : LM M M1 := by rw [hv]; exact LM_th hI _
      have hT : Tie S M1 := by rw [hv]; exact T.th _
      refine lv_istore (lv' := [(6, .int r8), (5, .int (nI 1)), (0, .ref b), (1, .ref (ad 57)), (2, .ref (am 0)), (3, .ref o), (4, .int (nI iL))]) hx hb dL_law_1351 hl (by decide) rfl (fun ls hl => ?_)
      refine lv_goto (tgt := 2052) hx hb dL_law_1353 (by decide) ?_
      exact W.widen (k := 100 + 224 * (n + 1)) (n := 1200 + 10680 * (n + 1)) (by omega) (by omega) (kk9 S M1 _ _ _ (hI9.next hLQ hLM hT) hS (lv_sub hl [2, 3, 4, 5, 6] rfl))
    · skip
      refine lv_istore (lv' := [(5, .int (nI 2)), (0, .ref b), (1, .ref (ad 57)), (2, .ref (am 0)), (3, .ref o), (4, .int (nI iL))]) hx hb dL_law_1319 hl (by decide) rfl (fun ls hl => ?_)
      refine lv_aload_n hx hb dL_law_1321 rfl (lv_at hl 3 rfl) ?_
      refine lv_aload_n hx hb dL_law_1322 rfl (lv_at hl 1 rfl) ?_
      refine lv_iload hx hb dL_law_1323 (lv_at hl 5 rfl) ?_
      refine lv_iconst (v := nI 1) hx hb dL_law_1325 (by decide) ?_
      refine kn_iadd hx hb dL_law_1326 ?_
      refine va_sld hx hb F.sc F.bl (fun z => Nat.not_le.mpr F.bl z) hS.st (vp_in_nI (show iL + 1 < L by omega) (by omega)) dL_law_1327 ?_
      rw [← hx1]
      refine lv_aload_n hx hb dL_law_1328 rfl (lv_at hl 1 rfl) ?_
      refine lv_iload hx hb dL_law_1329 (lv_at hl 5 rfl) ?_
      refine lv_iconst (v := nI 2) hx hb dL_law_1331 (by decide) ?_
      refine kn_iadd hx hb dL_law_1332 ?_
      refine va_sld hx hb F.sc F.bl (fun z => Nat.not_le.mpr F.bl z) hS.st (vp_in_nI (show iL + 2 < L by omega) (by omega)) dL_law_1333 ?_
      rw [← hx2]
      refine lv_aload_n hx hb dL_law_1334 rfl (lv_at hl 1 rfl) ?_
      refine lv_iload hx hb dL_law_1335 (lv_at hl 5 rfl) ?_
      refine lv_iconst (v := nI 3) hx hb dL_law_1337 (by decide) ?_
      refine kn_iadd hx hb dL_law_1338 ?_
      refine va_sld hx hb F.sc F.bl (fun z => Nat.not_le.mpr F.bl z) hS.st (vp_in_nI (show iL + 3 < L by omega) (by omega)) dL_law_1339 ?_
      rw [← hx3]
      refine lv_if_eq (tgt := 1347) hx hb dL_law_1340 (by decide) (fun k_6 => ?_) (fun k_6 => absurd k_4 k_6)
      refine lv_iconst (v := bI false) hx hb dL_law_1347 (by decide) ?_
      have hI := hI9.m
      have T := hI9.T
      have hc : M.2.2.2.1 + 12 < 1000000 := by have := hI9.mp; omega
      refine ll_m (va_runV (As := [.int (nI j), .int x2, .int (bI false)]) (rest := []) ⟨hx, hb, hml, hown, hts⟩ (o_X6_step_2 l dC dI am M j x2 false hj hb9 hI) (cwV 3 hts gL_law_X6_step rfl rfl rfl hdX6_step_3 ⟨Nat.le_of_ble_eq_true rfl, Nat.le_of_ble_eq_true rfl⟩) (hS.preM F.K) rfl rfl hl.1 rfl (lv_room (Nat.le_of_ble_eq_true rfl)) dL_law_1348 ⟨le_rc (by omega), le_rs (by omega)⟩) F.K hS (fun r8 M1 H locs hko hv hS => ?_)
      have hLM : LM M M1 := by rw [hv]; exact LM_th hI _
      have hT : Tie S M1 := by rw [hv]; exact T.th _
      refine lv_istore (lv' := [(6, .int r8), (5, .int (nI 2)), (0, .ref b), (1, .ref (ad 57)), (2, .ref (am 0)), (3, .ref o), (4, .int (nI iL))]) hx hb dL_law_1351 hl (by decide) rfl (fun ls hl => ?_)
      refine lv_goto (tgt := 2052) hx hb dL_law_1353 (by decide) ?_
      exact W.widen (k := 100 + 224 * (n + 1)) (n := 1200 + 10680 * (n + 1)) (by omega) (by omega) (kk9 S M1 _ _ _ (hI9.next hLQ hLM hT) hS (lv_sub hl [2, 3, 4, 5, 6] rfl))
    · skip
      refine lv_istore (lv' := [(5, .int (nI 0)), (0, .ref b), (1, .ref (ad 57)), (2, .ref (am 0)), (3, .ref o), (4, .int (nI iL))]) hx hb dL_law_1319 hl (by decide) rfl (fun ls hl => ?_)
      refine lv_aload_n hx hb dL_law_1321 rfl (lv_at hl 3 rfl) ?_
      refine lv_aload_n hx hb dL_law_1322 rfl (lv_at hl 1 rfl) ?_
      refine lv_iload hx hb dL_law_1323 (lv_at hl 5 rfl) ?_
      refine lv_iconst (v := nI 1) hx hb dL_law_1325 (by decide) ?_
      refine kn_iadd hx hb dL_law_1326 ?_
      refine va_sld hx hb F.sc F.bl (fun z => Nat.not_le.mpr F.bl z) hS.st (vp_in_nI (show iL + 1 < L by omega) (by omega)) dL_law_1327 ?_
      rw [← hx1]
      refine lv_aload_n hx hb dL_law_1328 rfl (lv_at hl 1 rfl) ?_
      refine lv_iload hx hb dL_law_1329 (lv_at hl 5 rfl) ?_
      refine lv_iconst (v := nI 2) hx hb dL_law_1331 (by decide) ?_
      refine kn_iadd hx hb dL_law_1332 ?_
      refine va_sld hx hb F.sc F.bl (fun z => Nat.not_le.mpr F.bl z) hS.st (vp_in_nI (show iL + 2 < L by omega) (by omega)) dL_law_1333 ?_
      rw [← hx2]
      refine lv_aload_n hx hb dL_law_1334 rfl (lv_at hl 1 rfl) ?_
      refine lv_iload hx hb dL_law_1335 (lv_at hl 5 rfl) ?_
      refine lv_iconst (v := nI 3) hx hb dL_law_1337 (by decide) ?_
      refine kn_iadd hx hb dL_law_1338 ?_
      refine va_sld hx hb F.sc F.bl (fun z => Nat.not_le.mpr F.bl z) hS.st (vp_in_nI (show iL + 3 < L by omega) (by omega)) dL_law_1339 ?_
      rw [← hx3]
      refine lv_if_eq (tgt := 1347) hx hb dL_law_1340 (by decide) (fun k_7 => ?_) (fun k_7 => absurd k_4 k_7)
      refine lv_iconst (v := bI false) hx hb dL_law_1347 (by decide) ?_
      have hI := hI9.m
      have T := hI9.T
      have hc : M.2.2.2.1 + 12 < 1000000 := by have := hI9.mp; omega
      refine ll_m (va_runV (As := [.int (nI j), .int (nI k), .int (bI false)]) (rest := []) ⟨hx, hb, hml, hown, hts⟩ (m_X6_step l dC dI am M j k false hj hk hI) (cwV 3 hts gL_law_X6_step rfl rfl rfl hdX6_step_3 ⟨Nat.le_of_ble_eq_true rfl, Nat.le_of_ble_eq_true rfl⟩) (hS.preM F.K) rfl rfl hl.1 rfl (lv_room (Nat.le_of_ble_eq_true rfl)) dL_law_1348 ⟨le_rc (by omega), le_rs (by omega)⟩) F.K hS (fun r8 M1 H locs hko hv hS => ?_)
      have hLM : LM M M1 := hv.elim (fun h => by rw [h.2.2]; exact LM_ord hI (ordM_add (hI.2 j hj) h.1 (by omega))) (fun h => by rw [h.2.2]; exact LM_ref hI)
      obtain ⟨hT, he9, ht9⟩ := A_step T hj hw hv
      refine lv_istore (lv' := [(6, .int r8), (5, .int (nI 0)), (0, .ref b), (1, .ref (ad 57)), (2, .ref (am 0)), (3, .ref o), (4, .int (nI iL))]) hx hb dL_law_1351 hl (by decide) rfl (fun ls hl => ?_)
      refine lv_goto (tgt := 2052) hx hb dL_law_1353 (by decide) ?_
      exact W.widen (k := 100 + 224 * (n + 1)) (n := 1200 + 10680 * (n + 1)) (by omega) (by omega) (kk9 S1 M1 _ _ _ (hI9.next hLQ hLM hT) hS (lv_sub hl [2, 3, 4, 5, 6] rfl))
  · skip
    refine lv_iconst (v := bI true) hx hb dL_law_1310 (by decide) ?_
    refine lv_goto (tgt := 1315) hx hb dL_law_1311 (by decide) ?_
    refine lv_aload_n hx hb dL_law_1315 rfl (lv_at hl 3 rfl) ?_
    refine ll_w (vx_runSW (As := [.ref (ad 57), .int x1, .int x2, .int (bI true), .ref o]) (rest := []) ⟨hx, hb, hml, hown, hts⟩ (m_L_step l F.st dC dI cB ad o S x1 x2 true hI9.x hI9.x5 (by have := hI9.xp; omega)) (vx_cwSW 5 hts gL_law_L_step rfl rfl rfl hdL_step_5.2 ⟨Nat.le_of_ble_eq_true rfl, Nat.le_of_ble_eq_true rfl⟩) (hS.preW F.K) rfl rfl hl.1 rfl (lv_room (Nat.le_of_ble_eq_true rfl)) dL_law_1316 ⟨le_rc (by omega), le_rs (by omega)⟩) F.K hS (fun r0 S1 n1 H locs hq9 hN hS => ?_)
    have hLQ : LQ S S1 := hq9.1
    have hR : R_step x1 x2 true S r0 S1 n1 := hq9.2
    clear hq9
    rcases hR with ⟨hb9, rfl, rfl⟩ | ⟨j, hj, rfl, hb9, rfl, rfl⟩ | ⟨j, k, r7, hj, hk, rfl, rfl, rfl, rfl, hw⟩
    · skip
      refine lv_istore (lv' := [(5, .int (nI 1)), (0, .ref b), (1, .ref (ad 57)), (2, .ref (am 0)), (3, .ref o), (4, .int (nI iL))]) hx hb dL_law_1319 hl (by decide) rfl (fun ls hl => ?_)
      refine lv_aload_n hx hb dL_law_1321 rfl (lv_at hl 3 rfl) ?_
      refine lv_aload_n hx hb dL_law_1322 rfl (lv_at hl 1 rfl) ?_
      refine lv_iload hx hb dL_law_1323 (lv_at hl 5 rfl) ?_
      refine lv_iconst (v := nI 1) hx hb dL_law_1325 (by decide) ?_
      refine kn_iadd hx hb dL_law_1326 ?_
      refine va_sld hx hb F.sc F.bl (fun z => Nat.not_le.mpr F.bl z) hS.st (vp_in_nI (show iL + 1 < L by omega) (by omega)) dL_law_1327 ?_
      rw [← hx1]
      refine lv_aload_n hx hb dL_law_1328 rfl (lv_at hl 1 rfl) ?_
      refine lv_iload hx hb dL_law_1329 (lv_at hl 5 rfl) ?_
      refine lv_iconst (v := nI 2) hx hb dL_law_1331 (by decide) ?_
      refine kn_iadd hx hb dL_law_1332 ?_
      refine va_sld hx hb F.sc F.bl (fun z => Nat.not_le.mpr F.bl z) hS.st (vp_in_nI (show iL + 2 < L by omega) (by omega)) dL_law_1333 ?_
      rw [← hx2]
      refine lv_aload_n hx hb dL_law_1334 rfl (lv_at hl 1 rfl) ?_
      refine lv_iload hx hb dL_law_1335 (lv_at hl 5 rfl) ?_
      refine lv_iconst (v := nI 3) hx hb dL_law_1337 (by decide) ?_
      refine kn_iadd hx hb dL_law_1338 ?_
      refine va_sld hx hb F.sc F.bl (fun z => Nat.not_le.mpr F.bl z) hS.st (vp_in_nI (show iL + 3 < L by omega) (by omega)) dL_law_1339 ?_
      rw [← hx3]
      refine lv_if_eq (tgt := 1347) hx hb dL_law_1340 (by decide) (fun k_8 => absurd k_8 k_4) (fun k_8 => ?_)
      refine lv_iconst (v := bI true) hx hb dL_law_1343 (by decide) ?_
      refine lv_goto (tgt := 1348) hx hb dL_law_1344 (by decide) ?_
      have hI := hI9.m
      have T := hI9.T
      have hc : M.2.2.2.1 + 12 < 1000000 := by have := hI9.mp; omega
      refine ll_m (va_runV (As := [.int x1, .int x2, .int (bI true)]) (rest := []) ⟨hx, hb, hml, hown, hts⟩ (o_X6_step_1 l dC dI am M x1 x2 true hb9 hI) (cwV 3 hts gL_law_X6_step rfl rfl rfl hdX6_step_3 ⟨Nat.le_of_ble_eq_true rfl, Nat.le_of_ble_eq_true rfl⟩) (hS.preM F.K) rfl rfl hl.1 rfl (lv_room (Nat.le_of_ble_eq_true rfl)) dL_law_1348 ⟨le_rc (by omega), le_rs (by omega)⟩) F.K hS (fun r8 M1 H locs hko hv hS => ?_)
      have hLM : LM M M1 := by rw [hv]; exact LM_th hI _
      have hT : Tie S M1 := by rw [hv]; exact T.th _
      refine lv_istore (lv' := [(6, .int r8), (5, .int (nI 1)), (0, .ref b), (1, .ref (ad 57)), (2, .ref (am 0)), (3, .ref o), (4, .int (nI iL))]) hx hb dL_law_1351 hl (by decide) rfl (fun ls hl => ?_)
      refine lv_goto (tgt := 2052) hx hb dL_law_1353 (by decide) ?_
      exact W.widen (k := 100 + 224 * (n + 1)) (n := 1200 + 10680 * (n + 1)) (by omega) (by omega) (kk9 S M1 _ _ _ (hI9.next hLQ hLM hT) hS (lv_sub hl [2, 3, 4, 5, 6] rfl))
    · skip
      refine lv_istore (lv' := [(5, .int (nI 2)), (0, .ref b), (1, .ref (ad 57)), (2, .ref (am 0)), (3, .ref o), (4, .int (nI iL))]) hx hb dL_law_1319 hl (by decide) rfl (fun ls hl => ?_)
      refine lv_aload_n hx hb dL_law_1321 rfl (lv_at hl 3 rfl) ?_
      refine lv_aload_n hx hb dL_law_1322 rfl (lv_at hl 1 rfl) ?_
      refine lv_iload hx hb dL_law_1323 (lv_at hl 5 rfl) ?_
      refine lv_iconst (v := nI 1) hx hb dL_law_1325 (by decide) ?_
      refine kn_iadd hx hb dL_law_1326 ?_
      refine va_sld hx hb F.sc F.bl (fun z => Nat.not_le.mpr F.bl z) hS.st (vp_in_nI (show iL + 1 < L by omega) (by omega)) dL_law_1327 ?_
      rw [← hx1]
      refine lv_aload_n hx hb dL_law_1328 rfl (lv_at hl 1 rfl) ?_
      refine lv_iload hx hb dL_law_1329 (lv_at hl 5 rfl) ?_
      refine lv_iconst (v := nI 2) hx hb dL_law_1331 (by decide) ?_
      refine kn_iadd hx hb dL_law_1332 ?_
      refine va_sld hx hb F.sc F.bl (fun z => Nat.not_le.mpr F.bl z) hS.st (vp_in_nI (show iL + 2 < L by omega) (by omega)) dL_law_1333 ?_
      rw [← hx2]
      refine lv_aload_n hx hb dL_law_1334 rfl (lv_at hl 1 rfl) ?_
      refine lv_iload hx hb dL_law_1335 (lv_at hl 5 rfl) ?_
      refine lv_iconst (v := nI 3) hx hb dL_law_1337 (by decide) ?_
      refine kn_iadd hx hb dL_law_1338 ?_
      refine va_sld hx hb F.sc F.bl (fun z => Nat.not_le.mpr F.bl z) hS.st (vp_in_nI (show iL + 3 < L by omega) (by omega)) dL_law_1339 ?_
      rw [← hx3]
      refine lv_if_eq (tgt := 1347) hx hb dL_law_1340 (by decide) (fun k_9 => absurd k_9 k_4) (fun k_9 => ?_)
      refine lv_iconst (v := bI true) hx hb dL_law_1343 (by decide) ?_
      refine lv_goto (tgt := 1348) hx hb dL_law_1344 (by decide) ?_
      have hI := hI9.m
      have T := hI9.T
      have hc : M.2.2.2.1 + 12 < 1000000 := by have := hI9.mp; omega
      refine ll_m (va_runV (As := [.int (nI j), .int x2, .int (bI true)]) (rest := []) ⟨hx, hb, hml, hown, hts⟩ (o_X6_step_2 l dC dI am M j x2 true hj hb9 hI) (cwV 3 hts gL_law_X6_step rfl rfl rfl hdX6_step_3 ⟨Nat.le_of_ble_eq_true rfl, Nat.le_of_ble_eq_true rfl⟩) (hS.preM F.K) rfl rfl hl.1 rfl (lv_room (Nat.le_of_ble_eq_true rfl)) dL_law_1348 ⟨le_rc (by omega), le_rs (by omega)⟩) F.K hS (fun r8 M1 H locs hko hv hS => ?_)
      have hLM : LM M M1 := by rw [hv]; exact LM_th hI _
      have hT : Tie S M1 := by rw [hv]; exact T.th _
      refine lv_istore (lv' := [(6, .int r8), (5, .int (nI 2)), (0, .ref b), (1, .ref (ad 57)), (2, .ref (am 0)), (3, .ref o), (4, .int (nI iL))]) hx hb dL_law_1351 hl (by decide) rfl (fun ls hl => ?_)
      refine lv_goto (tgt := 2052) hx hb dL_law_1353 (by decide) ?_
      exact W.widen (k := 100 + 224 * (n + 1)) (n := 1200 + 10680 * (n + 1)) (by omega) (by omega) (kk9 S M1 _ _ _ (hI9.next hLQ hLM hT) hS (lv_sub hl [2, 3, 4, 5, 6] rfl))
    · skip
      refine lv_istore (lv' := [(5, .int (nI 0)), (0, .ref b), (1, .ref (ad 57)), (2, .ref (am 0)), (3, .ref o), (4, .int (nI iL))]) hx hb dL_law_1319 hl (by decide) rfl (fun ls hl => ?_)
      refine lv_aload_n hx hb dL_law_1321 rfl (lv_at hl 3 rfl) ?_
      refine lv_aload_n hx hb dL_law_1322 rfl (lv_at hl 1 rfl) ?_
      refine lv_iload hx hb dL_law_1323 (lv_at hl 5 rfl) ?_
      refine lv_iconst (v := nI 1) hx hb dL_law_1325 (by decide) ?_
      refine kn_iadd hx hb dL_law_1326 ?_
      refine va_sld hx hb F.sc F.bl (fun z => Nat.not_le.mpr F.bl z) hS.st (vp_in_nI (show iL + 1 < L by omega) (by omega)) dL_law_1327 ?_
      rw [← hx1]
      refine lv_aload_n hx hb dL_law_1328 rfl (lv_at hl 1 rfl) ?_
      refine lv_iload hx hb dL_law_1329 (lv_at hl 5 rfl) ?_
      refine lv_iconst (v := nI 2) hx hb dL_law_1331 (by decide) ?_
      refine kn_iadd hx hb dL_law_1332 ?_
      refine va_sld hx hb F.sc F.bl (fun z => Nat.not_le.mpr F.bl z) hS.st (vp_in_nI (show iL + 2 < L by omega) (by omega)) dL_law_1333 ?_
      rw [← hx2]
      refine lv_aload_n hx hb dL_law_1334 rfl (lv_at hl 1 rfl) ?_
      refine lv_iload hx hb dL_law_1335 (lv_at hl 5 rfl) ?_
      refine lv_iconst (v := nI 3) hx hb dL_law_1337 (by decide) ?_
      refine kn_iadd hx hb dL_law_1338 ?_
      refine va_sld hx hb F.sc F.bl (fun z => Nat.not_le.mpr F.bl z) hS.st (vp_in_nI (show iL + 3 < L by omega) (by omega)) dL_law_1339 ?_
      rw [← hx3]
      refine lv_if_eq (tgt := 1347) hx hb dL_law_1340 (by decide) (fun k_10 => absurd k_10 k_4) (fun k_10 => ?_)
      refine lv_iconst (v := bI true) hx hb dL_law_1343 (by decide) ?_
      refine lv_goto (tgt := 1348) hx hb dL_law_1344 (by decide) ?_
      have hI := hI9.m
      have T := hI9.T
      have hc : M.2.2.2.1 + 12 < 1000000 := by have := hI9.mp; omega
      refine ll_m (va_runV (As := [.int (nI j), .int (nI k), .int (bI true)]) (rest := []) ⟨hx, hb, hml, hown, hts⟩ (m_X6_step l dC dI am M j k true hj hk hI) (cwV 3 hts gL_law_X6_step rfl rfl rfl hdX6_step_3 ⟨Nat.le_of_ble_eq_true rfl, Nat.le_of_ble_eq_true rfl⟩) (hS.preM F.K) rfl rfl hl.1 rfl (lv_room (Nat.le_of_ble_eq_true rfl)) dL_law_1348 ⟨le_rc (by omega), le_rs (by omega)⟩) F.K hS (fun r8 M1 H locs hko hv hS => ?_)
      have hLM : LM M M1 := hv.elim (fun h => by rw [h.2.2]; exact LM_ord hI (ordM_add (hI.2 j hj) h.1 (by omega))) (fun h => by rw [h.2.2]; exact LM_ref hI)
      obtain ⟨hT, he9, ht9⟩ := A_step T hj hw hv
      refine lv_istore (lv' := [(6, .int r8), (5, .int (nI 0)), (0, .ref b), (1, .ref (ad 57)), (2, .ref (am 0)), (3, .ref o), (4, .int (nI iL))]) hx hb dL_law_1351 hl (by decide) rfl (fun ls hl => ?_)
      refine lv_goto (tgt := 2052) hx hb dL_law_1353 (by decide) ?_
      exact W.widen (k := 100 + 224 * (n + 1)) (n := 1200 + 10680 * (n + 1)) (by omega) (by omega) (kk9 S1 M1 _ _ _ (hI9.next hLQ hLM hT) hS (lv_sub hl [2, 3, 4, 5, 6] rfl))
set_option maxHeartbeats 4000000 in
set_option maxRecDepth 100000 in
theorem lc_24 {p : Program} {l : Launch} {e : Env} {s : State} {m : MethodId} {below : List Frame} {meth : Method} {c : Code} {b L : Nat} {xs : Nat → Int32} {dC : Nat → ClassId} {dI : Nat → Nat → Nat} {cB : ClassId} {ad am : Nat → Nat} {o n iL : Nat} {Q : State → Prop} (F : LF p l s m c b L xs dC dI cB ad am o) (hni : iL = 5 * n) (hiL : iL + 5 ≤ L) : LCase p l e s m below meth c b dC dI ad am o n iL Q 1356 := by
  intro S M H locs hI9 hS kk9 ls hl
  have hx := F.x
  have hb := F.b
  have hml := F.ml
  have hown := F.own
  have hts := F.ts
  have hL := F.hL
  have hn9 : n ≤ 511 := by omega
  refine lv_aload_n hx hb dL_law_1356 rfl (lv_at hl 1 rfl) ?_
  refine lv_aload_n hx hb dL_law_1357 rfl (lv_at hl 0 rfl) ?_
  refine lv_iload hx hb dL_law_1358 (lv_at hl 4 rfl) ?_
  refine lv_iconst (v := nI 1) hx hb dL_law_1360 (by decide) ?_
  refine kn_iadd hx hb dL_law_1361 ?_
  refine va_sld hx hb F.sc F.bl (fun z => Nat.not_le.mpr F.bl z) hS.st (vp_in_nI (show iL + 1 < L by omega) (by omega)) dL_law_1362 ?_
  obtain ⟨x1, hx1⟩ : ∃ z, z = xs (nI (iL + 1)).toNatClampNeg := ⟨_, rfl⟩
  rw [← hx1]
  refine lv_aload_n hx hb dL_law_1363 rfl (lv_at hl 3 rfl) ?_
  refine ll_w (vx_runSW (As := [.ref (ad 57), .int x1, .ref o]) (rest := []) ⟨hx, hb, hml, hown, hts⟩ (m_L_unstep l F.st dC dI cB ad o S x1 hI9.x hI9.x5 (by have := hI9.xp; omega)) (vx_cwSW 3 hts gL_law_L_unstep rfl rfl rfl hdL_unstep_3.2 ⟨Nat.le_of_ble_eq_true rfl, Nat.le_of_ble_eq_true rfl⟩) (hS.preW F.K) rfl rfl hl.1 rfl (lv_room (Nat.le_of_ble_eq_true rfl)) dL_law_1364 ⟨le_rc (by omega), le_rs (by omega)⟩) F.K hS (fun r0 S1 n1 H locs hq9 hN hS => ?_)
  have hLQ : LQ S S1 := hq9.1
  have hR : R_unstep x1 S r0 S1 n1 := hq9.2
  clear hq9
  rcases hR with ⟨hb9, rfl, rfl⟩ | ⟨j, r7, hj, rfl, rfl, rfl, hw⟩
  · skip
    refine lv_istore (lv' := [(5, .int (nI 1)), (0, .ref b), (1, .ref (ad 57)), (2, .ref (am 0)), (3, .ref o), (4, .int (nI iL))]) hx hb dL_law_1367 hl (by decide) rfl (fun ls hl => ?_)
    refine lv_aload_n hx hb dL_law_1369 rfl (lv_at hl 3 rfl) ?_
    refine lv_aload_n hx hb dL_law_1370 rfl (lv_at hl 1 rfl) ?_
    refine lv_iload hx hb dL_law_1371 (lv_at hl 5 rfl) ?_
    refine lv_iconst (v := nI 1) hx hb dL_law_1373 (by decide) ?_
    refine kn_iadd hx hb dL_law_1374 ?_
    refine va_sld hx hb F.sc F.bl (fun z => Nat.not_le.mpr F.bl z) hS.st (vp_in_nI (show iL + 1 < L by omega) (by omega)) dL_law_1375 ?_
    rw [← hx1]
    have hI := hI9.m
    have T := hI9.T
    have hc : M.2.2.2.1 + 12 < 1000000 := by have := hI9.mp; omega
    refine ll_m (va_runV (As := [.int x1]) (rest := []) ⟨hx, hb, hml, hown, hts⟩ (o_X6_unstep_1 l dC dI am M x1 hb9 hI) (cwV 1 hts gL_law_X6_unstep rfl rfl rfl hdX6_unstep_1 ⟨Nat.le_of_ble_eq_true rfl, Nat.le_of_ble_eq_true rfl⟩) (hS.preM F.K) rfl rfl hl.1 rfl (lv_room (Nat.le_of_ble_eq_true rfl)) dL_law_1376 ⟨le_rc (by omega), le_rs (by omega)⟩) F.K hS (fun r8 M1 H locs hko hv hS => ?_)
    have hLM : LM M M1 := by rw [hv]; exact LM_th hI _
    have hT : Tie S M1 := by rw [hv]; exact T.th _
    refine lv_istore (lv' := [(6, .int r8), (5, .int (nI 1)), (0, .ref b), (1, .ref (ad 57)), (2, .ref (am 0)), (3, .ref o), (4, .int (nI iL))]) hx hb dL_law_1379 hl (by decide) rfl (fun ls hl => ?_)
    refine lv_goto (tgt := 2052) hx hb dL_law_1381 (by decide) ?_
    exact W.widen (k := 100 + 224 * (n + 1)) (n := 1200 + 10680 * (n + 1)) (by omega) (by omega) (kk9 S M1 _ _ _ (hI9.next hLQ hLM hT) hS (lv_sub hl [2, 3, 4, 5, 6] rfl))
  · skip
    refine lv_istore (lv' := [(5, .int (nI 0)), (0, .ref b), (1, .ref (ad 57)), (2, .ref (am 0)), (3, .ref o), (4, .int (nI iL))]) hx hb dL_law_1367 hl (by decide) rfl (fun ls hl => ?_)
    refine lv_aload_n hx hb dL_law_1369 rfl (lv_at hl 3 rfl) ?_
    refine lv_aload_n hx hb dL_law_1370 rfl (lv_at hl 1 rfl) ?_
    refine lv_iload hx hb dL_law_1371 (lv_at hl 5 rfl) ?_
    refine lv_iconst (v := nI 1) hx hb dL_law_1373 (by decide) ?_
    refine kn_iadd hx hb dL_law_1374 ?_
    refine va_sld hx hb F.sc F.bl (fun z => Nat.not_le.mpr F.bl z) hS.st (vp_in_nI (show iL + 1 < L by omega) (by omega)) dL_law_1375 ?_
    rw [← hx1]
    have hI := hI9.m
    have T := hI9.T
    have hc : M.2.2.2.1 + 12 < 1000000 := by have := hI9.mp; omega
    refine ll_m (va_runV (As := [.int (nI j)]) (rest := []) ⟨hx, hb, hml, hown, hts⟩ (m_X6_unstep l dC dI am M j hj hI) (cwV 1 hts gL_law_X6_unstep rfl rfl rfl hdX6_unstep_1 ⟨Nat.le_of_ble_eq_true rfl, Nat.le_of_ble_eq_true rfl⟩) (hS.preM F.K) rfl rfl hl.1 rfl (lv_room (Nat.le_of_ble_eq_true rfl)) dL_law_1376 ⟨le_rc (by omega), le_rs (by omega)⟩) F.K hS (fun r8 M1 H locs hko hv hS => ?_)
    have hLM : LM M M1 := hv.elim (fun h => by rw [h.2.2]; exact LM_ord hI ⟨by have := (hI.2 j hj).1; show (M.2.1 j).2.2 - 1 ≤ 5; omega, (hI.2 j hj).2⟩) (fun h => by rw [h.2.2]; exact LM_ref hI)
    obtain ⟨hT, he9, ht9⟩ := A_unstep T hj hw hv
    refine lv_istore (lv' := [(6, .int r8), (5, .int (nI 0)), (0, .ref b), (1, .ref (ad 57)), (2, .ref (am 0)), (3, .ref o), (4, .int (nI iL))]) hx hb dL_law_1379 hl (by decide) rfl (fun ls hl => ?_)
    refine lv_goto (tgt := 2052) hx hb dL_law_1381 (by decide) ?_
    exact W.widen (k := 100 + 224 * (n + 1)) (n := 1200 + 10680 * (n + 1)) (by omega) (by omega) (kk9 S1 M1 _ _ _ (hI9.next hLQ hLM hT) hS (lv_sub hl [2, 3, 4, 5, 6] rfl))
set_option maxHeartbeats 4000000 in
set_option maxRecDepth 100000 in
theorem lc_25 {p : Program} {l : Launch} {e : Env} {s : State} {m : MethodId} {below : List Frame} {meth : Method} {c : Code} {b L : Nat} {xs : Nat → Int32} {dC : Nat → ClassId} {dI : Nat → Nat → Nat} {cB : ClassId} {ad am : Nat → Nat} {o n iL : Nat} {Q : State → Prop} (F : LF p l s m c b L xs dC dI cB ad am o) (hni : iL = 5 * n) (hiL : iL + 5 ≤ L) : LCase p l e s m below meth c b dC dI ad am o n iL Q 1384 := by
  intro S M H locs hI9 hS kk9 ls hl
  have hx := F.x
  have hb := F.b
  have hml := F.ml
  have hown := F.own
  have hts := F.ts
  have hL := F.hL
  have hn9 : n ≤ 511 := by omega
  refine lv_aload_n hx hb dL_law_1384 rfl (lv_at hl 1 rfl) ?_
  refine lv_aload_n hx hb dL_law_1385 rfl (lv_at hl 0 rfl) ?_
  refine lv_iload hx hb dL_law_1386 (lv_at hl 4 rfl) ?_
  refine lv_iconst (v := nI 1) hx hb dL_law_1388 (by decide) ?_
  refine kn_iadd hx hb dL_law_1389 ?_
  refine va_sld hx hb F.sc F.bl (fun z => Nat.not_le.mpr F.bl z) hS.st (vp_in_nI (show iL + 1 < L by omega) (by omega)) dL_law_1390 ?_
  obtain ⟨x1, hx1⟩ : ∃ z, z = xs (nI (iL + 1)).toNatClampNeg := ⟨_, rfl⟩
  rw [← hx1]
  refine lv_aload_n hx hb dL_law_1391 rfl (lv_at hl 3 rfl) ?_
  refine ll_w (vx_runSW (As := [.ref (ad 57), .int x1, .ref o]) (rest := []) ⟨hx, hb, hml, hown, hts⟩ (m_L_wipe l F.st dC dI cB ad o S x1 hI9.x hI9.x5 (by have := hI9.xp; omega)) (vx_cwSW 3 hts gL_law_L_wipe rfl rfl rfl hdL_wipe_3.2 ⟨Nat.le_of_ble_eq_true rfl, Nat.le_of_ble_eq_true rfl⟩) (hS.preW F.K) rfl rfl hl.1 rfl (lv_room (Nat.le_of_ble_eq_true rfl)) dL_law_1392 ⟨le_rc (by omega), le_rs (by omega)⟩) F.K hS (fun r0 S1 n1 H locs hq9 hN hS => ?_)
  have hLQ : LQ S S1 := hq9.1
  have hR : R_wipe x1 S r0 S1 n1 := hq9.2
  clear hq9
  rcases hR with ⟨hb9, rfl, rfl⟩ | ⟨j, r7, hj, rfl, rfl, rfl, hw⟩
  · skip
    refine lv_istore (lv' := [(5, .int (nI 1)), (0, .ref b), (1, .ref (ad 57)), (2, .ref (am 0)), (3, .ref o), (4, .int (nI iL))]) hx hb dL_law_1395 hl (by decide) rfl (fun ls hl => ?_)
    refine lv_aload_n hx hb dL_law_1397 rfl (lv_at hl 3 rfl) ?_
    refine lv_aload_n hx hb dL_law_1398 rfl (lv_at hl 1 rfl) ?_
    refine lv_iload hx hb dL_law_1399 (lv_at hl 5 rfl) ?_
    refine lv_iconst (v := nI 1) hx hb dL_law_1401 (by decide) ?_
    refine kn_iadd hx hb dL_law_1402 ?_
    refine va_sld hx hb F.sc F.bl (fun z => Nat.not_le.mpr F.bl z) hS.st (vp_in_nI (show iL + 1 < L by omega) (by omega)) dL_law_1403 ?_
    rw [← hx1]
    have hI := hI9.m
    have T := hI9.T
    have hc : M.2.2.2.1 + 12 < 1000000 := by have := hI9.mp; omega
    refine ll_m (va_runV (As := [.int x1]) (rest := []) ⟨hx, hb, hml, hown, hts⟩ (o_X6_wipe_1 l dC dI am M x1 hb9 hI) (cwV 1 hts gL_law_X6_wipe rfl rfl rfl hdX6_wipe_1 ⟨Nat.le_of_ble_eq_true rfl, Nat.le_of_ble_eq_true rfl⟩) (hS.preM F.K) rfl rfl hl.1 rfl (lv_room (Nat.le_of_ble_eq_true rfl)) dL_law_1404 ⟨le_rc (by omega), le_rs (by omega)⟩) F.K hS (fun r8 M1 H locs hko hv hS => ?_)
    have hLM : LM M M1 := by rw [hv]; exact LM_th hI _
    have hT : Tie S M1 := by rw [hv]; exact T.th _
    refine lv_istore (lv' := [(6, .int r8), (5, .int (nI 1)), (0, .ref b), (1, .ref (ad 57)), (2, .ref (am 0)), (3, .ref o), (4, .int (nI iL))]) hx hb dL_law_1407 hl (by decide) rfl (fun ls hl => ?_)
    refine lv_goto (tgt := 2052) hx hb dL_law_1409 (by decide) ?_
    exact W.widen (k := 100 + 224 * (n + 1)) (n := 1200 + 10680 * (n + 1)) (by omega) (by omega) (kk9 S M1 _ _ _ (hI9.next hLQ hLM hT) hS (lv_sub hl [2, 3, 4, 5, 6] rfl))
  · skip
    refine lv_istore (lv' := [(5, .int (nI 0)), (0, .ref b), (1, .ref (ad 57)), (2, .ref (am 0)), (3, .ref o), (4, .int (nI iL))]) hx hb dL_law_1395 hl (by decide) rfl (fun ls hl => ?_)
    refine lv_aload_n hx hb dL_law_1397 rfl (lv_at hl 3 rfl) ?_
    refine lv_aload_n hx hb dL_law_1398 rfl (lv_at hl 1 rfl) ?_
    refine lv_iload hx hb dL_law_1399 (lv_at hl 5 rfl) ?_
    refine lv_iconst (v := nI 1) hx hb dL_law_1401 (by decide) ?_
    refine kn_iadd hx hb dL_law_1402 ?_
    refine va_sld hx hb F.sc F.bl (fun z => Nat.not_le.mpr F.bl z) hS.st (vp_in_nI (show iL + 1 < L by omega) (by omega)) dL_law_1403 ?_
    rw [← hx1]
    have hI := hI9.m
    have T := hI9.T
    have hc : M.2.2.2.1 + 12 < 1000000 := by have := hI9.mp; omega
    refine ll_m (va_runV (As := [.int (nI j)]) (rest := []) ⟨hx, hb, hml, hown, hts⟩ (m_X6_wipe l dC dI am M j hj hI) (cwV 1 hts gL_law_X6_wipe rfl rfl rfl hdX6_wipe_1 ⟨Nat.le_of_ble_eq_true rfl, Nat.le_of_ble_eq_true rfl⟩) (hS.preM F.K) rfl rfl hl.1 rfl (lv_room (Nat.le_of_ble_eq_true rfl)) dL_law_1404 ⟨le_rc (by omega), le_rs (by omega)⟩) F.K hS (fun r8 M1 H locs hko hv hS => ?_)
    have hLM : LM M M1 := by rw [hv.2]; exact LM_ord hI ⟨Nat.zero_le _, (hI.2 j hj).2⟩
    obtain ⟨hT, he9, ht9⟩ := A_wipe T hj hw hv
    refine lv_istore (lv' := [(6, .int r8), (5, .int (nI 0)), (0, .ref b), (1, .ref (ad 57)), (2, .ref (am 0)), (3, .ref o), (4, .int (nI iL))]) hx hb dL_law_1407 hl (by decide) rfl (fun ls hl => ?_)
    refine lv_goto (tgt := 2052) hx hb dL_law_1409 (by decide) ?_
    exact W.widen (k := 100 + 224 * (n + 1)) (n := 1200 + 10680 * (n + 1)) (by omega) (by omega) (kk9 S1 M1 _ _ _ (hI9.next hLQ hLM hT) hS (lv_sub hl [2, 3, 4, 5, 6] rfl))
set_option maxHeartbeats 4000000 in
set_option maxRecDepth 100000 in
theorem lc_26 {p : Program} {l : Launch} {e : Env} {s : State} {m : MethodId} {below : List Frame} {meth : Method} {c : Code} {b L : Nat} {xs : Nat → Int32} {dC : Nat → ClassId} {dI : Nat → Nat → Nat} {cB : ClassId} {ad am : Nat → Nat} {o n iL : Nat} {Q : State → Prop} (F : LF p l s m c b L xs dC dI cB ad am o) (hni : iL = 5 * n) (hiL : iL + 5 ≤ L) : LCase p l e s m below meth c b dC dI ad am o n iL Q 1412 := by
  intro S M H locs hI9 hS kk9 ls hl
  have hx := F.x
  have hb := F.b
  have hml := F.ml
  have hown := F.own
  have hts := F.ts
  have hL := F.hL
  have hn9 : n ≤ 511 := by omega
  refine lv_aload_n hx hb dL_law_1412 rfl (lv_at hl 1 rfl) ?_
  refine lv_aload_n hx hb dL_law_1413 rfl (lv_at hl 0 rfl) ?_
  refine lv_iload hx hb dL_law_1414 (lv_at hl 4 rfl) ?_
  refine lv_iconst (v := nI 1) hx hb dL_law_1416 (by decide) ?_
  refine kn_iadd hx hb dL_law_1417 ?_
  refine va_sld hx hb F.sc F.bl (fun z => Nat.not_le.mpr F.bl z) hS.st (vp_in_nI (show iL + 1 < L by omega) (by omega)) dL_law_1418 ?_
  obtain ⟨x1, hx1⟩ : ∃ z, z = xs (nI (iL + 1)).toNatClampNeg := ⟨_, rfl⟩
  rw [← hx1]
  refine lv_aload_n hx hb dL_law_1419 rfl (lv_at hl 0 rfl) ?_
  refine lv_iload hx hb dL_law_1420 (lv_at hl 4 rfl) ?_
  refine lv_iconst (v := nI 2) hx hb dL_law_1422 (by decide) ?_
  refine kn_iadd hx hb dL_law_1423 ?_
  refine va_sld hx hb F.sc F.bl (fun z => Nat.not_le.mpr F.bl z) hS.st (vp_in_nI (show iL + 2 < L by omega) (by omega)) dL_law_1424 ?_
  obtain ⟨x2, hx2⟩ : ∃ z, z = xs (nI (iL + 2)).toNatClampNeg := ⟨_, rfl⟩
  rw [← hx2]
  refine lv_aload_n hx hb dL_law_1425 rfl (lv_at hl 3 rfl) ?_
  refine ll_w (vx_runSW (As := [.ref (ad 57), .int x1, .int x2, .ref o]) (rest := []) ⟨hx, hb, hml, hown, hts⟩ (m_L_copyOrder l F.st dC dI cB ad o S x1 x2 hI9.x hI9.x5 (by have := hI9.xp; omega)) (vx_cwSW 4 hts gL_law_L_copyOrder rfl rfl rfl hdL_copyOrder_4.2 ⟨Nat.le_of_ble_eq_true rfl, Nat.le_of_ble_eq_true rfl⟩) (hS.preW F.K) rfl rfl hl.1 rfl (lv_room (Nat.le_of_ble_eq_true rfl)) dL_law_1426 ⟨le_rc (by omega), le_rs (by omega)⟩) F.K hS (fun r0 S1 n1 H locs hq9 hN hS => ?_)
  have hLQ : LQ S S1 := hq9.1
  have hR : R_copyOrder x1 x2 S r0 S1 n1 := hq9.2
  clear hq9
  rcases hR with ⟨hb9, rfl, rfl⟩ | ⟨j, hj, rfl, hb9, rfl, rfl⟩ | ⟨j, j2, r7, hj, hj2, rfl, rfl, rfl, rfl, hw⟩
  · skip
    refine lv_istore (lv' := [(5, .int (nI 1)), (0, .ref b), (1, .ref (ad 57)), (2, .ref (am 0)), (3, .ref o), (4, .int (nI iL))]) hx hb dL_law_1429 hl (by decide) rfl (fun ls hl => ?_)
    refine lv_aload_n hx hb dL_law_1431 rfl (lv_at hl 3 rfl) ?_
    refine lv_aload_n hx hb dL_law_1432 rfl (lv_at hl 1 rfl) ?_
    refine lv_iload hx hb dL_law_1433 (lv_at hl 5 rfl) ?_
    refine lv_iconst (v := nI 1) hx hb dL_law_1435 (by decide) ?_
    refine kn_iadd hx hb dL_law_1436 ?_
    refine va_sld hx hb F.sc F.bl (fun z => Nat.not_le.mpr F.bl z) hS.st (vp_in_nI (show iL + 1 < L by omega) (by omega)) dL_law_1437 ?_
    rw [← hx1]
    refine lv_aload_n hx hb dL_law_1438 rfl (lv_at hl 1 rfl) ?_
    refine lv_iload hx hb dL_law_1439 (lv_at hl 5 rfl) ?_
    refine lv_iconst (v := nI 2) hx hb dL_law_1441 (by decide) ?_
    refine kn_iadd hx hb dL_law_1442 ?_
    refine va_sld hx hb F.sc F.bl (fun z => Nat.not_le.mpr F.bl z) hS.st (vp_in_nI (show iL + 2 < L by omega) (by omega)) dL_law_1443 ?_
    rw [← hx2]
    have hI := hI9.m
    have T := hI9.T
    have hc : M.2.2.2.1 + 12 < 1000000 := by have := hI9.mp; omega
    refine ll_m (va_runV (As := [.int x1, .int x2]) (rest := []) ⟨hx, hb, hml, hown, hts⟩ (o_X6_copyOrder_1 l dC dI am M x1 x2 hb9 hI) (cwV 2 hts gL_law_X6_copyOrder rfl rfl rfl hdX6_copyOrder_2 ⟨Nat.le_of_ble_eq_true rfl, Nat.le_of_ble_eq_true rfl⟩) (hS.preM F.K) rfl rfl hl.1 rfl (lv_room (Nat.le_of_ble_eq_true rfl)) dL_law_1444 ⟨le_rc (by omega), le_rs (by omega)⟩) F.K hS (fun r8 M1 H locs hko hv hS => ?_)
    have hLM : LM M M1 := by rw [hv]; exact LM_th hI _
    have hT : Tie S M1 := by rw [hv]; exact T.th _
    refine lv_istore (lv' := [(6, .int r8), (5, .int (nI 1)), (0, .ref b), (1, .ref (ad 57)), (2, .ref (am 0)), (3, .ref o), (4, .int (nI iL))]) hx hb dL_law_1447 hl (by decide) rfl (fun ls hl => ?_)
    refine lv_goto (tgt := 2052) hx hb dL_law_1449 (by decide) ?_
    exact W.widen (k := 100 + 224 * (n + 1)) (n := 1200 + 10680 * (n + 1)) (by omega) (by omega) (kk9 S M1 _ _ _ (hI9.next hLQ hLM hT) hS (lv_sub hl [2, 3, 4, 5, 6] rfl))
  · skip
    refine lv_istore (lv' := [(5, .int (nI 1)), (0, .ref b), (1, .ref (ad 57)), (2, .ref (am 0)), (3, .ref o), (4, .int (nI iL))]) hx hb dL_law_1429 hl (by decide) rfl (fun ls hl => ?_)
    refine lv_aload_n hx hb dL_law_1431 rfl (lv_at hl 3 rfl) ?_
    refine lv_aload_n hx hb dL_law_1432 rfl (lv_at hl 1 rfl) ?_
    refine lv_iload hx hb dL_law_1433 (lv_at hl 5 rfl) ?_
    refine lv_iconst (v := nI 1) hx hb dL_law_1435 (by decide) ?_
    refine kn_iadd hx hb dL_law_1436 ?_
    refine va_sld hx hb F.sc F.bl (fun z => Nat.not_le.mpr F.bl z) hS.st (vp_in_nI (show iL + 1 < L by omega) (by omega)) dL_law_1437 ?_
    rw [← hx1]
    refine lv_aload_n hx hb dL_law_1438 rfl (lv_at hl 1 rfl) ?_
    refine lv_iload hx hb dL_law_1439 (lv_at hl 5 rfl) ?_
    refine lv_iconst (v := nI 2) hx hb dL_law_1441 (by decide) ?_
    refine kn_iadd hx hb dL_law_1442 ?_
    refine va_sld hx hb F.sc F.bl (fun z => Nat.not_le.mpr F.bl z) hS.st (vp_in_nI (show iL + 2 < L by omega) (by omega)) dL_law_1443 ?_
    rw [← hx2]
    have hI := hI9.m
    have T := hI9.T
    have hc : M.2.2.2.1 + 12 < 1000000 := by have := hI9.mp; omega
    refine ll_m (va_runV (As := [.int (nI j), .int x2]) (rest := []) ⟨hx, hb, hml, hown, hts⟩ (o_X6_copyOrder_2 l dC dI am M j x2 hj hb9 hI) (cwV 2 hts gL_law_X6_copyOrder rfl rfl rfl hdX6_copyOrder_2 ⟨Nat.le_of_ble_eq_true rfl, Nat.le_of_ble_eq_true rfl⟩) (hS.preM F.K) rfl rfl hl.1 rfl (lv_room (Nat.le_of_ble_eq_true rfl)) dL_law_1444 ⟨le_rc (by omega), le_rs (by omega)⟩) F.K hS (fun r8 M1 H locs hko hv hS => ?_)
    have hLM : LM M M1 := by rw [hv]; exact LM_th hI _
    have hT : Tie S M1 := by rw [hv]; exact T.th _
    refine lv_istore (lv' := [(6, .int r8), (5, .int (nI 1)), (0, .ref b), (1, .ref (ad 57)), (2, .ref (am 0)), (3, .ref o), (4, .int (nI iL))]) hx hb dL_law_1447 hl (by decide) rfl (fun ls hl => ?_)
    refine lv_goto (tgt := 2052) hx hb dL_law_1449 (by decide) ?_
    exact W.widen (k := 100 + 224 * (n + 1)) (n := 1200 + 10680 * (n + 1)) (by omega) (by omega) (kk9 S M1 _ _ _ (hI9.next hLQ hLM hT) hS (lv_sub hl [2, 3, 4, 5, 6] rfl))
  · skip
    refine lv_istore (lv' := [(5, .int (nI 0)), (0, .ref b), (1, .ref (ad 57)), (2, .ref (am 0)), (3, .ref o), (4, .int (nI iL))]) hx hb dL_law_1429 hl (by decide) rfl (fun ls hl => ?_)
    refine lv_aload_n hx hb dL_law_1431 rfl (lv_at hl 3 rfl) ?_
    refine lv_aload_n hx hb dL_law_1432 rfl (lv_at hl 1 rfl) ?_
    refine lv_iload hx hb dL_law_1433 (lv_at hl 5 rfl) ?_
    refine lv_iconst (v := nI 1) hx hb dL_law_1435 (by decide) ?_
    refine kn_iadd hx hb dL_law_1436 ?_
    refine va_sld hx hb F.sc F.bl (fun z => Nat.not_le.mpr F.bl z) hS.st (vp_in_nI (show iL + 1 < L by omega) (by omega)) dL_law_1437 ?_
    rw [← hx1]
    refine lv_aload_n hx hb dL_law_1438 rfl (lv_at hl 1 rfl) ?_
    refine lv_iload hx hb dL_law_1439 (lv_at hl 5 rfl) ?_
    refine lv_iconst (v := nI 2) hx hb dL_law_1441 (by decide) ?_
    refine kn_iadd hx hb dL_law_1442 ?_
    refine va_sld hx hb F.sc F.bl (fun z => Nat.not_le.mpr F.bl z) hS.st (vp_in_nI (show iL + 2 < L by omega) (by omega)) dL_law_1443 ?_
    rw [← hx2]
    have hI := hI9.m
    have T := hI9.T
    have hc : M.2.2.2.1 + 12 < 1000000 := by have := hI9.mp; omega
    refine ll_m (va_runV (As := [.int (nI j), .int (nI j2)]) (rest := []) ⟨hx, hb, hml, hown, hts⟩ (m_X6_copyOrder l dC dI am M j j2 hj hj2 hI) (cwV 2 hts gL_law_X6_copyOrder rfl rfl rfl hdX6_copyOrder_2 ⟨Nat.le_of_ble_eq_true rfl, Nat.le_of_ble_eq_true rfl⟩) (hS.preM F.K) rfl rfl hl.1 rfl (lv_room (Nat.le_of_ble_eq_true rfl)) dL_law_1444 ⟨le_rc (by omega), le_rs (by omega)⟩) F.K hS (fun r8 M1 H locs hko hv hS => ?_)
    have hLM : LM M M1 := by rw [hv.2]; exact LM_ord hI ⟨(hI.2 j hj).1, ovl_key (hI.2 j hj).2 (hI.2 j2 hj2).2⟩
    obtain ⟨hT, he9, ht9⟩ := A_copyOrder T hj hw hv
    refine lv_istore (lv' := [(6, .int r8), (5, .int (nI 0)), (0, .ref b), (1, .ref (ad 57)), (2, .ref (am 0)), (3, .ref o), (4, .int (nI iL))]) hx hb dL_law_1447 hl (by decide) rfl (fun ls hl => ?_)
    refine lv_goto (tgt := 2052) hx hb dL_law_1449 (by decide) ?_
    exact W.widen (k := 100 + 224 * (n + 1)) (n := 1200 + 10680 * (n + 1)) (by omega) (by omega) (kk9 S1 M1 _ _ _ (hI9.next hLQ hLM hT) hS (lv_sub hl [2, 3, 4, 5, 6] rfl))
set_option maxHeartbeats 4000000 in
set_option maxRecDepth 100000 in
theorem lc_27 {p : Program} {l : Launch} {e : Env} {s : State} {m : MethodId} {below : List Frame} {meth : Method} {c : Code} {b L : Nat} {xs : Nat → Int32} {dC : Nat → ClassId} {dI : Nat → Nat → Nat} {cB : ClassId} {ad am : Nat → Nat} {o n iL : Nat} {Q : State → Prop} (F : LF p l s m c b L xs dC dI cB ad am o) (hni : iL = 5 * n) (hiL : iL + 5 ≤ L) : LCase p l e s m below meth c b dC dI ad am o n iL Q 1452 := by
  intro S M H locs hI9 hS kk9 ls hl
  have hx := F.x
  have hb := F.b
  have hml := F.ml
  have hown := F.own
  have hts := F.ts
  have hL := F.hL
  have hn9 : n ≤ 511 := by omega
  refine lv_aload_n hx hb dL_law_1452 rfl (lv_at hl 1 rfl) ?_
  refine lv_aload_n hx hb dL_law_1453 rfl (lv_at hl 0 rfl) ?_
  refine lv_iload hx hb dL_law_1454 (lv_at hl 4 rfl) ?_
  refine lv_iconst (v := nI 1) hx hb dL_law_1456 (by decide) ?_
  refine kn_iadd hx hb dL_law_1457 ?_
  refine va_sld hx hb F.sc F.bl (fun z => Nat.not_le.mpr F.bl z) hS.st (vp_in_nI (show iL + 1 < L by omega) (by omega)) dL_law_1458 ?_
  obtain ⟨x1, hx1⟩ : ∃ z, z = xs (nI (iL + 1)).toNatClampNeg := ⟨_, rfl⟩
  rw [← hx1]
  refine lv_aload_n hx hb dL_law_1459 rfl (lv_at hl 3 rfl) ?_
  refine ll_w (vx_runSW (As := [.ref (ad 57), .int x1, .ref o]) (rest := []) ⟨hx, hb, hml, hown, hts⟩ (m_L_turn l F.st dC dI cB ad o S x1 hI9.x hI9.x5 (by have := hI9.xp; omega)) (vx_cwSW 3 hts gL_law_L_turn rfl rfl rfl hdL_turn_3.2 ⟨Nat.le_of_ble_eq_true rfl, Nat.le_of_ble_eq_true rfl⟩) (hS.preW F.K) rfl rfl hl.1 rfl (lv_room (Nat.le_of_ble_eq_true rfl)) dL_law_1460 ⟨le_rc (by omega), le_rs (by omega)⟩) F.K hS (fun r0 S1 n1 H locs hq9 hN hS => ?_)
  have hLQ : LQ S S1 := hq9.1
  have hR : R_turn x1 S r0 S1 n1 := hq9.2
  clear hq9
  rcases hR with ⟨hb9, rfl, rfl⟩ | ⟨j, r7, hj, rfl, rfl, rfl, hw⟩
  · skip
    refine lv_istore (lv' := [(5, .int (nI 1)), (0, .ref b), (1, .ref (ad 57)), (2, .ref (am 0)), (3, .ref o), (4, .int (nI iL))]) hx hb dL_law_1463 hl (by decide) rfl (fun ls hl => ?_)
    refine lv_aload_n hx hb dL_law_1465 rfl (lv_at hl 3 rfl) ?_
    refine lv_aload_n hx hb dL_law_1466 rfl (lv_at hl 1 rfl) ?_
    refine lv_iload hx hb dL_law_1467 (lv_at hl 5 rfl) ?_
    refine lv_iconst (v := nI 1) hx hb dL_law_1469 (by decide) ?_
    refine kn_iadd hx hb dL_law_1470 ?_
    refine va_sld hx hb F.sc F.bl (fun z => Nat.not_le.mpr F.bl z) hS.st (vp_in_nI (show iL + 1 < L by omega) (by omega)) dL_law_1471 ?_
    rw [← hx1]
    have hI := hI9.m
    have T := hI9.T
    have hc : M.2.2.2.1 + 12 < 1000000 := by have := hI9.mp; omega
    refine ll_m (va_runV (As := [.int x1]) (rest := []) ⟨hx, hb, hml, hown, hts⟩ (o_X6_turn_1 l dC dI am M x1 hb9 hI) (cwV 1 hts gL_law_X6_turn rfl rfl rfl hdX6_turn_1 ⟨Nat.le_of_ble_eq_true rfl, Nat.le_of_ble_eq_true rfl⟩) (hS.preM F.K) rfl rfl hl.1 rfl (lv_room (Nat.le_of_ble_eq_true rfl)) dL_law_1472 ⟨le_rc (by omega), le_rs (by omega)⟩) F.K hS (fun r8 M1 H locs hko hv hS => ?_)
    have hLM : LM M M1 := by rw [hv]; exact LM_th hI _
    have hT : Tie S M1 := by rw [hv]; exact T.th _
    refine lv_istore (lv' := [(6, .int r8), (5, .int (nI 1)), (0, .ref b), (1, .ref (ad 57)), (2, .ref (am 0)), (3, .ref o), (4, .int (nI iL))]) hx hb dL_law_1475 hl (by decide) rfl (fun ls hl => ?_)
    refine lv_goto (tgt := 2052) hx hb dL_law_1477 (by decide) ?_
    exact W.widen (k := 100 + 224 * (n + 1)) (n := 1200 + 10680 * (n + 1)) (by omega) (by omega) (kk9 S M1 _ _ _ (hI9.next hLQ hLM hT) hS (lv_sub hl [2, 3, 4, 5, 6] rfl))
  · skip
    refine lv_istore (lv' := [(5, .int (nI 0)), (0, .ref b), (1, .ref (ad 57)), (2, .ref (am 0)), (3, .ref o), (4, .int (nI iL))]) hx hb dL_law_1463 hl (by decide) rfl (fun ls hl => ?_)
    refine lv_aload_n hx hb dL_law_1465 rfl (lv_at hl 3 rfl) ?_
    refine lv_aload_n hx hb dL_law_1466 rfl (lv_at hl 1 rfl) ?_
    refine lv_iload hx hb dL_law_1467 (lv_at hl 5 rfl) ?_
    refine lv_iconst (v := nI 1) hx hb dL_law_1469 (by decide) ?_
    refine kn_iadd hx hb dL_law_1470 ?_
    refine va_sld hx hb F.sc F.bl (fun z => Nat.not_le.mpr F.bl z) hS.st (vp_in_nI (show iL + 1 < L by omega) (by omega)) dL_law_1471 ?_
    rw [← hx1]
    have hI := hI9.m
    have T := hI9.T
    have hc : M.2.2.2.1 + 12 < 1000000 := by have := hI9.mp; omega
    refine ll_m (va_runV (As := [.int (nI j)]) (rest := []) ⟨hx, hb, hml, hown, hts⟩ (m_X6_turn l dC dI am M j hj hI) (cwV 1 hts gL_law_X6_turn rfl rfl rfl hdX6_turn_1 ⟨Nat.le_of_ble_eq_true rfl, Nat.le_of_ble_eq_true rfl⟩) (hS.preM F.K) rfl rfl hl.1 rfl (lv_room (Nat.le_of_ble_eq_true rfl)) dL_law_1472 ⟨le_rc (by omega), le_rs (by omega)⟩) F.K hS (fun r8 M1 H locs hko hv hS => ?_)
    have hLM : LM M M1 := by rw [hv.2]; exact LM_ord hI ⟨(hI.2 j hj).1, (hI.2 j hj).2⟩
    obtain ⟨hT, he9, ht9⟩ := A_turn T hj hw hv
    refine lv_istore (lv' := [(6, .int r8), (5, .int (nI 0)), (0, .ref b), (1, .ref (ad 57)), (2, .ref (am 0)), (3, .ref o), (4, .int (nI iL))]) hx hb dL_law_1475 hl (by decide) rfl (fun ls hl => ?_)
    refine lv_goto (tgt := 2052) hx hb dL_law_1477 (by decide) ?_
    exact W.widen (k := 100 + 224 * (n + 1)) (n := 1200 + 10680 * (n + 1)) (by omega) (by omega) (kk9 S1 M1 _ _ _ (hI9.next hLQ hLM hT) hS (lv_sub hl [2, 3, 4, 5, 6] rfl))
set_option maxHeartbeats 4000000 in
set_option maxRecDepth 100000 in
theorem lc_28 {p : Program} {l : Launch} {e : Env} {s : State} {m : MethodId} {below : List Frame} {meth : Method} {c : Code} {b L : Nat} {xs : Nat → Int32} {dC : Nat → ClassId} {dI : Nat → Nat → Nat} {cB : ClassId} {ad am : Nat → Nat} {o n iL : Nat} {Q : State → Prop} (F : LF p l s m c b L xs dC dI cB ad am o) (hni : iL = 5 * n) (hiL : iL + 5 ≤ L) : LCase p l e s m below meth c b dC dI ad am o n iL Q 1480 := by
  intro S M H locs hI9 hS kk9 ls hl
  have hx := F.x
  have hb := F.b
  have hml := F.ml
  have hown := F.own
  have hts := F.ts
  have hL := F.hL
  have hn9 : n ≤ 511 := by omega
  refine lv_aload_n hx hb dL_law_1480 rfl (lv_at hl 1 rfl) ?_
  refine lv_aload_n hx hb dL_law_1481 rfl (lv_at hl 0 rfl) ?_
  refine lv_iload hx hb dL_law_1482 (lv_at hl 4 rfl) ?_
  refine lv_iconst (v := nI 1) hx hb dL_law_1484 (by decide) ?_
  refine kn_iadd hx hb dL_law_1485 ?_
  refine va_sld hx hb F.sc F.bl (fun z => Nat.not_le.mpr F.bl z) hS.st (vp_in_nI (show iL + 1 < L by omega) (by omega)) dL_law_1486 ?_
  obtain ⟨x1, hx1⟩ : ∃ z, z = xs (nI (iL + 1)).toNatClampNeg := ⟨_, rfl⟩
  rw [← hx1]
  refine lv_aload_n hx hb dL_law_1487 rfl (lv_at hl 0 rfl) ?_
  refine lv_iload hx hb dL_law_1488 (lv_at hl 4 rfl) ?_
  refine lv_iconst (v := nI 2) hx hb dL_law_1490 (by decide) ?_
  refine kn_iadd hx hb dL_law_1491 ?_
  refine va_sld hx hb F.sc F.bl (fun z => Nat.not_le.mpr F.bl z) hS.st (vp_in_nI (show iL + 2 < L by omega) (by omega)) dL_law_1492 ?_
  obtain ⟨x2, hx2⟩ : ∃ z, z = xs (nI (iL + 2)).toNatClampNeg := ⟨_, rfl⟩
  rw [← hx2]
  refine lv_aload_n hx hb dL_law_1493 rfl (lv_at hl 0 rfl) ?_
  refine lv_iload hx hb dL_law_1494 (lv_at hl 4 rfl) ?_
  refine lv_iconst (v := nI 3) hx hb dL_law_1496 (by decide) ?_
  refine kn_iadd hx hb dL_law_1497 ?_
  refine va_sld hx hb F.sc F.bl (fun z => Nat.not_le.mpr F.bl z) hS.st (vp_in_nI (show iL + 3 < L by omega) (by omega)) dL_law_1498 ?_
  obtain ⟨x3, hx3⟩ : ∃ z, z = xs (nI (iL + 3)).toNatClampNeg := ⟨_, rfl⟩
  rw [← hx3]
  refine lv_aload_n hx hb dL_law_1499 rfl (lv_at hl 3 rfl) ?_
  refine ll_w (vx_runSW (As := [.ref (ad 57), .int x1, .int x2, .int x3, .ref o]) (rest := []) ⟨hx, hb, hml, hown, hts⟩ (m_L_product l F.st dC dI cB ad o S x1 x2 x3 hI9.x hI9.x5 (by have := hI9.xp; omega)) (vx_cwSW 5 hts gL_law_L_product rfl rfl rfl hdL_product_5.2 ⟨Nat.le_of_ble_eq_true rfl, Nat.le_of_ble_eq_true rfl⟩) (hS.preW F.K) rfl rfl hl.1 rfl (lv_room (Nat.le_of_ble_eq_true rfl)) dL_law_1500 ⟨le_rc (by omega), le_rs (by omega)⟩) F.K hS (fun r0 S1 n1 H locs hq9 hN hS => ?_)
  have hLQ : LQ S S1 := hq9.1
  have hR : R_product x1 x2 x3 S r0 S1 n1 := hq9.2
  clear hq9
  rcases hR with ⟨hb9, rfl, rfl⟩ | ⟨j, hj, rfl, hb9, rfl, rfl⟩ | ⟨j, j2, hj, hj2, rfl, rfl, hb9, rfl, rfl⟩ | ⟨j, j2, j3, r7, hj, hj2, hj3, rfl, rfl, rfl, rfl, rfl, hw⟩
  · skip
    refine lv_istore (lv' := [(5, .int (nI 1)), (0, .ref b), (1, .ref (ad 57)), (2, .ref (am 0)), (3, .ref o), (4, .int (nI iL))]) hx hb dL_law_1503 hl (by decide) rfl (fun ls hl => ?_)
    refine lv_aload_n hx hb dL_law_1505 rfl (lv_at hl 3 rfl) ?_
    refine lv_aload_n hx hb dL_law_1506 rfl (lv_at hl 1 rfl) ?_
    refine lv_iload hx hb dL_law_1507 (lv_at hl 5 rfl) ?_
    refine lv_iconst (v := nI 1) hx hb dL_law_1509 (by decide) ?_
    refine kn_iadd hx hb dL_law_1510 ?_
    refine va_sld hx hb F.sc F.bl (fun z => Nat.not_le.mpr F.bl z) hS.st (vp_in_nI (show iL + 1 < L by omega) (by omega)) dL_law_1511 ?_
    rw [← hx1]
    refine lv_aload_n hx hb dL_law_1512 rfl (lv_at hl 1 rfl) ?_
    refine lv_iload hx hb dL_law_1513 (lv_at hl 5 rfl) ?_
    refine lv_iconst (v := nI 2) hx hb dL_law_1515 (by decide) ?_
    refine kn_iadd hx hb dL_law_1516 ?_
    refine va_sld hx hb F.sc F.bl (fun z => Nat.not_le.mpr F.bl z) hS.st (vp_in_nI (show iL + 2 < L by omega) (by omega)) dL_law_1517 ?_
    rw [← hx2]
    refine lv_aload_n hx hb dL_law_1518 rfl (lv_at hl 1 rfl) ?_
    refine lv_iload hx hb dL_law_1519 (lv_at hl 5 rfl) ?_
    refine lv_iconst (v := nI 3) hx hb dL_law_1521 (by decide) ?_
    refine kn_iadd hx hb dL_law_1522 ?_
    refine va_sld hx hb F.sc F.bl (fun z => Nat.not_le.mpr F.bl z) hS.st (vp_in_nI (show iL + 3 < L by omega) (by omega)) dL_law_1523 ?_
    rw [← hx3]
    have hI := hI9.m
    have T := hI9.T
    have hc : M.2.2.2.1 + 12 < 1000000 := by have := hI9.mp; omega
    refine ll_m (va_runV (As := [.int x1, .int x2, .int x3]) (rest := []) ⟨hx, hb, hml, hown, hts⟩ (o_X6_product_1 l dC dI am M x1 x2 x3 hb9 hI) (cwV 3 hts gL_law_X6_product rfl rfl rfl hdX6_product_3 ⟨Nat.le_of_ble_eq_true rfl, Nat.le_of_ble_eq_true rfl⟩) (hS.preM F.K) rfl rfl hl.1 rfl (lv_room (Nat.le_of_ble_eq_true rfl)) dL_law_1524 ⟨le_rc (by omega), le_rs (by omega)⟩) F.K hS (fun r8 M1 H locs hko hv hS => ?_)
    have hLM : LM M M1 := by rw [hv]; exact LM_th hI _
    have hT : Tie S M1 := by rw [hv]; exact T.th _
    refine lv_istore (lv' := [(6, .int r8), (5, .int (nI 1)), (0, .ref b), (1, .ref (ad 57)), (2, .ref (am 0)), (3, .ref o), (4, .int (nI iL))]) hx hb dL_law_1527 hl (by decide) rfl (fun ls hl => ?_)
    refine lv_goto (tgt := 2052) hx hb dL_law_1529 (by decide) ?_
    exact W.widen (k := 100 + 224 * (n + 1)) (n := 1200 + 10680 * (n + 1)) (by omega) (by omega) (kk9 S M1 _ _ _ (hI9.next hLQ hLM hT) hS (lv_sub hl [2, 3, 4, 5, 6] rfl))
  · skip
    refine lv_istore (lv' := [(5, .int (nI 1)), (0, .ref b), (1, .ref (ad 57)), (2, .ref (am 0)), (3, .ref o), (4, .int (nI iL))]) hx hb dL_law_1503 hl (by decide) rfl (fun ls hl => ?_)
    refine lv_aload_n hx hb dL_law_1505 rfl (lv_at hl 3 rfl) ?_
    refine lv_aload_n hx hb dL_law_1506 rfl (lv_at hl 1 rfl) ?_
    refine lv_iload hx hb dL_law_1507 (lv_at hl 5 rfl) ?_
    refine lv_iconst (v := nI 1) hx hb dL_law_1509 (by decide) ?_
    refine kn_iadd hx hb dL_law_1510 ?_
    refine va_sld hx hb F.sc F.bl (fun z => Nat.not_le.mpr F.bl z) hS.st (vp_in_nI (show iL + 1 < L by omega) (by omega)) dL_law_1511 ?_
    rw [← hx1]
    refine lv_aload_n hx hb dL_law_1512 rfl (lv_at hl 1 rfl) ?_
    refine lv_iload hx hb dL_law_1513 (lv_at hl 5 rfl) ?_
    refine lv_iconst (v := nI 2) hx hb dL_law_1515 (by decide) ?_
    refine kn_iadd hx hb dL_law_1516 ?_
    refine va_sld hx hb F.sc F.bl (fun z => Nat.not_le.mpr F.bl z) hS.st (vp_in_nI (show iL + 2 < L by omega) (by omega)) dL_law_1517 ?_
    rw [← hx2]
    refine lv_aload_n hx hb dL_law_1518 rfl (lv_at hl 1 rfl) ?_
    refine lv_iload hx hb dL_law_1519 (lv_at hl 5 rfl) ?_
    refine lv_iconst (v := nI 3) hx hb dL_law_1521 (by decide) ?_
    refine kn_iadd hx hb dL_law_1522 ?_
    refine va_sld hx hb F.sc F.bl (fun z => Nat.not_le.mpr F.bl z) hS.st (vp_in_nI (show iL + 3 < L by omega) (by omega)) dL_law_1523 ?_
    rw [← hx3]
    have hI := hI9.m
    have T := hI9.T
    have hc : M.2.2.2.1 + 12 < 1000000 := by have := hI9.mp; omega
    refine ll_m (va_runV (As := [.int (nI j), .int x2, .int x3]) (rest := []) ⟨hx, hb, hml, hown, hts⟩ (o_X6_product_2 l dC dI am M j x2 x3 hj hb9 hI) (cwV 3 hts gL_law_X6_product rfl rfl rfl hdX6_product_3 ⟨Nat.le_of_ble_eq_true rfl, Nat.le_of_ble_eq_true rfl⟩) (hS.preM F.K) rfl rfl hl.1 rfl (lv_room (Nat.le_of_ble_eq_true rfl)) dL_law_1524 ⟨le_rc (by omega), le_rs (by omega)⟩) F.K hS (fun r8 M1 H locs hko hv hS => ?_)
    have hLM : LM M M1 := by rw [hv]; exact LM_th hI _
    have hT : Tie S M1 := by rw [hv]; exact T.th _
    refine lv_istore (lv' := [(6, .int r8), (5, .int (nI 1)), (0, .ref b), (1, .ref (ad 57)), (2, .ref (am 0)), (3, .ref o), (4, .int (nI iL))]) hx hb dL_law_1527 hl (by decide) rfl (fun ls hl => ?_)
    refine lv_goto (tgt := 2052) hx hb dL_law_1529 (by decide) ?_
    exact W.widen (k := 100 + 224 * (n + 1)) (n := 1200 + 10680 * (n + 1)) (by omega) (by omega) (kk9 S M1 _ _ _ (hI9.next hLQ hLM hT) hS (lv_sub hl [2, 3, 4, 5, 6] rfl))
  · skip
    refine lv_istore (lv' := [(5, .int (nI 1)), (0, .ref b), (1, .ref (ad 57)), (2, .ref (am 0)), (3, .ref o), (4, .int (nI iL))]) hx hb dL_law_1503 hl (by decide) rfl (fun ls hl => ?_)
    refine lv_aload_n hx hb dL_law_1505 rfl (lv_at hl 3 rfl) ?_
    refine lv_aload_n hx hb dL_law_1506 rfl (lv_at hl 1 rfl) ?_
    refine lv_iload hx hb dL_law_1507 (lv_at hl 5 rfl) ?_
    refine lv_iconst (v := nI 1) hx hb dL_law_1509 (by decide) ?_
    refine kn_iadd hx hb dL_law_1510 ?_
    refine va_sld hx hb F.sc F.bl (fun z => Nat.not_le.mpr F.bl z) hS.st (vp_in_nI (show iL + 1 < L by omega) (by omega)) dL_law_1511 ?_
    rw [← hx1]
    refine lv_aload_n hx hb dL_law_1512 rfl (lv_at hl 1 rfl) ?_
    refine lv_iload hx hb dL_law_1513 (lv_at hl 5 rfl) ?_
    refine lv_iconst (v := nI 2) hx hb dL_law_1515 (by decide) ?_
    refine kn_iadd hx hb dL_law_1516 ?_
    refine va_sld hx hb F.sc F.bl (fun z => Nat.not_le.mpr F.bl z) hS.st (vp_in_nI (show iL + 2 < L by omega) (by omega)) dL_law_1517 ?_
    rw [← hx2]
    refine lv_aload_n hx hb dL_law_1518 rfl (lv_at hl 1 rfl) ?_
    refine lv_iload hx hb dL_law_1519 (lv_at hl 5 rfl) ?_
    refine lv_iconst (v := nI 3) hx hb dL_law_1521 (by decide) ?_
    refine kn_iadd hx hb dL_law_1522 ?_
    refine va_sld hx hb F.sc F.bl (fun z => Nat.not_le.mpr F.bl z) hS.st (vp_in_nI (show iL + 3 < L by omega) (by omega)) dL_law_1523 ?_
    rw [← hx3]
    have hI := hI9.m
    have T := hI9.T
    have hc : M.2.2.2.1 + 12 < 1000000 := by have := hI9.mp; omega
    refine ll_m (va_runV (As := [.int (nI j), .int (nI j2), .int x3]) (rest := []) ⟨hx, hb, hml, hown, hts⟩ (o_X6_product_3 l dC dI am M j j2 x3 hj hj2 hb9 hI) (cwV 3 hts gL_law_X6_product rfl rfl rfl hdX6_product_3 ⟨Nat.le_of_ble_eq_true rfl, Nat.le_of_ble_eq_true rfl⟩) (hS.preM F.K) rfl rfl hl.1 rfl (lv_room (Nat.le_of_ble_eq_true rfl)) dL_law_1524 ⟨le_rc (by omega), le_rs (by omega)⟩) F.K hS (fun r8 M1 H locs hko hv hS => ?_)
    have hLM : LM M M1 := by rw [hv]; exact LM_th hI _
    have hT : Tie S M1 := by rw [hv]; exact T.th _
    refine lv_istore (lv' := [(6, .int r8), (5, .int (nI 1)), (0, .ref b), (1, .ref (ad 57)), (2, .ref (am 0)), (3, .ref o), (4, .int (nI iL))]) hx hb dL_law_1527 hl (by decide) rfl (fun ls hl => ?_)
    refine lv_goto (tgt := 2052) hx hb dL_law_1529 (by decide) ?_
    exact W.widen (k := 100 + 224 * (n + 1)) (n := 1200 + 10680 * (n + 1)) (by omega) (by omega) (kk9 S M1 _ _ _ (hI9.next hLQ hLM hT) hS (lv_sub hl [2, 3, 4, 5, 6] rfl))
  · skip
    refine lv_istore (lv' := [(5, .int (nI 0)), (0, .ref b), (1, .ref (ad 57)), (2, .ref (am 0)), (3, .ref o), (4, .int (nI iL))]) hx hb dL_law_1503 hl (by decide) rfl (fun ls hl => ?_)
    refine lv_aload_n hx hb dL_law_1505 rfl (lv_at hl 3 rfl) ?_
    refine lv_aload_n hx hb dL_law_1506 rfl (lv_at hl 1 rfl) ?_
    refine lv_iload hx hb dL_law_1507 (lv_at hl 5 rfl) ?_
    refine lv_iconst (v := nI 1) hx hb dL_law_1509 (by decide) ?_
    refine kn_iadd hx hb dL_law_1510 ?_
    refine va_sld hx hb F.sc F.bl (fun z => Nat.not_le.mpr F.bl z) hS.st (vp_in_nI (show iL + 1 < L by omega) (by omega)) dL_law_1511 ?_
    rw [← hx1]
    refine lv_aload_n hx hb dL_law_1512 rfl (lv_at hl 1 rfl) ?_
    refine lv_iload hx hb dL_law_1513 (lv_at hl 5 rfl) ?_
    refine lv_iconst (v := nI 2) hx hb dL_law_1515 (by decide) ?_
    refine kn_iadd hx hb dL_law_1516 ?_
    refine va_sld hx hb F.sc F.bl (fun z => Nat.not_le.mpr F.bl z) hS.st (vp_in_nI (show iL + 2 < L by omega) (by omega)) dL_law_1517 ?_
    rw [← hx2]
    refine lv_aload_n hx hb dL_law_1518 rfl (lv_at hl 1 rfl) ?_
    refine lv_iload hx hb dL_law_1519 (lv_at hl 5 rfl) ?_
    refine lv_iconst (v := nI 3) hx hb dL_law_1521 (by decide) ?_
    refine kn_iadd hx hb dL_law_1522 ?_
    refine va_sld hx hb F.sc F.bl (fun z => Nat.not_le.mpr F.bl z) hS.st (vp_in_nI (show iL + 3 < L by omega) (by omega)) dL_law_1523 ?_
    rw [← hx3]
    have hI := hI9.m
    have T := hI9.T
    have hc : M.2.2.2.1 + 12 < 1000000 := by have := hI9.mp; omega
    refine ll_m (va_runV (As := [.int (nI j), .int (nI j2), .int (nI j3)]) (rest := []) ⟨hx, hb, hml, hown, hts⟩ (m_X6_product l dC dI am M j j2 j3 hj hj2 hj3 hI) (cwV 3 hts gL_law_X6_product rfl rfl rfl hdX6_product_3 ⟨Nat.le_of_ble_eq_true rfl, Nat.le_of_ble_eq_true rfl⟩) (hS.preM F.K) rfl rfl hl.1 rfl (lv_room (Nat.le_of_ble_eq_true rfl)) dL_law_1524 ⟨le_rc (by omega), le_rs (by omega)⟩) F.K hS (fun r8 M1 H locs hko hv hS => ?_)
    have hLM : LM M M1 := hv.elim (fun h => by rw [h.2.2]; exact LM_ord hI (ordM_prod (hI.2 j hj) (hI.2 j2 hj2) (hI.2 j3 hj3) h.1)) (fun h => by rw [h.2.2]; exact LM_ref hI)
    obtain ⟨hT, he9, ht9⟩ := A_product T hj hj2 hj3 hw hv
    refine lv_istore (lv' := [(6, .int r8), (5, .int (nI 0)), (0, .ref b), (1, .ref (ad 57)), (2, .ref (am 0)), (3, .ref o), (4, .int (nI iL))]) hx hb dL_law_1527 hl (by decide) rfl (fun ls hl => ?_)
    refine lv_goto (tgt := 2052) hx hb dL_law_1529 (by decide) ?_
    exact W.widen (k := 100 + 224 * (n + 1)) (n := 1200 + 10680 * (n + 1)) (by omega) (by omega) (kk9 S1 M1 _ _ _ (hI9.next hLQ hLM hT) hS (lv_sub hl [2, 3, 4, 5, 6] rfl))
set_option maxHeartbeats 4000000 in
set_option maxRecDepth 100000 in
theorem lc_29 {p : Program} {l : Launch} {e : Env} {s : State} {m : MethodId} {below : List Frame} {meth : Method} {c : Code} {b L : Nat} {xs : Nat → Int32} {dC : Nat → ClassId} {dI : Nat → Nat → Nat} {cB : ClassId} {ad am : Nat → Nat} {o n iL : Nat} {Q : State → Prop} (F : LF p l s m c b L xs dC dI cB ad am o) (hni : iL = 5 * n) (hiL : iL + 5 ≤ L) : LCase p l e s m below meth c b dC dI ad am o n iL Q 1532 := by
  intro S M H locs hI9 hS kk9 ls hl
  have hx := F.x
  have hb := F.b
  have hml := F.ml
  have hown := F.own
  have hts := F.ts
  have hL := F.hL
  have hn9 : n ≤ 511 := by omega
  refine lv_aload_n hx hb dL_law_1532 rfl (lv_at hl 1 rfl) ?_
  refine lv_aload_n hx hb dL_law_1533 rfl (lv_at hl 0 rfl) ?_
  refine lv_iload hx hb dL_law_1534 (lv_at hl 4 rfl) ?_
  refine lv_iconst (v := nI 1) hx hb dL_law_1536 (by decide) ?_
  refine kn_iadd hx hb dL_law_1537 ?_
  refine va_sld hx hb F.sc F.bl (fun z => Nat.not_le.mpr F.bl z) hS.st (vp_in_nI (show iL + 1 < L by omega) (by omega)) dL_law_1538 ?_
  obtain ⟨x1, hx1⟩ : ∃ z, z = xs (nI (iL + 1)).toNatClampNeg := ⟨_, rfl⟩
  rw [← hx1]
  refine lv_aload_n hx hb dL_law_1539 rfl (lv_at hl 0 rfl) ?_
  refine lv_iload hx hb dL_law_1540 (lv_at hl 4 rfl) ?_
  refine lv_iconst (v := nI 2) hx hb dL_law_1542 (by decide) ?_
  refine kn_iadd hx hb dL_law_1543 ?_
  refine va_sld hx hb F.sc F.bl (fun z => Nat.not_le.mpr F.bl z) hS.st (vp_in_nI (show iL + 2 < L by omega) (by omega)) dL_law_1544 ?_
  obtain ⟨x2, hx2⟩ : ∃ z, z = xs (nI (iL + 2)).toNatClampNeg := ⟨_, rfl⟩
  rw [← hx2]
  refine lv_aload_n hx hb dL_law_1545 rfl (lv_at hl 0 rfl) ?_
  refine lv_iload hx hb dL_law_1546 (lv_at hl 4 rfl) ?_
  refine lv_iconst (v := nI 3) hx hb dL_law_1548 (by decide) ?_
  refine kn_iadd hx hb dL_law_1549 ?_
  refine va_sld hx hb F.sc F.bl (fun z => Nat.not_le.mpr F.bl z) hS.st (vp_in_nI (show iL + 3 < L by omega) (by omega)) dL_law_1550 ?_
  obtain ⟨x3, hx3⟩ : ∃ z, z = xs (nI (iL + 3)).toNatClampNeg := ⟨_, rfl⟩
  rw [← hx3]
  refine lv_aload_n hx hb dL_law_1551 rfl (lv_at hl 3 rfl) ?_
  refine ll_w (vx_runSW (As := [.ref (ad 57), .int x1, .int x2, .int x3, .ref o]) (rest := []) ⟨hx, hb, hml, hown, hts⟩ (m_L_tellApart l F.st dC dI cB ad o S x1 x2 x3 hI9.x hI9.x5 (by have := hI9.xp; omega)) (vx_cwSW 5 hts gL_law_L_tellApart rfl rfl rfl hdL_tellApart_5.2 ⟨Nat.le_of_ble_eq_true rfl, Nat.le_of_ble_eq_true rfl⟩) (hS.preW F.K) rfl rfl hl.1 rfl (lv_room (Nat.le_of_ble_eq_true rfl)) dL_law_1552 ⟨le_rc (by omega), le_rs (by omega)⟩) F.K hS (fun r0 S1 n1 H locs hq9 hN hS => ?_)
  have hLQ : LQ S S1 := hq9.1
  have hR : R_tellApart x1 x2 x3 S r0 S1 n1 := hq9.2
  clear hq9
  rcases hR with ⟨hb9, rfl, rfl⟩ | ⟨j, hj, rfl, hb9, rfl, rfl⟩ | ⟨j, v, hj, hv9, rfl, rfl, hb9, rfl, rfl⟩ | ⟨j, v, v2, r7, hj, hv9, hv2, rfl, rfl, rfl, rfl, rfl, hw⟩
  · skip
    refine lv_istore (lv' := [(5, .int (nI 1)), (0, .ref b), (1, .ref (ad 57)), (2, .ref (am 0)), (3, .ref o), (4, .int (nI iL))]) hx hb dL_law_1555 hl (by decide) rfl (fun ls hl => ?_)
    refine lv_aload_n hx hb dL_law_1557 rfl (lv_at hl 3 rfl) ?_
    refine lv_aload_n hx hb dL_law_1558 rfl (lv_at hl 1 rfl) ?_
    refine lv_iload hx hb dL_law_1559 (lv_at hl 5 rfl) ?_
    refine lv_iconst (v := nI 1) hx hb dL_law_1561 (by decide) ?_
    refine kn_iadd hx hb dL_law_1562 ?_
    refine va_sld hx hb F.sc F.bl (fun z => Nat.not_le.mpr F.bl z) hS.st (vp_in_nI (show iL + 1 < L by omega) (by omega)) dL_law_1563 ?_
    rw [← hx1]
    refine lv_aload_n hx hb dL_law_1564 rfl (lv_at hl 1 rfl) ?_
    refine lv_iload hx hb dL_law_1565 (lv_at hl 5 rfl) ?_
    refine lv_iconst (v := nI 2) hx hb dL_law_1567 (by decide) ?_
    refine kn_iadd hx hb dL_law_1568 ?_
    refine va_sld hx hb F.sc F.bl (fun z => Nat.not_le.mpr F.bl z) hS.st (vp_in_nI (show iL + 2 < L by omega) (by omega)) dL_law_1569 ?_
    rw [← hx2]
    refine lv_aload_n hx hb dL_law_1570 rfl (lv_at hl 1 rfl) ?_
    refine lv_iload hx hb dL_law_1571 (lv_at hl 5 rfl) ?_
    refine lv_iconst (v := nI 3) hx hb dL_law_1573 (by decide) ?_
    refine kn_iadd hx hb dL_law_1574 ?_
    refine va_sld hx hb F.sc F.bl (fun z => Nat.not_le.mpr F.bl z) hS.st (vp_in_nI (show iL + 3 < L by omega) (by omega)) dL_law_1575 ?_
    rw [← hx3]
    have hI := hI9.m
    have T := hI9.T
    have hc : M.2.2.2.1 + 12 < 1000000 := by have := hI9.mp; omega
    refine ll_m (va_runV (As := [.int x1, .int x2, .int x3]) (rest := []) ⟨hx, hb, hml, hown, hts⟩ (o_X6_tellApart_1 l dC dI am M x1 x2 x3 hb9 hI) (cwV 3 hts gL_law_X6_tellApart rfl rfl rfl hdX6_tellApart_3 ⟨Nat.le_of_ble_eq_true rfl, Nat.le_of_ble_eq_true rfl⟩) (hS.preM F.K) rfl rfl hl.1 rfl (lv_room (Nat.le_of_ble_eq_true rfl)) dL_law_1576 ⟨le_rc (by omega), le_rs (by omega)⟩) F.K hS (fun r8 M1 H locs hko hv hS => ?_)
    have hLM : LM M M1 := by rw [hv]; exact LM_th hI _
    have hT : Tie S M1 := by rw [hv]; exact T.th _
    refine lv_istore (lv' := [(6, .int r8), (5, .int (nI 1)), (0, .ref b), (1, .ref (ad 57)), (2, .ref (am 0)), (3, .ref o), (4, .int (nI iL))]) hx hb dL_law_1579 hl (by decide) rfl (fun ls hl => ?_)
    refine lv_goto (tgt := 2052) hx hb dL_law_1581 (by decide) ?_
    exact W.widen (k := 100 + 224 * (n + 1)) (n := 1200 + 10680 * (n + 1)) (by omega) (by omega) (kk9 S M1 _ _ _ (hI9.next hLQ hLM hT) hS (lv_sub hl [2, 3, 4, 5, 6] rfl))
  · skip
    refine lv_istore (lv' := [(5, .int (nI 2)), (0, .ref b), (1, .ref (ad 57)), (2, .ref (am 0)), (3, .ref o), (4, .int (nI iL))]) hx hb dL_law_1555 hl (by decide) rfl (fun ls hl => ?_)
    refine lv_aload_n hx hb dL_law_1557 rfl (lv_at hl 3 rfl) ?_
    refine lv_aload_n hx hb dL_law_1558 rfl (lv_at hl 1 rfl) ?_
    refine lv_iload hx hb dL_law_1559 (lv_at hl 5 rfl) ?_
    refine lv_iconst (v := nI 1) hx hb dL_law_1561 (by decide) ?_
    refine kn_iadd hx hb dL_law_1562 ?_
    refine va_sld hx hb F.sc F.bl (fun z => Nat.not_le.mpr F.bl z) hS.st (vp_in_nI (show iL + 1 < L by omega) (by omega)) dL_law_1563 ?_
    rw [← hx1]
    refine lv_aload_n hx hb dL_law_1564 rfl (lv_at hl 1 rfl) ?_
    refine lv_iload hx hb dL_law_1565 (lv_at hl 5 rfl) ?_
    refine lv_iconst (v := nI 2) hx hb dL_law_1567 (by decide) ?_
    refine kn_iadd hx hb dL_law_1568 ?_
    refine va_sld hx hb F.sc F.bl (fun z => Nat.not_le.mpr F.bl z) hS.st (vp_in_nI (show iL + 2 < L by omega) (by omega)) dL_law_1569 ?_
    rw [← hx2]
    refine lv_aload_n hx hb dL_law_1570 rfl (lv_at hl 1 rfl) ?_
    refine lv_iload hx hb dL_law_1571 (lv_at hl 5 rfl) ?_
    refine lv_iconst (v := nI 3) hx hb dL_law_1573 (by decide) ?_
    refine kn_iadd hx hb dL_law_1574 ?_
    refine va_sld hx hb F.sc F.bl (fun z => Nat.not_le.mpr F.bl z) hS.st (vp_in_nI (show iL + 3 < L by omega) (by omega)) dL_law_1575 ?_
    rw [← hx3]
    have hI := hI9.m
    have T := hI9.T
    have hc : M.2.2.2.1 + 12 < 1000000 := by have := hI9.mp; omega
    refine ll_m (va_runV (As := [.int (nI j), .int x2, .int x3]) (rest := []) ⟨hx, hb, hml, hown, hts⟩ (o_X6_tellApart_2 l dC dI am M j x2 x3 hj hb9 hI) (cwV 3 hts gL_law_X6_tellApart rfl rfl rfl hdX6_tellApart_3 ⟨Nat.le_of_ble_eq_true rfl, Nat.le_of_ble_eq_true rfl⟩) (hS.preM F.K) rfl rfl hl.1 rfl (lv_room (Nat.le_of_ble_eq_true rfl)) dL_law_1576 ⟨le_rc (by omega), le_rs (by omega)⟩) F.K hS (fun r8 M1 H locs hko hv hS => ?_)
    have hLM : LM M M1 := by rw [hv]; exact LM_th hI _
    have hT : Tie S M1 := by rw [hv]; exact T.th _
    refine lv_istore (lv' := [(6, .int r8), (5, .int (nI 2)), (0, .ref b), (1, .ref (ad 57)), (2, .ref (am 0)), (3, .ref o), (4, .int (nI iL))]) hx hb dL_law_1579 hl (by decide) rfl (fun ls hl => ?_)
    refine lv_goto (tgt := 2052) hx hb dL_law_1581 (by decide) ?_
    exact W.widen (k := 100 + 224 * (n + 1)) (n := 1200 + 10680 * (n + 1)) (by omega) (by omega) (kk9 S M1 _ _ _ (hI9.next hLQ hLM hT) hS (lv_sub hl [2, 3, 4, 5, 6] rfl))
  · skip
    refine lv_istore (lv' := [(5, .int (nI 2)), (0, .ref b), (1, .ref (ad 57)), (2, .ref (am 0)), (3, .ref o), (4, .int (nI iL))]) hx hb dL_law_1555 hl (by decide) rfl (fun ls hl => ?_)
    refine lv_aload_n hx hb dL_law_1557 rfl (lv_at hl 3 rfl) ?_
    refine lv_aload_n hx hb dL_law_1558 rfl (lv_at hl 1 rfl) ?_
    refine lv_iload hx hb dL_law_1559 (lv_at hl 5 rfl) ?_
    refine lv_iconst (v := nI 1) hx hb dL_law_1561 (by decide) ?_
    refine kn_iadd hx hb dL_law_1562 ?_
    refine va_sld hx hb F.sc F.bl (fun z => Nat.not_le.mpr F.bl z) hS.st (vp_in_nI (show iL + 1 < L by omega) (by omega)) dL_law_1563 ?_
    rw [← hx1]
    refine lv_aload_n hx hb dL_law_1564 rfl (lv_at hl 1 rfl) ?_
    refine lv_iload hx hb dL_law_1565 (lv_at hl 5 rfl) ?_
    refine lv_iconst (v := nI 2) hx hb dL_law_1567 (by decide) ?_
    refine kn_iadd hx hb dL_law_1568 ?_
    refine va_sld hx hb F.sc F.bl (fun z => Nat.not_le.mpr F.bl z) hS.st (vp_in_nI (show iL + 2 < L by omega) (by omega)) dL_law_1569 ?_
    rw [← hx2]
    refine lv_aload_n hx hb dL_law_1570 rfl (lv_at hl 1 rfl) ?_
    refine lv_iload hx hb dL_law_1571 (lv_at hl 5 rfl) ?_
    refine lv_iconst (v := nI 3) hx hb dL_law_1573 (by decide) ?_
    refine kn_iadd hx hb dL_law_1574 ?_
    refine va_sld hx hb F.sc F.bl (fun z => Nat.not_le.mpr F.bl z) hS.st (vp_in_nI (show iL + 3 < L by omega) (by omega)) dL_law_1575 ?_
    rw [← hx3]
    have hI := hI9.m
    have T := hI9.T
    have hc : M.2.2.2.1 + 12 < 1000000 := by have := hI9.mp; omega
    refine ll_m (va_runV (As := [.int (nI j), .int (nI v), .int x3]) (rest := []) ⟨hx, hb, hml, hown, hts⟩ (o_X6_tellApart_3 l dC dI am M j v x3 hj hv9 hb9 hI) (cwV 3 hts gL_law_X6_tellApart rfl rfl rfl hdX6_tellApart_3 ⟨Nat.le_of_ble_eq_true rfl, Nat.le_of_ble_eq_true rfl⟩) (hS.preM F.K) rfl rfl hl.1 rfl (lv_room (Nat.le_of_ble_eq_true rfl)) dL_law_1576 ⟨le_rc (by omega), le_rs (by omega)⟩) F.K hS (fun r8 M1 H locs hko hv hS => ?_)
    have hLM : LM M M1 := by rw [hv]; exact LM_th hI _
    have hT : Tie S M1 := by rw [hv]; exact T.th _
    refine lv_istore (lv' := [(6, .int r8), (5, .int (nI 2)), (0, .ref b), (1, .ref (ad 57)), (2, .ref (am 0)), (3, .ref o), (4, .int (nI iL))]) hx hb dL_law_1579 hl (by decide) rfl (fun ls hl => ?_)
    refine lv_goto (tgt := 2052) hx hb dL_law_1581 (by decide) ?_
    exact W.widen (k := 100 + 224 * (n + 1)) (n := 1200 + 10680 * (n + 1)) (by omega) (by omega) (kk9 S M1 _ _ _ (hI9.next hLQ hLM hT) hS (lv_sub hl [2, 3, 4, 5, 6] rfl))
  · skip
    refine lv_istore (lv' := [(5, .int (nI 0)), (0, .ref b), (1, .ref (ad 57)), (2, .ref (am 0)), (3, .ref o), (4, .int (nI iL))]) hx hb dL_law_1555 hl (by decide) rfl (fun ls hl => ?_)
    refine lv_aload_n hx hb dL_law_1557 rfl (lv_at hl 3 rfl) ?_
    refine lv_aload_n hx hb dL_law_1558 rfl (lv_at hl 1 rfl) ?_
    refine lv_iload hx hb dL_law_1559 (lv_at hl 5 rfl) ?_
    refine lv_iconst (v := nI 1) hx hb dL_law_1561 (by decide) ?_
    refine kn_iadd hx hb dL_law_1562 ?_
    refine va_sld hx hb F.sc F.bl (fun z => Nat.not_le.mpr F.bl z) hS.st (vp_in_nI (show iL + 1 < L by omega) (by omega)) dL_law_1563 ?_
    rw [← hx1]
    refine lv_aload_n hx hb dL_law_1564 rfl (lv_at hl 1 rfl) ?_
    refine lv_iload hx hb dL_law_1565 (lv_at hl 5 rfl) ?_
    refine lv_iconst (v := nI 2) hx hb dL_law_1567 (by decide) ?_
    refine kn_iadd hx hb dL_law_1568 ?_
    refine va_sld hx hb F.sc F.bl (fun z => Nat.not_le.mpr F.bl z) hS.st (vp_in_nI (show iL + 2 < L by omega) (by omega)) dL_law_1569 ?_
    rw [← hx2]
    refine lv_aload_n hx hb dL_law_1570 rfl (lv_at hl 1 rfl) ?_
    refine lv_iload hx hb dL_law_1571 (lv_at hl 5 rfl) ?_
    refine lv_iconst (v := nI 3) hx hb dL_law_1573 (by decide) ?_
    refine kn_iadd hx hb dL_law_1574 ?_
    refine va_sld hx hb F.sc F.bl (fun z => Nat.not_le.mpr F.bl z) hS.st (vp_in_nI (show iL + 3 < L by omega) (by omega)) dL_law_1575 ?_
    rw [← hx3]
    have hI := hI9.m
    have T := hI9.T
    have hc : M.2.2.2.1 + 12 < 1000000 := by have := hI9.mp; omega
    refine ll_m (va_runV (As := [.int (nI j), .int (nI v), .int (nI v2)]) (rest := []) ⟨hx, hb, hml, hown, hts⟩ (n_X6_tellApart l dC dI am M j v v2 hj hv9 hv2 hI) (cwV 3 hts gL_law_X6_tellApart rfl rfl rfl hdX6_tellApart_3 ⟨Nat.le_of_ble_eq_true rfl, Nat.le_of_ble_eq_true rfl⟩) (hS.preM F.K) rfl rfl hl.1 rfl (lv_room (Nat.le_of_ble_eq_true rfl)) dL_law_1576 ⟨le_rc (by omega), le_rs (by omega)⟩) F.K hS (fun r8 M1 H locs hko hv hS => ?_)
    have hLM : LM M M1 := LM_tell hI hj hv
    obtain ⟨hT, he9, ht9⟩ := A_tell T hI9.x hj hv9 hv2 hw hv
    refine lv_istore (lv' := [(6, .int r8), (5, .int (nI 0)), (0, .ref b), (1, .ref (ad 57)), (2, .ref (am 0)), (3, .ref o), (4, .int (nI iL))]) hx hb dL_law_1579 hl (by decide) rfl (fun ls hl => ?_)
    refine lv_goto (tgt := 2052) hx hb dL_law_1581 (by decide) ?_
    exact W.widen (k := 100 + 224 * (n + 1)) (n := 1200 + 10680 * (n + 1)) (by omega) (by omega) (kk9 S1 M1 _ _ _ (hI9.next hLQ hLM hT) hS (lv_sub hl [2, 3, 4, 5, 6] rfl))
set_option maxHeartbeats 4000000 in
set_option maxRecDepth 100000 in
theorem lc_30 {p : Program} {l : Launch} {e : Env} {s : State} {m : MethodId} {below : List Frame} {meth : Method} {c : Code} {b L : Nat} {xs : Nat → Int32} {dC : Nat → ClassId} {dI : Nat → Nat → Nat} {cB : ClassId} {ad am : Nat → Nat} {o n iL : Nat} {Q : State → Prop} (F : LF p l s m c b L xs dC dI cB ad am o) (hni : iL = 5 * n) (hiL : iL + 5 ≤ L) : LCase p l e s m below meth c b dC dI ad am o n iL Q 1584 := by
  intro S M H locs hI9 hS kk9 ls hl
  have hx := F.x
  have hb := F.b
  have hml := F.ml
  have hown := F.own
  have hts := F.ts
  have hL := F.hL
  have hn9 : n ≤ 511 := by omega
  refine lv_aload_n hx hb dL_law_1584 rfl (lv_at hl 1 rfl) ?_
  refine lv_aload_n hx hb dL_law_1585 rfl (lv_at hl 0 rfl) ?_
  refine lv_iload hx hb dL_law_1586 (lv_at hl 4 rfl) ?_
  refine lv_iconst (v := nI 1) hx hb dL_law_1588 (by decide) ?_
  refine kn_iadd hx hb dL_law_1589 ?_
  refine va_sld hx hb F.sc F.bl (fun z => Nat.not_le.mpr F.bl z) hS.st (vp_in_nI (show iL + 1 < L by omega) (by omega)) dL_law_1590 ?_
  obtain ⟨x1, hx1⟩ : ∃ z, z = xs (nI (iL + 1)).toNatClampNeg := ⟨_, rfl⟩
  rw [← hx1]
  refine lv_aload_n hx hb dL_law_1591 rfl (lv_at hl 3 rfl) ?_
  refine ll_w (vx_runSW (As := [.ref (ad 57), .int x1, .ref o]) (rest := []) ⟨hx, hb, hml, hown, hts⟩ (m_L_orderText l F.st dC dI cB ad o S x1 hI9.x hI9.x5 (by have := hI9.xp; omega)) (vx_cwSW 3 hts gL_law_L_orderText rfl rfl rfl hdL_orderText_3.2 ⟨Nat.le_of_ble_eq_true rfl, Nat.le_of_ble_eq_true rfl⟩) (hS.preW F.K) rfl rfl hl.1 rfl (lv_room (Nat.le_of_ble_eq_true rfl)) dL_law_1592 ⟨le_rc (by omega), le_rs (by omega)⟩) F.K hS (fun r0 S1 n1 H locs hq9 hN hS => ?_)
  have hLQ : LQ S S1 := hq9.1
  have hR : R_orderText x1 S r0 S1 n1 := hq9.2
  clear hq9
  rcases hR with ⟨hb9, rfl, rfl⟩ | ⟨j, hj, rfl, rfl, hw⟩
  · skip
    refine lv_istore (lv' := [(5, .int (nI 1)), (0, .ref b), (1, .ref (ad 57)), (2, .ref (am 0)), (3, .ref o), (4, .int (nI iL))]) hx hb dL_law_1595 hl (by decide) rfl (fun ls hl => ?_)
    refine lv_aload_n hx hb dL_law_1597 rfl (lv_at hl 3 rfl) ?_
    refine lv_aload_n hx hb dL_law_1598 rfl (lv_at hl 1 rfl) ?_
    refine lv_iload hx hb dL_law_1599 (lv_at hl 5 rfl) ?_
    refine lv_iconst (v := nI 1) hx hb dL_law_1601 (by decide) ?_
    refine kn_iadd hx hb dL_law_1602 ?_
    refine va_sld hx hb F.sc F.bl (fun z => Nat.not_le.mpr F.bl z) hS.st (vp_in_nI (show iL + 1 < L by omega) (by omega)) dL_law_1603 ?_
    rw [← hx1]
    have hI := hI9.m
    have T := hI9.T
    have hc : M.2.2.2.1 + 12 < 1000000 := by have := hI9.mp; omega
    refine ll_mr (va_runV (As := [.int x1]) (rest := []) ⟨hx, hb, hml, hown, hts⟩ (o_X6_orderText_1 l dC dI cB am M x1 hb9) (cwV 1 hts gL_law_X6_orderText rfl rfl rfl hdX6_orderText_1 ⟨Nat.le_of_ble_eq_true rfl, Nat.le_of_ble_eq_true rfl⟩) (hS.preMT F.K) rfl rfl hl.1 rfl (lv_room (Nat.le_of_ble_eq_true rfl)) dL_law_1604 ⟨le_rc (by omega), le_rs (by omega)⟩) F.K hS (fun M1 q9 H locs hko hv hS => ?_)
    have hLM : LM M M1 := by rw [hv]; exact LM_th hI _
    have hT : Tie S M1 := by rw [hv]; exact T.th _
    refine lv_astore (lv' := [(6, .ref q9), (5, .int (nI 1)), (0, .ref b), (1, .ref (ad 57)), (2, .ref (am 0)), (3, .ref o), (4, .int (nI iL))]) hx hb dL_law_1607 hl (by decide) rfl (fun ls hl => ?_)
    refine lv_goto (tgt := 2052) hx hb dL_law_1609 (by decide) ?_
    exact W.widen (k := 100 + 224 * (n + 1)) (n := 1200 + 10680 * (n + 1)) (by omega) (by omega) (kk9 S M1 _ _ _ (hI9.next hLQ hLM hT) hS (lv_sub hl [2, 3, 4, 5, 6] rfl))
  · skip
    refine lv_istore (lv' := [(5, .int (nI 0)), (0, .ref b), (1, .ref (ad 57)), (2, .ref (am 0)), (3, .ref o), (4, .int (nI iL))]) hx hb dL_law_1595 hl (by decide) rfl (fun ls hl => ?_)
    refine lv_aload_n hx hb dL_law_1597 rfl (lv_at hl 3 rfl) ?_
    refine lv_aload_n hx hb dL_law_1598 rfl (lv_at hl 1 rfl) ?_
    refine lv_iload hx hb dL_law_1599 (lv_at hl 5 rfl) ?_
    refine lv_iconst (v := nI 1) hx hb dL_law_1601 (by decide) ?_
    refine kn_iadd hx hb dL_law_1602 ?_
    refine va_sld hx hb F.sc F.bl (fun z => Nat.not_le.mpr F.bl z) hS.st (vp_in_nI (show iL + 1 < L by omega) (by omega)) dL_law_1603 ?_
    rw [← hx1]
    have hI := hI9.m
    have T := hI9.T
    have hc : M.2.2.2.1 + 12 < 1000000 := by have := hI9.mp; omega
    refine ll_mr (va_runV (As := [.int (nI j)]) (rest := []) ⟨hx, hb, hml, hown, hts⟩ (m_X6_orderText l dC dI cB am M j hj hI) (cwV 1 hts gL_law_X6_orderText rfl rfl rfl hdX6_orderText_1 ⟨Nat.le_of_ble_eq_true rfl, Nat.le_of_ble_eq_true rfl⟩) (hS.preMT F.K) rfl rfl hl.1 rfl (lv_room (Nat.le_of_ble_eq_true rfl)) dL_law_1604 ⟨le_rc (by omega), le_rs (by omega)⟩) F.K hS (fun M1 q9 H locs hko hv hS => ?_)
    have hLM : LM M M1 := by rw [hv]; exact LM_th hI 0
    have hT : Tie S1 M1 := by rw [hw, hv]; exact T.th 0
    refine lv_astore (lv' := [(6, .ref q9), (5, .int (nI 0)), (0, .ref b), (1, .ref (ad 57)), (2, .ref (am 0)), (3, .ref o), (4, .int (nI iL))]) hx hb dL_law_1607 hl (by decide) rfl (fun ls hl => ?_)
    refine lv_goto (tgt := 2052) hx hb dL_law_1609 (by decide) ?_
    exact W.widen (k := 100 + 224 * (n + 1)) (n := 1200 + 10680 * (n + 1)) (by omega) (by omega) (kk9 S1 M1 _ _ _ (hI9.next hLQ hLM hT) hS (lv_sub hl [2, 3, 4, 5, 6] rfl))
set_option maxHeartbeats 4000000 in
set_option maxRecDepth 100000 in
theorem lc_31 {p : Program} {l : Launch} {e : Env} {s : State} {m : MethodId} {below : List Frame} {meth : Method} {c : Code} {b L : Nat} {xs : Nat → Int32} {dC : Nat → ClassId} {dI : Nat → Nat → Nat} {cB : ClassId} {ad am : Nat → Nat} {o n iL : Nat} {Q : State → Prop} (F : LF p l s m c b L xs dC dI cB ad am o) (hni : iL = 5 * n) (hiL : iL + 5 ≤ L) : LCase p l e s m below meth c b dC dI ad am o n iL Q 1612 := by
  intro S M H locs hI9 hS kk9 ls hl
  have hx := F.x
  have hb := F.b
  have hml := F.ml
  have hown := F.own
  have hts := F.ts
  have hL := F.hL
  have hn9 : n ≤ 511 := by omega
  refine lv_aload_n hx hb dL_law_1612 rfl (lv_at hl 1 rfl) ?_
  refine lv_aload_n hx hb dL_law_1613 rfl (lv_at hl 0 rfl) ?_
  refine lv_iload hx hb dL_law_1614 (lv_at hl 4 rfl) ?_
  refine lv_iconst (v := nI 1) hx hb dL_law_1616 (by decide) ?_
  refine kn_iadd hx hb dL_law_1617 ?_
  refine va_sld hx hb F.sc F.bl (fun z => Nat.not_le.mpr F.bl z) hS.st (vp_in_nI (show iL + 1 < L by omega) (by omega)) dL_law_1618 ?_
  obtain ⟨x1, hx1⟩ : ∃ z, z = xs (nI (iL + 1)).toNatClampNeg := ⟨_, rfl⟩
  rw [← hx1]
  refine lv_aload_n hx hb dL_law_1619 rfl (lv_at hl 0 rfl) ?_
  refine lv_iload hx hb dL_law_1620 (lv_at hl 4 rfl) ?_
  refine lv_iconst (v := nI 2) hx hb dL_law_1622 (by decide) ?_
  refine kn_iadd hx hb dL_law_1623 ?_
  refine va_sld hx hb F.sc F.bl (fun z => Nat.not_le.mpr F.bl z) hS.st (vp_in_nI (show iL + 2 < L by omega) (by omega)) dL_law_1624 ?_
  obtain ⟨x2, hx2⟩ : ∃ z, z = xs (nI (iL + 2)).toNatClampNeg := ⟨_, rfl⟩
  rw [← hx2]
  refine lv_aload_n hx hb dL_law_1625 rfl (lv_at hl 0 rfl) ?_
  refine lv_iload hx hb dL_law_1626 (lv_at hl 4 rfl) ?_
  refine lv_iconst (v := nI 3) hx hb dL_law_1628 (by decide) ?_
  refine kn_iadd hx hb dL_law_1629 ?_
  refine va_sld hx hb F.sc F.bl (fun z => Nat.not_le.mpr F.bl z) hS.st (vp_in_nI (show iL + 3 < L by omega) (by omega)) dL_law_1630 ?_
  obtain ⟨x3, hx3⟩ : ∃ z, z = xs (nI (iL + 3)).toNatClampNeg := ⟨_, rfl⟩
  rw [← hx3]
  refine lv_aload_n hx hb dL_law_1631 rfl (lv_at hl 3 rfl) ?_
  refine ll_w (vx_runSW (As := [.ref (ad 57), .int x1, .int x2, .int x3, .ref o]) (rest := []) ⟨hx, hb, hml, hown, hts⟩ (m_L_compare l F.st dC dI cB ad o S x1 x2 x3 hI9.x hI9.x5 (by have := hI9.xp; omega)) (vx_cwSW 5 hts gL_law_L_compare rfl rfl rfl hdL_compare_5.2 ⟨Nat.le_of_ble_eq_true rfl, Nat.le_of_ble_eq_true rfl⟩) (hS.preW F.K) rfl rfl hl.1 rfl (lv_room (Nat.le_of_ble_eq_true rfl)) dL_law_1632 ⟨le_rc (by omega), le_rs (by omega)⟩) F.K hS (fun r0 S1 n1 H locs hq9 hN hS => ?_)
  have hLQ : LQ S S1 := hq9.1
  have hR : R_compare x1 x2 x3 S r0 S1 n1 := hq9.2
  clear hq9
  rcases hR with ⟨hb9, rfl, rfl⟩ | ⟨j, hj, rfl, hb9, rfl, rfl⟩ | ⟨j, v, hj, hv9, rfl, rfl, hb9, rfl, rfl⟩ | ⟨j, v, v2, r7, hj, hv9, hv2, rfl, rfl, rfl, rfl, rfl, hw1, hw2⟩
  · skip
    refine lv_istore (lv' := [(5, .int (nI 1)), (0, .ref b), (1, .ref (ad 57)), (2, .ref (am 0)), (3, .ref o), (4, .int (nI iL))]) hx hb dL_law_1635 hl (by decide) rfl (fun ls hl => ?_)
    refine lv_aload_n hx hb dL_law_1637 rfl (lv_at hl 3 rfl) ?_
    refine lv_aload_n hx hb dL_law_1638 rfl (lv_at hl 1 rfl) ?_
    refine lv_iload hx hb dL_law_1639 (lv_at hl 5 rfl) ?_
    refine lv_iconst (v := nI 1) hx hb dL_law_1641 (by decide) ?_
    refine kn_iadd hx hb dL_law_1642 ?_
    refine va_sld hx hb F.sc F.bl (fun z => Nat.not_le.mpr F.bl z) hS.st (vp_in_nI (show iL + 1 < L by omega) (by omega)) dL_law_1643 ?_
    rw [← hx1]
    refine lv_aload_n hx hb dL_law_1644 rfl (lv_at hl 1 rfl) ?_
    refine lv_iload hx hb dL_law_1645 (lv_at hl 5 rfl) ?_
    refine lv_iconst (v := nI 2) hx hb dL_law_1647 (by decide) ?_
    refine kn_iadd hx hb dL_law_1648 ?_
    refine va_sld hx hb F.sc F.bl (fun z => Nat.not_le.mpr F.bl z) hS.st (vp_in_nI (show iL + 2 < L by omega) (by omega)) dL_law_1649 ?_
    rw [← hx2]
    refine lv_aload_n hx hb dL_law_1650 rfl (lv_at hl 1 rfl) ?_
    refine lv_iload hx hb dL_law_1651 (lv_at hl 5 rfl) ?_
    refine lv_iconst (v := nI 3) hx hb dL_law_1653 (by decide) ?_
    refine kn_iadd hx hb dL_law_1654 ?_
    refine va_sld hx hb F.sc F.bl (fun z => Nat.not_le.mpr F.bl z) hS.st (vp_in_nI (show iL + 3 < L by omega) (by omega)) dL_law_1655 ?_
    rw [← hx3]
    have hI := hI9.m
    have T := hI9.T
    have hc : M.2.2.2.1 + 12 < 1000000 := by have := hI9.mp; omega
    refine ll_m (va_runV (As := [.int x1, .int x2, .int x3]) (rest := []) ⟨hx, hb, hml, hown, hts⟩ (o_X6_compare_1 l dC dI am M x1 x2 x3 hb9 hI) (cwV 3 hts gL_law_X6_compare rfl rfl rfl hdX6_compare_3 ⟨Nat.le_of_ble_eq_true rfl, Nat.le_of_ble_eq_true rfl⟩) (hS.preM F.K) rfl rfl hl.1 rfl (lv_room (Nat.le_of_ble_eq_true rfl)) dL_law_1656 ⟨le_rc (by omega), le_rs (by omega)⟩) F.K hS (fun r8 M1 H locs hko hv hS => ?_)
    have hLM : LM M M1 := by rw [hv]; exact LM_th hI _
    have hT : Tie S M1 := by rw [hv]; exact T.th _
    refine lv_istore (lv' := [(6, .int r8), (5, .int (nI 1)), (0, .ref b), (1, .ref (ad 57)), (2, .ref (am 0)), (3, .ref o), (4, .int (nI iL))]) hx hb dL_law_1659 hl (by decide) rfl (fun ls hl => ?_)
    refine lv_goto (tgt := 2052) hx hb dL_law_1661 (by decide) ?_
    exact W.widen (k := 100 + 224 * (n + 1)) (n := 1200 + 10680 * (n + 1)) (by omega) (by omega) (kk9 S M1 _ _ _ (hI9.next hLQ hLM hT) hS (lv_sub hl [2, 3, 4, 5, 6] rfl))
  · skip
    refine lv_istore (lv' := [(5, .int (nI 2)), (0, .ref b), (1, .ref (ad 57)), (2, .ref (am 0)), (3, .ref o), (4, .int (nI iL))]) hx hb dL_law_1635 hl (by decide) rfl (fun ls hl => ?_)
    refine lv_aload_n hx hb dL_law_1637 rfl (lv_at hl 3 rfl) ?_
    refine lv_aload_n hx hb dL_law_1638 rfl (lv_at hl 1 rfl) ?_
    refine lv_iload hx hb dL_law_1639 (lv_at hl 5 rfl) ?_
    refine lv_iconst (v := nI 1) hx hb dL_law_1641 (by decide) ?_
    refine kn_iadd hx hb dL_law_1642 ?_
    refine va_sld hx hb F.sc F.bl (fun z => Nat.not_le.mpr F.bl z) hS.st (vp_in_nI (show iL + 1 < L by omega) (by omega)) dL_law_1643 ?_
    rw [← hx1]
    refine lv_aload_n hx hb dL_law_1644 rfl (lv_at hl 1 rfl) ?_
    refine lv_iload hx hb dL_law_1645 (lv_at hl 5 rfl) ?_
    refine lv_iconst (v := nI 2) hx hb dL_law_1647 (by decide) ?_
    refine kn_iadd hx hb dL_law_1648 ?_
    refine va_sld hx hb F.sc F.bl (fun z => Nat.not_le.mpr F.bl z) hS.st (vp_in_nI (show iL + 2 < L by omega) (by omega)) dL_law_1649 ?_
    rw [← hx2]
    refine lv_aload_n hx hb dL_law_1650 rfl (lv_at hl 1 rfl) ?_
    refine lv_iload hx hb dL_law_1651 (lv_at hl 5 rfl) ?_
    refine lv_iconst (v := nI 3) hx hb dL_law_1653 (by decide) ?_
    refine kn_iadd hx hb dL_law_1654 ?_
    refine va_sld hx hb F.sc F.bl (fun z => Nat.not_le.mpr F.bl z) hS.st (vp_in_nI (show iL + 3 < L by omega) (by omega)) dL_law_1655 ?_
    rw [← hx3]
    have hI := hI9.m
    have T := hI9.T
    have hc : M.2.2.2.1 + 12 < 1000000 := by have := hI9.mp; omega
    refine ll_m (va_runV (As := [.int (nI j), .int x2, .int x3]) (rest := []) ⟨hx, hb, hml, hown, hts⟩ (o_X6_compare_2 l dC dI am M j x2 x3 hj hb9 hI) (cwV 3 hts gL_law_X6_compare rfl rfl rfl hdX6_compare_3 ⟨Nat.le_of_ble_eq_true rfl, Nat.le_of_ble_eq_true rfl⟩) (hS.preM F.K) rfl rfl hl.1 rfl (lv_room (Nat.le_of_ble_eq_true rfl)) dL_law_1656 ⟨le_rc (by omega), le_rs (by omega)⟩) F.K hS (fun r8 M1 H locs hko hv hS => ?_)
    have hLM : LM M M1 := by rw [hv]; exact LM_th hI _
    have hT : Tie S M1 := by rw [hv]; exact T.th _
    refine lv_istore (lv' := [(6, .int r8), (5, .int (nI 2)), (0, .ref b), (1, .ref (ad 57)), (2, .ref (am 0)), (3, .ref o), (4, .int (nI iL))]) hx hb dL_law_1659 hl (by decide) rfl (fun ls hl => ?_)
    refine lv_goto (tgt := 2052) hx hb dL_law_1661 (by decide) ?_
    exact W.widen (k := 100 + 224 * (n + 1)) (n := 1200 + 10680 * (n + 1)) (by omega) (by omega) (kk9 S M1 _ _ _ (hI9.next hLQ hLM hT) hS (lv_sub hl [2, 3, 4, 5, 6] rfl))
  · skip
    refine lv_istore (lv' := [(5, .int (nI 2)), (0, .ref b), (1, .ref (ad 57)), (2, .ref (am 0)), (3, .ref o), (4, .int (nI iL))]) hx hb dL_law_1635 hl (by decide) rfl (fun ls hl => ?_)
    refine lv_aload_n hx hb dL_law_1637 rfl (lv_at hl 3 rfl) ?_
    refine lv_aload_n hx hb dL_law_1638 rfl (lv_at hl 1 rfl) ?_
    refine lv_iload hx hb dL_law_1639 (lv_at hl 5 rfl) ?_
    refine lv_iconst (v := nI 1) hx hb dL_law_1641 (by decide) ?_
    refine kn_iadd hx hb dL_law_1642 ?_
    refine va_sld hx hb F.sc F.bl (fun z => Nat.not_le.mpr F.bl z) hS.st (vp_in_nI (show iL + 1 < L by omega) (by omega)) dL_law_1643 ?_
    rw [← hx1]
    refine lv_aload_n hx hb dL_law_1644 rfl (lv_at hl 1 rfl) ?_
    refine lv_iload hx hb dL_law_1645 (lv_at hl 5 rfl) ?_
    refine lv_iconst (v := nI 2) hx hb dL_law_1647 (by decide) ?_
    refine kn_iadd hx hb dL_law_1648 ?_
    refine va_sld hx hb F.sc F.bl (fun z => Nat.not_le.mpr F.bl z) hS.st (vp_in_nI (show iL + 2 < L by omega) (by omega)) dL_law_1649 ?_
    rw [← hx2]
    refine lv_aload_n hx hb dL_law_1650 rfl (lv_at hl 1 rfl) ?_
    refine lv_iload hx hb dL_law_1651 (lv_at hl 5 rfl) ?_
    refine lv_iconst (v := nI 3) hx hb dL_law_1653 (by decide) ?_
    refine kn_iadd hx hb dL_law_1654 ?_
    refine va_sld hx hb F.sc F.bl (fun z => Nat.not_le.mpr F.bl z) hS.st (vp_in_nI (show iL + 3 < L by omega) (by omega)) dL_law_1655 ?_
    rw [← hx3]
    have hI := hI9.m
    have T := hI9.T
    have hc : M.2.2.2.1 + 12 < 1000000 := by have := hI9.mp; omega
    refine ll_m (va_runV (As := [.int (nI j), .int (nI v), .int x3]) (rest := []) ⟨hx, hb, hml, hown, hts⟩ (o_X6_compare_3 l dC dI am M j v x3 hj hv9 hb9 hI) (cwV 3 hts gL_law_X6_compare rfl rfl rfl hdX6_compare_3 ⟨Nat.le_of_ble_eq_true rfl, Nat.le_of_ble_eq_true rfl⟩) (hS.preM F.K) rfl rfl hl.1 rfl (lv_room (Nat.le_of_ble_eq_true rfl)) dL_law_1656 ⟨le_rc (by omega), le_rs (by omega)⟩) F.K hS (fun r8 M1 H locs hko hv hS => ?_)
    have hLM : LM M M1 := by rw [hv]; exact LM_th hI _
    have hT : Tie S M1 := by rw [hv]; exact T.th _
    refine lv_istore (lv' := [(6, .int r8), (5, .int (nI 2)), (0, .ref b), (1, .ref (ad 57)), (2, .ref (am 0)), (3, .ref o), (4, .int (nI iL))]) hx hb dL_law_1659 hl (by decide) rfl (fun ls hl => ?_)
    refine lv_goto (tgt := 2052) hx hb dL_law_1661 (by decide) ?_
    exact W.widen (k := 100 + 224 * (n + 1)) (n := 1200 + 10680 * (n + 1)) (by omega) (by omega) (kk9 S M1 _ _ _ (hI9.next hLQ hLM hT) hS (lv_sub hl [2, 3, 4, 5, 6] rfl))
  · skip
    have hw := And.intro hw1 hw2
    refine lv_istore (lv' := [(5, .int (nI 0)), (0, .ref b), (1, .ref (ad 57)), (2, .ref (am 0)), (3, .ref o), (4, .int (nI iL))]) hx hb dL_law_1635 hl (by decide) rfl (fun ls hl => ?_)
    refine lv_aload_n hx hb dL_law_1637 rfl (lv_at hl 3 rfl) ?_
    refine lv_aload_n hx hb dL_law_1638 rfl (lv_at hl 1 rfl) ?_
    refine lv_iload hx hb dL_law_1639 (lv_at hl 5 rfl) ?_
    refine lv_iconst (v := nI 1) hx hb dL_law_1641 (by decide) ?_
    refine kn_iadd hx hb dL_law_1642 ?_
    refine va_sld hx hb F.sc F.bl (fun z => Nat.not_le.mpr F.bl z) hS.st (vp_in_nI (show iL + 1 < L by omega) (by omega)) dL_law_1643 ?_
    rw [← hx1]
    refine lv_aload_n hx hb dL_law_1644 rfl (lv_at hl 1 rfl) ?_
    refine lv_iload hx hb dL_law_1645 (lv_at hl 5 rfl) ?_
    refine lv_iconst (v := nI 2) hx hb dL_law_1647 (by decide) ?_
    refine kn_iadd hx hb dL_law_1648 ?_
    refine va_sld hx hb F.sc F.bl (fun z => Nat.not_le.mpr F.bl z) hS.st (vp_in_nI (show iL + 2 < L by omega) (by omega)) dL_law_1649 ?_
    rw [← hx2]
    refine lv_aload_n hx hb dL_law_1650 rfl (lv_at hl 1 rfl) ?_
    refine lv_iload hx hb dL_law_1651 (lv_at hl 5 rfl) ?_
    refine lv_iconst (v := nI 3) hx hb dL_law_1653 (by decide) ?_
    refine kn_iadd hx hb dL_law_1654 ?_
    refine va_sld hx hb F.sc F.bl (fun z => Nat.not_le.mpr F.bl z) hS.st (vp_in_nI (show iL + 3 < L by omega) (by omega)) dL_law_1655 ?_
    rw [← hx3]
    have hI := hI9.m
    have T := hI9.T
    have hc : M.2.2.2.1 + 12 < 1000000 := by have := hI9.mp; omega
    refine ll_m (va_runV (As := [.int (nI j), .int (nI v), .int (nI v2)]) (rest := []) ⟨hx, hb, hml, hown, hts⟩ (m_X6_compare l dC dI am M j v v2 hj hv9 hv2 hI) (cwV 3 hts gL_law_X6_compare rfl rfl rfl hdX6_compare_3 ⟨Nat.le_of_ble_eq_true rfl, Nat.le_of_ble_eq_true rfl⟩) (hS.preM F.K) rfl rfl hl.1 rfl (lv_room (Nat.le_of_ble_eq_true rfl)) dL_law_1656 ⟨le_rc (by omega), le_rs (by omega)⟩) F.K hS (fun r8 M1 H locs hko hv hS => ?_)
    have hLM : LM M M1 := by rw [hv.2]; exact LM_th hI 0
    obtain ⟨hT, he9, ht9⟩ := A_compare T hI9.x hj hv9 hv2 hw hv
    refine lv_istore (lv' := [(6, .int r8), (5, .int (nI 0)), (0, .ref b), (1, .ref (ad 57)), (2, .ref (am 0)), (3, .ref o), (4, .int (nI iL))]) hx hb dL_law_1659 hl (by decide) rfl (fun ls hl => ?_)
    refine lv_goto (tgt := 2052) hx hb dL_law_1661 (by decide) ?_
    exact W.widen (k := 100 + 224 * (n + 1)) (n := 1200 + 10680 * (n + 1)) (by omega) (by omega) (kk9 S1 M1 _ _ _ (hI9.next hLQ hLM hT) hS (lv_sub hl [2, 3, 4, 5, 6] rfl))
set_option maxHeartbeats 4000000 in
set_option maxRecDepth 100000 in
theorem lc_32 {p : Program} {l : Launch} {e : Env} {s : State} {m : MethodId} {below : List Frame} {meth : Method} {c : Code} {b L : Nat} {xs : Nat → Int32} {dC : Nat → ClassId} {dI : Nat → Nat → Nat} {cB : ClassId} {ad am : Nat → Nat} {o n iL : Nat} {Q : State → Prop} (F : LF p l s m c b L xs dC dI cB ad am o) (hni : iL = 5 * n) (hiL : iL + 5 ≤ L) : LCase p l e s m below meth c b dC dI ad am o n iL Q 1664 := by
  intro S M H locs hI9 hS kk9 ls hl
  have hx := F.x
  have hb := F.b
  have hml := F.ml
  have hown := F.own
  have hts := F.ts
  have hL := F.hL
  have hn9 : n ≤ 511 := by omega
  refine lv_aload_n hx hb dL_law_1664 rfl (lv_at hl 1 rfl) ?_
  refine lv_aload_n hx hb dL_law_1665 rfl (lv_at hl 0 rfl) ?_
  refine lv_iload hx hb dL_law_1666 (lv_at hl 4 rfl) ?_
  refine lv_iconst (v := nI 1) hx hb dL_law_1668 (by decide) ?_
  refine kn_iadd hx hb dL_law_1669 ?_
  refine va_sld hx hb F.sc F.bl (fun z => Nat.not_le.mpr F.bl z) hS.st (vp_in_nI (show iL + 1 < L by omega) (by omega)) dL_law_1670 ?_
  obtain ⟨x1, hx1⟩ : ∃ z, z = xs (nI (iL + 1)).toNatClampNeg := ⟨_, rfl⟩
  rw [← hx1]
  refine lv_aload_n hx hb dL_law_1671 rfl (lv_at hl 0 rfl) ?_
  refine lv_iload hx hb dL_law_1672 (lv_at hl 4 rfl) ?_
  refine lv_iconst (v := nI 2) hx hb dL_law_1674 (by decide) ?_
  refine kn_iadd hx hb dL_law_1675 ?_
  refine va_sld hx hb F.sc F.bl (fun z => Nat.not_le.mpr F.bl z) hS.st (vp_in_nI (show iL + 2 < L by omega) (by omega)) dL_law_1676 ?_
  obtain ⟨x2, hx2⟩ : ∃ z, z = xs (nI (iL + 2)).toNatClampNeg := ⟨_, rfl⟩
  rw [← hx2]
  refine lv_aload_n hx hb dL_law_1677 rfl (lv_at hl 0 rfl) ?_
  refine lv_iload hx hb dL_law_1678 (lv_at hl 4 rfl) ?_
  refine lv_iconst (v := nI 3) hx hb dL_law_1680 (by decide) ?_
  refine kn_iadd hx hb dL_law_1681 ?_
  refine va_sld hx hb F.sc F.bl (fun z => Nat.not_le.mpr F.bl z) hS.st (vp_in_nI (show iL + 3 < L by omega) (by omega)) dL_law_1682 ?_
  obtain ⟨x3, hx3⟩ : ∃ z, z = xs (nI (iL + 3)).toNatClampNeg := ⟨_, rfl⟩
  rw [← hx3]
  refine lv_aload_n hx hb dL_law_1683 rfl (lv_at hl 0 rfl) ?_
  refine lv_iload hx hb dL_law_1684 (lv_at hl 4 rfl) ?_
  refine lv_iconst (v := nI 4) hx hb dL_law_1686 (by decide) ?_
  refine kn_iadd hx hb dL_law_1687 ?_
  refine va_sld hx hb F.sc F.bl (fun z => Nat.not_le.mpr F.bl z) hS.st (vp_in_nI (show iL + 4 < L by omega) (by omega)) dL_law_1688 ?_
  obtain ⟨x4, hx4⟩ : ∃ z, z = xs (nI (iL + 4)).toNatClampNeg := ⟨_, rfl⟩
  rw [← hx4]
  refine lv_aload_n hx hb dL_law_1689 rfl (lv_at hl 3 rfl) ?_
  refine ll_w (vx_runSW (As := [.ref (ad 57), .int x1, .int x2, .int x3, .int x4, .ref o]) (rest := []) ⟨hx, hb, hml, hown, hts⟩ (m_L_both l F.st dC dI cB ad o S x1 x2 x3 x4 hI9.x hI9.x5 (by have := hI9.xp; omega)) (vx_cwSW 6 hts gL_law_L_both rfl rfl rfl hdL_both_6.2 ⟨Nat.le_of_ble_eq_true rfl, Nat.le_of_ble_eq_true rfl⟩) (hS.preW F.K) rfl rfl hl.1 rfl (lv_room (Nat.le_of_ble_eq_true rfl)) dL_law_1690 ⟨le_rc (by omega), le_rs (by omega)⟩) F.K hS (fun r0 S1 n1 H locs hq9 hN hS => ?_)
  have hLQ : LQ S S1 := hq9.1
  have hR : R_both x1 x2 x3 x4 S r0 S1 n1 := hq9.2
  clear hq9
  rcases hR with ⟨hb9, rfl, rfl⟩ | ⟨j, hj, rfl, hb9, rfl, rfl⟩ | ⟨j, j2, hj, hj2, rfl, rfl, hb9, rfl, rfl⟩ | ⟨j, j2, v, hj, hj2, hv9, rfl, rfl, rfl, hb9, rfl, rfl⟩ | ⟨j, j2, v, v2, r7, hj, hj2, hv9, hv2, rfl, rfl, rfl, rfl, rfl, rfl, hw1, hw2⟩
  · skip
    refine lv_istore (lv' := [(5, .int (nI 1)), (0, .ref b), (1, .ref (ad 57)), (2, .ref (am 0)), (3, .ref o), (4, .int (nI iL))]) hx hb dL_law_1693 hl (by decide) rfl (fun ls hl => ?_)
    refine lv_aload_n hx hb dL_law_1695 rfl (lv_at hl 3 rfl) ?_
    refine lv_aload_n hx hb dL_law_1696 rfl (lv_at hl 1 rfl) ?_
    refine lv_iload hx hb dL_law_1697 (lv_at hl 5 rfl) ?_
    refine lv_iconst (v := nI 1) hx hb dL_law_1699 (by decide) ?_
    refine kn_iadd hx hb dL_law_1700 ?_
    refine va_sld hx hb F.sc F.bl (fun z => Nat.not_le.mpr F.bl z) hS.st (vp_in_nI (show iL + 1 < L by omega) (by omega)) dL_law_1701 ?_
    rw [← hx1]
    refine lv_aload_n hx hb dL_law_1702 rfl (lv_at hl 1 rfl) ?_
    refine lv_iload hx hb dL_law_1703 (lv_at hl 5 rfl) ?_
    refine lv_iconst (v := nI 2) hx hb dL_law_1705 (by decide) ?_
    refine kn_iadd hx hb dL_law_1706 ?_
    refine va_sld hx hb F.sc F.bl (fun z => Nat.not_le.mpr F.bl z) hS.st (vp_in_nI (show iL + 2 < L by omega) (by omega)) dL_law_1707 ?_
    rw [← hx2]
    refine lv_aload_n hx hb dL_law_1708 rfl (lv_at hl 1 rfl) ?_
    refine lv_iload hx hb dL_law_1709 (lv_at hl 5 rfl) ?_
    refine lv_iconst (v := nI 3) hx hb dL_law_1711 (by decide) ?_
    refine kn_iadd hx hb dL_law_1712 ?_
    refine va_sld hx hb F.sc F.bl (fun z => Nat.not_le.mpr F.bl z) hS.st (vp_in_nI (show iL + 3 < L by omega) (by omega)) dL_law_1713 ?_
    rw [← hx3]
    refine lv_aload_n hx hb dL_law_1714 rfl (lv_at hl 1 rfl) ?_
    refine lv_iload hx hb dL_law_1715 (lv_at hl 5 rfl) ?_
    refine lv_iconst (v := nI 4) hx hb dL_law_1717 (by decide) ?_
    refine kn_iadd hx hb dL_law_1718 ?_
    refine va_sld hx hb F.sc F.bl (fun z => Nat.not_le.mpr F.bl z) hS.st (vp_in_nI (show iL + 4 < L by omega) (by omega)) dL_law_1719 ?_
    rw [← hx4]
    have hI := hI9.m
    have T := hI9.T
    have hc : M.2.2.2.1 + 12 < 1000000 := by have := hI9.mp; omega
    refine ll_m (va_runV (As := [.int x1, .int x2, .int x3, .int x4]) (rest := []) ⟨hx, hb, hml, hown, hts⟩ (o_X6_both_1 l dC dI am M x1 x2 x3 x4 hb9 hI) (cwV 4 hts gL_law_X6_both rfl rfl rfl hdX6_both_4 ⟨Nat.le_of_ble_eq_true rfl, Nat.le_of_ble_eq_true rfl⟩) (hS.preM F.K) rfl rfl hl.1 rfl (lv_room (Nat.le_of_ble_eq_true rfl)) dL_law_1720 ⟨le_rc (by omega), le_rs (by omega)⟩) F.K hS (fun r8 M1 H locs hko hv hS => ?_)
    have hLM : LM M M1 := by rw [hv]; exact LM_th hI _
    have hT : Tie S M1 := by rw [hv]; exact T.th _
    refine lv_istore (lv' := [(6, .int r8), (5, .int (nI 1)), (0, .ref b), (1, .ref (ad 57)), (2, .ref (am 0)), (3, .ref o), (4, .int (nI iL))]) hx hb dL_law_1723 hl (by decide) rfl (fun ls hl => ?_)
    refine lv_goto (tgt := 2052) hx hb dL_law_1725 (by decide) ?_
    exact W.widen (k := 100 + 224 * (n + 1)) (n := 1200 + 10680 * (n + 1)) (by omega) (by omega) (kk9 S M1 _ _ _ (hI9.next hLQ hLM hT) hS (lv_sub hl [2, 3, 4, 5, 6] rfl))
  · skip
    refine lv_istore (lv' := [(5, .int (nI 1)), (0, .ref b), (1, .ref (ad 57)), (2, .ref (am 0)), (3, .ref o), (4, .int (nI iL))]) hx hb dL_law_1693 hl (by decide) rfl (fun ls hl => ?_)
    refine lv_aload_n hx hb dL_law_1695 rfl (lv_at hl 3 rfl) ?_
    refine lv_aload_n hx hb dL_law_1696 rfl (lv_at hl 1 rfl) ?_
    refine lv_iload hx hb dL_law_1697 (lv_at hl 5 rfl) ?_
    refine lv_iconst (v := nI 1) hx hb dL_law_1699 (by decide) ?_
    refine kn_iadd hx hb dL_law_1700 ?_
    refine va_sld hx hb F.sc F.bl (fun z => Nat.not_le.mpr F.bl z) hS.st (vp_in_nI (show iL + 1 < L by omega) (by omega)) dL_law_1701 ?_
    rw [← hx1]
    refine lv_aload_n hx hb dL_law_1702 rfl (lv_at hl 1 rfl) ?_
    refine lv_iload hx hb dL_law_1703 (lv_at hl 5 rfl) ?_
    refine lv_iconst (v := nI 2) hx hb dL_law_1705 (by decide) ?_
    refine kn_iadd hx hb dL_law_1706 ?_
    refine va_sld hx hb F.sc F.bl (fun z => Nat.not_le.mpr F.bl z) hS.st (vp_in_nI (show iL + 2 < L by omega) (by omega)) dL_law_1707 ?_
    rw [← hx2]
    refine lv_aload_n hx hb dL_law_1708 rfl (lv_at hl 1 rfl) ?_
    refine lv_iload hx hb dL_law_1709 (lv_at hl 5 rfl) ?_
    refine lv_iconst (v := nI 3) hx hb dL_law_1711 (by decide) ?_
    refine kn_iadd hx hb dL_law_1712 ?_
    refine va_sld hx hb F.sc F.bl (fun z => Nat.not_le.mpr F.bl z) hS.st (vp_in_nI (show iL + 3 < L by omega) (by omega)) dL_law_1713 ?_
    rw [← hx3]
    refine lv_aload_n hx hb dL_law_1714 rfl (lv_at hl 1 rfl) ?_
    refine lv_iload hx hb dL_law_1715 (lv_at hl 5 rfl) ?_
    refine lv_iconst (v := nI 4) hx hb dL_law_1717 (by decide) ?_
    refine kn_iadd hx hb dL_law_1718 ?_
    refine va_sld hx hb F.sc F.bl (fun z => Nat.not_le.mpr F.bl z) hS.st (vp_in_nI (show iL + 4 < L by omega) (by omega)) dL_law_1719 ?_
    rw [← hx4]
    have hI := hI9.m
    have T := hI9.T
    have hc : M.2.2.2.1 + 12 < 1000000 := by have := hI9.mp; omega
    refine ll_m (va_runV (As := [.int (nI j), .int x2, .int x3, .int x4]) (rest := []) ⟨hx, hb, hml, hown, hts⟩ (o_X6_both_2 l dC dI am M j x2 x3 x4 hj hb9 hI) (cwV 4 hts gL_law_X6_both rfl rfl rfl hdX6_both_4 ⟨Nat.le_of_ble_eq_true rfl, Nat.le_of_ble_eq_true rfl⟩) (hS.preM F.K) rfl rfl hl.1 rfl (lv_room (Nat.le_of_ble_eq_true rfl)) dL_law_1720 ⟨le_rc (by omega), le_rs (by omega)⟩) F.K hS (fun r8 M1 H locs hko hv hS => ?_)
    have hLM : LM M M1 := by rw [hv]; exact LM_th hI _
    have hT : Tie S M1 := by rw [hv]; exact T.th _
    refine lv_istore (lv' := [(6, .int r8), (5, .int (nI 1)), (0, .ref b), (1, .ref (ad 57)), (2, .ref (am 0)), (3, .ref o), (4, .int (nI iL))]) hx hb dL_law_1723 hl (by decide) rfl (fun ls hl => ?_)
    refine lv_goto (tgt := 2052) hx hb dL_law_1725 (by decide) ?_
    exact W.widen (k := 100 + 224 * (n + 1)) (n := 1200 + 10680 * (n + 1)) (by omega) (by omega) (kk9 S M1 _ _ _ (hI9.next hLQ hLM hT) hS (lv_sub hl [2, 3, 4, 5, 6] rfl))
  · skip
    refine lv_istore (lv' := [(5, .int (nI 2)), (0, .ref b), (1, .ref (ad 57)), (2, .ref (am 0)), (3, .ref o), (4, .int (nI iL))]) hx hb dL_law_1693 hl (by decide) rfl (fun ls hl => ?_)
    refine lv_aload_n hx hb dL_law_1695 rfl (lv_at hl 3 rfl) ?_
    refine lv_aload_n hx hb dL_law_1696 rfl (lv_at hl 1 rfl) ?_
    refine lv_iload hx hb dL_law_1697 (lv_at hl 5 rfl) ?_
    refine lv_iconst (v := nI 1) hx hb dL_law_1699 (by decide) ?_
    refine kn_iadd hx hb dL_law_1700 ?_
    refine va_sld hx hb F.sc F.bl (fun z => Nat.not_le.mpr F.bl z) hS.st (vp_in_nI (show iL + 1 < L by omega) (by omega)) dL_law_1701 ?_
    rw [← hx1]
    refine lv_aload_n hx hb dL_law_1702 rfl (lv_at hl 1 rfl) ?_
    refine lv_iload hx hb dL_law_1703 (lv_at hl 5 rfl) ?_
    refine lv_iconst (v := nI 2) hx hb dL_law_1705 (by decide) ?_
    refine kn_iadd hx hb dL_law_1706 ?_
    refine va_sld hx hb F.sc F.bl (fun z => Nat.not_le.mpr F.bl z) hS.st (vp_in_nI (show iL + 2 < L by omega) (by omega)) dL_law_1707 ?_
    rw [← hx2]
    refine lv_aload_n hx hb dL_law_1708 rfl (lv_at hl 1 rfl) ?_
    refine lv_iload hx hb dL_law_1709 (lv_at hl 5 rfl) ?_
    refine lv_iconst (v := nI 3) hx hb dL_law_1711 (by decide) ?_
    refine kn_iadd hx hb dL_law_1712 ?_
    refine va_sld hx hb F.sc F.bl (fun z => Nat.not_le.mpr F.bl z) hS.st (vp_in_nI (show iL + 3 < L by omega) (by omega)) dL_law_1713 ?_
    rw [← hx3]
    refine lv_aload_n hx hb dL_law_1714 rfl (lv_at hl 1 rfl) ?_
    refine lv_iload hx hb dL_law_1715 (lv_at hl 5 rfl) ?_
    refine lv_iconst (v := nI 4) hx hb dL_law_1717 (by decide) ?_
    refine kn_iadd hx hb dL_law_1718 ?_
    refine va_sld hx hb F.sc F.bl (fun z => Nat.not_le.mpr F.bl z) hS.st (vp_in_nI (show iL + 4 < L by omega) (by omega)) dL_law_1719 ?_
    rw [← hx4]
    have hI := hI9.m
    have T := hI9.T
    have hc : M.2.2.2.1 + 12 < 1000000 := by have := hI9.mp; omega
    refine ll_m (va_runV (As := [.int (nI j), .int (nI j2), .int x3, .int x4]) (rest := []) ⟨hx, hb, hml, hown, hts⟩ (o_X6_both_3 l dC dI am M j j2 x3 x4 hj hj2 hb9 hI) (cwV 4 hts gL_law_X6_both rfl rfl rfl hdX6_both_4 ⟨Nat.le_of_ble_eq_true rfl, Nat.le_of_ble_eq_true rfl⟩) (hS.preM F.K) rfl rfl hl.1 rfl (lv_room (Nat.le_of_ble_eq_true rfl)) dL_law_1720 ⟨le_rc (by omega), le_rs (by omega)⟩) F.K hS (fun r8 M1 H locs hko hv hS => ?_)
    have hLM : LM M M1 := by rw [hv]; exact LM_th hI _
    have hT : Tie S M1 := by rw [hv]; exact T.th _
    refine lv_istore (lv' := [(6, .int r8), (5, .int (nI 2)), (0, .ref b), (1, .ref (ad 57)), (2, .ref (am 0)), (3, .ref o), (4, .int (nI iL))]) hx hb dL_law_1723 hl (by decide) rfl (fun ls hl => ?_)
    refine lv_goto (tgt := 2052) hx hb dL_law_1725 (by decide) ?_
    exact W.widen (k := 100 + 224 * (n + 1)) (n := 1200 + 10680 * (n + 1)) (by omega) (by omega) (kk9 S M1 _ _ _ (hI9.next hLQ hLM hT) hS (lv_sub hl [2, 3, 4, 5, 6] rfl))
  · skip
    refine lv_istore (lv' := [(5, .int (nI 2)), (0, .ref b), (1, .ref (ad 57)), (2, .ref (am 0)), (3, .ref o), (4, .int (nI iL))]) hx hb dL_law_1693 hl (by decide) rfl (fun ls hl => ?_)
    refine lv_aload_n hx hb dL_law_1695 rfl (lv_at hl 3 rfl) ?_
    refine lv_aload_n hx hb dL_law_1696 rfl (lv_at hl 1 rfl) ?_
    refine lv_iload hx hb dL_law_1697 (lv_at hl 5 rfl) ?_
    refine lv_iconst (v := nI 1) hx hb dL_law_1699 (by decide) ?_
    refine kn_iadd hx hb dL_law_1700 ?_
    refine va_sld hx hb F.sc F.bl (fun z => Nat.not_le.mpr F.bl z) hS.st (vp_in_nI (show iL + 1 < L by omega) (by omega)) dL_law_1701 ?_
    rw [← hx1]
    refine lv_aload_n hx hb dL_law_1702 rfl (lv_at hl 1 rfl) ?_
    refine lv_iload hx hb dL_law_1703 (lv_at hl 5 rfl) ?_
    refine lv_iconst (v := nI 2) hx hb dL_law_1705 (by decide) ?_
    refine kn_iadd hx hb dL_law_1706 ?_
    refine va_sld hx hb F.sc F.bl (fun z => Nat.not_le.mpr F.bl z) hS.st (vp_in_nI (show iL + 2 < L by omega) (by omega)) dL_law_1707 ?_
    rw [← hx2]
    refine lv_aload_n hx hb dL_law_1708 rfl (lv_at hl 1 rfl) ?_
    refine lv_iload hx hb dL_law_1709 (lv_at hl 5 rfl) ?_
    refine lv_iconst (v := nI 3) hx hb dL_law_1711 (by decide) ?_
    refine kn_iadd hx hb dL_law_1712 ?_
    refine va_sld hx hb F.sc F.bl (fun z => Nat.not_le.mpr F.bl z) hS.st (vp_in_nI (show iL + 3 < L by omega) (by omega)) dL_law_1713 ?_
    rw [← hx3]
    refine lv_aload_n hx hb dL_law_1714 rfl (lv_at hl 1 rfl) ?_
    refine lv_iload hx hb dL_law_1715 (lv_at hl 5 rfl) ?_
    refine lv_iconst (v := nI 4) hx hb dL_law_1717 (by decide) ?_
    refine kn_iadd hx hb dL_law_1718 ?_
    refine va_sld hx hb F.sc F.bl (fun z => Nat.not_le.mpr F.bl z) hS.st (vp_in_nI (show iL + 4 < L by omega) (by omega)) dL_law_1719 ?_
    rw [← hx4]
    have hI := hI9.m
    have T := hI9.T
    have hc : M.2.2.2.1 + 12 < 1000000 := by have := hI9.mp; omega
    refine ll_m (va_runV (As := [.int (nI j), .int (nI j2), .int (nI v), .int x4]) (rest := []) ⟨hx, hb, hml, hown, hts⟩ (o_X6_both_4 l dC dI am M j j2 v x4 hj hj2 hv9 hb9 hI) (cwV 4 hts gL_law_X6_both rfl rfl rfl hdX6_both_4 ⟨Nat.le_of_ble_eq_true rfl, Nat.le_of_ble_eq_true rfl⟩) (hS.preM F.K) rfl rfl hl.1 rfl (lv_room (Nat.le_of_ble_eq_true rfl)) dL_law_1720 ⟨le_rc (by omega), le_rs (by omega)⟩) F.K hS (fun r8 M1 H locs hko hv hS => ?_)
    have hLM : LM M M1 := by rw [hv]; exact LM_th hI _
    have hT : Tie S M1 := by rw [hv]; exact T.th _
    refine lv_istore (lv' := [(6, .int r8), (5, .int (nI 2)), (0, .ref b), (1, .ref (ad 57)), (2, .ref (am 0)), (3, .ref o), (4, .int (nI iL))]) hx hb dL_law_1723 hl (by decide) rfl (fun ls hl => ?_)
    refine lv_goto (tgt := 2052) hx hb dL_law_1725 (by decide) ?_
    exact W.widen (k := 100 + 224 * (n + 1)) (n := 1200 + 10680 * (n + 1)) (by omega) (by omega) (kk9 S M1 _ _ _ (hI9.next hLQ hLM hT) hS (lv_sub hl [2, 3, 4, 5, 6] rfl))
  · skip
    have hw := And.intro hw1 hw2
    refine lv_istore (lv' := [(5, .int (nI 0)), (0, .ref b), (1, .ref (ad 57)), (2, .ref (am 0)), (3, .ref o), (4, .int (nI iL))]) hx hb dL_law_1693 hl (by decide) rfl (fun ls hl => ?_)
    refine lv_aload_n hx hb dL_law_1695 rfl (lv_at hl 3 rfl) ?_
    refine lv_aload_n hx hb dL_law_1696 rfl (lv_at hl 1 rfl) ?_
    refine lv_iload hx hb dL_law_1697 (lv_at hl 5 rfl) ?_
    refine lv_iconst (v := nI 1) hx hb dL_law_1699 (by decide) ?_
    refine kn_iadd hx hb dL_law_1700 ?_
    refine va_sld hx hb F.sc F.bl (fun z => Nat.not_le.mpr F.bl z) hS.st (vp_in_nI (show iL + 1 < L by omega) (by omega)) dL_law_1701 ?_
    rw [← hx1]
    refine lv_aload_n hx hb dL_law_1702 rfl (lv_at hl 1 rfl) ?_
    refine lv_iload hx hb dL_law_1703 (lv_at hl 5 rfl) ?_
    refine lv_iconst (v := nI 2) hx hb dL_law_1705 (by decide) ?_
    refine kn_iadd hx hb dL_law_1706 ?_
    refine va_sld hx hb F.sc F.bl (fun z => Nat.not_le.mpr F.bl z) hS.st (vp_in_nI (show iL + 2 < L by omega) (by omega)) dL_law_1707 ?_
    rw [← hx2]
    refine lv_aload_n hx hb dL_law_1708 rfl (lv_at hl 1 rfl) ?_
    refine lv_iload hx hb dL_law_1709 (lv_at hl 5 rfl) ?_
    refine lv_iconst (v := nI 3) hx hb dL_law_1711 (by decide) ?_
    refine kn_iadd hx hb dL_law_1712 ?_
    refine va_sld hx hb F.sc F.bl (fun z => Nat.not_le.mpr F.bl z) hS.st (vp_in_nI (show iL + 3 < L by omega) (by omega)) dL_law_1713 ?_
    rw [← hx3]
    refine lv_aload_n hx hb dL_law_1714 rfl (lv_at hl 1 rfl) ?_
    refine lv_iload hx hb dL_law_1715 (lv_at hl 5 rfl) ?_
    refine lv_iconst (v := nI 4) hx hb dL_law_1717 (by decide) ?_
    refine kn_iadd hx hb dL_law_1718 ?_
    refine va_sld hx hb F.sc F.bl (fun z => Nat.not_le.mpr F.bl z) hS.st (vp_in_nI (show iL + 4 < L by omega) (by omega)) dL_law_1719 ?_
    rw [← hx4]
    have hI := hI9.m
    have T := hI9.T
    have hc : M.2.2.2.1 + 12 < 1000000 := by have := hI9.mp; omega
    refine ll_m (va_runV (As := [.int (nI j), .int (nI j2), .int (nI v), .int (nI v2)]) (rest := []) ⟨hx, hb, hml, hown, hts⟩ (m_X6_both l dC dI am M j j2 v v2 hj hj2 hv9 hv2 hI) (cwV 4 hts gL_law_X6_both rfl rfl rfl hdX6_both_4 ⟨Nat.le_of_ble_eq_true rfl, Nat.le_of_ble_eq_true rfl⟩) (hS.preM F.K) rfl rfl hl.1 rfl (lv_room (Nat.le_of_ble_eq_true rfl)) dL_law_1720 ⟨le_rc (by omega), le_rs (by omega)⟩) F.K hS (fun r8 M1 H locs hko hv hS => ?_)
    have hLM : LM M M1 := by rw [hv.2]; exact LM_th hI 0
    obtain ⟨hT, he9, ht9⟩ := A_both T hI9.x hj hj2 hv9 hv2 hw hv
    refine lv_istore (lv' := [(6, .int r8), (5, .int (nI 0)), (0, .ref b), (1, .ref (ad 57)), (2, .ref (am 0)), (3, .ref o), (4, .int (nI iL))]) hx hb dL_law_1723 hl (by decide) rfl (fun ls hl => ?_)
    refine lv_goto (tgt := 2052) hx hb dL_law_1725 (by decide) ?_
    exact W.widen (k := 100 + 224 * (n + 1)) (n := 1200 + 10680 * (n + 1)) (by omega) (by omega) (kk9 S1 M1 _ _ _ (hI9.next hLQ hLM hT) hS (lv_sub hl [2, 3, 4, 5, 6] rfl))
