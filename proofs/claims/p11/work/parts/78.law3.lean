set_option maxHeartbeats 4000000 in
set_option maxRecDepth 100000 in
theorem lc_22 {p : Program} {l : Launch} {e : Env} {s : State} {m : MethodId} {below : List Frame} {meth : Method} {c : Code} {b L : Nat} {xs : Nat → Int32} {dC : Nat → ClassId} {dI : Nat → Nat → Nat} {cB : ClassId} {ad am : Nat → Nat} {o n iL : Nat} {Q : State → Prop} (F : LF p l s m c b L xs dC dI cB ad am o) (hni : iL = 5 * n) (hiL : iL + 5 ≤ L) : LCase p l e s m below meth c b dC dI ad am o n iL Q 1249 := by
  intro S M H locs hI9 hS kk9 ls hl
  have hx := F.x
  have hb := F.b
  have hml := F.ml
  have hown := F.own
  have hts := F.ts
  have hL := F.hL
  have hn9 : n ≤ 511 := by omega
  refine lv_aload_n hx hb dL_law_1249 rfl (lv_at hl 1 rfl) ?_
  refine lv_aload_n hx hb dL_law_1250 rfl (lv_at hl 0 rfl) ?_
  refine lv_iload hx hb dL_law_1251 (lv_at hl 4 rfl) ?_
  refine lv_iconst (v := nI 1) hx hb dL_law_1253 (by decide) ?_
  refine kn_iadd hx hb dL_law_1254 ?_
  refine va_sld hx hb F.sc F.bl (fun z => Nat.not_le.mpr F.bl z) hS.st (vp_in_nI (show iL + 1 < L by omega) (by omega)) dL_law_1255 ?_
  obtain ⟨x1, hx1⟩ : ∃ z, z = xs (nI (iL + 1)).toNatClampNeg := ⟨_, rfl⟩
  rw [← hx1]
  refine lv_aload_n hx hb dL_law_1256 rfl (lv_at hl 0 rfl) ?_
  refine lv_iload hx hb dL_law_1257 (lv_at hl 4 rfl) ?_
  refine lv_iconst (v := nI 2) hx hb dL_law_1259 (by decide) ?_
  refine kn_iadd hx hb dL_law_1260 ?_
  refine va_sld hx hb F.sc F.bl (fun z => Nat.not_le.mpr F.bl z) hS.st (vp_in_nI (show iL + 2 < L by omega) (by omega)) dL_law_1261 ?_
  obtain ⟨x2, hx2⟩ : ∃ z, z = xs (nI (iL + 2)).toNatClampNeg := ⟨_, rfl⟩
  rw [← hx2]
  refine lv_aload_n hx hb dL_law_1262 rfl (lv_at hl 0 rfl) ?_
  refine lv_iload hx hb dL_law_1263 (lv_at hl 4 rfl) ?_
  refine lv_iconst (v := nI 3) hx hb dL_law_1265 (by decide) ?_
  refine kn_iadd hx hb dL_law_1266 ?_
  refine va_sld hx hb F.sc F.bl (fun z => Nat.not_le.mpr F.bl z) hS.st (vp_in_nI (show iL + 3 < L by omega) (by omega)) dL_law_1267 ?_
  obtain ⟨x3, hx3⟩ : ∃ z, z = xs (nI (iL + 3)).toNatClampNeg := ⟨_, rfl⟩
  rw [← hx3]
  refine lv_if_eq (tgt := 1275) hx hb dL_law_1268 (by decide) (fun k_4 => ?_) (fun k_4 => ?_)
  · skip
    refine lv_iconst (v := bI false) hx hb dL_law_1275 (by decide) ?_
    refine lv_aload_n hx hb dL_law_1276 rfl (lv_at hl 3 rfl) ?_
    refine ll_w (vx_runSW (As := [.ref (ad 57), .int x1, .int x2, .int (bI false), .ref o]) (rest := []) ⟨hx, hb, hml, hown, hts⟩ (m_L_ranks l F.st dC dI cB ad o S x1 x2 false hI9.x hI9.x5 (by have := hI9.xp; omega)) (vx_cwSW 5 hts gL_law_L_ranks rfl rfl rfl hdL_ranks_5.2 ⟨Nat.le_of_ble_eq_true rfl, Nat.le_of_ble_eq_true rfl⟩) (hS.preW F.K) rfl rfl hl.1 rfl (lv_room (Nat.le_of_ble_eq_true rfl)) dL_law_1277 ⟨le_rc (by omega), le_rs (by omega)⟩) F.K hS (fun r0 S1 n1 H locs hq9 hN hS => ?_)
    have hLQ : LQ S S1 := hq9.1
    have hR : R_ranks x1 x2 false S r0 S1 n1 := hq9.2
    clear hq9
    rcases hR with ⟨hb9, rfl, rfl⟩ | ⟨i, hi, rfl, hb9, rfl, rfl⟩ | ⟨i, j, hi, hj, rfl, rfl, rfl, hw⟩
    · skip
      refine lv_istore (lv' := [(5, .int (nI 1)), (0, .ref b), (1, .ref (ad 57)), (2, .ref (am 0)), (3, .ref o), (4, .int (nI iL))]) hx hb dL_law_1280 hl (by decide) rfl (fun ls hl => ?_)
      refine lv_aload_n hx hb dL_law_1282 rfl (lv_at hl 3 rfl) ?_
      refine lv_aload_n hx hb dL_law_1283 rfl (lv_at hl 1 rfl) ?_
      refine lv_iload hx hb dL_law_1284 (lv_at hl 5 rfl) ?_
      refine lv_iconst (v := nI 1) hx hb dL_law_1286 (by decide) ?_
      refine kn_iadd hx hb dL_law_1287 ?_
      refine va_sld hx hb F.sc F.bl (fun z => Nat.not_le.mpr F.bl z) hS.st (vp_in_nI (show iL + 1 < L by omega) (by omega)) dL_law_1288 ?_
      rw [← hx1]
      refine lv_aload_n hx hb dL_law_1289 rfl (lv_at hl 1 rfl) ?_
      refine lv_iload hx hb dL_law_1290 (lv_at hl 5 rfl) ?_
      refine lv_iconst (v := nI 2) hx hb dL_law_1292 (by decide) ?_
      refine kn_iadd hx hb dL_law_1293 ?_
      refine va_sld hx hb F.sc F.bl (fun z => Nat.not_le.mpr F.bl z) hS.st (vp_in_nI (show iL + 2 < L by omega) (by omega)) dL_law_1294 ?_
      rw [← hx2]
      refine lv_aload_n hx hb dL_law_1295 rfl (lv_at hl 1 rfl) ?_
      refine lv_iload hx hb dL_law_1296 (lv_at hl 5 rfl) ?_
      refine lv_iconst (v := nI 3) hx hb dL_law_1298 (by decide) ?_
      refine kn_iadd hx hb dL_law_1299 ?_
      refine va_sld hx hb F.sc F.bl (fun z => Nat.not_le.mpr F.bl z) hS.st (vp_in_nI (show iL + 3 < L by omega) (by omega)) dL_law_1300 ?_
      rw [← hx3]
      refine lv_if_eq (tgt := 1308) hx hb dL_law_1301 (by decide) (fun k_5 => ?_) (fun k_5 => absurd k_4 k_5)
      refine lv_iconst (v := bI false) hx hb dL_law_1308 (by decide) ?_
      have hI := hI9.m
      have T := hI9.T
      have hc : M.2.2.2.1 + 12 < 1000000 := by have := hI9.mp; omega
      refine ll_mr (va_runV (As := [.int x1, .int x2, .int (bI false)]) (rest := []) ⟨hx, hb, hml, hown, hts⟩ (o_X6_ranks_1 l dC dI cB am M x1 x2 false hb9) (cwV 3 hts gL_law_X6_ranks rfl rfl rfl hdX6_ranks_3 ⟨Nat.le_of_ble_eq_true rfl, Nat.le_of_ble_eq_true rfl⟩) (hS.preMT F.K) rfl rfl hl.1 rfl (lv_room (Nat.le_of_ble_eq_true rfl)) dL_law_1309 ⟨le_rc (by omega), le_rs (by omega)⟩) F.K hS (fun M1 q9 H locs hko hv hS => ?_)
      have hLM : LM M M1 := by rw [hv]; exact LM_th hI _
      have hT : Tie2 S M1 := by rw [hv]; exact T.th _
      refine lv_astore (lv' := [(6, .ref q9), (5, .int (nI 1)), (0, .ref b), (1, .ref (ad 57)), (2, .ref (am 0)), (3, .ref o), (4, .int (nI iL))]) hx hb dL_law_1312 hl (by decide) rfl (fun ls hl => ?_)
      refine lv_goto (tgt := 2052) hx hb dL_law_1314 (by decide) ?_
      exact W.widen (k := 100 + 224 * (n + 1)) (n := 1200 + 10680 * (n + 1)) (by omega) (by omega) (kk9 S M1 _ _ _ (hI9.next hLQ hLM hT) hS (lv_sub hl [2, 3, 4, 5, 6] rfl))
    · skip
      refine lv_istore (lv' := [(5, .int (nI 1)), (0, .ref b), (1, .ref (ad 57)), (2, .ref (am 0)), (3, .ref o), (4, .int (nI iL))]) hx hb dL_law_1280 hl (by decide) rfl (fun ls hl => ?_)
      refine lv_aload_n hx hb dL_law_1282 rfl (lv_at hl 3 rfl) ?_
      refine lv_aload_n hx hb dL_law_1283 rfl (lv_at hl 1 rfl) ?_
      refine lv_iload hx hb dL_law_1284 (lv_at hl 5 rfl) ?_
      refine lv_iconst (v := nI 1) hx hb dL_law_1286 (by decide) ?_
      refine kn_iadd hx hb dL_law_1287 ?_
      refine va_sld hx hb F.sc F.bl (fun z => Nat.not_le.mpr F.bl z) hS.st (vp_in_nI (show iL + 1 < L by omega) (by omega)) dL_law_1288 ?_
      rw [← hx1]
      refine lv_aload_n hx hb dL_law_1289 rfl (lv_at hl 1 rfl) ?_
      refine lv_iload hx hb dL_law_1290 (lv_at hl 5 rfl) ?_
      refine lv_iconst (v := nI 2) hx hb dL_law_1292 (by decide) ?_
      refine kn_iadd hx hb dL_law_1293 ?_
      refine va_sld hx hb F.sc F.bl (fun z => Nat.not_le.mpr F.bl z) hS.st (vp_in_nI (show iL + 2 < L by omega) (by omega)) dL_law_1294 ?_
      rw [← hx2]
      refine lv_aload_n hx hb dL_law_1295 rfl (lv_at hl 1 rfl) ?_
      refine lv_iload hx hb dL_law_1296 (lv_at hl 5 rfl) ?_
      refine lv_iconst (v := nI 3) hx hb dL_law_1298 (by decide) ?_
      refine kn_iadd hx hb dL_law_1299 ?_
      refine va_sld hx hb F.sc F.bl (fun z => Nat.not_le.mpr F.bl z) hS.st (vp_in_nI (show iL + 3 < L by omega) (by omega)) dL_law_1300 ?_
      rw [← hx3]
      refine lv_if_eq (tgt := 1308) hx hb dL_law_1301 (by decide) (fun k_6 => ?_) (fun k_6 => absurd k_4 k_6)
      refine lv_iconst (v := bI false) hx hb dL_law_1308 (by decide) ?_
      have hI := hI9.m
      have T := hI9.T
      have hc : M.2.2.2.1 + 12 < 1000000 := by have := hI9.mp; omega
      have hn := (hI.1 i hi).1
      refine ll_mr (va_runV (As := [.int (nI i), .int x2, .int (bI false)]) (rest := []) ⟨hx, hb, hml, hown, hts⟩ (o_X6_ranks_2 l dC dI cB am M i x2 false hi hb9) (cwV 3 hts gL_law_X6_ranks rfl rfl rfl hdX6_ranks_3 ⟨Nat.le_of_ble_eq_true rfl, Nat.le_of_ble_eq_true rfl⟩) (hS.preMT F.K) rfl rfl hl.1 rfl (lv_room (Nat.le_of_ble_eq_true rfl)) dL_law_1309 ⟨le_rc (by omega), le_rs (by omega)⟩) F.K hS (fun M1 q9 H locs hko hv hS => ?_)
      have hLM : LM M M1 := by rw [hv]; exact LM_th hI _
      have hT : Tie2 S M1 := by rw [hv]; exact T.th _
      refine lv_astore (lv' := [(6, .ref q9), (5, .int (nI 1)), (0, .ref b), (1, .ref (ad 57)), (2, .ref (am 0)), (3, .ref o), (4, .int (nI iL))]) hx hb dL_law_1312 hl (by decide) rfl (fun ls hl => ?_)
      refine lv_goto (tgt := 2052) hx hb dL_law_1314 (by decide) ?_
      exact W.widen (k := 100 + 224 * (n + 1)) (n := 1200 + 10680 * (n + 1)) (by omega) (by omega) (kk9 S M1 _ _ _ (hI9.next hLQ hLM hT) hS (lv_sub hl [2, 3, 4, 5, 6] rfl))
    · skip
      refine lv_istore (lv' := [(5, .int (nI 0)), (0, .ref b), (1, .ref (ad 57)), (2, .ref (am 0)), (3, .ref o), (4, .int (nI iL))]) hx hb dL_law_1280 hl (by decide) rfl (fun ls hl => ?_)
      refine lv_aload_n hx hb dL_law_1282 rfl (lv_at hl 3 rfl) ?_
      refine lv_aload_n hx hb dL_law_1283 rfl (lv_at hl 1 rfl) ?_
      refine lv_iload hx hb dL_law_1284 (lv_at hl 5 rfl) ?_
      refine lv_iconst (v := nI 1) hx hb dL_law_1286 (by decide) ?_
      refine kn_iadd hx hb dL_law_1287 ?_
      refine va_sld hx hb F.sc F.bl (fun z => Nat.not_le.mpr F.bl z) hS.st (vp_in_nI (show iL + 1 < L by omega) (by omega)) dL_law_1288 ?_
      rw [← hx1]
      refine lv_aload_n hx hb dL_law_1289 rfl (lv_at hl 1 rfl) ?_
      refine lv_iload hx hb dL_law_1290 (lv_at hl 5 rfl) ?_
      refine lv_iconst (v := nI 2) hx hb dL_law_1292 (by decide) ?_
      refine kn_iadd hx hb dL_law_1293 ?_
      refine va_sld hx hb F.sc F.bl (fun z => Nat.not_le.mpr F.bl z) hS.st (vp_in_nI (show iL + 2 < L by omega) (by omega)) dL_law_1294 ?_
      rw [← hx2]
      refine lv_aload_n hx hb dL_law_1295 rfl (lv_at hl 1 rfl) ?_
      refine lv_iload hx hb dL_law_1296 (lv_at hl 5 rfl) ?_
      refine lv_iconst (v := nI 3) hx hb dL_law_1298 (by decide) ?_
      refine kn_iadd hx hb dL_law_1299 ?_
      refine va_sld hx hb F.sc F.bl (fun z => Nat.not_le.mpr F.bl z) hS.st (vp_in_nI (show iL + 3 < L by omega) (by omega)) dL_law_1300 ?_
      rw [← hx3]
      refine lv_if_eq (tgt := 1308) hx hb dL_law_1301 (by decide) (fun k_7 => ?_) (fun k_7 => absurd k_4 k_7)
      refine lv_iconst (v := bI false) hx hb dL_law_1308 (by decide) ?_
      have hI := hI9.m
      have T := hI9.T
      have hc : M.2.2.2.1 + 12 < 1000000 := by have := hI9.mp; omega
      have hn := (hI.1 i hi).1
      refine ll_mr (va_runV (As := [.int (nI i), .int (nI j), .int (bI false)]) (rest := []) ⟨hx, hb, hml, hown, hts⟩ (m_X6_ranks_f l dC dI cB am M i j hi hj hI) (cwV 3 hts gL_law_X6_ranks rfl rfl rfl hdX6_ranks_3 ⟨Nat.le_of_ble_eq_true rfl, Nat.le_of_ble_eq_true rfl⟩) (hS.preMT F.K) rfl rfl hl.1 rfl (lv_room (Nat.le_of_ble_eq_true rfl)) dL_law_1309 ⟨le_rc (by omega), le_rs (by omega)⟩) F.K hS (fun M1 q9 H locs hko hv hS => ?_)
      have hLM : LM M M1 := by rw [hv]; exact LM_th hI 0
      have hT : Tie2 S1 M1 := by rw [hv]; exact (T.KR hw).th 0
      refine lv_astore (lv' := [(6, .ref q9), (5, .int (nI 0)), (0, .ref b), (1, .ref (ad 57)), (2, .ref (am 0)), (3, .ref o), (4, .int (nI iL))]) hx hb dL_law_1312 hl (by decide) rfl (fun ls hl => ?_)
      refine lv_goto (tgt := 2052) hx hb dL_law_1314 (by decide) ?_
      exact W.widen (k := 100 + 224 * (n + 1)) (n := 1200 + 10680 * (n + 1)) (by omega) (by omega) (kk9 S1 M1 _ _ _ (hI9.next hLQ hLM hT) hS (lv_sub hl [2, 3, 4, 5, 6] rfl))
  · skip
    refine lv_iconst (v := bI true) hx hb dL_law_1271 (by decide) ?_
    refine lv_goto (tgt := 1276) hx hb dL_law_1272 (by decide) ?_
    refine lv_aload_n hx hb dL_law_1276 rfl (lv_at hl 3 rfl) ?_
    refine ll_w (vx_runSW (As := [.ref (ad 57), .int x1, .int x2, .int (bI true), .ref o]) (rest := []) ⟨hx, hb, hml, hown, hts⟩ (m_L_ranks l F.st dC dI cB ad o S x1 x2 true hI9.x hI9.x5 (by have := hI9.xp; omega)) (vx_cwSW 5 hts gL_law_L_ranks rfl rfl rfl hdL_ranks_5.2 ⟨Nat.le_of_ble_eq_true rfl, Nat.le_of_ble_eq_true rfl⟩) (hS.preW F.K) rfl rfl hl.1 rfl (lv_room (Nat.le_of_ble_eq_true rfl)) dL_law_1277 ⟨le_rc (by omega), le_rs (by omega)⟩) F.K hS (fun r0 S1 n1 H locs hq9 hN hS => ?_)
    have hLQ : LQ S S1 := hq9.1
    have hR : R_ranks x1 x2 true S r0 S1 n1 := hq9.2
    clear hq9
    rcases hR with ⟨hb9, rfl, rfl⟩ | ⟨i, hi, rfl, hb9, rfl, rfl⟩ | ⟨i, j, hi, hj, rfl, rfl, rfl, hw⟩
    · skip
      refine lv_istore (lv' := [(5, .int (nI 1)), (0, .ref b), (1, .ref (ad 57)), (2, .ref (am 0)), (3, .ref o), (4, .int (nI iL))]) hx hb dL_law_1280 hl (by decide) rfl (fun ls hl => ?_)
      refine lv_aload_n hx hb dL_law_1282 rfl (lv_at hl 3 rfl) ?_
      refine lv_aload_n hx hb dL_law_1283 rfl (lv_at hl 1 rfl) ?_
      refine lv_iload hx hb dL_law_1284 (lv_at hl 5 rfl) ?_
      refine lv_iconst (v := nI 1) hx hb dL_law_1286 (by decide) ?_
      refine kn_iadd hx hb dL_law_1287 ?_
      refine va_sld hx hb F.sc F.bl (fun z => Nat.not_le.mpr F.bl z) hS.st (vp_in_nI (show iL + 1 < L by omega) (by omega)) dL_law_1288 ?_
      rw [← hx1]
      refine lv_aload_n hx hb dL_law_1289 rfl (lv_at hl 1 rfl) ?_
      refine lv_iload hx hb dL_law_1290 (lv_at hl 5 rfl) ?_
      refine lv_iconst (v := nI 2) hx hb dL_law_1292 (by decide) ?_
      refine kn_iadd hx hb dL_law_1293 ?_
      refine va_sld hx hb F.sc F.bl (fun z => Nat.not_le.mpr F.bl z) hS.st (vp_in_nI (show iL + 2 < L by omega) (by omega)) dL_law_1294 ?_
      rw [← hx2]
      refine lv_aload_n hx hb dL_law_1295 rfl (lv_at hl 1 rfl) ?_
      refine lv_iload hx hb dL_law_1296 (lv_at hl 5 rfl) ?_
      refine lv_iconst (v := nI 3) hx hb dL_law_1298 (by decide) ?_
      refine kn_iadd hx hb dL_law_1299 ?_
      refine va_sld hx hb F.sc F.bl (fun z => Nat.not_le.mpr F.bl z) hS.st (vp_in_nI (show iL + 3 < L by omega) (by omega)) dL_law_1300 ?_
      rw [← hx3]
      refine lv_if_eq (tgt := 1308) hx hb dL_law_1301 (by decide) (fun k_8 => absurd k_8 k_4) (fun k_8 => ?_)
      refine lv_iconst (v := bI true) hx hb dL_law_1304 (by decide) ?_
      refine lv_goto (tgt := 1309) hx hb dL_law_1305 (by decide) ?_
      have hI := hI9.m
      have T := hI9.T
      have hc : M.2.2.2.1 + 12 < 1000000 := by have := hI9.mp; omega
      refine ll_mr (va_runV (As := [.int x1, .int x2, .int (bI true)]) (rest := []) ⟨hx, hb, hml, hown, hts⟩ (o_X6_ranks_1 l dC dI cB am M x1 x2 true hb9) (cwV 3 hts gL_law_X6_ranks rfl rfl rfl hdX6_ranks_3 ⟨Nat.le_of_ble_eq_true rfl, Nat.le_of_ble_eq_true rfl⟩) (hS.preMT F.K) rfl rfl hl.1 rfl (lv_room (Nat.le_of_ble_eq_true rfl)) dL_law_1309 ⟨le_rc (by omega), le_rs (by omega)⟩) F.K hS (fun M1 q9 H locs hko hv hS => ?_)
      have hLM : LM M M1 := by rw [hv]; exact LM_th hI _
      have hT : Tie2 S M1 := by rw [hv]; exact T.th _
      refine lv_astore (lv' := [(6, .ref q9), (5, .int (nI 1)), (0, .ref b), (1, .ref (ad 57)), (2, .ref (am 0)), (3, .ref o), (4, .int (nI iL))]) hx hb dL_law_1312 hl (by decide) rfl (fun ls hl => ?_)
      refine lv_goto (tgt := 2052) hx hb dL_law_1314 (by decide) ?_
      exact W.widen (k := 100 + 224 * (n + 1)) (n := 1200 + 10680 * (n + 1)) (by omega) (by omega) (kk9 S M1 _ _ _ (hI9.next hLQ hLM hT) hS (lv_sub hl [2, 3, 4, 5, 6] rfl))
    · skip
      refine lv_istore (lv' := [(5, .int (nI 1)), (0, .ref b), (1, .ref (ad 57)), (2, .ref (am 0)), (3, .ref o), (4, .int (nI iL))]) hx hb dL_law_1280 hl (by decide) rfl (fun ls hl => ?_)
      refine lv_aload_n hx hb dL_law_1282 rfl (lv_at hl 3 rfl) ?_
      refine lv_aload_n hx hb dL_law_1283 rfl (lv_at hl 1 rfl) ?_
      refine lv_iload hx hb dL_law_1284 (lv_at hl 5 rfl) ?_
      refine lv_iconst (v := nI 1) hx hb dL_law_1286 (by decide) ?_
      refine kn_iadd hx hb dL_law_1287 ?_
      refine va_sld hx hb F.sc F.bl (fun z => Nat.not_le.mpr F.bl z) hS.st (vp_in_nI (show iL + 1 < L by omega) (by omega)) dL_law_1288 ?_
      rw [← hx1]
      refine lv_aload_n hx hb dL_law_1289 rfl (lv_at hl 1 rfl) ?_
      refine lv_iload hx hb dL_law_1290 (lv_at hl 5 rfl) ?_
      refine lv_iconst (v := nI 2) hx hb dL_law_1292 (by decide) ?_
      refine kn_iadd hx hb dL_law_1293 ?_
      refine va_sld hx hb F.sc F.bl (fun z => Nat.not_le.mpr F.bl z) hS.st (vp_in_nI (show iL + 2 < L by omega) (by omega)) dL_law_1294 ?_
      rw [← hx2]
      refine lv_aload_n hx hb dL_law_1295 rfl (lv_at hl 1 rfl) ?_
      refine lv_iload hx hb dL_law_1296 (lv_at hl 5 rfl) ?_
      refine lv_iconst (v := nI 3) hx hb dL_law_1298 (by decide) ?_
      refine kn_iadd hx hb dL_law_1299 ?_
      refine va_sld hx hb F.sc F.bl (fun z => Nat.not_le.mpr F.bl z) hS.st (vp_in_nI (show iL + 3 < L by omega) (by omega)) dL_law_1300 ?_
      rw [← hx3]
      refine lv_if_eq (tgt := 1308) hx hb dL_law_1301 (by decide) (fun k_9 => absurd k_9 k_4) (fun k_9 => ?_)
      refine lv_iconst (v := bI true) hx hb dL_law_1304 (by decide) ?_
      refine lv_goto (tgt := 1309) hx hb dL_law_1305 (by decide) ?_
      have hI := hI9.m
      have T := hI9.T
      have hc : M.2.2.2.1 + 12 < 1000000 := by have := hI9.mp; omega
      have hn := (hI.1 i hi).1
      refine ll_mr (va_runV (As := [.int (nI i), .int x2, .int (bI true)]) (rest := []) ⟨hx, hb, hml, hown, hts⟩ (o_X6_ranks_2 l dC dI cB am M i x2 true hi hb9) (cwV 3 hts gL_law_X6_ranks rfl rfl rfl hdX6_ranks_3 ⟨Nat.le_of_ble_eq_true rfl, Nat.le_of_ble_eq_true rfl⟩) (hS.preMT F.K) rfl rfl hl.1 rfl (lv_room (Nat.le_of_ble_eq_true rfl)) dL_law_1309 ⟨le_rc (by omega), le_rs (by omega)⟩) F.K hS (fun M1 q9 H locs hko hv hS => ?_)
      have hLM : LM M M1 := by rw [hv]; exact LM_th hI _
      have hT : Tie2 S M1 := by rw [hv]; exact T.th _
      refine lv_astore (lv' := [(6, .ref q9), (5, .int (nI 1)), (0, .ref b), (1, .ref (ad 57)), (2, .ref (am 0)), (3, .ref o), (4, .int (nI iL))]) hx hb dL_law_1312 hl (by decide) rfl (fun ls hl => ?_)
      refine lv_goto (tgt := 2052) hx hb dL_law_1314 (by decide) ?_
      exact W.widen (k := 100 + 224 * (n + 1)) (n := 1200 + 10680 * (n + 1)) (by omega) (by omega) (kk9 S M1 _ _ _ (hI9.next hLQ hLM hT) hS (lv_sub hl [2, 3, 4, 5, 6] rfl))
    · skip
      refine lv_istore (lv' := [(5, .int (nI 0)), (0, .ref b), (1, .ref (ad 57)), (2, .ref (am 0)), (3, .ref o), (4, .int (nI iL))]) hx hb dL_law_1280 hl (by decide) rfl (fun ls hl => ?_)
      refine lv_aload_n hx hb dL_law_1282 rfl (lv_at hl 3 rfl) ?_
      refine lv_aload_n hx hb dL_law_1283 rfl (lv_at hl 1 rfl) ?_
      refine lv_iload hx hb dL_law_1284 (lv_at hl 5 rfl) ?_
      refine lv_iconst (v := nI 1) hx hb dL_law_1286 (by decide) ?_
      refine kn_iadd hx hb dL_law_1287 ?_
      refine va_sld hx hb F.sc F.bl (fun z => Nat.not_le.mpr F.bl z) hS.st (vp_in_nI (show iL + 1 < L by omega) (by omega)) dL_law_1288 ?_
      rw [← hx1]
      refine lv_aload_n hx hb dL_law_1289 rfl (lv_at hl 1 rfl) ?_
      refine lv_iload hx hb dL_law_1290 (lv_at hl 5 rfl) ?_
      refine lv_iconst (v := nI 2) hx hb dL_law_1292 (by decide) ?_
      refine kn_iadd hx hb dL_law_1293 ?_
      refine va_sld hx hb F.sc F.bl (fun z => Nat.not_le.mpr F.bl z) hS.st (vp_in_nI (show iL + 2 < L by omega) (by omega)) dL_law_1294 ?_
      rw [← hx2]
      refine lv_aload_n hx hb dL_law_1295 rfl (lv_at hl 1 rfl) ?_
      refine lv_iload hx hb dL_law_1296 (lv_at hl 5 rfl) ?_
      refine lv_iconst (v := nI 3) hx hb dL_law_1298 (by decide) ?_
      refine kn_iadd hx hb dL_law_1299 ?_
      refine va_sld hx hb F.sc F.bl (fun z => Nat.not_le.mpr F.bl z) hS.st (vp_in_nI (show iL + 3 < L by omega) (by omega)) dL_law_1300 ?_
      rw [← hx3]
      refine lv_if_eq (tgt := 1308) hx hb dL_law_1301 (by decide) (fun k_10 => absurd k_10 k_4) (fun k_10 => ?_)
      refine lv_iconst (v := bI true) hx hb dL_law_1304 (by decide) ?_
      refine lv_goto (tgt := 1309) hx hb dL_law_1305 (by decide) ?_
      have hI := hI9.m
      have T := hI9.T
      have hc : M.2.2.2.1 + 12 < 1000000 := by have := hI9.mp; omega
      have hn := (hI.1 i hi).1
      refine ll_mr (va_runV (As := [.int (nI i), .int (nI j), .int (bI true)]) (rest := []) ⟨hx, hb, hml, hown, hts⟩ (m_X6_ranks_t l dC dI cB am M i j hi hj hI) (cwV 3 hts gL_law_X6_ranks rfl rfl rfl hdX6_ranks_3 ⟨Nat.le_of_ble_eq_true rfl, Nat.le_of_ble_eq_true rfl⟩) (hS.preMT F.K) rfl rfl hl.1 rfl (lv_room (Nat.le_of_ble_eq_true rfl)) dL_law_1309 ⟨le_rc (by omega), le_rs (by omega)⟩) F.K hS (fun M1 q9 H locs hko hv hS => ?_)
      have hLM : LM M M1 := by rw [hv]; exact LM_th hI 0
      have hT : Tie2 S1 M1 := by rw [hv]; exact (T.KR hw).th 0
      refine lv_astore (lv' := [(6, .ref q9), (5, .int (nI 0)), (0, .ref b), (1, .ref (ad 57)), (2, .ref (am 0)), (3, .ref o), (4, .int (nI iL))]) hx hb dL_law_1312 hl (by decide) rfl (fun ls hl => ?_)
      refine lv_goto (tgt := 2052) hx hb dL_law_1314 (by decide) ?_
      exact W.widen (k := 100 + 224 * (n + 1)) (n := 1200 + 10680 * (n + 1)) (by omega) (by omega) (kk9 S1 M1 _ _ _ (hI9.next hLQ hLM hT) hS (lv_sub hl [2, 3, 4, 5, 6] rfl))
set_option maxHeartbeats 4000000 in
set_option maxRecDepth 100000 in
theorem lc_23 {p : Program} {l : Launch} {e : Env} {s : State} {m : MethodId} {below : List Frame} {meth : Method} {c : Code} {b L : Nat} {xs : Nat → Int32} {dC : Nat → ClassId} {dI : Nat → Nat → Nat} {cB : ClassId} {ad am : Nat → Nat} {o n iL : Nat} {Q : State → Prop} (F : LF p l s m c b L xs dC dI cB ad am o) (hni : iL = 5 * n) (hiL : iL + 5 ≤ L) : LCase p l e s m below meth c b dC dI ad am o n iL Q 1317 := by
  intro S M H locs hI9 hS kk9 ls hl
  have hx := F.x
  have hb := F.b
  have hml := F.ml
  have hown := F.own
  have hts := F.ts
  have hL := F.hL
  have hn9 : n ≤ 511 := by omega
  refine lv_aload_n hx hb dL_law_1317 rfl (lv_at hl 1 rfl) ?_
  refine lv_aload_n hx hb dL_law_1318 rfl (lv_at hl 0 rfl) ?_
  refine lv_iload hx hb dL_law_1319 (lv_at hl 4 rfl) ?_
  refine lv_iconst (v := nI 1) hx hb dL_law_1321 (by decide) ?_
  refine kn_iadd hx hb dL_law_1322 ?_
  refine va_sld hx hb F.sc F.bl (fun z => Nat.not_le.mpr F.bl z) hS.st (vp_in_nI (show iL + 1 < L by omega) (by omega)) dL_law_1323 ?_
  obtain ⟨x1, hx1⟩ : ∃ z, z = xs (nI (iL + 1)).toNatClampNeg := ⟨_, rfl⟩
  rw [← hx1]
  refine lv_aload_n hx hb dL_law_1324 rfl (lv_at hl 0 rfl) ?_
  refine lv_iload hx hb dL_law_1325 (lv_at hl 4 rfl) ?_
  refine lv_iconst (v := nI 2) hx hb dL_law_1327 (by decide) ?_
  refine kn_iadd hx hb dL_law_1328 ?_
  refine va_sld hx hb F.sc F.bl (fun z => Nat.not_le.mpr F.bl z) hS.st (vp_in_nI (show iL + 2 < L by omega) (by omega)) dL_law_1329 ?_
  obtain ⟨x2, hx2⟩ : ∃ z, z = xs (nI (iL + 2)).toNatClampNeg := ⟨_, rfl⟩
  rw [← hx2]
  refine lv_aload_n hx hb dL_law_1330 rfl (lv_at hl 0 rfl) ?_
  refine lv_iload hx hb dL_law_1331 (lv_at hl 4 rfl) ?_
  refine lv_iconst (v := nI 3) hx hb dL_law_1333 (by decide) ?_
  refine kn_iadd hx hb dL_law_1334 ?_
  refine va_sld hx hb F.sc F.bl (fun z => Nat.not_le.mpr F.bl z) hS.st (vp_in_nI (show iL + 3 < L by omega) (by omega)) dL_law_1335 ?_
  obtain ⟨x3, hx3⟩ : ∃ z, z = xs (nI (iL + 3)).toNatClampNeg := ⟨_, rfl⟩
  rw [← hx3]
  refine lv_if_eq (tgt := 1343) hx hb dL_law_1336 (by decide) (fun k_4 => ?_) (fun k_4 => ?_)
  · skip
    refine lv_iconst (v := bI false) hx hb dL_law_1343 (by decide) ?_
    refine lv_aload_n hx hb dL_law_1344 rfl (lv_at hl 3 rfl) ?_
    refine ll_w (vx_runSW (As := [.ref (ad 57), .int x1, .int x2, .int (bI false), .ref o]) (rest := []) ⟨hx, hb, hml, hown, hts⟩ (m_L_step l F.st dC dI cB ad o S x1 x2 false hI9.x hI9.x5 (by have := hI9.xp; omega)) (vx_cwSW 5 hts gL_law_L_step rfl rfl rfl hdL_step_5.2 ⟨Nat.le_of_ble_eq_true rfl, Nat.le_of_ble_eq_true rfl⟩) (hS.preW F.K) rfl rfl hl.1 rfl (lv_room (Nat.le_of_ble_eq_true rfl)) dL_law_1345 ⟨le_rc (by omega), le_rs (by omega)⟩) F.K hS (fun r0 S1 n1 H locs hq9 hN hS => ?_)
    have hLQ : LQ S S1 := hq9.1
    have hR : R_step x1 x2 false S r0 S1 n1 := hq9.2
    clear hq9
    rcases hR with ⟨hb9, rfl, rfl⟩ | ⟨j, hj, rfl, hb9, rfl, rfl⟩ | ⟨j, k, r7, hj, hk, rfl, rfl, rfl, rfl, hw⟩
    · skip
      refine lv_istore (lv' := [(5, .int (nI 1)), (0, .ref b), (1, .ref (ad 57)), (2, .ref (am 0)), (3, .ref o), (4, .int (nI iL))]) hx hb dL_law_1348 hl (by decide) rfl (fun ls hl => ?_)
      refine lv_aload_n hx hb dL_law_1350 rfl (lv_at hl 3 rfl) ?_
      refine lv_aload_n hx hb dL_law_1351 rfl (lv_at hl 1 rfl) ?_
      refine lv_iload hx hb dL_law_1352 (lv_at hl 5 rfl) ?_
      refine lv_iconst (v := nI 1) hx hb dL_law_1354 (by decide) ?_
      refine kn_iadd hx hb dL_law_1355 ?_
      refine va_sld hx hb F.sc F.bl (fun z => Nat.not_le.mpr F.bl z) hS.st (vp_in_nI (show iL + 1 < L by omega) (by omega)) dL_law_1356 ?_
      rw [← hx1]
      refine lv_aload_n hx hb dL_law_1357 rfl (lv_at hl 1 rfl) ?_
      refine lv_iload hx hb dL_law_1358 (lv_at hl 5 rfl) ?_
      refine lv_iconst (v := nI 2) hx hb dL_law_1360 (by decide) ?_
      refine kn_iadd hx hb dL_law_1361 ?_
      refine va_sld hx hb F.sc F.bl (fun z => Nat.not_le.mpr F.bl z) hS.st (vp_in_nI (show iL + 2 < L by omega) (by omega)) dL_law_1362 ?_
      rw [← hx2]
      refine lv_aload_n hx hb dL_law_1363 rfl (lv_at hl 1 rfl) ?_
      refine lv_iload hx hb dL_law_1364 (lv_at hl 5 rfl) ?_
      refine lv_iconst (v := nI 3) hx hb dL_law_1366 (by decide) ?_
      refine kn_iadd hx hb dL_law_1367 ?_
      refine va_sld hx hb F.sc F.bl (fun z => Nat.not_le.mpr F.bl z) hS.st (vp_in_nI (show iL + 3 < L by omega) (by omega)) dL_law_1368 ?_
      rw [← hx3]
      refine lv_if_eq (tgt := 1376) hx hb dL_law_1369 (by decide) (fun k_5 => ?_) (fun k_5 => absurd k_4 k_5)
      refine lv_iconst (v := bI false) hx hb dL_law_1376 (by decide) ?_
      have hI := hI9.m
      have T := hI9.T
      have hc : M.2.2.2.1 + 12 < 1000000 := by have := hI9.mp; omega
      refine ll_m (va_runV (As := [.int x1, .int x2, .int (bI false)]) (rest := []) ⟨hx, hb, hml, hown, hts⟩ (o_X6_step_1 l dC dI am M x1 x2 false hb9 hI) (cwV 3 hts gL_law_X6_step rfl rfl rfl hdX6_step_3 ⟨Nat.le_of_ble_eq_true rfl, Nat.le_of_ble_eq_true rfl⟩) (hS.preM F.K) rfl rfl hl.1 rfl (lv_room (Nat.le_of_ble_eq_true rfl)) dL_law_1377 ⟨le_rc (by omega), le_rs (by omega)⟩) F.K hS (fun r8 M1 H locs hko hv hS => ?_)
      have hLM : LM M M1 := by rw [hv]; exact LM_th hI _
      have hT : Tie2 S M1 := by rw [hv]; exact T.th _
      refine lv_istore (lv' := [(6, .int r8), (5, .int (nI 1)), (0, .ref b), (1, .ref (ad 57)), (2, .ref (am 0)), (3, .ref o), (4, .int (nI iL))]) hx hb dL_law_1380 hl (by decide) rfl (fun ls hl => ?_)
      refine lv_goto (tgt := 2052) hx hb dL_law_1382 (by decide) ?_
      exact W.widen (k := 100 + 224 * (n + 1)) (n := 1200 + 10680 * (n + 1)) (by omega) (by omega) (kk9 S M1 _ _ _ (hI9.next hLQ hLM hT) hS (lv_sub hl [2, 3, 4, 5, 6] rfl))
    · skip
      refine lv_istore (lv' := [(5, .int (nI 2)), (0, .ref b), (1, .ref (ad 57)), (2, .ref (am 0)), (3, .ref o), (4, .int (nI iL))]) hx hb dL_law_1348 hl (by decide) rfl (fun ls hl => ?_)
      refine lv_aload_n hx hb dL_law_1350 rfl (lv_at hl 3 rfl) ?_
      refine lv_aload_n hx hb dL_law_1351 rfl (lv_at hl 1 rfl) ?_
      refine lv_iload hx hb dL_law_1352 (lv_at hl 5 rfl) ?_
      refine lv_iconst (v := nI 1) hx hb dL_law_1354 (by decide) ?_
      refine kn_iadd hx hb dL_law_1355 ?_
      refine va_sld hx hb F.sc F.bl (fun z => Nat.not_le.mpr F.bl z) hS.st (vp_in_nI (show iL + 1 < L by omega) (by omega)) dL_law_1356 ?_
      rw [← hx1]
      refine lv_aload_n hx hb dL_law_1357 rfl (lv_at hl 1 rfl) ?_
      refine lv_iload hx hb dL_law_1358 (lv_at hl 5 rfl) ?_
      refine lv_iconst (v := nI 2) hx hb dL_law_1360 (by decide) ?_
      refine kn_iadd hx hb dL_law_1361 ?_
      refine va_sld hx hb F.sc F.bl (fun z => Nat.not_le.mpr F.bl z) hS.st (vp_in_nI (show iL + 2 < L by omega) (by omega)) dL_law_1362 ?_
      rw [← hx2]
      refine lv_aload_n hx hb dL_law_1363 rfl (lv_at hl 1 rfl) ?_
      refine lv_iload hx hb dL_law_1364 (lv_at hl 5 rfl) ?_
      refine lv_iconst (v := nI 3) hx hb dL_law_1366 (by decide) ?_
      refine kn_iadd hx hb dL_law_1367 ?_
      refine va_sld hx hb F.sc F.bl (fun z => Nat.not_le.mpr F.bl z) hS.st (vp_in_nI (show iL + 3 < L by omega) (by omega)) dL_law_1368 ?_
      rw [← hx3]
      refine lv_if_eq (tgt := 1376) hx hb dL_law_1369 (by decide) (fun k_6 => ?_) (fun k_6 => absurd k_4 k_6)
      refine lv_iconst (v := bI false) hx hb dL_law_1376 (by decide) ?_
      have hI := hI9.m
      have T := hI9.T
      have hc : M.2.2.2.1 + 12 < 1000000 := by have := hI9.mp; omega
      refine ll_m (va_runV (As := [.int (nI j), .int x2, .int (bI false)]) (rest := []) ⟨hx, hb, hml, hown, hts⟩ (o_X6_step_2 l dC dI am M j x2 false hj hb9 hI) (cwV 3 hts gL_law_X6_step rfl rfl rfl hdX6_step_3 ⟨Nat.le_of_ble_eq_true rfl, Nat.le_of_ble_eq_true rfl⟩) (hS.preM F.K) rfl rfl hl.1 rfl (lv_room (Nat.le_of_ble_eq_true rfl)) dL_law_1377 ⟨le_rc (by omega), le_rs (by omega)⟩) F.K hS (fun r8 M1 H locs hko hv hS => ?_)
      have hLM : LM M M1 := by rw [hv]; exact LM_th hI _
      have hT : Tie2 S M1 := by rw [hv]; exact T.th _
      refine lv_istore (lv' := [(6, .int r8), (5, .int (nI 2)), (0, .ref b), (1, .ref (ad 57)), (2, .ref (am 0)), (3, .ref o), (4, .int (nI iL))]) hx hb dL_law_1380 hl (by decide) rfl (fun ls hl => ?_)
      refine lv_goto (tgt := 2052) hx hb dL_law_1382 (by decide) ?_
      exact W.widen (k := 100 + 224 * (n + 1)) (n := 1200 + 10680 * (n + 1)) (by omega) (by omega) (kk9 S M1 _ _ _ (hI9.next hLQ hLM hT) hS (lv_sub hl [2, 3, 4, 5, 6] rfl))
    · skip
      refine lv_istore (lv' := [(5, .int (nI 0)), (0, .ref b), (1, .ref (ad 57)), (2, .ref (am 0)), (3, .ref o), (4, .int (nI iL))]) hx hb dL_law_1348 hl (by decide) rfl (fun ls hl => ?_)
      refine lv_aload_n hx hb dL_law_1350 rfl (lv_at hl 3 rfl) ?_
      refine lv_aload_n hx hb dL_law_1351 rfl (lv_at hl 1 rfl) ?_
      refine lv_iload hx hb dL_law_1352 (lv_at hl 5 rfl) ?_
      refine lv_iconst (v := nI 1) hx hb dL_law_1354 (by decide) ?_
      refine kn_iadd hx hb dL_law_1355 ?_
      refine va_sld hx hb F.sc F.bl (fun z => Nat.not_le.mpr F.bl z) hS.st (vp_in_nI (show iL + 1 < L by omega) (by omega)) dL_law_1356 ?_
      rw [← hx1]
      refine lv_aload_n hx hb dL_law_1357 rfl (lv_at hl 1 rfl) ?_
      refine lv_iload hx hb dL_law_1358 (lv_at hl 5 rfl) ?_
      refine lv_iconst (v := nI 2) hx hb dL_law_1360 (by decide) ?_
      refine kn_iadd hx hb dL_law_1361 ?_
      refine va_sld hx hb F.sc F.bl (fun z => Nat.not_le.mpr F.bl z) hS.st (vp_in_nI (show iL + 2 < L by omega) (by omega)) dL_law_1362 ?_
      rw [← hx2]
      refine lv_aload_n hx hb dL_law_1363 rfl (lv_at hl 1 rfl) ?_
      refine lv_iload hx hb dL_law_1364 (lv_at hl 5 rfl) ?_
      refine lv_iconst (v := nI 3) hx hb dL_law_1366 (by decide) ?_
      refine kn_iadd hx hb dL_law_1367 ?_
      refine va_sld hx hb F.sc F.bl (fun z => Nat.not_le.mpr F.bl z) hS.st (vp_in_nI (show iL + 3 < L by omega) (by omega)) dL_law_1368 ?_
      rw [← hx3]
      refine lv_if_eq (tgt := 1376) hx hb dL_law_1369 (by decide) (fun k_7 => ?_) (fun k_7 => absurd k_4 k_7)
      refine lv_iconst (v := bI false) hx hb dL_law_1376 (by decide) ?_
      have hI := hI9.m
      have T := hI9.T
      have hc : M.2.2.2.1 + 12 < 1000000 := by have := hI9.mp; omega
      refine ll_m (va_runV (As := [.int (nI j), .int (nI k), .int (bI false)]) (rest := []) ⟨hx, hb, hml, hown, hts⟩ (m_X6_step l dC dI am M j k false hj hk hI) (cwV 3 hts gL_law_X6_step rfl rfl rfl hdX6_step_3 ⟨Nat.le_of_ble_eq_true rfl, Nat.le_of_ble_eq_true rfl⟩) (hS.preM F.K) rfl rfl hl.1 rfl (lv_room (Nat.le_of_ble_eq_true rfl)) dL_law_1377 ⟨le_rc (by omega), le_rs (by omega)⟩) F.K hS (fun r8 M1 H locs hko hv hS => ?_)
      have hLM : LM M M1 := hv.elim (fun h => by rw [h.2.2]; exact LM_ord hI (ordM_add (hI.2 j hj) h.1 (by omega))) (fun h => by rw [h.2.2]; exact LM_ref hI)
      obtain ⟨hT, he9, ht9⟩ := (A_step T.1 hj hw hv).two (E_step T.1 T.2 hj hw hv)
      refine lv_istore (lv' := [(6, .int r8), (5, .int (nI 0)), (0, .ref b), (1, .ref (ad 57)), (2, .ref (am 0)), (3, .ref o), (4, .int (nI iL))]) hx hb dL_law_1380 hl (by decide) rfl (fun ls hl => ?_)
      refine lv_goto (tgt := 2052) hx hb dL_law_1382 (by decide) ?_
      exact W.widen (k := 100 + 224 * (n + 1)) (n := 1200 + 10680 * (n + 1)) (by omega) (by omega) (kk9 S1 M1 _ _ _ (hI9.next hLQ hLM hT) hS (lv_sub hl [2, 3, 4, 5, 6] rfl))
  · skip
    refine lv_iconst (v := bI true) hx hb dL_law_1339 (by decide) ?_
    refine lv_goto (tgt := 1344) hx hb dL_law_1340 (by decide) ?_
    refine lv_aload_n hx hb dL_law_1344 rfl (lv_at hl 3 rfl) ?_
    refine ll_w (vx_runSW (As := [.ref (ad 57), .int x1, .int x2, .int (bI true), .ref o]) (rest := []) ⟨hx, hb, hml, hown, hts⟩ (m_L_step l F.st dC dI cB ad o S x1 x2 true hI9.x hI9.x5 (by have := hI9.xp; omega)) (vx_cwSW 5 hts gL_law_L_step rfl rfl rfl hdL_step_5.2 ⟨Nat.le_of_ble_eq_true rfl, Nat.le_of_ble_eq_true rfl⟩) (hS.preW F.K) rfl rfl hl.1 rfl (lv_room (Nat.le_of_ble_eq_true rfl)) dL_law_1345 ⟨le_rc (by omega), le_rs (by omega)⟩) F.K hS (fun r0 S1 n1 H locs hq9 hN hS => ?_)
    have hLQ : LQ S S1 := hq9.1
    have hR : R_step x1 x2 true S r0 S1 n1 := hq9.2
    clear hq9
    rcases hR with ⟨hb9, rfl, rfl⟩ | ⟨j, hj, rfl, hb9, rfl, rfl⟩ | ⟨j, k, r7, hj, hk, rfl, rfl, rfl, rfl, hw⟩
    · skip
      refine lv_istore (lv' := [(5, .int (nI 1)), (0, .ref b), (1, .ref (ad 57)), (2, .ref (am 0)), (3, .ref o), (4, .int (nI iL))]) hx hb dL_law_1348 hl (by decide) rfl (fun ls hl => ?_)
      refine lv_aload_n hx hb dL_law_1350 rfl (lv_at hl 3 rfl) ?_
      refine lv_aload_n hx hb dL_law_1351 rfl (lv_at hl 1 rfl) ?_
      refine lv_iload hx hb dL_law_1352 (lv_at hl 5 rfl) ?_
      refine lv_iconst (v := nI 1) hx hb dL_law_1354 (by decide) ?_
      refine kn_iadd hx hb dL_law_1355 ?_
      refine va_sld hx hb F.sc F.bl (fun z => Nat.not_le.mpr F.bl z) hS.st (vp_in_nI (show iL + 1 < L by omega) (by omega)) dL_law_1356 ?_
      rw [← hx1]
      refine lv_aload_n hx hb dL_law_1357 rfl (lv_at hl 1 rfl) ?_
      refine lv_iload hx hb dL_law_1358 (lv_at hl 5 rfl) ?_
      refine lv_iconst (v := nI 2) hx hb dL_law_1360 (by decide) ?_
      refine kn_iadd hx hb dL_law_1361 ?_
      refine va_sld hx hb F.sc F.bl (fun z => Nat.not_le.mpr F.bl z) hS.st (vp_in_nI (show iL + 2 < L by omega) (by omega)) dL_law_1362 ?_
      rw [← hx2]
      refine lv_aload_n hx hb dL_law_1363 rfl (lv_at hl 1 rfl) ?_
      refine lv_iload hx hb dL_law_1364 (lv_at hl 5 rfl) ?_
      refine lv_iconst (v := nI 3) hx hb dL_law_1366 (by decide) ?_
      refine kn_iadd hx hb dL_law_1367 ?_
      refine va_sld hx hb F.sc F.bl (fun z => Nat.not_le.mpr F.bl z) hS.st (vp_in_nI (show iL + 3 < L by omega) (by omega)) dL_law_1368 ?_
      rw [← hx3]
      refine lv_if_eq (tgt := 1376) hx hb dL_law_1369 (by decide) (fun k_8 => absurd k_8 k_4) (fun k_8 => ?_)
      refine lv_iconst (v := bI true) hx hb dL_law_1372 (by decide) ?_
      refine lv_goto (tgt := 1377) hx hb dL_law_1373 (by decide) ?_
      have hI := hI9.m
      have T := hI9.T
      have hc : M.2.2.2.1 + 12 < 1000000 := by have := hI9.mp; omega
      refine ll_m (va_runV (As := [.int x1, .int x2, .int (bI true)]) (rest := []) ⟨hx, hb, hml, hown, hts⟩ (o_X6_step_1 l dC dI am M x1 x2 true hb9 hI) (cwV 3 hts gL_law_X6_step rfl rfl rfl hdX6_step_3 ⟨Nat.le_of_ble_eq_true rfl, Nat.le_of_ble_eq_true rfl⟩) (hS.preM F.K) rfl rfl hl.1 rfl (lv_room (Nat.le_of_ble_eq_true rfl)) dL_law_1377 ⟨le_rc (by omega), le_rs (by omega)⟩) F.K hS (fun r8 M1 H locs hko hv hS => ?_)
      have hLM : LM M M1 := by rw [hv]; exact LM_th hI _
      have hT : Tie2 S M1 := by rw [hv]; exact T.th _
      refine lv_istore (lv' := [(6, .int r8), (5, .int (nI 1)), (0, .ref b), (1, .ref (ad 57)), (2, .ref (am 0)), (3, .ref o), (4, .int (nI iL))]) hx hb dL_law_1380 hl (by decide) rfl (fun ls hl => ?_)
      refine lv_goto (tgt := 2052) hx hb dL_law_1382 (by decide) ?_
      exact W.widen (k := 100 + 224 * (n + 1)) (n := 1200 + 10680 * (n + 1)) (by omega) (by omega) (kk9 S M1 _ _ _ (hI9.next hLQ hLM hT) hS (lv_sub hl [2, 3, 4, 5, 6] rfl))
    · skip
      refine lv_istore (lv' := [(5, .int (nI 2)), (0, .ref b), (1, .ref (ad 57)), (2, .ref (am 0)), (3, .ref o), (4, .int (nI iL))]) hx hb dL_law_1348 hl (by decide) rfl (fun ls hl => ?_)
      refine lv_aload_n hx hb dL_law_1350 rfl (lv_at hl 3 rfl) ?_
      refine lv_aload_n hx hb dL_law_1351 rfl (lv_at hl 1 rfl) ?_
      refine lv_iload hx hb dL_law_1352 (lv_at hl 5 rfl) ?_
      refine lv_iconst (v := nI 1) hx hb dL_law_1354 (by decide) ?_
      refine kn_iadd hx hb dL_law_1355 ?_
      refine va_sld hx hb F.sc F.bl (fun z => Nat.not_le.mpr F.bl z) hS.st (vp_in_nI (show iL + 1 < L by omega) (by omega)) dL_law_1356 ?_
      rw [← hx1]
      refine lv_aload_n hx hb dL_law_1357 rfl (lv_at hl 1 rfl) ?_
      refine lv_iload hx hb dL_law_1358 (lv_at hl 5 rfl) ?_
      refine lv_iconst (v := nI 2) hx hb dL_law_1360 (by decide) ?_
      refine kn_iadd hx hb dL_law_1361 ?_
      refine va_sld hx hb F.sc F.bl (fun z => Nat.not_le.mpr F.bl z) hS.st (vp_in_nI (show iL + 2 < L by omega) (by omega)) dL_law_1362 ?_
      rw [← hx2]
      refine lv_aload_n hx hb dL_law_1363 rfl (lv_at hl 1 rfl) ?_
      refine lv_iload hx hb dL_law_1364 (lv_at hl 5 rfl) ?_
      refine lv_iconst (v := nI 3) hx hb dL_law_1366 (by decide) ?_
      refine kn_iadd hx hb dL_law_1367 ?_
      refine va_sld hx hb F.sc F.bl (fun z => Nat.not_le.mpr F.bl z) hS.st (vp_in_nI (show iL + 3 < L by omega) (by omega)) dL_law_1368 ?_
      rw [← hx3]
      refine lv_if_eq (tgt := 1376) hx hb dL_law_1369 (by decide) (fun k_9 => absurd k_9 k_4) (fun k_9 => ?_)
      refine lv_iconst (v := bI true) hx hb dL_law_1372 (by decide) ?_
      refine lv_goto (tgt := 1377) hx hb dL_law_1373 (by decide) ?_
      have hI := hI9.m
      have T := hI9.T
      have hc : M.2.2.2.1 + 12 < 1000000 := by have := hI9.mp; omega
      refine ll_m (va_runV (As := [.int (nI j), .int x2, .int (bI true)]) (rest := []) ⟨hx, hb, hml, hown, hts⟩ (o_X6_step_2 l dC dI am M j x2 true hj hb9 hI) (cwV 3 hts gL_law_X6_step rfl rfl rfl hdX6_step_3 ⟨Nat.le_of_ble_eq_true rfl, Nat.le_of_ble_eq_true rfl⟩) (hS.preM F.K) rfl rfl hl.1 rfl (lv_room (Nat.le_of_ble_eq_true rfl)) dL_law_1377 ⟨le_rc (by omega), le_rs (by omega)⟩) F.K hS (fun r8 M1 H locs hko hv hS => ?_)
      have hLM : LM M M1 := by rw [hv]; exact LM_th hI _
      have hT : Tie2 S M1 := by rw [hv]; exact T.th _
      refine lv_istore (lv' := [(6, .int r8), (5, .int (nI 2)), (0, .ref b), (1, .ref (ad 57)), (2, .ref (am 0)), (3, .ref o), (4, .int (nI iL))]) hx hb dL_law_1380 hl (by decide) rfl (fun ls hl => ?_)
      refine lv_goto (tgt := 2052) hx hb dL_law_1382 (by decide) ?_
      exact W.widen (k := 100 + 224 * (n + 1)) (n := 1200 + 10680 * (n + 1)) (by omega) (by omega) (kk9 S M1 _ _ _ (hI9.next hLQ hLM hT) hS (lv_sub hl [2, 3, 4, 5, 6] rfl))
    · skip
      refine lv_istore (lv' := [(5, .int (nI 0)), (0, .ref b), (1, .ref (ad 57)), (2, .ref (am 0)), (3, .ref o), (4, .int (nI iL))]) hx hb dL_law_1348 hl (by decide) rfl (fun ls hl => ?_)
      refine lv_aload_n hx hb dL_law_1350 rfl (lv_at hl 3 rfl) ?_
      refine lv_aload_n hx hb dL_law_1351 rfl (lv_at hl 1 rfl) ?_
      refine lv_iload hx hb dL_law_1352 (lv_at hl 5 rfl) ?_
      refine lv_iconst (v := nI 1) hx hb dL_law_1354 (by decide) ?_
      refine kn_iadd hx hb dL_law_1355 ?_
      refine va_sld hx hb F.sc F.bl (fun z => Nat.not_le.mpr F.bl z) hS.st (vp_in_nI (show iL + 1 < L by omega) (by omega)) dL_law_1356 ?_
      rw [← hx1]
      refine lv_aload_n hx hb dL_law_1357 rfl (lv_at hl 1 rfl) ?_
      refine lv_iload hx hb dL_law_1358 (lv_at hl 5 rfl) ?_
      refine lv_iconst (v := nI 2) hx hb dL_law_1360 (by decide) ?_
      refine kn_iadd hx hb dL_law_1361 ?_
      refine va_sld hx hb F.sc F.bl (fun z => Nat.not_le.mpr F.bl z) hS.st (vp_in_nI (show iL + 2 < L by omega) (by omega)) dL_law_1362 ?_
      rw [← hx2]
      refine lv_aload_n hx hb dL_law_1363 rfl (lv_at hl 1 rfl) ?_
      refine lv_iload hx hb dL_law_1364 (lv_at hl 5 rfl) ?_
      refine lv_iconst (v := nI 3) hx hb dL_law_1366 (by decide) ?_
      refine kn_iadd hx hb dL_law_1367 ?_
      refine va_sld hx hb F.sc F.bl (fun z => Nat.not_le.mpr F.bl z) hS.st (vp_in_nI (show iL + 3 < L by omega) (by omega)) dL_law_1368 ?_
      rw [← hx3]
      refine lv_if_eq (tgt := 1376) hx hb dL_law_1369 (by decide) (fun k_10 => absurd k_10 k_4) (fun k_10 => ?_)
      refine lv_iconst (v := bI true) hx hb dL_law_1372 (by decide) ?_
      refine lv_goto (tgt := 1377) hx hb dL_law_1373 (by decide) ?_
      have hI := hI9.m
      have T := hI9.T
      have hc : M.2.2.2.1 + 12 < 1000000 := by have := hI9.mp; omega
      refine ll_m (va_runV (As := [.int (nI j), .int (nI k), .int (bI true)]) (rest := []) ⟨hx, hb, hml, hown, hts⟩ (m_X6_step l dC dI am M j k true hj hk hI) (cwV 3 hts gL_law_X6_step rfl rfl rfl hdX6_step_3 ⟨Nat.le_of_ble_eq_true rfl, Nat.le_of_ble_eq_true rfl⟩) (hS.preM F.K) rfl rfl hl.1 rfl (lv_room (Nat.le_of_ble_eq_true rfl)) dL_law_1377 ⟨le_rc (by omega), le_rs (by omega)⟩) F.K hS (fun r8 M1 H locs hko hv hS => ?_)
      have hLM : LM M M1 := hv.elim (fun h => by rw [h.2.2]; exact LM_ord hI (ordM_add (hI.2 j hj) h.1 (by omega))) (fun h => by rw [h.2.2]; exact LM_ref hI)
      obtain ⟨hT, he9, ht9⟩ := (A_step T.1 hj hw hv).two (E_step T.1 T.2 hj hw hv)
      refine lv_istore (lv' := [(6, .int r8), (5, .int (nI 0)), (0, .ref b), (1, .ref (ad 57)), (2, .ref (am 0)), (3, .ref o), (4, .int (nI iL))]) hx hb dL_law_1380 hl (by decide) rfl (fun ls hl => ?_)
      refine lv_goto (tgt := 2052) hx hb dL_law_1382 (by decide) ?_
      exact W.widen (k := 100 + 224 * (n + 1)) (n := 1200 + 10680 * (n + 1)) (by omega) (by omega) (kk9 S1 M1 _ _ _ (hI9.next hLQ hLM hT) hS (lv_sub hl [2, 3, 4, 5, 6] rfl))
set_option maxHeartbeats 4000000 in
set_option maxRecDepth 100000 in
theorem lc_24 {p : Program} {l : Launch} {e : Env} {s : State} {m : MethodId} {below : List Frame} {meth : Method} {c : Code} {b L : Nat} {xs : Nat → Int32} {dC : Nat → ClassId} {dI : Nat → Nat → Nat} {cB : ClassId} {ad am : Nat → Nat} {o n iL : Nat} {Q : State → Prop} (F : LF p l s m c b L xs dC dI cB ad am o) (hni : iL = 5 * n) (hiL : iL + 5 ≤ L) : LCase p l e s m below meth c b dC dI ad am o n iL Q 1385 := by
  intro S M H locs hI9 hS kk9 ls hl
  have hx := F.x
  have hb := F.b
  have hml := F.ml
  have hown := F.own
  have hts := F.ts
  have hL := F.hL
  have hn9 : n ≤ 511 := by omega
  refine lv_aload_n hx hb dL_law_1385 rfl (lv_at hl 1 rfl) ?_
  refine lv_aload_n hx hb dL_law_1386 rfl (lv_at hl 0 rfl) ?_
  refine lv_iload hx hb dL_law_1387 (lv_at hl 4 rfl) ?_
  refine lv_iconst (v := nI 1) hx hb dL_law_1389 (by decide) ?_
  refine kn_iadd hx hb dL_law_1390 ?_
  refine va_sld hx hb F.sc F.bl (fun z => Nat.not_le.mpr F.bl z) hS.st (vp_in_nI (show iL + 1 < L by omega) (by omega)) dL_law_1391 ?_
  obtain ⟨x1, hx1⟩ : ∃ z, z = xs (nI (iL + 1)).toNatClampNeg := ⟨_, rfl⟩
  rw [← hx1]
  refine lv_aload_n hx hb dL_law_1392 rfl (lv_at hl 3 rfl) ?_
  refine ll_w (vx_runSW (As := [.ref (ad 57), .int x1, .ref o]) (rest := []) ⟨hx, hb, hml, hown, hts⟩ (m_L_unstep l F.st dC dI cB ad o S x1 hI9.x hI9.x5 (by have := hI9.xp; omega)) (vx_cwSW 3 hts gL_law_L_unstep rfl rfl rfl hdL_unstep_3.2 ⟨Nat.le_of_ble_eq_true rfl, Nat.le_of_ble_eq_true rfl⟩) (hS.preW F.K) rfl rfl hl.1 rfl (lv_room (Nat.le_of_ble_eq_true rfl)) dL_law_1393 ⟨le_rc (by omega), le_rs (by omega)⟩) F.K hS (fun r0 S1 n1 H locs hq9 hN hS => ?_)
  have hLQ : LQ S S1 := hq9.1
  have hR : R_unstep x1 S r0 S1 n1 := hq9.2
  clear hq9
  rcases hR with ⟨hb9, rfl, rfl⟩ | ⟨j, r7, hj, rfl, rfl, rfl, hw⟩
  · skip
    refine lv_istore (lv' := [(5, .int (nI 1)), (0, .ref b), (1, .ref (ad 57)), (2, .ref (am 0)), (3, .ref o), (4, .int (nI iL))]) hx hb dL_law_1396 hl (by decide) rfl (fun ls hl => ?_)
    refine lv_aload_n hx hb dL_law_1398 rfl (lv_at hl 3 rfl) ?_
    refine lv_aload_n hx hb dL_law_1399 rfl (lv_at hl 1 rfl) ?_
    refine lv_iload hx hb dL_law_1400 (lv_at hl 5 rfl) ?_
    refine lv_iconst (v := nI 1) hx hb dL_law_1402 (by decide) ?_
    refine kn_iadd hx hb dL_law_1403 ?_
    refine va_sld hx hb F.sc F.bl (fun z => Nat.not_le.mpr F.bl z) hS.st (vp_in_nI (show iL + 1 < L by omega) (by omega)) dL_law_1404 ?_
    rw [← hx1]
    have hI := hI9.m
    have T := hI9.T
    have hc : M.2.2.2.1 + 12 < 1000000 := by have := hI9.mp; omega
    refine ll_m (va_runV (As := [.int x1]) (rest := []) ⟨hx, hb, hml, hown, hts⟩ (o_X6_unstep_1 l dC dI am M x1 hb9 hI) (cwV 1 hts gL_law_X6_unstep rfl rfl rfl hdX6_unstep_1 ⟨Nat.le_of_ble_eq_true rfl, Nat.le_of_ble_eq_true rfl⟩) (hS.preM F.K) rfl rfl hl.1 rfl (lv_room (Nat.le_of_ble_eq_true rfl)) dL_law_1405 ⟨le_rc (by omega), le_rs (by omega)⟩) F.K hS (fun r8 M1 H locs hko hv hS => ?_)
    have hLM : LM M M1 := by rw [hv]; exact LM_th hI _
    have hT : Tie2 S M1 := by rw [hv]; exact T.th _
    refine lv_istore (lv' := [(6, .int r8), (5, .int (nI 1)), (0, .ref b), (1, .ref (ad 57)), (2, .ref (am 0)), (3, .ref o), (4, .int (nI iL))]) hx hb dL_law_1408 hl (by decide) rfl (fun ls hl => ?_)
    refine lv_goto (tgt := 2052) hx hb dL_law_1410 (by decide) ?_
    exact W.widen (k := 100 + 224 * (n + 1)) (n := 1200 + 10680 * (n + 1)) (by omega) (by omega) (kk9 S M1 _ _ _ (hI9.next hLQ hLM hT) hS (lv_sub hl [2, 3, 4, 5, 6] rfl))
  · skip
    refine lv_istore (lv' := [(5, .int (nI 0)), (0, .ref b), (1, .ref (ad 57)), (2, .ref (am 0)), (3, .ref o), (4, .int (nI iL))]) hx hb dL_law_1396 hl (by decide) rfl (fun ls hl => ?_)
    refine lv_aload_n hx hb dL_law_1398 rfl (lv_at hl 3 rfl) ?_
    refine lv_aload_n hx hb dL_law_1399 rfl (lv_at hl 1 rfl) ?_
    refine lv_iload hx hb dL_law_1400 (lv_at hl 5 rfl) ?_
    refine lv_iconst (v := nI 1) hx hb dL_law_1402 (by decide) ?_
    refine kn_iadd hx hb dL_law_1403 ?_
    refine va_sld hx hb F.sc F.bl (fun z => Nat.not_le.mpr F.bl z) hS.st (vp_in_nI (show iL + 1 < L by omega) (by omega)) dL_law_1404 ?_
    rw [← hx1]
    have hI := hI9.m
    have T := hI9.T
    have hc : M.2.2.2.1 + 12 < 1000000 := by have := hI9.mp; omega
    refine ll_m (va_runV (As := [.int (nI j)]) (rest := []) ⟨hx, hb, hml, hown, hts⟩ (m_X6_unstep l dC dI am M j hj hI) (cwV 1 hts gL_law_X6_unstep rfl rfl rfl hdX6_unstep_1 ⟨Nat.le_of_ble_eq_true rfl, Nat.le_of_ble_eq_true rfl⟩) (hS.preM F.K) rfl rfl hl.1 rfl (lv_room (Nat.le_of_ble_eq_true rfl)) dL_law_1405 ⟨le_rc (by omega), le_rs (by omega)⟩) F.K hS (fun r8 M1 H locs hko hv hS => ?_)
    have hLM : LM M M1 := hv.elim (fun h => by rw [h.2.2]; exact LM_ord hI ⟨by have := (hI.2 j hj).1; show (M.2.1 j).2.2 - 1 ≤ 5; omega, (hI.2 j hj).2⟩) (fun h => by rw [h.2.2]; exact LM_ref hI)
    obtain ⟨hT, he9, ht9⟩ := (A_unstep T.1 hj hw hv).two (E_unstep T.1 T.2 hj hw hv)
    refine lv_istore (lv' := [(6, .int r8), (5, .int (nI 0)), (0, .ref b), (1, .ref (ad 57)), (2, .ref (am 0)), (3, .ref o), (4, .int (nI iL))]) hx hb dL_law_1408 hl (by decide) rfl (fun ls hl => ?_)
    refine lv_goto (tgt := 2052) hx hb dL_law_1410 (by decide) ?_
    exact W.widen (k := 100 + 224 * (n + 1)) (n := 1200 + 10680 * (n + 1)) (by omega) (by omega) (kk9 S1 M1 _ _ _ (hI9.next hLQ hLM hT) hS (lv_sub hl [2, 3, 4, 5, 6] rfl))
set_option maxHeartbeats 4000000 in
set_option maxRecDepth 100000 in
theorem lc_25 {p : Program} {l : Launch} {e : Env} {s : State} {m : MethodId} {below : List Frame} {meth : Method} {c : Code} {b L : Nat} {xs : Nat → Int32} {dC : Nat → ClassId} {dI : Nat → Nat → Nat} {cB : ClassId} {ad am : Nat → Nat} {o n iL : Nat} {Q : State → Prop} (F : LF p l s m c b L xs dC dI cB ad am o) (hni : iL = 5 * n) (hiL : iL + 5 ≤ L) : LCase p l e s m below meth c b dC dI ad am o n iL Q 1413 := by
  intro S M H locs hI9 hS kk9 ls hl
  have hx := F.x
  have hb := F.b
  have hml := F.ml
  have hown := F.own
  have hts := F.ts
  have hL := F.hL
  have hn9 : n ≤ 511 := by omega
  refine lv_aload_n hx hb dL_law_1413 rfl (lv_at hl 1 rfl) ?_
  refine lv_aload_n hx hb dL_law_1414 rfl (lv_at hl 0 rfl) ?_
  refine lv_iload hx hb dL_law_1415 (lv_at hl 4 rfl) ?_
  refine lv_iconst (v := nI 1) hx hb dL_law_1417 (by decide) ?_
  refine kn_iadd hx hb dL_law_1418 ?_
  refine va_sld hx hb F.sc F.bl (fun z => Nat.not_le.mpr F.bl z) hS.st (vp_in_nI (show iL + 1 < L by omega) (by omega)) dL_law_1419 ?_
  obtain ⟨x1, hx1⟩ : ∃ z, z = xs (nI (iL + 1)).toNatClampNeg := ⟨_, rfl⟩
  rw [← hx1]
  refine lv_aload_n hx hb dL_law_1420 rfl (lv_at hl 3 rfl) ?_
  refine ll_w (vx_runSW (As := [.ref (ad 57), .int x1, .ref o]) (rest := []) ⟨hx, hb, hml, hown, hts⟩ (m_L_wipe l F.st dC dI cB ad o S x1 hI9.x hI9.x5 (by have := hI9.xp; omega)) (vx_cwSW 3 hts gL_law_L_wipe rfl rfl rfl hdL_wipe_3.2 ⟨Nat.le_of_ble_eq_true rfl, Nat.le_of_ble_eq_true rfl⟩) (hS.preW F.K) rfl rfl hl.1 rfl (lv_room (Nat.le_of_ble_eq_true rfl)) dL_law_1421 ⟨le_rc (by omega), le_rs (by omega)⟩) F.K hS (fun r0 S1 n1 H locs hq9 hN hS => ?_)
  have hLQ : LQ S S1 := hq9.1
  have hR : R_wipe x1 S r0 S1 n1 := hq9.2
  clear hq9
  rcases hR with ⟨hb9, rfl, rfl⟩ | ⟨j, r7, hj, rfl, rfl, rfl, hw⟩
  · skip
    refine lv_istore (lv' := [(5, .int (nI 1)), (0, .ref b), (1, .ref (ad 57)), (2, .ref (am 0)), (3, .ref o), (4, .int (nI iL))]) hx hb dL_law_1424 hl (by decide) rfl (fun ls hl => ?_)
    refine lv_aload_n hx hb dL_law_1426 rfl (lv_at hl 3 rfl) ?_
    refine lv_aload_n hx hb dL_law_1427 rfl (lv_at hl 1 rfl) ?_
    refine lv_iload hx hb dL_law_1428 (lv_at hl 5 rfl) ?_
    refine lv_iconst (v := nI 1) hx hb dL_law_1430 (by decide) ?_
    refine kn_iadd hx hb dL_law_1431 ?_
    refine va_sld hx hb F.sc F.bl (fun z => Nat.not_le.mpr F.bl z) hS.st (vp_in_nI (show iL + 1 < L by omega) (by omega)) dL_law_1432 ?_
    rw [← hx1]
    have hI := hI9.m
    have T := hI9.T
    have hc : M.2.2.2.1 + 12 < 1000000 := by have := hI9.mp; omega
    refine ll_m (va_runV (As := [.int x1]) (rest := []) ⟨hx, hb, hml, hown, hts⟩ (o_X6_wipe_1 l dC dI am M x1 hb9 hI) (cwV 1 hts gL_law_X6_wipe rfl rfl rfl hdX6_wipe_1 ⟨Nat.le_of_ble_eq_true rfl, Nat.le_of_ble_eq_true rfl⟩) (hS.preM F.K) rfl rfl hl.1 rfl (lv_room (Nat.le_of_ble_eq_true rfl)) dL_law_1433 ⟨le_rc (by omega), le_rs (by omega)⟩) F.K hS (fun r8 M1 H locs hko hv hS => ?_)
    have hLM : LM M M1 := by rw [hv]; exact LM_th hI _
    have hT : Tie2 S M1 := by rw [hv]; exact T.th _
    refine lv_istore (lv' := [(6, .int r8), (5, .int (nI 1)), (0, .ref b), (1, .ref (ad 57)), (2, .ref (am 0)), (3, .ref o), (4, .int (nI iL))]) hx hb dL_law_1436 hl (by decide) rfl (fun ls hl => ?_)
    refine lv_goto (tgt := 2052) hx hb dL_law_1438 (by decide) ?_
    exact W.widen (k := 100 + 224 * (n + 1)) (n := 1200 + 10680 * (n + 1)) (by omega) (by omega) (kk9 S M1 _ _ _ (hI9.next hLQ hLM hT) hS (lv_sub hl [2, 3, 4, 5, 6] rfl))
  · skip
    refine lv_istore (lv' := [(5, .int (nI 0)), (0, .ref b), (1, .ref (ad 57)), (2, .ref (am 0)), (3, .ref o), (4, .int (nI iL))]) hx hb dL_law_1424 hl (by decide) rfl (fun ls hl => ?_)
    refine lv_aload_n hx hb dL_law_1426 rfl (lv_at hl 3 rfl) ?_
    refine lv_aload_n hx hb dL_law_1427 rfl (lv_at hl 1 rfl) ?_
    refine lv_iload hx hb dL_law_1428 (lv_at hl 5 rfl) ?_
    refine lv_iconst (v := nI 1) hx hb dL_law_1430 (by decide) ?_
    refine kn_iadd hx hb dL_law_1431 ?_
    refine va_sld hx hb F.sc F.bl (fun z => Nat.not_le.mpr F.bl z) hS.st (vp_in_nI (show iL + 1 < L by omega) (by omega)) dL_law_1432 ?_
    rw [← hx1]
    have hI := hI9.m
    have T := hI9.T
    have hc : M.2.2.2.1 + 12 < 1000000 := by have := hI9.mp; omega
    refine ll_m (va_runV (As := [.int (nI j)]) (rest := []) ⟨hx, hb, hml, hown, hts⟩ (m_X6_wipe l dC dI am M j hj hI) (cwV 1 hts gL_law_X6_wipe rfl rfl rfl hdX6_wipe_1 ⟨Nat.le_of_ble_eq_true rfl, Nat.le_of_ble_eq_true rfl⟩) (hS.preM F.K) rfl rfl hl.1 rfl (lv_room (Nat.le_of_ble_eq_true rfl)) dL_law_1433 ⟨le_rc (by omega), le_rs (by omega)⟩) F.K hS (fun r8 M1 H locs hko hv hS => ?_)
    have hLM : LM M M1 := by rw [hv.2]; exact LM_ord hI ⟨Nat.zero_le _, (hI.2 j hj).2⟩
    obtain ⟨hT, he9, ht9⟩ := (A_wipe T.1 hj hw hv).two (E_ord T.2 hw hv)
    refine lv_istore (lv' := [(6, .int r8), (5, .int (nI 0)), (0, .ref b), (1, .ref (ad 57)), (2, .ref (am 0)), (3, .ref o), (4, .int (nI iL))]) hx hb dL_law_1436 hl (by decide) rfl (fun ls hl => ?_)
    refine lv_goto (tgt := 2052) hx hb dL_law_1438 (by decide) ?_
    exact W.widen (k := 100 + 224 * (n + 1)) (n := 1200 + 10680 * (n + 1)) (by omega) (by omega) (kk9 S1 M1 _ _ _ (hI9.next hLQ hLM hT) hS (lv_sub hl [2, 3, 4, 5, 6] rfl))
set_option maxHeartbeats 4000000 in
set_option maxRecDepth 100000 in
theorem lc_26 {p : Program} {l : Launch} {e : Env} {s : State} {m : MethodId} {below : List Frame} {meth : Method} {c : Code} {b L : Nat} {xs : Nat → Int32} {dC : Nat → ClassId} {dI : Nat → Nat → Nat} {cB : ClassId} {ad am : Nat → Nat} {o n iL : Nat} {Q : State → Prop} (F : LF p l s m c b L xs dC dI cB ad am o) (hni : iL = 5 * n) (hiL : iL + 5 ≤ L) : LCase p l e s m below meth c b dC dI ad am o n iL Q 1441 := by
  intro S M H locs hI9 hS kk9 ls hl
  have hx := F.x
  have hb := F.b
  have hml := F.ml
  have hown := F.own
  have hts := F.ts
  have hL := F.hL
  have hn9 : n ≤ 511 := by omega
  refine lv_aload_n hx hb dL_law_1441 rfl (lv_at hl 1 rfl) ?_
  refine lv_aload_n hx hb dL_law_1442 rfl (lv_at hl 0 rfl) ?_
  refine lv_iload hx hb dL_law_1443 (lv_at hl 4 rfl) ?_
  refine lv_iconst (v := nI 1) hx hb dL_law_1445 (by decide) ?_
  refine kn_iadd hx hb dL_law_1446 ?_
  refine va_sld hx hb F.sc F.bl (fun z => Nat.not_le.mpr F.bl z) hS.st (vp_in_nI (show iL + 1 < L by omega) (by omega)) dL_law_1447 ?_
  obtain ⟨x1, hx1⟩ : ∃ z, z = xs (nI (iL + 1)).toNatClampNeg := ⟨_, rfl⟩
  rw [← hx1]
  refine lv_aload_n hx hb dL_law_1448 rfl (lv_at hl 0 rfl) ?_
  refine lv_iload hx hb dL_law_1449 (lv_at hl 4 rfl) ?_
  refine lv_iconst (v := nI 2) hx hb dL_law_1451 (by decide) ?_
  refine kn_iadd hx hb dL_law_1452 ?_
  refine va_sld hx hb F.sc F.bl (fun z => Nat.not_le.mpr F.bl z) hS.st (vp_in_nI (show iL + 2 < L by omega) (by omega)) dL_law_1453 ?_
  obtain ⟨x2, hx2⟩ : ∃ z, z = xs (nI (iL + 2)).toNatClampNeg := ⟨_, rfl⟩
  rw [← hx2]
  refine lv_aload_n hx hb dL_law_1454 rfl (lv_at hl 3 rfl) ?_
  refine ll_w (vx_runSW (As := [.ref (ad 57), .int x1, .int x2, .ref o]) (rest := []) ⟨hx, hb, hml, hown, hts⟩ (m_L_copyOrder l F.st dC dI cB ad o S x1 x2 hI9.x hI9.x5 (by have := hI9.xp; omega)) (vx_cwSW 4 hts gL_law_L_copyOrder rfl rfl rfl hdL_copyOrder_4.2 ⟨Nat.le_of_ble_eq_true rfl, Nat.le_of_ble_eq_true rfl⟩) (hS.preW F.K) rfl rfl hl.1 rfl (lv_room (Nat.le_of_ble_eq_true rfl)) dL_law_1455 ⟨le_rc (by omega), le_rs (by omega)⟩) F.K hS (fun r0 S1 n1 H locs hq9 hN hS => ?_)
  have hLQ : LQ S S1 := hq9.1
  have hR : R_copyOrder x1 x2 S r0 S1 n1 := hq9.2
  clear hq9
  rcases hR with ⟨hb9, rfl, rfl⟩ | ⟨j, hj, rfl, hb9, rfl, rfl⟩ | ⟨j, j2, r7, hj, hj2, rfl, rfl, rfl, rfl, hw⟩
  · skip
    refine lv_istore (lv' := [(5, .int (nI 1)), (0, .ref b), (1, .ref (ad 57)), (2, .ref (am 0)), (3, .ref o), (4, .int (nI iL))]) hx hb dL_law_1458 hl (by decide) rfl (fun ls hl => ?_)
    refine lv_aload_n hx hb dL_law_1460 rfl (lv_at hl 3 rfl) ?_
    refine lv_aload_n hx hb dL_law_1461 rfl (lv_at hl 1 rfl) ?_
    refine lv_iload hx hb dL_law_1462 (lv_at hl 5 rfl) ?_
    refine lv_iconst (v := nI 1) hx hb dL_law_1464 (by decide) ?_
    refine kn_iadd hx hb dL_law_1465 ?_
    refine va_sld hx hb F.sc F.bl (fun z => Nat.not_le.mpr F.bl z) hS.st (vp_in_nI (show iL + 1 < L by omega) (by omega)) dL_law_1466 ?_
    rw [← hx1]
    refine lv_aload_n hx hb dL_law_1467 rfl (lv_at hl 1 rfl) ?_
    refine lv_iload hx hb dL_law_1468 (lv_at hl 5 rfl) ?_
    refine lv_iconst (v := nI 2) hx hb dL_law_1470 (by decide) ?_
    refine kn_iadd hx hb dL_law_1471 ?_
    refine va_sld hx hb F.sc F.bl (fun z => Nat.not_le.mpr F.bl z) hS.st (vp_in_nI (show iL + 2 < L by omega) (by omega)) dL_law_1472 ?_
    rw [← hx2]
    have hI := hI9.m
    have T := hI9.T
    have hc : M.2.2.2.1 + 12 < 1000000 := by have := hI9.mp; omega
    refine ll_m (va_runV (As := [.int x1, .int x2]) (rest := []) ⟨hx, hb, hml, hown, hts⟩ (o_X6_copyOrder_1 l dC dI am M x1 x2 hb9 hI) (cwV 2 hts gL_law_X6_copyOrder rfl rfl rfl hdX6_copyOrder_2 ⟨Nat.le_of_ble_eq_true rfl, Nat.le_of_ble_eq_true rfl⟩) (hS.preM F.K) rfl rfl hl.1 rfl (lv_room (Nat.le_of_ble_eq_true rfl)) dL_law_1473 ⟨le_rc (by omega), le_rs (by omega)⟩) F.K hS (fun r8 M1 H locs hko hv hS => ?_)
    have hLM : LM M M1 := by rw [hv]; exact LM_th hI _
    have hT : Tie2 S M1 := by rw [hv]; exact T.th _
    refine lv_istore (lv' := [(6, .int r8), (5, .int (nI 1)), (0, .ref b), (1, .ref (ad 57)), (2, .ref (am 0)), (3, .ref o), (4, .int (nI iL))]) hx hb dL_law_1476 hl (by decide) rfl (fun ls hl => ?_)
    refine lv_goto (tgt := 2052) hx hb dL_law_1478 (by decide) ?_
    exact W.widen (k := 100 + 224 * (n + 1)) (n := 1200 + 10680 * (n + 1)) (by omega) (by omega) (kk9 S M1 _ _ _ (hI9.next hLQ hLM hT) hS (lv_sub hl [2, 3, 4, 5, 6] rfl))
  · skip
    refine lv_istore (lv' := [(5, .int (nI 1)), (0, .ref b), (1, .ref (ad 57)), (2, .ref (am 0)), (3, .ref o), (4, .int (nI iL))]) hx hb dL_law_1458 hl (by decide) rfl (fun ls hl => ?_)
    refine lv_aload_n hx hb dL_law_1460 rfl (lv_at hl 3 rfl) ?_
    refine lv_aload_n hx hb dL_law_1461 rfl (lv_at hl 1 rfl) ?_
    refine lv_iload hx hb dL_law_1462 (lv_at hl 5 rfl) ?_
    refine lv_iconst (v := nI 1) hx hb dL_law_1464 (by decide) ?_
    refine kn_iadd hx hb dL_law_1465 ?_
    refine va_sld hx hb F.sc F.bl (fun z => Nat.not_le.mpr F.bl z) hS.st (vp_in_nI (show iL + 1 < L by omega) (by omega)) dL_law_1466 ?_
    rw [← hx1]
    refine lv_aload_n hx hb dL_law_1467 rfl (lv_at hl 1 rfl) ?_
    refine lv_iload hx hb dL_law_1468 (lv_at hl 5 rfl) ?_
    refine lv_iconst (v := nI 2) hx hb dL_law_1470 (by decide) ?_
    refine kn_iadd hx hb dL_law_1471 ?_
    refine va_sld hx hb F.sc F.bl (fun z => Nat.not_le.mpr F.bl z) hS.st (vp_in_nI (show iL + 2 < L by omega) (by omega)) dL_law_1472 ?_
    rw [← hx2]
    have hI := hI9.m
    have T := hI9.T
    have hc : M.2.2.2.1 + 12 < 1000000 := by have := hI9.mp; omega
    refine ll_m (va_runV (As := [.int (nI j), .int x2]) (rest := []) ⟨hx, hb, hml, hown, hts⟩ (o_X6_copyOrder_2 l dC dI am M j x2 hj hb9 hI) (cwV 2 hts gL_law_X6_copyOrder rfl rfl rfl hdX6_copyOrder_2 ⟨Nat.le_of_ble_eq_true rfl, Nat.le_of_ble_eq_true rfl⟩) (hS.preM F.K) rfl rfl hl.1 rfl (lv_room (Nat.le_of_ble_eq_true rfl)) dL_law_1473 ⟨le_rc (by omega), le_rs (by omega)⟩) F.K hS (fun r8 M1 H locs hko hv hS => ?_)
    have hLM : LM M M1 := by rw [hv]; exact LM_th hI _
    have hT : Tie2 S M1 := by rw [hv]; exact T.th _
    refine lv_istore (lv' := [(6, .int r8), (5, .int (nI 1)), (0, .ref b), (1, .ref (ad 57)), (2, .ref (am 0)), (3, .ref o), (4, .int (nI iL))]) hx hb dL_law_1476 hl (by decide) rfl (fun ls hl => ?_)
    refine lv_goto (tgt := 2052) hx hb dL_law_1478 (by decide) ?_
    exact W.widen (k := 100 + 224 * (n + 1)) (n := 1200 + 10680 * (n + 1)) (by omega) (by omega) (kk9 S M1 _ _ _ (hI9.next hLQ hLM hT) hS (lv_sub hl [2, 3, 4, 5, 6] rfl))
  · skip
    refine lv_istore (lv' := [(5, .int (nI 0)), (0, .ref b), (1, .ref (ad 57)), (2, .ref (am 0)), (3, .ref o), (4, .int (nI iL))]) hx hb dL_law_1458 hl (by decide) rfl (fun ls hl => ?_)
    refine lv_aload_n hx hb dL_law_1460 rfl (lv_at hl 3 rfl) ?_
    refine lv_aload_n hx hb dL_law_1461 rfl (lv_at hl 1 rfl) ?_
    refine lv_iload hx hb dL_law_1462 (lv_at hl 5 rfl) ?_
    refine lv_iconst (v := nI 1) hx hb dL_law_1464 (by decide) ?_
    refine kn_iadd hx hb dL_law_1465 ?_
    refine va_sld hx hb F.sc F.bl (fun z => Nat.not_le.mpr F.bl z) hS.st (vp_in_nI (show iL + 1 < L by omega) (by omega)) dL_law_1466 ?_
    rw [← hx1]
    refine lv_aload_n hx hb dL_law_1467 rfl (lv_at hl 1 rfl) ?_
    refine lv_iload hx hb dL_law_1468 (lv_at hl 5 rfl) ?_
    refine lv_iconst (v := nI 2) hx hb dL_law_1470 (by decide) ?_
    refine kn_iadd hx hb dL_law_1471 ?_
    refine va_sld hx hb F.sc F.bl (fun z => Nat.not_le.mpr F.bl z) hS.st (vp_in_nI (show iL + 2 < L by omega) (by omega)) dL_law_1472 ?_
    rw [← hx2]
    have hI := hI9.m
    have T := hI9.T
    have hc : M.2.2.2.1 + 12 < 1000000 := by have := hI9.mp; omega
    refine ll_m (va_runV (As := [.int (nI j), .int (nI j2)]) (rest := []) ⟨hx, hb, hml, hown, hts⟩ (m_X6_copyOrder l dC dI am M j j2 hj hj2 hI) (cwV 2 hts gL_law_X6_copyOrder rfl rfl rfl hdX6_copyOrder_2 ⟨Nat.le_of_ble_eq_true rfl, Nat.le_of_ble_eq_true rfl⟩) (hS.preM F.K) rfl rfl hl.1 rfl (lv_room (Nat.le_of_ble_eq_true rfl)) dL_law_1473 ⟨le_rc (by omega), le_rs (by omega)⟩) F.K hS (fun r8 M1 H locs hko hv hS => ?_)
    have hLM : LM M M1 := by rw [hv.2]; exact LM_ord hI ⟨(hI.2 j hj).1, ovl_key (hI.2 j hj).2 (hI.2 j2 hj2).2⟩
    obtain ⟨hT, he9, ht9⟩ := (A_copyOrder T.1 hj hw hv).two (E_ord T.2 hw hv)
    refine lv_istore (lv' := [(6, .int r8), (5, .int (nI 0)), (0, .ref b), (1, .ref (ad 57)), (2, .ref (am 0)), (3, .ref o), (4, .int (nI iL))]) hx hb dL_law_1476 hl (by decide) rfl (fun ls hl => ?_)
    refine lv_goto (tgt := 2052) hx hb dL_law_1478 (by decide) ?_
    exact W.widen (k := 100 + 224 * (n + 1)) (n := 1200 + 10680 * (n + 1)) (by omega) (by omega) (kk9 S1 M1 _ _ _ (hI9.next hLQ hLM hT) hS (lv_sub hl [2, 3, 4, 5, 6] rfl))
set_option maxHeartbeats 4000000 in
set_option maxRecDepth 100000 in
theorem lc_27 {p : Program} {l : Launch} {e : Env} {s : State} {m : MethodId} {below : List Frame} {meth : Method} {c : Code} {b L : Nat} {xs : Nat → Int32} {dC : Nat → ClassId} {dI : Nat → Nat → Nat} {cB : ClassId} {ad am : Nat → Nat} {o n iL : Nat} {Q : State → Prop} (F : LF p l s m c b L xs dC dI cB ad am o) (hni : iL = 5 * n) (hiL : iL + 5 ≤ L) : LCase p l e s m below meth c b dC dI ad am o n iL Q 1481 := by
  intro S M H locs hI9 hS kk9 ls hl
  have hx := F.x
  have hb := F.b
  have hml := F.ml
  have hown := F.own
  have hts := F.ts
  have hL := F.hL
  have hn9 : n ≤ 511 := by omega
  refine lv_aload_n hx hb dL_law_1481 rfl (lv_at hl 1 rfl) ?_
  refine lv_aload_n hx hb dL_law_1482 rfl (lv_at hl 0 rfl) ?_
  refine lv_iload hx hb dL_law_1483 (lv_at hl 4 rfl) ?_
  refine lv_iconst (v := nI 1) hx hb dL_law_1485 (by decide) ?_
  refine kn_iadd hx hb dL_law_1486 ?_
  refine va_sld hx hb F.sc F.bl (fun z => Nat.not_le.mpr F.bl z) hS.st (vp_in_nI (show iL + 1 < L by omega) (by omega)) dL_law_1487 ?_
  obtain ⟨x1, hx1⟩ : ∃ z, z = xs (nI (iL + 1)).toNatClampNeg := ⟨_, rfl⟩
  rw [← hx1]
  refine lv_aload_n hx hb dL_law_1488 rfl (lv_at hl 3 rfl) ?_
  refine ll_w (vx_runSW (As := [.ref (ad 57), .int x1, .ref o]) (rest := []) ⟨hx, hb, hml, hown, hts⟩ (m_L_turn l F.st dC dI cB ad o S x1 hI9.x hI9.x5 (by have := hI9.xp; omega)) (vx_cwSW 3 hts gL_law_L_turn rfl rfl rfl hdL_turn_3.2 ⟨Nat.le_of_ble_eq_true rfl, Nat.le_of_ble_eq_true rfl⟩) (hS.preW F.K) rfl rfl hl.1 rfl (lv_room (Nat.le_of_ble_eq_true rfl)) dL_law_1489 ⟨le_rc (by omega), le_rs (by omega)⟩) F.K hS (fun r0 S1 n1 H locs hq9 hN hS => ?_)
  have hLQ : LQ S S1 := hq9.1
  have hR : R_turn x1 S r0 S1 n1 := hq9.2
  clear hq9
  rcases hR with ⟨hb9, rfl, rfl⟩ | ⟨j, r7, hj, rfl, rfl, rfl, hw⟩
  · skip
    refine lv_istore (lv' := [(5, .int (nI 1)), (0, .ref b), (1, .ref (ad 57)), (2, .ref (am 0)), (3, .ref o), (4, .int (nI iL))]) hx hb dL_law_1492 hl (by decide) rfl (fun ls hl => ?_)
    refine lv_aload_n hx hb dL_law_1494 rfl (lv_at hl 3 rfl) ?_
    refine lv_aload_n hx hb dL_law_1495 rfl (lv_at hl 1 rfl) ?_
    refine lv_iload hx hb dL_law_1496 (lv_at hl 5 rfl) ?_
    refine lv_iconst (v := nI 1) hx hb dL_law_1498 (by decide) ?_
    refine kn_iadd hx hb dL_law_1499 ?_
    refine va_sld hx hb F.sc F.bl (fun z => Nat.not_le.mpr F.bl z) hS.st (vp_in_nI (show iL + 1 < L by omega) (by omega)) dL_law_1500 ?_
    rw [← hx1]
    have hI := hI9.m
    have T := hI9.T
    have hc : M.2.2.2.1 + 12 < 1000000 := by have := hI9.mp; omega
    refine ll_m (va_runV (As := [.int x1]) (rest := []) ⟨hx, hb, hml, hown, hts⟩ (o_X6_turn_1 l dC dI am M x1 hb9 hI) (cwV 1 hts gL_law_X6_turn rfl rfl rfl hdX6_turn_1 ⟨Nat.le_of_ble_eq_true rfl, Nat.le_of_ble_eq_true rfl⟩) (hS.preM F.K) rfl rfl hl.1 rfl (lv_room (Nat.le_of_ble_eq_true rfl)) dL_law_1501 ⟨le_rc (by omega), le_rs (by omega)⟩) F.K hS (fun r8 M1 H locs hko hv hS => ?_)
    have hLM : LM M M1 := by rw [hv]; exact LM_th hI _
    have hT : Tie2 S M1 := by rw [hv]; exact T.th _
    refine lv_istore (lv' := [(6, .int r8), (5, .int (nI 1)), (0, .ref b), (1, .ref (ad 57)), (2, .ref (am 0)), (3, .ref o), (4, .int (nI iL))]) hx hb dL_law_1504 hl (by decide) rfl (fun ls hl => ?_)
    refine lv_goto (tgt := 2052) hx hb dL_law_1506 (by decide) ?_
    exact W.widen (k := 100 + 224 * (n + 1)) (n := 1200 + 10680 * (n + 1)) (by omega) (by omega) (kk9 S M1 _ _ _ (hI9.next hLQ hLM hT) hS (lv_sub hl [2, 3, 4, 5, 6] rfl))
  · skip
    refine lv_istore (lv' := [(5, .int (nI 0)), (0, .ref b), (1, .ref (ad 57)), (2, .ref (am 0)), (3, .ref o), (4, .int (nI iL))]) hx hb dL_law_1492 hl (by decide) rfl (fun ls hl => ?_)
    refine lv_aload_n hx hb dL_law_1494 rfl (lv_at hl 3 rfl) ?_
    refine lv_aload_n hx hb dL_law_1495 rfl (lv_at hl 1 rfl) ?_
    refine lv_iload hx hb dL_law_1496 (lv_at hl 5 rfl) ?_
    refine lv_iconst (v := nI 1) hx hb dL_law_1498 (by decide) ?_
    refine kn_iadd hx hb dL_law_1499 ?_
    refine va_sld hx hb F.sc F.bl (fun z => Nat.not_le.mpr F.bl z) hS.st (vp_in_nI (show iL + 1 < L by omega) (by omega)) dL_law_1500 ?_
    rw [← hx1]
    have hI := hI9.m
    have T := hI9.T
    have hc : M.2.2.2.1 + 12 < 1000000 := by have := hI9.mp; omega
    refine ll_m (va_runV (As := [.int (nI j)]) (rest := []) ⟨hx, hb, hml, hown, hts⟩ (m_X6_turn l dC dI am M j hj hI) (cwV 1 hts gL_law_X6_turn rfl rfl rfl hdX6_turn_1 ⟨Nat.le_of_ble_eq_true rfl, Nat.le_of_ble_eq_true rfl⟩) (hS.preM F.K) rfl rfl hl.1 rfl (lv_room (Nat.le_of_ble_eq_true rfl)) dL_law_1501 ⟨le_rc (by omega), le_rs (by omega)⟩) F.K hS (fun r8 M1 H locs hko hv hS => ?_)
    have hLM : LM M M1 := by rw [hv.2]; exact LM_ord hI ⟨(hI.2 j hj).1, (hI.2 j hj).2⟩
    obtain ⟨hT, he9, ht9⟩ := (A_turn T.1 hj hw hv).two (E_ord T.2 hw hv)
    refine lv_istore (lv' := [(6, .int r8), (5, .int (nI 0)), (0, .ref b), (1, .ref (ad 57)), (2, .ref (am 0)), (3, .ref o), (4, .int (nI iL))]) hx hb dL_law_1504 hl (by decide) rfl (fun ls hl => ?_)
    refine lv_goto (tgt := 2052) hx hb dL_law_1506 (by decide) ?_
    exact W.widen (k := 100 + 224 * (n + 1)) (n := 1200 + 10680 * (n + 1)) (by omega) (by omega) (kk9 S1 M1 _ _ _ (hI9.next hLQ hLM hT) hS (lv_sub hl [2, 3, 4, 5, 6] rfl))
set_option maxHeartbeats 4000000 in
set_option maxRecDepth 100000 in
theorem lc_28 {p : Program} {l : Launch} {e : Env} {s : State} {m : MethodId} {below : List Frame} {meth : Method} {c : Code} {b L : Nat} {xs : Nat → Int32} {dC : Nat → ClassId} {dI : Nat → Nat → Nat} {cB : ClassId} {ad am : Nat → Nat} {o n iL : Nat} {Q : State → Prop} (F : LF p l s m c b L xs dC dI cB ad am o) (hni : iL = 5 * n) (hiL : iL + 5 ≤ L) : LCase p l e s m below meth c b dC dI ad am o n iL Q 1509 := by
  intro S M H locs hI9 hS kk9 ls hl
  have hx := F.x
  have hb := F.b
  have hml := F.ml
  have hown := F.own
  have hts := F.ts
  have hL := F.hL
  have hn9 : n ≤ 511 := by omega
  refine lv_aload_n hx hb dL_law_1509 rfl (lv_at hl 1 rfl) ?_
  refine lv_aload_n hx hb dL_law_1510 rfl (lv_at hl 0 rfl) ?_
  refine lv_iload hx hb dL_law_1511 (lv_at hl 4 rfl) ?_
  refine lv_iconst (v := nI 1) hx hb dL_law_1513 (by decide) ?_
  refine kn_iadd hx hb dL_law_1514 ?_
  refine va_sld hx hb F.sc F.bl (fun z => Nat.not_le.mpr F.bl z) hS.st (vp_in_nI (show iL + 1 < L by omega) (by omega)) dL_law_1515 ?_
  obtain ⟨x1, hx1⟩ : ∃ z, z = xs (nI (iL + 1)).toNatClampNeg := ⟨_, rfl⟩
  rw [← hx1]
  refine lv_aload_n hx hb dL_law_1516 rfl (lv_at hl 0 rfl) ?_
  refine lv_iload hx hb dL_law_1517 (lv_at hl 4 rfl) ?_
  refine lv_iconst (v := nI 2) hx hb dL_law_1519 (by decide) ?_
  refine kn_iadd hx hb dL_law_1520 ?_
  refine va_sld hx hb F.sc F.bl (fun z => Nat.not_le.mpr F.bl z) hS.st (vp_in_nI (show iL + 2 < L by omega) (by omega)) dL_law_1521 ?_
  obtain ⟨x2, hx2⟩ : ∃ z, z = xs (nI (iL + 2)).toNatClampNeg := ⟨_, rfl⟩
  rw [← hx2]
  refine lv_aload_n hx hb dL_law_1522 rfl (lv_at hl 0 rfl) ?_
  refine lv_iload hx hb dL_law_1523 (lv_at hl 4 rfl) ?_
  refine lv_iconst (v := nI 3) hx hb dL_law_1525 (by decide) ?_
  refine kn_iadd hx hb dL_law_1526 ?_
  refine va_sld hx hb F.sc F.bl (fun z => Nat.not_le.mpr F.bl z) hS.st (vp_in_nI (show iL + 3 < L by omega) (by omega)) dL_law_1527 ?_
  obtain ⟨x3, hx3⟩ : ∃ z, z = xs (nI (iL + 3)).toNatClampNeg := ⟨_, rfl⟩
  rw [← hx3]
  refine lv_aload_n hx hb dL_law_1528 rfl (lv_at hl 3 rfl) ?_
  refine ll_w (vx_runSW (As := [.ref (ad 57), .int x1, .int x2, .int x3, .ref o]) (rest := []) ⟨hx, hb, hml, hown, hts⟩ (m_L_product l F.st dC dI cB ad o S x1 x2 x3 hI9.x hI9.x5 (by have := hI9.xp; omega)) (vx_cwSW 5 hts gL_law_L_product rfl rfl rfl hdL_product_5.2 ⟨Nat.le_of_ble_eq_true rfl, Nat.le_of_ble_eq_true rfl⟩) (hS.preW F.K) rfl rfl hl.1 rfl (lv_room (Nat.le_of_ble_eq_true rfl)) dL_law_1529 ⟨le_rc (by omega), le_rs (by omega)⟩) F.K hS (fun r0 S1 n1 H locs hq9 hN hS => ?_)
  have hLQ : LQ S S1 := hq9.1
  have hR : R_product x1 x2 x3 S r0 S1 n1 := hq9.2
  clear hq9
  rcases hR with ⟨hb9, rfl, rfl⟩ | ⟨j, hj, rfl, hb9, rfl, rfl⟩ | ⟨j, j2, hj, hj2, rfl, rfl, hb9, rfl, rfl⟩ | ⟨j, j2, j3, r7, hj, hj2, hj3, rfl, rfl, rfl, rfl, rfl, hw⟩
  · skip
    refine lv_istore (lv' := [(5, .int (nI 1)), (0, .ref b), (1, .ref (ad 57)), (2, .ref (am 0)), (3, .ref o), (4, .int (nI iL))]) hx hb dL_law_1532 hl (by decide) rfl (fun ls hl => ?_)
    refine lv_aload_n hx hb dL_law_1534 rfl (lv_at hl 3 rfl) ?_
    refine lv_aload_n hx hb dL_law_1535 rfl (lv_at hl 1 rfl) ?_
    refine lv_iload hx hb dL_law_1536 (lv_at hl 5 rfl) ?_
    refine lv_iconst (v := nI 1) hx hb dL_law_1538 (by decide) ?_
    refine kn_iadd hx hb dL_law_1539 ?_
    refine va_sld hx hb F.sc F.bl (fun z => Nat.not_le.mpr F.bl z) hS.st (vp_in_nI (show iL + 1 < L by omega) (by omega)) dL_law_1540 ?_
    rw [← hx1]
    refine lv_aload_n hx hb dL_law_1541 rfl (lv_at hl 1 rfl) ?_
    refine lv_iload hx hb dL_law_1542 (lv_at hl 5 rfl) ?_
    refine lv_iconst (v := nI 2) hx hb dL_law_1544 (by decide) ?_
    refine kn_iadd hx hb dL_law_1545 ?_
    refine va_sld hx hb F.sc F.bl (fun z => Nat.not_le.mpr F.bl z) hS.st (vp_in_nI (show iL + 2 < L by omega) (by omega)) dL_law_1546 ?_
    rw [← hx2]
    refine lv_aload_n hx hb dL_law_1547 rfl (lv_at hl 1 rfl) ?_
    refine lv_iload hx hb dL_law_1548 (lv_at hl 5 rfl) ?_
    refine lv_iconst (v := nI 3) hx hb dL_law_1550 (by decide) ?_
    refine kn_iadd hx hb dL_law_1551 ?_
    refine va_sld hx hb F.sc F.bl (fun z => Nat.not_le.mpr F.bl z) hS.st (vp_in_nI (show iL + 3 < L by omega) (by omega)) dL_law_1552 ?_
    rw [← hx3]
    have hI := hI9.m
    have T := hI9.T
    have hc : M.2.2.2.1 + 12 < 1000000 := by have := hI9.mp; omega
    refine ll_m (va_runV (As := [.int x1, .int x2, .int x3]) (rest := []) ⟨hx, hb, hml, hown, hts⟩ (o_X6_product_1 l dC dI am M x1 x2 x3 hb9 hI) (cwV 3 hts gL_law_X6_product rfl rfl rfl hdX6_product_3 ⟨Nat.le_of_ble_eq_true rfl, Nat.le_of_ble_eq_true rfl⟩) (hS.preM F.K) rfl rfl hl.1 rfl (lv_room (Nat.le_of_ble_eq_true rfl)) dL_law_1553 ⟨le_rc (by omega), le_rs (by omega)⟩) F.K hS (fun r8 M1 H locs hko hv hS => ?_)
    have hLM : LM M M1 := by rw [hv]; exact LM_th hI _
    have hT : Tie2 S M1 := by rw [hv]; exact T.th _
    refine lv_istore (lv' := [(6, .int r8), (5, .int (nI 1)), (0, .ref b), (1, .ref (ad 57)), (2, .ref (am 0)), (3, .ref o), (4, .int (nI iL))]) hx hb dL_law_1556 hl (by decide) rfl (fun ls hl => ?_)
    refine lv_goto (tgt := 2052) hx hb dL_law_1558 (by decide) ?_
    exact W.widen (k := 100 + 224 * (n + 1)) (n := 1200 + 10680 * (n + 1)) (by omega) (by omega) (kk9 S M1 _ _ _ (hI9.next hLQ hLM hT) hS (lv_sub hl [2, 3, 4, 5, 6] rfl))
  · skip
    refine lv_istore (lv' := [(5, .int (nI 1)), (0, .ref b), (1, .ref (ad 57)), (2, .ref (am 0)), (3, .ref o), (4, .int (nI iL))]) hx hb dL_law_1532 hl (by decide) rfl (fun ls hl => ?_)
    refine lv_aload_n hx hb dL_law_1534 rfl (lv_at hl 3 rfl) ?_
    refine lv_aload_n hx hb dL_law_1535 rfl (lv_at hl 1 rfl) ?_
    refine lv_iload hx hb dL_law_1536 (lv_at hl 5 rfl) ?_
    refine lv_iconst (v := nI 1) hx hb dL_law_1538 (by decide) ?_
    refine kn_iadd hx hb dL_law_1539 ?_
    refine va_sld hx hb F.sc F.bl (fun z => Nat.not_le.mpr F.bl z) hS.st (vp_in_nI (show iL + 1 < L by omega) (by omega)) dL_law_1540 ?_
    rw [← hx1]
    refine lv_aload_n hx hb dL_law_1541 rfl (lv_at hl 1 rfl) ?_
    refine lv_iload hx hb dL_law_1542 (lv_at hl 5 rfl) ?_
    refine lv_iconst (v := nI 2) hx hb dL_law_1544 (by decide) ?_
    refine kn_iadd hx hb dL_law_1545 ?_
    refine va_sld hx hb F.sc F.bl (fun z => Nat.not_le.mpr F.bl z) hS.st (vp_in_nI (show iL + 2 < L by omega) (by omega)) dL_law_1546 ?_
    rw [← hx2]
    refine lv_aload_n hx hb dL_law_1547 rfl (lv_at hl 1 rfl) ?_
    refine lv_iload hx hb dL_law_1548 (lv_at hl 5 rfl) ?_
    refine lv_iconst (v := nI 3) hx hb dL_law_1550 (by decide) ?_
    refine kn_iadd hx hb dL_law_1551 ?_
    refine va_sld hx hb F.sc F.bl (fun z => Nat.not_le.mpr F.bl z) hS.st (vp_in_nI (show iL + 3 < L by omega) (by omega)) dL_law_1552 ?_
    rw [← hx3]
    have hI := hI9.m
    have T := hI9.T
    have hc : M.2.2.2.1 + 12 < 1000000 := by have := hI9.mp; omega
    refine ll_m (va_runV (As := [.int (nI j), .int x2, .int x3]) (rest := []) ⟨hx, hb, hml, hown, hts⟩ (o_X6_product_2 l dC dI am M j x2 x3 hj hb9 hI) (cwV 3 hts gL_law_X6_product rfl rfl rfl hdX6_product_3 ⟨Nat.le_of_ble_eq_true rfl, Nat.le_of_ble_eq_true rfl⟩) (hS.preM F.K) rfl rfl hl.1 rfl (lv_room (Nat.le_of_ble_eq_true rfl)) dL_law_1553 ⟨le_rc (by omega), le_rs (by omega)⟩) F.K hS (fun r8 M1 H locs hko hv hS => ?_)
    have hLM : LM M M1 := by rw [hv]; exact LM_th hI _
    have hT : Tie2 S M1 := by rw [hv]; exact T.th _
    refine lv_istore (lv' := [(6, .int r8), (5, .int (nI 1)), (0, .ref b), (1, .ref (ad 57)), (2, .ref (am 0)), (3, .ref o), (4, .int (nI iL))]) hx hb dL_law_1556 hl (by decide) rfl (fun ls hl => ?_)
    refine lv_goto (tgt := 2052) hx hb dL_law_1558 (by decide) ?_
    exact W.widen (k := 100 + 224 * (n + 1)) (n := 1200 + 10680 * (n + 1)) (by omega) (by omega) (kk9 S M1 _ _ _ (hI9.next hLQ hLM hT) hS (lv_sub hl [2, 3, 4, 5, 6] rfl))
  · skip
    refine lv_istore (lv' := [(5, .int (nI 1)), (0, .ref b), (1, .ref (ad 57)), (2, .ref (am 0)), (3, .ref o), (4, .int (nI iL))]) hx hb dL_law_1532 hl (by decide) rfl (fun ls hl => ?_)
    refine lv_aload_n hx hb dL_law_1534 rfl (lv_at hl 3 rfl) ?_
    refine lv_aload_n hx hb dL_law_1535 rfl (lv_at hl 1 rfl) ?_
    refine lv_iload hx hb dL_law_1536 (lv_at hl 5 rfl) ?_
    refine lv_iconst (v := nI 1) hx hb dL_law_1538 (by decide) ?_
    refine kn_iadd hx hb dL_law_1539 ?_
    refine va_sld hx hb F.sc F.bl (fun z => Nat.not_le.mpr F.bl z) hS.st (vp_in_nI (show iL + 1 < L by omega) (by omega)) dL_law_1540 ?_
    rw [← hx1]
    refine lv_aload_n hx hb dL_law_1541 rfl (lv_at hl 1 rfl) ?_
    refine lv_iload hx hb dL_law_1542 (lv_at hl 5 rfl) ?_
    refine lv_iconst (v := nI 2) hx hb dL_law_1544 (by decide) ?_
    refine kn_iadd hx hb dL_law_1545 ?_
    refine va_sld hx hb F.sc F.bl (fun z => Nat.not_le.mpr F.bl z) hS.st (vp_in_nI (show iL + 2 < L by omega) (by omega)) dL_law_1546 ?_
    rw [← hx2]
    refine lv_aload_n hx hb dL_law_1547 rfl (lv_at hl 1 rfl) ?_
    refine lv_iload hx hb dL_law_1548 (lv_at hl 5 rfl) ?_
    refine lv_iconst (v := nI 3) hx hb dL_law_1550 (by decide) ?_
    refine kn_iadd hx hb dL_law_1551 ?_
    refine va_sld hx hb F.sc F.bl (fun z => Nat.not_le.mpr F.bl z) hS.st (vp_in_nI (show iL + 3 < L by omega) (by omega)) dL_law_1552 ?_
    rw [← hx3]
    have hI := hI9.m
    have T := hI9.T
    have hc : M.2.2.2.1 + 12 < 1000000 := by have := hI9.mp; omega
    refine ll_m (va_runV (As := [.int (nI j), .int (nI j2), .int x3]) (rest := []) ⟨hx, hb, hml, hown, hts⟩ (o_X6_product_3 l dC dI am M j j2 x3 hj hj2 hb9 hI) (cwV 3 hts gL_law_X6_product rfl rfl rfl hdX6_product_3 ⟨Nat.le_of_ble_eq_true rfl, Nat.le_of_ble_eq_true rfl⟩) (hS.preM F.K) rfl rfl hl.1 rfl (lv_room (Nat.le_of_ble_eq_true rfl)) dL_law_1553 ⟨le_rc (by omega), le_rs (by omega)⟩) F.K hS (fun r8 M1 H locs hko hv hS => ?_)
    have hLM : LM M M1 := by rw [hv]; exact LM_th hI _
    have hT : Tie2 S M1 := by rw [hv]; exact T.th _
    refine lv_istore (lv' := [(6, .int r8), (5, .int (nI 1)), (0, .ref b), (1, .ref (ad 57)), (2, .ref (am 0)), (3, .ref o), (4, .int (nI iL))]) hx hb dL_law_1556 hl (by decide) rfl (fun ls hl => ?_)
    refine lv_goto (tgt := 2052) hx hb dL_law_1558 (by decide) ?_
    exact W.widen (k := 100 + 224 * (n + 1)) (n := 1200 + 10680 * (n + 1)) (by omega) (by omega) (kk9 S M1 _ _ _ (hI9.next hLQ hLM hT) hS (lv_sub hl [2, 3, 4, 5, 6] rfl))
  · skip
    refine lv_istore (lv' := [(5, .int (nI 0)), (0, .ref b), (1, .ref (ad 57)), (2, .ref (am 0)), (3, .ref o), (4, .int (nI iL))]) hx hb dL_law_1532 hl (by decide) rfl (fun ls hl => ?_)
    refine lv_aload_n hx hb dL_law_1534 rfl (lv_at hl 3 rfl) ?_
    refine lv_aload_n hx hb dL_law_1535 rfl (lv_at hl 1 rfl) ?_
    refine lv_iload hx hb dL_law_1536 (lv_at hl 5 rfl) ?_
    refine lv_iconst (v := nI 1) hx hb dL_law_1538 (by decide) ?_
    refine kn_iadd hx hb dL_law_1539 ?_
    refine va_sld hx hb F.sc F.bl (fun z => Nat.not_le.mpr F.bl z) hS.st (vp_in_nI (show iL + 1 < L by omega) (by omega)) dL_law_1540 ?_
    rw [← hx1]
    refine lv_aload_n hx hb dL_law_1541 rfl (lv_at hl 1 rfl) ?_
    refine lv_iload hx hb dL_law_1542 (lv_at hl 5 rfl) ?_
    refine lv_iconst (v := nI 2) hx hb dL_law_1544 (by decide) ?_
    refine kn_iadd hx hb dL_law_1545 ?_
    refine va_sld hx hb F.sc F.bl (fun z => Nat.not_le.mpr F.bl z) hS.st (vp_in_nI (show iL + 2 < L by omega) (by omega)) dL_law_1546 ?_
    rw [← hx2]
    refine lv_aload_n hx hb dL_law_1547 rfl (lv_at hl 1 rfl) ?_
    refine lv_iload hx hb dL_law_1548 (lv_at hl 5 rfl) ?_
    refine lv_iconst (v := nI 3) hx hb dL_law_1550 (by decide) ?_
    refine kn_iadd hx hb dL_law_1551 ?_
    refine va_sld hx hb F.sc F.bl (fun z => Nat.not_le.mpr F.bl z) hS.st (vp_in_nI (show iL + 3 < L by omega) (by omega)) dL_law_1552 ?_
    rw [← hx3]
    have hI := hI9.m
    have T := hI9.T
    have hc : M.2.2.2.1 + 12 < 1000000 := by have := hI9.mp; omega
    refine ll_m (va_runV (As := [.int (nI j), .int (nI j2), .int (nI j3)]) (rest := []) ⟨hx, hb, hml, hown, hts⟩ (m_X6_product l dC dI am M j j2 j3 hj hj2 hj3 hI) (cwV 3 hts gL_law_X6_product rfl rfl rfl hdX6_product_3 ⟨Nat.le_of_ble_eq_true rfl, Nat.le_of_ble_eq_true rfl⟩) (hS.preM F.K) rfl rfl hl.1 rfl (lv_room (Nat.le_of_ble_eq_true rfl)) dL_law_1553 ⟨le_rc (by omega), le_rs (by omega)⟩) F.K hS (fun r8 M1 H locs hko hv hS => ?_)
    have hLM : LM M M1 := hv.elim (fun h => by rw [h.2.2]; exact LM_ord hI (ordM_prod (hI.2 j hj) (hI.2 j2 hj2) (hI.2 j3 hj3) h.1)) (fun h => by rw [h.2.2]; exact LM_ref hI)
    obtain ⟨hT, he9, ht9⟩ := (A_product T.1 hj hj2 hj3 hw hv).two (E_product T.1 T.2 hj hj2 hw hv)
    refine lv_istore (lv' := [(6, .int r8), (5, .int (nI 0)), (0, .ref b), (1, .ref (ad 57)), (2, .ref (am 0)), (3, .ref o), (4, .int (nI iL))]) hx hb dL_law_1556 hl (by decide) rfl (fun ls hl => ?_)
    refine lv_goto (tgt := 2052) hx hb dL_law_1558 (by decide) ?_
    exact W.widen (k := 100 + 224 * (n + 1)) (n := 1200 + 10680 * (n + 1)) (by omega) (by omega) (kk9 S1 M1 _ _ _ (hI9.next hLQ hLM hT) hS (lv_sub hl [2, 3, 4, 5, 6] rfl))
set_option maxHeartbeats 4000000 in
set_option maxRecDepth 100000 in
theorem lc_29 {p : Program} {l : Launch} {e : Env} {s : State} {m : MethodId} {below : List Frame} {meth : Method} {c : Code} {b L : Nat} {xs : Nat → Int32} {dC : Nat → ClassId} {dI : Nat → Nat → Nat} {cB : ClassId} {ad am : Nat → Nat} {o n iL : Nat} {Q : State → Prop} (F : LF p l s m c b L xs dC dI cB ad am o) (hni : iL = 5 * n) (hiL : iL + 5 ≤ L) : LCase p l e s m below meth c b dC dI ad am o n iL Q 1561 := by
  intro S M H locs hI9 hS kk9 ls hl
  have hx := F.x
  have hb := F.b
  have hml := F.ml
  have hown := F.own
  have hts := F.ts
  have hL := F.hL
  have hn9 : n ≤ 511 := by omega
  refine lv_aload_n hx hb dL_law_1561 rfl (lv_at hl 1 rfl) ?_
  refine lv_aload_n hx hb dL_law_1562 rfl (lv_at hl 0 rfl) ?_
  refine lv_iload hx hb dL_law_1563 (lv_at hl 4 rfl) ?_
  refine lv_iconst (v := nI 1) hx hb dL_law_1565 (by decide) ?_
  refine kn_iadd hx hb dL_law_1566 ?_
  refine va_sld hx hb F.sc F.bl (fun z => Nat.not_le.mpr F.bl z) hS.st (vp_in_nI (show iL + 1 < L by omega) (by omega)) dL_law_1567 ?_
  obtain ⟨x1, hx1⟩ : ∃ z, z = xs (nI (iL + 1)).toNatClampNeg := ⟨_, rfl⟩
  rw [← hx1]
  refine lv_aload_n hx hb dL_law_1568 rfl (lv_at hl 0 rfl) ?_
  refine lv_iload hx hb dL_law_1569 (lv_at hl 4 rfl) ?_
  refine lv_iconst (v := nI 2) hx hb dL_law_1571 (by decide) ?_
  refine kn_iadd hx hb dL_law_1572 ?_
  refine va_sld hx hb F.sc F.bl (fun z => Nat.not_le.mpr F.bl z) hS.st (vp_in_nI (show iL + 2 < L by omega) (by omega)) dL_law_1573 ?_
  obtain ⟨x2, hx2⟩ : ∃ z, z = xs (nI (iL + 2)).toNatClampNeg := ⟨_, rfl⟩
  rw [← hx2]
  refine lv_aload_n hx hb dL_law_1574 rfl (lv_at hl 0 rfl) ?_
  refine lv_iload hx hb dL_law_1575 (lv_at hl 4 rfl) ?_
  refine lv_iconst (v := nI 3) hx hb dL_law_1577 (by decide) ?_
  refine kn_iadd hx hb dL_law_1578 ?_
  refine va_sld hx hb F.sc F.bl (fun z => Nat.not_le.mpr F.bl z) hS.st (vp_in_nI (show iL + 3 < L by omega) (by omega)) dL_law_1579 ?_
  obtain ⟨x3, hx3⟩ : ∃ z, z = xs (nI (iL + 3)).toNatClampNeg := ⟨_, rfl⟩
  rw [← hx3]
  refine lv_aload_n hx hb dL_law_1580 rfl (lv_at hl 3 rfl) ?_
  refine ll_w (vx_runSW (As := [.ref (ad 57), .int x1, .int x2, .int x3, .ref o]) (rest := []) ⟨hx, hb, hml, hown, hts⟩ (m_L_tellApart l F.st dC dI cB ad o S x1 x2 x3 hI9.x hI9.x5 (by have := hI9.xp; omega)) (vx_cwSW 5 hts gL_law_L_tellApart rfl rfl rfl hdL_tellApart_5.2 ⟨Nat.le_of_ble_eq_true rfl, Nat.le_of_ble_eq_true rfl⟩) (hS.preW F.K) rfl rfl hl.1 rfl (lv_room (Nat.le_of_ble_eq_true rfl)) dL_law_1581 ⟨le_rc (by omega), le_rs (by omega)⟩) F.K hS (fun r0 S1 n1 H locs hq9 hN hS => ?_)
  have hLQ : LQ S S1 := hq9.1
  have hR : R_tellApart x1 x2 x3 S r0 S1 n1 := hq9.2
  clear hq9
  rcases hR with ⟨hb9, rfl, rfl⟩ | ⟨j, hj, rfl, hb9, rfl, rfl⟩ | ⟨j, v, hj, hv9, rfl, rfl, hb9, rfl, rfl⟩ | ⟨j, v, v2, r7, hj, hv9, hv2, rfl, rfl, rfl, rfl, rfl, hw⟩
  · skip
    refine lv_istore (lv' := [(5, .int (nI 1)), (0, .ref b), (1, .ref (ad 57)), (2, .ref (am 0)), (3, .ref o), (4, .int (nI iL))]) hx hb dL_law_1584 hl (by decide) rfl (fun ls hl => ?_)
    refine lv_aload_n hx hb dL_law_1586 rfl (lv_at hl 3 rfl) ?_
    refine lv_aload_n hx hb dL_law_1587 rfl (lv_at hl 1 rfl) ?_
    refine lv_iload hx hb dL_law_1588 (lv_at hl 5 rfl) ?_
    refine lv_iconst (v := nI 1) hx hb dL_law_1590 (by decide) ?_
    refine kn_iadd hx hb dL_law_1591 ?_
    refine va_sld hx hb F.sc F.bl (fun z => Nat.not_le.mpr F.bl z) hS.st (vp_in_nI (show iL + 1 < L by omega) (by omega)) dL_law_1592 ?_
    rw [← hx1]
    refine lv_aload_n hx hb dL_law_1593 rfl (lv_at hl 1 rfl) ?_
    refine lv_iload hx hb dL_law_1594 (lv_at hl 5 rfl) ?_
    refine lv_iconst (v := nI 2) hx hb dL_law_1596 (by decide) ?_
    refine kn_iadd hx hb dL_law_1597 ?_
    refine va_sld hx hb F.sc F.bl (fun z => Nat.not_le.mpr F.bl z) hS.st (vp_in_nI (show iL + 2 < L by omega) (by omega)) dL_law_1598 ?_
    rw [← hx2]
    refine lv_aload_n hx hb dL_law_1599 rfl (lv_at hl 1 rfl) ?_
    refine lv_iload hx hb dL_law_1600 (lv_at hl 5 rfl) ?_
    refine lv_iconst (v := nI 3) hx hb dL_law_1602 (by decide) ?_
    refine kn_iadd hx hb dL_law_1603 ?_
    refine va_sld hx hb F.sc F.bl (fun z => Nat.not_le.mpr F.bl z) hS.st (vp_in_nI (show iL + 3 < L by omega) (by omega)) dL_law_1604 ?_
    rw [← hx3]
    have hI := hI9.m
    have T := hI9.T
    have hc : M.2.2.2.1 + 12 < 1000000 := by have := hI9.mp; omega
    refine ll_m (va_runV (As := [.int x1, .int x2, .int x3]) (rest := []) ⟨hx, hb, hml, hown, hts⟩ (o_X6_tellApart_1 l dC dI am M x1 x2 x3 hb9 hI) (cwV 3 hts gL_law_X6_tellApart rfl rfl rfl hdX6_tellApart_3 ⟨Nat.le_of_ble_eq_true rfl, Nat.le_of_ble_eq_true rfl⟩) (hS.preM F.K) rfl rfl hl.1 rfl (lv_room (Nat.le_of_ble_eq_true rfl)) dL_law_1605 ⟨le_rc (by omega), le_rs (by omega)⟩) F.K hS (fun r8 M1 H locs hko hv hS => ?_)
    have hLM : LM M M1 := by rw [hv]; exact LM_th hI _
    have hT : Tie2 S M1 := by rw [hv]; exact T.th _
    refine lv_istore (lv' := [(6, .int r8), (5, .int (nI 1)), (0, .ref b), (1, .ref (ad 57)), (2, .ref (am 0)), (3, .ref o), (4, .int (nI iL))]) hx hb dL_law_1608 hl (by decide) rfl (fun ls hl => ?_)
    refine lv_goto (tgt := 2052) hx hb dL_law_1610 (by decide) ?_
    exact W.widen (k := 100 + 224 * (n + 1)) (n := 1200 + 10680 * (n + 1)) (by omega) (by omega) (kk9 S M1 _ _ _ (hI9.next hLQ hLM hT) hS (lv_sub hl [2, 3, 4, 5, 6] rfl))
  · skip
    refine lv_istore (lv' := [(5, .int (nI 2)), (0, .ref b), (1, .ref (ad 57)), (2, .ref (am 0)), (3, .ref o), (4, .int (nI iL))]) hx hb dL_law_1584 hl (by decide) rfl (fun ls hl => ?_)
    refine lv_aload_n hx hb dL_law_1586 rfl (lv_at hl 3 rfl) ?_
    refine lv_aload_n hx hb dL_law_1587 rfl (lv_at hl 1 rfl) ?_
    refine lv_iload hx hb dL_law_1588 (lv_at hl 5 rfl) ?_
    refine lv_iconst (v := nI 1) hx hb dL_law_1590 (by decide) ?_
    refine kn_iadd hx hb dL_law_1591 ?_
    refine va_sld hx hb F.sc F.bl (fun z => Nat.not_le.mpr F.bl z) hS.st (vp_in_nI (show iL + 1 < L by omega) (by omega)) dL_law_1592 ?_
    rw [← hx1]
    refine lv_aload_n hx hb dL_law_1593 rfl (lv_at hl 1 rfl) ?_
    refine lv_iload hx hb dL_law_1594 (lv_at hl 5 rfl) ?_
    refine lv_iconst (v := nI 2) hx hb dL_law_1596 (by decide) ?_
    refine kn_iadd hx hb dL_law_1597 ?_
    refine va_sld hx hb F.sc F.bl (fun z => Nat.not_le.mpr F.bl z) hS.st (vp_in_nI (show iL + 2 < L by omega) (by omega)) dL_law_1598 ?_
    rw [← hx2]
    refine lv_aload_n hx hb dL_law_1599 rfl (lv_at hl 1 rfl) ?_
    refine lv_iload hx hb dL_law_1600 (lv_at hl 5 rfl) ?_
    refine lv_iconst (v := nI 3) hx hb dL_law_1602 (by decide) ?_
    refine kn_iadd hx hb dL_law_1603 ?_
    refine va_sld hx hb F.sc F.bl (fun z => Nat.not_le.mpr F.bl z) hS.st (vp_in_nI (show iL + 3 < L by omega) (by omega)) dL_law_1604 ?_
    rw [← hx3]
    have hI := hI9.m
    have T := hI9.T
    have hc : M.2.2.2.1 + 12 < 1000000 := by have := hI9.mp; omega
    refine ll_m (va_runV (As := [.int (nI j), .int x2, .int x3]) (rest := []) ⟨hx, hb, hml, hown, hts⟩ (o_X6_tellApart_2 l dC dI am M j x2 x3 hj hb9 hI) (cwV 3 hts gL_law_X6_tellApart rfl rfl rfl hdX6_tellApart_3 ⟨Nat.le_of_ble_eq_true rfl, Nat.le_of_ble_eq_true rfl⟩) (hS.preM F.K) rfl rfl hl.1 rfl (lv_room (Nat.le_of_ble_eq_true rfl)) dL_law_1605 ⟨le_rc (by omega), le_rs (by omega)⟩) F.K hS (fun r8 M1 H locs hko hv hS => ?_)
    have hLM : LM M M1 := by rw [hv]; exact LM_th hI _
    have hT : Tie2 S M1 := by rw [hv]; exact T.th _
    refine lv_istore (lv' := [(6, .int r8), (5, .int (nI 2)), (0, .ref b), (1, .ref (ad 57)), (2, .ref (am 0)), (3, .ref o), (4, .int (nI iL))]) hx hb dL_law_1608 hl (by decide) rfl (fun ls hl => ?_)
    refine lv_goto (tgt := 2052) hx hb dL_law_1610 (by decide) ?_
    exact W.widen (k := 100 + 224 * (n + 1)) (n := 1200 + 10680 * (n + 1)) (by omega) (by omega) (kk9 S M1 _ _ _ (hI9.next hLQ hLM hT) hS (lv_sub hl [2, 3, 4, 5, 6] rfl))
  · skip
    refine lv_istore (lv' := [(5, .int (nI 2)), (0, .ref b), (1, .ref (ad 57)), (2, .ref (am 0)), (3, .ref o), (4, .int (nI iL))]) hx hb dL_law_1584 hl (by decide) rfl (fun ls hl => ?_)
    refine lv_aload_n hx hb dL_law_1586 rfl (lv_at hl 3 rfl) ?_
    refine lv_aload_n hx hb dL_law_1587 rfl (lv_at hl 1 rfl) ?_
    refine lv_iload hx hb dL_law_1588 (lv_at hl 5 rfl) ?_
    refine lv_iconst (v := nI 1) hx hb dL_law_1590 (by decide) ?_
    refine kn_iadd hx hb dL_law_1591 ?_
    refine va_sld hx hb F.sc F.bl (fun z => Nat.not_le.mpr F.bl z) hS.st (vp_in_nI (show iL + 1 < L by omega) (by omega)) dL_law_1592 ?_
    rw [← hx1]
    refine lv_aload_n hx hb dL_law_1593 rfl (lv_at hl 1 rfl) ?_
    refine lv_iload hx hb dL_law_1594 (lv_at hl 5 rfl) ?_
    refine lv_iconst (v := nI 2) hx hb dL_law_1596 (by decide) ?_
    refine kn_iadd hx hb dL_law_1597 ?_
    refine va_sld hx hb F.sc F.bl (fun z => Nat.not_le.mpr F.bl z) hS.st (vp_in_nI (show iL + 2 < L by omega) (by omega)) dL_law_1598 ?_
    rw [← hx2]
    refine lv_aload_n hx hb dL_law_1599 rfl (lv_at hl 1 rfl) ?_
    refine lv_iload hx hb dL_law_1600 (lv_at hl 5 rfl) ?_
    refine lv_iconst (v := nI 3) hx hb dL_law_1602 (by decide) ?_
    refine kn_iadd hx hb dL_law_1603 ?_
    refine va_sld hx hb F.sc F.bl (fun z => Nat.not_le.mpr F.bl z) hS.st (vp_in_nI (show iL + 3 < L by omega) (by omega)) dL_law_1604 ?_
    rw [← hx3]
    have hI := hI9.m
    have T := hI9.T
    have hc : M.2.2.2.1 + 12 < 1000000 := by have := hI9.mp; omega
    refine ll_m (va_runV (As := [.int (nI j), .int (nI v), .int x3]) (rest := []) ⟨hx, hb, hml, hown, hts⟩ (o_X6_tellApart_3 l dC dI am M j v x3 hj hv9 hb9 hI) (cwV 3 hts gL_law_X6_tellApart rfl rfl rfl hdX6_tellApart_3 ⟨Nat.le_of_ble_eq_true rfl, Nat.le_of_ble_eq_true rfl⟩) (hS.preM F.K) rfl rfl hl.1 rfl (lv_room (Nat.le_of_ble_eq_true rfl)) dL_law_1605 ⟨le_rc (by omega), le_rs (by omega)⟩) F.K hS (fun r8 M1 H locs hko hv hS => ?_)
    have hLM : LM M M1 := by rw [hv]; exact LM_th hI _
    have hT : Tie2 S M1 := by rw [hv]; exact T.th _
    refine lv_istore (lv' := [(6, .int r8), (5, .int (nI 2)), (0, .ref b), (1, .ref (ad 57)), (2, .ref (am 0)), (3, .ref o), (4, .int (nI iL))]) hx hb dL_law_1608 hl (by decide) rfl (fun ls hl => ?_)
    refine lv_goto (tgt := 2052) hx hb dL_law_1610 (by decide) ?_
    exact W.widen (k := 100 + 224 * (n + 1)) (n := 1200 + 10680 * (n + 1)) (by omega) (by omega) (kk9 S M1 _ _ _ (hI9.next hLQ hLM hT) hS (lv_sub hl [2, 3, 4, 5, 6] rfl))
  · skip
    refine lv_istore (lv' := [(5, .int (nI 0)), (0, .ref b), (1, .ref (ad 57)), (2, .ref (am 0)), (3, .ref o), (4, .int (nI iL))]) hx hb dL_law_1584 hl (by decide) rfl (fun ls hl => ?_)
    refine lv_aload_n hx hb dL_law_1586 rfl (lv_at hl 3 rfl) ?_
    refine lv_aload_n hx hb dL_law_1587 rfl (lv_at hl 1 rfl) ?_
    refine lv_iload hx hb dL_law_1588 (lv_at hl 5 rfl) ?_
    refine lv_iconst (v := nI 1) hx hb dL_law_1590 (by decide) ?_
    refine kn_iadd hx hb dL_law_1591 ?_
    refine va_sld hx hb F.sc F.bl (fun z => Nat.not_le.mpr F.bl z) hS.st (vp_in_nI (show iL + 1 < L by omega) (by omega)) dL_law_1592 ?_
    rw [← hx1]
    refine lv_aload_n hx hb dL_law_1593 rfl (lv_at hl 1 rfl) ?_
    refine lv_iload hx hb dL_law_1594 (lv_at hl 5 rfl) ?_
    refine lv_iconst (v := nI 2) hx hb dL_law_1596 (by decide) ?_
    refine kn_iadd hx hb dL_law_1597 ?_
    refine va_sld hx hb F.sc F.bl (fun z => Nat.not_le.mpr F.bl z) hS.st (vp_in_nI (show iL + 2 < L by omega) (by omega)) dL_law_1598 ?_
    rw [← hx2]
    refine lv_aload_n hx hb dL_law_1599 rfl (lv_at hl 1 rfl) ?_
    refine lv_iload hx hb dL_law_1600 (lv_at hl 5 rfl) ?_
    refine lv_iconst (v := nI 3) hx hb dL_law_1602 (by decide) ?_
    refine kn_iadd hx hb dL_law_1603 ?_
    refine va_sld hx hb F.sc F.bl (fun z => Nat.not_le.mpr F.bl z) hS.st (vp_in_nI (show iL + 3 < L by omega) (by omega)) dL_law_1604 ?_
    rw [← hx3]
    have hI := hI9.m
    have T := hI9.T
    have hc : M.2.2.2.1 + 12 < 1000000 := by have := hI9.mp; omega
    refine ll_m (va_runV (As := [.int (nI j), .int (nI v), .int (nI v2)]) (rest := []) ⟨hx, hb, hml, hown, hts⟩ (n_X6_tellApart l dC dI am M j v v2 hj hv9 hv2 hI) (cwV 3 hts gL_law_X6_tellApart rfl rfl rfl hdX6_tellApart_3 ⟨Nat.le_of_ble_eq_true rfl, Nat.le_of_ble_eq_true rfl⟩) (hS.preM F.K) rfl rfl hl.1 rfl (lv_room (Nat.le_of_ble_eq_true rfl)) dL_law_1605 ⟨le_rc (by omega), le_rs (by omega)⟩) F.K hS (fun r8 M1 H locs hko hv hS => ?_)
    have hLM : LM M M1 := LM_tell hI hj hv
    obtain ⟨hT, he9, ht9⟩ := (A_tell T.1 hI9.x hj hv9 hv2 hw hv).two (E_tell T.1 T.2 (A_tell T.1 hI9.x hj hv9 hv2 hw hv).1 hj hw hv)
    refine lv_istore (lv' := [(6, .int r8), (5, .int (nI 0)), (0, .ref b), (1, .ref (ad 57)), (2, .ref (am 0)), (3, .ref o), (4, .int (nI iL))]) hx hb dL_law_1608 hl (by decide) rfl (fun ls hl => ?_)
    refine lv_goto (tgt := 2052) hx hb dL_law_1610 (by decide) ?_
    exact W.widen (k := 100 + 224 * (n + 1)) (n := 1200 + 10680 * (n + 1)) (by omega) (by omega) (kk9 S1 M1 _ _ _ (hI9.next hLQ hLM hT) hS (lv_sub hl [2, 3, 4, 5, 6] rfl))
set_option maxHeartbeats 4000000 in
set_option maxRecDepth 100000 in
theorem lc_30 {p : Program} {l : Launch} {e : Env} {s : State} {m : MethodId} {below : List Frame} {meth : Method} {c : Code} {b L : Nat} {xs : Nat → Int32} {dC : Nat → ClassId} {dI : Nat → Nat → Nat} {cB : ClassId} {ad am : Nat → Nat} {o n iL : Nat} {Q : State → Prop} (F : LF p l s m c b L xs dC dI cB ad am o) (hni : iL = 5 * n) (hiL : iL + 5 ≤ L) : LCase p l e s m below meth c b dC dI ad am o n iL Q 1613 := by
  intro S M H locs hI9 hS kk9 ls hl
  have hx := F.x
  have hb := F.b
  have hml := F.ml
  have hown := F.own
  have hts := F.ts
  have hL := F.hL
  have hn9 : n ≤ 511 := by omega
  refine lv_aload_n hx hb dL_law_1613 rfl (lv_at hl 1 rfl) ?_
  refine lv_aload_n hx hb dL_law_1614 rfl (lv_at hl 0 rfl) ?_
  refine lv_iload hx hb dL_law_1615 (lv_at hl 4 rfl) ?_
  refine lv_iconst (v := nI 1) hx hb dL_law_1617 (by decide) ?_
  refine kn_iadd hx hb dL_law_1618 ?_
  refine va_sld hx hb F.sc F.bl (fun z => Nat.not_le.mpr F.bl z) hS.st (vp_in_nI (show iL + 1 < L by omega) (by omega)) dL_law_1619 ?_
  obtain ⟨x1, hx1⟩ : ∃ z, z = xs (nI (iL + 1)).toNatClampNeg := ⟨_, rfl⟩
  rw [← hx1]
  refine lv_aload_n hx hb dL_law_1620 rfl (lv_at hl 3 rfl) ?_
  refine ll_w (vx_runSW (As := [.ref (ad 57), .int x1, .ref o]) (rest := []) ⟨hx, hb, hml, hown, hts⟩ (m_L_orderText l F.st dC dI cB ad o S x1 hI9.x hI9.x5 (by have := hI9.xp; omega)) (vx_cwSW 3 hts gL_law_L_orderText rfl rfl rfl hdL_orderText_3.2 ⟨Nat.le_of_ble_eq_true rfl, Nat.le_of_ble_eq_true rfl⟩) (hS.preW F.K) rfl rfl hl.1 rfl (lv_room (Nat.le_of_ble_eq_true rfl)) dL_law_1621 ⟨le_rc (by omega), le_rs (by omega)⟩) F.K hS (fun r0 S1 n1 H locs hq9 hN hS => ?_)
  have hLQ : LQ S S1 := hq9.1
  have hR : R_orderText x1 S r0 S1 n1 := hq9.2
  clear hq9
  rcases hR with ⟨hb9, rfl, rfl⟩ | ⟨j, hj, rfl, rfl, hw⟩
  · skip
    refine lv_istore (lv' := [(5, .int (nI 1)), (0, .ref b), (1, .ref (ad 57)), (2, .ref (am 0)), (3, .ref o), (4, .int (nI iL))]) hx hb dL_law_1624 hl (by decide) rfl (fun ls hl => ?_)
    refine lv_aload_n hx hb dL_law_1626 rfl (lv_at hl 3 rfl) ?_
    refine lv_aload_n hx hb dL_law_1627 rfl (lv_at hl 1 rfl) ?_
    refine lv_iload hx hb dL_law_1628 (lv_at hl 5 rfl) ?_
    refine lv_iconst (v := nI 1) hx hb dL_law_1630 (by decide) ?_
    refine kn_iadd hx hb dL_law_1631 ?_
    refine va_sld hx hb F.sc F.bl (fun z => Nat.not_le.mpr F.bl z) hS.st (vp_in_nI (show iL + 1 < L by omega) (by omega)) dL_law_1632 ?_
    rw [← hx1]
    have hI := hI9.m
    have T := hI9.T
    have hc : M.2.2.2.1 + 12 < 1000000 := by have := hI9.mp; omega
    refine ll_mr (va_runV (As := [.int x1]) (rest := []) ⟨hx, hb, hml, hown, hts⟩ (o_X6_orderText_1 l dC dI cB am M x1 hb9) (cwV 1 hts gL_law_X6_orderText rfl rfl rfl hdX6_orderText_1 ⟨Nat.le_of_ble_eq_true rfl, Nat.le_of_ble_eq_true rfl⟩) (hS.preMT F.K) rfl rfl hl.1 rfl (lv_room (Nat.le_of_ble_eq_true rfl)) dL_law_1633 ⟨le_rc (by omega), le_rs (by omega)⟩) F.K hS (fun M1 q9 H locs hko hv hS => ?_)
    have hLM : LM M M1 := by rw [hv]; exact LM_th hI _
    have hT : Tie2 S M1 := by rw [hv]; exact T.th _
    refine lv_astore (lv' := [(6, .ref q9), (5, .int (nI 1)), (0, .ref b), (1, .ref (ad 57)), (2, .ref (am 0)), (3, .ref o), (4, .int (nI iL))]) hx hb dL_law_1636 hl (by decide) rfl (fun ls hl => ?_)
    refine lv_goto (tgt := 2052) hx hb dL_law_1638 (by decide) ?_
    exact W.widen (k := 100 + 224 * (n + 1)) (n := 1200 + 10680 * (n + 1)) (by omega) (by omega) (kk9 S M1 _ _ _ (hI9.next hLQ hLM hT) hS (lv_sub hl [2, 3, 4, 5, 6] rfl))
  · skip
    refine lv_istore (lv' := [(5, .int (nI 0)), (0, .ref b), (1, .ref (ad 57)), (2, .ref (am 0)), (3, .ref o), (4, .int (nI iL))]) hx hb dL_law_1624 hl (by decide) rfl (fun ls hl => ?_)
    refine lv_aload_n hx hb dL_law_1626 rfl (lv_at hl 3 rfl) ?_
    refine lv_aload_n hx hb dL_law_1627 rfl (lv_at hl 1 rfl) ?_
    refine lv_iload hx hb dL_law_1628 (lv_at hl 5 rfl) ?_
    refine lv_iconst (v := nI 1) hx hb dL_law_1630 (by decide) ?_
    refine kn_iadd hx hb dL_law_1631 ?_
    refine va_sld hx hb F.sc F.bl (fun z => Nat.not_le.mpr F.bl z) hS.st (vp_in_nI (show iL + 1 < L by omega) (by omega)) dL_law_1632 ?_
    rw [← hx1]
    have hI := hI9.m
    have T := hI9.T
    have hc : M.2.2.2.1 + 12 < 1000000 := by have := hI9.mp; omega
    refine ll_mr (va_runV (As := [.int (nI j)]) (rest := []) ⟨hx, hb, hml, hown, hts⟩ (m_X6_orderText l dC dI cB am M j hj hI) (cwV 1 hts gL_law_X6_orderText rfl rfl rfl hdX6_orderText_1 ⟨Nat.le_of_ble_eq_true rfl, Nat.le_of_ble_eq_true rfl⟩) (hS.preMT F.K) rfl rfl hl.1 rfl (lv_room (Nat.le_of_ble_eq_true rfl)) dL_law_1633 ⟨le_rc (by omega), le_rs (by omega)⟩) F.K hS (fun M1 q9 H locs hko hv hS => ?_)
    have hLM : LM M M1 := by rw [hv]; exact LM_th hI 0
    have hT : Tie2 S1 M1 := by rw [hw, hv]; exact T.th 0
    refine lv_astore (lv' := [(6, .ref q9), (5, .int (nI 0)), (0, .ref b), (1, .ref (ad 57)), (2, .ref (am 0)), (3, .ref o), (4, .int (nI iL))]) hx hb dL_law_1636 hl (by decide) rfl (fun ls hl => ?_)
    refine lv_goto (tgt := 2052) hx hb dL_law_1638 (by decide) ?_
    exact W.widen (k := 100 + 224 * (n + 1)) (n := 1200 + 10680 * (n + 1)) (by omega) (by omega) (kk9 S1 M1 _ _ _ (hI9.next hLQ hLM hT) hS (lv_sub hl [2, 3, 4, 5, 6] rfl))
set_option maxHeartbeats 4000000 in
set_option maxRecDepth 100000 in
theorem lc_31 {p : Program} {l : Launch} {e : Env} {s : State} {m : MethodId} {below : List Frame} {meth : Method} {c : Code} {b L : Nat} {xs : Nat → Int32} {dC : Nat → ClassId} {dI : Nat → Nat → Nat} {cB : ClassId} {ad am : Nat → Nat} {o n iL : Nat} {Q : State → Prop} (F : LF p l s m c b L xs dC dI cB ad am o) (hni : iL = 5 * n) (hiL : iL + 5 ≤ L) : LCase p l e s m below meth c b dC dI ad am o n iL Q 1641 := by
  intro S M H locs hI9 hS kk9 ls hl
  have hx := F.x
  have hb := F.b
  have hml := F.ml
  have hown := F.own
  have hts := F.ts
  have hL := F.hL
  have hn9 : n ≤ 511 := by omega
  refine lv_aload_n hx hb dL_law_1641 rfl (lv_at hl 1 rfl) ?_
  refine lv_aload_n hx hb dL_law_1642 rfl (lv_at hl 0 rfl) ?_
  refine lv_iload hx hb dL_law_1643 (lv_at hl 4 rfl) ?_
  refine lv_iconst (v := nI 1) hx hb dL_law_1645 (by decide) ?_
  refine kn_iadd hx hb dL_law_1646 ?_
  refine va_sld hx hb F.sc F.bl (fun z => Nat.not_le.mpr F.bl z) hS.st (vp_in_nI (show iL + 1 < L by omega) (by omega)) dL_law_1647 ?_
  obtain ⟨x1, hx1⟩ : ∃ z, z = xs (nI (iL + 1)).toNatClampNeg := ⟨_, rfl⟩
  rw [← hx1]
  refine lv_aload_n hx hb dL_law_1648 rfl (lv_at hl 0 rfl) ?_
  refine lv_iload hx hb dL_law_1649 (lv_at hl 4 rfl) ?_
  refine lv_iconst (v := nI 2) hx hb dL_law_1651 (by decide) ?_
  refine kn_iadd hx hb dL_law_1652 ?_
  refine va_sld hx hb F.sc F.bl (fun z => Nat.not_le.mpr F.bl z) hS.st (vp_in_nI (show iL + 2 < L by omega) (by omega)) dL_law_1653 ?_
  obtain ⟨x2, hx2⟩ : ∃ z, z = xs (nI (iL + 2)).toNatClampNeg := ⟨_, rfl⟩
  rw [← hx2]
  refine lv_aload_n hx hb dL_law_1654 rfl (lv_at hl 0 rfl) ?_
  refine lv_iload hx hb dL_law_1655 (lv_at hl 4 rfl) ?_
  refine lv_iconst (v := nI 3) hx hb dL_law_1657 (by decide) ?_
  refine kn_iadd hx hb dL_law_1658 ?_
  refine va_sld hx hb F.sc F.bl (fun z => Nat.not_le.mpr F.bl z) hS.st (vp_in_nI (show iL + 3 < L by omega) (by omega)) dL_law_1659 ?_
  obtain ⟨x3, hx3⟩ : ∃ z, z = xs (nI (iL + 3)).toNatClampNeg := ⟨_, rfl⟩
  rw [← hx3]
  refine lv_aload_n hx hb dL_law_1660 rfl (lv_at hl 3 rfl) ?_
  refine ll_w (vx_runSW (As := [.ref (ad 57), .int x1, .int x2, .int x3, .ref o]) (rest := []) ⟨hx, hb, hml, hown, hts⟩ (m_L_compare l F.st dC dI cB ad o S x1 x2 x3 hI9.x hI9.x5 (by have := hI9.xp; omega)) (vx_cwSW 5 hts gL_law_L_compare rfl rfl rfl hdL_compare_5.2 ⟨Nat.le_of_ble_eq_true rfl, Nat.le_of_ble_eq_true rfl⟩) (hS.preW F.K) rfl rfl hl.1 rfl (lv_room (Nat.le_of_ble_eq_true rfl)) dL_law_1661 ⟨le_rc (by omega), le_rs (by omega)⟩) F.K hS (fun r0 S1 n1 H locs hq9 hN hS => ?_)
  have hLQ : LQ S S1 := hq9.1
  have hR : R_compare x1 x2 x3 S r0 S1 n1 := hq9.2
  clear hq9
  rcases hR with ⟨hb9, rfl, rfl⟩ | ⟨j, hj, rfl, hb9, rfl, rfl⟩ | ⟨j, v, hj, hv9, rfl, rfl, hb9, rfl, rfl⟩ | ⟨j, v, v2, r7, hj, hv9, hv2, rfl, rfl, rfl, rfl, rfl, hw1, hw2⟩
  · skip
    refine lv_istore (lv' := [(5, .int (nI 1)), (0, .ref b), (1, .ref (ad 57)), (2, .ref (am 0)), (3, .ref o), (4, .int (nI iL))]) hx hb dL_law_1664 hl (by decide) rfl (fun ls hl => ?_)
    refine lv_aload_n hx hb dL_law_1666 rfl (lv_at hl 3 rfl) ?_
    refine lv_aload_n hx hb dL_law_1667 rfl (lv_at hl 1 rfl) ?_
    refine lv_iload hx hb dL_law_1668 (lv_at hl 5 rfl) ?_
    refine lv_iconst (v := nI 1) hx hb dL_law_1670 (by decide) ?_
    refine kn_iadd hx hb dL_law_1671 ?_
    refine va_sld hx hb F.sc F.bl (fun z => Nat.not_le.mpr F.bl z) hS.st (vp_in_nI (show iL + 1 < L by omega) (by omega)) dL_law_1672 ?_
    rw [← hx1]
    refine lv_aload_n hx hb dL_law_1673 rfl (lv_at hl 1 rfl) ?_
    refine lv_iload hx hb dL_law_1674 (lv_at hl 5 rfl) ?_
    refine lv_iconst (v := nI 2) hx hb dL_law_1676 (by decide) ?_
    refine kn_iadd hx hb dL_law_1677 ?_
    refine va_sld hx hb F.sc F.bl (fun z => Nat.not_le.mpr F.bl z) hS.st (vp_in_nI (show iL + 2 < L by omega) (by omega)) dL_law_1678 ?_
    rw [← hx2]
    refine lv_aload_n hx hb dL_law_1679 rfl (lv_at hl 1 rfl) ?_
    refine lv_iload hx hb dL_law_1680 (lv_at hl 5 rfl) ?_
    refine lv_iconst (v := nI 3) hx hb dL_law_1682 (by decide) ?_
    refine kn_iadd hx hb dL_law_1683 ?_
    refine va_sld hx hb F.sc F.bl (fun z => Nat.not_le.mpr F.bl z) hS.st (vp_in_nI (show iL + 3 < L by omega) (by omega)) dL_law_1684 ?_
    rw [← hx3]
    have hI := hI9.m
    have T := hI9.T
    have hc : M.2.2.2.1 + 12 < 1000000 := by have := hI9.mp; omega
    refine ll_m (va_runV (As := [.int x1, .int x2, .int x3]) (rest := []) ⟨hx, hb, hml, hown, hts⟩ (o_X6_compare_1 l dC dI am M x1 x2 x3 hb9 hI) (cwV 3 hts gL_law_X6_compare rfl rfl rfl hdX6_compare_3 ⟨Nat.le_of_ble_eq_true rfl, Nat.le_of_ble_eq_true rfl⟩) (hS.preM F.K) rfl rfl hl.1 rfl (lv_room (Nat.le_of_ble_eq_true rfl)) dL_law_1685 ⟨le_rc (by omega), le_rs (by omega)⟩) F.K hS (fun r8 M1 H locs hko hv hS => ?_)
    have hLM : LM M M1 := by rw [hv]; exact LM_th hI _
    have hT : Tie2 S M1 := by rw [hv]; exact T.th _
    refine lv_istore (lv' := [(6, .int r8), (5, .int (nI 1)), (0, .ref b), (1, .ref (ad 57)), (2, .ref (am 0)), (3, .ref o), (4, .int (nI iL))]) hx hb dL_law_1688 hl (by decide) rfl (fun ls hl => ?_)
    refine lv_goto (tgt := 2052) hx hb dL_law_1690 (by decide) ?_
    exact W.widen (k := 100 + 224 * (n + 1)) (n := 1200 + 10680 * (n + 1)) (by omega) (by omega) (kk9 S M1 _ _ _ (hI9.next hLQ hLM hT) hS (lv_sub hl [2, 3, 4, 5, 6] rfl))
  · skip
    refine lv_istore (lv' := [(5, .int (nI 2)), (0, .ref b), (1, .ref (ad 57)), (2, .ref (am 0)), (3, .ref o), (4, .int (nI iL))]) hx hb dL_law_1664 hl (by decide) rfl (fun ls hl => ?_)
    refine lv_aload_n hx hb dL_law_1666 rfl (lv_at hl 3 rfl) ?_
    refine lv_aload_n hx hb dL_law_1667 rfl (lv_at hl 1 rfl) ?_
    refine lv_iload hx hb dL_law_1668 (lv_at hl 5 rfl) ?_
    refine lv_iconst (v := nI 1) hx hb dL_law_1670 (by decide) ?_
    refine kn_iadd hx hb dL_law_1671 ?_
    refine va_sld hx hb F.sc F.bl (fun z => Nat.not_le.mpr F.bl z) hS.st (vp_in_nI (show iL + 1 < L by omega) (by omega)) dL_law_1672 ?_
    rw [← hx1]
    refine lv_aload_n hx hb dL_law_1673 rfl (lv_at hl 1 rfl) ?_
    refine lv_iload hx hb dL_law_1674 (lv_at hl 5 rfl) ?_
    refine lv_iconst (v := nI 2) hx hb dL_law_1676 (by decide) ?_
    refine kn_iadd hx hb dL_law_1677 ?_
    refine va_sld hx hb F.sc F.bl (fun z => Nat.not_le.mpr F.bl z) hS.st (vp_in_nI (show iL + 2 < L by omega) (by omega)) dL_law_1678 ?_
    rw [← hx2]
    refine lv_aload_n hx hb dL_law_1679 rfl (lv_at hl 1 rfl) ?_
    refine lv_iload hx hb dL_law_1680 (lv_at hl 5 rfl) ?_
    refine lv_iconst (v := nI 3) hx hb dL_law_1682 (by decide) ?_
    refine kn_iadd hx hb dL_law_1683 ?_
    refine va_sld hx hb F.sc F.bl (fun z => Nat.not_le.mpr F.bl z) hS.st (vp_in_nI (show iL + 3 < L by omega) (by omega)) dL_law_1684 ?_
    rw [← hx3]
    have hI := hI9.m
    have T := hI9.T
    have hc : M.2.2.2.1 + 12 < 1000000 := by have := hI9.mp; omega
    refine ll_m (va_runV (As := [.int (nI j), .int x2, .int x3]) (rest := []) ⟨hx, hb, hml, hown, hts⟩ (o_X6_compare_2 l dC dI am M j x2 x3 hj hb9 hI) (cwV 3 hts gL_law_X6_compare rfl rfl rfl hdX6_compare_3 ⟨Nat.le_of_ble_eq_true rfl, Nat.le_of_ble_eq_true rfl⟩) (hS.preM F.K) rfl rfl hl.1 rfl (lv_room (Nat.le_of_ble_eq_true rfl)) dL_law_1685 ⟨le_rc (by omega), le_rs (by omega)⟩) F.K hS (fun r8 M1 H locs hko hv hS => ?_)
    have hLM : LM M M1 := by rw [hv]; exact LM_th hI _
    have hT : Tie2 S M1 := by rw [hv]; exact T.th _
    refine lv_istore (lv' := [(6, .int r8), (5, .int (nI 2)), (0, .ref b), (1, .ref (ad 57)), (2, .ref (am 0)), (3, .ref o), (4, .int (nI iL))]) hx hb dL_law_1688 hl (by decide) rfl (fun ls hl => ?_)
    refine lv_goto (tgt := 2052) hx hb dL_law_1690 (by decide) ?_
    exact W.widen (k := 100 + 224 * (n + 1)) (n := 1200 + 10680 * (n + 1)) (by omega) (by omega) (kk9 S M1 _ _ _ (hI9.next hLQ hLM hT) hS (lv_sub hl [2, 3, 4, 5, 6] rfl))
  · skip
    refine lv_istore (lv' := [(5, .int (nI 2)), (0, .ref b), (1, .ref (ad 57)), (2, .ref (am 0)), (3, .ref o), (4, .int (nI iL))]) hx hb dL_law_1664 hl (by decide) rfl (fun ls hl => ?_)
    refine lv_aload_n hx hb dL_law_1666 rfl (lv_at hl 3 rfl) ?_
    refine lv_aload_n hx hb dL_law_1667 rfl (lv_at hl 1 rfl) ?_
    refine lv_iload hx hb dL_law_1668 (lv_at hl 5 rfl) ?_
    refine lv_iconst (v := nI 1) hx hb dL_law_1670 (by decide) ?_
    refine kn_iadd hx hb dL_law_1671 ?_
    refine va_sld hx hb F.sc F.bl (fun z => Nat.not_le.mpr F.bl z) hS.st (vp_in_nI (show iL + 1 < L by omega) (by omega)) dL_law_1672 ?_
    rw [← hx1]
    refine lv_aload_n hx hb dL_law_1673 rfl (lv_at hl 1 rfl) ?_
    refine lv_iload hx hb dL_law_1674 (lv_at hl 5 rfl) ?_
    refine lv_iconst (v := nI 2) hx hb dL_law_1676 (by decide) ?_
    refine kn_iadd hx hb dL_law_1677 ?_
    refine va_sld hx hb F.sc F.bl (fun z => Nat.not_le.mpr F.bl z) hS.st (vp_in_nI (show iL + 2 < L by omega) (by omega)) dL_law_1678 ?_
    rw [← hx2]
    refine lv_aload_n hx hb dL_law_1679 rfl (lv_at hl 1 rfl) ?_
    refine lv_iload hx hb dL_law_1680 (lv_at hl 5 rfl) ?_
    refine lv_iconst (v := nI 3) hx hb dL_law_1682 (by decide) ?_
    refine kn_iadd hx hb dL_law_1683 ?_
    refine va_sld hx hb F.sc F.bl (fun z => Nat.not_le.mpr F.bl z) hS.st (vp_in_nI (show iL + 3 < L by omega) (by omega)) dL_law_1684 ?_
    rw [← hx3]
    have hI := hI9.m
    have T := hI9.T
    have hc : M.2.2.2.1 + 12 < 1000000 := by have := hI9.mp; omega
    refine ll_m (va_runV (As := [.int (nI j), .int (nI v), .int x3]) (rest := []) ⟨hx, hb, hml, hown, hts⟩ (o_X6_compare_3 l dC dI am M j v x3 hj hv9 hb9 hI) (cwV 3 hts gL_law_X6_compare rfl rfl rfl hdX6_compare_3 ⟨Nat.le_of_ble_eq_true rfl, Nat.le_of_ble_eq_true rfl⟩) (hS.preM F.K) rfl rfl hl.1 rfl (lv_room (Nat.le_of_ble_eq_true rfl)) dL_law_1685 ⟨le_rc (by omega), le_rs (by omega)⟩) F.K hS (fun r8 M1 H locs hko hv hS => ?_)
    have hLM : LM M M1 := by rw [hv]; exact LM_th hI _
    have hT : Tie2 S M1 := by rw [hv]; exact T.th _
    refine lv_istore (lv' := [(6, .int r8), (5, .int (nI 2)), (0, .ref b), (1, .ref (ad 57)), (2, .ref (am 0)), (3, .ref o), (4, .int (nI iL))]) hx hb dL_law_1688 hl (by decide) rfl (fun ls hl => ?_)
    refine lv_goto (tgt := 2052) hx hb dL_law_1690 (by decide) ?_
    exact W.widen (k := 100 + 224 * (n + 1)) (n := 1200 + 10680 * (n + 1)) (by omega) (by omega) (kk9 S M1 _ _ _ (hI9.next hLQ hLM hT) hS (lv_sub hl [2, 3, 4, 5, 6] rfl))
  · skip
    have hw := And.intro hw1 hw2
    refine lv_istore (lv' := [(5, .int (nI 0)), (0, .ref b), (1, .ref (ad 57)), (2, .ref (am 0)), (3, .ref o), (4, .int (nI iL))]) hx hb dL_law_1664 hl (by decide) rfl (fun ls hl => ?_)
    refine lv_aload_n hx hb dL_law_1666 rfl (lv_at hl 3 rfl) ?_
    refine lv_aload_n hx hb dL_law_1667 rfl (lv_at hl 1 rfl) ?_
    refine lv_iload hx hb dL_law_1668 (lv_at hl 5 rfl) ?_
    refine lv_iconst (v := nI 1) hx hb dL_law_1670 (by decide) ?_
    refine kn_iadd hx hb dL_law_1671 ?_
    refine va_sld hx hb F.sc F.bl (fun z => Nat.not_le.mpr F.bl z) hS.st (vp_in_nI (show iL + 1 < L by omega) (by omega)) dL_law_1672 ?_
    rw [← hx1]
    refine lv_aload_n hx hb dL_law_1673 rfl (lv_at hl 1 rfl) ?_
    refine lv_iload hx hb dL_law_1674 (lv_at hl 5 rfl) ?_
    refine lv_iconst (v := nI 2) hx hb dL_law_1676 (by decide) ?_
    refine kn_iadd hx hb dL_law_1677 ?_
    refine va_sld hx hb F.sc F.bl (fun z => Nat.not_le.mpr F.bl z) hS.st (vp_in_nI (show iL + 2 < L by omega) (by omega)) dL_law_1678 ?_
    rw [← hx2]
    refine lv_aload_n hx hb dL_law_1679 rfl (lv_at hl 1 rfl) ?_
    refine lv_iload hx hb dL_law_1680 (lv_at hl 5 rfl) ?_
    refine lv_iconst (v := nI 3) hx hb dL_law_1682 (by decide) ?_
    refine kn_iadd hx hb dL_law_1683 ?_
    refine va_sld hx hb F.sc F.bl (fun z => Nat.not_le.mpr F.bl z) hS.st (vp_in_nI (show iL + 3 < L by omega) (by omega)) dL_law_1684 ?_
    rw [← hx3]
    have hI := hI9.m
    have T := hI9.T
    have hc : M.2.2.2.1 + 12 < 1000000 := by have := hI9.mp; omega
    refine ll_m (va_runV (As := [.int (nI j), .int (nI v), .int (nI v2)]) (rest := []) ⟨hx, hb, hml, hown, hts⟩ (m_X6_compare l dC dI am M j v v2 hj hv9 hv2 hI) (cwV 3 hts gL_law_X6_compare rfl rfl rfl hdX6_compare_3 ⟨Nat.le_of_ble_eq_true rfl, Nat.le_of_ble_eq_true rfl⟩) (hS.preM F.K) rfl rfl hl.1 rfl (lv_room (Nat.le_of_ble_eq_true rfl)) dL_law_1685 ⟨le_rc (by omega), le_rs (by omega)⟩) F.K hS (fun r8 M1 H locs hko hv hS => ?_)
    have hLM : LM M M1 := by rw [hv.2]; exact LM_th hI 0
    obtain ⟨hT, he9, ht9⟩ := (A_compare T.1 hI9.x hj hv9 hv2 hw hv).two (E_same T.2 hw hv)
    refine lv_istore (lv' := [(6, .int r8), (5, .int (nI 0)), (0, .ref b), (1, .ref (ad 57)), (2, .ref (am 0)), (3, .ref o), (4, .int (nI iL))]) hx hb dL_law_1688 hl (by decide) rfl (fun ls hl => ?_)
    refine lv_goto (tgt := 2052) hx hb dL_law_1690 (by decide) ?_
    exact W.widen (k := 100 + 224 * (n + 1)) (n := 1200 + 10680 * (n + 1)) (by omega) (by omega) (kk9 S1 M1 _ _ _ (hI9.next hLQ hLM hT) hS (lv_sub hl [2, 3, 4, 5, 6] rfl))
set_option maxHeartbeats 4000000 in
set_option maxRecDepth 100000 in
theorem lc_32 {p : Program} {l : Launch} {e : Env} {s : State} {m : MethodId} {below : List Frame} {meth : Method} {c : Code} {b L : Nat} {xs : Nat → Int32} {dC : Nat → ClassId} {dI : Nat → Nat → Nat} {cB : ClassId} {ad am : Nat → Nat} {o n iL : Nat} {Q : State → Prop} (F : LF p l s m c b L xs dC dI cB ad am o) (hni : iL = 5 * n) (hiL : iL + 5 ≤ L) : LCase p l e s m below meth c b dC dI ad am o n iL Q 1693 := by
  intro S M H locs hI9 hS kk9 ls hl
  have hx := F.x
  have hb := F.b
  have hml := F.ml
  have hown := F.own
  have hts := F.ts
  have hL := F.hL
  have hn9 : n ≤ 511 := by omega
  refine lv_aload_n hx hb dL_law_1693 rfl (lv_at hl 1 rfl) ?_
  refine lv_aload_n hx hb dL_law_1694 rfl (lv_at hl 0 rfl) ?_
  refine lv_iload hx hb dL_law_1695 (lv_at hl 4 rfl) ?_
  refine lv_iconst (v := nI 1) hx hb dL_law_1697 (by decide) ?_
  refine kn_iadd hx hb dL_law_1698 ?_
  refine va_sld hx hb F.sc F.bl (fun z => Nat.not_le.mpr F.bl z) hS.st (vp_in_nI (show iL + 1 < L by omega) (by omega)) dL_law_1699 ?_
  obtain ⟨x1, hx1⟩ : ∃ z, z = xs (nI (iL + 1)).toNatClampNeg := ⟨_, rfl⟩
  rw [← hx1]
  refine lv_aload_n hx hb dL_law_1700 rfl (lv_at hl 0 rfl) ?_
  refine lv_iload hx hb dL_law_1701 (lv_at hl 4 rfl) ?_
  refine lv_iconst (v := nI 2) hx hb dL_law_1703 (by decide) ?_
  refine kn_iadd hx hb dL_law_1704 ?_
  refine va_sld hx hb F.sc F.bl (fun z => Nat.not_le.mpr F.bl z) hS.st (vp_in_nI (show iL + 2 < L by omega) (by omega)) dL_law_1705 ?_
  obtain ⟨x2, hx2⟩ : ∃ z, z = xs (nI (iL + 2)).toNatClampNeg := ⟨_, rfl⟩
  rw [← hx2]
  refine lv_aload_n hx hb dL_law_1706 rfl (lv_at hl 0 rfl) ?_
  refine lv_iload hx hb dL_law_1707 (lv_at hl 4 rfl) ?_
  refine lv_iconst (v := nI 3) hx hb dL_law_1709 (by decide) ?_
  refine kn_iadd hx hb dL_law_1710 ?_
  refine va_sld hx hb F.sc F.bl (fun z => Nat.not_le.mpr F.bl z) hS.st (vp_in_nI (show iL + 3 < L by omega) (by omega)) dL_law_1711 ?_
  obtain ⟨x3, hx3⟩ : ∃ z, z = xs (nI (iL + 3)).toNatClampNeg := ⟨_, rfl⟩
  rw [← hx3]
  refine lv_aload_n hx hb dL_law_1712 rfl (lv_at hl 0 rfl) ?_
  refine lv_iload hx hb dL_law_1713 (lv_at hl 4 rfl) ?_
  refine lv_iconst (v := nI 4) hx hb dL_law_1715 (by decide) ?_
  refine kn_iadd hx hb dL_law_1716 ?_
  refine va_sld hx hb F.sc F.bl (fun z => Nat.not_le.mpr F.bl z) hS.st (vp_in_nI (show iL + 4 < L by omega) (by omega)) dL_law_1717 ?_
  obtain ⟨x4, hx4⟩ : ∃ z, z = xs (nI (iL + 4)).toNatClampNeg := ⟨_, rfl⟩
  rw [← hx4]
  refine lv_aload_n hx hb dL_law_1718 rfl (lv_at hl 3 rfl) ?_
  refine ll_w (vx_runSW (As := [.ref (ad 57), .int x1, .int x2, .int x3, .int x4, .ref o]) (rest := []) ⟨hx, hb, hml, hown, hts⟩ (m_L_both l F.st dC dI cB ad o S x1 x2 x3 x4 hI9.x hI9.x5 (by have := hI9.xp; omega)) (vx_cwSW 6 hts gL_law_L_both rfl rfl rfl hdL_both_6.2 ⟨Nat.le_of_ble_eq_true rfl, Nat.le_of_ble_eq_true rfl⟩) (hS.preW F.K) rfl rfl hl.1 rfl (lv_room (Nat.le_of_ble_eq_true rfl)) dL_law_1719 ⟨le_rc (by omega), le_rs (by omega)⟩) F.K hS (fun r0 S1 n1 H locs hq9 hN hS => ?_)
  have hLQ : LQ S S1 := hq9.1
  have hR : R_both x1 x2 x3 x4 S r0 S1 n1 := hq9.2
  clear hq9
  rcases hR with ⟨hb9, rfl, rfl⟩ | ⟨j, hj, rfl, hb9, rfl, rfl⟩ | ⟨j, j2, hj, hj2, rfl, rfl, hb9, rfl, rfl⟩ | ⟨j, j2, v, hj, hj2, hv9, rfl, rfl, rfl, hb9, rfl, rfl⟩ | ⟨j, j2, v, v2, r7, hj, hj2, hv9, hv2, rfl, rfl, rfl, rfl, rfl, rfl, hw1, hw2⟩
  · skip
    refine lv_istore (lv' := [(5, .int (nI 1)), (0, .ref b), (1, .ref (ad 57)), (2, .ref (am 0)), (3, .ref o), (4, .int (nI iL))]) hx hb dL_law_1722 hl (by decide) rfl (fun ls hl => ?_)
    refine lv_aload_n hx hb dL_law_1724 rfl (lv_at hl 3 rfl) ?_
    refine lv_aload_n hx hb dL_law_1725 rfl (lv_at hl 1 rfl) ?_
    refine lv_iload hx hb dL_law_1726 (lv_at hl 5 rfl) ?_
    refine lv_iconst (v := nI 1) hx hb dL_law_1728 (by decide) ?_
    refine kn_iadd hx hb dL_law_1729 ?_
    refine va_sld hx hb F.sc F.bl (fun z => Nat.not_le.mpr F.bl z) hS.st (vp_in_nI (show iL + 1 < L by omega) (by omega)) dL_law_1730 ?_
    rw [← hx1]
    refine lv_aload_n hx hb dL_law_1731 rfl (lv_at hl 1 rfl) ?_
    refine lv_iload hx hb dL_law_1732 (lv_at hl 5 rfl) ?_
    refine lv_iconst (v := nI 2) hx hb dL_law_1734 (by decide) ?_
    refine kn_iadd hx hb dL_law_1735 ?_
    refine va_sld hx hb F.sc F.bl (fun z => Nat.not_le.mpr F.bl z) hS.st (vp_in_nI (show iL + 2 < L by omega) (by omega)) dL_law_1736 ?_
    rw [← hx2]
    refine lv_aload_n hx hb dL_law_1737 rfl (lv_at hl 1 rfl) ?_
    refine lv_iload hx hb dL_law_1738 (lv_at hl 5 rfl) ?_
    refine lv_iconst (v := nI 3) hx hb dL_law_1740 (by decide) ?_
    refine kn_iadd hx hb dL_law_1741 ?_
    refine va_sld hx hb F.sc F.bl (fun z => Nat.not_le.mpr F.bl z) hS.st (vp_in_nI (show iL + 3 < L by omega) (by omega)) dL_law_1742 ?_
    rw [← hx3]
    refine lv_aload_n hx hb dL_law_1743 rfl (lv_at hl 1 rfl) ?_
    refine lv_iload hx hb dL_law_1744 (lv_at hl 5 rfl) ?_
    refine lv_iconst (v := nI 4) hx hb dL_law_1746 (by decide) ?_
    refine kn_iadd hx hb dL_law_1747 ?_
    refine va_sld hx hb F.sc F.bl (fun z => Nat.not_le.mpr F.bl z) hS.st (vp_in_nI (show iL + 4 < L by omega) (by omega)) dL_law_1748 ?_
    rw [← hx4]
    have hI := hI9.m
    have T := hI9.T
    have hc : M.2.2.2.1 + 12 < 1000000 := by have := hI9.mp; omega
    refine ll_m (va_runV (As := [.int x1, .int x2, .int x3, .int x4]) (rest := []) ⟨hx, hb, hml, hown, hts⟩ (o_X6_both_1 l dC dI am M x1 x2 x3 x4 hb9 hI) (cwV 4 hts gL_law_X6_both rfl rfl rfl hdX6_both_4 ⟨Nat.le_of_ble_eq_true rfl, Nat.le_of_ble_eq_true rfl⟩) (hS.preM F.K) rfl rfl hl.1 rfl (lv_room (Nat.le_of_ble_eq_true rfl)) dL_law_1749 ⟨le_rc (by omega), le_rs (by omega)⟩) F.K hS (fun r8 M1 H locs hko hv hS => ?_)
    have hLM : LM M M1 := by rw [hv]; exact LM_th hI _
    have hT : Tie2 S M1 := by rw [hv]; exact T.th _
    refine lv_istore (lv' := [(6, .int r8), (5, .int (nI 1)), (0, .ref b), (1, .ref (ad 57)), (2, .ref (am 0)), (3, .ref o), (4, .int (nI iL))]) hx hb dL_law_1752 hl (by decide) rfl (fun ls hl => ?_)
    refine lv_goto (tgt := 2052) hx hb dL_law_1754 (by decide) ?_
    exact W.widen (k := 100 + 224 * (n + 1)) (n := 1200 + 10680 * (n + 1)) (by omega) (by omega) (kk9 S M1 _ _ _ (hI9.next hLQ hLM hT) hS (lv_sub hl [2, 3, 4, 5, 6] rfl))
  · skip
    refine lv_istore (lv' := [(5, .int (nI 1)), (0, .ref b), (1, .ref (ad 57)), (2, .ref (am 0)), (3, .ref o), (4, .int (nI iL))]) hx hb dL_law_1722 hl (by decide) rfl (fun ls hl => ?_)
    refine lv_aload_n hx hb dL_law_1724 rfl (lv_at hl 3 rfl) ?_
    refine lv_aload_n hx hb dL_law_1725 rfl (lv_at hl 1 rfl) ?_
    refine lv_iload hx hb dL_law_1726 (lv_at hl 5 rfl) ?_
    refine lv_iconst (v := nI 1) hx hb dL_law_1728 (by decide) ?_
    refine kn_iadd hx hb dL_law_1729 ?_
    refine va_sld hx hb F.sc F.bl (fun z => Nat.not_le.mpr F.bl z) hS.st (vp_in_nI (show iL + 1 < L by omega) (by omega)) dL_law_1730 ?_
    rw [← hx1]
    refine lv_aload_n hx hb dL_law_1731 rfl (lv_at hl 1 rfl) ?_
    refine lv_iload hx hb dL_law_1732 (lv_at hl 5 rfl) ?_
    refine lv_iconst (v := nI 2) hx hb dL_law_1734 (by decide) ?_
    refine kn_iadd hx hb dL_law_1735 ?_
    refine va_sld hx hb F.sc F.bl (fun z => Nat.not_le.mpr F.bl z) hS.st (vp_in_nI (show iL + 2 < L by omega) (by omega)) dL_law_1736 ?_
    rw [← hx2]
    refine lv_aload_n hx hb dL_law_1737 rfl (lv_at hl 1 rfl) ?_
    refine lv_iload hx hb dL_law_1738 (lv_at hl 5 rfl) ?_
    refine lv_iconst (v := nI 3) hx hb dL_law_1740 (by decide) ?_
    refine kn_iadd hx hb dL_law_1741 ?_
    refine va_sld hx hb F.sc F.bl (fun z => Nat.not_le.mpr F.bl z) hS.st (vp_in_nI (show iL + 3 < L by omega) (by omega)) dL_law_1742 ?_
    rw [← hx3]
    refine lv_aload_n hx hb dL_law_1743 rfl (lv_at hl 1 rfl) ?_
    refine lv_iload hx hb dL_law_1744 (lv_at hl 5 rfl) ?_
    refine lv_iconst (v := nI 4) hx hb dL_law_1746 (by decide) ?_
    refine kn_iadd hx hb dL_law_1747 ?_
    refine va_sld hx hb F.sc F.bl (fun z => Nat.not_le.mpr F.bl z) hS.st (vp_in_nI (show iL + 4 < L by omega) (by omega)) dL_law_1748 ?_
    rw [← hx4]
    have hI := hI9.m
    have T := hI9.T
    have hc : M.2.2.2.1 + 12 < 1000000 := by have := hI9.mp; omega
    refine ll_m (va_runV (As := [.int (nI j), .int x2, .int x3, .int x4]) (rest := []) ⟨hx, hb, hml, hown, hts⟩ (o_X6_both_2 l dC dI am M j x2 x3 x4 hj hb9 hI) (cwV 4 hts gL_law_X6_both rfl rfl rfl hdX6_both_4 ⟨Nat.le_of_ble_eq_true rfl, Nat.le_of_ble_eq_true rfl⟩) (hS.preM F.K) rfl rfl hl.1 rfl (lv_room (Nat.le_of_ble_eq_true rfl)) dL_law_1749 ⟨le_rc (by omega), le_rs (by omega)⟩) F.K hS (fun r8 M1 H locs hko hv hS => ?_)
    have hLM : LM M M1 := by rw [hv]; exact LM_th hI _
    have hT : Tie2 S M1 := by rw [hv]; exact T.th _
    refine lv_istore (lv' := [(6, .int r8), (5, .int (nI 1)), (0, .ref b), (1, .ref (ad 57)), (2, .ref (am 0)), (3, .ref o), (4, .int (nI iL))]) hx hb dL_law_1752 hl (by decide) rfl (fun ls hl => ?_)
    refine lv_goto (tgt := 2052) hx hb dL_law_1754 (by decide) ?_
    exact W.widen (k := 100 + 224 * (n + 1)) (n := 1200 + 10680 * (n + 1)) (by omega) (by omega) (kk9 S M1 _ _ _ (hI9.next hLQ hLM hT) hS (lv_sub hl [2, 3, 4, 5, 6] rfl))
  · skip
    refine lv_istore (lv' := [(5, .int (nI 2)), (0, .ref b), (1, .ref (ad 57)), (2, .ref (am 0)), (3, .ref o), (4, .int (nI iL))]) hx hb dL_law_1722 hl (by decide) rfl (fun ls hl => ?_)
    refine lv_aload_n hx hb dL_law_1724 rfl (lv_at hl 3 rfl) ?_
    refine lv_aload_n hx hb dL_law_1725 rfl (lv_at hl 1 rfl) ?_
    refine lv_iload hx hb dL_law_1726 (lv_at hl 5 rfl) ?_
    refine lv_iconst (v := nI 1) hx hb dL_law_1728 (by decide) ?_
    refine kn_iadd hx hb dL_law_1729 ?_
    refine va_sld hx hb F.sc F.bl (fun z => Nat.not_le.mpr F.bl z) hS.st (vp_in_nI (show iL + 1 < L by omega) (by omega)) dL_law_1730 ?_
    rw [← hx1]
    refine lv_aload_n hx hb dL_law_1731 rfl (lv_at hl 1 rfl) ?_
    refine lv_iload hx hb dL_law_1732 (lv_at hl 5 rfl) ?_
    refine lv_iconst (v := nI 2) hx hb dL_law_1734 (by decide) ?_
    refine kn_iadd hx hb dL_law_1735 ?_
    refine va_sld hx hb F.sc F.bl (fun z => Nat.not_le.mpr F.bl z) hS.st (vp_in_nI (show iL + 2 < L by omega) (by omega)) dL_law_1736 ?_
    rw [← hx2]
    refine lv_aload_n hx hb dL_law_1737 rfl (lv_at hl 1 rfl) ?_
    refine lv_iload hx hb dL_law_1738 (lv_at hl 5 rfl) ?_
    refine lv_iconst (v := nI 3) hx hb dL_law_1740 (by decide) ?_
    refine kn_iadd hx hb dL_law_1741 ?_
    refine va_sld hx hb F.sc F.bl (fun z => Nat.not_le.mpr F.bl z) hS.st (vp_in_nI (show iL + 3 < L by omega) (by omega)) dL_law_1742 ?_
    rw [← hx3]
    refine lv_aload_n hx hb dL_law_1743 rfl (lv_at hl 1 rfl) ?_
    refine lv_iload hx hb dL_law_1744 (lv_at hl 5 rfl) ?_
    refine lv_iconst (v := nI 4) hx hb dL_law_1746 (by decide) ?_
    refine kn_iadd hx hb dL_law_1747 ?_
    refine va_sld hx hb F.sc F.bl (fun z => Nat.not_le.mpr F.bl z) hS.st (vp_in_nI (show iL + 4 < L by omega) (by omega)) dL_law_1748 ?_
    rw [← hx4]
    have hI := hI9.m
    have T := hI9.T
    have hc : M.2.2.2.1 + 12 < 1000000 := by have := hI9.mp; omega
    refine ll_m (va_runV (As := [.int (nI j), .int (nI j2), .int x3, .int x4]) (rest := []) ⟨hx, hb, hml, hown, hts⟩ (o_X6_both_3 l dC dI am M j j2 x3 x4 hj hj2 hb9 hI) (cwV 4 hts gL_law_X6_both rfl rfl rfl hdX6_both_4 ⟨Nat.le_of_ble_eq_true rfl, Nat.le_of_ble_eq_true rfl⟩) (hS.preM F.K) rfl rfl hl.1 rfl (lv_room (Nat.le_of_ble_eq_true rfl)) dL_law_1749 ⟨le_rc (by omega), le_rs (by omega)⟩) F.K hS (fun r8 M1 H locs hko hv hS => ?_)
    have hLM : LM M M1 := by rw [hv]; exact LM_th hI _
    have hT : Tie2 S M1 := by rw [hv]; exact T.th _
    refine lv_istore (lv' := [(6, .int r8), (5, .int (nI 2)), (0, .ref b), (1, .ref (ad 57)), (2, .ref (am 0)), (3, .ref o), (4, .int (nI iL))]) hx hb dL_law_1752 hl (by decide) rfl (fun ls hl => ?_)
    refine lv_goto (tgt := 2052) hx hb dL_law_1754 (by decide) ?_
    exact W.widen (k := 100 + 224 * (n + 1)) (n := 1200 + 10680 * (n + 1)) (by omega) (by omega) (kk9 S M1 _ _ _ (hI9.next hLQ hLM hT) hS (lv_sub hl [2, 3, 4, 5, 6] rfl))
  · skip
    refine lv_istore (lv' := [(5, .int (nI 2)), (0, .ref b), (1, .ref (ad 57)), (2, .ref (am 0)), (3, .ref o), (4, .int (nI iL))]) hx hb dL_law_1722 hl (by decide) rfl (fun ls hl => ?_)
    refine lv_aload_n hx hb dL_law_1724 rfl (lv_at hl 3 rfl) ?_
    refine lv_aload_n hx hb dL_law_1725 rfl (lv_at hl 1 rfl) ?_
    refine lv_iload hx hb dL_law_1726 (lv_at hl 5 rfl) ?_
    refine lv_iconst (v := nI 1) hx hb dL_law_1728 (by decide) ?_
    refine kn_iadd hx hb dL_law_1729 ?_
    refine va_sld hx hb F.sc F.bl (fun z => Nat.not_le.mpr F.bl z) hS.st (vp_in_nI (show iL + 1 < L by omega) (by omega)) dL_law_1730 ?_
    rw [← hx1]
    refine lv_aload_n hx hb dL_law_1731 rfl (lv_at hl 1 rfl) ?_
    refine lv_iload hx hb dL_law_1732 (lv_at hl 5 rfl) ?_
    refine lv_iconst (v := nI 2) hx hb dL_law_1734 (by decide) ?_
    refine kn_iadd hx hb dL_law_1735 ?_
    refine va_sld hx hb F.sc F.bl (fun z => Nat.not_le.mpr F.bl z) hS.st (vp_in_nI (show iL + 2 < L by omega) (by omega)) dL_law_1736 ?_
    rw [← hx2]
    refine lv_aload_n hx hb dL_law_1737 rfl (lv_at hl 1 rfl) ?_
    refine lv_iload hx hb dL_law_1738 (lv_at hl 5 rfl) ?_
    refine lv_iconst (v := nI 3) hx hb dL_law_1740 (by decide) ?_
    refine kn_iadd hx hb dL_law_1741 ?_
    refine va_sld hx hb F.sc F.bl (fun z => Nat.not_le.mpr F.bl z) hS.st (vp_in_nI (show iL + 3 < L by omega) (by omega)) dL_law_1742 ?_
    rw [← hx3]
    refine lv_aload_n hx hb dL_law_1743 rfl (lv_at hl 1 rfl) ?_
    refine lv_iload hx hb dL_law_1744 (lv_at hl 5 rfl) ?_
    refine lv_iconst (v := nI 4) hx hb dL_law_1746 (by decide) ?_
    refine kn_iadd hx hb dL_law_1747 ?_
    refine va_sld hx hb F.sc F.bl (fun z => Nat.not_le.mpr F.bl z) hS.st (vp_in_nI (show iL + 4 < L by omega) (by omega)) dL_law_1748 ?_
    rw [← hx4]
    have hI := hI9.m
    have T := hI9.T
    have hc : M.2.2.2.1 + 12 < 1000000 := by have := hI9.mp; omega
    refine ll_m (va_runV (As := [.int (nI j), .int (nI j2), .int (nI v), .int x4]) (rest := []) ⟨hx, hb, hml, hown, hts⟩ (o_X6_both_4 l dC dI am M j j2 v x4 hj hj2 hv9 hb9 hI) (cwV 4 hts gL_law_X6_both rfl rfl rfl hdX6_both_4 ⟨Nat.le_of_ble_eq_true rfl, Nat.le_of_ble_eq_true rfl⟩) (hS.preM F.K) rfl rfl hl.1 rfl (lv_room (Nat.le_of_ble_eq_true rfl)) dL_law_1749 ⟨le_rc (by omega), le_rs (by omega)⟩) F.K hS (fun r8 M1 H locs hko hv hS => ?_)
    have hLM : LM M M1 := by rw [hv]; exact LM_th hI _
    have hT : Tie2 S M1 := by rw [hv]; exact T.th _
    refine lv_istore (lv' := [(6, .int r8), (5, .int (nI 2)), (0, .ref b), (1, .ref (ad 57)), (2, .ref (am 0)), (3, .ref o), (4, .int (nI iL))]) hx hb dL_law_1752 hl (by decide) rfl (fun ls hl => ?_)
    refine lv_goto (tgt := 2052) hx hb dL_law_1754 (by decide) ?_
    exact W.widen (k := 100 + 224 * (n + 1)) (n := 1200 + 10680 * (n + 1)) (by omega) (by omega) (kk9 S M1 _ _ _ (hI9.next hLQ hLM hT) hS (lv_sub hl [2, 3, 4, 5, 6] rfl))
  · skip
    have hw := And.intro hw1 hw2
    refine lv_istore (lv' := [(5, .int (nI 0)), (0, .ref b), (1, .ref (ad 57)), (2, .ref (am 0)), (3, .ref o), (4, .int (nI iL))]) hx hb dL_law_1722 hl (by decide) rfl (fun ls hl => ?_)
    refine lv_aload_n hx hb dL_law_1724 rfl (lv_at hl 3 rfl) ?_
    refine lv_aload_n hx hb dL_law_1725 rfl (lv_at hl 1 rfl) ?_
    refine lv_iload hx hb dL_law_1726 (lv_at hl 5 rfl) ?_
    refine lv_iconst (v := nI 1) hx hb dL_law_1728 (by decide) ?_
    refine kn_iadd hx hb dL_law_1729 ?_
    refine va_sld hx hb F.sc F.bl (fun z => Nat.not_le.mpr F.bl z) hS.st (vp_in_nI (show iL + 1 < L by omega) (by omega)) dL_law_1730 ?_
    rw [← hx1]
    refine lv_aload_n hx hb dL_law_1731 rfl (lv_at hl 1 rfl) ?_
    refine lv_iload hx hb dL_law_1732 (lv_at hl 5 rfl) ?_
    refine lv_iconst (v := nI 2) hx hb dL_law_1734 (by decide) ?_
    refine kn_iadd hx hb dL_law_1735 ?_
    refine va_sld hx hb F.sc F.bl (fun z => Nat.not_le.mpr F.bl z) hS.st (vp_in_nI (show iL + 2 < L by omega) (by omega)) dL_law_1736 ?_
    rw [← hx2]
    refine lv_aload_n hx hb dL_law_1737 rfl (lv_at hl 1 rfl) ?_
    refine lv_iload hx hb dL_law_1738 (lv_at hl 5 rfl) ?_
    refine lv_iconst (v := nI 3) hx hb dL_law_1740 (by decide) ?_
    refine kn_iadd hx hb dL_law_1741 ?_
    refine va_sld hx hb F.sc F.bl (fun z => Nat.not_le.mpr F.bl z) hS.st (vp_in_nI (show iL + 3 < L by omega) (by omega)) dL_law_1742 ?_
    rw [← hx3]
    refine lv_aload_n hx hb dL_law_1743 rfl (lv_at hl 1 rfl) ?_
    refine lv_iload hx hb dL_law_1744 (lv_at hl 5 rfl) ?_
    refine lv_iconst (v := nI 4) hx hb dL_law_1746 (by decide) ?_
    refine kn_iadd hx hb dL_law_1747 ?_
    refine va_sld hx hb F.sc F.bl (fun z => Nat.not_le.mpr F.bl z) hS.st (vp_in_nI (show iL + 4 < L by omega) (by omega)) dL_law_1748 ?_
    rw [← hx4]
    have hI := hI9.m
    have T := hI9.T
    have hc : M.2.2.2.1 + 12 < 1000000 := by have := hI9.mp; omega
    refine ll_m (va_runV (As := [.int (nI j), .int (nI j2), .int (nI v), .int (nI v2)]) (rest := []) ⟨hx, hb, hml, hown, hts⟩ (m_X6_both l dC dI am M j j2 v v2 hj hj2 hv9 hv2 hI) (cwV 4 hts gL_law_X6_both rfl rfl rfl hdX6_both_4 ⟨Nat.le_of_ble_eq_true rfl, Nat.le_of_ble_eq_true rfl⟩) (hS.preM F.K) rfl rfl hl.1 rfl (lv_room (Nat.le_of_ble_eq_true rfl)) dL_law_1749 ⟨le_rc (by omega), le_rs (by omega)⟩) F.K hS (fun r8 M1 H locs hko hv hS => ?_)
    have hLM : LM M M1 := by rw [hv.2]; exact LM_th hI 0
    obtain ⟨hT, he9, ht9⟩ := (A_both T.1 hI9.x hj hj2 hv9 hv2 hw hv).two (E_same T.2 hw hv)
    refine lv_istore (lv' := [(6, .int r8), (5, .int (nI 0)), (0, .ref b), (1, .ref (ad 57)), (2, .ref (am 0)), (3, .ref o), (4, .int (nI iL))]) hx hb dL_law_1752 hl (by decide) rfl (fun ls hl => ?_)
    refine lv_goto (tgt := 2052) hx hb dL_law_1754 (by decide) ?_
    exact W.widen (k := 100 + 224 * (n + 1)) (n := 1200 + 10680 * (n + 1)) (by omega) (by omega) (kk9 S1 M1 _ _ _ (hI9.next hLQ hLM hT) hS (lv_sub hl [2, 3, 4, 5, 6] rfl))
