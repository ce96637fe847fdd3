theorem ovl_key {K K2 : Nat → Nat} {n : Nat} (h : ∀ x, x < 5 → K x < 8) (h2 : ∀ x, x < 5 → K2 x < 8) : ∀ x, x < 5 → ovl K K2 n x < 8 := fun x hx => by
  unfold ovl
  split
  · exact h x hx
  · exact h2 x hx
theorem lg_self (a : Int64) : lg_cmp a a = nI 0 := by
  unfold lg_cmp
  rw [if_neg (Int64.lt_irrefl), if_pos rfl]
  rfl
theorem LI.knock {n : Nat} {S S1 : XS} {M M1 : MS} (h : LI n S M) (h1 : S1 = xN S (S.2.2.1, S.2.2.2.1, S.2.2.2.2 + 1)) (h2 : M1 = mN M (0, M.2.2.2.1, M.2.2.2.2.1, M.2.2.2.2.2 + 1)) : LI (n + 1) S1 M1 := by
  subst h1; subst h2
  refine ⟨h.x, h.x5, h.m, ?_, ?_, ?_, ?_, ⟨⟨h.T.1.1, h.T.1.2.1, h.T.1.2.2.1, congrArg (· + 1) h.T.1.2.2.2⟩, h.T.2.1, h.T.2.2⟩, ?_⟩
  · show S.2.2.1 ≤ 12 * (n + 1); have := h.xp; omega
  · show S.2.2.2.1 ≤ n + 1; have := h.xr; omega
  · show M.2.2.2.1 ≤ 12 * (n + 1); have := h.mp; omega
  · show M.2.2.2.2.1 ≤ n + 1; have := h.mr; omega
  · show S.2.2.2.2 + 1 ≤ n + 1; have := h.kn; omega
set_option maxHeartbeats 4000000 in
set_option maxRecDepth 100000 in
theorem lc_0 {p : Program} {l : Launch} {e : Env} {s : State} {m : MethodId} {below : List Frame} {meth : Method} {c : Code} {b L : Nat} {xs : Nat → Int32} {dC : Nat → ClassId} {dI : Nat → Nat → Nat} {cB : ClassId} {ad am : Nat → Nat} {o n iL : Nat} {Q : State → Prop} (F : LF p l s m c b L xs dC dI cB ad am o) (hni : iL = 5 * n) (hiL : iL + 5 ≤ L) : LCase p l e s m below meth c b dC dI ad am o n iL Q 228 := by
  intro S M H locs hI9 hS kk9 ls hl
  have hx := F.x
  have hb := F.b
  have hml := F.ml
  have hown := F.own
  have hts := F.ts
  have hL := F.hL
  have hn9 : n ≤ 511 := by omega
  refine lv_aload_n hx hb dL_law_228 rfl (lv_at hl 1 rfl) ?_
  refine lv_aload_n hx hb dL_law_229 rfl (lv_at hl 0 rfl) ?_
  refine lv_iload hx hb dL_law_230 (lv_at hl 4 rfl) ?_
  refine lv_iconst (v := nI 1) hx hb dL_law_232 (by decide) ?_
  refine kn_iadd hx hb dL_law_233 ?_
  refine va_sld hx hb F.sc F.bl (fun z => Nat.not_le.mpr F.bl z) hS.st (vp_in_nI (show iL + 1 < L by omega) (by omega)) dL_law_234 ?_
  obtain ⟨x1, hx1⟩ : ∃ z, z = xs (nI (iL + 1)).toNatClampNeg := ⟨_, rfl⟩
  rw [← hx1]
  refine lv_aload_n hx hb dL_law_235 rfl (lv_at hl 0 rfl) ?_
  refine lv_iload hx hb dL_law_236 (lv_at hl 4 rfl) ?_
  refine lv_iconst (v := nI 2) hx hb dL_law_238 (by decide) ?_
  refine kn_iadd hx hb dL_law_239 ?_
  refine va_sld hx hb F.sc F.bl (fun z => Nat.not_le.mpr F.bl z) hS.st (vp_in_nI (show iL + 2 < L by omega) (by omega)) dL_law_240 ?_
  obtain ⟨x2, hx2⟩ : ∃ z, z = xs (nI (iL + 2)).toNatClampNeg := ⟨_, rfl⟩
  rw [← hx2]
  refine lv_aload_n hx hb dL_law_241 rfl (lv_at hl 3 rfl) ?_
  refine ll_w (vx_runSW (As := [.ref (ad 57), .int x1, .int x2, .ref o]) (rest := []) ⟨hx, hb, hml, hown, hts⟩ (m_L_put l F.st dC dI cB ad o S x1 x2 hI9.x hI9.x5 (by have := hI9.xp; omega)) (vx_cwSW 4 hts gL_law_L_put rfl rfl rfl hdL_put_4.2 ⟨Nat.le_of_ble_eq_true rfl, Nat.le_of_ble_eq_true rfl⟩) (hS.preW F.K) rfl rfl hl.1 rfl (lv_room (Nat.le_of_ble_eq_true rfl)) dL_law_242 ⟨le_rc (by omega), le_rs (by omega)⟩) F.K hS (fun r0 S1 n1 H locs hq9 hN hS => ?_)
  have hLQ : LQ S S1 := hq9.1
  have hR : R_put x1 x2 S r0 S1 n1 := hq9.2
  clear hq9
  rcases hR with ⟨hb9, rfl, rfl⟩ | ⟨i, hi, rfl, hb9, rfl, rfl⟩ | ⟨i, v, r7, hi, hv9, rfl, rfl, rfl, rfl, hw⟩
  · skip
    refine lv_istore (lv' := [(5, .int (nI 1)), (0, .ref b), (1, .ref (ad 57)), (2, .ref (am 0)), (3, .ref o), (4, .int (nI iL))]) hx hb dL_law_245 hl (by decide) rfl (fun ls hl => ?_)
    refine lv_aload_n hx hb dL_law_247 rfl (lv_at hl 3 rfl) ?_
    refine lv_aload_n hx hb dL_law_248 rfl (lv_at hl 1 rfl) ?_
    refine lv_iload hx hb dL_law_249 (lv_at hl 5 rfl) ?_
    refine lv_iconst (v := nI 1) hx hb dL_law_251 (by decide) ?_
    refine kn_iadd hx hb dL_law_252 ?_
    refine va_sld hx hb F.sc F.bl (fun z => Nat.not_le.mpr F.bl z) hS.st (vp_in_nI (show iL + 1 < L by omega) (by omega)) dL_law_253 ?_
    rw [← hx1]
    refine lv_aload_n hx hb dL_law_254 rfl (lv_at hl 1 rfl) ?_
    refine lv_iload hx hb dL_law_255 (lv_at hl 5 rfl) ?_
    refine lv_iconst (v := nI 2) hx hb dL_law_257 (by decide) ?_
    refine kn_iadd hx hb dL_law_258 ?_
    refine va_sld hx hb F.sc F.bl (fun z => Nat.not_le.mpr F.bl z) hS.st (vp_in_nI (show iL + 2 < L by omega) (by omega)) dL_law_259 ?_
    rw [← hx2]
    have hI := hI9.m
    have T := hI9.T
    have hc : M.2.2.2.1 + 12 < 1000000 := by have := hI9.mp; omega
    refine ll_m (va_runV (As := [.int x1, .int x2]) (rest := []) ⟨hx, hb, hml, hown, hts⟩ (o_X6_put_1 l dC dI am M x1 x2 hb9 hI) (cwV 2 hts gL_law_X6_put rfl rfl rfl hdX6_put_2 ⟨Nat.le_of_ble_eq_true rfl, Nat.le_of_ble_eq_true rfl⟩) (hS.preM F.K) rfl rfl hl.1 rfl (lv_room (Nat.le_of_ble_eq_true rfl)) dL_law_260 ⟨le_rc (by omega), le_rs (by omega)⟩) F.K hS (fun r8 M1 H locs hko hv hS => ?_)
    have hLM : LM M M1 := by rw [hv]; exact LM_th hI _
    have hT : Tie2 S M1 := by rw [hv]; exact T.th _
    refine lv_istore (lv' := [(6, .int r8), (5, .int (nI 1)), (0, .ref b), (1, .ref (ad 57)), (2, .ref (am 0)), (3, .ref o), (4, .int (nI iL))]) hx hb dL_law_263 hl (by decide) rfl (fun ls hl => ?_)
    refine lv_goto (tgt := 2052) hx hb dL_law_265 (by decide) ?_
    exact W.widen (k := 100 + 224 * (n + 1)) (n := 1200 + 10680 * (n + 1)) (by omega) (by omega) (kk9 S M1 _ _ _ (hI9.next hLQ hLM hT) hS (lv_sub hl [2, 3, 4, 5, 6] rfl))
  · skip
    refine lv_istore (lv' := [(5, .int (nI 2)), (0, .ref b), (1, .ref (ad 57)), (2, .ref (am 0)), (3, .ref o), (4, .int (nI iL))]) hx hb dL_law_245 hl (by decide) rfl (fun ls hl => ?_)
    refine lv_aload_n hx hb dL_law_247 rfl (lv_at hl 3 rfl) ?_
    refine lv_aload_n hx hb dL_law_248 rfl (lv_at hl 1 rfl) ?_
    refine lv_iload hx hb dL_law_249 (lv_at hl 5 rfl) ?_
    refine lv_iconst (v := nI 1) hx hb dL_law_251 (by decide) ?_
    refine kn_iadd hx hb dL_law_252 ?_
    refine va_sld hx hb F.sc F.bl (fun z => Nat.not_le.mpr F.bl z) hS.st (vp_in_nI (show iL + 1 < L by omega) (by omega)) dL_law_253 ?_
    rw [← hx1]
    refine lv_aload_n hx hb dL_law_254 rfl (lv_at hl 1 rfl) ?_
    refine lv_iload hx hb dL_law_255 (lv_at hl 5 rfl) ?_
    refine lv_iconst (v := nI 2) hx hb dL_law_257 (by decide) ?_
    refine kn_iadd hx hb dL_law_258 ?_
    refine va_sld hx hb F.sc F.bl (fun z => Nat.not_le.mpr F.bl z) hS.st (vp_in_nI (show iL + 2 < L by omega) (by omega)) dL_law_259 ?_
    rw [← hx2]
    have hI := hI9.m
    have T := hI9.T
    have hc : M.2.2.2.1 + 12 < 1000000 := by have := hI9.mp; omega
    have hn := (hI.1 i hi).1
    refine ll_m (va_runV (As := [.int (nI i), .int x2]) (rest := []) ⟨hx, hb, hml, hown, hts⟩ (o_X6_put_2 l dC dI am M i x2 hi hb9 hI) (cwV 2 hts gL_law_X6_put rfl rfl rfl hdX6_put_2 ⟨Nat.le_of_ble_eq_true rfl, Nat.le_of_ble_eq_true rfl⟩) (hS.preM F.K) rfl rfl hl.1 rfl (lv_room (Nat.le_of_ble_eq_true rfl)) dL_law_260 ⟨le_rc (by omega), le_rs (by omega)⟩) F.K hS (fun r8 M1 H locs hko hv hS => ?_)
    have hLM : LM M M1 := by rw [hv]; exact LM_th hI _
    have hT : Tie2 S M1 := by rw [hv]; exact T.th _
    refine lv_istore (lv' := [(6, .int r8), (5, .int (nI 2)), (0, .ref b), (1, .ref (ad 57)), (2, .ref (am 0)), (3, .ref o), (4, .int (nI iL))]) hx hb dL_law_263 hl (by decide) rfl (fun ls hl => ?_)
    refine lv_goto (tgt := 2052) hx hb dL_law_265 (by decide) ?_
    exact W.widen (k := 100 + 224 * (n + 1)) (n := 1200 + 10680 * (n + 1)) (by omega) (by omega) (kk9 S M1 _ _ _ (hI9.next hLQ hLM hT) hS (lv_sub hl [2, 3, 4, 5, 6] rfl))
  · skip
    refine lv_istore (lv' := [(5, .int (nI 0)), (0, .ref b), (1, .ref (ad 57)), (2, .ref (am 0)), (3, .ref o), (4, .int (nI iL))]) hx hb dL_law_245 hl (by decide) rfl (fun ls hl => ?_)
    refine lv_aload_n hx hb dL_law_247 rfl (lv_at hl 3 rfl) ?_
    refine lv_aload_n hx hb dL_law_248 rfl (lv_at hl 1 rfl) ?_
    refine lv_iload hx hb dL_law_249 (lv_at hl 5 rfl) ?_
    refine lv_iconst (v := nI 1) hx hb dL_law_251 (by decide) ?_
    refine kn_iadd hx hb dL_law_252 ?_
    refine va_sld hx hb F.sc F.bl (fun z => Nat.not_le.mpr F.bl z) hS.st (vp_in_nI (show iL + 1 < L by omega) (by omega)) dL_law_253 ?_
    rw [← hx1]
    refine lv_aload_n hx hb dL_law_254 rfl (lv_at hl 1 rfl) ?_
    refine lv_iload hx hb dL_law_255 (lv_at hl 5 rfl) ?_
    refine lv_iconst (v := nI 2) hx hb dL_law_257 (by decide) ?_
    refine kn_iadd hx hb dL_law_258 ?_
    refine va_sld hx hb F.sc F.bl (fun z => Nat.not_le.mpr F.bl z) hS.st (vp_in_nI (show iL + 2 < L by omega) (by omega)) dL_law_259 ?_
    rw [← hx2]
    have hI := hI9.m
    have T := hI9.T
    have hc : M.2.2.2.1 + 12 < 1000000 := by have := hI9.mp; omega
    have hn := (hI.1 i hi).1
    refine ll_m (va_runV (As := [.int (nI i), .int (nI v)]) (rest := []) ⟨hx, hb, hml, hown, hts⟩ (m_X6_put l dC dI am M i v hi hv9 hI) (cwV 2 hts gL_law_X6_put rfl rfl rfl hdX6_put_2 ⟨Nat.le_of_ble_eq_true rfl, Nat.le_of_ble_eq_true rfl⟩) (hS.preM F.K) rfl rfl hl.1 rfl (lv_room (Nat.le_of_ble_eq_true rfl)) dL_law_260 ⟨le_rc (by omega), le_rs (by omega)⟩) F.K hS (fun r8 M1 H locs hko hv hS => ?_)
    have hLM : LM M M1 := LM_put hI hc hi hv9 hv
    obtain ⟨hT, he9, ht9⟩ := (A_put T.1 hi hw hv).two (E_put T.1 T.2 hi (T.1.sz hi) (Nat.le_refl _) hw hv)
    refine lv_istore (lv' := [(6, .int r8), (5, .int (nI 0)), (0, .ref b), (1, .ref (ad 57)), (2, .ref (am 0)), (3, .ref o), (4, .int (nI iL))]) hx hb dL_law_263 hl (by decide) rfl (fun ls hl => ?_)
    refine lv_goto (tgt := 2052) hx hb dL_law_265 (by decide) ?_
    exact W.widen (k := 100 + 224 * (n + 1)) (n := 1200 + 10680 * (n + 1)) (by omega) (by omega) (kk9 S1 M1 _ _ _ (hI9.next hLQ hLM hT) hS (lv_sub hl [2, 3, 4, 5, 6] rfl))
set_option maxHeartbeats 4000000 in
set_option maxRecDepth 100000 in
theorem lc_1 {p : Program} {l : Launch} {e : Env} {s : State} {m : MethodId} {below : List Frame} {meth : Method} {c : Code} {b L : Nat} {xs : Nat → Int32} {dC : Nat → ClassId} {dI : Nat → Nat → Nat} {cB : ClassId} {ad am : Nat → Nat} {o n iL : Nat} {Q : State → Prop} (F : LF p l s m c b L xs dC dI cB ad am o) (hni : iL = 5 * n) (hiL : iL + 5 ≤ L) : LCase p l e s m below meth c b dC dI ad am o n iL Q 268 := by
  intro S M H locs hI9 hS kk9 ls hl
  have hx := F.x
  have hb := F.b
  have hml := F.ml
  have hown := F.own
  have hts := F.ts
  have hL := F.hL
  have hn9 : n ≤ 511 := by omega
  refine lv_aload_n hx hb dL_law_268 rfl (lv_at hl 1 rfl) ?_
  refine lv_aload_n hx hb dL_law_269 rfl (lv_at hl 0 rfl) ?_
  refine lv_iload hx hb dL_law_270 (lv_at hl 4 rfl) ?_
  refine lv_iconst (v := nI 1) hx hb dL_law_272 (by decide) ?_
  refine kn_iadd hx hb dL_law_273 ?_
  refine va_sld hx hb F.sc F.bl (fun z => Nat.not_le.mpr F.bl z) hS.st (vp_in_nI (show iL + 1 < L by omega) (by omega)) dL_law_274 ?_
  obtain ⟨x1, hx1⟩ : ∃ z, z = xs (nI (iL + 1)).toNatClampNeg := ⟨_, rfl⟩
  rw [← hx1]
  refine lv_aload_n hx hb dL_law_275 rfl (lv_at hl 0 rfl) ?_
  refine lv_iload hx hb dL_law_276 (lv_at hl 4 rfl) ?_
  refine lv_iconst (v := nI 2) hx hb dL_law_278 (by decide) ?_
  refine kn_iadd hx hb dL_law_279 ?_
  refine va_sld hx hb F.sc F.bl (fun z => Nat.not_le.mpr F.bl z) hS.st (vp_in_nI (show iL + 2 < L by omega) (by omega)) dL_law_280 ?_
  obtain ⟨x2, hx2⟩ : ∃ z, z = xs (nI (iL + 2)).toNatClampNeg := ⟨_, rfl⟩
  rw [← hx2]
  refine lv_aload_n hx hb dL_law_281 rfl (lv_at hl 0 rfl) ?_
  refine lv_iload hx hb dL_law_282 (lv_at hl 4 rfl) ?_
  refine lv_iconst (v := nI 3) hx hb dL_law_284 (by decide) ?_
  refine kn_iadd hx hb dL_law_285 ?_
  refine va_sld hx hb F.sc F.bl (fun z => Nat.not_le.mpr F.bl z) hS.st (vp_in_nI (show iL + 3 < L by omega) (by omega)) dL_law_286 ?_
  obtain ⟨x3, hx3⟩ : ∃ z, z = xs (nI (iL + 3)).toNatClampNeg := ⟨_, rfl⟩
  rw [← hx3]
  refine lv_aload_n hx hb dL_law_287 rfl (lv_at hl 3 rfl) ?_
  refine ll_w (vx_runSW (As := [.ref (ad 57), .int x1, .int x2, .int x3, .ref o]) (rest := []) ⟨hx, hb, hml, hown, hts⟩ (m_L_putAt l F.st dC dI cB ad o S x1 x2 x3 hI9.x hI9.x5 (by have := hI9.xp; omega)) (vx_cwSW 5 hts gL_law_L_putAt rfl rfl rfl hdL_putAt_5.2 ⟨Nat.le_of_ble_eq_true rfl, Nat.le_of_ble_eq_true rfl⟩) (hS.preW F.K) rfl rfl hl.1 rfl (lv_room (Nat.le_of_ble_eq_true rfl)) dL_law_288 ⟨le_rc (by omega), le_rs (by omega)⟩) F.K hS (fun r0 S1 n1 H locs hq9 hN hS => ?_)
  have hLQ : LQ S S1 := hq9.1
  have hR : R_putAt x1 x2 x3 S r0 S1 n1 := hq9.2
  clear hq9
  rcases hR with ⟨hb9, rfl, rfl⟩ | ⟨i, hi, rfl, hb9, rfl, rfl⟩ | ⟨i, q, hi, hq, rfl, rfl, hb9, rfl, rfl⟩ | ⟨i, q, v, r7, hi, hq, hv9, rfl, rfl, rfl, rfl, rfl, hw⟩
  · skip
    refine lv_istore (lv' := [(5, .int (nI 1)), (0, .ref b), (1, .ref (ad 57)), (2, .ref (am 0)), (3, .ref o), (4, .int (nI iL))]) hx hb dL_law_291 hl (by decide) rfl (fun ls hl => ?_)
    refine lv_aload_n hx hb dL_law_293 rfl (lv_at hl 3 rfl) ?_
    refine lv_aload_n hx hb dL_law_294 rfl (lv_at hl 1 rfl) ?_
    refine lv_iload hx hb dL_law_295 (lv_at hl 5 rfl) ?_
    refine lv_iconst (v := nI 1) hx hb dL_law_297 (by decide) ?_
    refine kn_iadd hx hb dL_law_298 ?_
    refine va_sld hx hb F.sc F.bl (fun z => Nat.not_le.mpr F.bl z) hS.st (vp_in_nI (show iL + 1 < L by omega) (by omega)) dL_law_299 ?_
    rw [← hx1]
    refine lv_aload_n hx hb dL_law_300 rfl (lv_at hl 1 rfl) ?_
    refine lv_iload hx hb dL_law_301 (lv_at hl 5 rfl) ?_
    refine lv_iconst (v := nI 2) hx hb dL_law_303 (by decide) ?_
    refine kn_iadd hx hb dL_law_304 ?_
    refine va_sld hx hb F.sc F.bl (fun z => Nat.not_le.mpr F.bl z) hS.st (vp_in_nI (show iL + 2 < L by omega) (by omega)) dL_law_305 ?_
    rw [← hx2]
    refine lv_aload_n hx hb dL_law_306 rfl (lv_at hl 1 rfl) ?_
    refine lv_iload hx hb dL_law_307 (lv_at hl 5 rfl) ?_
    refine lv_iconst (v := nI 3) hx hb dL_law_309 (by decide) ?_
    refine kn_iadd hx hb dL_law_310 ?_
    refine va_sld hx hb F.sc F.bl (fun z => Nat.not_le.mpr F.bl z) hS.st (vp_in_nI (show iL + 3 < L by omega) (by omega)) dL_law_311 ?_
    rw [← hx3]
    have hI := hI9.m
    have T := hI9.T
    have hc : M.2.2.2.1 + 12 < 1000000 := by have := hI9.mp; omega
    refine ll_m (va_runV (As := [.int x1, .int x2, .int x3]) (rest := []) ⟨hx, hb, hml, hown, hts⟩ (o_X6_putAt_1 l dC dI am M x1 x2 x3 hb9 hI) (cwV 3 hts gL_law_X6_putAt rfl rfl rfl hdX6_putAt_3 ⟨Nat.le_of_ble_eq_true rfl, Nat.le_of_ble_eq_true rfl⟩) (hS.preM F.K) rfl rfl hl.1 rfl (lv_room (Nat.le_of_ble_eq_true rfl)) dL_law_312 ⟨le_rc (by omega), le_rs (by omega)⟩) F.K hS (fun r8 M1 H locs hko hv hS => ?_)
    have hLM : LM M M1 := by rw [hv]; exact LM_th hI _
    have hT : Tie2 S M1 := by rw [hv]; exact T.th _
    refine lv_istore (lv' := [(6, .int r8), (5, .int (nI 1)), (0, .ref b), (1, .ref (ad 57)), (2, .ref (am 0)), (3, .ref o), (4, .int (nI iL))]) hx hb dL_law_315 hl (by decide) rfl (fun ls hl => ?_)
    refine lv_goto (tgt := 2052) hx hb dL_law_317 (by decide) ?_
    exact W.widen (k := 100 + 224 * (n + 1)) (n := 1200 + 10680 * (n + 1)) (by omega) (by omega) (kk9 S M1 _ _ _ (hI9.next hLQ hLM hT) hS (lv_sub hl [2, 3, 4, 5, 6] rfl))
  · skip
    refine lv_istore (lv' := [(5, .int (nI 1)), (0, .ref b), (1, .ref (ad 57)), (2, .ref (am 0)), (3, .ref o), (4, .int (nI iL))]) hx hb dL_law_291 hl (by decide) rfl (fun ls hl => ?_)
    refine lv_aload_n hx hb dL_law_293 rfl (lv_at hl 3 rfl) ?_
    refine lv_aload_n hx hb dL_law_294 rfl (lv_at hl 1 rfl) ?_
    refine lv_iload hx hb dL_law_295 (lv_at hl 5 rfl) ?_
    refine lv_iconst (v := nI 1) hx hb dL_law_297 (by decide) ?_
    refine kn_iadd hx hb dL_law_298 ?_
    refine va_sld hx hb F.sc F.bl (fun z => Nat.not_le.mpr F.bl z) hS.st (vp_in_nI (show iL + 1 < L by omega) (by omega)) dL_law_299 ?_
    rw [← hx1]
    refine lv_aload_n hx hb dL_law_300 rfl (lv_at hl 1 rfl) ?_
    refine lv_iload hx hb dL_law_301 (lv_at hl 5 rfl) ?_
    refine lv_iconst (v := nI 2) hx hb dL_law_303 (by decide) ?_
    refine kn_iadd hx hb dL_law_304 ?_
    refine va_sld hx hb F.sc F.bl (fun z => Nat.not_le.mpr F.bl z) hS.st (vp_in_nI (show iL + 2 < L by omega) (by omega)) dL_law_305 ?_
    rw [← hx2]
    refine lv_aload_n hx hb dL_law_306 rfl (lv_at hl 1 rfl) ?_
    refine lv_iload hx hb dL_law_307 (lv_at hl 5 rfl) ?_
    refine lv_iconst (v := nI 3) hx hb dL_law_309 (by decide) ?_
    refine kn_iadd hx hb dL_law_310 ?_
    refine va_sld hx hb F.sc F.bl (fun z => Nat.not_le.mpr F.bl z) hS.st (vp_in_nI (show iL + 3 < L by omega) (by omega)) dL_law_311 ?_
    rw [← hx3]
    have hI := hI9.m
    have T := hI9.T
    have hc : M.2.2.2.1 + 12 < 1000000 := by have := hI9.mp; omega
    have hn := (hI.1 i hi).1
    rw [T.sz hi] at hb9
    refine ll_m (va_runV (As := [.int (nI i), .int x2, .int x3]) (rest := []) ⟨hx, hb, hml, hown, hts⟩ (o_X6_putAt_2 l dC dI am M i x2 x3 hi hb9 hI) (cwV 3 hts gL_law_X6_putAt rfl rfl rfl hdX6_putAt_3 ⟨Nat.le_of_ble_eq_true rfl, Nat.le_of_ble_eq_true rfl⟩) (hS.preM F.K) rfl rfl hl.1 rfl (lv_room (Nat.le_of_ble_eq_true rfl)) dL_law_312 ⟨le_rc (by omega), le_rs (by omega)⟩) F.K hS (fun r8 M1 H locs hko hv hS => ?_)
    have hLM : LM M M1 := by rw [hv]; exact LM_th hI _
    have hT : Tie2 S M1 := by rw [hv]; exact T.th _
    refine lv_istore (lv' := [(6, .int r8), (5, .int (nI 1)), (0, .ref b), (1, .ref (ad 57)), (2, .ref (am 0)), (3, .ref o), (4, .int (nI iL))]) hx hb dL_law_315 hl (by decide) rfl (fun ls hl => ?_)
    refine lv_goto (tgt := 2052) hx hb dL_law_317 (by decide) ?_
    exact W.widen (k := 100 + 224 * (n + 1)) (n := 1200 + 10680 * (n + 1)) (by omega) (by omega) (kk9 S M1 _ _ _ (hI9.next hLQ hLM hT) hS (lv_sub hl [2, 3, 4, 5, 6] rfl))
  · skip
    refine lv_istore (lv' := [(5, .int (nI 2)), (0, .ref b), (1, .ref (ad 57)), (2, .ref (am 0)), (3, .ref o), (4, .int (nI iL))]) hx hb dL_law_291 hl (by decide) rfl (fun ls hl => ?_)
    refine lv_aload_n hx hb dL_law_293 rfl (lv_at hl 3 rfl) ?_
    refine lv_aload_n hx hb dL_law_294 rfl (lv_at hl 1 rfl) ?_
    refine lv_iload hx hb dL_law_295 (lv_at hl 5 rfl) ?_
    refine lv_iconst (v := nI 1) hx hb dL_law_297 (by decide) ?_
    refine kn_iadd hx hb dL_law_298 ?_
    refine va_sld hx hb F.sc F.bl (fun z => Nat.not_le.mpr F.bl z) hS.st (vp_in_nI (show iL + 1 < L by omega) (by omega)) dL_law_299 ?_
    rw [← hx1]
    refine lv_aload_n hx hb dL_law_300 rfl (lv_at hl 1 rfl) ?_
    refine lv_iload hx hb dL_law_301 (lv_at hl 5 rfl) ?_
    refine lv_iconst (v := nI 2) hx hb dL_law_303 (by decide) ?_
    refine kn_iadd hx hb dL_law_304 ?_
    refine va_sld hx hb F.sc F.bl (fun z => Nat.not_le.mpr F.bl z) hS.st (vp_in_nI (show iL + 2 < L by omega) (by omega)) dL_law_305 ?_
    rw [← hx2]
    refine lv_aload_n hx hb dL_law_306 rfl (lv_at hl 1 rfl) ?_
    refine lv_iload hx hb dL_law_307 (lv_at hl 5 rfl) ?_
    refine lv_iconst (v := nI 3) hx hb dL_law_309 (by decide) ?_
    refine kn_iadd hx hb dL_law_310 ?_
    refine va_sld hx hb F.sc F.bl (fun z => Nat.not_le.mpr F.bl z) hS.st (vp_in_nI (show iL + 3 < L by omega) (by omega)) dL_law_311 ?_
    rw [← hx3]
    have hI := hI9.m
    have T := hI9.T
    have hc : M.2.2.2.1 + 12 < 1000000 := by have := hI9.mp; omega
    have hqM : q ≤ (M.1 i).2.2 := by rw [← T.sz hi]; exact hq
    have hn := (hI.1 i hi).1
    refine ll_m (va_runV (As := [.int (nI i), .int (nI q), .int x3]) (rest := []) ⟨hx, hb, hml, hown, hts⟩ (o_X6_putAt_3 l dC dI am M i q x3 hi hqM hb9 hI) (cwV 3 hts gL_law_X6_putAt rfl rfl rfl hdX6_putAt_3 ⟨Nat.le_of_ble_eq_true rfl, Nat.le_of_ble_eq_true rfl⟩) (hS.preM F.K) rfl rfl hl.1 rfl (lv_room (Nat.le_of_ble_eq_true rfl)) dL_law_312 ⟨le_rc (by omega), le_rs (by omega)⟩) F.K hS (fun r8 M1 H locs hko hv hS => ?_)
    have hLM : LM M M1 := by rw [hv]; exact LM_th hI _
    have hT : Tie2 S M1 := by rw [hv]; exact T.th _
    refine lv_istore (lv' := [(6, .int r8), (5, .int (nI 2)), (0, .ref b), (1, .ref (ad 57)), (2, .ref (am 0)), (3, .ref o), (4, .int (nI iL))]) hx hb dL_law_315 hl (by decide) rfl (fun ls hl => ?_)
    refine lv_goto (tgt := 2052) hx hb dL_law_317 (by decide) ?_
    exact W.widen (k := 100 + 224 * (n + 1)) (n := 1200 + 10680 * (n + 1)) (by omega) (by omega) (kk9 S M1 _ _ _ (hI9.next hLQ hLM hT) hS (lv_sub hl [2, 3, 4, 5, 6] rfl))
  · skip
    refine lv_istore (lv' := [(5, .int (nI 0)), (0, .ref b), (1, .ref (ad 57)), (2, .ref (am 0)), (3, .ref o), (4, .int (nI iL))]) hx hb dL_law_291 hl (by decide) rfl (fun ls hl => ?_)
    refine lv_aload_n hx hb dL_law_293 rfl (lv_at hl 3 rfl) ?_
    refine lv_aload_n hx hb dL_law_294 rfl (lv_at hl 1 rfl) ?_
    refine lv_iload hx hb dL_law_295 (lv_at hl 5 rfl) ?_
    refine lv_iconst (v := nI 1) hx hb dL_law_297 (by decide) ?_
    refine kn_iadd hx hb dL_law_298 ?_
    refine va_sld hx hb F.sc F.bl (fun z => Nat.not_le.mpr F.bl z) hS.st (vp_in_nI (show iL + 1 < L by omega) (by omega)) dL_law_299 ?_
    rw [← hx1]
    refine lv_aload_n hx hb dL_law_300 rfl (lv_at hl 1 rfl) ?_
    refine lv_iload hx hb dL_law_301 (lv_at hl 5 rfl) ?_
    refine lv_iconst (v := nI 2) hx hb dL_law_303 (by decide) ?_
    refine kn_iadd hx hb dL_law_304 ?_
    refine va_sld hx hb F.sc F.bl (fun z => Nat.not_le.mpr F.bl z) hS.st (vp_in_nI (show iL + 2 < L by omega) (by omega)) dL_law_305 ?_
    rw [← hx2]
    refine lv_aload_n hx hb dL_law_306 rfl (lv_at hl 1 rfl) ?_
    refine lv_iload hx hb dL_law_307 (lv_at hl 5 rfl) ?_
    refine lv_iconst (v := nI 3) hx hb dL_law_309 (by decide) ?_
    refine kn_iadd hx hb dL_law_310 ?_
    refine va_sld hx hb F.sc F.bl (fun z => Nat.not_le.mpr F.bl z) hS.st (vp_in_nI (show iL + 3 < L by omega) (by omega)) dL_law_311 ?_
    rw [← hx3]
    have hI := hI9.m
    have T := hI9.T
    have hc : M.2.2.2.1 + 12 < 1000000 := by have := hI9.mp; omega
    have hqM : q ≤ (M.1 i).2.2 := by rw [← T.sz hi]; exact hq
    have hn := (hI.1 i hi).1
    refine ll_m (va_runV (As := [.int (nI i), .int (nI q), .int (nI v)]) (rest := []) ⟨hx, hb, hml, hown, hts⟩ (m_X6_putAt l dC dI am M i q v hi hqM hv9 hI) (cwV 3 hts gL_law_X6_putAt rfl rfl rfl hdX6_putAt_3 ⟨Nat.le_of_ble_eq_true rfl, Nat.le_of_ble_eq_true rfl⟩) (hS.preM F.K) rfl rfl hl.1 rfl (lv_room (Nat.le_of_ble_eq_true rfl)) dL_law_312 ⟨le_rc (by omega), le_rs (by omega)⟩) F.K hS (fun r8 M1 H locs hko hv hS => ?_)
    have hLM : LM M M1 := LM_put hI hc hi hv9 hv
    obtain ⟨hT, he9, ht9⟩ := (A_put T.1 hi hw hv).two (E_put T.1 T.2 hi rfl hq hw hv)
    refine lv_istore (lv' := [(6, .int r8), (5, .int (nI 0)), (0, .ref b), (1, .ref (ad 57)), (2, .ref (am 0)), (3, .ref o), (4, .int (nI iL))]) hx hb dL_law_315 hl (by decide) rfl (fun ls hl => ?_)
    refine lv_goto (tgt := 2052) hx hb dL_law_317 (by decide) ?_
    exact W.widen (k := 100 + 224 * (n + 1)) (n := 1200 + 10680 * (n + 1)) (by omega) (by omega) (kk9 S1 M1 _ _ _ (hI9.next hLQ hLM hT) hS (lv_sub hl [2, 3, 4, 5, 6] rfl))
set_option maxHeartbeats 4000000 in
set_option maxRecDepth 100000 in
theorem lc_2 {p : Program} {l : Launch} {e : Env} {s : State} {m : MethodId} {below : List Frame} {meth : Method} {c : Code} {b L : Nat} {xs : Nat → Int32} {dC : Nat → ClassId} {dI : Nat → Nat → Nat} {cB : ClassId} {ad am : Nat → Nat} {o n iL : Nat} {Q : State → Prop} (F : LF p l s m c b L xs dC dI cB ad am o) (hni : iL = 5 * n) (hiL : iL + 5 ≤ L) : LCase p l e s m below meth c b dC dI ad am o n iL Q 320 := by
  intro S M H locs hI9 hS kk9 ls hl
  have hx := F.x
  have hb := F.b
  have hml := F.ml
  have hown := F.own
  have hts := F.ts
  have hL := F.hL
  have hn9 : n ≤ 511 := by omega
  refine lv_aload_n hx hb dL_law_320 rfl (lv_at hl 1 rfl) ?_
  refine lv_aload_n hx hb dL_law_321 rfl (lv_at hl 0 rfl) ?_
  refine lv_iload hx hb dL_law_322 (lv_at hl 4 rfl) ?_
  refine lv_iconst (v := nI 1) hx hb dL_law_324 (by decide) ?_
  refine kn_iadd hx hb dL_law_325 ?_
  refine va_sld hx hb F.sc F.bl (fun z => Nat.not_le.mpr F.bl z) hS.st (vp_in_nI (show iL + 1 < L by omega) (by omega)) dL_law_326 ?_
  obtain ⟨x1, hx1⟩ : ∃ z, z = xs (nI (iL + 1)).toNatClampNeg := ⟨_, rfl⟩
  rw [← hx1]
  refine lv_aload_n hx hb dL_law_327 rfl (lv_at hl 0 rfl) ?_
  refine lv_iload hx hb dL_law_328 (lv_at hl 4 rfl) ?_
  refine lv_iconst (v := nI 2) hx hb dL_law_330 (by decide) ?_
  refine kn_iadd hx hb dL_law_331 ?_
  refine va_sld hx hb F.sc F.bl (fun z => Nat.not_le.mpr F.bl z) hS.st (vp_in_nI (show iL + 2 < L by omega) (by omega)) dL_law_332 ?_
  obtain ⟨x2, hx2⟩ : ∃ z, z = xs (nI (iL + 2)).toNatClampNeg := ⟨_, rfl⟩
  rw [← hx2]
  refine lv_aload_n hx hb dL_law_333 rfl (lv_at hl 0 rfl) ?_
  refine lv_iload hx hb dL_law_334 (lv_at hl 4 rfl) ?_
  refine lv_iconst (v := nI 3) hx hb dL_law_336 (by decide) ?_
  refine kn_iadd hx hb dL_law_337 ?_
  refine va_sld hx hb F.sc F.bl (fun z => Nat.not_le.mpr F.bl z) hS.st (vp_in_nI (show iL + 3 < L by omega) (by omega)) dL_law_338 ?_
  obtain ⟨x3, hx3⟩ : ∃ z, z = xs (nI (iL + 3)).toNatClampNeg := ⟨_, rfl⟩
  rw [← hx3]
  refine lv_aload_n hx hb dL_law_339 rfl (lv_at hl 0 rfl) ?_
  refine lv_iload hx hb dL_law_340 (lv_at hl 4 rfl) ?_
  refine lv_iconst (v := nI 4) hx hb dL_law_342 (by decide) ?_
  refine kn_iadd hx hb dL_law_343 ?_
  refine va_sld hx hb F.sc F.bl (fun z => Nat.not_le.mpr F.bl z) hS.st (vp_in_nI (show iL + 4 < L by omega) (by omega)) dL_law_344 ?_
  obtain ⟨x4, hx4⟩ : ∃ z, z = xs (nI (iL + 4)).toNatClampNeg := ⟨_, rfl⟩
  rw [← hx4]
  refine lv_aload_n hx hb dL_law_345 rfl (lv_at hl 3 rfl) ?_
  refine ll_w (vx_runSW (As := [.ref (ad 57), .int x1, .int x2, .int x3, .int x4, .ref o]) (rest := []) ⟨hx, hb, hml, hown, hts⟩ (m_L_fill l F.st dC dI cB ad o S x1 x2 x3 x4 hI9.x hI9.x5 (by have := hI9.xp; omega)) (vx_cwSW 6 hts gL_law_L_fill rfl rfl rfl hdL_fill_6.2 ⟨Nat.le_of_ble_eq_true rfl, Nat.le_of_ble_eq_true rfl⟩) (hS.preW F.K) rfl rfl hl.1 rfl (lv_room (Nat.le_of_ble_eq_true rfl)) dL_law_346 ⟨le_rc (by omega), le_rs (by omega)⟩) F.K hS (fun r0 S1 n1 H locs hq9 hN hS => ?_)
  have hLQ : LQ S S1 := hq9.1
  have hR : R_fill x1 x2 x3 x4 S r0 S1 n1 := hq9.2
  clear hq9
  rcases hR with ⟨hb9, rfl, rfl⟩ | ⟨i, hi, rfl, hb9, rfl, rfl⟩ | ⟨i, k, hi, hk, rfl, rfl, hb9, rfl, rfl⟩ | ⟨i, k, k2, hi, hk, hk2, rfl, rfl, rfl, hb9, rfl, rfl⟩ | ⟨i, k, k2, k3, r7, hi, hk, hk2, hk3, rfl, rfl, rfl, rfl, rfl, rfl, hw⟩
  · skip
    refine lv_istore (lv' := [(5, .int (nI 1)), (0, .ref b), (1, .ref (ad 57)), (2, .ref (am 0)), (3, .ref o), (4, .int (nI iL))]) hx hb dL_law_349 hl (by decide) rfl (fun ls hl => ?_)
    refine lv_aload_n hx hb dL_law_351 rfl (lv_at hl 3 rfl) ?_
    refine lv_aload_n hx hb dL_law_352 rfl (lv_at hl 1 rfl) ?_
    refine lv_iload hx hb dL_law_353 (lv_at hl 5 rfl) ?_
    refine lv_iconst (v := nI 1) hx hb dL_law_355 (by decide) ?_
    refine kn_iadd hx hb dL_law_356 ?_
    refine va_sld hx hb F.sc F.bl (fun z => Nat.not_le.mpr F.bl z) hS.st (vp_in_nI (show iL + 1 < L by omega) (by omega)) dL_law_357 ?_
    rw [← hx1]
    refine lv_aload_n hx hb dL_law_358 rfl (lv_at hl 1 rfl) ?_
    refine lv_iload hx hb dL_law_359 (lv_at hl 5 rfl) ?_
    refine lv_iconst (v := nI 2) hx hb dL_law_361 (by decide) ?_
    refine kn_iadd hx hb dL_law_362 ?_
    refine va_sld hx hb F.sc F.bl (fun z => Nat.not_le.mpr F.bl z) hS.st (vp_in_nI (show iL + 2 < L by omega) (by omega)) dL_law_363 ?_
    rw [← hx2]
    refine lv_aload_n hx hb dL_law_364 rfl (lv_at hl 1 rfl) ?_
    refine lv_iload hx hb dL_law_365 (lv_at hl 5 rfl) ?_
    refine lv_iconst (v := nI 3) hx hb dL_law_367 (by decide) ?_
    refine kn_iadd hx hb dL_law_368 ?_
    refine va_sld hx hb F.sc F.bl (fun z => Nat.not_le.mpr F.bl z) hS.st (vp_in_nI (show iL + 3 < L by omega) (by omega)) dL_law_369 ?_
    rw [← hx3]
    refine lv_aload_n hx hb dL_law_370 rfl (lv_at hl 1 rfl) ?_
    refine lv_iload hx hb dL_law_371 (lv_at hl 5 rfl) ?_
    refine lv_iconst (v := nI 4) hx hb dL_law_373 (by decide) ?_
    refine kn_iadd hx hb dL_law_374 ?_
    refine va_sld hx hb F.sc F.bl (fun z => Nat.not_le.mpr F.bl z) hS.st (vp_in_nI (show iL + 4 < L by omega) (by omega)) dL_law_375 ?_
    rw [← hx4]
    have hI := hI9.m
    have T := hI9.T
    have hc : M.2.2.2.1 + 12 < 1000000 := by have := hI9.mp; omega
    refine ll_m (va_runV (As := [.int x1, .int x2, .int x3, .int x4]) (rest := []) ⟨hx, hb, hml, hown, hts⟩ (o_X6_fill_1 l dC dI am M x1 x2 x3 x4 hb9 hI) (cwV 4 hts gL_law_X6_fill rfl rfl rfl hdX6_fill_4 ⟨Nat.le_of_ble_eq_true rfl, Nat.le_of_ble_eq_true rfl⟩) (hS.preM F.K) rfl rfl hl.1 rfl (lv_room (Nat.le_of_ble_eq_true rfl)) dL_law_376 ⟨le_rc (by omega), le_rs (by omega)⟩) F.K hS (fun r8 M1 H locs hko hv hS => ?_)
    have hLM : LM M M1 := by rw [hv]; exact LM_th hI _
    have hT : Tie2 S M1 := by rw [hv]; exact T.th _
    refine lv_istore (lv' := [(6, .int r8), (5, .int (nI 1)), (0, .ref b), (1, .ref (ad 57)), (2, .ref (am 0)), (3, .ref o), (4, .int (nI iL))]) hx hb dL_law_379 hl (by decide) rfl (fun ls hl => ?_)
    refine lv_goto (tgt := 2052) hx hb dL_law_381 (by decide) ?_
    exact W.widen (k := 100 + 224 * (n + 1)) (n := 1200 + 10680 * (n + 1)) (by omega) (by omega) (kk9 S M1 _ _ _ (hI9.next hLQ hLM hT) hS (lv_sub hl [2, 3, 4, 5, 6] rfl))
  · skip
    refine lv_istore (lv' := [(5, .int (nI 2)), (0, .ref b), (1, .ref (ad 57)), (2, .ref (am 0)), (3, .ref o), (4, .int (nI iL))]) hx hb dL_law_349 hl (by decide) rfl (fun ls hl => ?_)
    refine lv_aload_n hx hb dL_law_351 rfl (lv_at hl 3 rfl) ?_
    refine lv_aload_n hx hb dL_law_352 rfl (lv_at hl 1 rfl) ?_
    refine lv_iload hx hb dL_law_353 (lv_at hl 5 rfl) ?_
    refine lv_iconst (v := nI 1) hx hb dL_law_355 (by decide) ?_
    refine kn_iadd hx hb dL_law_356 ?_
    refine va_sld hx hb F.sc F.bl (fun z => Nat.not_le.mpr F.bl z) hS.st (vp_in_nI (show iL + 1 < L by omega) (by omega)) dL_law_357 ?_
    rw [← hx1]
    refine lv_aload_n hx hb dL_law_358 rfl (lv_at hl 1 rfl) ?_
    refine lv_iload hx hb dL_law_359 (lv_at hl 5 rfl) ?_
    refine lv_iconst (v := nI 2) hx hb dL_law_361 (by decide) ?_
    refine kn_iadd hx hb dL_law_362 ?_
    refine va_sld hx hb F.sc F.bl (fun z => Nat.not_le.mpr F.bl z) hS.st (vp_in_nI (show iL + 2 < L by omega) (by omega)) dL_law_363 ?_
    rw [← hx2]
    refine lv_aload_n hx hb dL_law_364 rfl (lv_at hl 1 rfl) ?_
    refine lv_iload hx hb dL_law_365 (lv_at hl 5 rfl) ?_
    refine lv_iconst (v := nI 3) hx hb dL_law_367 (by decide) ?_
    refine kn_iadd hx hb dL_law_368 ?_
    refine va_sld hx hb F.sc F.bl (fun z => Nat.not_le.mpr F.bl z) hS.st (vp_in_nI (show iL + 3 < L by omega) (by omega)) dL_law_369 ?_
    rw [← hx3]
    refine lv_aload_n hx hb dL_law_370 rfl (lv_at hl 1 rfl) ?_
    refine lv_iload hx hb dL_law_371 (lv_at hl 5 rfl) ?_
    refine lv_iconst (v := nI 4) hx hb dL_law_373 (by decide) ?_
    refine kn_iadd hx hb dL_law_374 ?_
    refine va_sld hx hb F.sc F.bl (fun z => Nat.not_le.mpr F.bl z) hS.st (vp_in_nI (show iL + 4 < L by omega) (by omega)) dL_law_375 ?_
    rw [← hx4]
    have hI := hI9.m
    have T := hI9.T
    have hc : M.2.2.2.1 + 12 < 1000000 := by have := hI9.mp; omega
    have hn := (hI.1 i hi).1
    refine ll_m (va_runV (As := [.int (nI i), .int x2, .int x3, .int x4]) (rest := []) ⟨hx, hb, hml, hown, hts⟩ (o_X6_fill_2 l dC dI am M i x2 x3 x4 hi hb9 hI) (cwV 4 hts gL_law_X6_fill rfl rfl rfl hdX6_fill_4 ⟨Nat.le_of_ble_eq_true rfl, Nat.le_of_ble_eq_true rfl⟩) (hS.preM F.K) rfl rfl hl.1 rfl (lv_room (Nat.le_of_ble_eq_true rfl)) dL_law_376 ⟨le_rc (by omega), le_rs (by omega)⟩) F.K hS (fun r8 M1 H locs hko hv hS => ?_)
    have hLM : LM M M1 := by rw [hv]; exact LM_th hI _
    have hT : Tie2 S M1 := by rw [hv]; exact T.th _
    refine lv_istore (lv' := [(6, .int r8), (5, .int (nI 2)), (0, .ref b), (1, .ref (ad 57)), (2, .ref (am 0)), (3, .ref o), (4, .int (nI iL))]) hx hb dL_law_379 hl (by decide) rfl (fun ls hl => ?_)
    refine lv_goto (tgt := 2052) hx hb dL_law_381 (by decide) ?_
    exact W.widen (k := 100 + 224 * (n + 1)) (n := 1200 + 10680 * (n + 1)) (by omega) (by omega) (kk9 S M1 _ _ _ (hI9.next hLQ hLM hT) hS (lv_sub hl [2, 3, 4, 5, 6] rfl))
  · skip
    refine lv_istore (lv' := [(5, .int (nI 2)), (0, .ref b), (1, .ref (ad 57)), (2, .ref (am 0)), (3, .ref o), (4, .int (nI iL))]) hx hb dL_law_349 hl (by decide) rfl (fun ls hl => ?_)
    refine lv_aload_n hx hb dL_law_351 rfl (lv_at hl 3 rfl) ?_
    refine lv_aload_n hx hb dL_law_352 rfl (lv_at hl 1 rfl) ?_
    refine lv_iload hx hb dL_law_353 (lv_at hl 5 rfl) ?_
    refine lv_iconst (v := nI 1) hx hb dL_law_355 (by decide) ?_
    refine kn_iadd hx hb dL_law_356 ?_
    refine va_sld hx hb F.sc F.bl (fun z => Nat.not_le.mpr F.bl z) hS.st (vp_in_nI (show iL + 1 < L by omega) (by omega)) dL_law_357 ?_
    rw [← hx1]
    refine lv_aload_n hx hb dL_law_358 rfl (lv_at hl 1 rfl) ?_
    refine lv_iload hx hb dL_law_359 (lv_at hl 5 rfl) ?_
    refine lv_iconst (v := nI 2) hx hb dL_law_361 (by decide) ?_
    refine kn_iadd hx hb dL_law_362 ?_
    refine va_sld hx hb F.sc F.bl (fun z => Nat.not_le.mpr F.bl z) hS.st (vp_in_nI (show iL + 2 < L by omega) (by omega)) dL_law_363 ?_
    rw [← hx2]
    refine lv_aload_n hx hb dL_law_364 rfl (lv_at hl 1 rfl) ?_
    refine lv_iload hx hb dL_law_365 (lv_at hl 5 rfl) ?_
    refine lv_iconst (v := nI 3) hx hb dL_law_367 (by decide) ?_
    refine kn_iadd hx hb dL_law_368 ?_
    refine va_sld hx hb F.sc F.bl (fun z => Nat.not_le.mpr F.bl z) hS.st (vp_in_nI (show iL + 3 < L by omega) (by omega)) dL_law_369 ?_
    rw [← hx3]
    refine lv_aload_n hx hb dL_law_370 rfl (lv_at hl 1 rfl) ?_
    refine lv_iload hx hb dL_law_371 (lv_at hl 5 rfl) ?_
    refine lv_iconst (v := nI 4) hx hb dL_law_373 (by decide) ?_
    refine kn_iadd hx hb dL_law_374 ?_
    refine va_sld hx hb F.sc F.bl (fun z => Nat.not_le.mpr F.bl z) hS.st (vp_in_nI (show iL + 4 < L by omega) (by omega)) dL_law_375 ?_
    rw [← hx4]
    have hI := hI9.m
    have T := hI9.T
    have hc : M.2.2.2.1 + 12 < 1000000 := by have := hI9.mp; omega
    have hn := (hI.1 i hi).1
    refine ll_m (va_runV (As := [.int (nI i), .int (nI k), .int x3, .int x4]) (rest := []) ⟨hx, hb, hml, hown, hts⟩ (o_X6_fill_3 l dC dI am M i k x3 x4 hi hk hb9 hI) (cwV 4 hts gL_law_X6_fill rfl rfl rfl hdX6_fill_4 ⟨Nat.le_of_ble_eq_true rfl, Nat.le_of_ble_eq_true rfl⟩) (hS.preM F.K) rfl rfl hl.1 rfl (lv_room (Nat.le_of_ble_eq_true rfl)) dL_law_376 ⟨le_rc (by omega), le_rs (by omega)⟩) F.K hS (fun r8 M1 H locs hko hv hS => ?_)
    have hLM : LM M M1 := by rw [hv]; exact LM_th hI _
    have hT : Tie2 S M1 := by rw [hv]; exact T.th _
    refine lv_istore (lv' := [(6, .int r8), (5, .int (nI 2)), (0, .ref b), (1, .ref (ad 57)), (2, .ref (am 0)), (3, .ref o), (4, .int (nI iL))]) hx hb dL_law_379 hl (by decide) rfl (fun ls hl => ?_)
    refine lv_goto (tgt := 2052) hx hb dL_law_381 (by decide) ?_
    exact W.widen (k := 100 + 224 * (n + 1)) (n := 1200 + 10680 * (n + 1)) (by omega) (by omega) (kk9 S M1 _ _ _ (hI9.next hLQ hLM hT) hS (lv_sub hl [2, 3, 4, 5, 6] rfl))
  · skip
    refine lv_istore (lv' := [(5, .int (nI 2)), (0, .ref b), (1, .ref (ad 57)), (2, .ref (am 0)), (3, .ref o), (4, .int (nI iL))]) hx hb dL_law_349 hl (by decide) rfl (fun ls hl => ?_)
    refine lv_aload_n hx hb dL_law_351 rfl (lv_at hl 3 rfl) ?_
    refine lv_aload_n hx hb dL_law_352 rfl (lv_at hl 1 rfl) ?_
    refine lv_iload hx hb dL_law_353 (lv_at hl 5 rfl) ?_
    refine lv_iconst (v := nI 1) hx hb dL_law_355 (by decide) ?_
    refine kn_iadd hx hb dL_law_356 ?_
    refine va_sld hx hb F.sc F.bl (fun z => Nat.not_le.mpr F.bl z) hS.st (vp_in_nI (show iL + 1 < L by omega) (by omega)) dL_law_357 ?_
    rw [← hx1]
    refine lv_aload_n hx hb dL_law_358 rfl (lv_at hl 1 rfl) ?_
    refine lv_iload hx hb dL_law_359 (lv_at hl 5 rfl) ?_
    refine lv_iconst (v := nI 2) hx hb dL_law_361 (by decide) ?_
    refine kn_iadd hx hb dL_law_362 ?_
    refine va_sld hx hb F.sc F.bl (fun z => Nat.not_le.mpr F.bl z) hS.st (vp_in_nI (show iL + 2 < L by omega) (by omega)) dL_law_363 ?_
    rw [← hx2]
    refine lv_aload_n hx hb dL_law_364 rfl (lv_at hl 1 rfl) ?_
    refine lv_iload hx hb dL_law_365 (lv_at hl 5 rfl) ?_
    refine lv_iconst (v := nI 3) hx hb dL_law_367 (by decide) ?_
    refine kn_iadd hx hb dL_law_368 ?_
    refine va_sld hx hb F.sc F.bl (fun z => Nat.not_le.mpr F.bl z) hS.st (vp_in_nI (show iL + 3 < L by omega) (by omega)) dL_law_369 ?_
    rw [← hx3]
    refine lv_aload_n hx hb dL_law_370 rfl (lv_at hl 1 rfl) ?_
    refine lv_iload hx hb dL_law_371 (lv_at hl 5 rfl) ?_
    refine lv_iconst (v := nI 4) hx hb dL_law_373 (by decide) ?_
    refine kn_iadd hx hb dL_law_374 ?_
    refine va_sld hx hb F.sc F.bl (fun z => Nat.not_le.mpr F.bl z) hS.st (vp_in_nI (show iL + 4 < L by omega) (by omega)) dL_law_375 ?_
    rw [← hx4]
    have hI := hI9.m
    have T := hI9.T
    have hc : M.2.2.2.1 + 12 < 1000000 := by have := hI9.mp; omega
    have hn := (hI.1 i hi).1
    refine ll_m (va_runV (As := [.int (nI i), .int (nI k), .int (nI k2), .int x4]) (rest := []) ⟨hx, hb, hml, hown, hts⟩ (o_X6_fill_4 l dC dI am M i k k2 x4 hi hk hk2 hb9 hI) (cwV 4 hts gL_law_X6_fill rfl rfl rfl hdX6_fill_4 ⟨Nat.le_of_ble_eq_true rfl, Nat.le_of_ble_eq_true rfl⟩) (hS.preM F.K) rfl rfl hl.1 rfl (lv_room (Nat.le_of_ble_eq_true rfl)) dL_law_376 ⟨le_rc (by omega), le_rs (by omega)⟩) F.K hS (fun r8 M1 H locs hko hv hS => ?_)
    have hLM : LM M M1 := by rw [hv]; exact LM_th hI _
    have hT : Tie2 S M1 := by rw [hv]; exact T.th _
    refine lv_istore (lv' := [(6, .int r8), (5, .int (nI 2)), (0, .ref b), (1, .ref (ad 57)), (2, .ref (am 0)), (3, .ref o), (4, .int (nI iL))]) hx hb dL_law_379 hl (by decide) rfl (fun ls hl => ?_)
    refine lv_goto (tgt := 2052) hx hb dL_law_381 (by decide) ?_
    exact W.widen (k := 100 + 224 * (n + 1)) (n := 1200 + 10680 * (n + 1)) (by omega) (by omega) (kk9 S M1 _ _ _ (hI9.next hLQ hLM hT) hS (lv_sub hl [2, 3, 4, 5, 6] rfl))
  · skip
    refine lv_istore (lv' := [(5, .int (nI 0)), (0, .ref b), (1, .ref (ad 57)), (2, .ref (am 0)), (3, .ref o), (4, .int (nI iL))]) hx hb dL_law_349 hl (by decide) rfl (fun ls hl => ?_)
    refine lv_aload_n hx hb dL_law_351 rfl (lv_at hl 3 rfl) ?_
    refine lv_aload_n hx hb dL_law_352 rfl (lv_at hl 1 rfl) ?_
    refine lv_iload hx hb dL_law_353 (lv_at hl 5 rfl) ?_
    refine lv_iconst (v := nI 1) hx hb dL_law_355 (by decide) ?_
    refine kn_iadd hx hb dL_law_356 ?_
    refine va_sld hx hb F.sc F.bl (fun z => Nat.not_le.mpr F.bl z) hS.st (vp_in_nI (show iL + 1 < L by omega) (by omega)) dL_law_357 ?_
    rw [← hx1]
    refine lv_aload_n hx hb dL_law_358 rfl (lv_at hl 1 rfl) ?_
    refine lv_iload hx hb dL_law_359 (lv_at hl 5 rfl) ?_
    refine lv_iconst (v := nI 2) hx hb dL_law_361 (by decide) ?_
    refine kn_iadd hx hb dL_law_362 ?_
    refine va_sld hx hb F.sc F.bl (fun z => Nat.not_le.mpr F.bl z) hS.st (vp_in_nI (show iL + 2 < L by omega) (by omega)) dL_law_363 ?_
    rw [← hx2]
    refine lv_aload_n hx hb dL_law_364 rfl (lv_at hl 1 rfl) ?_
    refine lv_iload hx hb dL_law_365 (lv_at hl 5 rfl) ?_
    refine lv_iconst (v := nI 3) hx hb dL_law_367 (by decide) ?_
    refine kn_iadd hx hb dL_law_368 ?_
    refine va_sld hx hb F.sc F.bl (fun z => Nat.not_le.mpr F.bl z) hS.st (vp_in_nI (show iL + 3 < L by omega) (by omega)) dL_law_369 ?_
    rw [← hx3]
    refine lv_aload_n hx hb dL_law_370 rfl (lv_at hl 1 rfl) ?_
    refine lv_iload hx hb dL_law_371 (lv_at hl 5 rfl) ?_
    refine lv_iconst (v := nI 4) hx hb dL_law_373 (by decide) ?_
    refine kn_iadd hx hb dL_law_374 ?_
    refine va_sld hx hb F.sc F.bl (fun z => Nat.not_le.mpr F.bl z) hS.st (vp_in_nI (show iL + 4 < L by omega) (by omega)) dL_law_375 ?_
    rw [← hx4]
    have hI := hI9.m
    have T := hI9.T
    have hc : M.2.2.2.1 + 12 < 1000000 := by have := hI9.mp; omega
    have hn := (hI.1 i hi).1
    refine ll_m (va_runV (As := [.int (nI i), .int (nI k), .int (nI k2), .int (nI k3)]) (rest := []) ⟨hx, hb, hml, hown, hts⟩ (m_X6_fill l dC dI am M i k k2 k3 hi hk hk2 hk3 hI) (cwV 4 hts gL_law_X6_fill rfl rfl rfl hdX6_fill_4 ⟨Nat.le_of_ble_eq_true rfl, Nat.le_of_ble_eq_true rfl⟩) (hS.preM F.K) rfl rfl hl.1 rfl (lv_room (Nat.le_of_ble_eq_true rfl)) dL_law_376 ⟨le_rc (by omega), le_rs (by omega)⟩) F.K hS (fun r8 M1 H locs hko hv hS => ?_)
    have hLM : LM M M1 := LM_fill hI hc hi hk hv
    obtain ⟨hT, he9, ht9⟩ := (A_fill T.1 hi hw hv).two (E_fill T.1 T.2 hi hw hv)
    refine lv_istore (lv' := [(6, .int r8), (5, .int (nI 0)), (0, .ref b), (1, .ref (ad 57)), (2, .ref (am 0)), (3, .ref o), (4, .int (nI iL))]) hx hb dL_law_379 hl (by decide) rfl (fun ls hl => ?_)
    refine lv_goto (tgt := 2052) hx hb dL_law_381 (by decide) ?_
    exact W.widen (k := 100 + 224 * (n + 1)) (n := 1200 + 10680 * (n + 1)) (by omega) (by omega) (kk9 S1 M1 _ _ _ (hI9.next hLQ hLM hT) hS (lv_sub hl [2, 3, 4, 5, 6] rfl))
set_option maxHeartbeats 4000000 in
set_option maxRecDepth 100000 in
theorem lc_3 {p : Program} {l : Launch} {e : Env} {s : State} {m : MethodId} {below : List Frame} {meth : Method} {c : Code} {b L : Nat} {xs : Nat → Int32} {dC : Nat → ClassId} {dI : Nat → Nat → Nat} {cB : ClassId} {ad am : Nat → Nat} {o n iL : Nat} {Q : State → Prop} (F : LF p l s m c b L xs dC dI cB ad am o) (hni : iL = 5 * n) (hiL : iL + 5 ≤ L) : LCase p l e s m below meth c b dC dI ad am o n iL Q 384 := by
  intro S M H locs hI9 hS kk9 ls hl
  have hx := F.x
  have hb := F.b
  have hml := F.ml
  have hown := F.own
  have hts := F.ts
  have hL := F.hL
  have hn9 : n ≤ 511 := by omega
  refine lv_aload_n hx hb dL_law_384 rfl (lv_at hl 1 rfl) ?_
  refine lv_aload_n hx hb dL_law_385 rfl (lv_at hl 0 rfl) ?_
  refine lv_iload hx hb dL_law_386 (lv_at hl 4 rfl) ?_
  refine lv_iconst (v := nI 1) hx hb dL_law_388 (by decide) ?_
  refine kn_iadd hx hb dL_law_389 ?_
  refine va_sld hx hb F.sc F.bl (fun z => Nat.not_le.mpr F.bl z) hS.st (vp_in_nI (show iL + 1 < L by omega) (by omega)) dL_law_390 ?_
  obtain ⟨x1, hx1⟩ : ∃ z, z = xs (nI (iL + 1)).toNatClampNeg := ⟨_, rfl⟩
  rw [← hx1]
  refine lv_aload_n hx hb dL_law_391 rfl (lv_at hl 0 rfl) ?_
  refine lv_iload hx hb dL_law_392 (lv_at hl 4 rfl) ?_
  refine lv_iconst (v := nI 2) hx hb dL_law_394 (by decide) ?_
  refine kn_iadd hx hb dL_law_395 ?_
  refine va_sld hx hb F.sc F.bl (fun z => Nat.not_le.mpr F.bl z) hS.st (vp_in_nI (show iL + 2 < L by omega) (by omega)) dL_law_396 ?_
  obtain ⟨x2, hx2⟩ : ∃ z, z = xs (nI (iL + 2)).toNatClampNeg := ⟨_, rfl⟩
  rw [← hx2]
  refine lv_aload_n hx hb dL_law_397 rfl (lv_at hl 3 rfl) ?_
  refine ll_w (vx_runSW (As := [.ref (ad 57), .int x1, .int x2, .ref o]) (rest := []) ⟨hx, hb, hml, hown, hts⟩ (m_L_drop l F.st dC dI cB ad o S x1 x2 hI9.x hI9.x5 (by have := hI9.xp; omega)) (vx_cwSW 4 hts gL_law_L_drop rfl rfl rfl hdL_drop_4.2 ⟨Nat.le_of_ble_eq_true rfl, Nat.le_of_ble_eq_true rfl⟩) (hS.preW F.K) rfl rfl hl.1 rfl (lv_room (Nat.le_of_ble_eq_true rfl)) dL_law_398 ⟨le_rc (by omega), le_rs (by omega)⟩) F.K hS (fun r0 S1 n1 H locs hq9 hN hS => ?_)
  have hLQ : LQ S S1 := hq9.1
  have hR : R_drop x1 x2 S r0 S1 n1 := hq9.2
  clear hq9
  rcases hR with ⟨hb9, rfl, rfl⟩ | ⟨i, hi, rfl, hb9, rfl, rfl⟩ | ⟨i, q, r7, hi, hq, rfl, rfl, rfl, rfl, hw⟩
  · skip
    refine lv_istore (lv' := [(5, .int (nI 1)), (0, .ref b), (1, .ref (ad 57)), (2, .ref (am 0)), (3, .ref o), (4, .int (nI iL))]) hx hb dL_law_401 hl (by decide) rfl (fun ls hl => ?_)
    refine lv_aload_n hx hb dL_law_403 rfl (lv_at hl 3 rfl) ?_
    refine lv_aload_n hx hb dL_law_404 rfl (lv_at hl 1 rfl) ?_
    refine lv_iload hx hb dL_law_405 (lv_at hl 5 rfl) ?_
    refine lv_iconst (v := nI 1) hx hb dL_law_407 (by decide) ?_
    refine kn_iadd hx hb dL_law_408 ?_
    refine va_sld hx hb F.sc F.bl (fun z => Nat.not_le.mpr F.bl z) hS.st (vp_in_nI (show iL + 1 < L by omega) (by omega)) dL_law_409 ?_
    rw [← hx1]
    refine lv_aload_n hx hb dL_law_410 rfl (lv_at hl 1 rfl) ?_
    refine lv_iload hx hb dL_law_411 (lv_at hl 5 rfl) ?_
    refine lv_iconst (v := nI 2) hx hb dL_law_413 (by decide) ?_
    refine kn_iadd hx hb dL_law_414 ?_
    refine va_sld hx hb F.sc F.bl (fun z => Nat.not_le.mpr F.bl z) hS.st (vp_in_nI (show iL + 2 < L by omega) (by omega)) dL_law_415 ?_
    rw [← hx2]
    have hI := hI9.m
    have T := hI9.T
    have hc : M.2.2.2.1 + 12 < 1000000 := by have := hI9.mp; omega
    refine ll_m (va_runV (As := [.int x1, .int x2]) (rest := []) ⟨hx, hb, hml, hown, hts⟩ (o_X6_drop_1 l dC dI am M x1 x2 hb9 hI) (cwV 2 hts gL_law_X6_drop rfl rfl rfl hdX6_drop_2 ⟨Nat.le_of_ble_eq_true rfl, Nat.le_of_ble_eq_true rfl⟩) (hS.preM F.K) rfl rfl hl.1 rfl (lv_room (Nat.le_of_ble_eq_true rfl)) dL_law_416 ⟨le_rc (by omega), le_rs (by omega)⟩) F.K hS (fun r8 M1 H locs hko hv hS => ?_)
    have hLM : LM M M1 := by rw [hv]; exact LM_th hI _
    have hT : Tie2 S M1 := by rw [hv]; exact T.th _
    refine lv_istore (lv' := [(6, .int r8), (5, .int (nI 1)), (0, .ref b), (1, .ref (ad 57)), (2, .ref (am 0)), (3, .ref o), (4, .int (nI iL))]) hx hb dL_law_419 hl (by decide) rfl (fun ls hl => ?_)
    refine lv_goto (tgt := 2052) hx hb dL_law_421 (by decide) ?_
    exact W.widen (k := 100 + 224 * (n + 1)) (n := 1200 + 10680 * (n + 1)) (by omega) (by omega) (kk9 S M1 _ _ _ (hI9.next hLQ hLM hT) hS (lv_sub hl [2, 3, 4, 5, 6] rfl))
  · skip
    refine lv_istore (lv' := [(5, .int (nI 1)), (0, .ref b), (1, .ref (ad 57)), (2, .ref (am 0)), (3, .ref o), (4, .int (nI iL))]) hx hb dL_law_401 hl (by decide) rfl (fun ls hl => ?_)
    refine lv_aload_n hx hb dL_law_403 rfl (lv_at hl 3 rfl) ?_
    refine lv_aload_n hx hb dL_law_404 rfl (lv_at hl 1 rfl) ?_
    refine lv_iload hx hb dL_law_405 (lv_at hl 5 rfl) ?_
    refine lv_iconst (v := nI 1) hx hb dL_law_407 (by decide) ?_
    refine kn_iadd hx hb dL_law_408 ?_
    refine va_sld hx hb F.sc F.bl (fun z => Nat.not_le.mpr F.bl z) hS.st (vp_in_nI (show iL + 1 < L by omega) (by omega)) dL_law_409 ?_
    rw [← hx1]
    refine lv_aload_n hx hb dL_law_410 rfl (lv_at hl 1 rfl) ?_
    refine lv_iload hx hb dL_law_411 (lv_at hl 5 rfl) ?_
    refine lv_iconst (v := nI 2) hx hb dL_law_413 (by decide) ?_
    refine kn_iadd hx hb dL_law_414 ?_
    refine va_sld hx hb F.sc F.bl (fun z => Nat.not_le.mpr F.bl z) hS.st (vp_in_nI (show iL + 2 < L by omega) (by omega)) dL_law_415 ?_
    rw [← hx2]
    have hI := hI9.m
    have T := hI9.T
    have hc : M.2.2.2.1 + 12 < 1000000 := by have := hI9.mp; omega
    have hn := (hI.1 i hi).1
    rw [T.sz hi] at hb9
    refine ll_m (va_runV (As := [.int (nI i), .int x2]) (rest := []) ⟨hx, hb, hml, hown, hts⟩ (o_X6_drop_2 l dC dI am M i x2 hi hb9 hI) (cwV 2 hts gL_law_X6_drop rfl rfl rfl hdX6_drop_2 ⟨Nat.le_of_ble_eq_true rfl, Nat.le_of_ble_eq_true rfl⟩) (hS.preM F.K) rfl rfl hl.1 rfl (lv_room (Nat.le_of_ble_eq_true rfl)) dL_law_416 ⟨le_rc (by omega), le_rs (by omega)⟩) F.K hS (fun r8 M1 H locs hko hv hS => ?_)
    have hLM : LM M M1 := by rw [hv]; exact LM_th hI _
    have hT : Tie2 S M1 := by rw [hv]; exact T.th _
    refine lv_istore (lv' := [(6, .int r8), (5, .int (nI 1)), (0, .ref b), (1, .ref (ad 57)), (2, .ref (am 0)), (3, .ref o), (4, .int (nI iL))]) hx hb dL_law_419 hl (by decide) rfl (fun ls hl => ?_)
    refine lv_goto (tgt := 2052) hx hb dL_law_421 (by decide) ?_
    exact W.widen (k := 100 + 224 * (n + 1)) (n := 1200 + 10680 * (n + 1)) (by omega) (by omega) (kk9 S M1 _ _ _ (hI9.next hLQ hLM hT) hS (lv_sub hl [2, 3, 4, 5, 6] rfl))
  · skip
    refine lv_istore (lv' := [(5, .int (nI 0)), (0, .ref b), (1, .ref (ad 57)), (2, .ref (am 0)), (3, .ref o), (4, .int (nI iL))]) hx hb dL_law_401 hl (by decide) rfl (fun ls hl => ?_)
    refine lv_aload_n hx hb dL_law_403 rfl (lv_at hl 3 rfl) ?_
    refine lv_aload_n hx hb dL_law_404 rfl (lv_at hl 1 rfl) ?_
    refine lv_iload hx hb dL_law_405 (lv_at hl 5 rfl) ?_
    refine lv_iconst (v := nI 1) hx hb dL_law_407 (by decide) ?_
    refine kn_iadd hx hb dL_law_408 ?_
    refine va_sld hx hb F.sc F.bl (fun z => Nat.not_le.mpr F.bl z) hS.st (vp_in_nI (show iL + 1 < L by omega) (by omega)) dL_law_409 ?_
    rw [← hx1]
    refine lv_aload_n hx hb dL_law_410 rfl (lv_at hl 1 rfl) ?_
    refine lv_iload hx hb dL_law_411 (lv_at hl 5 rfl) ?_
    refine lv_iconst (v := nI 2) hx hb dL_law_413 (by decide) ?_
    refine kn_iadd hx hb dL_law_414 ?_
    refine va_sld hx hb F.sc F.bl (fun z => Nat.not_le.mpr F.bl z) hS.st (vp_in_nI (show iL + 2 < L by omega) (by omega)) dL_law_415 ?_
    rw [← hx2]
    have hI := hI9.m
    have T := hI9.T
    have hc : M.2.2.2.1 + 12 < 1000000 := by have := hI9.mp; omega
    have hqM : q < (M.1 i).2.2 := by rw [← T.sz hi]; exact hq
    have hn := (hI.1 i hi).1
    refine ll_m (va_runV (As := [.int (nI i), .int (nI q)]) (rest := []) ⟨hx, hb, hml, hown, hts⟩ (m_X6_drop l dC dI am M i q hi hqM hI) (cwV 2 hts gL_law_X6_drop rfl rfl rfl hdX6_drop_2 ⟨Nat.le_of_ble_eq_true rfl, Nat.le_of_ble_eq_true rfl⟩) (hS.preM F.K) rfl rfl hl.1 rfl (lv_room (Nat.le_of_ble_eq_true rfl)) dL_law_416 ⟨le_rc (by omega), le_rs (by omega)⟩) F.K hS (fun r8 M1 H locs hko hv hS => ?_)
    have hLM : LM M M1 := by rw [hv.2]; exact LM_row0 hI (rowM_rem (hI.1 i hi) hqM)
    obtain ⟨hT, he9, ht9⟩ := A_drop T.1 T.2 hi hq hw hv
    refine lv_istore (lv' := [(6, .int r8), (5, .int (nI 0)), (0, .ref b), (1, .ref (ad 57)), (2, .ref (am 0)), (3, .ref o), (4, .int (nI iL))]) hx hb dL_law_419 hl (by decide) rfl (fun ls hl => ?_)
    refine lv_goto (tgt := 2052) hx hb dL_law_421 (by decide) ?_
    exact W.widen (k := 100 + 224 * (n + 1)) (n := 1200 + 10680 * (n + 1)) (by omega) (by omega) (kk9 S1 M1 _ _ _ (hI9.next hLQ hLM hT) hS (lv_sub hl [2, 3, 4, 5, 6] rfl))
set_option maxHeartbeats 4000000 in
set_option maxRecDepth 100000 in
theorem lc_4 {p : Program} {l : Launch} {e : Env} {s : State} {m : MethodId} {below : List Frame} {meth : Method} {c : Code} {b L : Nat} {xs : Nat → Int32} {dC : Nat → ClassId} {dI : Nat → Nat → Nat} {cB : ClassId} {ad am : Nat → Nat} {o n iL : Nat} {Q : State → Prop} (F : LF p l s m c b L xs dC dI cB ad am o) (hni : iL = 5 * n) (hiL : iL + 5 ≤ L) : LCase p l e s m below meth c b dC dI ad am o n iL Q 424 := by
  intro S M H locs hI9 hS kk9 ls hl
  have hx := F.x
  have hb := F.b
  have hml := F.ml
  have hown := F.own
  have hts := F.ts
  have hL := F.hL
  have hn9 : n ≤ 511 := by omega
  refine lv_aload_n hx hb dL_law_424 rfl (lv_at hl 1 rfl) ?_
  refine lv_aload_n hx hb dL_law_425 rfl (lv_at hl 0 rfl) ?_
  refine lv_iload hx hb dL_law_426 (lv_at hl 4 rfl) ?_
  refine lv_iconst (v := nI 1) hx hb dL_law_428 (by decide) ?_
  refine kn_iadd hx hb dL_law_429 ?_
  refine va_sld hx hb F.sc F.bl (fun z => Nat.not_le.mpr F.bl z) hS.st (vp_in_nI (show iL + 1 < L by omega) (by omega)) dL_law_430 ?_
  obtain ⟨x1, hx1⟩ : ∃ z, z = xs (nI (iL + 1)).toNatClampNeg := ⟨_, rfl⟩
  rw [← hx1]
  refine lv_aload_n hx hb dL_law_431 rfl (lv_at hl 3 rfl) ?_
  refine ll_w (vx_runSW (As := [.ref (ad 57), .int x1, .ref o]) (rest := []) ⟨hx, hb, hml, hown, hts⟩ (m_L_clear l F.st dC dI cB ad o S x1 hI9.x hI9.x5 (by have := hI9.xp; omega)) (vx_cwSW 3 hts gL_law_L_clear rfl rfl rfl hdL_clear_3.2 ⟨Nat.le_of_ble_eq_true rfl, Nat.le_of_ble_eq_true rfl⟩) (hS.preW F.K) rfl rfl hl.1 rfl (lv_room (Nat.le_of_ble_eq_true rfl)) dL_law_432 ⟨le_rc (by omega), le_rs (by omega)⟩) F.K hS (fun r0 S1 n1 H locs hq9 hN hS => ?_)
  have hLQ : LQ S S1 := hq9.1
  have hR : R_clear x1 S r0 S1 n1 := hq9.2
  clear hq9
  rcases hR with ⟨hb9, rfl, rfl⟩ | ⟨i, r7, hi, rfl, rfl, rfl, hw⟩
  · skip
    refine lv_istore (lv' := [(5, .int (nI 1)), (0, .ref b), (1, .ref (ad 57)), (2, .ref (am 0)), (3, .ref o), (4, .int (nI iL))]) hx hb dL_law_435 hl (by decide) rfl (fun ls hl => ?_)
    refine lv_aload_n hx hb dL_law_437 rfl (lv_at hl 3 rfl) ?_
    refine lv_aload_n hx hb dL_law_438 rfl (lv_at hl 1 rfl) ?_
    refine lv_iload hx hb dL_law_439 (lv_at hl 5 rfl) ?_
    refine lv_iconst (v := nI 1) hx hb dL_law_441 (by decide) ?_
    refine kn_iadd hx hb dL_law_442 ?_
    refine va_sld hx hb F.sc F.bl (fun z => Nat.not_le.mpr F.bl z) hS.st (vp_in_nI (show iL + 1 < L by omega) (by omega)) dL_law_443 ?_
    rw [← hx1]
    have hI := hI9.m
    have T := hI9.T
    have hc : M.2.2.2.1 + 12 < 1000000 := by have := hI9.mp; omega
    refine ll_m (va_runV (As := [.int x1]) (rest := []) ⟨hx, hb, hml, hown, hts⟩ (o_X6_clear_1 l dC dI am M x1 hb9 hI) (cwV 1 hts gL_law_X6_clear rfl rfl rfl hdX6_clear_1 ⟨Nat.le_of_ble_eq_true rfl, Nat.le_of_ble_eq_true rfl⟩) (hS.preM F.K) rfl rfl hl.1 rfl (lv_room (Nat.le_of_ble_eq_true rfl)) dL_law_444 ⟨le_rc (by omega), le_rs (by omega)⟩) F.K hS (fun r8 M1 H locs hko hv hS => ?_)
    have hLM : LM M M1 := by rw [hv]; exact LM_th hI _
    have hT : Tie2 S M1 := by rw [hv]; exact T.th _
    refine lv_istore (lv' := [(6, .int r8), (5, .int (nI 1)), (0, .ref b), (1, .ref (ad 57)), (2, .ref (am 0)), (3, .ref o), (4, .int (nI iL))]) hx hb dL_law_447 hl (by decide) rfl (fun ls hl => ?_)
    refine lv_goto (tgt := 2052) hx hb dL_law_449 (by decide) ?_
    exact W.widen (k := 100 + 224 * (n + 1)) (n := 1200 + 10680 * (n + 1)) (by omega) (by omega) (kk9 S M1 _ _ _ (hI9.next hLQ hLM hT) hS (lv_sub hl [2, 3, 4, 5, 6] rfl))
  · skip
    refine lv_istore (lv' := [(5, .int (nI 0)), (0, .ref b), (1, .ref (ad 57)), (2, .ref (am 0)), (3, .ref o), (4, .int (nI iL))]) hx hb dL_law_435 hl (by decide) rfl (fun ls hl => ?_)
    refine lv_aload_n hx hb dL_law_437 rfl (lv_at hl 3 rfl) ?_
    refine lv_aload_n hx hb dL_law_438 rfl (lv_at hl 1 rfl) ?_
    refine lv_iload hx hb dL_law_439 (lv_at hl 5 rfl) ?_
    refine lv_iconst (v := nI 1) hx hb dL_law_441 (by decide) ?_
    refine kn_iadd hx hb dL_law_442 ?_
    refine va_sld hx hb F.sc F.bl (fun z => Nat.not_le.mpr F.bl z) hS.st (vp_in_nI (show iL + 1 < L by omega) (by omega)) dL_law_443 ?_
    rw [← hx1]
    have hI := hI9.m
    have T := hI9.T
    have hc : M.2.2.2.1 + 12 < 1000000 := by have := hI9.mp; omega
    have hn := (hI.1 i hi).1
    refine ll_m (va_runV (As := [.int (nI i)]) (rest := []) ⟨hx, hb, hml, hown, hts⟩ (m_X6_clear l dC dI am M i hi hI) (cwV 1 hts gL_law_X6_clear rfl rfl rfl hdX6_clear_1 ⟨Nat.le_of_ble_eq_true rfl, Nat.le_of_ble_eq_true rfl⟩) (hS.preM F.K) rfl rfl hl.1 rfl (lv_room (Nat.le_of_ble_eq_true rfl)) dL_law_444 ⟨le_rc (by omega), le_rs (by omega)⟩) F.K hS (fun r8 M1 H locs hko hv hS => ?_)
    have hLM : LM M M1 := by rw [hv.2]; exact LM_row0 hI (rowM_0 (hI.1 i hi))
    obtain ⟨hT, he9, ht9⟩ := (A_clear T.1 hi hw hv).two (E_clear T.2 hw hv)
    refine lv_istore (lv' := [(6, .int r8), (5, .int (nI 0)), (0, .ref b), (1, .ref (ad 57)), (2, .ref (am 0)), (3, .ref o), (4, .int (nI iL))]) hx hb dL_law_447 hl (by decide) rfl (fun ls hl => ?_)
    refine lv_goto (tgt := 2052) hx hb dL_law_449 (by decide) ?_
    exact W.widen (k := 100 + 224 * (n + 1)) (n := 1200 + 10680 * (n + 1)) (by omega) (by omega) (kk9 S1 M1 _ _ _ (hI9.next hLQ hLM hT) hS (lv_sub hl [2, 3, 4, 5, 6] rfl))
set_option maxHeartbeats 4000000 in
set_option maxRecDepth 100000 in
theorem lc_5 {p : Program} {l : Launch} {e : Env} {s : State} {m : MethodId} {below : List Frame} {meth : Method} {c : Code} {b L : Nat} {xs : Nat → Int32} {dC : Nat → ClassId} {dI : Nat → Nat → Nat} {cB : ClassId} {ad am : Nat → Nat} {o n iL : Nat} {Q : State → Prop} (F : LF p l s m c b L xs dC dI cB ad am o) (hni : iL = 5 * n) (hiL : iL + 5 ≤ L) : LCase p l e s m below meth c b dC dI ad am o n iL Q 452 := by
  intro S M H locs hI9 hS kk9 ls hl
  have hx := F.x
  have hb := F.b
  have hml := F.ml
  have hown := F.own
  have hts := F.ts
  have hL := F.hL
  have hn9 : n ≤ 511 := by omega
  refine lv_aload_n hx hb dL_law_452 rfl (lv_at hl 1 rfl) ?_
  refine lv_aload_n hx hb dL_law_453 rfl (lv_at hl 0 rfl) ?_
  refine lv_iload hx hb dL_law_454 (lv_at hl 4 rfl) ?_
  refine lv_iconst (v := nI 1) hx hb dL_law_456 (by decide) ?_
  refine kn_iadd hx hb dL_law_457 ?_
  refine va_sld hx hb F.sc F.bl (fun z => Nat.not_le.mpr F.bl z) hS.st (vp_in_nI (show iL + 1 < L by omega) (by omega)) dL_law_458 ?_
  obtain ⟨x1, hx1⟩ : ∃ z, z = xs (nI (iL + 1)).toNatClampNeg := ⟨_, rfl⟩
  rw [← hx1]
  refine lv_aload_n hx hb dL_law_459 rfl (lv_at hl 0 rfl) ?_
  refine lv_iload hx hb dL_law_460 (lv_at hl 4 rfl) ?_
  refine lv_iconst (v := nI 2) hx hb dL_law_462 (by decide) ?_
  refine kn_iadd hx hb dL_law_463 ?_
  refine va_sld hx hb F.sc F.bl (fun z => Nat.not_le.mpr F.bl z) hS.st (vp_in_nI (show iL + 2 < L by omega) (by omega)) dL_law_464 ?_
  obtain ⟨x2, hx2⟩ : ∃ z, z = xs (nI (iL + 2)).toNatClampNeg := ⟨_, rfl⟩
  rw [← hx2]
  refine lv_aload_n hx hb dL_law_465 rfl (lv_at hl 3 rfl) ?_
  refine ll_w (vx_runSW (As := [.ref (ad 57), .int x1, .int x2, .ref o]) (rest := []) ⟨hx, hb, hml, hown, hts⟩ (m_L_copyRow l F.st dC dI cB ad o S x1 x2 hI9.x hI9.x5 (by have := hI9.xp; omega)) (vx_cwSW 4 hts gL_law_L_copyRow rfl rfl rfl hdL_copyRow_4.2 ⟨Nat.le_of_ble_eq_true rfl, Nat.le_of_ble_eq_true rfl⟩) (hS.preW F.K) rfl rfl hl.1 rfl (lv_room (Nat.le_of_ble_eq_true rfl)) dL_law_466 ⟨le_rc (by omega), le_rs (by omega)⟩) F.K hS (fun r0 S1 n1 H locs hq9 hN hS => ?_)
  have hLQ : LQ S S1 := hq9.1
  have hR : R_copyRow x1 x2 S r0 S1 n1 := hq9.2
  clear hq9
  rcases hR with ⟨hb9, rfl, rfl⟩ | ⟨i, hi, rfl, hb9, rfl, rfl⟩ | ⟨i, i2, r7, hi, hi2, rfl, rfl, rfl, rfl, hw⟩
  · skip
    refine lv_istore (lv' := [(5, .int (nI 1)), (0, .ref b), (1, .ref (ad 57)), (2, .ref (am 0)), (3, .ref o), (4, .int (nI iL))]) hx hb dL_law_469 hl (by decide) rfl (fun ls hl => ?_)
    refine lv_aload_n hx hb dL_law_471 rfl (lv_at hl 3 rfl) ?_
    refine lv_aload_n hx hb dL_law_472 rfl (lv_at hl 1 rfl) ?_
    refine lv_iload hx hb dL_law_473 (lv_at hl 5 rfl) ?_
    refine lv_iconst (v := nI 1) hx hb dL_law_475 (by decide) ?_
    refine kn_iadd hx hb dL_law_476 ?_
    refine va_sld hx hb F.sc F.bl (fun z => Nat.not_le.mpr F.bl z) hS.st (vp_in_nI (show iL + 1 < L by omega) (by omega)) dL_law_477 ?_
    rw [← hx1]
    refine lv_aload_n hx hb dL_law_478 rfl (lv_at hl 1 rfl) ?_
    refine lv_iload hx hb dL_law_479 (lv_at hl 5 rfl) ?_
    refine lv_iconst (v := nI 2) hx hb dL_law_481 (by decide) ?_
    refine kn_iadd hx hb dL_law_482 ?_
    refine va_sld hx hb F.sc F.bl (fun z => Nat.not_le.mpr F.bl z) hS.st (vp_in_nI (show iL + 2 < L by omega) (by omega)) dL_law_483 ?_
    rw [← hx2]
    have hI := hI9.m
    have T := hI9.T
    have hc : M.2.2.2.1 + 12 < 1000000 := by have := hI9.mp; omega
    refine ll_m (va_runV (As := [.int x1, .int x2]) (rest := []) ⟨hx, hb, hml, hown, hts⟩ (o_X6_copyRow_1 l dC dI am M x1 x2 hb9 hI) (cwV 2 hts gL_law_X6_copyRow rfl rfl rfl hdX6_copyRow_2 ⟨Nat.le_of_ble_eq_true rfl, Nat.le_of_ble_eq_true rfl⟩) (hS.preM F.K) rfl rfl hl.1 rfl (lv_room (Nat.le_of_ble_eq_true rfl)) dL_law_484 ⟨le_rc (by omega), le_rs (by omega)⟩) F.K hS (fun r8 M1 H locs hko hv hS => ?_)
    have hLM : LM M M1 := by rw [hv]; exact LM_th hI _
    have hT : Tie2 S M1 := by rw [hv]; exact T.th _
    refine lv_istore (lv' := [(6, .int r8), (5, .int (nI 1)), (0, .ref b), (1, .ref (ad 57)), (2, .ref (am 0)), (3, .ref o), (4, .int (nI iL))]) hx hb dL_law_487 hl (by decide) rfl (fun ls hl => ?_)
    refine lv_goto (tgt := 2052) hx hb dL_law_489 (by decide) ?_
    exact W.widen (k := 100 + 224 * (n + 1)) (n := 1200 + 10680 * (n + 1)) (by omega) (by omega) (kk9 S M1 _ _ _ (hI9.next hLQ hLM hT) hS (lv_sub hl [2, 3, 4, 5, 6] rfl))
  · skip
    refine lv_istore (lv' := [(5, .int (nI 1)), (0, .ref b), (1, .ref (ad 57)), (2, .ref (am 0)), (3, .ref o), (4, .int (nI iL))]) hx hb dL_law_469 hl (by decide) rfl (fun ls hl => ?_)
    refine lv_aload_n hx hb dL_law_471 rfl (lv_at hl 3 rfl) ?_
    refine lv_aload_n hx hb dL_law_472 rfl (lv_at hl 1 rfl) ?_
    refine lv_iload hx hb dL_law_473 (lv_at hl 5 rfl) ?_
    refine lv_iconst (v := nI 1) hx hb dL_law_475 (by decide) ?_
    refine kn_iadd hx hb dL_law_476 ?_
    refine va_sld hx hb F.sc F.bl (fun z => Nat.not_le.mpr F.bl z) hS.st (vp_in_nI (show iL + 1 < L by omega) (by omega)) dL_law_477 ?_
    rw [← hx1]
    refine lv_aload_n hx hb dL_law_478 rfl (lv_at hl 1 rfl) ?_
    refine lv_iload hx hb dL_law_479 (lv_at hl 5 rfl) ?_
    refine lv_iconst (v := nI 2) hx hb dL_law_481 (by decide) ?_
    refine kn_iadd hx hb dL_law_482 ?_
    refine va_sld hx hb F.sc F.bl (fun z => Nat.not_le.mpr F.bl z) hS.st (vp_in_nI (show iL + 2 < L by omega) (by omega)) dL_law_483 ?_
    rw [← hx2]
    have hI := hI9.m
    have T := hI9.T
    have hc : M.2.2.2.1 + 12 < 1000000 := by have := hI9.mp; omega
    have hn := (hI.1 i hi).1
    refine ll_m (va_runV (As := [.int (nI i), .int x2]) (rest := []) ⟨hx, hb, hml, hown, hts⟩ (o_X6_copyRow_2 l dC dI am M i x2 hi hb9 hI) (cwV 2 hts gL_law_X6_copyRow rfl rfl rfl hdX6_copyRow_2 ⟨Nat.le_of_ble_eq_true rfl, Nat.le_of_ble_eq_true rfl⟩) (hS.preM F.K) rfl rfl hl.1 rfl (lv_room (Nat.le_of_ble_eq_true rfl)) dL_law_484 ⟨le_rc (by omega), le_rs (by omega)⟩) F.K hS (fun r8 M1 H locs hko hv hS => ?_)
    have hLM : LM M M1 := by rw [hv]; exact LM_th hI _
    have hT : Tie2 S M1 := by rw [hv]; exact T.th _
    refine lv_istore (lv' := [(6, .int r8), (5, .int (nI 1)), (0, .ref b), (1, .ref (ad 57)), (2, .ref (am 0)), (3, .ref o), (4, .int (nI iL))]) hx hb dL_law_487 hl (by decide) rfl (fun ls hl => ?_)
    refine lv_goto (tgt := 2052) hx hb dL_law_489 (by decide) ?_
    exact W.widen (k := 100 + 224 * (n + 1)) (n := 1200 + 10680 * (n + 1)) (by omega) (by omega) (kk9 S M1 _ _ _ (hI9.next hLQ hLM hT) hS (lv_sub hl [2, 3, 4, 5, 6] rfl))
  · skip
    refine lv_istore (lv' := [(5, .int (nI 0)), (0, .ref b), (1, .ref (ad 57)), (2, .ref (am 0)), (3, .ref o), (4, .int (nI iL))]) hx hb dL_law_469 hl (by decide) rfl (fun ls hl => ?_)
    refine lv_aload_n hx hb dL_law_471 rfl (lv_at hl 3 rfl) ?_
    refine lv_aload_n hx hb dL_law_472 rfl (lv_at hl 1 rfl) ?_
    refine lv_iload hx hb dL_law_473 (lv_at hl 5 rfl) ?_
    refine lv_iconst (v := nI 1) hx hb dL_law_475 (by decide) ?_
    refine kn_iadd hx hb dL_law_476 ?_
    refine va_sld hx hb F.sc F.bl (fun z => Nat.not_le.mpr F.bl z) hS.st (vp_in_nI (show iL + 1 < L by omega) (by omega)) dL_law_477 ?_
    rw [← hx1]
    refine lv_aload_n hx hb dL_law_478 rfl (lv_at hl 1 rfl) ?_
    refine lv_iload hx hb dL_law_479 (lv_at hl 5 rfl) ?_
    refine lv_iconst (v := nI 2) hx hb dL_law_481 (by decide) ?_
    refine kn_iadd hx hb dL_law_482 ?_
    refine va_sld hx hb F.sc F.bl (fun z => Nat.not_le.mpr F.bl z) hS.st (vp_in_nI (show iL + 2 < L by omega) (by omega)) dL_law_483 ?_
    rw [← hx2]
    have hI := hI9.m
    have T := hI9.T
    have hc : M.2.2.2.1 + 12 < 1000000 := by have := hI9.mp; omega
    have hn := (hI.1 i hi).1
    refine ll_m (va_runV (As := [.int (nI i), .int (nI i2)]) (rest := []) ⟨hx, hb, hml, hown, hts⟩ (m_X6_copyRow l dC dI am M i i2 hi hi2 hI) (cwV 2 hts gL_law_X6_copyRow rfl rfl rfl hdX6_copyRow_2 ⟨Nat.le_of_ble_eq_true rfl, Nat.le_of_ble_eq_true rfl⟩) (hS.preM F.K) rfl rfl hl.1 rfl (lv_room (Nat.le_of_ble_eq_true rfl)) dL_law_484 ⟨le_rc (by omega), le_rs (by omega)⟩) F.K hS (fun r8 M1 H locs hko hv hS => ?_)
    have hLM : LM M M1 := by rw [hv.2]; exact LM_row0 hI (rowM_ovl (hI.1 i2 hi2) (hI.1 i hi))
    obtain ⟨hT, he9, ht9⟩ := (A_copyRow T.1 hi hw hv).two (E_copyRow T.1 T.2 hi hw hv)
    refine lv_istore (lv' := [(6, .int r8), (5, .int (nI 0)), (0, .ref b), (1, .ref (ad 57)), (2, .ref (am 0)), (3, .ref o), (4, .int (nI iL))]) hx hb dL_law_487 hl (by decide) rfl (fun ls hl => ?_)
    refine lv_goto (tgt := 2052) hx hb dL_law_489 (by decide) ?_
    exact W.widen (k := 100 + 224 * (n + 1)) (n := 1200 + 10680 * (n + 1)) (by omega) (by omega) (kk9 S1 M1 _ _ _ (hI9.next hLQ hLM hT) hS (lv_sub hl [2, 3, 4, 5, 6] rfl))
set_option maxHeartbeats 4000000 in
set_option maxRecDepth 100000 in
theorem lc_6 {p : Program} {l : Launch} {e : Env} {s : State} {m : MethodId} {below : List Frame} {meth : Method} {c : Code} {b L : Nat} {xs : Nat → Int32} {dC : Nat → ClassId} {dI : Nat → Nat → Nat} {cB : ClassId} {ad am : Nat → Nat} {o n iL : Nat} {Q : State → Prop} (F : LF p l s m c b L xs dC dI cB ad am o) (hni : iL = 5 * n) (hiL : iL + 5 ≤ L) : LCase p l e s m below meth c b dC dI ad am o n iL Q 492 := by
  intro S M H locs hI9 hS kk9 ls hl
  have hx := F.x
  have hb := F.b
  have hml := F.ml
  have hown := F.own
  have hts := F.ts
  have hL := F.hL
  have hn9 : n ≤ 511 := by omega
  refine lv_aload_n hx hb dL_law_492 rfl (lv_at hl 1 rfl) ?_
  refine lv_aload_n hx hb dL_law_493 rfl (lv_at hl 0 rfl) ?_
  refine lv_iload hx hb dL_law_494 (lv_at hl 4 rfl) ?_
  refine lv_iconst (v := nI 1) hx hb dL_law_496 (by decide) ?_
  refine kn_iadd hx hb dL_law_497 ?_
  refine va_sld hx hb F.sc F.bl (fun z => Nat.not_le.mpr F.bl z) hS.st (vp_in_nI (show iL + 1 < L by omega) (by omega)) dL_law_498 ?_
  obtain ⟨x1, hx1⟩ : ∃ z, z = xs (nI (iL + 1)).toNatClampNeg := ⟨_, rfl⟩
  rw [← hx1]
  refine lv_aload_n hx hb dL_law_499 rfl (lv_at hl 3 rfl) ?_
  refine ll_w (vx_runSW (As := [.ref (ad 57), .int x1, .ref o]) (rest := []) ⟨hx, hb, hml, hown, hts⟩ (m_L_turnRow l F.st dC dI cB ad o S x1 hI9.x hI9.x5 (by have := hI9.xp; omega)) (vx_cwSW 3 hts gL_law_L_turnRow rfl rfl rfl hdL_turnRow_3.2 ⟨Nat.le_of_ble_eq_true rfl, Nat.le_of_ble_eq_true rfl⟩) (hS.preW F.K) rfl rfl hl.1 rfl (lv_room (Nat.le_of_ble_eq_true rfl)) dL_law_500 ⟨le_rc (by omega), le_rs (by omega)⟩) F.K hS (fun r0 S1 n1 H locs hq9 hN hS => ?_)
  have hLQ : LQ S S1 := hq9.1
  have hR : R_turnRow x1 S r0 S1 n1 := hq9.2
  clear hq9
  rcases hR with ⟨hb9, rfl, rfl⟩ | ⟨i, r7, hi, rfl, rfl, rfl, hw⟩
  · skip
    refine lv_istore (lv' := [(5, .int (nI 1)), (0, .ref b), (1, .ref (ad 57)), (2, .ref (am 0)), (3, .ref o), (4, .int (nI iL))]) hx hb dL_law_503 hl (by decide) rfl (fun ls hl => ?_)
    refine lv_aload_n hx hb dL_law_505 rfl (lv_at hl 3 rfl) ?_
    refine lv_aload_n hx hb dL_law_506 rfl (lv_at hl 1 rfl) ?_
    refine lv_iload hx hb dL_law_507 (lv_at hl 5 rfl) ?_
    refine lv_iconst (v := nI 1) hx hb dL_law_509 (by decide) ?_
    refine kn_iadd hx hb dL_law_510 ?_
    refine va_sld hx hb F.sc F.bl (fun z => Nat.not_le.mpr F.bl z) hS.st (vp_in_nI (show iL + 1 < L by omega) (by omega)) dL_law_511 ?_
    rw [← hx1]
    have hI := hI9.m
    have T := hI9.T
    have hc : M.2.2.2.1 + 12 < 1000000 := by have := hI9.mp; omega
    refine ll_m (va_runV (As := [.int x1]) (rest := []) ⟨hx, hb, hml, hown, hts⟩ (o_X6_turnRow_1 l dC dI am M x1 hb9 hI) (cwV 1 hts gL_law_X6_turnRow rfl rfl rfl hdX6_turnRow_1 ⟨Nat.le_of_ble_eq_true rfl, Nat.le_of_ble_eq_true rfl⟩) (hS.preM F.K) rfl rfl hl.1 rfl (lv_room (Nat.le_of_ble_eq_true rfl)) dL_law_512 ⟨le_rc (by omega), le_rs (by omega)⟩) F.K hS (fun r8 M1 H locs hko hv hS => ?_)
    have hLM : LM M M1 := by rw [hv]; exact LM_th hI _
    have hT : Tie2 S M1 := by rw [hv]; exact T.th _
    refine lv_istore (lv' := [(6, .int r8), (5, .int (nI 1)), (0, .ref b), (1, .ref (ad 57)), (2, .ref (am 0)), (3, .ref o), (4, .int (nI iL))]) hx hb dL_law_515 hl (by decide) rfl (fun ls hl => ?_)
    refine lv_goto (tgt := 2052) hx hb dL_law_517 (by decide) ?_
    exact W.widen (k := 100 + 224 * (n + 1)) (n := 1200 + 10680 * (n + 1)) (by omega) (by omega) (kk9 S M1 _ _ _ (hI9.next hLQ hLM hT) hS (lv_sub hl [2, 3, 4, 5, 6] rfl))
  · skip
    refine lv_istore (lv' := [(5, .int (nI 0)), (0, .ref b), (1, .ref (ad 57)), (2, .ref (am 0)), (3, .ref o), (4, .int (nI iL))]) hx hb dL_law_503 hl (by decide) rfl (fun ls hl => ?_)
    refine lv_aload_n hx hb dL_law_505 rfl (lv_at hl 3 rfl) ?_
    refine lv_aload_n hx hb dL_law_506 rfl (lv_at hl 1 rfl) ?_
    refine lv_iload hx hb dL_law_507 (lv_at hl 5 rfl) ?_
    refine lv_iconst (v := nI 1) hx hb dL_law_509 (by decide) ?_
    refine kn_iadd hx hb dL_law_510 ?_
    refine va_sld hx hb F.sc F.bl (fun z => Nat.not_le.mpr F.bl z) hS.st (vp_in_nI (show iL + 1 < L by omega) (by omega)) dL_law_511 ?_
    rw [← hx1]
    have hI := hI9.m
    have T := hI9.T
    have hc : M.2.2.2.1 + 12 < 1000000 := by have := hI9.mp; omega
    have hn := (hI.1 i hi).1
    refine ll_m (va_runV (As := [.int (nI i)]) (rest := []) ⟨hx, hb, hml, hown, hts⟩ (m_X6_turnRow l dC dI am M i hi hI) (cwV 1 hts gL_law_X6_turnRow rfl rfl rfl hdX6_turnRow_1 ⟨Nat.le_of_ble_eq_true rfl, Nat.le_of_ble_eq_true rfl⟩) (hS.preM F.K) rfl rfl hl.1 rfl (lv_room (Nat.le_of_ble_eq_true rfl)) dL_law_512 ⟨le_rc (by omega), le_rs (by omega)⟩) F.K hS (fun r8 M1 H locs hko hv hS => ?_)
    have hLM : LM M M1 := by rw [hv.2]; exact LM_row0 hI (rowM_rev (hI.1 i hi))
    obtain ⟨hT, he9, ht9⟩ := (A_turnRow T.1 hi hw hv).two (E_turnRow T.1 T.2 hi hw hv)
    refine lv_istore (lv' := [(6, .int r8), (5, .int (nI 0)), (0, .ref b), (1, .ref (ad 57)), (2, .ref (am 0)), (3, .ref o), (4, .int (nI iL))]) hx hb dL_law_515 hl (by decide) rfl (fun ls hl => ?_)
    refine lv_goto (tgt := 2052) hx hb dL_law_517 (by decide) ?_
    exact W.widen (k := 100 + 224 * (n + 1)) (n := 1200 + 10680 * (n + 1)) (by omega) (by omega) (kk9 S1 M1 _ _ _ (hI9.next hLQ hLM hT) hS (lv_sub hl [2, 3, 4, 5, 6] rfl))
set_option maxHeartbeats 4000000 in
set_option maxRecDepth 100000 in
theorem lc_7 {p : Program} {l : Launch} {e : Env} {s : State} {m : MethodId} {below : List Frame} {meth : Method} {c : Code} {b L : Nat} {xs : Nat → Int32} {dC : Nat → ClassId} {dI : Nat → Nat → Nat} {cB : ClassId} {ad am : Nat → Nat} {o n iL : Nat} {Q : State → Prop} (F : LF p l s m c b L xs dC dI cB ad am o) (hni : iL = 5 * n) (hiL : iL + 5 ≤ L) : LCase p l e s m below meth c b dC dI ad am o n iL Q 520 := by
  intro S M H locs hI9 hS kk9 ls hl
  have hx := F.x
  have hb := F.b
  have hml := F.ml
  have hown := F.own
  have hts := F.ts
  have hL := F.hL
  have hn9 : n ≤ 511 := by omega
  refine lv_aload_n hx hb dL_law_520 rfl (lv_at hl 1 rfl) ?_
  refine lv_aload_n hx hb dL_law_521 rfl (lv_at hl 0 rfl) ?_
  refine lv_iload hx hb dL_law_522 (lv_at hl 4 rfl) ?_
  refine lv_iconst (v := nI 1) hx hb dL_law_524 (by decide) ?_
  refine kn_iadd hx hb dL_law_525 ?_
  refine va_sld hx hb F.sc F.bl (fun z => Nat.not_le.mpr F.bl z) hS.st (vp_in_nI (show iL + 1 < L by omega) (by omega)) dL_law_526 ?_
  obtain ⟨x1, hx1⟩ : ∃ z, z = xs (nI (iL + 1)).toNatClampNeg := ⟨_, rfl⟩
  rw [← hx1]
  refine lv_aload_n hx hb dL_law_527 rfl (lv_at hl 0 rfl) ?_
  refine lv_iload hx hb dL_law_528 (lv_at hl 4 rfl) ?_
  refine lv_iconst (v := nI 2) hx hb dL_law_530 (by decide) ?_
  refine kn_iadd hx hb dL_law_531 ?_
  refine va_sld hx hb F.sc F.bl (fun z => Nat.not_le.mpr F.bl z) hS.st (vp_in_nI (show iL + 2 < L by omega) (by omega)) dL_law_532 ?_
  obtain ⟨x2, hx2⟩ : ∃ z, z = xs (nI (iL + 2)).toNatClampNeg := ⟨_, rfl⟩
  rw [← hx2]
  refine lv_aload_n hx hb dL_law_533 rfl (lv_at hl 3 rfl) ?_
  refine ll_w (vx_runSW (As := [.ref (ad 57), .int x1, .int x2, .ref o]) (rest := []) ⟨hx, hb, hml, hown, hts⟩ (m_L_wheel l F.st dC dI cB ad o S x1 x2 hI9.x hI9.x5 (by have := hI9.xp; omega)) (vx_cwSW 4 hts gL_law_L_wheel rfl rfl rfl hdL_wheel_4.2 ⟨Nat.le_of_ble_eq_true rfl, Nat.le_of_ble_eq_true rfl⟩) (hS.preW F.K) rfl rfl hl.1 rfl (lv_room (Nat.le_of_ble_eq_true rfl)) dL_law_534 ⟨le_rc (by omega), le_rs (by omega)⟩) F.K hS (fun r0 S1 n1 H locs hq9 hN hS => ?_)
  have hLQ : LQ S S1 := hq9.1
  have hR : R_wheel x1 x2 S r0 S1 n1 := hq9.2
  clear hq9
  rcases hR with ⟨hb9, rfl, rfl⟩ | ⟨i, r7, hi, rfl, rfl, rfl, hw⟩
  · skip
    refine lv_istore (lv' := [(5, .int (nI 1)), (0, .ref b), (1, .ref (ad 57)), (2, .ref (am 0)), (3, .ref o), (4, .int (nI iL))]) hx hb dL_law_537 hl (by decide) rfl (fun ls hl => ?_)
    refine lv_aload_n hx hb dL_law_539 rfl (lv_at hl 3 rfl) ?_
    refine lv_aload_n hx hb dL_law_540 rfl (lv_at hl 1 rfl) ?_
    refine lv_iload hx hb dL_law_541 (lv_at hl 5 rfl) ?_
    refine lv_iconst (v := nI 1) hx hb dL_law_543 (by decide) ?_
    refine kn_iadd hx hb dL_law_544 ?_
    refine va_sld hx hb F.sc F.bl (fun z => Nat.not_le.mpr F.bl z) hS.st (vp_in_nI (show iL + 1 < L by omega) (by omega)) dL_law_545 ?_
    rw [← hx1]
    refine lv_aload_n hx hb dL_law_546 rfl (lv_at hl 1 rfl) ?_
    refine lv_iload hx hb dL_law_547 (lv_at hl 5 rfl) ?_
    refine lv_iconst (v := nI 2) hx hb dL_law_549 (by decide) ?_
    refine kn_iadd hx hb dL_law_550 ?_
    refine va_sld hx hb F.sc F.bl (fun z => Nat.not_le.mpr F.bl z) hS.st (vp_in_nI (show iL + 2 < L by omega) (by omega)) dL_law_551 ?_
    rw [← hx2]
    have hI := hI9.m
    have T := hI9.T
    have hc : M.2.2.2.1 + 12 < 1000000 := by have := hI9.mp; omega
    refine ll_m (va_runV (As := [.int x1, .int x2]) (rest := []) ⟨hx, hb, hml, hown, hts⟩ (o_X6_wheel_1 l dC dI am M x1 x2 hb9 hI) (cwV 2 hts gL_law_X6_wheel rfl rfl rfl hdX6_wheel_2 ⟨Nat.le_of_ble_eq_true rfl, Nat.le_of_ble_eq_true rfl⟩) (hS.preM F.K) rfl rfl hl.1 rfl (lv_room (Nat.le_of_ble_eq_true rfl)) dL_law_552 ⟨le_rc (by omega), le_rs (by omega)⟩) F.K hS (fun r8 M1 H locs hko hv hS => ?_)
    have hLM : LM M M1 := by rw [hv]; exact LM_th hI _
    have hT : Tie2 S M1 := by rw [hv]; exact T.th _
    refine lv_istore (lv' := [(6, .int r8), (5, .int (nI 1)), (0, .ref b), (1, .ref (ad 57)), (2, .ref (am 0)), (3, .ref o), (4, .int (nI iL))]) hx hb dL_law_555 hl (by decide) rfl (fun ls hl => ?_)
    refine lv_goto (tgt := 2052) hx hb dL_law_557 (by decide) ?_
    exact W.widen (k := 100 + 224 * (n + 1)) (n := 1200 + 10680 * (n + 1)) (by omega) (by omega) (kk9 S M1 _ _ _ (hI9.next hLQ hLM hT) hS (lv_sub hl [2, 3, 4, 5, 6] rfl))
  · skip
    refine lv_istore (lv' := [(5, .int (nI 0)), (0, .ref b), (1, .ref (ad 57)), (2, .ref (am 0)), (3, .ref o), (4, .int (nI iL))]) hx hb dL_law_537 hl (by decide) rfl (fun ls hl => ?_)
    refine lv_aload_n hx hb dL_law_539 rfl (lv_at hl 3 rfl) ?_
    refine lv_aload_n hx hb dL_law_540 rfl (lv_at hl 1 rfl) ?_
    refine lv_iload hx hb dL_law_541 (lv_at hl 5 rfl) ?_
    refine lv_iconst (v := nI 1) hx hb dL_law_543 (by decide) ?_
    refine kn_iadd hx hb dL_law_544 ?_
    refine va_sld hx hb F.sc F.bl (fun z => Nat.not_le.mpr F.bl z) hS.st (vp_in_nI (show iL + 1 < L by omega) (by omega)) dL_law_545 ?_
    rw [← hx1]
    refine lv_aload_n hx hb dL_law_546 rfl (lv_at hl 1 rfl) ?_
    refine lv_iload hx hb dL_law_547 (lv_at hl 5 rfl) ?_
    refine lv_iconst (v := nI 2) hx hb dL_law_549 (by decide) ?_
    refine kn_iadd hx hb dL_law_550 ?_
    refine va_sld hx hb F.sc F.bl (fun z => Nat.not_le.mpr F.bl z) hS.st (vp_in_nI (show iL + 2 < L by omega) (by omega)) dL_law_551 ?_
    rw [← hx2]
    have hI := hI9.m
    have T := hI9.T
    have hc : M.2.2.2.1 + 12 < 1000000 := by have := hI9.mp; omega
    have hn := (hI.1 i hi).1
    refine ll_m (va_runV (As := [.int (nI i), .int x2]) (rest := []) ⟨hx, hb, hml, hown, hts⟩ (m_X6_wheel l dC dI am M i x2 hi hI) (cwV 2 hts gL_law_X6_wheel rfl rfl rfl hdX6_wheel_2 ⟨Nat.le_of_ble_eq_true rfl, Nat.le_of_ble_eq_true rfl⟩) (hS.preM F.K) rfl rfl hl.1 rfl (lv_room (Nat.le_of_ble_eq_true rfl)) dL_law_552 ⟨le_rc (by omega), le_rs (by omega)⟩) F.K hS (fun r8 M1 H locs hko hv hS => ?_)
    have hLM : LM M M1 := hv.elim (fun h => by rw [h.2.2]; exact LM_th hI 0) (fun h => by obtain ⟨h0, sh, -, -, -, h1⟩ := h; rw [h1]; exact LM_row0 hI (rowM_of (hI.1 i hi).1 (rotI_lt (hI.1 i hi).1 h0 (fun k hk => ((hI.1 i hi).2 k hk).1) sh) (rotI_lt (hI.1 i hi).1 h0 (fun k hk => ((hI.1 i hi).2 k hk).2) sh)))
    obtain ⟨hT, he9, ht9⟩ := A_wheel T.1 T.2 hi (hI.1 i hi).1 hw hv
    refine lv_istore (lv' := [(6, .int r8), (5, .int (nI 0)), (0, .ref b), (1, .ref (ad 57)), (2, .ref (am 0)), (3, .ref o), (4, .int (nI iL))]) hx hb dL_law_555 hl (by decide) rfl (fun ls hl => ?_)
    refine lv_goto (tgt := 2052) hx hb dL_law_557 (by decide) ?_
    exact W.widen (k := 100 + 224 * (n + 1)) (n := 1200 + 10680 * (n + 1)) (by omega) (by omega) (kk9 S1 M1 _ _ _ (hI9.next hLQ hLM hT) hS (lv_sub hl [2, 3, 4, 5, 6] rfl))
set_option maxHeartbeats 4000000 in
set_option maxRecDepth 100000 in
theorem lc_8 {p : Program} {l : Launch} {e : Env} {s : State} {m : MethodId} {below : List Frame} {meth : Method} {c : Code} {b L : Nat} {xs : Nat → Int32} {dC : Nat → ClassId} {dI : Nat → Nat → Nat} {cB : ClassId} {ad am : Nat → Nat} {o n iL : Nat} {Q : State → Prop} (F : LF p l s m c b L xs dC dI cB ad am o) (hni : iL = 5 * n) (hiL : iL + 5 ≤ L) : LCase p l e s m below meth c b dC dI ad am o n iL Q 560 := by
  intro S M H locs hI9 hS kk9 ls hl
  have hx := F.x
  have hb := F.b
  have hml := F.ml
  have hown := F.own
  have hts := F.ts
  have hL := F.hL
  have hn9 : n ≤ 511 := by omega
  refine lv_aload_n hx hb dL_law_560 rfl (lv_at hl 1 rfl) ?_
  refine lv_aload_n hx hb dL_law_561 rfl (lv_at hl 0 rfl) ?_
  refine lv_iload hx hb dL_law_562 (lv_at hl 4 rfl) ?_
  refine lv_iconst (v := nI 1) hx hb dL_law_564 (by decide) ?_
  refine kn_iadd hx hb dL_law_565 ?_
  refine va_sld hx hb F.sc F.bl (fun z => Nat.not_le.mpr F.bl z) hS.st (vp_in_nI (show iL + 1 < L by omega) (by omega)) dL_law_566 ?_
  obtain ⟨x1, hx1⟩ : ∃ z, z = xs (nI (iL + 1)).toNatClampNeg := ⟨_, rfl⟩
  rw [← hx1]
  refine lv_aload_n hx hb dL_law_567 rfl (lv_at hl 0 rfl) ?_
  refine lv_iload hx hb dL_law_568 (lv_at hl 4 rfl) ?_
  refine lv_iconst (v := nI 2) hx hb dL_law_570 (by decide) ?_
  refine kn_iadd hx hb dL_law_571 ?_
  refine va_sld hx hb F.sc F.bl (fun z => Nat.not_le.mpr F.bl z) hS.st (vp_in_nI (show iL + 2 < L by omega) (by omega)) dL_law_572 ?_
  obtain ⟨x2, hx2⟩ : ∃ z, z = xs (nI (iL + 2)).toNatClampNeg := ⟨_, rfl⟩
  rw [← hx2]
  refine lv_aload_n hx hb dL_law_573 rfl (lv_at hl 0 rfl) ?_
  refine lv_iload hx hb dL_law_574 (lv_at hl 4 rfl) ?_
  refine lv_iconst (v := nI 3) hx hb dL_law_576 (by decide) ?_
  refine kn_iadd hx hb dL_law_577 ?_
  refine va_sld hx hb F.sc F.bl (fun z => Nat.not_le.mpr F.bl z) hS.st (vp_in_nI (show iL + 3 < L by omega) (by omega)) dL_law_578 ?_
  obtain ⟨x3, hx3⟩ : ∃ z, z = xs (nI (iL + 3)).toNatClampNeg := ⟨_, rfl⟩
  rw [← hx3]
  refine lv_aload_n hx hb dL_law_579 rfl (lv_at hl 3 rfl) ?_
  refine ll_w (vx_runSW (As := [.ref (ad 57), .int x1, .int x2, .int x3, .ref o]) (rest := []) ⟨hx, hb, hml, hown, hts⟩ (m_L_swap l F.st dC dI cB ad o S x1 x2 x3 hI9.x hI9.x5 (by have := hI9.xp; omega)) (vx_cwSW 5 hts gL_law_L_swap rfl rfl rfl hdL_swap_5.2 ⟨Nat.le_of_ble_eq_true rfl, Nat.le_of_ble_eq_true rfl⟩) (hS.preW F.K) rfl rfl hl.1 rfl (lv_room (Nat.le_of_ble_eq_true rfl)) dL_law_580 ⟨le_rc (by omega), le_rs (by omega)⟩) F.K hS (fun r0 S1 n1 H locs hq9 hN hS => ?_)
  have hLQ : LQ S S1 := hq9.1
  have hR : R_swap x1 x2 x3 S r0 S1 n1 := hq9.2
  clear hq9
  rcases hR with ⟨hb9, rfl, rfl⟩ | ⟨i, hi, rfl, hb9, rfl, rfl⟩ | ⟨i, q, hi, hq, rfl, rfl, hb9, rfl, rfl⟩ | ⟨i, q, q2, r7, hi, hq, hq2, rfl, rfl, rfl, rfl, rfl, hw⟩
  · skip
    refine lv_istore (lv' := [(5, .int (nI 1)), (0, .ref b), (1, .ref (ad 57)), (2, .ref (am 0)), (3, .ref o), (4, .int (nI iL))]) hx hb dL_law_583 hl (by decide) rfl (fun ls hl => ?_)
    refine lv_aload_n hx hb dL_law_585 rfl (lv_at hl 3 rfl) ?_
    refine lv_aload_n hx hb dL_law_586 rfl (lv_at hl 1 rfl) ?_
    refine lv_iload hx hb dL_law_587 (lv_at hl 5 rfl) ?_
    refine lv_iconst (v := nI 1) hx hb dL_law_589 (by decide) ?_
    refine kn_iadd hx hb dL_law_590 ?_
    refine va_sld hx hb F.sc F.bl (fun z => Nat.not_le.mpr F.bl z) hS.st (vp_in_nI (show iL + 1 < L by omega) (by omega)) dL_law_591 ?_
    rw [← hx1]
    refine lv_aload_n hx hb dL_law_592 rfl (lv_at hl 1 rfl) ?_
    refine lv_iload hx hb dL_law_593 (lv_at hl 5 rfl) ?_
    refine lv_iconst (v := nI 2) hx hb dL_law_595 (by decide) ?_
    refine kn_iadd hx hb dL_law_596 ?_
    refine va_sld hx hb F.sc F.bl (fun z => Nat.not_le.mpr F.bl z) hS.st (vp_in_nI (show iL + 2 < L by omega) (by omega)) dL_law_597 ?_
    rw [← hx2]
    refine lv_aload_n hx hb dL_law_598 rfl (lv_at hl 1 rfl) ?_
    refine lv_iload hx hb dL_law_599 (lv_at hl 5 rfl) ?_
    refine lv_iconst (v := nI 3) hx hb dL_law_601 (by decide) ?_
    refine kn_iadd hx hb dL_law_602 ?_
    refine va_sld hx hb F.sc F.bl (fun z => Nat.not_le.mpr F.bl z) hS.st (vp_in_nI (show iL + 3 < L by omega) (by omega)) dL_law_603 ?_
    rw [← hx3]
    have hI := hI9.m
    have T := hI9.T
    have hc : M.2.2.2.1 + 12 < 1000000 := by have := hI9.mp; omega
    refine ll_m (va_runV (As := [.int x1, .int x2, .int x3]) (rest := []) ⟨hx, hb, hml, hown, hts⟩ (o_X6_swap_1 l dC dI am M x1 x2 x3 hb9 hI) (cwV 3 hts gL_law_X6_swap rfl rfl rfl hdX6_swap_3 ⟨Nat.le_of_ble_eq_true rfl, Nat.le_of_ble_eq_true rfl⟩) (hS.preM F.K) rfl rfl hl.1 rfl (lv_room (Nat.le_of_ble_eq_true rfl)) dL_law_604 ⟨le_rc (by omega), le_rs (by omega)⟩) F.K hS (fun r8 M1 H locs hko hv hS => ?_)
    have hLM : LM M M1 := by rw [hv]; exact LM_th hI _
    have hT : Tie2 S M1 := by rw [hv]; exact T.th _
    refine lv_istore (lv' := [(6, .int r8), (5, .int (nI 1)), (0, .ref b), (1, .ref (ad 57)), (2, .ref (am 0)), (3, .ref o), (4, .int (nI iL))]) hx hb dL_law_607 hl (by decide) rfl (fun ls hl => ?_)
    refine lv_goto (tgt := 2052) hx hb dL_law_609 (by decide) ?_
    exact W.widen (k := 100 + 224 * (n + 1)) (n := 1200 + 10680 * (n + 1)) (by omega) (by omega) (kk9 S M1 _ _ _ (hI9.next hLQ hLM hT) hS (lv_sub hl [2, 3, 4, 5, 6] rfl))
  · skip
    refine lv_istore (lv' := [(5, .int (nI 1)), (0, .ref b), (1, .ref (ad 57)), (2, .ref (am 0)), (3, .ref o), (4, .int (nI iL))]) hx hb dL_law_583 hl (by decide) rfl (fun ls hl => ?_)
    refine lv_aload_n hx hb dL_law_585 rfl (lv_at hl 3 rfl) ?_
    refine lv_aload_n hx hb dL_law_586 rfl (lv_at hl 1 rfl) ?_
    refine lv_iload hx hb dL_law_587 (lv_at hl 5 rfl) ?_
    refine lv_iconst (v := nI 1) hx hb dL_law_589 (by decide) ?_
    refine kn_iadd hx hb dL_law_590 ?_
    refine va_sld hx hb F.sc F.bl (fun z => Nat.not_le.mpr F.bl z) hS.st (vp_in_nI (show iL + 1 < L by omega) (by omega)) dL_law_591 ?_
    rw [← hx1]
    refine lv_aload_n hx hb dL_law_592 rfl (lv_at hl 1 rfl) ?_
    refine lv_iload hx hb dL_law_593 (lv_at hl 5 rfl) ?_
    refine lv_iconst (v := nI 2) hx hb dL_law_595 (by decide) ?_
    refine kn_iadd hx hb dL_law_596 ?_
    refine va_sld hx hb F.sc F.bl (fun z => Nat.not_le.mpr F.bl z) hS.st (vp_in_nI (show iL + 2 < L by omega) (by omega)) dL_law_597 ?_
    rw [← hx2]
    refine lv_aload_n hx hb dL_law_598 rfl (lv_at hl 1 rfl) ?_
    refine lv_iload hx hb dL_law_599 (lv_at hl 5 rfl) ?_
    refine lv_iconst (v := nI 3) hx hb dL_law_601 (by decide) ?_
    refine kn_iadd hx hb dL_law_602 ?_
    refine va_sld hx hb F.sc F.bl (fun z => Nat.not_le.mpr F.bl z) hS.st (vp_in_nI (show iL + 3 < L by omega) (by omega)) dL_law_603 ?_
    rw [← hx3]
    have hI := hI9.m
    have T := hI9.T
    have hc : M.2.2.2.1 + 12 < 1000000 := by have := hI9.mp; omega
    have hn := (hI.1 i hi).1
    rw [T.sz hi] at hb9
    refine ll_m (va_runV (As := [.int (nI i), .int x2, .int x3]) (rest := []) ⟨hx, hb, hml, hown, hts⟩ (o_X6_swap_2 l dC dI am M i x2 x3 hi hb9 hI) (cwV 3 hts gL_law_X6_swap rfl rfl rfl hdX6_swap_3 ⟨Nat.le_of_ble_eq_true rfl, Nat.le_of_ble_eq_true rfl⟩) (hS.preM F.K) rfl rfl hl.1 rfl (lv_room (Nat.le_of_ble_eq_true rfl)) dL_law_604 ⟨le_rc (by omega), le_rs (by omega)⟩) F.K hS (fun r8 M1 H locs hko hv hS => ?_)
    have hLM : LM M M1 := by rw [hv]; exact LM_th hI _
    have hT : Tie2 S M1 := by rw [hv]; exact T.th _
    refine lv_istore (lv' := [(6, .int r8), (5, .int (nI 1)), (0, .ref b), (1, .ref (ad 57)), (2, .ref (am 0)), (3, .ref o), (4, .int (nI iL))]) hx hb dL_law_607 hl (by decide) rfl (fun ls hl => ?_)
    refine lv_goto (tgt := 2052) hx hb dL_law_609 (by decide) ?_
    exact W.widen (k := 100 + 224 * (n + 1)) (n := 1200 + 10680 * (n + 1)) (by omega) (by omega) (kk9 S M1 _ _ _ (hI9.next hLQ hLM hT) hS (lv_sub hl [2, 3, 4, 5, 6] rfl))
  · skip
    refine lv_istore (lv' := [(5, .int (nI 1)), (0, .ref b), (1, .ref (ad 57)), (2, .ref (am 0)), (3, .ref o), (4, .int (nI iL))]) hx hb dL_law_583 hl (by decide) rfl (fun ls hl => ?_)
    refine lv_aload_n hx hb dL_law_585 rfl (lv_at hl 3 rfl) ?_
    refine lv_aload_n hx hb dL_law_586 rfl (lv_at hl 1 rfl) ?_
    refine lv_iload hx hb dL_law_587 (lv_at hl 5 rfl) ?_
    refine lv_iconst (v := nI 1) hx hb dL_law_589 (by decide) ?_
    refine kn_iadd hx hb dL_law_590 ?_
    refine va_sld hx hb F.sc F.bl (fun z => Nat.not_le.mpr F.bl z) hS.st (vp_in_nI (show iL + 1 < L by omega) (by omega)) dL_law_591 ?_
    rw [← hx1]
    refine lv_aload_n hx hb dL_law_592 rfl (lv_at hl 1 rfl) ?_
    refine lv_iload hx hb dL_law_593 (lv_at hl 5 rfl) ?_
    refine lv_iconst (v := nI 2) hx hb dL_law_595 (by decide) ?_
    refine kn_iadd hx hb dL_law_596 ?_
    refine va_sld hx hb F.sc F.bl (fun z => Nat.not_le.mpr F.bl z) hS.st (vp_in_nI (show iL + 2 < L by omega) (by omega)) dL_law_597 ?_
    rw [← hx2]
    refine lv_aload_n hx hb dL_law_598 rfl (lv_at hl 1 rfl) ?_
    refine lv_iload hx hb dL_law_599 (lv_at hl 5 rfl) ?_
    refine lv_iconst (v := nI 3) hx hb dL_law_601 (by decide) ?_
    refine kn_iadd hx hb dL_law_602 ?_
    refine va_sld hx hb F.sc F.bl (fun z => Nat.not_le.mpr F.bl z) hS.st (vp_in_nI (show iL + 3 < L by omega) (by omega)) dL_law_603 ?_
    rw [← hx3]
    have hI := hI9.m
    have T := hI9.T
    have hc : M.2.2.2.1 + 12 < 1000000 := by have := hI9.mp; omega
    have hqM : q < (M.1 i).2.2 := by rw [← T.sz hi]; exact hq
    have hn := (hI.1 i hi).1
    rw [T.sz hi] at hb9
    refine ll_m (va_runV (As := [.int (nI i), .int (nI q), .int x3]) (rest := []) ⟨hx, hb, hml, hown, hts⟩ (o_X6_swap_3 l dC dI am M i q x3 hi hqM hb9 hI) (cwV 3 hts gL_law_X6_swap rfl rfl rfl hdX6_swap_3 ⟨Nat.le_of_ble_eq_true rfl, Nat.le_of_ble_eq_true rfl⟩) (hS.preM F.K) rfl rfl hl.1 rfl (lv_room (Nat.le_of_ble_eq_true rfl)) dL_law_604 ⟨le_rc (by omega), le_rs (by omega)⟩) F.K hS (fun r8 M1 H locs hko hv hS => ?_)
    have hLM : LM M M1 := by rw [hv]; exact LM_th hI _
    have hT : Tie2 S M1 := by rw [hv]; exact T.th _
    refine lv_istore (lv' := [(6, .int r8), (5, .int (nI 1)), (0, .ref b), (1, .ref (ad 57)), (2, .ref (am 0)), (3, .ref o), (4, .int (nI iL))]) hx hb dL_law_607 hl (by decide) rfl (fun ls hl => ?_)
    refine lv_goto (tgt := 2052) hx hb dL_law_609 (by decide) ?_
    exact W.widen (k := 100 + 224 * (n + 1)) (n := 1200 + 10680 * (n + 1)) (by omega) (by omega) (kk9 S M1 _ _ _ (hI9.next hLQ hLM hT) hS (lv_sub hl [2, 3, 4, 5, 6] rfl))
  · skip
    refine lv_istore (lv' := [(5, .int (nI 0)), (0, .ref b), (1, .ref (ad 57)), (2, .ref (am 0)), (3, .ref o), (4, .int (nI iL))]) hx hb dL_law_583 hl (by decide) rfl (fun ls hl => ?_)
    refine lv_aload_n hx hb dL_law_585 rfl (lv_at hl 3 rfl) ?_
    refine lv_aload_n hx hb dL_law_586 rfl (lv_at hl 1 rfl) ?_
    refine lv_iload hx hb dL_law_587 (lv_at hl 5 rfl) ?_
    refine lv_iconst (v := nI 1) hx hb dL_law_589 (by decide) ?_
    refine kn_iadd hx hb dL_law_590 ?_
    refine va_sld hx hb F.sc F.bl (fun z => Nat.not_le.mpr F.bl z) hS.st (vp_in_nI (show iL + 1 < L by omega) (by omega)) dL_law_591 ?_
    rw [← hx1]
    refine lv_aload_n hx hb dL_law_592 rfl (lv_at hl 1 rfl) ?_
    refine lv_iload hx hb dL_law_593 (lv_at hl 5 rfl) ?_
    refine lv_iconst (v := nI 2) hx hb dL_law_595 (by decide) ?_
    refine kn_iadd hx hb dL_law_596 ?_
    refine va_sld hx hb F.sc F.bl (fun z => Nat.not_le.mpr F.bl z) hS.st (vp_in_nI (show iL + 2 < L by omega) (by omega)) dL_law_597 ?_
    rw [← hx2]
    refine lv_aload_n hx hb dL_law_598 rfl (lv_at hl 1 rfl) ?_
    refine lv_iload hx hb dL_law_599 (lv_at hl 5 rfl) ?_
    refine lv_iconst (v := nI 3) hx hb dL_law_601 (by decide) ?_
    refine kn_iadd hx hb dL_law_602 ?_
    refine va_sld hx hb F.sc F.bl (fun z => Nat.not_le.mpr F.bl z) hS.st (vp_in_nI (show iL + 3 < L by omega) (by omega)) dL_law_603 ?_
    rw [← hx3]
    have hI := hI9.m
    have T := hI9.T
    have hc : M.2.2.2.1 + 12 < 1000000 := by have := hI9.mp; omega
    have hqM : q < (M.1 i).2.2 := by rw [← T.sz hi]; exact hq
    have hq2M : q2 < (M.1 i).2.2 := by rw [← T.sz hi]; exact hq2
    have hn := (hI.1 i hi).1
    refine ll_m (va_runV (As := [.int (nI i), .int (nI q), .int (nI q2)]) (rest := []) ⟨hx, hb, hml, hown, hts⟩ (m_X6_swap l dC dI am M i q q2 hi hqM hq2M hI) (cwV 3 hts gL_law_X6_swap rfl rfl rfl hdX6_swap_3 ⟨Nat.le_of_ble_eq_true rfl, Nat.le_of_ble_eq_true rfl⟩) (hS.preM F.K) rfl rfl hl.1 rfl (lv_room (Nat.le_of_ble_eq_true rfl)) dL_law_604 ⟨le_rc (by omega), le_rs (by omega)⟩) F.K hS (fun r8 M1 H locs hko hv hS => ?_)
    have hLM : LM M M1 := by rw [hv.2]; exact LM_row0 hI (rowM_xch (hI.1 i hi) (by omega) (by omega))
    obtain ⟨hT, he9, ht9⟩ := A_swap T.1 T.2 hi hq hq2 hw hv
    refine lv_istore (lv' := [(6, .int r8), (5, .int (nI 0)), (0, .ref b), (1, .ref (ad 57)), (2, .ref (am 0)), (3, .ref o), (4, .int (nI iL))]) hx hb dL_law_607 hl (by decide) rfl (fun ls hl => ?_)
    refine lv_goto (tgt := 2052) hx hb dL_law_609 (by decide) ?_
    exact W.widen (k := 100 + 224 * (n + 1)) (n := 1200 + 10680 * (n + 1)) (by omega) (by omega) (kk9 S1 M1 _ _ _ (hI9.next hLQ hLM hT) hS (lv_sub hl [2, 3, 4, 5, 6] rfl))
set_option maxHeartbeats 4000000 in
set_option maxRecDepth 100000 in
theorem lc_9 {p : Program} {l : Launch} {e : Env} {s : State} {m : MethodId} {below : List Frame} {meth : Method} {c : Code} {b L : Nat} {xs : Nat → Int32} {dC : Nat → ClassId} {dI : Nat → Nat → Nat} {cB : ClassId} {ad am : Nat → Nat} {o n iL : Nat} {Q : State → Prop} (F : LF p l s m c b L xs dC dI cB ad am o) (hni : iL = 5 * n) (hiL : iL + 5 ≤ L) : LCase p l e s m below meth c b dC dI ad am o n iL Q 612 := by
  intro S M H locs hI9 hS kk9 ls hl
  have hx := F.x
  have hb := F.b
  have hml := F.ml
  have hown := F.own
  have hts := F.ts
  have hL := F.hL
  have hn9 : n ≤ 511 := by omega
  refine lv_aload_n hx hb dL_law_612 rfl (lv_at hl 1 rfl) ?_
  refine lv_aload_n hx hb dL_law_613 rfl (lv_at hl 0 rfl) ?_
  refine lv_iload hx hb dL_law_614 (lv_at hl 4 rfl) ?_
  refine lv_iconst (v := nI 1) hx hb dL_law_616 (by decide) ?_
  refine kn_iadd hx hb dL_law_617 ?_
  refine va_sld hx hb F.sc F.bl (fun z => Nat.not_le.mpr F.bl z) hS.st (vp_in_nI (show iL + 1 < L by omega) (by omega)) dL_law_618 ?_
  obtain ⟨x1, hx1⟩ : ∃ z, z = xs (nI (iL + 1)).toNatClampNeg := ⟨_, rfl⟩
  rw [← hx1]
  refine lv_aload_n hx hb dL_law_619 rfl (lv_at hl 0 rfl) ?_
  refine lv_iload hx hb dL_law_620 (lv_at hl 4 rfl) ?_
  refine lv_iconst (v := nI 2) hx hb dL_law_622 (by decide) ?_
  refine kn_iadd hx hb dL_law_623 ?_
  refine va_sld hx hb F.sc F.bl (fun z => Nat.not_le.mpr F.bl z) hS.st (vp_in_nI (show iL + 2 < L by omega) (by omega)) dL_law_624 ?_
  obtain ⟨x2, hx2⟩ : ∃ z, z = xs (nI (iL + 2)).toNatClampNeg := ⟨_, rfl⟩
  rw [← hx2]
  refine lv_aload_n hx hb dL_law_625 rfl (lv_at hl 0 rfl) ?_
  refine lv_iload hx hb dL_law_626 (lv_at hl 4 rfl) ?_
  refine lv_iconst (v := nI 3) hx hb dL_law_628 (by decide) ?_
  refine kn_iadd hx hb dL_law_629 ?_
  refine va_sld hx hb F.sc F.bl (fun z => Nat.not_le.mpr F.bl z) hS.st (vp_in_nI (show iL + 3 < L by omega) (by omega)) dL_law_630 ?_
  obtain ⟨x3, hx3⟩ : ∃ z, z = xs (nI (iL + 3)).toNatClampNeg := ⟨_, rfl⟩
  rw [← hx3]
  refine lv_aload_n hx hb dL_law_631 rfl (lv_at hl 3 rfl) ?_
  refine ll_w (vx_runSW (As := [.ref (ad 57), .int x1, .int x2, .int x3, .ref o]) (rest := []) ⟨hx, hb, hml, hown, hts⟩ (m_L_sort l F.st dC dI cB ad o S x1 x2 x3 hI9.x hI9.x5 (by have := hI9.xp; omega)) (vx_cwSW 5 hts gL_law_L_sort rfl rfl rfl hdL_sort_5.2 ⟨Nat.le_of_ble_eq_true rfl, Nat.le_of_ble_eq_true rfl⟩) (hS.preW F.K) rfl rfl hl.1 rfl (lv_room (Nat.le_of_ble_eq_true rfl)) dL_law_632 ⟨le_rc (by omega), le_rs (by omega)⟩) F.K hS (fun r0 S1 n1 H locs hq9 hN hS => ?_)
  have hLQ : LQ S S1 := hq9.1
  have hR : R_sort x1 x2 x3 S r0 S1 n1 := hq9.2
  clear hq9
  rcases hR with ⟨hb9, rfl, rfl⟩ | ⟨i, hi, rfl, hb9, rfl, rfl⟩ | ⟨i, j, hi, hj, rfl, rfl, hb9, rfl, rfl⟩ | ⟨i, j, k, r7, hi, hj, hk, rfl, rfl, rfl, rfl, rfl, hw⟩
  · skip
    refine lv_istore (lv' := [(5, .int (nI 1)), (0, .ref b), (1, .ref (ad 57)), (2, .ref (am 0)), (3, .ref o), (4, .int (nI iL))]) hx hb dL_law_635 hl (by decide) rfl (fun ls hl => ?_)
    refine lv_aload_n hx hb dL_law_637 rfl (lv_at hl 3 rfl) ?_
    refine lv_aload_n hx hb dL_law_638 rfl (lv_at hl 1 rfl) ?_
    refine lv_iload hx hb dL_law_639 (lv_at hl 5 rfl) ?_
    refine lv_iconst (v := nI 1) hx hb dL_law_641 (by decide) ?_
    refine kn_iadd hx hb dL_law_642 ?_
    refine va_sld hx hb F.sc F.bl (fun z => Nat.not_le.mpr F.bl z) hS.st (vp_in_nI (show iL + 1 < L by omega) (by omega)) dL_law_643 ?_
    rw [← hx1]
    refine lv_aload_n hx hb dL_law_644 rfl (lv_at hl 1 rfl) ?_
    refine lv_iload hx hb dL_law_645 (lv_at hl 5 rfl) ?_
    refine lv_iconst (v := nI 2) hx hb dL_law_647 (by decide) ?_
    refine kn_iadd hx hb dL_law_648 ?_
    refine va_sld hx hb F.sc F.bl (fun z => Nat.not_le.mpr F.bl z) hS.st (vp_in_nI (show iL + 2 < L by omega) (by omega)) dL_law_649 ?_
    rw [← hx2]
    refine lv_aload_n hx hb dL_law_650 rfl (lv_at hl 1 rfl) ?_
    refine lv_iload hx hb dL_law_651 (lv_at hl 5 rfl) ?_
    refine lv_iconst (v := nI 3) hx hb dL_law_653 (by decide) ?_
    refine kn_iadd hx hb dL_law_654 ?_
    refine va_sld hx hb F.sc F.bl (fun z => Nat.not_le.mpr F.bl z) hS.st (vp_in_nI (show iL + 3 < L by omega) (by omega)) dL_law_655 ?_
    rw [← hx3]
    have hI := hI9.m
    have T := hI9.T
    have hc : M.2.2.2.1 + 12 < 1000000 := by have := hI9.mp; omega
    refine ll_m (va_runV (As := [.int x1, .int x2, .int x3]) (rest := []) ⟨hx, hb, hml, hown, hts⟩ (o_X6_sort_1 l dC dI am M x1 x2 x3 hb9 hI) (cwV 3 hts gL_law_X6_sort rfl rfl rfl hdX6_sort_3 ⟨Nat.le_of_ble_eq_true rfl, Nat.le_of_ble_eq_true rfl⟩) (hS.preM F.K) rfl rfl hl.1 rfl (lv_room (Nat.le_of_ble_eq_true rfl)) dL_law_656 ⟨le_rc (by omega), le_rs (by omega)⟩) F.K hS (fun r8 M1 H locs hko hv hS => ?_)
    have hLM : LM M M1 := by rw [hv]; exact LM_th hI _
    have hT : Tie2 S M1 := by rw [hv]; exact T.th _
    have ht9 : M1.2.2.1 = 1 := (congrArg (fun z : MS => z.2.2.1) hv).trans rfl
    replace hN := hN.kept hko
    refine lv_istore (lv' := [(6, .int r8), (5, .int (nI 1)), (0, .ref b), (1, .ref (ad 57)), (2, .ref (am 0)), (3, .ref o), (4, .int (nI iL))]) hx hb dL_law_659 hl (by decide) rfl (fun ls hl => ?_)
    refine lv_aload_n hx hb dL_law_661 rfl (lv_at hl 4 rfl) ?_
    refine kl_cr (va_runV (As := []) (rest := []) ⟨hx, hb, hml, hown, hts⟩ (m_X6_thrown l dC dI am M1) (cwV 0 hts gL_law_X6_thrown rfl rfl rfl hdX6_thrown_0 ⟨Nat.le_of_ble_eq_true rfl, Nat.le_of_ble_eq_true rfl⟩) (hS.preM F.K) rfl rfl hl.1 rfl (lv_room (Nat.le_of_ble_eq_true rfl)) dL_law_662 ⟨le_rc (by omega), le_rs (by omega)⟩) (fun r5 h5 => ?_)
    rw [ht9] at h5
    subst h5
    refine lv_iload hx hb dL_law_665 (lv_at hl 1 rfl) ?_
    refine kn_icmp_eq (tgt := 672) hx hb (by omega) (by omega) dL_law_667 (by decide) (fun k_4 => ?_) (fun k_4 => absurd k_4 (by omega))
    refine lv_iload hx hb dL_law_672 (lv_at hl 1 rfl) ?_
    refine kn_if_ne (tgt := 690) hx hb (by omega) dL_law_674 (by decide) (fun k_5 => ?_) (fun k_5 => absurd k_5 (by omega))
    refine lv_goto (tgt := 2052) hx hb dL_law_690 (by decide) ?_
    exact W.widen (k := 100 + 224 * (n + 1)) (n := 1200 + 10680 * (n + 1)) (by omega) (by omega) (kk9 S M1 _ _ _ (hI9.next hLQ hLM hT) hS (lv_sub hl [2, 3, 4, 5, 6] rfl))
  · skip
    refine lv_istore (lv' := [(5, .int (nI 1)), (0, .ref b), (1, .ref (ad 57)), (2, .ref (am 0)), (3, .ref o), (4, .int (nI iL))]) hx hb dL_law_635 hl (by decide) rfl (fun ls hl => ?_)
    refine lv_aload_n hx hb dL_law_637 rfl (lv_at hl 3 rfl) ?_
    refine lv_aload_n hx hb dL_law_638 rfl (lv_at hl 1 rfl) ?_
    refine lv_iload hx hb dL_law_639 (lv_at hl 5 rfl) ?_
    refine lv_iconst (v := nI 1) hx hb dL_law_641 (by decide) ?_
    refine kn_iadd hx hb dL_law_642 ?_
    refine va_sld hx hb F.sc F.bl (fun z => Nat.not_le.mpr F.bl z) hS.st (vp_in_nI (show iL + 1 < L by omega) (by omega)) dL_law_643 ?_
    rw [← hx1]
    refine lv_aload_n hx hb dL_law_644 rfl (lv_at hl 1 rfl) ?_
    refine lv_iload hx hb dL_law_645 (lv_at hl 5 rfl) ?_
    refine lv_iconst (v := nI 2) hx hb dL_law_647 (by decide) ?_
    refine kn_iadd hx hb dL_law_648 ?_
    refine va_sld hx hb F.sc F.bl (fun z => Nat.not_le.mpr F.bl z) hS.st (vp_in_nI (show iL + 2 < L by omega) (by omega)) dL_law_649 ?_
    rw [← hx2]
    refine lv_aload_n hx hb dL_law_650 rfl (lv_at hl 1 rfl) ?_
    refine lv_iload hx hb dL_law_651 (lv_at hl 5 rfl) ?_
    refine lv_iconst (v := nI 3) hx hb dL_law_653 (by decide) ?_
    refine kn_iadd hx hb dL_law_654 ?_
    refine va_sld hx hb F.sc F.bl (fun z => Nat.not_le.mpr F.bl z) hS.st (vp_in_nI (show iL + 3 < L by omega) (by omega)) dL_law_655 ?_
    rw [← hx3]
    have hI := hI9.m
    have T := hI9.T
    have hc : M.2.2.2.1 + 12 < 1000000 := by have := hI9.mp; omega
    have hn := (hI.1 i hi).1
    refine ll_m (va_runV (As := [.int (nI i), .int x2, .int x3]) (rest := []) ⟨hx, hb, hml, hown, hts⟩ (o_X6_sort_2 l dC dI am M i x2 x3 hi hb9 hI) (cwV 3 hts gL_law_X6_sort rfl rfl rfl hdX6_sort_3 ⟨Nat.le_of_ble_eq_true rfl, Nat.le_of_ble_eq_true rfl⟩) (hS.preM F.K) rfl rfl hl.1 rfl (lv_room (Nat.le_of_ble_eq_true rfl)) dL_law_656 ⟨le_rc (by omega), le_rs (by omega)⟩) F.K hS (fun r8 M1 H locs hko hv hS => ?_)
    have hLM : LM M M1 := by rw [hv]; exact LM_th hI _
    have hT : Tie2 S M1 := by rw [hv]; exact T.th _
    have ht9 : M1.2.2.1 = 1 := (congrArg (fun z : MS => z.2.2.1) hv).trans rfl
    replace hN := hN.kept hko
    refine lv_istore (lv' := [(6, .int r8), (5, .int (nI 1)), (0, .ref b), (1, .ref (ad 57)), (2, .ref (am 0)), (3, .ref o), (4, .int (nI iL))]) hx hb dL_law_659 hl (by decide) rfl (fun ls hl => ?_)
    refine lv_aload_n hx hb dL_law_661 rfl (lv_at hl 4 rfl) ?_
    refine kl_cr (va_runV (As := []) (rest := []) ⟨hx, hb, hml, hown, hts⟩ (m_X6_thrown l dC dI am M1) (cwV 0 hts gL_law_X6_thrown rfl rfl rfl hdX6_thrown_0 ⟨Nat.le_of_ble_eq_true rfl, Nat.le_of_ble_eq_true rfl⟩) (hS.preM F.K) rfl rfl hl.1 rfl (lv_room (Nat.le_of_ble_eq_true rfl)) dL_law_662 ⟨le_rc (by omega), le_rs (by omega)⟩) (fun r5 h5 => ?_)
    rw [ht9] at h5
    subst h5
    refine lv_iload hx hb dL_law_665 (lv_at hl 1 rfl) ?_
    refine kn_icmp_eq (tgt := 672) hx hb (by omega) (by omega) dL_law_667 (by decide) (fun k_6 => ?_) (fun k_6 => absurd k_6 (by omega))
    refine lv_iload hx hb dL_law_672 (lv_at hl 1 rfl) ?_
    refine kn_if_ne (tgt := 690) hx hb (by omega) dL_law_674 (by decide) (fun k_7 => ?_) (fun k_7 => absurd k_7 (by omega))
    refine lv_goto (tgt := 2052) hx hb dL_law_690 (by decide) ?_
    exact W.widen (k := 100 + 224 * (n + 1)) (n := 1200 + 10680 * (n + 1)) (by omega) (by omega) (kk9 S M1 _ _ _ (hI9.next hLQ hLM hT) hS (lv_sub hl [2, 3, 4, 5, 6] rfl))
  · skip
    refine lv_istore (lv' := [(5, .int (nI 2)), (0, .ref b), (1, .ref (ad 57)), (2, .ref (am 0)), (3, .ref o), (4, .int (nI iL))]) hx hb dL_law_635 hl (by decide) rfl (fun ls hl => ?_)
    refine lv_aload_n hx hb dL_law_637 rfl (lv_at hl 3 rfl) ?_
    refine lv_aload_n hx hb dL_law_638 rfl (lv_at hl 1 rfl) ?_
    refine lv_iload hx hb dL_law_639 (lv_at hl 5 rfl) ?_
    refine lv_iconst (v := nI 1) hx hb dL_law_641 (by decide) ?_
    refine kn_iadd hx hb dL_law_642 ?_
    refine va_sld hx hb F.sc F.bl (fun z => Nat.not_le.mpr F.bl z) hS.st (vp_in_nI (show iL + 1 < L by omega) (by omega)) dL_law_643 ?_
    rw [← hx1]
    refine lv_aload_n hx hb dL_law_644 rfl (lv_at hl 1 rfl) ?_
    refine lv_iload hx hb dL_law_645 (lv_at hl 5 rfl) ?_
    refine lv_iconst (v := nI 2) hx hb dL_law_647 (by decide) ?_
    refine kn_iadd hx hb dL_law_648 ?_
    refine va_sld hx hb F.sc F.bl (fun z => Nat.not_le.mpr F.bl z) hS.st (vp_in_nI (show iL + 2 < L by omega) (by omega)) dL_law_649 ?_
    rw [← hx2]
    refine lv_aload_n hx hb dL_law_650 rfl (lv_at hl 1 rfl) ?_
    refine lv_iload hx hb dL_law_651 (lv_at hl 5 rfl) ?_
    refine lv_iconst (v := nI 3) hx hb dL_law_653 (by decide) ?_
    refine kn_iadd hx hb dL_law_654 ?_
    refine va_sld hx hb F.sc F.bl (fun z => Nat.not_le.mpr F.bl z) hS.st (vp_in_nI (show iL + 3 < L by omega) (by omega)) dL_law_655 ?_
    rw [← hx3]
    have hI := hI9.m
    have T := hI9.T
    have hc : M.2.2.2.1 + 12 < 1000000 := by have := hI9.mp; omega
    have hn := (hI.1 i hi).1
    refine ll_m (va_runV (As := [.int (nI i), .int (nI j), .int x3]) (rest := []) ⟨hx, hb, hml, hown, hts⟩ (o_X6_sort_3 l dC dI am M i j x3 hi hj hb9 hI) (cwV 3 hts gL_law_X6_sort rfl rfl rfl hdX6_sort_3 ⟨Nat.le_of_ble_eq_true rfl, Nat.le_of_ble_eq_true rfl⟩) (hS.preM F.K) rfl rfl hl.1 rfl (lv_room (Nat.le_of_ble_eq_true rfl)) dL_law_656 ⟨le_rc (by omega), le_rs (by omega)⟩) F.K hS (fun r8 M1 H locs hko hv hS => ?_)
    have hLM : LM M M1 := by rw [hv]; exact LM_th hI _
    have hT : Tie2 S M1 := by rw [hv]; exact T.th _
    have ht9 : M1.2.2.1 = 2 := (congrArg (fun z : MS => z.2.2.1) hv).trans rfl
    replace hN := hN.kept hko
    refine lv_istore (lv' := [(6, .int r8), (5, .int (nI 2)), (0, .ref b), (1, .ref (ad 57)), (2, .ref (am 0)), (3, .ref o), (4, .int (nI iL))]) hx hb dL_law_659 hl (by decide) rfl (fun ls hl => ?_)
    refine lv_aload_n hx hb dL_law_661 rfl (lv_at hl 4 rfl) ?_
    refine kl_cr (va_runV (As := []) (rest := []) ⟨hx, hb, hml, hown, hts⟩ (m_X6_thrown l dC dI am M1) (cwV 0 hts gL_law_X6_thrown rfl rfl rfl hdX6_thrown_0 ⟨Nat.le_of_ble_eq_true rfl, Nat.le_of_ble_eq_true rfl⟩) (hS.preM F.K) rfl rfl hl.1 rfl (lv_room (Nat.le_of_ble_eq_true rfl)) dL_law_662 ⟨le_rc (by omega), le_rs (by omega)⟩) (fun r5 h5 => ?_)
    rw [ht9] at h5
    subst h5
    refine lv_iload hx hb dL_law_665 (lv_at hl 1 rfl) ?_
    refine kn_icmp_eq (tgt := 672) hx hb (by omega) (by omega) dL_law_667 (by decide) (fun k_8 => ?_) (fun k_8 => absurd k_8 (by omega))
    refine lv_iload hx hb dL_law_672 (lv_at hl 1 rfl) ?_
    refine kn_if_ne (tgt := 690) hx hb (by omega) dL_law_674 (by decide) (fun k_9 => ?_) (fun k_9 => absurd k_9 (by omega))
    refine lv_goto (tgt := 2052) hx hb dL_law_690 (by decide) ?_
    exact W.widen (k := 100 + 224 * (n + 1)) (n := 1200 + 10680 * (n + 1)) (by omega) (by omega) (kk9 S M1 _ _ _ (hI9.next hLQ hLM hT) hS (lv_sub hl [2, 3, 4, 5, 6] rfl))
  · skip
    refine lv_istore (lv' := [(5, .int (nI 0)), (0, .ref b), (1, .ref (ad 57)), (2, .ref (am 0)), (3, .ref o), (4, .int (nI iL))]) hx hb dL_law_635 hl (by decide) rfl (fun ls hl => ?_)
    refine lv_aload_n hx hb dL_law_637 rfl (lv_at hl 3 rfl) ?_
    refine lv_aload_n hx hb dL_law_638 rfl (lv_at hl 1 rfl) ?_
    refine lv_iload hx hb dL_law_639 (lv_at hl 5 rfl) ?_
    refine lv_iconst (v := nI 1) hx hb dL_law_641 (by decide) ?_
    refine kn_iadd hx hb dL_law_642 ?_
    refine va_sld hx hb F.sc F.bl (fun z => Nat.not_le.mpr F.bl z) hS.st (vp_in_nI (show iL + 1 < L by omega) (by omega)) dL_law_643 ?_
    rw [← hx1]
    refine lv_aload_n hx hb dL_law_644 rfl (lv_at hl 1 rfl) ?_
    refine lv_iload hx hb dL_law_645 (lv_at hl 5 rfl) ?_
    refine lv_iconst (v := nI 2) hx hb dL_law_647 (by decide) ?_
    refine kn_iadd hx hb dL_law_648 ?_
    refine va_sld hx hb F.sc F.bl (fun z => Nat.not_le.mpr F.bl z) hS.st (vp_in_nI (show iL + 2 < L by omega) (by omega)) dL_law_649 ?_
    rw [← hx2]
    refine lv_aload_n hx hb dL_law_650 rfl (lv_at hl 1 rfl) ?_
    refine lv_iload hx hb dL_law_651 (lv_at hl 5 rfl) ?_
    refine lv_iconst (v := nI 3) hx hb dL_law_653 (by decide) ?_
    refine kn_iadd hx hb dL_law_654 ?_
    refine va_sld hx hb F.sc F.bl (fun z => Nat.not_le.mpr F.bl z) hS.st (vp_in_nI (show iL + 3 < L by omega) (by omega)) dL_law_655 ?_
    rw [← hx3]
    have hI := hI9.m
    have T := hI9.T
    have hc : M.2.2.2.1 + 12 < 1000000 := by have := hI9.mp; omega
    have hn := (hI.1 i hi).1
    refine ll_m (va_runV (As := [.int (nI i), .int (nI j), .int (nI k)]) (rest := []) ⟨hx, hb, hml, hown, hts⟩ (m_X6_sort l dC dI am M i j k hi hj hk hI) (cwV 3 hts gL_law_X6_sort rfl rfl rfl hdX6_sort_3 ⟨Nat.le_of_ble_eq_true rfl, Nat.le_of_ble_eq_true rfl⟩) (hS.preM F.K) rfl rfl hl.1 rfl (lv_room (Nat.le_of_ble_eq_true rfl)) dL_law_656 ⟨le_rc (by omega), le_rs (by omega)⟩) F.K hS (fun r8 M1 H locs hko hv hS => ?_)
    have hLM : LM M M1 := by rw [hv.2]; exact LM_row0 hI (rowM_srt hI hi (Nat.zero_le _) (Nat.le_refl _))
    obtain ⟨hT, he9, ht9⟩ := A_sort0 T.1 T.2 hI9.x hi hj hw hv
    subst he9
    replace hN := hN.kept hko
    refine lv_istore (lv' := [(6, .int r7), (5, .int (nI 0)), (0, .ref b), (1, .ref (ad 57)), (2, .ref (am 0)), (3, .ref o), (4, .int (nI iL))]) hx hb dL_law_659 hl (by decide) rfl (fun ls hl => ?_)
    refine lv_aload_n hx hb dL_law_661 rfl (lv_at hl 4 rfl) ?_
    refine kl_cr (va_runV (As := []) (rest := []) ⟨hx, hb, hml, hown, hts⟩ (m_X6_thrown l dC dI am M1) (cwV 0 hts gL_law_X6_thrown rfl rfl rfl hdX6_thrown_0 ⟨Nat.le_of_ble_eq_true rfl, Nat.le_of_ble_eq_true rfl⟩) (hS.preM F.K) rfl rfl hl.1 rfl (lv_room (Nat.le_of_ble_eq_true rfl)) dL_law_662 ⟨le_rc (by omega), le_rs (by omega)⟩) (fun r5 h5 => ?_)
    rw [ht9] at h5
    subst h5
    refine lv_iload hx hb dL_law_665 (lv_at hl 1 rfl) ?_
    refine kn_icmp_eq (tgt := 672) hx hb (by omega) (by omega) dL_law_667 (by decide) (fun k_10 => ?_) (fun k_10 => absurd k_10 (by omega))
    refine lv_iload hx hb dL_law_672 (lv_at hl 1 rfl) ?_
    refine kn_if_ne (tgt := 690) hx hb (by omega) dL_law_674 (by decide) (fun k_11 => absurd k_11 (by omega)) (fun k_11 => ?_)
    refine lv_aload_n hx hb dL_law_677 rfl (lv_at hl 5 rfl) ?_
    refine ll_getn F hN dL_law_678 ?_
    refine lv_iload hx hb dL_law_681 (lv_at hl 0 rfl) ?_
    refine lv_i2l (v := r7.toInt64) hx hb dL_law_683 rfl ?_
    refine W.lcmp hx hb dL_law_684 ?_
    rw [lg_self]
    refine kn_if_eq (tgt := 690) hx hb (by omega) dL_law_685 (by decide) (fun k_12 => ?_) (fun k_12 => absurd k_12 (by omega))
    refine lv_goto (tgt := 2052) hx hb dL_law_690 (by decide) ?_
    exact W.widen (k := 100 + 224 * (n + 1)) (n := 1200 + 10680 * (n + 1)) (by omega) (by omega) (kk9 S1 M1 _ _ _ (hI9.next hLQ hLM hT) hS (lv_sub hl [2, 3, 4, 5, 6] rfl))
set_option maxHeartbeats 4000000 in
set_option maxRecDepth 100000 in
theorem lc_10 {p : Program} {l : Launch} {e : Env} {s : State} {m : MethodId} {below : List Frame} {meth : Method} {c : Code} {b L : Nat} {xs : Nat → Int32} {dC : Nat → ClassId} {dI : Nat → Nat → Nat} {cB : ClassId} {ad am : Nat → Nat} {o n iL : Nat} {Q : State → Prop} (F : LF p l s m c b L xs dC dI cB ad am o) (hni : iL = 5 * n) (hiL : iL + 5 ≤ L) : LCase p l e s m below meth c b dC dI ad am o n iL Q 693 := by
  intro S M H locs hI9 hS kk9 ls hl
  have hx := F.x
  have hb := F.b
  have hml := F.ml
  have hown := F.own
  have hts := F.ts
  have hL := F.hL
  have hn9 : n ≤ 511 := by omega
  refine lv_aload_n hx hb dL_law_693 rfl (lv_at hl 1 rfl) ?_
  refine lv_aload_n hx hb dL_law_694 rfl (lv_at hl 0 rfl) ?_
  refine lv_iload hx hb dL_law_695 (lv_at hl 4 rfl) ?_
  refine lv_iconst (v := nI 1) hx hb dL_law_697 (by decide) ?_
  refine kn_iadd hx hb dL_law_698 ?_
  refine va_sld hx hb F.sc F.bl (fun z => Nat.not_le.mpr F.bl z) hS.st (vp_in_nI (show iL + 1 < L by omega) (by omega)) dL_law_699 ?_
  obtain ⟨x1, hx1⟩ : ∃ z, z = xs (nI (iL + 1)).toNatClampNeg := ⟨_, rfl⟩
  rw [← hx1]
  refine lv_aload_n hx hb dL_law_700 rfl (lv_at hl 0 rfl) ?_
  refine lv_iload hx hb dL_law_701 (lv_at hl 4 rfl) ?_
  refine lv_iconst (v := nI 2) hx hb dL_law_703 (by decide) ?_
  refine kn_iadd hx hb dL_law_704 ?_
  refine va_sld hx hb F.sc F.bl (fun z => Nat.not_le.mpr F.bl z) hS.st (vp_in_nI (show iL + 2 < L by omega) (by omega)) dL_law_705 ?_
  obtain ⟨x2, hx2⟩ : ∃ z, z = xs (nI (iL + 2)).toNatClampNeg := ⟨_, rfl⟩
  rw [← hx2]
  refine lv_aload_n hx hb dL_law_706 rfl (lv_at hl 0 rfl) ?_
  refine lv_iload hx hb dL_law_707 (lv_at hl 4 rfl) ?_
  refine lv_iconst (v := nI 3) hx hb dL_law_709 (by decide) ?_
  refine kn_iadd hx hb dL_law_710 ?_
  refine va_sld hx hb F.sc F.bl (fun z => Nat.not_le.mpr F.bl z) hS.st (vp_in_nI (show iL + 3 < L by omega) (by omega)) dL_law_711 ?_
  obtain ⟨x3, hx3⟩ : ∃ z, z = xs (nI (iL + 3)).toNatClampNeg := ⟨_, rfl⟩
  rw [← hx3]
  refine lv_aload_n hx hb dL_law_712 rfl (lv_at hl 0 rfl) ?_
  refine lv_iload hx hb dL_law_713 (lv_at hl 4 rfl) ?_
  refine lv_iconst (v := nI 4) hx hb dL_law_715 (by decide) ?_
  refine kn_iadd hx hb dL_law_716 ?_
  refine va_sld hx hb F.sc F.bl (fun z => Nat.not_le.mpr F.bl z) hS.st (vp_in_nI (show iL + 4 < L by omega) (by omega)) dL_law_717 ?_
  obtain ⟨x4, hx4⟩ : ∃ z, z = xs (nI (iL + 4)).toNatClampNeg := ⟨_, rfl⟩
  rw [← hx4]
  refine lv_aload_n hx hb dL_law_718 rfl (lv_at hl 3 rfl) ?_
  refine ll_w (vx_runSW (As := [.ref (ad 57), .int x1, .int x2, .int x3, .int x4, .ref o]) (rest := []) ⟨hx, hb, hml, hown, hts⟩ (m_L_sortPart l F.st dC dI cB ad o S x1 x2 x3 x4 hI9.x hI9.x5 (by have := hI9.xp; omega)) (vx_cwSW 6 hts gL_law_L_sortPart rfl rfl rfl hdL_sortPart_6.2 ⟨Nat.le_of_ble_eq_true rfl, Nat.le_of_ble_eq_true rfl⟩) (hS.preW F.K) rfl rfl hl.1 rfl (lv_room (Nat.le_of_ble_eq_true rfl)) dL_law_719 ⟨le_rc (by omega), le_rs (by omega)⟩) F.K hS (fun r0 S1 n1 H locs hq9 hN hS => ?_)
  have hLQ : LQ S S1 := hq9.1
  have hR : R_sortPart x1 x2 x3 x4 S r0 S1 n1 := hq9.2
  clear hq9
  rcases hR with ⟨hb9, rfl, rfl⟩ | ⟨i, hi, rfl, hb9, rfl, rfl⟩ | ⟨i, j, hi, hj, rfl, rfl, hb9, rfl, rfl⟩ | ⟨i, j, q, hi, hj, hq, rfl, rfl, rfl, hb9, rfl, rfl⟩ | ⟨i, j, q, q2, hi, hj, hq, hq2, rfl, rfl, rfl, rfl, hlt, rfl, rfl⟩ | ⟨i, j, q, q2, r7, hi, hj, hq, hq2, rfl, rfl, rfl, rfl, hqq, rfl, rfl, hw⟩
  · skip
    refine lv_istore (lv' := [(5, .int (nI 1)), (0, .ref b), (1, .ref (ad 57)), (2, .ref (am 0)), (3, .ref o), (4, .int (nI iL))]) hx hb dL_law_722 hl (by decide) rfl (fun ls hl => ?_)
    refine lv_aload_n hx hb dL_law_724 rfl (lv_at hl 3 rfl) ?_
    refine lv_aload_n hx hb dL_law_725 rfl (lv_at hl 1 rfl) ?_
    refine lv_iload hx hb dL_law_726 (lv_at hl 5 rfl) ?_
    refine lv_iconst (v := nI 1) hx hb dL_law_728 (by decide) ?_
    refine kn_iadd hx hb dL_law_729 ?_
    refine va_sld hx hb F.sc F.bl (fun z => Nat.not_le.mpr F.bl z) hS.st (vp_in_nI (show iL + 1 < L by omega) (by omega)) dL_law_730 ?_
    rw [← hx1]
    refine lv_aload_n hx hb dL_law_731 rfl (lv_at hl 1 rfl) ?_
    refine lv_iload hx hb dL_law_732 (lv_at hl 5 rfl) ?_
    refine lv_iconst (v := nI 2) hx hb dL_law_734 (by decide) ?_
    refine kn_iadd hx hb dL_law_735 ?_
    refine va_sld hx hb F.sc F.bl (fun z => Nat.not_le.mpr F.bl z) hS.st (vp_in_nI (show iL + 2 < L by omega) (by omega)) dL_law_736 ?_
    rw [← hx2]
    refine lv_aload_n hx hb dL_law_737 rfl (lv_at hl 1 rfl) ?_
    refine lv_iload hx hb dL_law_738 (lv_at hl 5 rfl) ?_
    refine lv_iconst (v := nI 3) hx hb dL_law_740 (by decide) ?_
    refine kn_iadd hx hb dL_law_741 ?_
    refine va_sld hx hb F.sc F.bl (fun z => Nat.not_le.mpr F.bl z) hS.st (vp_in_nI (show iL + 3 < L by omega) (by omega)) dL_law_742 ?_
    rw [← hx3]
    refine lv_aload_n hx hb dL_law_743 rfl (lv_at hl 1 rfl) ?_
    refine lv_iload hx hb dL_law_744 (lv_at hl 5 rfl) ?_
    refine lv_iconst (v := nI 4) hx hb dL_law_746 (by decide) ?_
    refine kn_iadd hx hb dL_law_747 ?_
    refine va_sld hx hb F.sc F.bl (fun z => Nat.not_le.mpr F.bl z) hS.st (vp_in_nI (show iL + 4 < L by omega) (by omega)) dL_law_748 ?_
    rw [← hx4]
    have hI := hI9.m
    have T := hI9.T
    have hc : M.2.2.2.1 + 12 < 1000000 := by have := hI9.mp; omega
    refine ll_m (va_runV (As := [.int x1, .int x2, .int x3, .int x4]) (rest := []) ⟨hx, hb, hml, hown, hts⟩ (o_X6_sortPart_1 l dC dI am M x1 x2 x3 x4 hb9 hI) (cwV 4 hts gL_law_X6_sortPart rfl rfl rfl hdX6_sortPart_4 ⟨Nat.le_of_ble_eq_true rfl, Nat.le_of_ble_eq_true rfl⟩) (hS.preM F.K) rfl rfl hl.1 rfl (lv_room (Nat.le_of_ble_eq_true rfl)) dL_law_749 ⟨le_rc (by omega), le_rs (by omega)⟩) F.K hS (fun r8 M1 H locs hko hv hS => ?_)
    have hLM : LM M M1 := by rw [hv]; exact LM_th hI _
    have hT : Tie2 S M1 := by rw [hv]; exact T.th _
    refine lv_istore (lv' := [(6, .int r8), (5, .int (nI 1)), (0, .ref b), (1, .ref (ad 57)), (2, .ref (am 0)), (3, .ref o), (4, .int (nI iL))]) hx hb dL_law_752 hl (by decide) rfl (fun ls hl => ?_)
    refine lv_goto (tgt := 2052) hx hb dL_law_754 (by decide) ?_
    exact W.widen (k := 100 + 224 * (n + 1)) (n := 1200 + 10680 * (n + 1)) (by omega) (by omega) (kk9 S M1 _ _ _ (hI9.next hLQ hLM hT) hS (lv_sub hl [2, 3, 4, 5, 6] rfl))
  · skip
    refine lv_istore (lv' := [(5, .int (nI 1)), (0, .ref b), (1, .ref (ad 57)), (2, .ref (am 0)), (3, .ref o), (4, .int (nI iL))]) hx hb dL_law_722 hl (by decide) rfl (fun ls hl => ?_)
    refine lv_aload_n hx hb dL_law_724 rfl (lv_at hl 3 rfl) ?_
    refine lv_aload_n hx hb dL_law_725 rfl (lv_at hl 1 rfl) ?_
    refine lv_iload hx hb dL_law_726 (lv_at hl 5 rfl) ?_
    refine lv_iconst (v := nI 1) hx hb dL_law_728 (by decide) ?_
    refine kn_iadd hx hb dL_law_729 ?_
    refine va_sld hx hb F.sc F.bl (fun z => Nat.not_le.mpr F.bl z) hS.st (vp_in_nI (show iL + 1 < L by omega) (by omega)) dL_law_730 ?_
    rw [← hx1]
    refine lv_aload_n hx hb dL_law_731 rfl (lv_at hl 1 rfl) ?_
    refine lv_iload hx hb dL_law_732 (lv_at hl 5 rfl) ?_
    refine lv_iconst (v := nI 2) hx hb dL_law_734 (by decide) ?_
    refine kn_iadd hx hb dL_law_735 ?_
    refine va_sld hx hb F.sc F.bl (fun z => Nat.not_le.mpr F.bl z) hS.st (vp_in_nI (show iL + 2 < L by omega) (by omega)) dL_law_736 ?_
    rw [← hx2]
    refine lv_aload_n hx hb dL_law_737 rfl (lv_at hl 1 rfl) ?_
    refine lv_iload hx hb dL_law_738 (lv_at hl 5 rfl) ?_
    refine lv_iconst (v := nI 3) hx hb dL_law_740 (by decide) ?_
    refine kn_iadd hx hb dL_law_741 ?_
    refine va_sld hx hb F.sc F.bl (fun z => Nat.not_le.mpr F.bl z) hS.st (vp_in_nI (show iL + 3 < L by omega) (by omega)) dL_law_742 ?_
    rw [← hx3]
    refine lv_aload_n hx hb dL_law_743 rfl (lv_at hl 1 rfl) ?_
    refine lv_iload hx hb dL_law_744 (lv_at hl 5 rfl) ?_
    refine lv_iconst (v := nI 4) hx hb dL_law_746 (by decide) ?_
    refine kn_iadd hx hb dL_law_747 ?_
    refine va_sld hx hb F.sc F.bl (fun z => Nat.not_le.mpr F.bl z) hS.st (vp_in_nI (show iL + 4 < L by omega) (by omega)) dL_law_748 ?_
    rw [← hx4]
    have hI := hI9.m
    have T := hI9.T
    have hc : M.2.2.2.1 + 12 < 1000000 := by have := hI9.mp; omega
    have hn := (hI.1 i hi).1
    refine ll_m (va_runV (As := [.int (nI i), .int x2, .int x3, .int x4]) (rest := []) ⟨hx, hb, hml, hown, hts⟩ (o_X6_sortPart_2 l dC dI am M i x2 x3 x4 hi hb9 hI) (cwV 4 hts gL_law_X6_sortPart rfl rfl rfl hdX6_sortPart_4 ⟨Nat.le_of_ble_eq_true rfl, Nat.le_of_ble_eq_true rfl⟩) (hS.preM F.K) rfl rfl hl.1 rfl (lv_room (Nat.le_of_ble_eq_true rfl)) dL_law_749 ⟨le_rc (by omega), le_rs (by omega)⟩) F.K hS (fun r8 M1 H locs hko hv hS => ?_)
    have hLM : LM M M1 := by rw [hv]; exact LM_th hI _
    have hT : Tie2 S M1 := by rw [hv]; exact T.th _
    refine lv_istore (lv' := [(6, .int r8), (5, .int (nI 1)), (0, .ref b), (1, .ref (ad 57)), (2, .ref (am 0)), (3, .ref o), (4, .int (nI iL))]) hx hb dL_law_752 hl (by decide) rfl (fun ls hl => ?_)
    refine lv_goto (tgt := 2052) hx hb dL_law_754 (by decide) ?_
    exact W.widen (k := 100 + 224 * (n + 1)) (n := 1200 + 10680 * (n + 1)) (by omega) (by omega) (kk9 S M1 _ _ _ (hI9.next hLQ hLM hT) hS (lv_sub hl [2, 3, 4, 5, 6] rfl))
  · skip
    refine lv_istore (lv' := [(5, .int (nI 1)), (0, .ref b), (1, .ref (ad 57)), (2, .ref (am 0)), (3, .ref o), (4, .int (nI iL))]) hx hb dL_law_722 hl (by decide) rfl (fun ls hl => ?_)
    refine lv_aload_n hx hb dL_law_724 rfl (lv_at hl 3 rfl) ?_
    refine lv_aload_n hx hb dL_law_725 rfl (lv_at hl 1 rfl) ?_
    refine lv_iload hx hb dL_law_726 (lv_at hl 5 rfl) ?_
    refine lv_iconst (v := nI 1) hx hb dL_law_728 (by decide) ?_
    refine kn_iadd hx hb dL_law_729 ?_
    refine va_sld hx hb F.sc F.bl (fun z => Nat.not_le.mpr F.bl z) hS.st (vp_in_nI (show iL + 1 < L by omega) (by omega)) dL_law_730 ?_
    rw [← hx1]
    refine lv_aload_n hx hb dL_law_731 rfl (lv_at hl 1 rfl) ?_
    refine lv_iload hx hb dL_law_732 (lv_at hl 5 rfl) ?_
    refine lv_iconst (v := nI 2) hx hb dL_law_734 (by decide) ?_
    refine kn_iadd hx hb dL_law_735 ?_
    refine va_sld hx hb F.sc F.bl (fun z => Nat.not_le.mpr F.bl z) hS.st (vp_in_nI (show iL + 2 < L by omega) (by omega)) dL_law_736 ?_
    rw [← hx2]
    refine lv_aload_n hx hb dL_law_737 rfl (lv_at hl 1 rfl) ?_
    refine lv_iload hx hb dL_law_738 (lv_at hl 5 rfl) ?_
    refine lv_iconst (v := nI 3) hx hb dL_law_740 (by decide) ?_
    refine kn_iadd hx hb dL_law_741 ?_
    refine va_sld hx hb F.sc F.bl (fun z => Nat.not_le.mpr F.bl z) hS.st (vp_in_nI (show iL + 3 < L by omega) (by omega)) dL_law_742 ?_
    rw [← hx3]
    refine lv_aload_n hx hb dL_law_743 rfl (lv_at hl 1 rfl) ?_
    refine lv_iload hx hb dL_law_744 (lv_at hl 5 rfl) ?_
    refine lv_iconst (v := nI 4) hx hb dL_law_746 (by decide) ?_
    refine kn_iadd hx hb dL_law_747 ?_
    refine va_sld hx hb F.sc F.bl (fun z => Nat.not_le.mpr F.bl z) hS.st (vp_in_nI (show iL + 4 < L by omega) (by omega)) dL_law_748 ?_
    rw [← hx4]
    have hI := hI9.m
    have T := hI9.T
    have hc : M.2.2.2.1 + 12 < 1000000 := by have := hI9.mp; omega
    have hn := (hI.1 i hi).1
    rw [T.sz hi] at hb9
    refine ll_m (va_runV (As := [.int (nI i), .int (nI j), .int x3, .int x4]) (rest := []) ⟨hx, hb, hml, hown, hts⟩ (o_X6_sortPart_3 l dC dI am M i j x3 x4 hi hj hb9 hI) (cwV 4 hts gL_law_X6_sortPart rfl rfl rfl hdX6_sortPart_4 ⟨Nat.le_of_ble_eq_true rfl, Nat.le_of_ble_eq_true rfl⟩) (hS.preM F.K) rfl rfl hl.1 rfl (lv_room (Nat.le_of_ble_eq_true rfl)) dL_law_749 ⟨le_rc (by omega), le_rs (by omega)⟩) F.K hS (fun r8 M1 H locs hko hv hS => ?_)
    have hLM : LM M M1 := by rw [hv]; exact LM_th hI _
    have hT : Tie2 S M1 := by rw [hv]; exact T.th _
    refine lv_istore (lv' := [(6, .int r8), (5, .int (nI 1)), (0, .ref b), (1, .ref (ad 57)), (2, .ref (am 0)), (3, .ref o), (4, .int (nI iL))]) hx hb dL_law_752 hl (by decide) rfl (fun ls hl => ?_)
    refine lv_goto (tgt := 2052) hx hb dL_law_754 (by decide) ?_
    exact W.widen (k := 100 + 224 * (n + 1)) (n := 1200 + 10680 * (n + 1)) (by omega) (by omega) (kk9 S M1 _ _ _ (hI9.next hLQ hLM hT) hS (lv_sub hl [2, 3, 4, 5, 6] rfl))
  · skip
    refine lv_istore (lv' := [(5, .int (nI 1)), (0, .ref b), (1, .ref (ad 57)), (2, .ref (am 0)), (3, .ref o), (4, .int (nI iL))]) hx hb dL_law_722 hl (by decide) rfl (fun ls hl => ?_)
    refine lv_aload_n hx hb dL_law_724 rfl (lv_at hl 3 rfl) ?_
    refine lv_aload_n hx hb dL_law_725 rfl (lv_at hl 1 rfl) ?_
    refine lv_iload hx hb dL_law_726 (lv_at hl 5 rfl) ?_
    refine lv_iconst (v := nI 1) hx hb dL_law_728 (by decide) ?_
    refine kn_iadd hx hb dL_law_729 ?_
    refine va_sld hx hb F.sc F.bl (fun z => Nat.not_le.mpr F.bl z) hS.st (vp_in_nI (show iL + 1 < L by omega) (by omega)) dL_law_730 ?_
    rw [← hx1]
    refine lv_aload_n hx hb dL_law_731 rfl (lv_at hl 1 rfl) ?_
    refine lv_iload hx hb dL_law_732 (lv_at hl 5 rfl) ?_
    refine lv_iconst (v := nI 2) hx hb dL_law_734 (by decide) ?_
    refine kn_iadd hx hb dL_law_735 ?_
    refine va_sld hx hb F.sc F.bl (fun z => Nat.not_le.mpr F.bl z) hS.st (vp_in_nI (show iL + 2 < L by omega) (by omega)) dL_law_736 ?_
    rw [← hx2]
    refine lv_aload_n hx hb dL_law_737 rfl (lv_at hl 1 rfl) ?_
    refine lv_iload hx hb dL_law_738 (lv_at hl 5 rfl) ?_
    refine lv_iconst (v := nI 3) hx hb dL_law_740 (by decide) ?_
    refine kn_iadd hx hb dL_law_741 ?_
    refine va_sld hx hb F.sc F.bl (fun z => Nat.not_le.mpr F.bl z) hS.st (vp_in_nI (show iL + 3 < L by omega) (by omega)) dL_law_742 ?_
    rw [← hx3]
    refine lv_aload_n hx hb dL_law_743 rfl (lv_at hl 1 rfl) ?_
    refine lv_iload hx hb dL_law_744 (lv_at hl 5 rfl) ?_
    refine lv_iconst (v := nI 4) hx hb dL_law_746 (by decide) ?_
    refine kn_iadd hx hb dL_law_747 ?_
    refine va_sld hx hb F.sc F.bl (fun z => Nat.not_le.mpr F.bl z) hS.st (vp_in_nI (show iL + 4 < L by omega) (by omega)) dL_law_748 ?_
    rw [← hx4]
    have hI := hI9.m
    have T := hI9.T
    have hc : M.2.2.2.1 + 12 < 1000000 := by have := hI9.mp; omega
    have hqM : q ≤ (M.1 i).2.2 := by rw [← T.sz hi]; exact hq
    have hn := (hI.1 i hi).1
    rw [T.sz hi] at hb9
    refine ll_m (va_runV (As := [.int (nI i), .int (nI j), .int (nI q), .int x4]) (rest := []) ⟨hx, hb, hml, hown, hts⟩ (o_X6_sortPart_4 l dC dI am M i j q x4 hi hj hqM hb9 hI) (cwV 4 hts gL_law_X6_sortPart rfl rfl rfl hdX6_sortPart_4 ⟨Nat.le_of_ble_eq_true rfl, Nat.le_of_ble_eq_true rfl⟩) (hS.preM F.K) rfl rfl hl.1 rfl (lv_room (Nat.le_of_ble_eq_true rfl)) dL_law_749 ⟨le_rc (by omega), le_rs (by omega)⟩) F.K hS (fun r8 M1 H locs hko hv hS => ?_)
    have hLM : LM M M1 := by rw [hv]; exact LM_th hI _
    have hT : Tie2 S M1 := by rw [hv]; exact T.th _
    refine lv_istore (lv' := [(6, .int r8), (5, .int (nI 1)), (0, .ref b), (1, .ref (ad 57)), (2, .ref (am 0)), (3, .ref o), (4, .int (nI iL))]) hx hb dL_law_752 hl (by decide) rfl (fun ls hl => ?_)
    refine lv_goto (tgt := 2052) hx hb dL_law_754 (by decide) ?_
    exact W.widen (k := 100 + 224 * (n + 1)) (n := 1200 + 10680 * (n + 1)) (by omega) (by omega) (kk9 S M1 _ _ _ (hI9.next hLQ hLM hT) hS (lv_sub hl [2, 3, 4, 5, 6] rfl))
  · skip
    refine lv_istore (lv' := [(5, .int (nI 2)), (0, .ref b), (1, .ref (ad 57)), (2, .ref (am 0)), (3, .ref o), (4, .int (nI iL))]) hx hb dL_law_722 hl (by decide) rfl (fun ls hl => ?_)
    refine lv_aload_n hx hb dL_law_724 rfl (lv_at hl 3 rfl) ?_
    refine lv_aload_n hx hb dL_law_725 rfl (lv_at hl 1 rfl) ?_
    refine lv_iload hx hb dL_law_726 (lv_at hl 5 rfl) ?_
    refine lv_iconst (v := nI 1) hx hb dL_law_728 (by decide) ?_
    refine kn_iadd hx hb dL_law_729 ?_
    refine va_sld hx hb F.sc F.bl (fun z => Nat.not_le.mpr F.bl z) hS.st (vp_in_nI (show iL + 1 < L by omega) (by omega)) dL_law_730 ?_
    rw [← hx1]
    refine lv_aload_n hx hb dL_law_731 rfl (lv_at hl 1 rfl) ?_
    refine lv_iload hx hb dL_law_732 (lv_at hl 5 rfl) ?_
    refine lv_iconst (v := nI 2) hx hb dL_law_734 (by decide) ?_
    refine kn_iadd hx hb dL_law_735 ?_
    refine va_sld hx hb F.sc F.bl (fun z => Nat.not_le.mpr F.bl z) hS.st (vp_in_nI (show iL + 2 < L by omega) (by omega)) dL_law_736 ?_
    rw [← hx2]
    refine lv_aload_n hx hb dL_law_737 rfl (lv_at hl 1 rfl) ?_
    refine lv_iload hx hb dL_law_738 (lv_at hl 5 rfl) ?_
    refine lv_iconst (v := nI 3) hx hb dL_law_740 (by decide) ?_
    refine kn_iadd hx hb dL_law_741 ?_
    refine va_sld hx hb F.sc F.bl (fun z => Nat.not_le.mpr F.bl z) hS.st (vp_in_nI (show iL + 3 < L by omega) (by omega)) dL_law_742 ?_
    rw [← hx3]
    refine lv_aload_n hx hb dL_law_743 rfl (lv_at hl 1 rfl) ?_
    refine lv_iload hx hb dL_law_744 (lv_at hl 5 rfl) ?_
    refine lv_iconst (v := nI 4) hx hb dL_law_746 (by decide) ?_
    refine kn_iadd hx hb dL_law_747 ?_
    refine va_sld hx hb F.sc F.bl (fun z => Nat.not_le.mpr F.bl z) hS.st (vp_in_nI (show iL + 4 < L by omega) (by omega)) dL_law_748 ?_
    rw [← hx4]
    have hI := hI9.m
    have T := hI9.T
    have hc : M.2.2.2.1 + 12 < 1000000 := by have := hI9.mp; omega
    have hqM : q ≤ (M.1 i).2.2 := by rw [← T.sz hi]; exact hq
    have hq2M : q2 ≤ (M.1 i).2.2 := by rw [← T.sz hi]; exact hq2
    have hn := (hI.1 i hi).1
    refine ll_m (va_runV (As := [.int (nI i), .int (nI j), .int (nI q), .int (nI q2)]) (rest := []) ⟨hx, hb, hml, hown, hts⟩ (o_X6_sortPart_5 l dC dI am M i j q q2 hi hj hqM hq2M (by omega) hI) (cwV 4 hts gL_law_X6_sortPart rfl rfl rfl hdX6_sortPart_4 ⟨Nat.le_of_ble_eq_true rfl, Nat.le_of_ble_eq_true rfl⟩) (hS.preM F.K) rfl rfl hl.1 rfl (lv_room (Nat.le_of_ble_eq_true rfl)) dL_law_749 ⟨le_rc (by omega), le_rs (by omega)⟩) F.K hS (fun r8 M1 H locs hko hv hS => ?_)
    have hLM : LM M M1 := by rw [hv]; exact LM_th hI _
    have hT : Tie2 S M1 := by rw [hv]; exact T.th _
    refine lv_istore (lv' := [(6, .int r8), (5, .int (nI 2)), (0, .ref b), (1, .ref (ad 57)), (2, .ref (am 0)), (3, .ref o), (4, .int (nI iL))]) hx hb dL_law_752 hl (by decide) rfl (fun ls hl => ?_)
    refine lv_goto (tgt := 2052) hx hb dL_law_754 (by decide) ?_
    exact W.widen (k := 100 + 224 * (n + 1)) (n := 1200 + 10680 * (n + 1)) (by omega) (by omega) (kk9 S M1 _ _ _ (hI9.next hLQ hLM hT) hS (lv_sub hl [2, 3, 4, 5, 6] rfl))
  · skip
    refine lv_istore (lv' := [(5, .int (nI 0)), (0, .ref b), (1, .ref (ad 57)), (2, .ref (am 0)), (3, .ref o), (4, .int (nI iL))]) hx hb dL_law_722 hl (by decide) rfl (fun ls hl => ?_)
    refine lv_aload_n hx hb dL_law_724 rfl (lv_at hl 3 rfl) ?_
    refine lv_aload_n hx hb dL_law_725 rfl (lv_at hl 1 rfl) ?_
    refine lv_iload hx hb dL_law_726 (lv_at hl 5 rfl) ?_
    refine lv_iconst (v := nI 1) hx hb dL_law_728 (by decide) ?_
    refine kn_iadd hx hb dL_law_729 ?_
    refine va_sld hx hb F.sc F.bl (fun z => Nat.not_le.mpr F.bl z) hS.st (vp_in_nI (show iL + 1 < L by omega) (by omega)) dL_law_730 ?_
    rw [← hx1]
    refine lv_aload_n hx hb dL_law_731 rfl (lv_at hl 1 rfl) ?_
    refine lv_iload hx hb dL_law_732 (lv_at hl 5 rfl) ?_
    refine lv_iconst (v := nI 2) hx hb dL_law_734 (by decide) ?_
    refine kn_iadd hx hb dL_law_735 ?_
    refine va_sld hx hb F.sc F.bl (fun z => Nat.not_le.mpr F.bl z) hS.st (vp_in_nI (show iL + 2 < L by omega) (by omega)) dL_law_736 ?_
    rw [← hx2]
    refine lv_aload_n hx hb dL_law_737 rfl (lv_at hl 1 rfl) ?_
    refine lv_iload hx hb dL_law_738 (lv_at hl 5 rfl) ?_
    refine lv_iconst (v := nI 3) hx hb dL_law_740 (by decide) ?_
    refine kn_iadd hx hb dL_law_741 ?_
    refine va_sld hx hb F.sc F.bl (fun z => Nat.not_le.mpr F.bl z) hS.st (vp_in_nI (show iL + 3 < L by omega) (by omega)) dL_law_742 ?_
    rw [← hx3]
    refine lv_aload_n hx hb dL_law_743 rfl (lv_at hl 1 rfl) ?_
    refine lv_iload hx hb dL_law_744 (lv_at hl 5 rfl) ?_
    refine lv_iconst (v := nI 4) hx hb dL_law_746 (by decide) ?_
    refine kn_iadd hx hb dL_law_747 ?_
    refine va_sld hx hb F.sc F.bl (fun z => Nat.not_le.mpr F.bl z) hS.st (vp_in_nI (show iL + 4 < L by omega) (by omega)) dL_law_748 ?_
    rw [← hx4]
    have hI := hI9.m
    have T := hI9.T
    have hc : M.2.2.2.1 + 12 < 1000000 := by have := hI9.mp; omega
    have hqM : q ≤ (M.1 i).2.2 := by rw [← T.sz hi]; exact hq
    have hq2M : q2 ≤ (M.1 i).2.2 := by rw [← T.sz hi]; exact hq2
    have hn := (hI.1 i hi).1
    refine ll_m (va_runV (As := [.int (nI i), .int (nI j), .int (nI q), .int (nI q2)]) (rest := []) ⟨hx, hb, hml, hown, hts⟩ (m_X6_sortPart l dC dI am M i j q q2 hi hj hqM hq2M hqq hI) (cwV 4 hts gL_law_X6_sortPart rfl rfl rfl hdX6_sortPart_4 ⟨Nat.le_of_ble_eq_true rfl, Nat.le_of_ble_eq_true rfl⟩) (hS.preM F.K) rfl rfl hl.1 rfl (lv_room (Nat.le_of_ble_eq_true rfl)) dL_law_749 ⟨le_rc (by omega), le_rs (by omega)⟩) F.K hS (fun r8 M1 H locs hko hv hS => ?_)
    have hLM : LM M M1 := by rw [hv.2]; exact LM_row0 hI (rowM_srt hI hi hqq hq2M)
    obtain ⟨hT, he9, ht9⟩ := A_sort T.1 T.2 hI9.x hi hj hqq hq2 hw hv
    refine lv_istore (lv' := [(6, .int r8), (5, .int (nI 0)), (0, .ref b), (1, .ref (ad 57)), (2, .ref (am 0)), (3, .ref o), (4, .int (nI iL))]) hx hb dL_law_752 hl (by decide) rfl (fun ls hl => ?_)
    refine lv_goto (tgt := 2052) hx hb dL_law_754 (by decide) ?_
    exact W.widen (k := 100 + 224 * (n + 1)) (n := 1200 + 10680 * (n + 1)) (by omega) (by omega) (kk9 S1 M1 _ _ _ (hI9.next hLQ hLM hT) hS (lv_sub hl [2, 3, 4, 5, 6] rfl))
