set_option maxHeartbeats 8000000 in
set_option maxRecDepth 100000 in
theorem whole_start {p : Program} {e : Env} {s : State} {m : MethodId} {below : List Frame} {meth : Method} {c : Code} (l : Launch) (hflags : l.flags = flags0) {b L : Nat} {xs : Nat → Int32} (hL : L ≤ 2560) (C0 : lw_At p s m meth c b L xs) : W p l e room_1 s m #[Value.ref b] below meth c s.heap [] 0 0 (lw_Z below #[Value.ref b] s) (entryFrame m ([Value.ref b] : List Value).toArray 7) := by
  obtain ⟨hx, hb, hr, hml, hown, hts, hX, hbl, hlocks, hgv⟩ := id C0
  have hst : l.stackTraces = false := by
    unfold Launch.stackTraces
    rw [hflags]
    decide
  have htsL := wsL_R_ok hts
  obtain ⟨dC, dI, cB, hKX, hKM, hKB⟩ := start_K hts htsL
  obtain ⟨zs, zt, zb, nt, nf, nc, cm, hNC⟩ := start_Z hts hgv
  have hAR : va_AO RX2 s := va_AO.of (hts (.arrayOver (.object RX2)) (by decide +kernel))
  have hAO : va_AO RX1 s := va_AO.of (hts (.arrayOver (.object RX1)) (by decide +kernel))
  have hAI : va_AOA .int s := (hts (.arrayOver (.array .int)) (by decide +kernel) : (Cond.arrayOver (.array .int)).before #[Value.ref b] s = true)
  have hAZ : va_AOA .boolean s := (hts (.arrayOver (.array .boolean)) (by decide +kernel) : (Cond.arrayOver (.array .boolean)).before #[Value.ref b] s = true)
  have hl := lv_entry ([.ref b]) (n := 7) (Nat.le_of_ble_eq_true rfl)
  rw [lg_entry_eq]
  generalize (lg_sl ([.ref b]) ++ List.replicate (7 - (lg_sl ([.ref b])).length) Slot.unset).toArray = ls at hl ⊢
  have hl : lv_has ls 7 [(0, .ref b)] := hl
  -- the class's object
  refine la_newX4 hx hb hts (by decide +kernel) hown (hts (.classLink RL 8 RX4) (by decide +kernel)) (hts (.instantiable RX4 9) (by decide +kernel)) (hts (.initialized RX4) (by decide +kernel)) hKX (Nat.le_of_ble_eq_true rfl) (Nat.le_of_ble_eq_true rfl) dL_law_0 (fun H1 hP1 z1 o1 => ?_)
  refine lv_dup hx hb dL_law_3 rfl ?_
  have hS1 : va_S (zB s.heap.size) s.heap H1 [] := ⟨by omega, fun q h1 h2 => o1 q h1, fun _ h => nomatch h⟩
  refine va_callv (va_runI (As := []) (rest := [.ref s.heap.size]) ⟨hx, hb, hml, hown, htsL⟩ (m_X4_init l dC dI s.heap.size [(s.heap.size, .inr (6, [.null, .null, .null, .null, .null, .null, .int (nI 0), .int (nI 0), .int (nI 0)]))] 0 s.heap.size rfl ⟨rfl, rfl⟩) (cwI 0 htsL gL_law_X4_init rfl rfl rfl (hts (.initialized RX4) (by decide +kernel)) (hts (.methodLink RL 152 yX4_init) (by decide +kernel)) (hts (.instanceMethod yX4_init) (by decide +kernel)) rfl (by decide +kernel) ⟨Nat.le_of_ble_eq_true rfl, Nat.le_of_ble_eq_true rfl⟩) ⟨fun a U g mk h => ⟨h.1, h.2.1.call, h.2.2.1.call, h.2.2.2.call⟩, fun U hU hW => ⟨rfl, ⟨by rw [hU]; exact hP1, va_K.moved hW.alike hKX, one_D (Nat.le_refl _), by rw [hU]; omega, NC.warm hW hNC⟩, va_AO.moved hW.alike hAR, va_AO.moved hW.alike hAO⟩⟩ rfl rfl hl.1 rfl (lv_room (Nat.le_of_ble_eq_true rfl)) dL_law_4 ⟨Nat.le_of_ble_eq_true rfl, Nat.le_of_ble_eq_true rfl⟩) hS1 (fun q _ h => h) (fun q h => h) (fun ad t H2 locs ht hvm hw hB hz2 hk2 hS2 => ?_)
  obtain ⟨h57, hax⟩ := hw
  have hX2 : va_P (dC, dI) vwCl (wX dC ad S00) H2 := by rw [← ht]; exact hB.1
  have hdX := wX_Dall hB.2.2
  refine lv_astore_n (lv' := [(1, .ref s.heap.size), (0, .ref b)]) hx hb dL_law_7 rfl hl (by decide) rfl (fun ls hl => ?_)
  -- the reference's
  refine la_newX6 hx hb hts (by decide +kernel) hown (hts (.classLink RL 153 RX6) (by decide +kernel)) (hts (.instantiable RX6 10) (by decide +kernel)) (hts (.initialized RX6) (by decide +kernel)) hKM (Nat.le_of_ble_eq_true rfl) (Nat.le_of_ble_eq_true rfl) dL_law_8 (fun H3 hP3 z3 o3 => ?_)
  refine lv_dup hx hb dL_law_11 rfl ?_
  have hS3 : va_S (zB s.heap.size) s.heap H3 locs := ⟨Nat.le_trans hS2.1 (by omega), fun q h1 h2 => (o3 q (Nat.lt_of_lt_of_le h1 hS2.1)).trans (hS2.2.1 q h1 h2), hS2.2.2⟩
  refine va_callv (va_runI (As := []) (rest := [.ref H2.size]) ⟨hx, hb, hml, hown, htsL⟩ (m_X6_init l dC dI H2.size [(H2.size, .inr (8, [.int (nI 0), .null, .null, .null, .null, .null, .null, .int (nI 0), .int (nI 0), .int (nI 0)]))] 0 H2.size rfl ⟨rfl, rfl⟩) (cwI 0 htsL gL_law_X6_init rfl rfl rfl (hts (.initialized RX6) (by decide +kernel)) (hts (.methodLink RL 155 yX6_init) (by decide +kernel)) (hts (.instanceMethod yX6_init) (by decide +kernel)) rfl (by decide +kernel) ⟨Nat.le_of_ble_eq_true rfl, Nat.le_of_ble_eq_true rfl⟩) ⟨fun a U g mk h => ⟨h.1, h.2.1.call, h.2.2.1.call, h.2.2.2.call⟩, fun U hU hW => ⟨rfl, ⟨by rw [hU]; exact hP3, va_K.moved hW.alike hKM, one_D (Nat.le_refl _), by rw [hU]; omega⟩, va_AOA.moved hW.alike hAI, va_AOA.moved hW.alike hAZ⟩⟩ rfl rfl hl.1 rfl (lv_room (Nat.le_of_ble_eq_true rfl)) dL_law_12 ⟨Nat.le_of_ble_eq_true rfl, Nat.le_of_ble_eq_true rfl⟩) hS3 (fun q _ h => Nat.le_trans hS2.1 h) (fun q h => Nat.le_trans hS2.1 h) (fun am t2 H4 locs2 ht2 hvm2 hw2 hB2 hz4 hk4 hS4 => ?_)
  obtain ⟨h0, ham⟩ := hw2
  have hM4 : va_P (dC, dI) vwCl (wM dC am M00) H4 := by rw [← ht2]; exact hB2.1
  have hdM := wM_Dall hB2.2.2
  refine lv_astore_n (lv' := [(2, .ref H2.size), (1, .ref s.heap.size), (0, .ref b)]) hx hb dL_law_15 rfl hl (by decide) rfl (fun ls hl => ?_)
  -- the object of answers
  refine la_newX5 hx hb hts (by decide +kernel) hown (hts (.classLink RL 14 RX5) (by decide +kernel)) (hts (.instantiable RX5 2) (by decide +kernel)) (hts (.initialized RX5) (by decide +kernel)) hKM (Nat.le_of_ble_eq_true rfl) (Nat.le_of_ble_eq_true rfl) dL_law_16 (fun H5 hP5 z5 o5 => ?_)
  refine lv_dup hx hb dL_law_19 rfl ?_
  refine va_csv (va_Run.run (va_runIN (As := []) (rest := [.ref H4.size]) ⟨hx, hb, hml, hown, htsL⟩ (m_X5_init l H4.size) ⟨va_cnB (host := "OrderlatticeLaw") 0 htsL gL_law_X5_init_n156 rfl rfl rfl (va_Nw.of rfl (hts (.methodLinkNest "OrderlatticeLaw" 156 yX5_init "OrderlatticeLaw") (by decide +kernel))) (hts (.initialized RX5) (by decide +kernel)) (by decide +kernel) ⟨Nat.le_of_ble_eq_true rfl, Nat.le_of_ble_eq_true rfl⟩, rfl, hts (.instanceMethod yX5_init) (by decide +kernel)⟩ ⟨fun _ _ _ _ h => h, fun _ _ _ => ⟨rfl, trivial⟩⟩ rfl rfl hl.1 rfl (lv_room (Nat.le_of_ble_eq_true rfl)) dL_law_20 ⟨Nat.le_of_ble_eq_true rfl, Nat.le_of_ble_eq_true rfl⟩)) (fun _ => ?_)
  refine lv_astore_n (lv' := [(3, .ref H4.size), (2, .ref H2.size), (1, .ref s.heap.size), (0, .ref b)]) hx hb dL_law_23 rfl hl (by decide) rfl (fun ls hl => ?_)
  refine lv_iconst (v := nI 0) hx hb dL_law_24 (by decide) ?_
  refine lv_istore (lv' := [(4, .int (nI 0)), (3, .ref H4.size), (2, .ref H2.size), (1, .ref s.heap.size), (0, .ref b)]) hx hb dL_law_25 hl (by decide) rfl (fun ls hl => ?_)
  have hl : lv_has ls 7 [(4, .int (nI 0)), (3, .ref H4.size), (2, .ref (am 0)), (1, .ref (ad 57)), (0, .ref b)] := by rw [h57, h0]; exact hl
  -- all side by side
  have hxlt : ∀ q, AX ad q → q < H2.size := fun q hq => by
    obtain ⟨k, hk, rfl⟩ := hq
    exact (hX2 k _ (wX_get hk)).lt
  have hmlt : ∀ q, AM am q → q < H4.size := fun q hq => by
    obtain ⟨k, hk, rfl⟩ := hq
    exact (hM4 k _ (wM_get hk)).lt
  have hS5 : va_S (zB s.heap.size) s.heap H5 locs2 := ⟨Nat.le_trans hS4.1 (by omega), fun q h1 h2 => (o5 q (Nat.lt_of_lt_of_le h1 hS4.1)).trans (hS4.2.1 q h1 h2), hS4.2.2⟩
  have h24 : H2.size ≤ H4.size := by omega
  have hLK : LK dC dI cB ad am H4.size s := ⟨hKX, hKM, hKB, hdX, hdM, hax, fun q hq => Nat.le_trans hS2.1 (ham q hq), Nat.le_trans hS2.1 h24, fun q h1 h2 => Nat.not_le.mpr (hxlt q h1) (ham q h2), fun h => Nat.not_le.mpr (hxlt _ h) h24, fun h => Nat.lt_irrefl _ (hmlt _ h), zs, zt, zb, nt, nf, nc, cm⟩
  have hLS : LSt dC dI ad am H4.size S00 M00 s H5 locs2 := ⟨hX2.kept (fun k q hq => by
    have h9 := (hX2 k q hq).lt
    rw [o5 q.1 (by omega), hk4 q.1 (by omega) (fun z => Nat.not_le.mpr h9 z), o3 q.1 h9]), hM4.kept (fun k q hq => o5 q.1 ((hM4 k q hq).lt)), ⟨lN 0, .null, Or.inl rfl, hP5⟩, hS5⟩
  have hLF : LF p l s m c b L xs dC dI cB ad am H4.size := ⟨hst, hx, hb, hml, hown, htsL, hLK, hX, hbl, hL⟩
  have hLI : LI 0 S00 M00 := ⟨InvX_0, fun j _ => Nat.zero_le _, InvM_0, Nat.le_refl _, Nat.le_refl _, Nat.le_refl _, Nat.le_refl _, Tie2_0, Nat.le_refl _⟩
  refine W.widen (k := 100 + 224 * 0) (n := 1200 + 10680 * 0) (Nat.le_of_ble_eq_true rfl) (Nat.le_of_ble_eq_true rfl) ?_
  exact law_loop hLF (fun H locs cells slots ls hS hc hs => W.widen (k := room_1.cells) (n := room_1.slots) (le_rc hc) (le_rs hs) (W.filt (fun locs1 hl1 => by
    obtain rfl : locs1 = [] := by
      cases locs1 with
      | nil => rfl
      | cons x xs9 =>
        obtain ⟨h1, h2⟩ := hl1 x List.mem_cons_self
        exact absurd h2 (Nat.not_lt.mpr (hS.2.2 x h1))
    exact lw_ret hx hb hr hlocks dL_law_2059))) (L + 5) 0 0 S00 M00 H5 locs2 rfl (Nat.zero_le _) (by omega) hLI hLS ls (lv_sub hl [4, 3, 2, 1, 0] rfl)

