/-! the law's start -/
def E4 : List Value := [.null, .null, .null, .null, .null, .null, .int (nI 0), .int (nI 0), .int (nI 0)]
set_option maxHeartbeats 8000000 in
set_option maxRecDepth 100000 in
theorem start_K {args : Array Value} {s : State} (hts : ∀ w ∈ lw_tbl, w.before args s = true) (htsL : ∀ w ∈ wsL_R, w.before args s = true) : ∃ (dC : Nat → ClassId) (dI : Nat → Nat → Nat) (cB : ClassId), va_K (dC, dI) vwCl (tyX dC) s ∧ va_K (dC, dI) vwCl (tyM dC) s ∧ va_K (dC, dI) vwCl [(cB, .byte)] s := by
  obtain ⟨c0, i0, k0⟩ := u_known (C := RJ0) (T := TJ0) (N := 4) (n := 4) hts (by decide +kernel) (hts (.instantiable RJ0 4) (by decide +kernel))
  obtain ⟨c1, i1, k1⟩ := u_known (C := RJ4) (T := TJ4) (N := 4) (n := 4) hts (by decide +kernel) (hts (.instantiable RJ4 4) (by decide +kernel))
  obtain ⟨c2, i2, k2⟩ := u_known (C := RX0) (T := TX0) (N := 4) (n := 4) hts (by decide +kernel) (hts (.instantiable RX0 4) (by decide +kernel))
  obtain ⟨c3, i3, k3⟩ := u_known (C := RX1) (T := TX1) (N := 6) (n := 6) hts (by decide +kernel) (hts (.instantiable RX1 6) (by decide +kernel))
  obtain ⟨c4, i4, k4⟩ := u_known (C := RX2) (T := TX2) (N := 3) (n := 3) hts (by decide +kernel) (hts (.instantiable RX2 3) (by decide +kernel))
  obtain ⟨c5, i5, k5⟩ := u_known (C := RX3) (T := TX3) (N := 1) (n := 1) hts (by decide +kernel) (hts (.instantiable RX3 1) (by decide +kernel))
  obtain ⟨c6, i6, k6⟩ := u_known (C := RX4) (T := TX4) (N := 9) (n := 9) hts (by decide +kernel) (hts (.instantiable RX4 9) (by decide +kernel))
  obtain ⟨c7, i7, k7⟩ := u_known (C := RX5) (T := TX5) (N := 2) (n := 2) hts (by decide +kernel) (hts (.instantiable RX5 2) (by decide +kernel))
  obtain ⟨c8, i8, k8⟩ := u_known (C := RX6) (T := TX6) (N := 10) (n := 10) hts (by decide +kernel) (hts (.instantiable RX6 10) (by decide +kernel))
  obtain ⟨cI, aI, bI9⟩ := arr_p (ty := .int) (hts (.arrayClass .int) (by decide +kernel))
  obtain ⟨cZ, aZ, bZ9⟩ := arr_p (ty := .boolean) (hts (.arrayClass .boolean) (by decide +kernel))
  obtain ⟨cJ, aJ, bJ9⟩ := arr_p (ty := .long) (hts (.arrayClass .long) (by decide +kernel))
  obtain ⟨cB, aB, bB9⟩ := arr_p (ty := .byte) (hts (.arrayClass .byte) (by decide +kernel))
  obtain ⟨cR, aR⟩ := arr_o (C := RX2) (hts (.arrayOver (.object RX2)) (by decide +kernel))
  obtain ⟨cO, aO⟩ := arr_o (C := RX1) (hts (.arrayOver (.object RX1)) (by decide +kernel))
  obtain ⟨cII, aII⟩ := arr_a (t := .int) (hts (.arrayOver (.array .int)) (by decide +kernel))
  obtain ⟨cZZ, aZZ⟩ := arr_a (t := .boolean) (hts (.arrayOver (.array .boolean)) (by decide +kernel))
  obtain ⟨dC, dI, hKc, e20, e21, e22, e23, e24, e25, e26⟩ : ∃ (dC : Nat → ClassId) (dI : Nat → Nat → Nat), (∀ (k : Nat) (q : vw_C), vwCl[k]? = some q → u_Kn s q.1 q.2.1 q.2.2 (dC k) (dI k)) ∧ dC 20 = cI ∧ dC 21 = cZ ∧ dC 22 = cJ ∧ dC 23 = cR ∧ dC 24 = cO ∧ dC 25 = cII ∧ dC 26 = cZZ := by
    refine ⟨fun k => ([c0, c1, c2, c3, c4, c5, c6, c7, c8, c0, c0, c0, c0, c0, c0, c0, c0, c0, c0, c0, cI, cZ, cJ, cR, cO, cII, cZZ] : List ClassId).getD k c0, fun k => ([i0, i1, i2, i3, i4, i5, i6, i7, i8] : List (Nat → Nat)).getD k i0, ?_, rfl, rfl, rfl, rfl, rfl, rfl, rfl⟩
    intro k q hq
    match k, hq with
    | 0, hq => cases hq; exact k0
    | 1, hq => cases hq; exact k1
    | 2, hq => cases hq; exact k2
    | 3, hq => cases hq; exact k3
    | 4, hq => cases hq; exact k4
    | 5, hq => cases hq; exact k5
    | 6, hq => cases hq; exact k6
    | 7, hq => cases hq; exact k7
    | 8, hq => cases hq; exact k8
    | k + 9, hq => simp [vwCl] at hq
  subst e20 e21 e22 e23 e24 e25 e26
  refine ⟨dC, dI, cB, ⟨hKc, fun k q hq => ?_⟩, ⟨hKc, fun k q hq => ?_⟩, ⟨hKc, fun k q hq => ?_⟩⟩
  · match k, hq with
    | 0, hq => cases hq; exact ⟨aI, bI9⟩
    | 1, hq => cases hq; exact ⟨aZ, bZ9⟩
    | 2, hq => cases hq; exact ⟨aJ, bJ9⟩
    | 3, hq => cases hq; exact aR
    | 4, hq => cases hq; exact aO
    | k + 5, hq => simp [tyX] at hq
  · match k, hq with
    | 0, hq => cases hq; exact ⟨aI, bI9⟩
    | 1, hq => cases hq; exact ⟨aZ, bZ9⟩
    | 2, hq => cases hq; exact aII
    | 3, hq => cases hq; exact aZZ
    | k + 4, hq => simp [tyM] at hq
  · match k, hq with
    | 0, hq => cases hq; exact ⟨aB, bB9⟩
    | k + 1, hq => simp at hq
set_option maxRecDepth 100000 in
theorem start_decl : ∀ x ∈ xDecl, Cond.declares x ∈ lw_tbl := by decide +kernel
set_option maxRecDepth 100000 in
theorem start_strT : ∀ q ∈ xStr, Cond.stringRef RX4 q.1 q.2 ∈ lw_tbl := by decide +kernel
set_option maxRecDepth 100000 in
theorem start_strG : ∀ q ∈ xStr, Cond.exactly (.string RX4 q.1) "java/lang/String" ∈ flatC (Jvm.Cond.and given_1 narrow_1) := by decide +kernel
set_option maxRecDepth 100000 in
theorem start_dg1 : ((flatC (Jvm.Cond.and given_1 narrow_1)).drop 14).take 100 = (List.range 100).map (fun j => Cond.eq (.elem (.static "java/lang/Integer" "DigitOnes" "[B") (.int (Int32.ofNat j))) (.int (Int32.ofNat (48 + j % 10)))) := by decide +kernel
theorem start_dig1 (j : Nat) (hj : j < 100) : Cond.eq (.elem (.static "java/lang/Integer" "DigitOnes" "[B") (.int (Int32.ofNat j))) (.int (Int32.ofNat (48 + j % 10))) ∈ flatC (Jvm.Cond.and given_1 narrow_1) := by
  have h : Cond.eq (.elem (.static "java/lang/Integer" "DigitOnes" "[B") (.int (Int32.ofNat j))) (.int (Int32.ofNat (48 + j % 10))) ∈ (List.range 100).map (fun j => Cond.eq (.elem (.static "java/lang/Integer" "DigitOnes" "[B") (.int (Int32.ofNat j))) (.int (Int32.ofNat (48 + j % 10)))) := List.mem_map.mpr ⟨j, List.mem_range.mpr hj, rfl⟩
  rw [← start_dg1] at h
  exact List.mem_of_mem_drop (List.mem_of_mem_take h)
set_option maxRecDepth 100000 in
theorem start_dg2 : ((flatC (Jvm.Cond.and given_1 narrow_1)).drop 117).take 100 = (List.range 100).map (fun j => Cond.eq (.elem (.static "java/lang/Integer" "DigitTens" "[B") (.int (Int32.ofNat j))) (.int (Int32.ofNat (48 + j / 10)))) := by decide +kernel
theorem start_dig2 (j : Nat) (hj : j < 100) : Cond.eq (.elem (.static "java/lang/Integer" "DigitTens" "[B") (.int (Int32.ofNat j))) (.int (Int32.ofNat (48 + j / 10))) ∈ flatC (Jvm.Cond.and given_1 narrow_1) := by
  have h : Cond.eq (.elem (.static "java/lang/Integer" "DigitTens" "[B") (.int (Int32.ofNat j))) (.int (Int32.ofNat (48 + j / 10))) ∈ (List.range 100).map (fun j => Cond.eq (.elem (.static "java/lang/Integer" "DigitTens" "[B") (.int (Int32.ofNat j))) (.int (Int32.ofNat (48 + j / 10)))) := List.mem_map.mpr ⟨j, List.mem_range.mpr hj, rfl⟩
  rw [← start_dg2] at h
  exact List.mem_of_mem_drop (List.mem_of_mem_take h)
set_option maxHeartbeats 8000000 in
set_option maxRecDepth 100000 in
theorem start_Z {args : Array Value} {s : State} (hts : ∀ w ∈ lw_tbl, w.before args s = true) (hgv : (Jvm.Cond.and given_1 narrow_1).before args s = true) : ZS s ∧ ZT s s.heap ∧ ZBA (zB s.heap.size) s s.heap ∧ NT s ∧ NF9 s ∧ va_Nc IA IX s ∧ CM (zB s.heap.size) s s.heap ∧ NC s := by
  have hs := flat_of_before _ hgv
  have hA : ∀ a : Nat, a < s.heap.size → ¬ zB s.heap.size a := fun a h z => Nat.not_le.mpr h z
  have hF : ∀ a : Nat, a < s.heap.size → ¬ (fun _ : Nat => False) a := fun a h z => z
  refine ⟨⟨fun x hx => va_Nw.of rfl (hts _ (start_decl x hx)), ⟨va_Nw.of rfl (hts (.castable IX IX) (by decide +kernel)), va_Nw.of rfl (hts (.castable IA IA) (by decide +kernel))⟩, fun q hq => str_R (hts _ (start_strT q hq)) (hs _ (start_strG q hq))⟩, ⟨vx_Zqof (hts (.laysStatic Bundle.tN "UNASSIGNED_STACK" Bundle.steD) (by decide +kernel)) (hts (.initialized Bundle.tN) (by decide +kernel)) (hs (.isRef (.static Bundle.tN "UNASSIGNED_STACK" Bundle.steD)) (by decide +kernel)) hF, vx_Zqof (hts (.laysStatic Bundle.tN "SUPPRESSED_SENTINEL" Bundle.listD) (by decide +kernel)) (hts (.initialized Bundle.tN) (by decide +kernel)) (hs (.isRef (.static Bundle.tN "SUPPRESSED_SENTINEL" Bundle.listD)) (by decide +kernel)) hF⟩, ⟨?_, ?_, ?_, ?_⟩, ⟨va_Nw.of rfl (hts (.methodLinkNest RX2 65 yX4_appendGap "Orderlattice") (by decide +kernel)), va_Nw.of rfl (hts (.methodLinkNest RX1 65 yX4_appendGap "Orderlattice") (by decide +kernel))⟩, ⟨va_Nw.of rfl (hts (.fieldLinkNest "OrderlatticeLaw" 13 RX5 "n" "J" "OrderlatticeLaw") (by decide +kernel)), va_Nw.of rfl (hts (.fieldLinkNest "OrderlatticeLaw" 73 RX5 "s" "Ljava/lang/String;" "OrderlatticeLaw") (by decide +kernel))⟩, va_Nc.of (hs (.not (.castable IA IX)) (by decide +kernel)), ?_, ?_⟩
  · exact va_Zof (hts (.laysStatic "java/lang/String" "COMPACT_STRINGS" "Z") (by decide +kernel)) (hts (.initialized "java/lang/String") (by decide +kernel)) (va_eqt (hs (.eq (.static "java/lang/String" "COMPACT_STRINGS" "Z") (.int 1)) (by decide +kernel))) hA
  · obtain ⟨t, ht, hT⟩ := va_Tof (tm := .static "java/lang/Integer" "DigitOnes" "[B") (ty := .byte) (N := 100) (f := fun j => .int (Int32.ofNat (48 + j % 10))) (by decide) (hs (.arrayOf (.static "java/lang/Integer" "DigitOnes" "[B") .byte) (by decide +kernel)) (va_eqt (hs (.eq (.length (.static "java/lang/Integer" "DigitOnes" "[B")) (.int 100)) (by decide +kernel))) (fun j hj => va_eqt (hs _ (start_dig1 j hj))) hA
    exact ⟨t, _, va_Zof (hts (.laysStatic "java/lang/Integer" "DigitOnes" "[B") (by decide +kernel)) (hts (.initialized "java/lang/Integer") (by decide +kernel)) ht hA, hT⟩
  · obtain ⟨t, ht, hT⟩ := va_Tof (tm := .static "java/lang/Integer" "DigitTens" "[B") (ty := .byte) (N := 100) (f := fun j => .int (Int32.ofNat (48 + j / 10))) (by decide) (hs (.arrayOf (.static "java/lang/Integer" "DigitTens" "[B") .byte) (by decide +kernel)) (va_eqt (hs (.eq (.length (.static "java/lang/Integer" "DigitTens" "[B")) (.int 100)) (by decide +kernel))) (fun j hj => va_eqt (hs _ (start_dig2 j hj))) hA
    exact ⟨t, _, va_Zof (hts (.laysStatic "java/lang/Integer" "DigitTens" "[B") (by decide +kernel)) (hts (.initialized "java/lang/Integer") (by decide +kernel)) ht hA, hT⟩
  · exact va_Nw.of rfl (hts (.castable "[B" "java/lang/Cloneable") (by decide +kernel))
  · have one : ∀ (k : Nat) (tx : String) (n : Nat) (bs : List Int32), bs.length = n → (Cond.stringRef RX6 k tx).before args s = true → (Cond.exactly (.string RX6 k) "java/lang/String").before args s = true → (Cond.eq (.field (.string RX6 k) "java/lang/String" "coder" "B") (.int 0)).before args s = true → (Cond.arrayOf (.field (.string RX6 k) "java/lang/String" "value" "[B") .byte).before args s = true → (Cond.eq (.length (.field (.string RX6 k) "java/lang/String" "value" "[B")) (.int (Int32.ofNat bs.length))).before args s = true →
        (∀ j : Nat, j < bs.length → (Cond.eq (.elem (.field (.string RX6 k) "java/lang/String" "value" "[B") (.int (Int32.ofNat j))) (.int (bs.getD j 0))).before args s = true) → (∀ j : Nat, j < bs.length → fits .byte (.int (bs.getD j 0)) = true) → bs.length < 1000 → ∃ a, vk_R RX6 k tx a s ∧ SV (zB s.heap.size) a n s s.heap := by
      intro k tx n bs e h1 h2 h3 h4 h5 h6 h7 h8
      subst e
      exact sv_of bs h1 h2 h3 h4 h5 h6 h7 h8
    intro c hc
    simp only [cmL, List.mem_cons, List.not_mem_nil, or_false] at hc
    rcases hc with rfl | rfl | rfl | rfl | rfl | rfl
    · exact one 95 "" 0 [] rfl (hts (.stringRef RX6 95 "") (by decide +kernel)) (hs (.exactly (.string RX6 95) "java/lang/String") (by decide +kernel)) (hs (.eq (.field (.string RX6 95) "java/lang/String" "coder" "B") (.int 0)) (by decide +kernel)) (hs (.arrayOf (.field (.string RX6 95) "java/lang/String" "value" "[B") .byte) (by decide +kernel)) (hs (.eq (.length (.field (.string RX6 95) "java/lang/String" "value" "[B")) (.int (Int32.ofNat 0))) (by decide +kernel)) (fun j hj => absurd hj (Nat.not_lt_zero j)) (fun j hj => absurd hj (Nat.not_lt_zero j)) (by decide)
    · exact one 104 " " 1 [32] rfl (hts (.stringRef RX6 104 " ") (by decide +kernel)) (hs (.exactly (.string RX6 104) "java/lang/String") (by decide +kernel)) (hs (.eq (.field (.string RX6 104) "java/lang/String" "coder" "B") (.int 0)) (by decide +kernel)) (hs (.arrayOf (.field (.string RX6 104) "java/lang/String" "value" "[B") .byte) (by decide +kernel)) (hs (.eq (.length (.field (.string RX6 104) "java/lang/String" "value" "[B")) (.int (Int32.ofNat 1))) (by decide +kernel)) (fun j hj => by cases Nat.lt_one_iff.mp (show j < 1 from hj); exact hs (.eq (.elem (.field (.string RX6 104) "java/lang/String" "value" "[B") (.int (Int32.ofNat 0))) (.int 32)) (by decide +kernel)) (fun j hj => by cases Nat.lt_one_iff.mp (show j < 1 from hj); rfl) (by decide)
    · exact one 109 "." 1 [46] rfl (hts (.stringRef RX6 109 ".") (by decide +kernel)) (hs (.exactly (.string RX6 109) "java/lang/String") (by decide +kernel)) (hs (.eq (.field (.string RX6 109) "java/lang/String" "coder" "B") (.int 0)) (by decide +kernel)) (hs (.arrayOf (.field (.string RX6 109) "java/lang/String" "value" "[B") .byte) (by decide +kernel)) (hs (.eq (.length (.field (.string RX6 109) "java/lang/String" "value" "[B")) (.int (Int32.ofNat 1))) (by decide +kernel)) (fun j hj => by cases Nat.lt_one_iff.mp (show j < 1 from hj); exact hs (.eq (.elem (.field (.string RX6 109) "java/lang/String" "value" "[B") (.int (Int32.ofNat 0))) (.int 46)) (by decide +kernel)) (fun j hj => by cases Nat.lt_one_iff.mp (show j < 1 from hj); rfl) (by decide)
    · exact one 131 ":" 1 [58] rfl (hts (.stringRef RX6 131 ":") (by decide +kernel)) (hs (.exactly (.string RX6 131) "java/lang/String") (by decide +kernel)) (hs (.eq (.field (.string RX6 131) "java/lang/String" "coder" "B") (.int 0)) (by decide +kernel)) (hs (.arrayOf (.field (.string RX6 131) "java/lang/String" "value" "[B") .byte) (by decide +kernel)) (hs (.eq (.length (.field (.string RX6 131) "java/lang/String" "value" "[B")) (.int (Int32.ofNat 1))) (by decide +kernel)) (fun j hj => by cases Nat.lt_one_iff.mp (show j < 1 from hj); exact hs (.eq (.elem (.field (.string RX6 131) "java/lang/String" "value" "[B") (.int (Int32.ofNat 0))) (.int 58)) (by decide +kernel)) (fun j hj => by cases Nat.lt_one_iff.mp (show j < 1 from hj); rfl) (by decide)
    · exact one 141 "-" 1 [45] rfl (hts (.stringRef RX6 141 "-") (by decide +kernel)) (hs (.exactly (.string RX6 141) "java/lang/String") (by decide +kernel)) (hs (.eq (.field (.string RX6 141) "java/lang/String" "coder" "B") (.int 0)) (by decide +kernel)) (hs (.arrayOf (.field (.string RX6 141) "java/lang/String" "value" "[B") .byte) (by decide +kernel)) (hs (.eq (.length (.field (.string RX6 141) "java/lang/String" "value" "[B")) (.int (Int32.ofNat 1))) (by decide +kernel)) (fun j hj => by cases Nat.lt_one_iff.mp (show j < 1 from hj); exact hs (.eq (.elem (.field (.string RX6 141) "java/lang/String" "value" "[B") (.int (Int32.ofNat 0))) (.int 45)) (by decide +kernel)) (fun j hj => by cases Nat.lt_one_iff.mp (show j < 1 from hj); rfl) (by decide)
    · exact one 143 "+" 1 [43] rfl (hts (.stringRef RX6 143 "+") (by decide +kernel)) (hs (.exactly (.string RX6 143) "java/lang/String") (by decide +kernel)) (hs (.eq (.field (.string RX6 143) "java/lang/String" "coder" "B") (.int 0)) (by decide +kernel)) (hs (.arrayOf (.field (.string RX6 143) "java/lang/String" "value" "[B") .byte) (by decide +kernel)) (hs (.eq (.length (.field (.string RX6 143) "java/lang/String" "value" "[B")) (.int (Int32.ofNat 1))) (by decide +kernel)) (fun j hj => by cases Nat.lt_one_iff.mp (show j < 1 from hj); exact hs (.eq (.elem (.field (.string RX6 143) "java/lang/String" "value" "[B") (.int (Int32.ofNat 0))) (.int 43)) (by decide +kernel)) (fun j hj => by cases Nat.lt_one_iff.mp (show j < 1 from hj); rfl) (by decide)
  · exact ⟨va_Nw.of rfl (hts (.methodLinkNest RX4 23 yX3_init "Orderlattice") (by decide +kernel)), va_Nw.of rfl (hts (.methodLinkNest RX4 30 yX0_init "Orderlattice") (by decide +kernel)), va_Nw.of rfl (hts (.methodLinkNest RX4 35 yX2_init "Orderlattice") (by decide +kernel)), va_Nw.of rfl (hts (.methodLinkNest RX4 40 yX1_init "Orderlattice") (by decide +kernel)), va_Nw.of rfl (hts (.methodLinkNest RX0 11 yX3_init "Orderlattice") (by decide +kernel)), va_Nw.of rfl (hts (.methodLinkNest RX0 20 yX2_init "Orderlattice") (by decide +kernel)), va_Nw.of rfl (hts (.methodLinkNest RX0 30 yX1_init "Orderlattice") (by decide +kernel)), va_Nw.of rfl (hts (.methodLinkNest RX3 9 yX2_init "Orderlattice") (by decide +kernel))⟩

