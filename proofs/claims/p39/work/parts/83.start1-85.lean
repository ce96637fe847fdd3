section
set_option maxHeartbeats 8000000 in
set_option maxRecDepth 100000 in
theorem start_K {args : Array Value} {s : State} (hts : ∀ w ∈ lw_tbl, w.before args s = true) (htsL : ∀ w ∈ wsL_R, w.before args s = true) : ∃ (dC : Nat → ClassId) (dI : Nat → Nat → Nat) (cB : ClassId), va_K (dC, dI) vwCl (tyX dC) s ∧ va_K (dC, dI) vwCl (tyM dC) s ∧ va_K (dC, dI) vwCl [(cB, .byte)] s := by
  obtain ⟨c0, i0, k0⟩ := u_known (C := RJ0) (T := TJ0) (N := 4) (n := 4) hts (by decide +kernel) (hts (.instantiable RJ0 4) (by decide +kernel))
  obtain ⟨c1, i1, k1⟩ := u_known (C := RJ4) (T := TJ4) (N := 4) (n := 4) hts (by decide +kernel) (hts (.instantiable RJ4 4) (by decide +kernel))
  obtain ⟨c2, i2, k2⟩ := u_known (C := RX0) (T := TX0) (N := 4) (n := 4) hts (by decide +kernel) (hts (.instantiable RX0 4) (by decide +kernel))
  obtain ⟨c3, i3, k3⟩ := u_known (C := RX1) (T := TX1) (N := 6) (n := 6) hts (by decide +kernel) (hts (.instantiable RX1 6) (by decide +kernel))
  obtain ⟨c4, i4, k4⟩ := u_known (C := RX2) (T := TX2) (N := 3) (n := 3) hts (by decide +kernel) (hts (.instantiable RX2 3) (by decide +kernel))
  obtain ⟨c5, i5, k5⟩ := u_known (C := RX3) (T := TX3) (N := 1) (n := 1) hts (by decide +kernel) (hts (.instantiable RX3 1) (by decide +kernel))
  obtain ⟨c6, i6, k6⟩ := u_known (C := RX4) (T := TX4) (N := 9) (n := 9) hts (by decide +kernel) (hts (.instantiable RX4 9) (by decide +kernel))
  obtain ⟨c7, i7, k7⟩ := u_known (C := RX5) (T := TX5) (N := 2) (n := 2) hts (by decide +kernel) (hts (.instantiable RX5 2) (by decide +kernel))
  obtain ⟨c8, i8, k8⟩ := u_known (C := RX6) (T := TX6) (N := 10) (n := 10) hts (by decide +kernel) (hts (.instantiable RX6 10) (by decide +kernel))
  obtain ⟨cI, aI, bI9⟩ := arr_p (ty := .int) (hts (.arrayClass .int) (by decide +kernel))
  obtain ⟨cZ, aZ, bZ9⟩ := arr_p (ty := .boolean) (hts (.arrayClass .boolean) (by decide +kernel))
  obtain ⟨cJ, aJ, bJ9⟩ := arr_p (ty := .long) (hts (.arrayClass .long) (by decide +kernel))
  obtain ⟨cB, aB, bB9⟩ := arr_p (ty := .byte) (hts (.arrayClass .byte) (by decide +kernel))
  obtain ⟨cR, aR⟩ := arr_o (C := RX2) (hts (.arrayOver (.object RX2)) (by decide +kernel))
  obtain ⟨cO, aO⟩ := arr_o (C := RX1) (hts (.arrayOver (.object RX1)) (by decide +kernel))
  obtain ⟨cII, aII⟩ := arr_a (t := .int) (hts (.arrayOver (.array .int)) (by decide +kernel))
  obtain ⟨cZZ, aZZ⟩ := arr_a (t := .boolean) (hts (.arrayOver (.array .boolean)) (by decide +kernel))
  obtain ⟨dC, dI, hKc, e20, e21, e22, e23, e24, e25, e26⟩ : ∃ (dC : Nat → ClassId) (dI : Nat → Nat → Nat), (∀ (k : Nat) (q : vw_C), vwCl[k]? = some q → u_Kn s q.1 q.2.1 q.2.2 (dC k) (dI k)) ∧ dC 20 = cI ∧ dC 21 = cZ ∧ dC 22 = cJ ∧ dC 23 = cR ∧ dC 24 = cO ∧ dC 25 = cII ∧ dC 26 = cZZ := by
    refine ⟨fun k => ([c0, c1, c2, c3, c4, c5, c6, c7, c8, c0, c0, c0, c0, c0, c0, c0, c0, c0, c0, c0, cI, cZ, cJ, cR, cO, cII, cZZ] : List ClassId).getD k c0, fun k => ([i0, i1, i2, i3, i4, i5, i6, i7, i8] : List (Nat → Nat)).getD k i0, ?_, rfl, rfl, rfl, rfl, rfl, rfl, rfl⟩
    intro k q hq
    match k, hq with
    | 0, hq => cases hq; exact k0
    | 1, hq => cases hq; exact k1
    | 2, hq => cases hq; exact k2
    | 3, hq => cases hq; exact k3
    | 4, hq => cases hq; exact k4
    | 5, hq => cases hq; exact k5
    | 6, hq => cases hq; exact k6
    | 7, hq => cases hq; exact k7
    | 8, hq => cases hq; exact k8
    | k + 9, hq => simp [vwCl] at hq
  subst e20 e21 e22 e23 e24 e25 e26
  refine ⟨dC, dI, cB, ⟨hKc, fun k q hq => ?_⟩, ⟨hKc, fun k q hq => ?_⟩, ⟨hKc, fun k q hq => ?_⟩⟩
  · match k, hq with
    | 0, hq => cases hq; exact ⟨aI, bI9⟩
    | 1, hq => cases hq; exact ⟨aZ, bZ9⟩
    | 2, hq => cases hq; exact ⟨aJ, bJ9⟩
    | 3, hq => cases hq; exact aR
    | 4, hq => cases hq; exact aO
    | k + 5, hq => simp [tyX] at hq
  · match k, hq with
    | 0, hq => cases hq; exact ⟨aI, bI9⟩
    | 1, hq => cases hq; exact ⟨aZ, bZ9⟩
    | 2, hq => cases hq; exact aII
    | 3, hq => cases hq; exact aZZ
    | k + 4, hq => simp [tyM] at hq
  · match k, hq with
    | 0, hq => cases hq; exact ⟨aB, bB9⟩
    | k + 1, hq => simp at hq
set_option maxRecDepth 100000 in
theorem start_decl : ∀ x ∈ xDecl, Cond.declares x ∈ lw_tbl := by decide +kernel
set_option maxRecDepth 100000 in
theorem start_strT : ∀ q ∈ xStr, Cond.stringRef RX4 q.1 q.2 ∈ lw_tbl := by decide +kernel
set_option maxRecDepth 100000 in
theorem start_strG : ∀ q ∈ xStr, Cond.exactly (.string RX4 q.1) "java/lang/String" ∈ flatC (Jvm.Cond.and given_1 narrow_1) := by decide +kernel
set_option maxRecDepth 100000 in
theorem start_dg1 : ((flatC (Jvm.Cond.and given_1 narrow_1)).drop 14).take 100 = (List.range 100).map (fun j => Cond.eq (.elem (.static "java/lang/Integer" "DigitOnes" "[B") (.int (Int32.ofNat j))) (.int (Int32.ofNat (48 + j % 10)))) := by decide +kernel
theorem start_dig1 (j : Nat) (hj : j < 100) : Cond.eq (.elem (.static "java/lang/Integer" "DigitOnes" "[B") (.int (Int32.ofNat j))) (.int (Int32.ofNat (48 + j % 10))) ∈ flatC (Jvm.Cond.and given_1 narrow_1) := by
  have h : Cond.eq (.elem (.static "java/lang/Integer" "DigitOnes" "[B") (.int (Int32.ofNat j))) (.int (Int32.ofNat (48 + j % 10))) ∈ (List.range 100).map (fun j => Cond.eq (.elem (.static "java/lang/Integer" "DigitOnes" "[B") (.int (Int32.ofNat j))) (.int (Int32.ofNat (48 + j % 10)))) := List.mem_map.mpr ⟨j, List.mem_range.mpr hj, rfl⟩
  rw [← start_dg1] at h
  exact List.mem_of_mem_drop (List.mem_of_mem_take h)
set_option maxRecDepth 100000 in
theorem start_dg2 : ((flatC (Jvm.Cond.and given_1 narrow_1)).drop 117).take 100 = (List.range 100).map (fun j => Cond.eq (.elem (.static "java/lang/Integer" "DigitTens" "[B") (.int (Int32.ofNat j))) (.int (Int32.ofNat (48 + j / 10)))) := by decide +kernel
theorem start_dig2 (j : Nat) (hj : j < 100) : Cond.eq (.elem (.static "java/lang/Integer" "DigitTens" "[B") (.int (Int32.ofNat j))) (.int (Int32.ofNat (48 + j / 10))) ∈ flatC (Jvm.Cond.and given_1 narrow_1) := by
  have h : Cond.eq (.elem (.static "java/lang/Integer" "DigitTens" "[B") (.int (Int32.ofNat j))) (.int (Int32.ofNat (48 + j / 10))) ∈ (List.range 100).map (fun j => Cond.eq (.elem (.static "java/lang/Integer" "DigitTens" "[B") (.int (Int32.ofNat j))) (.int (Int32.ofNat (48 + j / 10)))) := List.mem_map.mpr ⟨j, List.mem_range.mpr hj, rfl⟩
  rw [← start_dg2] at h
  exact List.mem_of_mem_drop (List.mem_of_mem_take h)
set_option maxHeartbeats 8000000 in
set_option maxRecDepth 100000 in
theorem start_Z {args : Array Value} {s : State} (hts : ∀ w ∈ lw_tbl, w.before args s = true) (hgv : (Jvm.Cond.and given_1 narrow_1).before args s = true) : ZS s ∧ ZT s s.heap ∧ ZBA (zB s.heap.size) s s.heap ∧ NT s ∧ NF9 s ∧ va_Nc IA IX s ∧ CM (zB s.heap.size) s s.heap ∧ NC s := by
  have hs := flat_of_before _ hgv
  have hA : ∀ a : Nat, a < s.heap.size → ¬ zB s.heap.size a := fun a h z => Nat.not_le.mpr h z
  have hF : ∀ a : Nat, a < s.heap.size → ¬ (fun _ : Nat => False) a := fun a h z => z
  refine ⟨⟨fun x hx => va_Nw.of rfl (hts _ (start_decl x hx)), ⟨va_Nw.of rfl (hts (.castable IX IX) (by decide +kernel)), va_Nw.of rfl (hts (.castable IA IA) (by decide +kernel))⟩, fun q hq => str_R (hts _ (start_strT q hq)) (hs _ (start_strG q hq))⟩, ⟨vx_Zqof (hts (.laysStatic Bundle.tN "UNASSIGNED_STACK" Bundle.steD) (by decide +kernel)) (hts (.initialized Bundle.tN) (by decide +kernel)) (hs (.isRef (.static Bundle.tN "UNASSIGNED_STACK" Bundle.steD)) (by decide +kernel)) hF, vx_Zqof (hts (.laysStatic Bundle.tN "SUPPRESSED_SENTINEL" Bundle.listD) (by decide +kernel)) (hts (.initialized Bundle.tN) (by decide +kernel)) (hs (.isRef (.static Bundle.tN "SUPPRESSED_SENTINEL" Bundle.listD)) (by decide +kernel)) hF⟩, ⟨?_, ?_, ?_, ?_⟩, ⟨va_Nw.of rfl (hts (.methodLinkNest RX2 65 yX4_appendGap "Orderlattice") (by decide +kernel)), va_Nw.of rfl (hts (.methodLinkNest RX1 65 yX4_appendGap "Orderlattice") (by decide +kernel))⟩, ⟨va_Nw.of rfl (hts (.fieldLinkNest "OrderlatticeLaw" 13 RX5 "n" "J" "OrderlatticeLaw") (by decide +kernel)), va_Nw.of rfl (hts (.fieldLinkNest "OrderlatticeLaw" 73 RX5 "s" "Ljava/lang/String;" "OrderlatticeLaw") (by decide +kernel))⟩, va_Nc.of (hs (.not (.castable IA IX)) (by decide +kernel)), ?_, ?_⟩
  · exact va_Zof (hts (.laysStatic "java/lang/String" "COMPACT_STRINGS" "Z") (by decide +kernel)) (hts (.initialized "java/lang/String") (by decide +kernel)) (va_eqt (hs (.eq (.static "java/lang/String" "COMPACT_STRINGS" "Z") (.int 1)) (by decide +kernel))) hA
  · obtain ⟨t, ht, hT⟩ := va_Tof (tm := .static "java/lang/Integer" "DigitOnes" "[B") (ty := .byte) (N := 100) (f := fun j => .int (Int32.ofNat (48 + j % 10))) (by decide) (hs (.arrayOf (.static "java/lang/Integer" "DigitOnes" "[B") .byte) (by decide +kernel)) (va_eqt (hs (.eq (.length (.static "java/lang/Integer" "DigitOnes" "[B")) (.int 100)) (by decide +kernel))) (fun j hj => va_eqt (hs _ (start_dig1 j hj))) hA
    exact ⟨t, _, va_Zof (hts (.laysStatic "java/lang/Integer" "DigitOnes" "[B") (by decide +kernel)) (hts (.initialized "java/lang/Integer") (by decide +kernel)) ht hA, hT⟩
  · obtain ⟨t, ht, hT⟩ := va_Tof (tm := .static "java/lang/Integer" "DigitTens" "[B") (ty := .byte) (N := 100) (f := fun j => .int (Int32.ofNat (48 + j / 10))) (by decide) (hs (.arrayOf (.static "java/lang/Integer" "DigitTens" "[B") .byte) (by decide +kernel)) (va_eqt (hs (.eq (.length (.static "java/lang/Integer" "DigitTens" "[B")) (.int 100)) (by decide +kernel))) (fun j hj => va_eqt (hs _ (start_dig2 j hj))) hA
    exact ⟨t, _, va_Zof (hts (.laysStatic "java/lang/Integer" "DigitTens" "[B") (by decide +kernel)) (hts (.initialized "java/lang/Integer") (by decide +kernel)) ht hA, hT⟩
  · exact va_Nw.of rfl (hts (.castable "[B" "java/lang/Cloneable") (by decide +kernel))
  · have one : ∀ (k : Nat) (tx : String) (n : Nat) (bs : List Int32), bs.length = n → (Cond.stringRef RX6 k tx).before args s = true → (Cond.exactly (.string RX6 k) "java/lang/String").before args s = true → (Cond.eq (.field (.string RX6 k) "java/lang/String" "coder" "B") (.int 0)).before args s = true → (Cond.arrayOf (.field (.string RX6 k) "java/lang/String" "value" "[B") .byte).before args s = true → (Cond.eq (.length (.field (.string RX6 k) "java/lang/String" "value" "[B")) (.int (Int32.ofNat bs.length))).before args s = true →
        (∀ j : Nat, j < bs.length → (Cond.eq (.elem (.field (.string RX6 k) "java/lang/String" "value" "[B") (.int (Int32.ofNat j))) (.int (bs.getD j 0))).before args s = true) → (∀ j : Nat, j < bs.length → fits .byte (.int (bs.getD j 0)) = true) → bs.length < 1000 → ∃ a, vk_R RX6 k tx a s ∧ SV (zB s.heap.size) a n s s.heap := by
      intro k tx n bs e h1 h2 h3 h4 h5 h6 h7 h8
      subst e
      exact sv_of bs h1 h2 h3 h4 h5 h6 h7 h8
    intro c hc
    simp only [cmL, List.mem_cons, List.not_mem_nil, or_false] at hc
    rcases hc with rfl | rfl | rfl | rfl | rfl | rfl
    · exact one 95 "" 0 [] rfl (hts (.stringRef RX6 95 "") (by decide +kernel)) (hs (.exactly (.string RX6 95) "java/lang/String") (by decide +kernel)) (hs (.eq (.field (.string RX6 95) "java/lang/String" "coder" "B") (.int 0)) (by decide +kernel)) (hs (.arrayOf (.field (.string RX6 95) "java/lang/String" "value" "[B") .byte) (by decide +kernel)) (hs (.eq (.length (.field (.string RX6 95) "java/lang/String" "value" "[B")) (.int (Int32.ofNat 0))) (by decide +kernel)) (fun j hj => absurd hj (Nat.not_lt_zero j)) (fun j hj => absurd hj (Nat.not_lt_zero j)) (by decide)
    · exact one 104 " " 1 [32] rfl (hts (.stringRef RX6 104 " ") (by decide +kernel)) (hs (.exactly (.string RX6 104) "java/lang/String") (by decide +kernel)) (hs (.eq (.field (.string RX6 104) "java/lang/String" "coder" "B") (.int 0)) (by decide +kernel)) (hs (.arrayOf (.field (.string RX6 104) "java/lang/String" "value" "[B") .byte) (by decide +kernel)) (hs (.eq (.length (.field (.string RX6 104) "java/lang/String" "value" "[B")) (.int (Int32.ofNat 1))) (by decide +kernel)) (fun j hj => by cases Nat.lt_one_iff.mp (show j < 1 from hj); exact hs (.eq (.elem (.field (.string RX6 104) "java/lang/String" "value" "[B") (.int (Int32.ofNat 0))) (.int 32)) (by decide +kernel)) (fun j hj => by cases Nat.lt_one_iff.mp (show j < 1 from hj); rfl) (by decide)
    · exact one 109 "." 1 [46] rfl (hts (.stringRef RX6 109 ".") (by decide +kernel)) (hs (.exactly (.string RX6 109) "java/lang/String") (by decide +kernel)) (hs (.eq (.field (.string RX6 109) "java/lang/String" "coder" "B") (.int 0)) (by decide +kernel)) (hs (.arrayOf (.field (.string RX6 109) "java/lang/String" "value" "[B") .byte) (by decide +kernel)) (hs (.eq (.length (.field (.string RX6 109) "java/lang/String" "value" "[B")) (.int (Int32.ofNat 1))) (by decide +kernel)) (fun j hj => by cases Nat.lt_one_iff.mp (show j < 1 from hj); exact hs (.eq (.elem (.field (.string RX6 109) "java/lang/String" "value" "[B") (.int (Int32.ofNat 0))) (.int 46)) (by decide +kernel)) (fun j hj => by cases Nat.lt_one_iff.mp (show j < 1 from hj); rfl) (by decide)
    · exact one 131 ":" 1 [58] rfl (hts (.stringRef RX6 131 ":") (by decide +kernel)) (hs (.exactly (.string RX6 131) "java/lang/String") (by decide +kernel)) (hs (.eq (.field (.string RX6 131) "java/lang/String" "coder" "B") (.int 0)) (by decide +kernel)) (hs (.arrayOf (.field (.string RX6 131) "java/lang/String" "value" "[B") .byte) (by decide +kernel)) (hs (.eq (.length (.field (.string RX6 131) "java/lang/String" "value" "[B")) (.int (Int32.ofNat 1))) (by decide +kernel)) (fun j hj => by cases Nat.lt_one_iff.mp (show j < 1 from hj); exact hs (.eq (.elem (.field (.string RX6 131) "java/lang/String" "value" "[B") (.int (Int32.ofNat 0))) (.int 58)) (by decide +kernel)) (fun j hj => by cases Nat.lt_one_iff.mp (show j < 1 from hj); rfl) (by decide)
    · exact one 141 "-" 1 [45] rfl (hts (.stringRef RX6 141 "-") (by decide +kernel)) (hs (.exactly (.string RX6 141) "java/lang/String") (by decide +kernel)) (hs (.eq (.field (.string RX6 141) "java/lang/String" "coder" "B") (.int 0)) (by decide +kernel)) (hs (.arrayOf (.field (.string RX6 141) "java/lang/String" "value" "[B") .byte) (by decide +kernel)) (hs (.eq (.length (.field (.string RX6 141) "java/lang/String" "value" "[B")) (.int (Int32.ofNat 1))) (by decide +kernel)) (fun j hj => by cases Nat.lt_one_iff.mp (show j < 1 from hj); exact hs (.eq (.elem (.field (.string RX6 141) "java/lang/String" "value" "[B") (.int (Int32.ofNat 0))) (.int 45)) (by decide +kernel)) (fun j hj => by cases Nat.lt_one_iff.mp (show j < 1 from hj); rfl) (by decide)
    · exact one 143 "+" 1 [43] rfl (hts (.stringRef RX6 143 "+") (by decide +kernel)) (hs (.exactly (.string RX6 143) "java/lang/String") (by decide +kernel)) (hs (.eq (.field (.string RX6 143) "java/lang/String" "coder" "B") (.int 0)) (by decide +kernel)) (hs (.arrayOf (.field (.string RX6 143) "java/lang/String" "value" "[B") .byte) (by decide +kernel)) (hs (.eq (.length (.field (.string RX6 143) "java/lang/String" "value" "[B")) (.int (Int32.ofNat 1))) (by decide +kernel)) (fun j hj => by cases Nat.lt_one_iff.mp (show j < 1 from hj); exact hs (.eq (.elem (.field (.string RX6 143) "java/lang/String" "value" "[B") (.int (Int32.ofNat 0))) (.int 43)) (by decide +kernel)) (fun j hj => by cases Nat.lt_one_iff.mp (show j < 1 from hj); rfl) (by decide)
  · exact ⟨va_Nw.of rfl (hts (.methodLinkNest RX4 23 yX3_init "Orderlattice") (by decide +kernel)), va_Nw.of rfl (hts (.methodLinkNest RX4 30 yX0_init "Orderlattice") (by decide +kernel)), va_Nw.of rfl (hts (.methodLinkNest RX4 35 yX2_init "Orderlattice") (by decide +kernel)), va_Nw.of rfl (hts (.methodLinkNest RX4 40 yX1_init "Orderlattice") (by decide +kernel)), va_Nw.of rfl (hts (.methodLinkNest RX0 11 yX3_init "Orderlattice") (by decide +kernel)), va_Nw.of rfl (hts (.methodLinkNest RX0 20 yX2_init "Orderlattice") (by decide +kernel)), va_Nw.of rfl (hts (.methodLinkNest RX0 30 yX1_init "Orderlattice") (by decide +kernel)), va_Nw.of rfl (hts (.methodLinkNest RX3 9 yX2_init "Orderlattice") (by decide +kernel))⟩
end
section
/-! THE CLAIM OUT OF ONE WALK OF THE LAW'S BODY. Your part is whole_start (and what it stands on); all else here is the same for every law, but numbers. -/
def R_law : String := "OrderlatticeLaw"
def lw_P (b : Addr) (xs : List Int32) (args : Array Value) (s : State) : Prop := args = #[.ref b] ∧ s.IntsAt b xs ∧ xs.length ≤ 2560 ∧ (Jvm.Cond.and given_1 narrow_1).before args s = true
def lw_Q (_ : Array Value) (s : State) (o : Outcome) (t : State) : Prop := o = .returned (some (.int 1)) ∧ Framed s o t [] room_1.cells room_1.slots
def lw_Z (below : List Frame) (a : Array Value) (s : State) : State → Prop := fun t => ∃ o, t.status = .running ∧ Ended t below o ∧ lw_Q a s o t
/-- the law's own end, with 1 on the stack, nothing written that was there before, its room as the claim has it -/
theorem lw_ret {p : Program} {l : Launch} {e : Env} {s : State} {m : MethodId} {below : List Frame} {meth : Method} {c : Code} {b : Nat} (hx : p.tables.exec = Jvm.exec) (hb : c.code = code) (hr : meth.sig.returnType = ret) (hlocks : meth.locks = false) {pc : Nat} {H : Heap} {ls : Array Slot} (hdg : decode code pc = .ok (.ireturn, 1)) : W p l e room_1 s m #[Value.ref b] below meth c H [] room_1.cells room_1.slots (lw_Z below #[Value.ref b] s) (F0 m pc ls [.int 1]) := by
  intro T hT X
  obtain ⟨fs, hret, hrun, hended, hW, hframe⟩ := X.leave (v := some (.int 1)) (hlocks := hlocks) (fun h => by rw [hr] at h; cases h)
  have hmeth' : T.vm.method? m = some meth := X.method'
  refine ⟨T.setFrames fs, ?_, .returned (some (.int 1)), hrun, hended, rfl, ⟨_, rfl⟩, hW, hframe⟩
  jvm_step X.here [X.here.top, hx, hb, hdg, hmeth', hr, ret, narrow_b1]
  (try refine ⟨rfl, ?_⟩); (try refine ⟨rfl, ?_⟩)
  first | (intro acts; rw [hret _ acts rfl rfl rfl]) | rw [hret _ _ rfl rfl rfl]
  exact Steps.refl _
/-- what holds at the law's entry: the machine, the code, the tables' words (any of lw_tbl by 'hts w (by decide +kernel)'), the script of L ints xs at the cell b, what the Statement gives of the start (any of its parts by flat_of_before) -/
def lw_At (p : Program) (s : State) (m : MethodId) (meth : Method) (c : Code) (b L : Nat) (xs : Nat → Int32) : Prop :=
  p.tables.exec = Jvm.exec ∧ c.code = code ∧ meth.sig.returnType = ret ∧ c.maxLocals = 7 ∧ s.vm.findClass R_law = some m.cls ∧ (∀ w ∈ lw_tbl, w.before #[Value.ref b] s = true) ∧ va_X b L xs s s.heap ∧ b < s.heap.size ∧ meth.locks = false ∧ (Jvm.Cond.and given_1 narrow_1).before #[Value.ref b] s = true
end
section
set_option maxHeartbeats 8000000 in
set_option maxRecDepth 100000 in
theorem whole_start {p : Program} {e : Env} {s : State} {m : MethodId} {below : List Frame} {meth : Method} {c : Code} (l : Launch) (hflags : l.flags = flags0) {b L : Nat} {xs : Nat → Int32} (hL : L ≤ 2560) (C0 : lw_At p s m meth c b L xs) : W p l e room_1 s m #[Value.ref b] below meth c s.heap [] 0 0 (lw_Z below #[Value.ref b] s) (entryFrame m ([Value.ref b] : List Value).toArray 7) := by
  obtain ⟨hx, hb, hr, hml, hown, hts, hX, hbl, hlocks, hgv⟩ := id C0
  have hst : l.stackTraces = false := by
    unfold Launch.stackTraces
    rw [hflags]
    decide
  have htsL := wsL_R_ok hts
  obtain ⟨dC, dI, cB, hKX, hKM, hKB⟩ := start_K hts htsL
  obtain ⟨zs, zt, zb, nt, nf, nc, cm, hNC⟩ := start_Z hts hgv
  have hAR : va_AO RX2 s := va_AO.of (hts (.arrayOver (.object RX2)) (by decide +kernel))
  have hAO : va_AO RX1 s := va_AO.of (hts (.arrayOver (.object RX1)) (by decide +kernel))
  have hAI : va_AOA .int s := (hts (.arrayOver (.array .int)) (by decide +kernel) : (Cond.arrayOver (.array .int)).before #[Value.ref b] s = true)
  have hAZ : va_AOA .boolean s := (hts (.arrayOver (.array .boolean)) (by decide +kernel) : (Cond.arrayOver (.array .boolean)).before #[Value.ref b] s = true)
  have hl := lv_entry ([.ref b]) (n := 7) (Nat.le_of_ble_eq_true rfl)
  rw [lg_entry_eq]
  generalize (lg_sl ([.ref b]) ++ List.replicate (7 - (lg_sl ([.ref b])).length) Slot.unset).toArray = ls at hl ⊢
  have hl : lv_has ls 7 [(0, .ref b)] := hl
  -- the class's object
  refine la_newX4 hx hb hts (by decide +kernel) hown (hts (.classLink RL 8 RX4) (by decide +kernel)) (hts (.instantiable RX4 9) (by decide +kernel)) (hts (.initialized RX4) (by decide +kernel)) hKX (Nat.le_of_ble_eq_true rfl) (Nat.le_of_ble_eq_true rfl) dL_law_0 (fun H1 hP1 z1 o1 => ?_)
  refine lv_dup hx hb dL_law_3 rfl ?_
  have hS1 : va_S (zB s.heap.size) s.heap H1 [] := ⟨by omega, fun q h1 h2 => o1 q h1, fun _ h => nomatch h⟩
  refine va_callv (va_runI (As := []) (rest := [.ref s.heap.size]) ⟨hx, hb, hml, hown, htsL⟩ (m_X4_init l dC dI s.heap.size [(s.heap.size, .inr (6, [.null, .null, .null, .null, .null, .null, .int (nI 0), .int (nI 0), .int (nI 0)]))] 0 s.heap.size rfl ⟨rfl, rfl⟩) (cwI 0 htsL gL_law_X4_init rfl rfl rfl (hts (.initialized RX4) (by decide +kernel)) (hts (.methodLink RL 152 yX4_init) (by decide +kernel)) (hts (.instanceMethod yX4_init) (by decide +kernel)) rfl (by decide +kernel) ⟨Nat.le_of_ble_eq_true rfl, Nat.le_of_ble_eq_true rfl⟩) ⟨fun a U g mk h => ⟨h.1, h.2.1.call, h.2.2.1.call, h.2.2.2.call⟩, fun U hU hW => ⟨rfl, ⟨by rw [hU]; exact hP1, va_K.moved hW.alike hKX, one_D (Nat.le_refl _), by rw [hU]; omega, NC.warm hW hNC⟩, va_AO.moved hW.alike hAR, va_AO.moved hW.alike hAO⟩⟩ rfl rfl hl.1 rfl (lv_room (Nat.le_of_ble_eq_true rfl)) dL_law_4 ⟨Nat.le_of_ble_eq_true rfl, Nat.le_of_ble_eq_true rfl⟩) hS1 (fun q _ h => h) (fun q h => h) (fun ad t H2 locs ht hvm hw hB hz2 hk2 hS2 => ?_)
  obtain ⟨h57, hax⟩ := hw
  have hX2 : va_P (dC, dI) vwCl (wX dC ad S00) H2 := by rw [← ht]; exact hB.1
  have hdX := wX_Dall hB.2.2
  refine lv_astore_n (lv' := [(1, .ref s.heap.size), (0, .ref b)]) hx hb dL_law_7 rfl hl (by decide) rfl (fun ls hl => ?_)
  -- the reference's
  refine la_newX6 hx hb hts (by decide +kernel) hown (hts (.classLink RL 153 RX6) (by decide +kernel)) (hts (.instantiable RX6 10) (by decide +kernel)) (hts (.initialized RX6) (by decide +kernel)) hKM (Nat.le_of_ble_eq_true rfl) (Nat.le_of_ble_eq_true rfl) dL_law_8 (fun H3 hP3 z3 o3 => ?_)
  refine lv_dup hx hb dL_law_11 rfl ?_
  have hS3 : va_S (zB s.heap.size) s.heap H3 locs := ⟨Nat.le_trans hS2.1 (by omega), fun q h1 h2 => (o3 q (Nat.lt_of_lt_of_le h1 hS2.1)).trans (hS2.2.1 q h1 h2), hS2.2.2⟩
  refine va_callv (va_runI (As := []) (rest := [.ref H2.size]) ⟨hx, hb, hml, hown, htsL⟩ (m_X6_init l dC dI H2.size [(H2.size, .inr (8, [.int (nI 0), .null, .null, .null, .null, .null, .null, .int (nI 0), .int (nI 0), .int (nI 0)]))] 0 H2.size rfl ⟨rfl, rfl⟩) (cwI 0 htsL gL_law_X6_init rfl rfl rfl (hts (.initialized RX6) (by decide +kernel)) (hts (.methodLink RL 155 yX6_init) (by decide +kernel)) (hts (.instanceMethod yX6_init) (by decide +kernel)) rfl (by decide +kernel) ⟨Nat.le_of_ble_eq_true rfl, Nat.le_of_ble_eq_true rfl⟩) ⟨fun a U g mk h => ⟨h.1, h.2.1.call, h.2.2.1.call, h.2.2.2.call⟩, fun U hU hW => ⟨rfl, ⟨by rw [hU]; exact hP3, va_K.moved hW.alike hKM, one_D (Nat.le_refl _), by rw [hU]; omega⟩, va_AOA.moved hW.alike hAI, va_AOA.moved hW.alike hAZ⟩⟩ rfl rfl hl.1 rfl (lv_room (Nat.le_of_ble_eq_true rfl)) dL_law_12 ⟨Nat.le_of_ble_eq_true rfl, Nat.le_of_ble_eq_true rfl⟩) hS3 (fun q _ h => Nat.le_trans hS2.1 h) (fun q h => Nat.le_trans hS2.1 h) (fun am t2 H4 locs2 ht2 hvm2 hw2 hB2 hz4 hk4 hS4 => ?_)
  obtain ⟨h0, ham⟩ := hw2
  have hM4 : va_P (dC, dI) vwCl (wM dC am M00) H4 := by rw [← ht2]; exact hB2.1
  have hdM := wM_Dall hB2.2.2
  refine lv_astore_n (lv' := [(2, .ref H2.size), (1, .ref s.heap.size), (0, .ref b)]) hx hb dL_law_15 rfl hl (by decide) rfl (fun ls hl => ?_)
  -- the object of answers
  refine la_newX5 hx hb hts (by decide +kernel) hown (hts (.classLink RL 14 RX5) (by decide +kernel)) (hts (.instantiable RX5 2) (by decide +kernel)) (hts (.initialized RX5) (by decide +kernel)) hKM (Nat.le_of_ble_eq_true rfl) (Nat.le_of_ble_eq_true rfl) dL_law_16 (fun H5 hP5 z5 o5 => ?_)
  refine lv_dup hx hb dL_law_19 rfl ?_
  refine va_csv (va_Run.run (va_runIN (As := []) (rest := [.ref H4.size]) ⟨hx, hb, hml, hown, htsL⟩ (m_X5_init l H4.size) ⟨va_cnB (host := "OrderlatticeLaw") 0 htsL gL_law_X5_init_n156 rfl rfl rfl (va_Nw.of rfl (hts (.methodLinkNest "OrderlatticeLaw" 156 yX5_init "OrderlatticeLaw") (by decide +kernel))) (hts (.initialized RX5) (by decide +kernel)) (by decide +kernel) ⟨Nat.le_of_ble_eq_true rfl, Nat.le_of_ble_eq_true rfl⟩, rfl, hts (.instanceMethod yX5_init) (by decide +kernel)⟩ ⟨fun _ _ _ _ h => h, fun _ _ _ => ⟨rfl, trivial⟩⟩ rfl rfl hl.1 rfl (lv_room (Nat.le_of_ble_eq_true rfl)) dL_law_20 ⟨Nat.le_of_ble_eq_true rfl, Nat.le_of_ble_eq_true rfl⟩)) (fun _ => ?_)
  refine lv_astore_n (lv' := [(3, .ref H4.size), (2, .ref H2.size), (1, .ref s.heap.size), (0, .ref b)]) hx hb dL_law_23 rfl hl (by decide) rfl (fun ls hl => ?_)
  refine lv_iconst (v := nI 0) hx hb dL_law_24 (by decide) ?_
  refine lv_istore (lv' := [(4, .int (nI 0)), (3, .ref H4.size), (2, .ref H2.size), (1, .ref s.heap.size), (0, .ref b)]) hx hb dL_law_25 hl (by decide) rfl (fun ls hl => ?_)
  have hl : lv_has ls 7 [(4, .int (nI 0)), (3, .ref H4.size), (2, .ref (am 0)), (1, .ref (ad 57)), (0, .ref b)] := by rw [h57, h0]; exact hl
  -- all side by side
  have hxlt : ∀ q, AX ad q → q < H2.size := fun q hq => by
    obtain ⟨k, hk, rfl⟩ := hq
    exact (hX2 k _ (wX_get hk)).lt
  have hmlt : ∀ q, AM am q → q < H4.size := fun q hq => by
    obtain ⟨k, hk, rfl⟩ := hq
    exact (hM4 k _ (wM_get hk)).lt
  have hS5 : va_S (zB s.heap.size) s.heap H5 locs2 := ⟨Nat.le_trans hS4.1 (by omega), fun q h1 h2 => (o5 q (Nat.lt_of_lt_of_le h1 hS4.1)).trans (hS4.2.1 q h1 h2), hS4.2.2⟩
  have h24 : H2.size ≤ H4.size := by omega
  have hLK : LK dC dI cB ad am H4.size s := ⟨hKX, hKM, hKB, hdX, hdM, hax, fun q hq => Nat.le_trans hS2.1 (ham q hq), Nat.le_trans hS2.1 h24, fun q h1 h2 => Nat.not_le.mpr (hxlt q h1) (ham q h2), fun h => Nat.not_le.mpr (hxlt _ h) h24, fun h => Nat.lt_irrefl _ (hmlt _ h), zs, zt, zb, nt, nf, nc, cm⟩
  have hLS : LSt dC dI ad am H4.size S00 M00 s H5 locs2 := ⟨hX2.kept (fun k q hq => by
    have h9 := (hX2 k q hq).lt
    rw [o5 q.1 (by omega), hk4 q.1 (by omega) (fun z => Nat.not_le.mpr h9 z), o3 q.1 h9]), hM4.kept (fun k q hq => o5 q.1 ((hM4 k q hq).lt)), ⟨lN 0, .null, Or.inl rfl, hP5⟩, hS5⟩
  have hLF : LF p l s m c b L xs dC dI cB ad am H4.size := ⟨hst, hx, hb, hml, hown, htsL, hLK, hX, hbl, hL⟩
  have hLI : LI 0 S00 M00 := ⟨InvX_0, fun j _ => Nat.zero_le _, InvM_0, Nat.le_refl _, Nat.le_refl _, Nat.le_refl _, Nat.le_refl _, Tie2_0, Nat.le_refl _⟩
  refine W.widen (k := 100 + 224 * 0) (n := 1200 + 10680 * 0) (Nat.le_of_ble_eq_true rfl) (Nat.le_of_ble_eq_true rfl) ?_
  exact law_loop hLF (fun H locs cells slots ls hS hc hs => W.widen (k := room_1.cells) (n := room_1.slots) (le_rc hc) (le_rs hs) (W.filt (fun locs1 hl1 => by
    obtain rfl : locs1 = [] := by
      cases locs1 with
      | nil => rfl
      | cons x xs9 =>
        obtain ⟨h1, h2⟩ := hl1 x List.mem_cons_self
        exact absurd h2 (Nat.not_lt.mpr (hS.2.2 x h1))
    exact lw_ret hx hb hr hlocks dL_law_2059))) (L + 5) 0 0 S00 M00 H5 locs2 rfl (Nat.zero_le _) (by omega) hLI hLS ls (lv_sub hl [4, 3, 2, 1, 0] rfl)
end
