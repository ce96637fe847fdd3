section
theorem and63 (x : Int32) : ∃ k, k < 64 ∧ x &&& nI 63 = nI k := by
  refine ⟨(x &&& nI 63).toBitVec.toNat, ?_, ?_⟩
  · rw [Int32.toBitVec_and, BitVec.toNat_and]
    exact Nat.lt_of_le_of_lt Nat.and_le_right (by decide)
  · apply Int32.toBitVec_inj.mp
    unfold nI
    rw [Int32.toBitVec_ofNat']
    exact BitVec.eq_of_toNat_eq (by rw [BitVec.toNat_ofNat]; exact (Nat.mod_eq_of_lt (BitVec.isLt _)).symm)
theorem law_more {L i : Nat} (hL : L ≤ 2560) (hi : i ≤ 3000) (h : ¬ nI L - nI 5 < nI i) : i + 5 ≤ L := by
  rw [Int32.lt_iff_toInt_lt] at h
  have e1 : (nI L - nI 5).toInt = (L : Int) - 5 := by
    by_cases h5 : 5 ≤ L
    · rw [pk_sub h5]
      unfold nI
      rw [Int32.toInt_ofNat_of_lt (by omega)]
      omega
    · rcases (show L = 0 ∨ L = 1 ∨ L = 2 ∨ L = 3 ∨ L = 4 by omega) with rfl | rfl | rfl | rfl | rfl <;> decide
  have e2 : (nI i).toInt = i := by
    unfold nI
    rw [Int32.toInt_ofNat_of_lt (by omega)]
  rw [e1, e2] at h
  omega
section LWM
variable {p : Program} {l : Launch} {e : Env} {s : State} {m : MethodId} {below : List Frame} {meth : Method} {c : Code} {b L : Nat} {xs : Nat → Int32} {dC : Nat → ClassId} {dI : Nat → Nat → Nat} {cB : ClassId} {ad am : Nat → Nat} {o : Nat} {Q : State → Prop}
theorem law_next {H : Heap} {locs : List Loc} {cells slots i : Nat} {ls : Array Slot} (hx : p.tables.exec = Jvm.exec) (hb : c.code = cL_law) (hl : lv_has ls 7 [(0, .ref b), (1, .ref (ad 57)), (2, .ref (am 0)), (3, .ref o), (4, .int (nI i))])
    (kk : ∀ ls : Array Slot, lv_has ls 7 [(0, .ref b), (1, .ref (ad 57)), (2, .ref (am 0)), (3, .ref o), (4, .int (nI (i + 5)))] → W p l e room_1 s m #[Value.ref b] below meth c H locs cells slots Q (F0 m 27 ls [])) : W p l e room_1 s m #[Value.ref b] below meth c H locs cells slots Q (F0 m 2052 ls []) := by
  refine lv_iinc (v := nI (i + 5)) (lv' := [(4, .int (nI (i + 5))), (0, .ref b), (1, .ref (ad 57)), (2, .ref (am 0)), (3, .ref o)]) hx hb dL_law_2052 hl (k := 4) rfl (nI_add i 5) (by decide) rfl (fun ls hl => ?_)
  refine lv_goto (tgt := 27) hx hb dL_law_2055 (by decide) ?_
  exact kk ls (lv_sub hl [1, 2, 3, 4, 0] rfl)
set_option maxHeartbeats 8000000 in
set_option maxRecDepth 100000 in
theorem law_loop (F : LF p l s m c b L xs dC dI cB ad am o) (hend : ∀ (H : Heap) (locs : List Loc) (cells slots : Nat) (ls : Array Slot), va_S (zB s.heap.size) s.heap H locs → cells ≤ 116000 → slots ≤ 5480000 → W p l e room_1 s m #[Value.ref b] below meth c H locs cells slots Q (F0 m 2059 ls [.int (nI 1)])) :
    ∀ (fuel n i : Nat) (S : XS) (M : MS) (H : Heap) (locs : List Loc), i = 5 * n → i ≤ L + 4 → L + 4 - i < fuel → LI n S M → LSt dC dI ad am o S M s H locs → ∀ ls : Array Slot, lv_has ls 7 [(0, .ref b), (1, .ref (ad 57)), (2, .ref (am 0)), (3, .ref o), (4, .int (nI i))] →
      W p l e room_1 s m #[Value.ref b] below meth c H locs (100 + 224 * n) (1200 + 10680 * n) Q (F0 m 27 ls []) := by
  intro fuel
  induction fuel with
  | zero => intro n i S M H locs _ _ hf; exact absurd hf (Nat.not_lt_zero _)
  | succ fuel ih =>
    intro n i S M H locs hni hiL hf hI hS ls hl
    have hx := F.x
    have hb := F.b
    have hL := F.hL
    have hbA : ¬ zB s.heap.size b := fun z => Nat.not_le.mpr F.bl z
    refine lv_iload hx hb dL_law_27 (lv_at hl 4 rfl) ?_
    refine lv_aload_n hx hb dL_law_29 rfl (lv_at hl 0 rfl) ?_
    refine va_slen hx hb F.sc F.bl hbA hS.st dL_law_30 ?_
    refine lv_iconst (v := nI 5) hx hb dL_law_31 (by decide) ?_
    refine lv_isub hx hb dL_law_32 ?_
    refine lv_icmp_gt (tgt := 2058) hx hb dL_law_33 (by decide) (fun _ => ?_) (fun hgt => ?_)
    · refine lv_iconst (v := nI 1) hx hb dL_law_2058 (by decide) ?_
      exact hend H locs _ _ ls hS.st (by omega) (by omega)
    · have hi5 : i + 5 ≤ L := law_more hL (by omega) hgt
      refine lv_aload_n hx hb dL_law_36 rfl (lv_at hl 0 rfl) ?_
      refine lv_iload hx hb dL_law_37 (lv_at hl 4 rfl) ?_
      refine va_sld hx hb F.sc F.bl hbA hS.st (vp_in_nI (show i < L by omega) (by omega)) dL_law_39 ?_
      refine lv_bipush (v := nI 63) hx hb dL_law_40 (by decide) ?_
      refine lv_iand hx hb dL_law_42 ?_
      generalize xs (nI i).toNatClampNeg = x9
      obtain ⟨k, hk, hk9⟩ := and63 x9
      rw [hk9]
      clear hk9
      by_cases e0 : k = 0
      · subst e0
        refine lv_tableIn (off := 185) (tgt := 228) hx hb dL_law_43 (by decide) (by decide) (by decide) (by decide) ?_
        exact (lc_0 F hni hi5 S M H locs hI hS (fun S1 M1 H1 locs1 ls1 hI1 hS1 hl1 => law_next hx hb hl1 (ih (n + 1) (i + 5) S1 M1 H1 locs1 (by omega) (by omega) (by omega) hI1 hS1)) ls hl)
      by_cases e1 : k = 1
      · subst e1
        refine lv_tableIn (off := 225) (tgt := 268) hx hb dL_law_43 (by decide) (by decide) (by decide) (by decide) ?_
        exact (lc_1 F hni hi5 S M H locs hI hS (fun S1 M1 H1 locs1 ls1 hI1 hS1 hl1 => law_next hx hb hl1 (ih (n + 1) (i + 5) S1 M1 H1 locs1 (by omega) (by omega) (by omega) hI1 hS1)) ls hl)
      by_cases e2 : k = 2
      · subst e2
        refine lv_tableIn (off := 277) (tgt := 320) hx hb dL_law_43 (by decide) (by decide) (by decide) (by decide) ?_
        exact (lc_2 F hni hi5 S M H locs hI hS (fun S1 M1 H1 locs1 ls1 hI1 hS1 hl1 => law_next hx hb hl1 (ih (n + 1) (i + 5) S1 M1 H1 locs1 (by omega) (by omega) (by omega) hI1 hS1)) ls hl)
      by_cases e3 : k = 3
      · subst e3
        refine lv_tableIn (off := 341) (tgt := 384) hx hb dL_law_43 (by decide) (by decide) (by decide) (by decide) ?_
        exact (lc_3 F hni hi5 S M H locs hI hS (fun S1 M1 H1 locs1 ls1 hI1 hS1 hl1 => law_next hx hb hl1 (ih (n + 1) (i + 5) S1 M1 H1 locs1 (by omega) (by omega) (by omega) hI1 hS1)) ls hl)
      by_cases e4 : k = 4
      · subst e4
        refine lv_tableIn (off := 381) (tgt := 424) hx hb dL_law_43 (by decide) (by decide) (by decide) (by decide) ?_
        exact (lc_4 F hni hi5 S M H locs hI hS (fun S1 M1 H1 locs1 ls1 hI1 hS1 hl1 => law_next hx hb hl1 (ih (n + 1) (i + 5) S1 M1 H1 locs1 (by omega) (by omega) (by omega) hI1 hS1)) ls hl)
      by_cases e5 : k = 5
      · subst e5
        refine lv_tableIn (off := 409) (tgt := 452) hx hb dL_law_43 (by decide) (by decide) (by decide) (by decide) ?_
        exact (lc_5 F hni hi5 S M H locs hI hS (fun S1 M1 H1 locs1 ls1 hI1 hS1 hl1 => law_next hx hb hl1 (ih (n + 1) (i + 5) S1 M1 H1 locs1 (by omega) (by omega) (by omega) hI1 hS1)) ls hl)
      by_cases e6 : k = 6
      · subst e6
        refine lv_tableIn (off := 449) (tgt := 492) hx hb dL_law_43 (by decide) (by decide) (by decide) (by decide) ?_
        exact (lc_6 F hni hi5 S M H locs hI hS (fun S1 M1 H1 locs1 ls1 hI1 hS1 hl1 => law_next hx hb hl1 (ih (n + 1) (i + 5) S1 M1 H1 locs1 (by omega) (by omega) (by omega) hI1 hS1)) ls hl)
      by_cases e7 : k = 7
      · subst e7
        refine lv_tableIn (off := 477) (tgt := 520) hx hb dL_law_43 (by decide) (by decide) (by decide) (by decide) ?_
        exact (lc_7 F hni hi5 S M H locs hI hS (fun S1 M1 H1 locs1 ls1 hI1 hS1 hl1 => law_next hx hb hl1 (ih (n + 1) (i + 5) S1 M1 H1 locs1 (by omega) (by omega) (by omega) hI1 hS1)) ls hl)
      by_cases e8 : k = 8
      · subst e8
        refine lv_tableIn (off := 517) (tgt := 560) hx hb dL_law_43 (by decide) (by decide) (by decide) (by decide) ?_
        exact (lc_8 F hni hi5 S M H locs hI hS (fun S1 M1 H1 locs1 ls1 hI1 hS1 hl1 => law_next hx hb hl1 (ih (n + 1) (i + 5) S1 M1 H1 locs1 (by omega) (by omega) (by omega) hI1 hS1)) ls hl)
      by_cases e9 : k = 9
      · subst e9
        refine lv_tableIn (off := 569) (tgt := 612) hx hb dL_law_43 (by decide) (by decide) (by decide) (by decide) ?_
        exact (lc_9 F hni hi5 S M H locs hI hS (fun S1 M1 H1 locs1 ls1 hI1 hS1 hl1 => law_next hx hb hl1 (ih (n + 1) (i + 5) S1 M1 H1 locs1 (by omega) (by omega) (by omega) hI1 hS1)) ls hl)
      by_cases e10 : k = 10
      · subst e10
        refine lv_tableIn (off := 621) (tgt := 664) hx hb dL_law_43 (by decide) (by decide) (by decide) (by decide) ?_
        exact (lc_10 F hni hi5 S M H locs hI hS (fun S1 M1 H1 locs1 ls1 hI1 hS1 hl1 => law_next hx hb hl1 (ih (n + 1) (i + 5) S1 M1 H1 locs1 (by omega) (by omega) (by omega) hI1 hS1)) ls hl)
      by_cases e11 : k = 11
      · subst e11
        refine lv_tableIn (off := 685) (tgt := 728) hx hb dL_law_43 (by decide) (by decide) (by decide) (by decide) ?_
        exact (lc_11 F hni hi5 S M H locs hI hS (fun S1 M1 H1 locs1 ls1 hI1 hS1 hl1 => law_next hx hb hl1 (ih (n + 1) (i + 5) S1 M1 H1 locs1 (by omega) (by omega) (by omega) hI1 hS1)) ls hl)
      by_cases e12 : k = 12
      · subst e12
        refine lv_tableIn (off := 725) (tgt := 768) hx hb dL_law_43 (by decide) (by decide) (by decide) (by decide) ?_
        exact (lc_12 F hni hi5 S M H locs hI hS (fun S1 M1 H1 locs1 ls1 hI1 hS1 hl1 => law_next hx hb hl1 (ih (n + 1) (i + 5) S1 M1 H1 locs1 (by omega) (by omega) (by omega) hI1 hS1)) ls hl)
      by_cases e13 : k = 13
      · subst e13
        refine lv_tableIn (off := 753) (tgt := 796) hx hb dL_law_43 (by decide) (by decide) (by decide) (by decide) ?_
        exact (lc_13 F hni hi5 S M H locs hI hS (fun S1 M1 H1 locs1 ls1 hI1 hS1 hl1 => law_next hx hb hl1 (ih (n + 1) (i + 5) S1 M1 H1 locs1 (by omega) (by omega) (by omega) hI1 hS1)) ls hl)
      by_cases e14 : k = 14
      · subst e14
        refine lv_tableIn (off := 793) (tgt := 836) hx hb dL_law_43 (by decide) (by decide) (by decide) (by decide) ?_
        exact (lc_14 F hni hi5 S M H locs hI hS (fun S1 M1 H1 locs1 ls1 hI1 hS1 hl1 => law_next hx hb hl1 (ih (n + 1) (i + 5) S1 M1 H1 locs1 (by omega) (by omega) (by omega) hI1 hS1)) ls hl)
      by_cases e15 : k = 15
      · subst e15
        refine lv_tableIn (off := 833) (tgt := 876) hx hb dL_law_43 (by decide) (by decide) (by decide) (by decide) ?_
        exact (lc_15 F hni hi5 S M H locs hI hS (fun S1 M1 H1 locs1 ls1 hI1 hS1 hl1 => law_next hx hb hl1 (ih (n + 1) (i + 5) S1 M1 H1 locs1 (by omega) (by omega) (by omega) hI1 hS1)) ls hl)
      by_cases e16 : k = 16
      · subst e16
        refine lv_tableIn (off := 861) (tgt := 904) hx hb dL_law_43 (by decide) (by decide) (by decide) (by decide) ?_
        exact (lc_16 F hni hi5 S M H locs hI hS (fun S1 M1 H1 locs1 ls1 hI1 hS1 hl1 => law_next hx hb hl1 (ih (n + 1) (i + 5) S1 M1 H1 locs1 (by omega) (by omega) (by omega) hI1 hS1)) ls hl)
      by_cases e17 : k = 17
      · subst e17
        refine lv_tableIn (off := 929) (tgt := 972) hx hb dL_law_43 (by decide) (by decide) (by decide) (by decide) ?_
        exact (lc_17 F hni hi5 S M H locs hI hS (fun S1 M1 H1 locs1 ls1 hI1 hS1 hl1 => law_next hx hb hl1 (ih (n + 1) (i + 5) S1 M1 H1 locs1 (by omega) (by omega) (by omega) hI1 hS1)) ls hl)
      by_cases e18 : k = 18
      · subst e18
        refine lv_tableIn (off := 981) (tgt := 1024) hx hb dL_law_43 (by decide) (by decide) (by decide) (by decide) ?_
        exact (lc_18 F hni hi5 S M H locs hI hS (fun S1 M1 H1 locs1 ls1 hI1 hS1 hl1 => law_next hx hb hl1 (ih (n + 1) (i + 5) S1 M1 H1 locs1 (by omega) (by omega) (by omega) hI1 hS1)) ls hl)
      by_cases e19 : k = 19
      · subst e19
        refine lv_tableIn (off := 1045) (tgt := 1088) hx hb dL_law_43 (by decide) (by decide) (by decide) (by decide) ?_
        exact (lc_19 F hni hi5 S M H locs hI hS (fun S1 M1 H1 locs1 ls1 hI1 hS1 hl1 => law_next hx hb hl1 (ih (n + 1) (i + 5) S1 M1 H1 locs1 (by omega) (by omega) (by omega) hI1 hS1)) ls hl)
      by_cases e20 : k = 20
      · subst e20
        refine lv_tableIn (off := 1085) (tgt := 1128) hx hb dL_law_43 (by decide) (by decide) (by decide) (by decide) ?_
        exact (lc_20 F hni hi5 S M H locs hI hS (fun S1 M1 H1 locs1 ls1 hI1 hS1 hl1 => law_next hx hb hl1 (ih (n + 1) (i + 5) S1 M1 H1 locs1 (by omega) (by omega) (by omega) hI1 hS1)) ls hl)
      by_cases e21 : k = 21
      · subst e21
        refine lv_tableIn (off := 1137) (tgt := 1180) hx hb dL_law_43 (by decide) (by decide) (by decide) (by decide) ?_
        exact (lc_21 F hni hi5 S M H locs hI hS (fun S1 M1 H1 locs1 ls1 hI1 hS1 hl1 => law_next hx hb hl1 (ih (n + 1) (i + 5) S1 M1 H1 locs1 (by omega) (by omega) (by omega) hI1 hS1)) ls hl)
      by_cases e22 : k = 22
      · subst e22
        refine lv_tableIn (off := 1177) (tgt := 1220) hx hb dL_law_43 (by decide) (by decide) (by decide) (by decide) ?_
        exact (lc_22 F hni hi5 S M H locs hI hS (fun S1 M1 H1 locs1 ls1 hI1 hS1 hl1 => law_next hx hb hl1 (ih (n + 1) (i + 5) S1 M1 H1 locs1 (by omega) (by omega) (by omega) hI1 hS1)) ls hl)
      by_cases e23 : k = 23
      · subst e23
        refine lv_tableIn (off := 1245) (tgt := 1288) hx hb dL_law_43 (by decide) (by decide) (by decide) (by decide) ?_
        exact (lc_23 F hni hi5 S M H locs hI hS (fun S1 M1 H1 locs1 ls1 hI1 hS1 hl1 => law_next hx hb hl1 (ih (n + 1) (i + 5) S1 M1 H1 locs1 (by omega) (by omega) (by omega) hI1 hS1)) ls hl)
      by_cases e24 : k = 24
      · subst e24
        refine lv_tableIn (off := 1313) (tgt := 1356) hx hb dL_law_43 (by decide) (by decide) (by decide) (by decide) ?_
        exact (lc_24 F hni hi5 S M H locs hI hS (fun S1 M1 H1 locs1 ls1 hI1 hS1 hl1 => law_next hx hb hl1 (ih (n + 1) (i + 5) S1 M1 H1 locs1 (by omega) (by omega) (by omega) hI1 hS1)) ls hl)
      by_cases e25 : k = 25
      · subst e25
        refine lv_tableIn (off := 1341) (tgt := 1384) hx hb dL_law_43 (by decide) (by decide) (by decide) (by decide) ?_
        exact (lc_25 F hni hi5 S M H locs hI hS (fun S1 M1 H1 locs1 ls1 hI1 hS1 hl1 => law_next hx hb hl1 (ih (n + 1) (i + 5) S1 M1 H1 locs1 (by omega) (by omega) (by omega) hI1 hS1)) ls hl)
      by_cases e26 : k = 26
      · subst e26
        refine lv_tableIn (off := 1369) (tgt := 1412) hx hb dL_law_43 (by decide) (by decide) (by decide) (by decide) ?_
        exact (lc_26 F hni hi5 S M H locs hI hS (fun S1 M1 H1 locs1 ls1 hI1 hS1 hl1 => law_next hx hb hl1 (ih (n + 1) (i + 5) S1 M1 H1 locs1 (by omega) (by omega) (by omega) hI1 hS1)) ls hl)
      by_cases e27 : k = 27
      · subst e27
        refine lv_tableIn (off := 1409) (tgt := 1452) hx hb dL_law_43 (by decide) (by decide) (by decide) (by decide) ?_
        exact (lc_27 F hni hi5 S M H locs hI hS (fun S1 M1 H1 locs1 ls1 hI1 hS1 hl1 => law_next hx hb hl1 (ih (n + 1) (i + 5) S1 M1 H1 locs1 (by omega) (by omega) (by omega) hI1 hS1)) ls hl)
      by_cases e28 : k = 28
      · subst e28
        refine lv_tableIn (off := 1437) (tgt := 1480) hx hb dL_law_43 (by decide) (by decide) (by decide) (by decide) ?_
        exact (lc_28 F hni hi5 S M H locs hI hS (fun S1 M1 H1 locs1 ls1 hI1 hS1 hl1 => law_next hx hb hl1 (ih (n + 1) (i + 5) S1 M1 H1 locs1 (by omega) (by omega) (by omega) hI1 hS1)) ls hl)
      by_cases e29 : k = 29
      · subst e29
        refine lv_tableIn (off := 1489) (tgt := 1532) hx hb dL_law_43 (by decide) (by decide) (by decide) (by decide) ?_
        exact (lc_29 F hni hi5 S M H locs hI hS (fun S1 M1 H1 locs1 ls1 hI1 hS1 hl1 => law_next hx hb hl1 (ih (n + 1) (i + 5) S1 M1 H1 locs1 (by omega) (by omega) (by omega) hI1 hS1)) ls hl)
      by_cases e30 : k = 30
      · subst e30
        refine lv_tableIn (off := 1541) (tgt := 1584) hx hb dL_law_43 (by decide) (by decide) (by decide) (by decide) ?_
        exact (lc_30 F hni hi5 S M H locs hI hS (fun S1 M1 H1 locs1 ls1 hI1 hS1 hl1 => law_next hx hb hl1 (ih (n + 1) (i + 5) S1 M1 H1 locs1 (by omega) (by omega) (by omega) hI1 hS1)) ls hl)
      by_cases e31 : k = 31
      · subst e31
        refine lv_tableIn (off := 1569) (tgt := 1612) hx hb dL_law_43 (by decide) (by decide) (by decide) (by decide) ?_
        exact (lc_31 F hni hi5 S M H locs hI hS (fun S1 M1 H1 locs1 ls1 hI1 hS1 hl1 => law_next hx hb hl1 (ih (n + 1) (i + 5) S1 M1 H1 locs1 (by omega) (by omega) (by omega) hI1 hS1)) ls hl)
      by_cases e32 : k = 32
      · subst e32
        refine lv_tableIn (off := 1621) (tgt := 1664) hx hb dL_law_43 (by decide) (by decide) (by decide) (by decide) ?_
        exact (lc_32 F hni hi5 S M H locs hI hS (fun S1 M1 H1 locs1 ls1 hI1 hS1 hl1 => law_next hx hb hl1 (ih (n + 1) (i + 5) S1 M1 H1 locs1 (by omega) (by omega) (by omega) hI1 hS1)) ls hl)
      by_cases e33 : k = 33
      · subst e33
        refine lv_tableIn (off := 1685) (tgt := 1728) hx hb dL_law_43 (by decide) (by decide) (by decide) (by decide) ?_
        exact (lc_33 F hni hi5 S M H locs hI hS (fun S1 M1 H1 locs1 ls1 hI1 hS1 hl1 => law_next hx hb hl1 (ih (n + 1) (i + 5) S1 M1 H1 locs1 (by omega) (by omega) (by omega) hI1 hS1)) ls hl)
      by_cases e34 : k = 34
      · subst e34
        refine lv_tableIn (off := 1725) (tgt := 1768) hx hb dL_law_43 (by decide) (by decide) (by decide) (by decide) ?_
        exact (lc_34 F hni hi5 S M H locs hI hS (fun S1 M1 H1 locs1 ls1 hI1 hS1 hl1 => law_next hx hb hl1 (ih (n + 1) (i + 5) S1 M1 H1 locs1 (by omega) (by omega) (by omega) hI1 hS1)) ls hl)
      by_cases e35 : k = 35
      · subst e35
        refine lv_tableIn (off := 1765) (tgt := 1808) hx hb dL_law_43 (by decide) (by decide) (by decide) (by decide) ?_
        exact (lc_35 F hni hi5 S M H locs hI hS (fun S1 M1 H1 locs1 ls1 hI1 hS1 hl1 => law_next hx hb hl1 (ih (n + 1) (i + 5) S1 M1 H1 locs1 (by omega) (by omega) (by omega) hI1 hS1)) ls hl)
      by_cases e36 : k = 36
      · subst e36
        refine lv_tableIn (off := 1805) (tgt := 1848) hx hb dL_law_43 (by decide) (by decide) (by decide) (by decide) ?_
        exact (lc_36 F hni hi5 S M H locs hI hS (fun S1 M1 H1 locs1 ls1 hI1 hS1 hl1 => law_next hx hb hl1 (ih (n + 1) (i + 5) S1 M1 H1 locs1 (by omega) (by omega) (by omega) hI1 hS1)) ls hl)
      by_cases e37 : k = 37
      · subst e37
        refine lv_tableIn (off := 1833) (tgt := 1876) hx hb dL_law_43 (by decide) (by decide) (by decide) (by decide) ?_
        exact (lc_37 F hni hi5 S M H locs hI hS (fun S1 M1 H1 locs1 ls1 hI1 hS1 hl1 => law_next hx hb hl1 (ih (n + 1) (i + 5) S1 M1 H1 locs1 (by omega) (by omega) (by omega) hI1 hS1)) ls hl)
      by_cases e38 : k = 38
      · subst e38
        refine lv_tableIn (off := 1902) (tgt := 1945) hx hb dL_law_43 (by decide) (by decide) (by decide) (by decide) ?_
        exact (lc_38 F hni hi5 S M H locs hI hS (fun S1 M1 H1 locs1 ls1 hI1 hS1 hl1 => law_next hx hb hl1 (ih (n + 1) (i + 5) S1 M1 H1 locs1 (by omega) (by omega) (by omega) hI1 hS1)) ls hl)
      by_cases e39 : k = 39
      · subst e39
        refine lv_tableIn (off := 1942) (tgt := 1985) hx hb dL_law_43 (by decide) (by decide) (by decide) (by decide) ?_
        exact (lc_39 F hni hi5 S M H locs hI hS (fun S1 M1 H1 locs1 ls1 hI1 hS1 hl1 => law_next hx hb hl1 (ih (n + 1) (i + 5) S1 M1 H1 locs1 (by omega) (by omega) (by omega) hI1 hS1)) ls hl)
      by_cases e40 : k = 40
      · subst e40
        refine lv_tableIn (off := 1955) (tgt := 1998) hx hb dL_law_43 (by decide) (by decide) (by decide) (by decide) ?_
        exact (lc_40 F hni hi5 S M H locs hI hS (fun S1 M1 H1 locs1 ls1 hI1 hS1 hl1 => law_next hx hb hl1 (ih (n + 1) (i + 5) S1 M1 H1 locs1 (by omega) (by omega) (by omega) hI1 hS1)) ls hl)
      by_cases e41 : k = 41
      · subst e41
        refine lv_tableIn (off := 1983) (tgt := 2026) hx hb dL_law_43 (by decide) (by decide) (by decide) (by decide) ?_
        exact (lc_41 F hni hi5 S M H locs hI hS (fun S1 M1 H1 locs1 ls1 hI1 hS1 hl1 => law_next hx hb hl1 (ih (n + 1) (i + 5) S1 M1 H1 locs1 (by omega) (by omega) (by omega) hI1 hS1)) ls hl)
      by_cases e42 : k = 42
      · subst e42
        refine lv_tableIn (off := 1996) (tgt := 2039) hx hb dL_law_43 (by decide) (by decide) (by decide) (by decide) ?_
        exact (lc_42 F hni hi5 S M H locs hI hS (fun S1 M1 H1 locs1 ls1 hI1 hS1 hl1 => law_next hx hb hl1 (ih (n + 1) (i + 5) S1 M1 H1 locs1 (by omega) (by omega) (by omega) hI1 hS1)) ls hl)
      refine lv_tableOut (tgt := 2052) hx hb dL_law_43 (Or.inr ?_) (by decide) ?_
      · show (42 : Int) < (nI k).toInt
        unfold nI
        rw [Int32.toInt_ofNat_of_lt (by omega)]
        omega
      refine W.widen (k := 100 + 224 * (n + 1)) (n := 1200 + 10680 * (n + 1)) (by omega) (by omega) ?_
      exact law_next hx hb hl (ih (n + 1) (i + 5) S M H locs (by omega) (by omega) (by omega) hI.idle hS)
end LWM
end
section
theorem la_newX4 {p : Program} {l : Launch} {e : Env} {R : Room} {s : State} {m : MethodId} {args : Array Value} {below : List Frame} {meth : Method} {c : Code} {H : Heap} {locs : List Loc} {cells slots : Nat} {Q : State → Prop} {cc : ByteArray} {pc : Nat} {ls : Array Slot} {rest : List Value} {dC : Nat → ClassId} {dI : Nat → Nat → Nat} {Ts : List Cond} {index : Nat} {own : String} {tys : List (ClassId × FieldType)}
    (hx : p.tables.exec = Jvm.exec) (hb : c.code = cc) (hts : ∀ w ∈ Ts, w.before args s = true) (hin : ∀ w ∈ u_ws RX4 TX4 9, w ∈ Ts) (hown : s.vm.findClass own = some m.cls) (hcl : (Cond.classLink own index RX4).before args s = true) (hinst : (Cond.instantiable RX4 9).before args s = true) (hini : (Cond.initialized RX4).before args s = true) (hK : va_K (dC, dI) vwCl tys s) (hcells : cells + 1 ≤ R.cells) (hslots : slots + 9 ≤ R.slots) (hdg : decode cc pc = .ok (.new index, 3))
    (kk : ∀ H1 : Heap, va_P (dC, dI) vwCl [(H.size, .inr (6, [.null, .null, .null, .null, .null, .null, .int (nI 0), .int (nI 0), .int (nI 0)]))] H1 → H1.size = H.size + 1 → (∀ q : Nat, q < H.size → H1[q]? = H[q]?) → W p l e R s m args below meth c H1 locs (cells + 1) (slots + 9) Q (F0 m (pc + 3) ls (.ref H.size :: rest))) : W p l e R s m args below meth c H locs cells slots Q (F0 m pc ls rest) := by
  have hKn := hK.1 6 _ (show vwCl[6]? = some (RX4, TX4, 9) from rfl)
  refine W.newcK hx hb hown hcl hinst hini rfl hdg hcells hslots hKn.2.1 rfl fun H1 kC hkC e1 z1 o1 => ?_
  refine kk H1 (fun k x hx => ?_) z1 o1
  have hz : k < 1 := (List.getElem?_eq_some_iff.mp hx).1
  obtain rfl : k = 0 := by omega
  cases hx
  exact ⟨_, rfl, (u_born tyX4 hts hin hKn hkC e1 tyX4_ok).to (fun j hj => by rcases (show j = 0 ∨ j = 1 ∨ j = 2 ∨ j = 3 ∨ j = 4 ∨ j = 5 ∨ j = 6 ∨ j = 7 ∨ j = 8 by omega) with rfl | rfl | rfl | rfl | rfl | rfl | rfl | rfl | rfl <;> rfl)⟩
theorem la_newX6 {p : Program} {l : Launch} {e : Env} {R : Room} {s : State} {m : MethodId} {args : Array Value} {below : List Frame} {meth : Method} {c : Code} {H : Heap} {locs : List Loc} {cells slots : Nat} {Q : State → Prop} {cc : ByteArray} {pc : Nat} {ls : Array Slot} {rest : List Value} {dC : Nat → ClassId} {dI : Nat → Nat → Nat} {Ts : List Cond} {index : Nat} {own : String} {tys : List (ClassId × FieldType)}
    (hx : p.tables.exec = Jvm.exec) (hb : c.code = cc) (hts : ∀ w ∈ Ts, w.before args s = true) (hin : ∀ w ∈ u_ws RX6 TX6 10, w ∈ Ts) (hown : s.vm.findClass own = some m.cls) (hcl : (Cond.classLink own index RX6).before args s = true) (hinst : (Cond.instantiable RX6 10).before args s = true) (hini : (Cond.initialized RX6).before args s = true) (hK : va_K (dC, dI) vwCl tys s) (hcells : cells + 1 ≤ R.cells) (hslots : slots + 10 ≤ R.slots) (hdg : decode cc pc = .ok (.new index, 3))
    (kk : ∀ H1 : Heap, va_P (dC, dI) vwCl [(H.size, .inr (8, [.int (nI 0), .null, .null, .null, .null, .null, .null, .int (nI 0), .int (nI 0), .int (nI 0)]))] H1 → H1.size = H.size + 1 → (∀ q : Nat, q < H.size → H1[q]? = H[q]?) → W p l e R s m args below meth c H1 locs (cells + 1) (slots + 10) Q (F0 m (pc + 3) ls (.ref H.size :: rest))) : W p l e R s m args below meth c H locs cells slots Q (F0 m pc ls rest) := by
  have hKn := hK.1 8 _ (show vwCl[8]? = some (RX6, TX6, 10) from rfl)
  refine W.newcK hx hb hown hcl hinst hini rfl hdg hcells hslots hKn.2.1 rfl fun H1 kC hkC e1 z1 o1 => ?_
  refine kk H1 (fun k x hx => ?_) z1 o1
  have hz : k < 1 := (List.getElem?_eq_some_iff.mp hx).1
  obtain rfl : k = 0 := by omega
  cases hx
  exact ⟨_, rfl, (u_born tyX6 hts hin hKn hkC e1 tyX6_ok).to (fun j hj => by rcases (show j = 0 ∨ j = 1 ∨ j = 2 ∨ j = 3 ∨ j = 4 ∨ j = 5 ∨ j = 6 ∨ j = 7 ∨ j = 8 ∨ j = 9 by omega) with rfl | rfl | rfl | rfl | rfl | rfl | rfl | rfl | rfl | rfl <;> rfl)⟩
theorem la_newX5 {p : Program} {l : Launch} {e : Env} {R : Room} {s : State} {m : MethodId} {args : Array Value} {below : List Frame} {meth : Method} {c : Code} {H : Heap} {locs : List Loc} {cells slots : Nat} {Q : State → Prop} {cc : ByteArray} {pc : Nat} {ls : Array Slot} {rest : List Value} {dC : Nat → ClassId} {dI : Nat → Nat → Nat} {Ts : List Cond} {index : Nat} {own : String} {tys : List (ClassId × FieldType)}
    (hx : p.tables.exec = Jvm.exec) (hb : c.code = cc) (hts : ∀ w ∈ Ts, w.before args s = true) (hin : ∀ w ∈ u_ws RX5 TX5 2, w ∈ Ts) (hown : s.vm.findClass own = some m.cls) (hcl : (Cond.classLink own index RX5).before args s = true) (hinst : (Cond.instantiable RX5 2).before args s = true) (hini : (Cond.initialized RX5).before args s = true) (hK : va_K (dC, dI) vwCl tys s) (hcells : cells + 1 ≤ R.cells) (hslots : slots + 2 ≤ R.slots) (hdg : decode cc pc = .ok (.new index, 3))
    (kk : ∀ H1 : Heap, va_P (dC, dI) vwCl [(H.size, .inr (7, [.long (lN 0), .null]))] H1 → H1.size = H.size + 1 → (∀ q : Nat, q < H.size → H1[q]? = H[q]?) → W p l e R s m args below meth c H1 locs (cells + 1) (slots + 2) Q (F0 m (pc + 3) ls (.ref H.size :: rest))) : W p l e R s m args below meth c H locs cells slots Q (F0 m pc ls rest) := by
  have hKn := hK.1 7 _ (show vwCl[7]? = some (RX5, TX5, 2) from rfl)
  refine W.newcK hx hb hown hcl hinst hini rfl hdg hcells hslots hKn.2.1 rfl fun H1 kC hkC e1 z1 o1 => ?_
  refine kk H1 (fun k x hx => ?_) z1 o1
  have hz : k < 1 := (List.getElem?_eq_some_iff.mp hx).1
  obtain rfl : k = 0 := by omega
  cases hx
  exact ⟨_, rfl, (u_born tyX5 hts hin hKn hkC e1 tyX5_ok).to (fun j hj => by rcases (show j = 0 ∨ j = 1 by omega) with rfl | rfl <;> rfl)⟩
theorem va_AOA.moved {t : FieldType} {u U : State} (hvm : u.vm.Alike U.vm) (h : va_AOA t u) : va_AOA t U := by
  obtain ⟨comp, c, k, h1, h2, h3, h4, h5⟩ := arrayOverA_spec h
  obtain ⟨k', hk', he⟩ := hvm.2.2 _ _ h3
  have hi : (U.vm.classes.findIdx? fun (x : Class) => match x.kind with | .array component _ => component == comp | _ => false) = some c := by
    refine Eq.trans (Eq.symm (va_idx_bare U.vm comp)) ?_
    first | rw [hvm.bare_eq] | rw [← hvm.bare_eq]
    exact (va_idx_bare u.vm comp).trans h2
  have hkind : k'.kind = .array comp (.array t) := by rw [he]; exact h4
  have f1 : U.vm.findClass (FieldType.array t).toString = some comp := by rw [hvm.findClass]; exact h1
  have f2 : U.vm.findClass ("[" ++ (FieldType.array t).toString) = some c := by rw [hvm.findClass]; exact h5
  unfold va_AOA Cond.before Cond.holds
  simp only [Cond.value]
  rw [f1, Option.bind_some]
  refine (congrArg (fun o : Option Nat => (o.bind (fun c => (U.vm.classes[c]?).map fun (k : Class) => match k.kind with | .array _ ty => decide (ty = FieldType.array t) && decide (U.vm.findClass ("[" ++ (FieldType.array t).toString) = some c) | _ => false) == some true)) hi).trans ?_
  simp [hk', hkind, f2]
theorem va_AO.call {C : String} {U : State} {g : JFrame} {mk : MethodId} {a : Array Value} (h : va_AO C U) : va_AO C (U.calling g mk a) := va_AO.moved (u := U) (U := U.calling g mk a) (Vm.Alike.refl U.vm) h
theorem va_AOA.call {t : FieldType} {U : State} {g : JFrame} {mk : MethodId} {a : Array Value} (h : va_AOA t U) : va_AOA t (U.calling g mk a) := va_AOA.moved (u := U) (U := U.calling g mk a) (Vm.Alike.refl U.vm) h
theorem arr_p {ty : FieldType} {args : Array Value} {s : State} (h : (Cond.arrayClass ty).before args s = true) : ∃ cA, ArrOfT s cA ty ∧ s.vm.findClass ("[" ++ ty.toString) = some cA := by
  obtain ⟨cA, kA, comp, h1, h2, h3⟩ := Cond.arrayClass_spec h
  exact ⟨cA, fun n z => ⟨fun k h => (by cases h), kA, h2, comp, h3⟩, h1⟩
theorem arr_o {C : String} {args : Array Value} {s : State} (h : (Cond.arrayOver (.object C)).before args s = true) : ∃ cA, ArrOfT s cA (.object C) ∧ va_RA s cA (.object C) := by
  obtain ⟨comp, c, k, h1, h2, h3, h4, h5⟩ := Cond.arrayOver_spec h
  exact ⟨c, fun N z => ⟨(fun k h => by cases h), k, h3, comp, h4⟩, k, comp, h3, h4, h1, h5⟩
theorem arr_a {t : FieldType} {args : Array Value} {s : State} (h : (Cond.arrayOver (.array t)).before args s = true) : ∃ cA, ArrOfT s cA (.array t) ∧ va_RA s cA (.array t) := by
  obtain ⟨comp, c, k, h1, h2, h3, h4, h5⟩ := arrayOverA_spec h
  exact ⟨c, fun N z => ⟨(fun k h => by cases h), k, h3, comp, h4⟩, h5⟩
theorem wX_Dall {dC : Nat → ClassId} {ad : Nat → Nat} {S0 : XS} (h : va_D (AX ad) (wX dC ad S0)) (S : XS) : va_D (AX ad) (wX dC ad S) := by
  refine ⟨fun i j p q hi hj e => ?_, fun k q hk => ⟨k, (wX_in k q hk).1, (wX_in k q hk).2⟩⟩
  have hi1 := wX_in i p hi
  have hj1 := wX_in j q hj
  exact h.1 i j _ _ (wX_get hi1.1) (wX_get hj1.1) (by show ad i = ad j; rw [← hi1.2, ← hj1.2, e])
theorem wM_Dall {dC : Nat → ClassId} {am : Nat → Nat} {M0 : MS} (h : va_D (AM am) (wM dC am M0)) (M : MS) : va_D (AM am) (wM dC am M) := by
  refine ⟨fun i j p q hi hj e => ?_, fun k q hk => ⟨k, (wM_in k q hk).1, (wM_in k q hk).2⟩⟩
  have hi1 := wM_in i p hi
  have hj1 := wM_in j q hj
  exact h.1 i j _ _ (wM_get hi1.1) (wM_get hj1.1) (by show am i = am j; rw [← hi1.2, ← hj1.2, e])
theorem one_D {A : Nat → Prop} {q : Nat} {e : va_E} (h : A q) : va_D A [(q, e)] := by
  refine ⟨fun i j p r hi hj _ => ?_, fun k r hk => ?_⟩
  · have h1 : i < 1 := (List.getElem?_eq_some_iff.mp hi).1
    have h2 : j < 1 := (List.getElem?_eq_some_iff.mp hj).1
    omega
  · have h1 : k < 1 := (List.getElem?_eq_some_iff.mp hk).1
    obtain rfl : k = 0 := by omega
    cases hk
    exact h
set_option maxHeartbeats 4000000 in
theorem m_X5_init (l : Launch) (r : Nat) : Met l yX5_init wsX5_init ({ frames := 1, cells := 0, slots := 0, locals := 20 } : Room) (va_Pc [.ref r] (fun _ => True)) (va_Sv (fun _ => True)) 0 0 (fun _ => False) := by
  refine Met.ofW (cc := cX5_init) (maxL := 1) (ret := none) pl_X5 rfl ?_
  intro p e s m args below meth c s₁ B hml hv
  obtain ⟨rfl, -⟩ := hv
  have hx := B.exec
  have hb := B.bytes
  have hr := B.returns
  have hts := atoms_spec (ws := wsX5_init) B.pre
  have hown : s.vm.findClass RX5 = some m.cls := findClass_of_methodNamed B.named
  have hlocks := B.notSynchronized
  have hl := lv_entry ([.ref r]) (n := 1) (Nat.le_of_ble_eq_true rfl)
  rw [lg_entry_eq]
  generalize (lg_sl ([.ref r]) ++ List.replicate (1 - (lg_sl ([.ref r])).length) Slot.unset).toArray = ls at hl ⊢
  have hl : lv_has ls 1 [(0, .ref r)] := hl
  refine lv_aload_n hx hb dX5_init_0 rfl (lv_at hl 0 rfl) ?_
  refine W.objInit hx hb hown (hts (.methodLink RX5 1 objectInit) (tm 990 (by decide +kernel) rfl)) (hts (.instanceMethod objectInit) (tm 1 (by decide +kernel) rfl)) (hts (.code objectInit ⟨#[0xb1]⟩ 1 none) (tm 2 (by decide +kernel) rfl)) (g := F0 m 1 ls [.ref r]) rfl (by rw [hml]; exact hl.1) rfl dX5_init_1 (Nat.le_of_ble_eq_true rfl) (Nat.le_of_ble_eq_true rfl) ?_
  exact W.vret hx hb hr (fun t9 ht9 hW9 => ⟨rfl, trivial, ht9⟩) (fun _ h => nomatch h) dX5_init_4
end
