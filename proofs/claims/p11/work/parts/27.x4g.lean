/-! product, tellApart, isSound, digest -/
/-- the product of orders j and j2, made in the spare order -/
def prodO (S : XS) (j j2 : Nat) : OrdS := newO (apn (apn ((S.2.1 4).1) ((S.2.1 j).1) 0 ((S.2.1 j).2.2.2.2.1)) (S.2.1 j2).1 (S.2.1 j).2.2.2.2.1 (S.2.1 j2).2.2.2.2.1) (apn (apn ((S.2.1 4).2.1) ((S.2.1 j).2.1) 0 ((S.2.1 j).2.2.2.2.1)) (S.2.1 j2).2.1 (S.2.1 j).2.2.2.2.1 (S.2.1 j2).2.2.2.2.1) ((S.2.1 j).2.2.2.2.1 + (S.2.1 j2).2.2.2.2.1) (S.2.1 4).2.2.1 (S.2.1 4).2.2.2.1
def copyO (o p : OrdS) : OrdS := newO (apn o.1 p.1 0 p.2.2.2.2.1) (apn o.2.1 p.2.1 0 p.2.2.2.2.1) p.2.2.2.2.1 o.2.2.1 o.2.2.2.1
theorem prodO_ok {S : XS} (hI : InvX S) {j j2 : Nat} (hj : j < 4) (hj2 : j2 < 4) (h : (S.2.1 j).2.2.2.2.1 + (S.2.1 j2).2.2.2.2.1 ≤ 10) : ordOK (prodO S j j2) :=
  newO_ok (stepOK_apn2 (o := S.2.1 4) (o2 := S.2.1 j) (o3 := S.2.1 j2) (D := fun _ => false) (c := fun _ => 0) (r := fun _ => 0) (cl := 0) (hI.2 4 (by decide)).1 (hI.2 j (by omega)).1 (hI.2 j2 (by omega)).1 h)
theorem coarse_lt (cl : Nat → Nat) (p : Nat → Bool) : ∀ n, n ≤ 8 → (coarse cl p n).2 < 8
  | 0, _ => Nat.zero_lt_succ _
  | n + 1, h => by
    have ih := coarse_lt cl p n (by omega)
    rw [coarse]
    split
    · show n < 8; omega
    · exact ih
theorem KA_ref {S : XS} (h : InvX S) : KA S S := KA_refl h
theorem sumN_lt {f : Nat → Nat} {c : Nat} : ∀ n, (∀ k, k < n → f k ≤ c) → sumN f n ≤ n * c
  | 0, _ => Nat.zero_le _
  | n + 1, h => by
    have ih := sumN_lt n (fun k hk => h k (by omega))
    have := h n (by omega)
    rw [sumN, Nat.add_mul, Nat.one_mul]
    omega
theorem countX_lt {S : XS} (hI : InvX S) (hc : S.2.2.1 < 2 ^ 31 ∧ S.2.2.2.1 < 2 ^ 31 ∧ S.2.2.2.2 < 2 ^ 31) (k : Nat) : countX S k < 2 ^ 31 := by
  have h1 := sumN_lt (f := fun k => (S.1 k).2.2) (c := 16) 3 (fun k hk => (hI.1 k (by omega)).1)
  have h2 := sumN_lt (f := fun k => (S.2.1 k).2.2.2.2.1) (c := 10) 4 (fun k hk => (hI.2 k (by omega)).1.1)
  unfold countX
  split <;> omega
set_option maxHeartbeats 4000000 in
set_option maxRecDepth 100000 in
theorem m_X4_product (l : Launch) (dC : Nat → ClassId) (dI : Nat → Nat → Nat) (ad : Nat → Nat) (S : XS) (j : Nat) (j2 : Nat) (j3 : Nat) (hj : j < 4) (hj2 : j2 < 4) (hj3 : j3 < 4) (hI : InvX S) : Met l yX4_product wsX4_product ({ frames := 4, cells := 0, slots := 0, locals := 91 } : Room) (va_Pc [.ref (ad 57), .int (nI j), .int (nI j2), .int (nI j3)] (PX dC dI ad S)) (va_Qi (fun r S' => ((S.2.1 j).2.2.2.2.1 + (S.2.1 j2).2.2.2.2.1 ≤ 5 ∧ r = nI (copyO (S.2.1 j3) (prodO S j j2)).2.2.2.2.2 ∧ S' = xO (xO S 4 (prodO S j j2)) j3 (copyO (S.2.1 j3) (prodO S j j2))) ∨ (5 < (S.2.1 j).2.2.2.2.1 + (S.2.1 j2).2.2.2.2.1 ∧ r = -9 ∧ S' = refT S)) (PX dC dI ad) (AX ad)) 0 0 (AX ad) := by
  refine Met.ofW (cc := cX4_product) (maxL := 7) (ret := (some .int)) pl_X4 rfl ?_
  intro p e s m args below meth c s₁ B hml hv
  obtain ⟨rfl, hPX⟩ := hv
  have hx := B.exec
  have hb := B.bytes
  have hr := B.returns
  have hts := atoms_spec (ws := wsX4_product) B.pre
  have hown : s.vm.findClass RX4 = some m.cls := findClass_of_methodNamed B.named
  have hlocks := B.notSynchronized
  have hin4 : ∀ w ∈ u_ws RX4 TX4 9, w ∈ wsX4_product := tu 1328 (by decide +kernel) rfl
  have hX := WX.of hPX
  have hl := lv_entry ([.ref (ad 57), .int (nI j), .int (nI j2), .int (nI j3)]) (n := 7) (Nat.le_of_ble_eq_true rfl)
  rw [lg_entry_eq]
  generalize (lg_sl ([.ref (ad 57), .int (nI j), .int (nI j2), .int (nI j3)]) ++ List.replicate (7 - (lg_sl ([.ref (ad 57), .int (nI j), .int (nI j2), .int (nI j3)])).length) Slot.unset).toArray = ls at hl ⊢
  have hl : lv_has ls 7 [(0, .ref (ad 57)), (1, .int (nI j)), (2, .int (nI j2)), (3, .int (nI j3))] := hl
  show W p l e ({ frames := 4, cells := 0, slots := 0, locals := 91 } : Room) s m ([.ref (ad 57), .int (nI j), .int (nI j2), .int (nI j3)]).toArray below meth c s.heap [] 0 0 (MQ below (va_Qi (fun r S' => ((S.2.1 j).2.2.2.2.1 + (S.2.1 j2).2.2.2.2.1 ≤ 5 ∧ r = nI (copyO (S.2.1 j3) (prodO S j j2)).2.2.2.2.2 ∧ S' = xO (xO S 4 (prodO S j j2)) j3 (copyO (S.2.1 j3) (prodO S j j2))) ∨ (5 < (S.2.1 j).2.2.2.2.1 + (S.2.1 j2).2.2.2.2.1 ∧ r = -9 ∧ S' = refT S)) (PX dC dI ad) (AX ad)) ([.ref (ad 57), .int (nI j), .int (nI j2), .int (nI j3)]).toArray s 0 0 (AX ad)) (F0 m 0 ls [])
  have hn := (hI.2 j (by omega)).1.1
  have hn2 := (hI.2 j2 (by omega)).1.1
  refine lv_aload_n hx hb dX4_product_0 rfl (lv_at hl 0 rfl) ?_
  refine lv_iload_n hx hb dX4_product_1 rfl (lv_at hl 1 rfl) ?_
  refine va_csr (va_Run.run (va_runV (As := [.int (nI j)]) (rest := []) ⟨hx, hb, hml, hown, hts⟩ (m_X4_orderAt l dC dI ad S j (by omega)) (cwV 1 hts gX4_product_X4_orderAt rfl rfl rfl hdX4_orderAt_1 ⟨Nat.le_of_ble_eq_true rfl, Nat.le_of_ble_eq_true rfl⟩) (hX.preTop 57 6 (by decide) (by decide) rfl rfl) rfl rfl hl.1 rfl (lv_room (Nat.le_of_ble_eq_true rfl)) dX4_product_2 ⟨Nat.le_of_ble_eq_true rfl, Nat.le_of_ble_eq_true rfl⟩)) (fun k_ hk_ => ?_)
  rw [hk_]
  refine lv_astore (lv' := [(4, .ref (ad (24 + 5 * j))), (0, .ref (ad 57)), (1, .int (nI j)), (2, .int (nI j2)), (3, .int (nI j3))]) hx hb dX4_product_5 hl (by decide) rfl (fun ls hl => ?_)
  refine lv_aload_n hx hb dX4_product_7 rfl (lv_at hl 1 rfl) ?_
  refine lv_iload_n hx hb dX4_product_8 rfl (lv_at hl 3 rfl) ?_
  refine va_csr (va_Run.run (va_runV (As := [.int (nI j2)]) (rest := []) ⟨hx, hb, hml, hown, hts⟩ (m_X4_orderAt l dC dI ad S j2 (by omega)) (cwV 1 hts gX4_product_X4_orderAt rfl rfl rfl hdX4_orderAt_1 ⟨Nat.le_of_ble_eq_true rfl, Nat.le_of_ble_eq_true rfl⟩) (hX.preTop 57 6 (by decide) (by decide) rfl rfl) rfl rfl hl.1 rfl (lv_room (Nat.le_of_ble_eq_true rfl)) dX4_product_9 ⟨Nat.le_of_ble_eq_true rfl, Nat.le_of_ble_eq_true rfl⟩)) (fun k_ hk_ => ?_)
  rw [hk_]
  refine lv_astore (lv' := [(5, .ref (ad (24 + 5 * j2))), (4, .ref (ad (24 + 5 * j))), (0, .ref (ad 57)), (1, .int (nI j)), (2, .int (nI j2)), (3, .int (nI j3))]) hx hb dX4_product_12 hl (by decide) rfl (fun ls hl => ?_)
  refine lv_aload_n hx hb dX4_product_14 rfl (lv_at hl 2 rfl) ?_
  refine lv_iload_n hx hb dX4_product_15 rfl (lv_at hl 5 rfl) ?_
  refine va_csr (va_Run.run (va_runV (As := [.int (nI j3)]) (rest := []) ⟨hx, hb, hml, hown, hts⟩ (m_X4_orderAt l dC dI ad S j3 (by omega)) (cwV 1 hts gX4_product_X4_orderAt rfl rfl rfl hdX4_orderAt_1 ⟨Nat.le_of_ble_eq_true rfl, Nat.le_of_ble_eq_true rfl⟩) (hX.preTop 57 6 (by decide) (by decide) rfl rfl) rfl rfl hl.1 rfl (lv_room (Nat.le_of_ble_eq_true rfl)) dX4_product_16 ⟨Nat.le_of_ble_eq_true rfl, Nat.le_of_ble_eq_true rfl⟩)) (fun k_ hk_ => ?_)
  rw [hk_]
  refine lv_astore (lv' := [(6, .ref (ad (24 + 5 * j3))), (5, .ref (ad (24 + 5 * j2))), (4, .ref (ad (24 + 5 * j))), (0, .ref (ad 57)), (1, .int (nI j)), (2, .int (nI j2)), (3, .int (nI j3))]) hx hb dX4_product_19 hl (by decide) rfl (fun ls hl => ?_)
  refine lv_aload hx hb dX4_product_21 (lv_at hl 2 rfl) ?_
  refine kx_cr (v := nI ((S.2.1 j).2.2.2.2.1)) (va_runV (As := []) (rest := []) ⟨hx, hb, hml, hown, hts⟩ (m_X1_length l dC dI ad S j  (by omega)) (cwV 0 hts gX4_product_X1_length rfl rfl rfl hdX1_length_0 ⟨Nat.le_of_ble_eq_true rfl, Nat.le_of_ble_eq_true rfl⟩) (hX.preOrd (by omega)) rfl rfl hl.1 rfl (lv_room (Nat.le_of_ble_eq_true rfl)) dX4_product_23 ⟨Nat.le_of_ble_eq_true rfl, Nat.le_of_ble_eq_true rfl⟩) (fun _ h => h) ?_
  refine lv_aload hx hb dX4_product_26 (lv_at hl 1 rfl) ?_
  refine kx_cr (v := nI ((S.2.1 j2).2.2.2.2.1)) (va_runV (As := []) (rest := [.int (nI ((S.2.1 j).2.2.2.2.1))]) ⟨hx, hb, hml, hown, hts⟩ (m_X1_length l dC dI ad S j2  (by omega)) (cwV 0 hts gX4_product_X1_length rfl rfl rfl hdX1_length_0 ⟨Nat.le_of_ble_eq_true rfl, Nat.le_of_ble_eq_true rfl⟩) (hX.preOrd (by omega)) rfl rfl hl.1 rfl (lv_room (Nat.le_of_ble_eq_true rfl)) dX4_product_28 ⟨Nat.le_of_ble_eq_true rfl, Nat.le_of_ble_eq_true rfl⟩) (fun _ h => h) ?_
  refine kn_iadd hx hb dX4_product_31 ?_
  refine lv_iconst (v := nI 5) hx hb dX4_product_32 (by decide) ?_
  refine kn_icmp_le (tgt := 41) hx hb (by omega) (by omega) dX4_product_33 (by decide) (fun k_1 => ?_) (fun k_1 => ?_)
  · skip
    have hc := k_1
    refine lv_aload_n hx hb dX4_product_41 rfl (lv_at hl 3 rfl) ?_
    refine kx_gspareOrder hx hb hts hin4 hown hX (hts (.fieldLink RX4 41 "Orderlattice" "spareOrder" "LOrderlattice$Order;") (tm 454 (by decide +kernel) rfl)) dX4_product_42 ?_
    refine lv_aload hx hb dX4_product_45 (lv_at hl 2 rfl) ?_
    refine lv_aload hx hb dX4_product_47 (lv_at hl 1 rfl) ?_
    refine kx_cv (va_runV (As := [.ref (ad (24 + 5 * j)), .ref (ad (24 + 5 * j2))]) (rest := []) ⟨hx, hb, hml, hown, hts⟩ (m_X1_becomeProductOf l dC dI ad S 4 j j2 (by omega) (by omega) (by omega) (hI.2 4 (by decide)).1 (hI.2 j (by omega)).1 (hI.2 j2 (by omega)).1 (by omega) (by omega) (by omega)) (cwV 2 hts gX4_product_X1_becomeProductOf rfl rfl rfl hdX1_becomeProductOf_2 ⟨Nat.le_of_ble_eq_true rfl, Nat.le_of_ble_eq_true rfl⟩) (hX.preOrd (by omega)) rfl rfl hl.1 rfl (lv_room (Nat.le_of_ble_eq_true rfl)) dX4_product_49 ⟨Nat.le_of_ble_eq_true rfl, Nat.le_of_ble_eq_true rfl⟩) hX (fun _ h => h) (fun S_ H locs hw hX => ?_)
    subst hw
    obtain ⟨S2, e_S2⟩ : ∃ z, z = (xO S 4 (apn (apn ((S.2.1 4).1) ((S.2.1 j).1) 0 ((S.2.1 j).2.2.2.2.1)) ((S.2.1 j2).1) ((S.2.1 j).2.2.2.2.1) ((S.2.1 j2).2.2.2.2.1), apn (apn ((S.2.1 4).2.1) ((S.2.1 j).2.1) 0 ((S.2.1 j).2.2.2.2.1)) ((S.2.1 j2).2.1) ((S.2.1 j).2.2.2.2.1) ((S.2.1 j2).2.2.2.2.1), ovl (codeOf (apn (apn ((S.2.1 4).1) ((S.2.1 j).1) 0 ((S.2.1 j).2.2.2.2.1)) ((S.2.1 j2).1) ((S.2.1 j).2.2.2.2.1) ((S.2.1 j2).2.2.2.2.1)) (apn (apn ((S.2.1 4).2.1) ((S.2.1 j).2.1) 0 ((S.2.1 j).2.2.2.2.1)) ((S.2.1 j2).2.1) ((S.2.1 j).2.2.2.2.1) ((S.2.1 j2).2.2.2.2.1)) ((S.2.1 j).2.2.2.2.1 + (S.2.1 j2).2.2.2.2.1)) ((S.2.1 4).2.2.1) 16, ovl (rankC (codeOf (apn (apn ((S.2.1 4).1) ((S.2.1 j).1) 0 ((S.2.1 j).2.2.2.2.1)) ((S.2.1 j2).1) ((S.2.1 j).2.2.2.2.1) ((S.2.1 j2).2.2.2.2.1)) (apn (apn ((S.2.1 4).2.1) ((S.2.1 j).2.1) 0 ((S.2.1 j).2.2.2.2.1)) ((S.2.1 j2).2.1) ((S.2.1 j).2.2.2.2.1) ((S.2.1 j2).2.2.2.2.1)) ((S.2.1 j).2.2.2.2.1 + (S.2.1 j2).2.2.2.2.1))) ((S.2.1 4).2.2.2.1) 16, (S.2.1 j).2.2.2.2.1 + (S.2.1 j2).2.2.2.2.1, classC (codeOf (apn (apn ((S.2.1 4).1) ((S.2.1 j).1) 0 ((S.2.1 j).2.2.2.2.1)) ((S.2.1 j2).1) ((S.2.1 j).2.2.2.2.1) ((S.2.1 j2).2.2.2.2.1)) (apn (apn ((S.2.1 4).2.1) ((S.2.1 j).2.1) 0 ((S.2.1 j).2.2.2.2.1)) ((S.2.1 j2).2.1) ((S.2.1 j).2.2.2.2.1) ((S.2.1 j2).2.2.2.2.1)) ((S.2.1 j).2.2.2.2.1 + (S.2.1 j2).2.2.2.2.1)))) := ⟨_, rfl⟩
    replace hX := WX.eqS e_S2.symm hX
    have h4 : S2.2.1 4 = prodO S j j2 := by rw [e_S2, xO_ord]; rfl
    have e9 : S2 = xO S 4 (prodO S j j2) := e_S2
    have hj3 : S2.2.1 j3 = S.2.1 j3 := by rw [e_S2, xO_ne _ _ (show j3 ≠ 4 by omega)]
    refine lv_aload hx hb dX4_product_52 (lv_at hl 0 rfl) ?_
    refine lv_aload_n hx hb dX4_product_54 rfl (lv_at hl 3 rfl) ?_
    refine kx_gspareOrder hx hb hts hin4 hown hX (hts (.fieldLink RX4 41 "Orderlattice" "spareOrder" "LOrderlattice$Order;") (tm 454 (by decide +kernel) rfl)) dX4_product_55 ?_
    refine kx_cv (va_runV (As := [.ref (ad (24 + 5 * 4))]) (rest := []) ⟨hx, hb, hml, hown, hts⟩ (m_X1_becomeCopyOf l dC dI ad S2 j3 4 (by omega) (by decide) (by rw [hj3]; exact (hI.2 j3 (by omega)).1) (by rw [h4]; exact (prodO_ok hI hj hj2 (by omega)).1)) (cwV 1 hts gX4_product_X1_becomeCopyOf rfl rfl rfl hdX1_becomeCopyOf_1 ⟨Nat.le_of_ble_eq_true rfl, Nat.le_of_ble_eq_true rfl⟩) (hX.preOrd (by omega)) rfl rfl hl.1 rfl (lv_room (Nat.le_of_ble_eq_true rfl)) dX4_product_58 ⟨Nat.le_of_ble_eq_true rfl, Nat.le_of_ble_eq_true rfl⟩) hX (fun _ h => h) (fun S_ H locs hw hX => ?_)
    subst hw
    refine lv_aload hx hb dX4_product_61 (lv_at hl 0 rfl) ?_
    refine kx_cr (v := nI (classC (codeOf (apn ((S2.2.1 j3).1) ((S2.2.1 4).1) 0 ((S2.2.1 4).2.2.2.2.1)) (apn ((S2.2.1 j3).2.1) ((S2.2.1 4).2.1) 0 ((S2.2.1 4).2.2.2.2.1)) ((S2.2.1 4).2.2.2.2.1)))) (va_runV (As := []) (rest := []) ⟨hx, hb, hml, hown, hts⟩ (m_X1_classCount l dC dI ad (xO S2 j3 (apn ((S2.2.1 j3).1) ((S2.2.1 4).1) 0 ((S2.2.1 4).2.2.2.2.1), apn ((S2.2.1 j3).2.1) ((S2.2.1 4).2.1) 0 ((S2.2.1 4).2.2.2.2.1), ovl (codeOf (apn ((S2.2.1 j3).1) ((S2.2.1 4).1) 0 ((S2.2.1 4).2.2.2.2.1)) (apn ((S2.2.1 j3).2.1) ((S2.2.1 4).2.1) 0 ((S2.2.1 4).2.2.2.2.1)) ((S2.2.1 4).2.2.2.2.1)) ((S2.2.1 j3).2.2.1) 16, ovl (rankC (codeOf (apn ((S2.2.1 j3).1) ((S2.2.1 4).1) 0 ((S2.2.1 4).2.2.2.2.1)) (apn ((S2.2.1 j3).2.1) ((S2.2.1 4).2.1) 0 ((S2.2.1 4).2.2.2.2.1)) ((S2.2.1 4).2.2.2.2.1))) ((S2.2.1 j3).2.2.2.1) 16, (S2.2.1 4).2.2.2.2.1, classC (codeOf (apn ((S2.2.1 j3).1) ((S2.2.1 4).1) 0 ((S2.2.1 4).2.2.2.2.1)) (apn ((S2.2.1 j3).2.1) ((S2.2.1 4).2.1) 0 ((S2.2.1 4).2.2.2.2.1)) ((S2.2.1 4).2.2.2.2.1)))) j3  (by omega)) (cwV 0 hts gX4_product_X1_classCount rfl rfl rfl hdX1_classCount_0 ⟨Nat.le_of_ble_eq_true rfl, Nat.le_of_ble_eq_true rfl⟩) (hX.preOrd (by omega)) rfl rfl hl.1 rfl (lv_room (Nat.le_of_ble_eq_true rfl)) dX4_product_63 ⟨Nat.le_of_ble_eq_true rfl, Nat.le_of_ble_eq_true rfl⟩) (fun _ h => by rw [h, xO_ord]) ?_
    exact W.iret (v := nI (classC (codeOf (apn ((S2.2.1 j3).1) ((S2.2.1 4).1) 0 ((S2.2.1 4).2.2.2.2.1)) (apn ((S2.2.1 j3).2.1) ((S2.2.1 4).2.1) 0 ((S2.2.1 4).2.2.2.2.1)) ((S2.2.1 4).2.2.2.2.1)))) hx hb hr (fun t9 ht9 hW9 => ⟨⟨_, (xO S2 j3 (apn ((S2.2.1 j3).1) ((S2.2.1 4).1) 0 ((S2.2.1 4).2.2.2.2.1), apn ((S2.2.1 j3).2.1) ((S2.2.1 4).2.1) 0 ((S2.2.1 4).2.2.2.2.1), ovl (codeOf (apn ((S2.2.1 j3).1) ((S2.2.1 4).1) 0 ((S2.2.1 4).2.2.2.2.1)) (apn ((S2.2.1 j3).2.1) ((S2.2.1 4).2.1) 0 ((S2.2.1 4).2.2.2.2.1)) ((S2.2.1 4).2.2.2.2.1)) ((S2.2.1 j3).2.2.1) 16, ovl (rankC (codeOf (apn ((S2.2.1 j3).1) ((S2.2.1 4).1) 0 ((S2.2.1 4).2.2.2.2.1)) (apn ((S2.2.1 j3).2.1) ((S2.2.1 4).2.1) 0 ((S2.2.1 4).2.2.2.2.1)) ((S2.2.1 4).2.2.2.2.1))) ((S2.2.1 j3).2.2.2.1) 16, (S2.2.1 4).2.2.2.2.1, classC (codeOf (apn ((S2.2.1 j3).1) ((S2.2.1 4).1) 0 ((S2.2.1 4).2.2.2.2.1)) (apn ((S2.2.1 j3).2.1) ((S2.2.1 4).2.1) 0 ((S2.2.1 4).2.2.2.2.1)) ((S2.2.1 4).2.2.2.2.1)))), rfl, (Or.inl ⟨hc, by rw [← hj3, ← h4]; rfl, by rw [← e9, ← hj3, ← h4]; rfl⟩), hX.P ht9 hW9⟩, hX.2.2.2.F ht9⟩) hX.2.2.2.2.2 dX4_product_66
  · skip
    have hc := k_1
    refine lv_aload_n hx hb dX4_product_36 rfl (lv_at hl 3 rfl) ?_
    refine kx_ci (va_runV (As := []) (rest := []) ⟨hx, hb, hml, hown, hts⟩ (m_X4_refuse l dC dI ad S) (cwV 0 hts gX4_product_X4_refuse rfl rfl rfl hdX4_refuse_0 ⟨Nat.le_of_ble_eq_true rfl, Nat.le_of_ble_eq_true rfl⟩) (hX.preTop 57 6 (by decide) (by decide) rfl rfl) rfl rfl hl.1 rfl (lv_room (Nat.le_of_ble_eq_true rfl)) dX4_product_37 ⟨Nat.le_of_ble_eq_true rfl, Nat.le_of_ble_eq_true rfl⟩) hX (fun _ h => h) (fun r_ S_ H locs hw hX => ?_)
    obtain ⟨rfl, rfl⟩ := hw
    exact W.iret (v := (-9)) hx hb hr (fun t9 ht9 hW9 => ⟨⟨_, (xN S (S.2.2.1, S.2.2.2.1 + 1, S.2.2.2.2)), rfl, (Or.inr ⟨by omega, rfl, rfl⟩), hX.P ht9 hW9⟩, hX.2.2.2.F ht9⟩) hX.2.2.2.2.2 dX4_product_40
set_option maxHeartbeats 4000000 in
set_option maxRecDepth 100000 in
theorem m_X4_tellApart (l : Launch) (dC : Nat → ClassId) (dI : Nat → Nat → Nat) (ad : Nat → Nat) (S : XS) (j : Nat) (v : Nat) (v2 : Nat) (hj : j < 4) (hv : v < 16) (hv2 : v2 < 16) (hI : InvX S) : Met l yX4_tellApart wsX4_tellApart ({ frames := 5, cells := 0, slots := 0, locals := 117 } : Room) (va_Pc [.ref (ad 57), .int (nI j), .int (nI v), .int (nI v2)] (PX dC dI ad S)) (va_Qi (fun r S' => (v ≠ v2 ∧ (S.2.1 j).2.2.1 v = (S.2.1 j).2.2.1 v2 ∧ (S.2.1 j).2.2.2.2.1 < 5 ∧ r = nI (coarse (coarseC (S.2.1 j)) (keyApart v v2) 8).2 ∧ ∃ o4, ordOK o4 ∧ S' = xO (xO S 4 o4) j (newO (va_up (S.2.1 j).1 (S.2.1 j).2.2.2.2.1 (coarse (coarseC (S.2.1 j)) (keyApart v v2) 8).2) (va_up (S.2.1 j).2.1 (S.2.1 j).2.2.2.2.1 false) ((S.2.1 j).2.2.2.2.1 + 1) (S.2.1 j).2.2.1 (S.2.1 j).2.2.2.1)) ∨ ((v = v2 ∨ (S.2.1 j).2.2.1 v ≠ (S.2.1 j).2.2.1 v2 ∨ 5 ≤ (S.2.1 j).2.2.2.2.1) ∧ r = -9 ∧ S' = refT S)) (PX dC dI ad) (AX ad)) 0 0 (AX ad) := by
  refine Met.ofW (cc := cX4_tellApart) (maxL := 6) (ret := (some .int)) pl_X4 rfl ?_
  intro p e s m args below meth c s₁ B hml hv
  obtain ⟨rfl, hPX⟩ := hv
  have hx := B.exec
  have hb := B.bytes
  have hr := B.returns
  have hts := atoms_spec (ws := wsX4_tellApart) B.pre
  have hown : s.vm.findClass RX4 = some m.cls := findClass_of_methodNamed B.named
  have hlocks := B.notSynchronized
  have hX := WX.of hPX
  have hl := lv_entry ([.ref (ad 57), .int (nI j), .int (nI v), .int (nI v2)]) (n := 6) (Nat.le_of_ble_eq_true rfl)
  rw [lg_entry_eq]
  generalize (lg_sl ([.ref (ad 57), .int (nI j), .int (nI v), .int (nI v2)]) ++ List.replicate (6 - (lg_sl ([.ref (ad 57), .int (nI j), .int (nI v), .int (nI v2)])).length) Slot.unset).toArray = ls at hl ⊢
  have hl : lv_has ls 6 [(0, .ref (ad 57)), (1, .int (nI j)), (2, .int (nI v)), (3, .int (nI v2))] := hl
  show W p l e ({ frames := 5, cells := 0, slots := 0, locals := 117 } : Room) s m ([.ref (ad 57), .int (nI j), .int (nI v), .int (nI v2)]).toArray below meth c s.heap [] 0 0 (MQ below (va_Qi (fun r S' => (v ≠ v2 ∧ (S.2.1 j).2.2.1 v = (S.2.1 j).2.2.1 v2 ∧ (S.2.1 j).2.2.2.2.1 < 5 ∧ r = nI (coarse (coarseC (S.2.1 j)) (keyApart v v2) 8).2 ∧ ∃ o4, ordOK o4 ∧ S' = xO (xO S 4 o4) j (newO (va_up (S.2.1 j).1 (S.2.1 j).2.2.2.2.1 (coarse (coarseC (S.2.1 j)) (keyApart v v2) 8).2) (va_up (S.2.1 j).2.1 (S.2.1 j).2.2.2.2.1 false) ((S.2.1 j).2.2.2.2.1 + 1) (S.2.1 j).2.2.1 (S.2.1 j).2.2.2.1)) ∨ ((v = v2 ∨ (S.2.1 j).2.2.1 v ≠ (S.2.1 j).2.2.1 v2 ∨ 5 ≤ (S.2.1 j).2.2.2.2.1) ∧ r = -9 ∧ S' = refT S)) (PX dC dI ad) (AX ad)) ([.ref (ad 57), .int (nI j), .int (nI v), .int (nI v2)]).toArray s 0 0 (AX ad)) (F0 m 0 ls [])
  have hn := (hI.2 j (by omega)).1.1
  refine lv_aload_n hx hb dX4_tellApart_0 rfl (lv_at hl 0 rfl) ?_
  refine lv_iload_n hx hb dX4_tellApart_1 rfl (lv_at hl 1 rfl) ?_
  refine va_csr (va_Run.run (va_runV (As := [.int (nI j)]) (rest := []) ⟨hx, hb, hml, hown, hts⟩ (m_X4_orderAt l dC dI ad S j (by omega)) (cwV 1 hts gX4_tellApart_X4_orderAt rfl rfl rfl hdX4_orderAt_1 ⟨Nat.le_of_ble_eq_true rfl, Nat.le_of_ble_eq_true rfl⟩) (hX.preTop 57 6 (by decide) (by decide) rfl rfl) rfl rfl hl.1 rfl (lv_room (Nat.le_of_ble_eq_true rfl)) dX4_tellApart_2 ⟨Nat.le_of_ble_eq_true rfl, Nat.le_of_ble_eq_true rfl⟩)) (fun k_ hk_ => ?_)
  rw [hk_]
  refine lv_astore (lv' := [(4, .ref (ad (24 + 5 * j))), (0, .ref (ad 57)), (1, .int (nI j)), (2, .int (nI v)), (3, .int (nI v2))]) hx hb dX4_tellApart_5 hl (by decide) rfl (fun ls hl => ?_)
  refine lv_iload_n hx hb dX4_tellApart_7 rfl (lv_at hl 3 rfl) ?_
  refine va_csv (va_Run.run (va_runS (As := [.int (nI v)]) (rest := []) ⟨hx, hb, hml, hown, hts⟩ (m_X4_demandValue l dC dI ad S v (by omega)) (va_cwS 1 hts gX4_tellApart_X4_demandValue rfl rfl rfl hdX4_demandValue_1.2 ⟨Nat.le_of_ble_eq_true rfl, Nat.le_of_ble_eq_true rfl⟩) hX.preS rfl rfl hl.1 rfl (lv_room (Nat.le_of_ble_eq_true rfl)) dX4_tellApart_8 ⟨Nat.le_of_ble_eq_true rfl, Nat.le_of_ble_eq_true rfl⟩)) (fun _ => ?_)
  refine lv_iload_n hx hb dX4_tellApart_11 rfl (lv_at hl 4 rfl) ?_
  refine va_csv (va_Run.run (va_runS (As := [.int (nI v2)]) (rest := []) ⟨hx, hb, hml, hown, hts⟩ (m_X4_demandValue l dC dI ad S v2 (by omega)) (va_cwS 1 hts gX4_tellApart_X4_demandValue rfl rfl rfl hdX4_demandValue_1.2 ⟨Nat.le_of_ble_eq_true rfl, Nat.le_of_ble_eq_true rfl⟩) hX.preS rfl rfl hl.1 rfl (lv_room (Nat.le_of_ble_eq_true rfl)) dX4_tellApart_12 ⟨Nat.le_of_ble_eq_true rfl, Nat.le_of_ble_eq_true rfl⟩)) (fun _ => ?_)
  refine lv_iload_n hx hb dX4_tellApart_15 rfl (lv_at hl 3 rfl) ?_
  refine lv_iload_n hx hb dX4_tellApart_16 rfl (lv_at hl 4 rfl) ?_
  refine kn_icmp_eq (tgt := 39) hx hb (by omega) (by omega) dX4_tellApart_17 (by decide) (fun k_1 => ?_) (fun k_1 => ?_)
  · skip
    have ha := k_1
    refine lv_aload_n hx hb dX4_tellApart_39 rfl (lv_at hl 1 rfl) ?_
    refine kx_ci (va_runV (As := []) (rest := []) ⟨hx, hb, hml, hown, hts⟩ (m_X4_refuse l dC dI ad S) (cwV 0 hts gX4_tellApart_X4_refuse rfl rfl rfl hdX4_refuse_0 ⟨Nat.le_of_ble_eq_true rfl, Nat.le_of_ble_eq_true rfl⟩) (hX.preTop 57 6 (by decide) (by decide) rfl rfl) rfl rfl hl.1 rfl (lv_room (Nat.le_of_ble_eq_true rfl)) dX4_tellApart_40 ⟨Nat.le_of_ble_eq_true rfl, Nat.le_of_ble_eq_true rfl⟩) hX (fun _ h => h) (fun r_ S_ H locs hw hX => ?_)
    obtain ⟨rfl, rfl⟩ := hw
    exact W.iret (v := (-9)) hx hb hr (fun t9 ht9 hW9 => ⟨⟨_, (xN S (S.2.2.1, S.2.2.2.1 + 1, S.2.2.2.2)), rfl, (Or.inr ⟨Or.inl ha, rfl, rfl⟩), hX.P ht9 hW9⟩, hX.2.2.2.F ht9⟩) hX.2.2.2.2.2 dX4_tellApart_43
  · skip
    have ha := k_1
    refine lv_aload hx hb dX4_tellApart_20 (lv_at hl 0 rfl) ?_
    refine lv_iload_n hx hb dX4_tellApart_22 rfl (lv_at hl 3 rfl) ?_
    refine lv_iload_n hx hb dX4_tellApart_23 rfl (lv_at hl 4 rfl) ?_
    refine kx_cr (v := cmpI ((S.2.1 j).2.2.1 v) ((S.2.1 j).2.2.1 v2)) (va_runV (As := [.int (nI v), .int (nI v2)]) (rest := []) ⟨hx, hb, hml, hown, hts⟩ (m_X1_compared l dC dI ad S j v v2 (by omega) (hI.2 j (by omega)) (by omega) (by omega)) (cwV 2 hts gX4_tellApart_X1_compared rfl rfl rfl hdX1_compared_2 ⟨Nat.le_of_ble_eq_true rfl, Nat.le_of_ble_eq_true rfl⟩) (hX.preOrd (by omega)) rfl rfl hl.1 rfl (lv_room (Nat.le_of_ble_eq_true rfl)) dX4_tellApart_24 ⟨Nat.le_of_ble_eq_true rfl, Nat.le_of_ble_eq_true rfl⟩) (fun _ h => h) ?_
    refine kc_if_ne (tgt := 39) hx hb dX4_tellApart_27 (by decide) (fun k_2 => ?_) (fun k_2 => ?_)
    · skip
      have hb9 := k_2
      refine lv_aload_n hx hb dX4_tellApart_39 rfl (lv_at hl 1 rfl) ?_
      refine kx_ci (va_runV (As := []) (rest := []) ⟨hx, hb, hml, hown, hts⟩ (m_X4_refuse l dC dI ad S) (cwV 0 hts gX4_tellApart_X4_refuse rfl rfl rfl hdX4_refuse_0 ⟨Nat.le_of_ble_eq_true rfl, Nat.le_of_ble_eq_true rfl⟩) (hX.preTop 57 6 (by decide) (by decide) rfl rfl) rfl rfl hl.1 rfl (lv_room (Nat.le_of_ble_eq_true rfl)) dX4_tellApart_40 ⟨Nat.le_of_ble_eq_true rfl, Nat.le_of_ble_eq_true rfl⟩) hX (fun _ h => h) (fun r_ S_ H locs hw hX => ?_)
      obtain ⟨rfl, rfl⟩ := hw
      exact W.iret (v := (-9)) hx hb hr (fun t9 ht9 hW9 => ⟨⟨_, (xN S (S.2.2.1, S.2.2.2.1 + 1, S.2.2.2.2)), rfl, (Or.inr ⟨Or.inr (Or.inl (hb9)), rfl, rfl⟩), hX.P ht9 hW9⟩, hX.2.2.2.F ht9⟩) hX.2.2.2.2.2 dX4_tellApart_43
    · skip
      have hb9 := k_2
      refine lv_aload hx hb dX4_tellApart_30 (lv_at hl 0 rfl) ?_
      refine kx_cr (v := nI ((S.2.1 j).2.2.2.2.1)) (va_runV (As := []) (rest := []) ⟨hx, hb, hml, hown, hts⟩ (m_X1_length l dC dI ad S j  (by omega)) (cwV 0 hts gX4_tellApart_X1_length rfl rfl rfl hdX1_length_0 ⟨Nat.le_of_ble_eq_true rfl, Nat.le_of_ble_eq_true rfl⟩) (hX.preOrd (by omega)) rfl rfl hl.1 rfl (lv_room (Nat.le_of_ble_eq_true rfl)) dX4_tellApart_32 ⟨Nat.le_of_ble_eq_true rfl, Nat.le_of_ble_eq_true rfl⟩) (fun _ h => h) ?_
      refine lv_iconst (v := nI 5) hx hb dX4_tellApart_35 (by decide) ?_
      refine kn_icmp_lt (tgt := 44) hx hb (by omega) (by omega) dX4_tellApart_36 (by decide) (fun k_3 => ?_) (fun k_3 => ?_)
      · skip
        have hc := k_3
        refine lv_aload_n hx hb dX4_tellApart_44 rfl (lv_at hl 1 rfl) ?_
        refine lv_aload hx hb dX4_tellApart_45 (lv_at hl 0 rfl) ?_
        refine lv_iload_n hx hb dX4_tellApart_47 rfl (lv_at hl 3 rfl) ?_
        refine lv_iload_n hx hb dX4_tellApart_48 rfl (lv_at hl 4 rfl) ?_
        refine kx_ci (va_runV (As := [.ref (ad (24 + 5 * j)), .int (nI v), .int (nI v2)]) (rest := []) ⟨hx, hb, hml, hown, hts⟩ (m_X4_coarsestKey l dC dI ad S j v v2 (by omega) (by omega) (by omega) (by omega) hI) (cwV 3 hts gX4_tellApart_X4_coarsestKey rfl rfl rfl hdX4_coarsestKey_3 ⟨Nat.le_of_ble_eq_true rfl, Nat.le_of_ble_eq_true rfl⟩) (hX.preTop 57 6 (by decide) (by decide) rfl rfl) rfl rfl hl.1 rfl (lv_room (Nat.le_of_ble_eq_true rfl)) dX4_tellApart_49 ⟨Nat.le_of_ble_eq_true rfl, Nat.le_of_ble_eq_true rfl⟩) hX (fun _ h => h) (fun r_ S_ H locs hw hX => ?_)
        obtain ⟨rfl, o4, ho4, rfl⟩ := hw
        obtain ⟨S2, e_S2⟩ : ∃ z, z = (xO S 4 (o4.1, o4.2.1, o4.2.2.1, o4.2.2.2.1, o4.2.2.2.2.1, o4.2.2.2.2.2)) := ⟨_, rfl⟩
        replace hX := WX.eqS e_S2.symm hX
        have hj9 : S2.2.1 j = S.2.1 j := by rw [e_S2, xO_ne _ _ (show j ≠ 4 by omega)]
        have hkk := coarse_lt (coarseC (S.2.1 j)) (keyApart v v2) 8 (Nat.le_refl _)
        refine lv_istore (lv' := [(5, .int (nI ((coarse (coarseC (S.2.1 j)) (keyApart v v2) 8).2))), (4, .ref (ad (24 + 5 * j))), (0, .ref (ad 57)), (1, .int (nI j)), (2, .int (nI v)), (3, .int (nI v2))]) hx hb dX4_tellApart_52 hl (by decide) rfl (fun ls hl => ?_)
        refine lv_aload hx hb dX4_tellApart_54 (lv_at hl 1 rfl) ?_
        refine lv_iload hx hb dX4_tellApart_56 (lv_at hl 0 rfl) ?_
        refine lv_iconst (v := bI false) hx hb dX4_tellApart_58 (by decide) ?_
        refine kx_cv (va_runV (As := [.int (nI ((coarse (coarseC (S.2.1 j)) (keyApart v v2) 8).2)), .int (bI false)]) (rest := []) ⟨hx, hb, hml, hown, hts⟩ (m_X1_append l dC dI ad S2 j ((coarse (coarseC (S.2.1 j)) (keyApart v v2) 8).2) false (by omega) (by rw [hj9]; exact (hI.2 j (by omega)).1) (by rw [hj9]; omega) hkk) (cwV 2 hts gX4_tellApart_X1_append rfl rfl rfl hdX1_append_2 ⟨Nat.le_of_ble_eq_true rfl, Nat.le_of_ble_eq_true rfl⟩) (hX.preOrd (by omega)) rfl rfl hl.1 rfl (lv_room (Nat.le_of_ble_eq_true rfl)) dX4_tellApart_59 ⟨Nat.le_of_ble_eq_true rfl, Nat.le_of_ble_eq_true rfl⟩) hX (fun _ h => h) (fun S_ H locs hw hX => ?_)
        subst hw
        refine lv_iload hx hb dX4_tellApart_62 (lv_at hl 0 rfl) ?_
        exact W.iret (v := nI ((coarse (coarseC (S.2.1 j)) (keyApart v v2) 8).2)) hx hb hr (fun t9 ht9 hW9 => ⟨⟨_, (xO S2 j (va_up ((S2.2.1 j).1) ((S2.2.1 j).2.2.2.2.1) ((coarse (coarseC (S.2.1 j)) (keyApart v v2) 8).2), va_up ((S2.2.1 j).2.1) ((S2.2.1 j).2.2.2.2.1) false, ovl (codeOf (va_up ((S2.2.1 j).1) ((S2.2.1 j).2.2.2.2.1) ((coarse (coarseC (S.2.1 j)) (keyApart v v2) 8).2)) (va_up ((S2.2.1 j).2.1) ((S2.2.1 j).2.2.2.2.1) false) ((S2.2.1 j).2.2.2.2.1 + 1)) ((S2.2.1 j).2.2.1) 16, ovl (rankC (codeOf (va_up ((S2.2.1 j).1) ((S2.2.1 j).2.2.2.2.1) ((coarse (coarseC (S.2.1 j)) (keyApart v v2) 8).2)) (va_up ((S2.2.1 j).2.1) ((S2.2.1 j).2.2.2.2.1) false) ((S2.2.1 j).2.2.2.2.1 + 1))) ((S2.2.1 j).2.2.2.1) 16, (S2.2.1 j).2.2.2.2.1 + 1, classC (codeOf (va_up ((S2.2.1 j).1) ((S2.2.1 j).2.2.2.2.1) ((coarse (coarseC (S.2.1 j)) (keyApart v v2) 8).2)) (va_up ((S2.2.1 j).2.1) ((S2.2.1 j).2.2.2.2.1) false) ((S2.2.1 j).2.2.2.2.1 + 1)))), rfl, (Or.inl ⟨ha, hb9, hc, rfl, o4, ho4, by rw [hj9, e_S2]⟩), hX.P ht9 hW9⟩, hX.2.2.2.F ht9⟩) hX.2.2.2.2.2 dX4_tellApart_64
      · skip
        have hc := k_3
        refine lv_aload_n hx hb dX4_tellApart_39 rfl (lv_at hl 1 rfl) ?_
        refine kx_ci (va_runV (As := []) (rest := []) ⟨hx, hb, hml, hown, hts⟩ (m_X4_refuse l dC dI ad S) (cwV 0 hts gX4_tellApart_X4_refuse rfl rfl rfl hdX4_refuse_0 ⟨Nat.le_of_ble_eq_true rfl, Nat.le_of_ble_eq_true rfl⟩) (hX.preTop 57 6 (by decide) (by decide) rfl rfl) rfl rfl hl.1 rfl (lv_room (Nat.le_of_ble_eq_true rfl)) dX4_tellApart_40 ⟨Nat.le_of_ble_eq_true rfl, Nat.le_of_ble_eq_true rfl⟩) hX (fun _ h => h) (fun r_ S_ H locs hw hX => ?_)
        obtain ⟨rfl, rfl⟩ := hw
        exact W.iret (v := (-9)) hx hb hr (fun t9 ht9 hW9 => ⟨⟨_, (xN S (S.2.2.1, S.2.2.2.1 + 1, S.2.2.2.2)), rfl, (Or.inr ⟨Or.inr (Or.inr (by omega)), rfl, rfl⟩), hX.P ht9 hW9⟩, hX.2.2.2.F ht9⟩) hX.2.2.2.2.2 dX4_tellApart_43
set_option maxHeartbeats 4000000 in
set_option maxRecDepth 100000 in
theorem m_X4_isSound (l : Launch) (dC : Nat → ClassId) (dI : Nat → Nat → Nat) (ad : Nat → Nat) (S : XS) (hI : InvX S) (h5 : ∀ j, j < 4 → (S.2.1 j).2.2.2.2.1 ≤ 5) : Met l yX4_isSound wsX4_isSound ({ frames := 5, cells := 0, slots := 0, locals := 129 } : Room) (va_Pc [.ref (ad 57)] (PX dC dI ad S)) (va_Qi (fun r S' => (∃ z, r = bI z) ∧ KA S S') (PX dC dI ad) (AX ad)) 0 0 (AX ad) := by
  refine Met.ofW (cc := cX4_isSound) (maxL := 7) (ret := (some .boolean)) pl_X4 rfl ?_
  intro p e s m args below meth c s₁ B hml hv
  obtain ⟨rfl, hPX⟩ := hv
  have hx := B.exec
  have hb := B.bytes
  have hr := B.returns
  have hts := atoms_spec (ws := wsX4_isSound) B.pre
  have hown : s.vm.findClass RX4 = some m.cls := findClass_of_methodNamed B.named
  have hlocks := B.notSynchronized
  have hin4 : ∀ w ∈ u_ws RX4 TX4 9, w ∈ wsX4_isSound := tu 1328 (by decide +kernel) rfl
  have hX := WX.of hPX
  have hl := lv_entry ([.ref (ad 57)]) (n := 7) (Nat.le_of_ble_eq_true rfl)
  rw [lg_entry_eq]
  generalize (lg_sl ([.ref (ad 57)]) ++ List.replicate (7 - (lg_sl ([.ref (ad 57)])).length) Slot.unset).toArray = ls at hl ⊢
  have hl : lv_has ls 7 [(0, .ref (ad 57))] := hl
  show W p l e ({ frames := 5, cells := 0, slots := 0, locals := 129 } : Room) s m ([.ref (ad 57)]).toArray below meth c s.heap [] 0 0 (MQ below (va_Qi (fun r S' => (∃ z, r = bI z) ∧ KA S S') (PX dC dI ad) (AX ad)) ([.ref (ad 57)]).toArray s 0 0 (AX ad)) (F0 m 0 ls [])
  have hK := KA_refl hI
  refine lv_iconst (v := bI true) hx hb dX4_isSound_0 (by decide) ?_
  refine lv_istore_n (lv' := [(1, .int (bI true)), (0, .ref (ad 57))]) hx hb dX4_isSound_1 rfl hl (by decide) rfl (fun ls hl => ?_)
  refine lv_iconst (v := nI 0) hx hb dX4_isSound_2 (by decide) ?_
  refine lv_istore_n (lv' := [(2, .int (nI 0)), (1, .int (bI true)), (0, .ref (ad 57))]) hx hb dX4_isSound_3 rfl hl (by decide) rfl (fun ls hl => ?_)
  have loop4 : ∀ (fuel : Nat) (S1 : XS) (z1 : Bool) (a : Nat) (hK : KA S S1) (ha : a ≤ 4) (H : Heap) (locs : List Loc), 4 - a < fuel → WX dC dI ad S1 (AX ad) s H locs → ∀ ls : Array Slot, lv_has ls 7 [(0, .ref (ad 57)), (1, .int (bI z1)), (2, .int (nI a))] → W p l e ({ frames := 5, cells := 0, slots := 0, locals := 129 } : Room) s m ([.ref (ad 57)]).toArray below meth c H locs 0 0 (MQ below (va_Qi (fun r S' => (∃ z, r = bI z) ∧ KA S S') (PX dC dI ad) (AX ad)) ([.ref (ad 57)]).toArray s 0 0 (AX ad)) (F0 m 4 ls []) := by
    intro fuel
    induction fuel with
    | zero => intro S1 z1 a hK ha H locs hf; exact absurd hf (Nat.not_lt_zero _)
    | succ fuel ih4 =>
      intro S1 z1 a hK ha H locs hf hX ls hl
      refine lv_iload_n hx hb dX4_isSound_4 rfl (lv_at hl 1 rfl) ?_
      refine kb_if_eq (tgt := 212) hx hb dX4_isSound_5 (by decide) (fun k_1 => ?_) (fun k_1 => ?_)
      · skip
        refine lv_iload_n hx hb dX4_isSound_212 rfl (lv_at hl 1 rfl) ?_
        exact W.zret (v := bI z1) hx hb hr (bI_narrow _) (fun t9 ht9 hW9 => ⟨⟨_, S1, rfl, ⟨⟨_, rfl⟩, hK⟩, hX.P ht9 hW9⟩, hX.2.2.2.F ht9⟩) hX.2.2.2.2.2 dX4_isSound_213
      · skip
        refine lv_iload_n hx hb dX4_isSound_8 rfl (lv_at hl 2 rfl) ?_
        refine lv_iconst (v := nI 4) hx hb dX4_isSound_9 (by decide) ?_
        refine kn_icmp_ge (tgt := 212) hx hb (by omega) (by omega) dX4_isSound_10 (by decide) (fun k_2 => ?_) (fun k_2 => ?_)
        · skip
          refine lv_iload_n hx hb dX4_isSound_212 rfl (lv_at hl 1 rfl) ?_
          exact W.zret (v := bI z1) hx hb hr (bI_narrow _) (fun t9 ht9 hW9 => ⟨⟨_, S1, rfl, ⟨⟨_, rfl⟩, hK⟩, hX.P ht9 hW9⟩, hX.2.2.2.F ht9⟩) hX.2.2.2.2.2 dX4_isSound_213
        · skip
          refine lv_aload_n hx hb dX4_isSound_13 rfl (lv_at hl 0 rfl) ?_
          refine lv_iload_n hx hb dX4_isSound_14 rfl (lv_at hl 2 rfl) ?_
          refine va_csr (va_Run.run (va_runV (As := [.int (nI a)]) (rest := []) ⟨hx, hb, hml, hown, hts⟩ (m_X4_orderAt l dC dI ad S1 a (by omega)) (cwV 1 hts gX4_isSound_X4_orderAt rfl rfl rfl hdX4_orderAt_1 ⟨Nat.le_of_ble_eq_true rfl, Nat.le_of_ble_eq_true rfl⟩) (hX.preTop 57 6 (by decide) (by decide) rfl rfl) rfl rfl hl.1 rfl (lv_room (Nat.le_of_ble_eq_true rfl)) dX4_isSound_15 ⟨Nat.le_of_ble_eq_true rfl, Nat.le_of_ble_eq_true rfl⟩)) (fun k_ hk_ => ?_)
          rw [hk_]
          refine lv_astore_n (lv' := [(3, .ref (ad (24 + 5 * a))), (0, .ref (ad 57)), (1, .int (bI z1)), (2, .int (nI a))]) hx hb dX4_isSound_18 rfl hl (by decide) rfl (fun ls hl => ?_)
          refine lv_aload_n hx hb dX4_isSound_19 rfl (lv_at hl 1 rfl) ?_
          refine kx_gauditor hx hb hts hin4 hown hX (hts (.fieldLink RX4 31 "Orderlattice" "auditor" "LOrderlattice$Auditor;") (tm 452 (by decide +kernel) rfl)) dX4_isSound_20 ?_
          refine lv_aload_n hx hb dX4_isSound_23 rfl (lv_at hl 0 rfl) ?_
          refine kx_cr (v := bI true) (va_runV (As := [.ref (ad (24 + 5 * a))]) (rest := []) ⟨hx, hb, hml, hown, hts⟩ (m_X0_areSignsTurned l dC dI ad S1 a (by omega) (hK.1.2 a (by omega))) (cwV 1 hts gX4_isSound_X0_areSignsTurned rfl rfl rfl hdX0_areSignsTurned_1 ⟨Nat.le_of_ble_eq_true rfl, Nat.le_of_ble_eq_true rfl⟩) (hX.preTop 56 2 (by decide) (by decide) rfl rfl) rfl rfl hl.1 rfl (lv_room (Nat.le_of_ble_eq_true rfl)) dX4_isSound_24 ⟨Nat.le_of_ble_eq_true rfl, Nat.le_of_ble_eq_true rfl⟩) (fun _ h => h) ?_
          refine kb_if_eq (tgt := 45) hx hb dX4_isSound_27 (by decide) (fun k_3 => absurd k_3 (by decide)) (fun k_3 => ?_)
          refine lv_aload_n hx hb dX4_isSound_30 rfl (lv_at hl 1 rfl) ?_
          refine kx_gauditor hx hb hts hin4 hown hX (hts (.fieldLink RX4 31 "Orderlattice" "auditor" "LOrderlattice$Auditor;") (tm 452 (by decide +kernel) rfl)) dX4_isSound_31 ?_
          refine lv_aload_n hx hb dX4_isSound_34 rfl (lv_at hl 0 rfl) ?_
          refine kx_cr (v := bI (decide (cntB (rankSome (S1.2.1 a).2.2.2.1) 16 = (S1.2.1 a).2.2.2.2.2))) (va_runV (As := [.ref (ad (24 + 5 * a))]) (rest := []) ⟨hx, hb, hml, hown, hts⟩ (m_X0_areRanksAsClasses l dC dI ad S1 a (by omega) (hK.1.2 a (by omega))) (cwV 1 hts gX4_isSound_X0_areRanksAsClasses rfl rfl rfl hdX0_areRanksAsClasses_1 ⟨Nat.le_of_ble_eq_true rfl, Nat.le_of_ble_eq_true rfl⟩) (hX.preTop 56 2 (by decide) (by decide) rfl rfl) rfl rfl hl.1 rfl (lv_room (Nat.le_of_ble_eq_true rfl)) dX4_isSound_35 ⟨Nat.le_of_ble_eq_true rfl, Nat.le_of_ble_eq_true rfl⟩) (fun _ h => h) ?_
          refine kb_if_eq (tgt := 45) hx hb dX4_isSound_38 (by decide) (fun k_4 => ?_) (fun k_4 => ?_)
          · skip
            refine lv_iconst (v := bI false) hx hb dX4_isSound_45 (by decide) ?_
            refine lv_istore_n (lv' := [(1, .int (bI false)), (3, .ref (ad (24 + 5 * a))), (0, .ref (ad 57)), (2, .int (nI a))]) hx hb dX4_isSound_46 rfl hl (by decide) rfl (fun ls hl => ?_)
            refine lv_iconst (v := nI 0) hx hb dX4_isSound_47 (by decide) ?_
            refine lv_istore (lv' := [(4, .int (nI 0)), (1, .int (bI false)), (3, .ref (ad (24 + 5 * a))), (0, .ref (ad 57)), (2, .int (nI a))]) hx hb dX4_isSound_48 hl (by decide) rfl (fun ls hl => ?_)
            have loop50 : ∀ (fuel : Nat) (S2 : XS) (z2 : Bool) (b9 : Nat) (hK : KA S S2) (hb9 : b9 ≤ 3) (H : Heap) (locs : List Loc), 3 - b9 < fuel → WX dC dI ad S2 (AX ad) s H locs → ∀ ls : Array Slot, lv_has ls 7 [(0, .ref (ad 57)), (1, .int (bI z2)), (2, .int (nI a)), (3, .ref (ad (24 + 5 * a))), (4, .int (nI b9))] → W p l e ({ frames := 5, cells := 0, slots := 0, locals := 129 } : Room) s m ([.ref (ad 57)]).toArray below meth c H locs 0 0 (MQ below (va_Qi (fun r S' => (∃ z, r = bI z) ∧ KA S S') (PX dC dI ad) (AX ad)) ([.ref (ad 57)]).toArray s 0 0 (AX ad)) (F0 m 50 ls []) := by
              intro fuel
              induction fuel with
              | zero => intro S2 z2 b9 hK hb9 H locs hf; exact absurd hf (Nat.not_lt_zero _)
              | succ fuel ih50 =>
                intro S2 z2 b9 hK hb9 H locs hf hX ls hl
                refine lv_iload_n hx hb dX4_isSound_50 rfl (lv_at hl 1 rfl) ?_
                refine kb_if_eq (tgt := 132) hx hb dX4_isSound_51 (by decide) (fun k_5 => ?_) (fun k_5 => ?_)
                · skip
                  refine lv_iconst (v := nI 0) hx hb dX4_isSound_132 (by decide) ?_
                  refine lv_istore (lv' := [(4, .int (nI 0)), (0, .ref (ad 57)), (1, .int (bI z2)), (2, .int (nI a)), (3, .ref (ad (24 + 5 * a)))]) hx hb dX4_isSound_133 hl (by decide) rfl (fun ls hl => ?_)
                  have loop135 : ∀ (fuel : Nat) (S3 : XS) (z3 : Bool) (c9 : Nat) (hK : KA S S3) (hc9 : c9 ≤ 4) (H : Heap) (locs : List Loc), 4 - c9 < fuel → WX dC dI ad S3 (AX ad) s H locs → ∀ ls : Array Slot, lv_has ls 7 [(0, .ref (ad 57)), (1, .int (bI z3)), (2, .int (nI a)), (3, .ref (ad (24 + 5 * a))), (4, .int (nI c9))] → W p l e ({ frames := 5, cells := 0, slots := 0, locals := 129 } : Room) s m ([.ref (ad 57)]).toArray below meth c H locs 0 0 (MQ below (va_Qi (fun r S' => (∃ z, r = bI z) ∧ KA S S') (PX dC dI ad) (AX ad)) ([.ref (ad 57)]).toArray s 0 0 (AX ad)) (F0 m 135 ls []) := by
                    intro fuel
                    induction fuel with
                    | zero => intro S3 z3 c9 hK hc9 H locs hf; exact absurd hf (Nat.not_lt_zero _)
                    | succ fuel ih135 =>
                      intro S3 z3 c9 hK hc9 H locs hf hX ls hl
                      refine lv_iload_n hx hb dX4_isSound_135 rfl (lv_at hl 1 rfl) ?_
                      refine kb_if_eq (tgt := 206) hx hb dX4_isSound_136 (by decide) (fun k_6 => ?_) (fun k_6 => ?_)
                      · skip
                        refine lv_iinc (v := nI (a + 1)) (lv' := [(2, .int (nI (a + 1))), (0, .ref (ad 57)), (1, .int (bI z3)), (3, .ref (ad (24 + 5 * a))), (4, .int (nI c9))]) hx hb dX4_isSound_206 hl (k := 2) rfl (nI_1 a) (by decide) rfl (fun ls hl => ?_)
                        refine lv_goto (tgt := 4) hx hb dX4_isSound_209 (by decide) ?_
                        exact ih4  S3 z3 (a + 1) hK (by omega) _ _ (by omega) hX _ (lv_sub hl [1, 2, 0] rfl)
                      · skip
                        refine lv_iload hx hb dX4_isSound_139 (lv_at hl 4 rfl) ?_
                        refine lv_iconst (v := nI 4) hx hb dX4_isSound_141 (by decide) ?_
                        refine kn_icmp_ge (tgt := 206) hx hb (by omega) (by omega) dX4_isSound_142 (by decide) (fun k_7 => ?_) (fun k_7 => ?_)
                        · skip
                          refine lv_iinc (v := nI (a + 1)) (lv' := [(2, .int (nI (a + 1))), (0, .ref (ad 57)), (1, .int (bI z3)), (3, .ref (ad (24 + 5 * a))), (4, .int (nI c9))]) hx hb dX4_isSound_206 hl (k := 2) rfl (nI_1 a) (by decide) rfl (fun ls hl => ?_)
                          refine lv_goto (tgt := 4) hx hb dX4_isSound_209 (by decide) ?_
                          exact ih4  S3 z3 (a + 1) hK (by omega) _ _ (by omega) hX _ (lv_sub hl [1, 2, 0] rfl)
                        · skip
                          refine lv_aload_n hx hb dX4_isSound_145 rfl (lv_at hl 0 rfl) ?_
                          refine lv_iload hx hb dX4_isSound_146 (lv_at hl 4 rfl) ?_
                          refine va_csr (va_Run.run (va_runV (As := [.int (nI c9)]) (rest := []) ⟨hx, hb, hml, hown, hts⟩ (m_X4_orderAt l dC dI ad S3 c9 (by omega)) (cwV 1 hts gX4_isSound_X4_orderAt rfl rfl rfl hdX4_orderAt_1 ⟨Nat.le_of_ble_eq_true rfl, Nat.le_of_ble_eq_true rfl⟩) (hX.preTop 57 6 (by decide) (by decide) rfl rfl) rfl rfl hl.1 rfl (lv_room (Nat.le_of_ble_eq_true rfl)) dX4_isSound_148 ⟨Nat.le_of_ble_eq_true rfl, Nat.le_of_ble_eq_true rfl⟩)) (fun k_ hk_ => ?_)
                          rw [hk_]
                          refine lv_astore (lv' := [(5, .ref (ad (24 + 5 * c9))), (0, .ref (ad 57)), (1, .int (bI z3)), (2, .int (nI a)), (3, .ref (ad (24 + 5 * a))), (4, .int (nI c9))]) hx hb dX4_isSound_151 hl (by decide) rfl (fun ls hl => ?_)
                          refine lv_aload_n hx hb dX4_isSound_153 rfl (lv_at hl 1 rfl) ?_
                          refine kx_gauditor hx hb hts hin4 hown hX (hts (.fieldLink RX4 31 "Orderlattice" "auditor" "LOrderlattice$Auditor;") (tm 452 (by decide +kernel) rfl)) dX4_isSound_154 ?_
                          refine lv_aload_n hx hb dX4_isSound_157 rfl (lv_at hl 4 rfl) ?_
                          refine lv_aload hx hb dX4_isSound_158 (lv_at hl 0 rfl) ?_
                          refine kx_ci (va_runV (As := [.ref (ad (24 + 5 * a)), .ref (ad (24 + 5 * c9))]) (rest := []) ⟨hx, hb, hml, hown, hts⟩ (m_X0_isRefiningSound l dC dI ad S3 a c9 (by omega) (by omega) hK.1 (by rw [hK.2.2.2 a (by omega)]; exact h5 a (by omega)) (by rw [hK.2.2.2 c9 (by omega)]; exact h5 c9 (by omega))) (cwV 2 hts gX4_isSound_X0_isRefiningSound rfl rfl rfl hdX0_isRefiningSound_2 ⟨Nat.le_of_ble_eq_true rfl, Nat.le_of_ble_eq_true rfl⟩) (hX.preTop 56 2 (by decide) (by decide) rfl rfl) rfl rfl hl.1 rfl (lv_room (Nat.le_of_ble_eq_true rfl)) dX4_isSound_160 ⟨Nat.le_of_ble_eq_true rfl, Nat.le_of_ble_eq_true rfl⟩) hX (fun _ h => h) (fun r_ S_8 H locs hw hX => ?_)
                          obtain ⟨⟨z_9, rfl⟩, hK9⟩ := hw
                          replace hK := KA_trans hK hK9
                          refine lv_istore_n (lv' := [(1, .int (bI z_9)), (5, .ref (ad (24 + 5 * c9))), (0, .ref (ad 57)), (2, .int (nI a)), (3, .ref (ad (24 + 5 * a))), (4, .int (nI c9))]) hx hb dX4_isSound_163 rfl hl (by decide) rfl (fun ls hl => ?_)
                          refine lv_iconst (v := nI 0) hx hb dX4_isSound_164 (by decide) ?_
                          refine lv_istore (lv' := [(6, .int (nI 0)), (1, .int (bI z_9)), (5, .ref (ad (24 + 5 * c9))), (0, .ref (ad 57)), (2, .int (nI a)), (3, .ref (ad (24 + 5 * a))), (4, .int (nI c9))]) hx hb dX4_isSound_165 hl (by decide) rfl (fun ls hl => ?_)
                          have loop167 : ∀ (fuel : Nat) (S4 : XS) (z4 : Bool) (d9 : Nat) (hK : KA S S4) (hd9 : d9 ≤ 3) (H : Heap) (locs : List Loc), 3 - d9 < fuel → WX dC dI ad S4 (AX ad) s H locs → ∀ ls : Array Slot, lv_has ls 7 [(0, .ref (ad 57)), (1, .int (bI z4)), (2, .int (nI a)), (3, .ref (ad (24 + 5 * a))), (4, .int (nI c9)), (5, .ref (ad (24 + 5 * c9))), (6, .int (nI d9))] → W p l e ({ frames := 5, cells := 0, slots := 0, locals := 129 } : Room) s m ([.ref (ad 57)]).toArray below meth c H locs 0 0 (MQ below (va_Qi (fun r S' => (∃ z, r = bI z) ∧ KA S S') (PX dC dI ad) (AX ad)) ([.ref (ad 57)]).toArray s 0 0 (AX ad)) (F0 m 167 ls []) := by
                            intro fuel
                            induction fuel with
                            | zero => intro S4 z4 d9 hK hd9 H locs hf; exact absurd hf (Nat.not_lt_zero _)
                            | succ fuel ih167 =>
                              intro S4 z4 d9 hK hd9 H locs hf hX ls hl
                              refine lv_iload_n hx hb dX4_isSound_167 rfl (lv_at hl 1 rfl) ?_
                              refine kb_if_eq (tgt := 200) hx hb dX4_isSound_168 (by decide) (fun k_10 => ?_) (fun k_10 => ?_)
                              · skip
                                refine lv_iinc (v := nI (c9 + 1)) (lv' := [(4, .int (nI (c9 + 1))), (0, .ref (ad 57)), (1, .int (bI z4)), (2, .int (nI a)), (3, .ref (ad (24 + 5 * a))), (5, .ref (ad (24 + 5 * c9))), (6, .int (nI d9))]) hx hb dX4_isSound_200 hl (k := 4) rfl (nI_1 c9) (by decide) rfl (fun ls hl => ?_)
                                refine lv_goto (tgt := 135) hx hb dX4_isSound_203 (by decide) ?_
                                exact ih135  S4 z4 (c9 + 1) hK (by omega) _ _ (by omega) hX _ (lv_sub hl [1, 2, 3, 4, 0] rfl)
                              · skip
                                refine lv_iload hx hb dX4_isSound_171 (lv_at hl 6 rfl) ?_
                                refine lv_iconst (v := nI 3) hx hb dX4_isSound_173 (by decide) ?_
                                refine kn_icmp_ge (tgt := 200) hx hb (by omega) (by omega) dX4_isSound_174 (by decide) (fun k_11 => ?_) (fun k_11 => ?_)
                                · skip
                                  refine lv_iinc (v := nI (c9 + 1)) (lv' := [(4, .int (nI (c9 + 1))), (0, .ref (ad 57)), (1, .int (bI z4)), (2, .int (nI a)), (3, .ref (ad (24 + 5 * a))), (5, .ref (ad (24 + 5 * c9))), (6, .int (nI d9))]) hx hb dX4_isSound_200 hl (k := 4) rfl (nI_1 c9) (by decide) rfl (fun ls hl => ?_)
                                  refine lv_goto (tgt := 135) hx hb dX4_isSound_203 (by decide) ?_
                                  exact ih135  S4 z4 (c9 + 1) hK (by omega) _ _ (by omega) hX _ (lv_sub hl [1, 2, 3, 4, 0] rfl)
                                · skip
                                  refine lv_aload_n hx hb dX4_isSound_177 rfl (lv_at hl 0 rfl) ?_
                                  refine kx_gauditor hx hb hts hin4 hown hX (hts (.fieldLink RX4 31 "Orderlattice" "auditor" "LOrderlattice$Auditor;") (tm 452 (by decide +kernel) rfl)) dX4_isSound_178 ?_
                                  refine lv_aload_n hx hb dX4_isSound_181 rfl (lv_at hl 0 rfl) ?_
                                  refine lv_iload hx hb dX4_isSound_182 (lv_at hl 6 rfl) ?_
                                  refine va_csr (va_Run.run (va_runV (As := [.int (nI d9)]) (rest := [.ref (ad 56)]) ⟨hx, hb, hml, hown, hts⟩ (m_X4_rowAt l dC dI ad S4 d9 (by omega)) (cwV 1 hts gX4_isSound_X4_rowAt rfl rfl rfl hdX4_rowAt_1 ⟨Nat.le_of_ble_eq_true rfl, Nat.le_of_ble_eq_true rfl⟩) (hX.preTop 57 6 (by decide) (by decide) rfl rfl) rfl rfl hl.1 rfl (lv_room (Nat.le_of_ble_eq_true rfl)) dX4_isSound_184 ⟨Nat.le_of_ble_eq_true rfl, Nat.le_of_ble_eq_true rfl⟩)) (fun k_ hk_ => ?_)
                                  rw [hk_]
                                  refine lv_aload_n hx hb dX4_isSound_187 rfl (lv_at hl 3 rfl) ?_
                                  refine lv_aload hx hb dX4_isSound_188 (lv_at hl 5 rfl) ?_
                                  refine kx_ci (va_runV (As := [.ref (ad (3 * d9)), .ref (ad (24 + 5 * a)), .ref (ad (24 + 5 * c9))]) (rest := []) ⟨hx, hb, hml, hown, hts⟩ (m_X0_isProductAlike l dC dI ad S4 d9 a c9 (by omega) (by omega) (by omega) hK.1 (by rw [hK.2.2.2 a (by omega)]; exact h5 a (by omega)) (by rw [hK.2.2.2 c9 (by omega)]; exact h5 c9 (by omega))) (cwV 3 hts gX4_isSound_X0_isProductAlike rfl rfl rfl hdX0_isProductAlike_3 ⟨Nat.le_of_ble_eq_true rfl, Nat.le_of_ble_eq_true rfl⟩) (hX.preTop 56 2 (by decide) (by decide) rfl rfl) rfl rfl hl.1 rfl (lv_room (Nat.le_of_ble_eq_true rfl)) dX4_isSound_190 ⟨Nat.le_of_ble_eq_true rfl, Nat.le_of_ble_eq_true rfl⟩) hX (fun _ h => h) (fun r_ S_12 H locs hw hX => ?_)
                                  obtain ⟨⟨z_13, rfl⟩, hK9⟩ := hw
                                  replace hK := KA_trans hK hK9
                                  refine lv_istore_n (lv' := [(1, .int (bI z_13)), (0, .ref (ad 57)), (2, .int (nI a)), (3, .ref (ad (24 + 5 * a))), (4, .int (nI c9)), (5, .ref (ad (24 + 5 * c9))), (6, .int (nI d9))]) hx hb dX4_isSound_193 rfl hl (by decide) rfl (fun ls hl => ?_)
                                  refine lv_iinc (v := nI (d9 + 1)) (lv' := [(6, .int (nI (d9 + 1))), (1, .int (bI z_13)), (0, .ref (ad 57)), (2, .int (nI a)), (3, .ref (ad (24 + 5 * a))), (4, .int (nI c9)), (5, .ref (ad (24 + 5 * c9)))]) hx hb dX4_isSound_194 hl (k := 6) rfl (nI_1 d9) (by decide) rfl (fun ls hl => ?_)
                                  refine lv_goto (tgt := 167) hx hb dX4_isSound_197 (by decide) ?_
                                  exact ih167  S_12 z_13 (d9 + 1) hK (by omega) _ _ (by omega) hX _ (lv_sub hl [2, 1, 3, 4, 5, 6, 0] rfl)
                          exact loop167 (3 + 1) S_8 z_9 0 hK (by omega) _ _ (by omega) (WX.eqS rfl hX) _ (lv_sub hl [3, 1, 4, 5, 6, 2, 0] rfl)
                  exact loop135 (4 + 1) S2 z2 0 hK (by omega) _ _ (by omega) (WX.eqS rfl hX) _ (lv_sub hl [1, 2, 3, 4, 0] rfl)
                · skip
                  refine lv_iload hx hb dX4_isSound_54 (lv_at hl 4 rfl) ?_
                  refine lv_iconst (v := nI 3) hx hb dX4_isSound_56 (by decide) ?_
                  refine kn_icmp_ge (tgt := 132) hx hb (by omega) (by omega) dX4_isSound_57 (by decide) (fun k_14 => ?_) (fun k_14 => ?_)
                  · skip
                    refine lv_iconst (v := nI 0) hx hb dX4_isSound_132 (by decide) ?_
                    refine lv_istore (lv' := [(4, .int (nI 0)), (0, .ref (ad 57)), (1, .int (bI z2)), (2, .int (nI a)), (3, .ref (ad (24 + 5 * a)))]) hx hb dX4_isSound_133 hl (by decide) rfl (fun ls hl => ?_)
                    have loop135 : ∀ (fuel : Nat) (S3 : XS) (z3 : Bool) (c9 : Nat) (hK : KA S S3) (hc9 : c9 ≤ 4) (H : Heap) (locs : List Loc), 4 - c9 < fuel → WX dC dI ad S3 (AX ad) s H locs → ∀ ls : Array Slot, lv_has ls 7 [(0, .ref (ad 57)), (1, .int (bI z3)), (2, .int (nI a)), (3, .ref (ad (24 + 5 * a))), (4, .int (nI c9))] → W p l e ({ frames := 5, cells := 0, slots := 0, locals := 129 } : Room) s m ([.ref (ad 57)]).toArray below meth c H locs 0 0 (MQ below (va_Qi (fun r S' => (∃ z, r = bI z) ∧ KA S S') (PX dC dI ad) (AX ad)) ([.ref (ad 57)]).toArray s 0 0 (AX ad)) (F0 m 135 ls []) := by
                      intro fuel
                      induction fuel with
                      | zero => intro S3 z3 c9 hK hc9 H locs hf; exact absurd hf (Nat.not_lt_zero _)
                      | succ fuel ih135 =>
                        intro S3 z3 c9 hK hc9 H locs hf hX ls hl
                        refine lv_iload_n hx hb dX4_isSound_135 rfl (lv_at hl 1 rfl) ?_
                        refine kb_if_eq (tgt := 206) hx hb dX4_isSound_136 (by decide) (fun k_15 => ?_) (fun k_15 => ?_)
                        · skip
                          refine lv_iinc (v := nI (a + 1)) (lv' := [(2, .int (nI (a + 1))), (0, .ref (ad 57)), (1, .int (bI z3)), (3, .ref (ad (24 + 5 * a))), (4, .int (nI c9))]) hx hb dX4_isSound_206 hl (k := 2) rfl (nI_1 a) (by decide) rfl (fun ls hl => ?_)
                          refine lv_goto (tgt := 4) hx hb dX4_isSound_209 (by decide) ?_
                          exact ih4  S3 z3 (a + 1) hK (by omega) _ _ (by omega) hX _ (lv_sub hl [1, 2, 0] rfl)
                        · skip
                          refine lv_iload hx hb dX4_isSound_139 (lv_at hl 4 rfl) ?_
                          refine lv_iconst (v := nI 4) hx hb dX4_isSound_141 (by decide) ?_
                          refine kn_icmp_ge (tgt := 206) hx hb (by omega) (by omega) dX4_isSound_142 (by decide) (fun k_16 => ?_) (fun k_16 => ?_)
                          · skip
                            refine lv_iinc (v := nI (a + 1)) (lv' := [(2, .int (nI (a + 1))), (0, .ref (ad 57)), (1, .int (bI z3)), (3, .ref (ad (24 + 5 * a))), (4, .int (nI c9))]) hx hb dX4_isSound_206 hl (k := 2) rfl (nI_1 a) (by decide) rfl (fun ls hl => ?_)
                            refine lv_goto (tgt := 4) hx hb dX4_isSound_209 (by decide) ?_
                            exact ih4  S3 z3 (a + 1) hK (by omega) _ _ (by omega) hX _ (lv_sub hl [1, 2, 0] rfl)
                          · skip
                            refine lv_aload_n hx hb dX4_isSound_145 rfl (lv_at hl 0 rfl) ?_
                            refine lv_iload hx hb dX4_isSound_146 (lv_at hl 4 rfl) ?_
                            refine va_csr (va_Run.run (va_runV (As := [.int (nI c9)]) (rest := []) ⟨hx, hb, hml, hown, hts⟩ (m_X4_orderAt l dC dI ad S3 c9 (by omega)) (cwV 1 hts gX4_isSound_X4_orderAt rfl rfl rfl hdX4_orderAt_1 ⟨Nat.le_of_ble_eq_true rfl, Nat.le_of_ble_eq_true rfl⟩) (hX.preTop 57 6 (by decide) (by decide) rfl rfl) rfl rfl hl.1 rfl (lv_room (Nat.le_of_ble_eq_true rfl)) dX4_isSound_148 ⟨Nat.le_of_ble_eq_true rfl, Nat.le_of_ble_eq_true rfl⟩)) (fun k_ hk_ => ?_)
                            rw [hk_]
                            refine lv_astore (lv' := [(5, .ref (ad (24 + 5 * c9))), (0, .ref (ad 57)), (1, .int (bI z3)), (2, .int (nI a)), (3, .ref (ad (24 + 5 * a))), (4, .int (nI c9))]) hx hb dX4_isSound_151 hl (by decide) rfl (fun ls hl => ?_)
                            refine lv_aload_n hx hb dX4_isSound_153 rfl (lv_at hl 1 rfl) ?_
                            refine kx_gauditor hx hb hts hin4 hown hX (hts (.fieldLink RX4 31 "Orderlattice" "auditor" "LOrderlattice$Auditor;") (tm 452 (by decide +kernel) rfl)) dX4_isSound_154 ?_
                            refine lv_aload_n hx hb dX4_isSound_157 rfl (lv_at hl 4 rfl) ?_
                            refine lv_aload hx hb dX4_isSound_158 (lv_at hl 0 rfl) ?_
                            refine kx_ci (va_runV (As := [.ref (ad (24 + 5 * a)), .ref (ad (24 + 5 * c9))]) (rest := []) ⟨hx, hb, hml, hown, hts⟩ (m_X0_isRefiningSound l dC dI ad S3 a c9 (by omega) (by omega) hK.1 (by rw [hK.2.2.2 a (by omega)]; exact h5 a (by omega)) (by rw [hK.2.2.2 c9 (by omega)]; exact h5 c9 (by omega))) (cwV 2 hts gX4_isSound_X0_isRefiningSound rfl rfl rfl hdX0_isRefiningSound_2 ⟨Nat.le_of_ble_eq_true rfl, Nat.le_of_ble_eq_true rfl⟩) (hX.preTop 56 2 (by decide) (by decide) rfl rfl) rfl rfl hl.1 rfl (lv_room (Nat.le_of_ble_eq_true rfl)) dX4_isSound_160 ⟨Nat.le_of_ble_eq_true rfl, Nat.le_of_ble_eq_true rfl⟩) hX (fun _ h => h) (fun r_ S_17 H locs hw hX => ?_)
                            obtain ⟨⟨z_18, rfl⟩, hK9⟩ := hw
                            replace hK := KA_trans hK hK9
                            refine lv_istore_n (lv' := [(1, .int (bI z_18)), (5, .ref (ad (24 + 5 * c9))), (0, .ref (ad 57)), (2, .int (nI a)), (3, .ref (ad (24 + 5 * a))), (4, .int (nI c9))]) hx hb dX4_isSound_163 rfl hl (by decide) rfl (fun ls hl => ?_)
                            refine lv_iconst (v := nI 0) hx hb dX4_isSound_164 (by decide) ?_
                            refine lv_istore (lv' := [(6, .int (nI 0)), (1, .int (bI z_18)), (5, .ref (ad (24 + 5 * c9))), (0, .ref (ad 57)), (2, .int (nI a)), (3, .ref (ad (24 + 5 * a))), (4, .int (nI c9))]) hx hb dX4_isSound_165 hl (by decide) rfl (fun ls hl => ?_)
                            have loop167 : ∀ (fuel : Nat) (S4 : XS) (z4 : Bool) (d9 : Nat) (hK : KA S S4) (hd9 : d9 ≤ 3) (H : Heap) (locs : List Loc), 3 - d9 < fuel → WX dC dI ad S4 (AX ad) s H locs → ∀ ls : Array Slot, lv_has ls 7 [(0, .ref (ad 57)), (1, .int (bI z4)), (2, .int (nI a)), (3, .ref (ad (24 + 5 * a))), (4, .int (nI c9)), (5, .ref (ad (24 + 5 * c9))), (6, .int (nI d9))] → W p l e ({ frames := 5, cells := 0, slots := 0, locals := 129 } : Room) s m ([.ref (ad 57)]).toArray below meth c H locs 0 0 (MQ below (va_Qi (fun r S' => (∃ z, r = bI z) ∧ KA S S') (PX dC dI ad) (AX ad)) ([.ref (ad 57)]).toArray s 0 0 (AX ad)) (F0 m 167 ls []) := by
                              intro fuel
                              induction fuel with
                              | zero => intro S4 z4 d9 hK hd9 H locs hf; exact absurd hf (Nat.not_lt_zero _)
                              | succ fuel ih167 =>
                                intro S4 z4 d9 hK hd9 H locs hf hX ls hl
                                refine lv_iload_n hx hb dX4_isSound_167 rfl (lv_at hl 1 rfl) ?_
                                refine kb_if_eq (tgt := 200) hx hb dX4_isSound_168 (by decide) (fun k_19 => ?_) (fun k_19 => ?_)
                                · skip
                                  refine lv_iinc (v := nI (c9 + 1)) (lv' := [(4, .int (nI (c9 + 1))), (0, .ref (ad 57)), (1, .int (bI z4)), (2, .int (nI a)), (3, .ref (ad (24 + 5 * a))), (5, .ref (ad (24 + 5 * c9))), (6, .int (nI d9))]) hx hb dX4_isSound_200 hl (k := 4) rfl (nI_1 c9) (by decide) rfl (fun ls hl => ?_)
                                  refine lv_goto (tgt := 135) hx hb dX4_isSound_203 (by decide) ?_
                                  exact ih135  S4 z4 (c9 + 1) hK (by omega) _ _ (by omega) hX _ (lv_sub hl [1, 2, 3, 4, 0] rfl)
                                · skip
                                  refine lv_iload hx hb dX4_isSound_171 (lv_at hl 6 rfl) ?_
                                  refine lv_iconst (v := nI 3) hx hb dX4_isSound_173 (by decide) ?_
                                  refine kn_icmp_ge (tgt := 200) hx hb (by omega) (by omega) dX4_isSound_174 (by decide) (fun k_20 => ?_) (fun k_20 => ?_)
                                  · skip
                                    refine lv_iinc (v := nI (c9 + 1)) (lv' := [(4, .int (nI (c9 + 1))), (0, .ref (ad 57)), (1, .int (bI z4)), (2, .int (nI a)), (3, .ref (ad (24 + 5 * a))), (5, .ref (ad (24 + 5 * c9))), (6, .int (nI d9))]) hx hb dX4_isSound_200 hl (k := 4) rfl (nI_1 c9) (by decide) rfl (fun ls hl => ?_)
                                    refine lv_goto (tgt := 135) hx hb dX4_isSound_203 (by decide) ?_
                                    exact ih135  S4 z4 (c9 + 1) hK (by omega) _ _ (by omega) hX _ (lv_sub hl [1, 2, 3, 4, 0] rfl)
                                  · skip
                                    refine lv_aload_n hx hb dX4_isSound_177 rfl (lv_at hl 0 rfl) ?_
                                    refine kx_gauditor hx hb hts hin4 hown hX (hts (.fieldLink RX4 31 "Orderlattice" "auditor" "LOrderlattice$Auditor;") (tm 452 (by decide +kernel) rfl)) dX4_isSound_178 ?_
                                    refine lv_aload_n hx hb dX4_isSound_181 rfl (lv_at hl 0 rfl) ?_
                                    refine lv_iload hx hb dX4_isSound_182 (lv_at hl 6 rfl) ?_
                                    refine va_csr (va_Run.run (va_runV (As := [.int (nI d9)]) (rest := [.ref (ad 56)]) ⟨hx, hb, hml, hown, hts⟩ (m_X4_rowAt l dC dI ad S4 d9 (by omega)) (cwV 1 hts gX4_isSound_X4_rowAt rfl rfl rfl hdX4_rowAt_1 ⟨Nat.le_of_ble_eq_true rfl, Nat.le_of_ble_eq_true rfl⟩) (hX.preTop 57 6 (by decide) (by decide) rfl rfl) rfl rfl hl.1 rfl (lv_room (Nat.le_of_ble_eq_true rfl)) dX4_isSound_184 ⟨Nat.le_of_ble_eq_true rfl, Nat.le_of_ble_eq_true rfl⟩)) (fun k_ hk_ => ?_)
                                    rw [hk_]
                                    refine lv_aload_n hx hb dX4_isSound_187 rfl (lv_at hl 3 rfl) ?_
                                    refine lv_aload hx hb dX4_isSound_188 (lv_at hl 5 rfl) ?_
                                    refine kx_ci (va_runV (As := [.ref (ad (3 * d9)), .ref (ad (24 + 5 * a)), .ref (ad (24 + 5 * c9))]) (rest := []) ⟨hx, hb, hml, hown, hts⟩ (m_X0_isProductAlike l dC dI ad S4 d9 a c9 (by omega) (by omega) (by omega) hK.1 (by rw [hK.2.2.2 a (by omega)]; exact h5 a (by omega)) (by rw [hK.2.2.2 c9 (by omega)]; exact h5 c9 (by omega))) (cwV 3 hts gX4_isSound_X0_isProductAlike rfl rfl rfl hdX0_isProductAlike_3 ⟨Nat.le_of_ble_eq_true rfl, Nat.le_of_ble_eq_true rfl⟩) (hX.preTop 56 2 (by decide) (by decide) rfl rfl) rfl rfl hl.1 rfl (lv_room (Nat.le_of_ble_eq_true rfl)) dX4_isSound_190 ⟨Nat.le_of_ble_eq_true rfl, Nat.le_of_ble_eq_true rfl⟩) hX (fun _ h => h) (fun r_ S_21 H locs hw hX => ?_)
                                    obtain ⟨⟨z_22, rfl⟩, hK9⟩ := hw
                                    replace hK := KA_trans hK hK9
                                    refine lv_istore_n (lv' := [(1, .int (bI z_22)), (0, .ref (ad 57)), (2, .int (nI a)), (3, .ref (ad (24 + 5 * a))), (4, .int (nI c9)), (5, .ref (ad (24 + 5 * c9))), (6, .int (nI d9))]) hx hb dX4_isSound_193 rfl hl (by decide) rfl (fun ls hl => ?_)
                                    refine lv_iinc (v := nI (d9 + 1)) (lv' := [(6, .int (nI (d9 + 1))), (1, .int (bI z_22)), (0, .ref (ad 57)), (2, .int (nI a)), (3, .ref (ad (24 + 5 * a))), (4, .int (nI c9)), (5, .ref (ad (24 + 5 * c9)))]) hx hb dX4_isSound_194 hl (k := 6) rfl (nI_1 d9) (by decide) rfl (fun ls hl => ?_)
                                    refine lv_goto (tgt := 167) hx hb dX4_isSound_197 (by decide) ?_
                                    exact ih167  S_21 z_22 (d9 + 1) hK (by omega) _ _ (by omega) hX _ (lv_sub hl [2, 1, 3, 4, 5, 6, 0] rfl)
                            exact loop167 (3 + 1) S_17 z_18 0 hK (by omega) _ _ (by omega) (WX.eqS rfl hX) _ (lv_sub hl [3, 1, 4, 5, 6, 2, 0] rfl)
                    exact loop135 (4 + 1) S2 z2 0 hK (by omega) _ _ (by omega) (WX.eqS rfl hX) _ (lv_sub hl [1, 2, 3, 4, 0] rfl)
                  · skip
                    refine lv_aload_n hx hb dX4_isSound_60 rfl (lv_at hl 0 rfl) ?_
                    refine lv_iload hx hb dX4_isSound_61 (lv_at hl 4 rfl) ?_
                    refine va_csr (va_Run.run (va_runV (As := [.int (nI b9)]) (rest := []) ⟨hx, hb, hml, hown, hts⟩ (m_X4_rowAt l dC dI ad S2 b9 (by omega)) (cwV 1 hts gX4_isSound_X4_rowAt rfl rfl rfl hdX4_rowAt_1 ⟨Nat.le_of_ble_eq_true rfl, Nat.le_of_ble_eq_true rfl⟩) (hX.preTop 57 6 (by decide) (by decide) rfl rfl) rfl rfl hl.1 rfl (lv_room (Nat.le_of_ble_eq_true rfl)) dX4_isSound_63 ⟨Nat.le_of_ble_eq_true rfl, Nat.le_of_ble_eq_true rfl⟩)) (fun k_ hk_ => ?_)
                    rw [hk_]
                    refine lv_astore (lv' := [(5, .ref (ad (3 * b9))), (0, .ref (ad 57)), (1, .int (bI z2)), (2, .int (nI a)), (3, .ref (ad (24 + 5 * a))), (4, .int (nI b9))]) hx hb dX4_isSound_66 hl (by decide) rfl (fun ls hl => ?_)
                    refine lv_aload_n hx hb dX4_isSound_68 rfl (lv_at hl 1 rfl) ?_
                    refine kx_gauditor hx hb hts hin4 hown hX (hts (.fieldLink RX4 31 "Orderlattice" "auditor" "LOrderlattice$Auditor;") (tm 452 (by decide +kernel) rfl)) dX4_isSound_69 ?_
                    refine lv_aload hx hb dX4_isSound_72 (lv_at hl 0 rfl) ?_
                    refine lv_aload_n hx hb dX4_isSound_74 rfl (lv_at hl 4 rfl) ?_
                    refine kx_ci (va_runV (As := [.ref (ad (3 * b9)), .ref (ad (24 + 5 * a))]) (rest := []) ⟨hx, hb, hml, hown, hts⟩ (m_X0_areWaysAgreed l dC dI ad S2 b9 a (by omega) (by omega) hK.1) (cwV 2 hts gX4_isSound_X0_areWaysAgreed rfl rfl rfl hdX0_areWaysAgreed_2 ⟨Nat.le_of_ble_eq_true rfl, Nat.le_of_ble_eq_true rfl⟩) (hX.preTop 56 2 (by decide) (by decide) rfl rfl) rfl rfl hl.1 rfl (lv_room (Nat.le_of_ble_eq_true rfl)) dX4_isSound_75 ⟨Nat.le_of_ble_eq_true rfl, Nat.le_of_ble_eq_true rfl⟩) hX (fun _ h => h) (fun r_ S_23 H locs hw hX => ?_)
                    obtain ⟨⟨z_24, rfl⟩, hK9⟩ := hw
                    replace hK := KA_trans hK hK9
                    refine kb_if_eq (tgt := 124) hx hb dX4_isSound_78 (by decide) (fun k_25 => ?_) (fun k_25 => ?_)
                    · skip
                      refine lv_iconst (v := bI false) hx hb dX4_isSound_124 (by decide) ?_
                      refine lv_istore_n (lv' := [(1, .int (bI false)), (5, .ref (ad (3 * b9))), (0, .ref (ad 57)), (2, .int (nI a)), (3, .ref (ad (24 + 5 * a))), (4, .int (nI b9))]) hx hb dX4_isSound_125 rfl hl (by decide) rfl (fun ls hl => ?_)
                      refine lv_iinc (v := nI (b9 + 1)) (lv' := [(4, .int (nI (b9 + 1))), (1, .int (bI false)), (5, .ref (ad (3 * b9))), (0, .ref (ad 57)), (2, .int (nI a)), (3, .ref (ad (24 + 5 * a)))]) hx hb dX4_isSound_126 hl (k := 5) rfl (nI_1 b9) (by decide) rfl (fun ls hl => ?_)
                      refine lv_goto (tgt := 50) hx hb dX4_isSound_129 (by decide) ?_
                      exact ih50  S_23 false (b9 + 1) hK (by omega) _ _ (by omega) hX _ (lv_sub hl [3, 1, 4, 5, 0] rfl)
                    · skip
                      refine lv_aload_n hx hb dX4_isSound_81 rfl (lv_at hl 1 rfl) ?_
                      refine kx_gauditor hx hb hts hin4 hown hX (hts (.fieldLink RX4 31 "Orderlattice" "auditor" "LOrderlattice$Auditor;") (tm 452 (by decide +kernel) rfl)) dX4_isSound_82 ?_
                      refine lv_aload hx hb dX4_isSound_85 (lv_at hl 0 rfl) ?_
                      refine lv_aload_n hx hb dX4_isSound_87 rfl (lv_at hl 4 rfl) ?_
                      refine kx_ci (va_runV (As := [.ref (ad (3 * b9)), .ref (ad (24 + 5 * a))]) (rest := []) ⟨hx, hb, hml, hown, hts⟩ (m_X0_staysSorted l dC dI ad S_23 b9 a (by omega) (by omega) hK.1) (cwV 2 hts gX4_isSound_X0_staysSorted rfl rfl rfl hdX0_staysSorted_2 ⟨Nat.le_of_ble_eq_true rfl, Nat.le_of_ble_eq_true rfl⟩) (hX.preTop 56 2 (by decide) (by decide) rfl rfl) rfl rfl hl.1 rfl (lv_room (Nat.le_of_ble_eq_true rfl)) dX4_isSound_88 ⟨Nat.le_of_ble_eq_true rfl, Nat.le_of_ble_eq_true rfl⟩) hX (fun _ h => h) (fun r_ S_26 H locs hw hX => ?_)
                      obtain ⟨⟨z_27, rfl⟩, hK9⟩ := hw
                      replace hK := KA_trans hK hK9
                      refine kb_if_eq (tgt := 124) hx hb dX4_isSound_91 (by decide) (fun k_28 => ?_) (fun k_28 => ?_)
                      · skip
                        refine lv_iconst (v := bI false) hx hb dX4_isSound_124 (by decide) ?_
                        refine lv_istore_n (lv' := [(1, .int (bI false)), (5, .ref (ad (3 * b9))), (0, .ref (ad 57)), (2, .int (nI a)), (3, .ref (ad (24 + 5 * a))), (4, .int (nI b9))]) hx hb dX4_isSound_125 rfl hl (by decide) rfl (fun ls hl => ?_)
                        refine lv_iinc (v := nI (b9 + 1)) (lv' := [(4, .int (nI (b9 + 1))), (1, .int (bI false)), (5, .ref (ad (3 * b9))), (0, .ref (ad 57)), (2, .int (nI a)), (3, .ref (ad (24 + 5 * a)))]) hx hb dX4_isSound_126 hl (k := 5) rfl (nI_1 b9) (by decide) rfl (fun ls hl => ?_)
                        refine lv_goto (tgt := 50) hx hb dX4_isSound_129 (by decide) ?_
                        exact ih50  S_26 false (b9 + 1) hK (by omega) _ _ (by omega) hX _ (lv_sub hl [3, 1, 4, 5, 0] rfl)
                      · skip
                        refine lv_aload_n hx hb dX4_isSound_94 rfl (lv_at hl 1 rfl) ?_
                        refine kx_gauditor hx hb hts hin4 hown hX (hts (.fieldLink RX4 31 "Orderlattice" "auditor" "LOrderlattice$Auditor;") (tm 452 (by decide +kernel) rfl)) dX4_isSound_95 ?_
                        refine lv_aload hx hb dX4_isSound_98 (lv_at hl 0 rfl) ?_
                        refine lv_aload_n hx hb dX4_isSound_100 rfl (lv_at hl 4 rfl) ?_
                        refine kx_ci (va_runV (As := [.ref (ad (3 * b9)), .ref (ad (24 + 5 * a))]) (rest := []) ⟨hx, hb, hml, hown, hts⟩ (m_X0_isTurnedAlike l dC dI ad S_26 b9 a (by omega) (by omega) hK.1) (cwV 2 hts gX4_isSound_X0_isTurnedAlike rfl rfl rfl hdX0_isTurnedAlike_2 ⟨Nat.le_of_ble_eq_true rfl, Nat.le_of_ble_eq_true rfl⟩) (hX.preTop 56 2 (by decide) (by decide) rfl rfl) rfl rfl hl.1 rfl (lv_room (Nat.le_of_ble_eq_true rfl)) dX4_isSound_101 ⟨Nat.le_of_ble_eq_true rfl, Nat.le_of_ble_eq_true rfl⟩) hX (fun _ h => h) (fun r_ S_29 H locs hw hX => ?_)
                        obtain ⟨⟨z_30, rfl⟩, hK9⟩ := hw
                        replace hK := KA_trans hK hK9
                        refine kb_if_eq (tgt := 124) hx hb dX4_isSound_104 (by decide) (fun k_31 => ?_) (fun k_31 => ?_)
                        · skip
                          refine lv_iconst (v := bI false) hx hb dX4_isSound_124 (by decide) ?_
                          refine lv_istore_n (lv' := [(1, .int (bI false)), (5, .ref (ad (3 * b9))), (0, .ref (ad 57)), (2, .int (nI a)), (3, .ref (ad (24 + 5 * a))), (4, .int (nI b9))]) hx hb dX4_isSound_125 rfl hl (by decide) rfl (fun ls hl => ?_)
                          refine lv_iinc (v := nI (b9 + 1)) (lv' := [(4, .int (nI (b9 + 1))), (1, .int (bI false)), (5, .ref (ad (3 * b9))), (0, .ref (ad 57)), (2, .int (nI a)), (3, .ref (ad (24 + 5 * a)))]) hx hb dX4_isSound_126 hl (k := 5) rfl (nI_1 b9) (by decide) rfl (fun ls hl => ?_)
                          refine lv_goto (tgt := 50) hx hb dX4_isSound_129 (by decide) ?_
                          exact ih50  S_29 false (b9 + 1) hK (by omega) _ _ (by omega) hX _ (lv_sub hl [3, 1, 4, 5, 0] rfl)
                        · skip
                          refine lv_aload_n hx hb dX4_isSound_107 rfl (lv_at hl 1 rfl) ?_
                          refine kx_gauditor hx hb hts hin4 hown hX (hts (.fieldLink RX4 31 "Orderlattice" "auditor" "LOrderlattice$Auditor;") (tm 452 (by decide +kernel) rfl)) dX4_isSound_108 ?_
                          refine lv_aload hx hb dX4_isSound_111 (lv_at hl 0 rfl) ?_
                          refine lv_aload_n hx hb dX4_isSound_113 rfl (lv_at hl 4 rfl) ?_
                          refine kx_ci (va_runV (As := [.ref (ad (3 * b9)), .ref (ad (24 + 5 * a))]) (rest := []) ⟨hx, hb, hml, hown, hts⟩ (m_X0_isQueuedAlike l dC dI ad S_29 b9 a (by omega) (by omega) hK.1) (cwV 2 hts gX4_isSound_X0_isQueuedAlike rfl rfl rfl hdX0_isQueuedAlike_2 ⟨Nat.le_of_ble_eq_true rfl, Nat.le_of_ble_eq_true rfl⟩) (hX.preTop 56 2 (by decide) (by decide) rfl rfl) rfl rfl hl.1 rfl (lv_room (Nat.le_of_ble_eq_true rfl)) dX4_isSound_114 ⟨Nat.le_of_ble_eq_true rfl, Nat.le_of_ble_eq_true rfl⟩) hX (fun _ h => h) (fun r_ S_32 H locs hw hX => ?_)
                          obtain ⟨⟨z_33, rfl⟩, hK9⟩ := hw
                          replace hK := KA_trans hK hK9
                          refine kb_if_eq (tgt := 124) hx hb dX4_isSound_117 (by decide) (fun k_34 => ?_) (fun k_34 => ?_)
                          · skip
                            refine lv_iconst (v := bI false) hx hb dX4_isSound_124 (by decide) ?_
                            refine lv_istore_n (lv' := [(1, .int (bI false)), (5, .ref (ad (3 * b9))), (0, .ref (ad 57)), (2, .int (nI a)), (3, .ref (ad (24 + 5 * a))), (4, .int (nI b9))]) hx hb dX4_isSound_125 rfl hl (by decide) rfl (fun ls hl => ?_)
                            refine lv_iinc (v := nI (b9 + 1)) (lv' := [(4, .int (nI (b9 + 1))), (1, .int (bI false)), (5, .ref (ad (3 * b9))), (0, .ref (ad 57)), (2, .int (nI a)), (3, .ref (ad (24 + 5 * a)))]) hx hb dX4_isSound_126 hl (k := 5) rfl (nI_1 b9) (by decide) rfl (fun ls hl => ?_)
                            refine lv_goto (tgt := 50) hx hb dX4_isSound_129 (by decide) ?_
                            exact ih50  S_32 false (b9 + 1) hK (by omega) _ _ (by omega) hX _ (lv_sub hl [3, 1, 4, 5, 0] rfl)
                          · skip
                            refine lv_iconst (v := bI true) hx hb dX4_isSound_120 (by decide) ?_
                            refine lv_goto (tgt := 125) hx hb dX4_isSound_121 (by decide) ?_
                            refine lv_istore_n (lv' := [(1, .int (bI true)), (5, .ref (ad (3 * b9))), (0, .ref (ad 57)), (2, .int (nI a)), (3, .ref (ad (24 + 5 * a))), (4, .int (nI b9))]) hx hb dX4_isSound_125 rfl hl (by decide) rfl (fun ls hl => ?_)
                            refine lv_iinc (v := nI (b9 + 1)) (lv' := [(4, .int (nI (b9 + 1))), (1, .int (bI true)), (5, .ref (ad (3 * b9))), (0, .ref (ad 57)), (2, .int (nI a)), (3, .ref (ad (24 + 5 * a)))]) hx hb dX4_isSound_126 hl (k := 5) rfl (nI_1 b9) (by decide) rfl (fun ls hl => ?_)
                            refine lv_goto (tgt := 50) hx hb dX4_isSound_129 (by decide) ?_
                            exact ih50  S_32 true (b9 + 1) hK (by omega) _ _ (by omega) hX _ (lv_sub hl [3, 1, 4, 5, 0] rfl)
            exact loop50 (3 + 1) S1 false 0 hK (by omega) _ _ (by omega) (WX.eqS rfl hX) _ (lv_sub hl [3, 1, 4, 2, 0] rfl)
          · skip
            refine lv_iconst (v := bI true) hx hb dX4_isSound_41 (by decide) ?_
            refine lv_goto (tgt := 46) hx hb dX4_isSound_42 (by decide) ?_
            refine lv_istore_n (lv' := [(1, .int (bI true)), (3, .ref (ad (24 + 5 * a))), (0, .ref (ad 57)), (2, .int (nI a))]) hx hb dX4_isSound_46 rfl hl (by decide) rfl (fun ls hl => ?_)
            refine lv_iconst (v := nI 0) hx hb dX4_isSound_47 (by decide) ?_
            refine lv_istore (lv' := [(4, .int (nI 0)), (1, .int (bI true)), (3, .ref (ad (24 + 5 * a))), (0, .ref (ad 57)), (2, .int (nI a))]) hx hb dX4_isSound_48 hl (by decide) rfl (fun ls hl => ?_)
            have loop50 : ∀ (fuel : Nat) (S2 : XS) (z2 : Bool) (b9 : Nat) (hK : KA S S2) (hb9 : b9 ≤ 3) (H : Heap) (locs : List Loc), 3 - b9 < fuel → WX dC dI ad S2 (AX ad) s H locs → ∀ ls : Array Slot, lv_has ls 7 [(0, .ref (ad 57)), (1, .int (bI z2)), (2, .int (nI a)), (3, .ref (ad (24 + 5 * a))), (4, .int (nI b9))] → W p l e ({ frames := 5, cells := 0, slots := 0, locals := 129 } : Room) s m ([.ref (ad 57)]).toArray below meth c H locs 0 0 (MQ below (va_Qi (fun r S' => (∃ z, r = bI z) ∧ KA S S') (PX dC dI ad) (AX ad)) ([.ref (ad 57)]).toArray s 0 0 (AX ad)) (F0 m 50 ls []) := by
              intro fuel
              induction fuel with
              | zero => intro S2 z2 b9 hK hb9 H locs hf; exact absurd hf (Nat.not_lt_zero _)
              | succ fuel ih50 =>
                intro S2 z2 b9 hK hb9 H locs hf hX ls hl
                refine lv_iload_n hx hb dX4_isSound_50 rfl (lv_at hl 1 rfl) ?_
                refine kb_if_eq (tgt := 132) hx hb dX4_isSound_51 (by decide) (fun k_35 => ?_) (fun k_35 => ?_)
                · skip
                  refine lv_iconst (v := nI 0) hx hb dX4_isSound_132 (by decide) ?_
                  refine lv_istore (lv' := [(4, .int (nI 0)), (0, .ref (ad 57)), (1, .int (bI z2)), (2, .int (nI a)), (3, .ref (ad (24 + 5 * a)))]) hx hb dX4_isSound_133 hl (by decide) rfl (fun ls hl => ?_)
                  have loop135 : ∀ (fuel : Nat) (S3 : XS) (z3 : Bool) (c9 : Nat) (hK : KA S S3) (hc9 : c9 ≤ 4) (H : Heap) (locs : List Loc), 4 - c9 < fuel → WX dC dI ad S3 (AX ad) s H locs → ∀ ls : Array Slot, lv_has ls 7 [(0, .ref (ad 57)), (1, .int (bI z3)), (2, .int (nI a)), (3, .ref (ad (24 + 5 * a))), (4, .int (nI c9))] → W p l e ({ frames := 5, cells := 0, slots := 0, locals := 129 } : Room) s m ([.ref (ad 57)]).toArray below meth c H locs 0 0 (MQ below (va_Qi (fun r S' => (∃ z, r = bI z) ∧ KA S S') (PX dC dI ad) (AX ad)) ([.ref (ad 57)]).toArray s 0 0 (AX ad)) (F0 m 135 ls []) := by
                    intro fuel
                    induction fuel with
                    | zero => intro S3 z3 c9 hK hc9 H locs hf; exact absurd hf (Nat.not_lt_zero _)
                    | succ fuel ih135 =>
                      intro S3 z3 c9 hK hc9 H locs hf hX ls hl
                      refine lv_iload_n hx hb dX4_isSound_135 rfl (lv_at hl 1 rfl) ?_
                      refine kb_if_eq (tgt := 206) hx hb dX4_isSound_136 (by decide) (fun k_36 => ?_) (fun k_36 => ?_)
                      · skip
                        refine lv_iinc (v := nI (a + 1)) (lv' := [(2, .int (nI (a + 1))), (0, .ref (ad 57)), (1, .int (bI z3)), (3, .ref (ad (24 + 5 * a))), (4, .int (nI c9))]) hx hb dX4_isSound_206 hl (k := 2) rfl (nI_1 a) (by decide) rfl (fun ls hl => ?_)
                        refine lv_goto (tgt := 4) hx hb dX4_isSound_209 (by decide) ?_
                        exact ih4  S3 z3 (a + 1) hK (by omega) _ _ (by omega) hX _ (lv_sub hl [1, 2, 0] rfl)
                      · skip
                        refine lv_iload hx hb dX4_isSound_139 (lv_at hl 4 rfl) ?_
                        refine lv_iconst (v := nI 4) hx hb dX4_isSound_141 (by decide) ?_
                        refine kn_icmp_ge (tgt := 206) hx hb (by omega) (by omega) dX4_isSound_142 (by decide) (fun k_37 => ?_) (fun k_37 => ?_)
                        · skip
                          refine lv_iinc (v := nI (a + 1)) (lv' := [(2, .int (nI (a + 1))), (0, .ref (ad 57)), (1, .int (bI z3)), (3, .ref (ad (24 + 5 * a))), (4, .int (nI c9))]) hx hb dX4_isSound_206 hl (k := 2) rfl (nI_1 a) (by decide) rfl (fun ls hl => ?_)
                          refine lv_goto (tgt := 4) hx hb dX4_isSound_209 (by decide) ?_
                          exact ih4  S3 z3 (a + 1) hK (by omega) _ _ (by omega) hX _ (lv_sub hl [1, 2, 0] rfl)
                        · skip
                          refine lv_aload_n hx hb dX4_isSound_145 rfl (lv_at hl 0 rfl) ?_
                          refine lv_iload hx hb dX4_isSound_146 (lv_at hl 4 rfl) ?_
                          refine va_csr (va_Run.run (va_runV (As := [.int (nI c9)]) (rest := []) ⟨hx, hb, hml, hown, hts⟩ (m_X4_orderAt l dC dI ad S3 c9 (by omega)) (cwV 1 hts gX4_isSound_X4_orderAt rfl rfl rfl hdX4_orderAt_1 ⟨Nat.le_of_ble_eq_true rfl, Nat.le_of_ble_eq_true rfl⟩) (hX.preTop 57 6 (by decide) (by decide) rfl rfl) rfl rfl hl.1 rfl (lv_room (Nat.le_of_ble_eq_true rfl)) dX4_isSound_148 ⟨Nat.le_of_ble_eq_true rfl, Nat.le_of_ble_eq_true rfl⟩)) (fun k_ hk_ => ?_)
                          rw [hk_]
                          refine lv_astore (lv' := [(5, .ref (ad (24 + 5 * c9))), (0, .ref (ad 57)), (1, .int (bI z3)), (2, .int (nI a)), (3, .ref (ad (24 + 5 * a))), (4, .int (nI c9))]) hx hb dX4_isSound_151 hl (by decide) rfl (fun ls hl => ?_)
                          refine lv_aload_n hx hb dX4_isSound_153 rfl (lv_at hl 1 rfl) ?_
                          refine kx_gauditor hx hb hts hin4 hown hX (hts (.fieldLink RX4 31 "Orderlattice" "auditor" "LOrderlattice$Auditor;") (tm 452 (by decide +kernel) rfl)) dX4_isSound_154 ?_
                          refine lv_aload_n hx hb dX4_isSound_157 rfl (lv_at hl 4 rfl) ?_
                          refine lv_aload hx hb dX4_isSound_158 (lv_at hl 0 rfl) ?_
                          refine kx_ci (va_runV (As := [.ref (ad (24 + 5 * a)), .ref (ad (24 + 5 * c9))]) (rest := []) ⟨hx, hb, hml, hown, hts⟩ (m_X0_isRefiningSound l dC dI ad S3 a c9 (by omega) (by omega) hK.1 (by rw [hK.2.2.2 a (by omega)]; exact h5 a (by omega)) (by rw [hK.2.2.2 c9 (by omega)]; exact h5 c9 (by omega))) (cwV 2 hts gX4_isSound_X0_isRefiningSound rfl rfl rfl hdX0_isRefiningSound_2 ⟨Nat.le_of_ble_eq_true rfl, Nat.le_of_ble_eq_true rfl⟩) (hX.preTop 56 2 (by decide) (by decide) rfl rfl) rfl rfl hl.1 rfl (lv_room (Nat.le_of_ble_eq_true rfl)) dX4_isSound_160 ⟨Nat.le_of_ble_eq_true rfl, Nat.le_of_ble_eq_true rfl⟩) hX (fun _ h => h) (fun r_ S_38 H locs hw hX => ?_)
                          obtain ⟨⟨z_39, rfl⟩, hK9⟩ := hw
                          replace hK := KA_trans hK hK9
                          refine lv_istore_n (lv' := [(1, .int (bI z_39)), (5, .ref (ad (24 + 5 * c9))), (0, .ref (ad 57)), (2, .int (nI a)), (3, .ref (ad (24 + 5 * a))), (4, .int (nI c9))]) hx hb dX4_isSound_163 rfl hl (by decide) rfl (fun ls hl => ?_)
                          refine lv_iconst (v := nI 0) hx hb dX4_isSound_164 (by decide) ?_
                          refine lv_istore (lv' := [(6, .int (nI 0)), (1, .int (bI z_39)), (5, .ref (ad (24 + 5 * c9))), (0, .ref (ad 57)), (2, .int (nI a)), (3, .ref (ad (24 + 5 * a))), (4, .int (nI c9))]) hx hb dX4_isSound_165 hl (by decide) rfl (fun ls hl => ?_)
                          have loop167 : ∀ (fuel : Nat) (S4 : XS) (z4 : Bool) (d9 : Nat) (hK : KA S S4) (hd9 : d9 ≤ 3) (H : Heap) (locs : List Loc), 3 - d9 < fuel → WX dC dI ad S4 (AX ad) s H locs → ∀ ls : Array Slot, lv_has ls 7 [(0, .ref (ad 57)), (1, .int (bI z4)), (2, .int (nI a)), (3, .ref (ad (24 + 5 * a))), (4, .int (nI c9)), (5, .ref (ad (24 + 5 * c9))), (6, .int (nI d9))] → W p l e ({ frames := 5, cells := 0, slots := 0, locals := 129 } : Room) s m ([.ref (ad 57)]).toArray below meth c H locs 0 0 (MQ below (va_Qi (fun r S' => (∃ z, r = bI z) ∧ KA S S') (PX dC dI ad) (AX ad)) ([.ref (ad 57)]).toArray s 0 0 (AX ad)) (F0 m 167 ls []) := by
                            intro fuel
                            induction fuel with
                            | zero => intro S4 z4 d9 hK hd9 H locs hf; exact absurd hf (Nat.not_lt_zero _)
                            | succ fuel ih167 =>
                              intro S4 z4 d9 hK hd9 H locs hf hX ls hl
                              refine lv_iload_n hx hb dX4_isSound_167 rfl (lv_at hl 1 rfl) ?_
                              refine kb_if_eq (tgt := 200) hx hb dX4_isSound_168 (by decide) (fun k_40 => ?_) (fun k_40 => ?_)
                              · skip
                                refine lv_iinc (v := nI (c9 + 1)) (lv' := [(4, .int (nI (c9 + 1))), (0, .ref (ad 57)), (1, .int (bI z4)), (2, .int (nI a)), (3, .ref (ad (24 + 5 * a))), (5, .ref (ad (24 + 5 * c9))), (6, .int (nI d9))]) hx hb dX4_isSound_200 hl (k := 4) rfl (nI_1 c9) (by decide) rfl (fun ls hl => ?_)
                                refine lv_goto (tgt := 135) hx hb dX4_isSound_203 (by decide) ?_
                                exact ih135  S4 z4 (c9 + 1) hK (by omega) _ _ (by omega) hX _ (lv_sub hl [1, 2, 3, 4, 0] rfl)
                              · skip
                                refine lv_iload hx hb dX4_isSound_171 (lv_at hl 6 rfl) ?_
                                refine lv_iconst (v := nI 3) hx hb dX4_isSound_173 (by decide) ?_
                                refine kn_icmp_ge (tgt := 200) hx hb (by omega) (by omega) dX4_isSound_174 (by decide) (fun k_41 => ?_) (fun k_41 => ?_)
                                · skip
                                  refine lv_iinc (v := nI (c9 + 1)) (lv' := [(4, .int (nI (c9 + 1))), (0, .ref (ad 57)), (1, .int (bI z4)), (2, .int (nI a)), (3, .ref (ad (24 + 5 * a))), (5, .ref (ad (24 + 5 * c9))), (6, .int (nI d9))]) hx hb dX4_isSound_200 hl (k := 4) rfl (nI_1 c9) (by decide) rfl (fun ls hl => ?_)
                                  refine lv_goto (tgt := 135) hx hb dX4_isSound_203 (by decide) ?_
                                  exact ih135  S4 z4 (c9 + 1) hK (by omega) _ _ (by omega) hX _ (lv_sub hl [1, 2, 3, 4, 0] rfl)
                                · skip
                                  refine lv_aload_n hx hb dX4_isSound_177 rfl (lv_at hl 0 rfl) ?_
                                  refine kx_gauditor hx hb hts hin4 hown hX (hts (.fieldLink RX4 31 "Orderlattice" "auditor" "LOrderlattice$Auditor;") (tm 452 (by decide +kernel) rfl)) dX4_isSound_178 ?_
                                  refine lv_aload_n hx hb dX4_isSound_181 rfl (lv_at hl 0 rfl) ?_
                                  refine lv_iload hx hb dX4_isSound_182 (lv_at hl 6 rfl) ?_
                                  refine va_csr (va_Run.run (va_runV (As := [.int (nI d9)]) (rest := [.ref (ad 56)]) ⟨hx, hb, hml, hown, hts⟩ (m_X4_rowAt l dC dI ad S4 d9 (by omega)) (cwV 1 hts gX4_isSound_X4_rowAt rfl rfl rfl hdX4_rowAt_1 ⟨Nat.le_of_ble_eq_true rfl, Nat.le_of_ble_eq_true rfl⟩) (hX.preTop 57 6 (by decide) (by decide) rfl rfl) rfl rfl hl.1 rfl (lv_room (Nat.le_of_ble_eq_true rfl)) dX4_isSound_184 ⟨Nat.le_of_ble_eq_true rfl, Nat.le_of_ble_eq_true rfl⟩)) (fun k_ hk_ => ?_)
                                  rw [hk_]
                                  refine lv_aload_n hx hb dX4_isSound_187 rfl (lv_at hl 3 rfl) ?_
                                  refine lv_aload hx hb dX4_isSound_188 (lv_at hl 5 rfl) ?_
                                  refine kx_ci (va_runV (As := [.ref (ad (3 * d9)), .ref (ad (24 + 5 * a)), .ref (ad (24 + 5 * c9))]) (rest := []) ⟨hx, hb, hml, hown, hts⟩ (m_X0_isProductAlike l dC dI ad S4 d9 a c9 (by omega) (by omega) (by omega) hK.1 (by rw [hK.2.2.2 a (by omega)]; exact h5 a (by omega)) (by rw [hK.2.2.2 c9 (by omega)]; exact h5 c9 (by omega))) (cwV 3 hts gX4_isSound_X0_isProductAlike rfl rfl rfl hdX0_isProductAlike_3 ⟨Nat.le_of_ble_eq_true rfl, Nat.le_of_ble_eq_true rfl⟩) (hX.preTop 56 2 (by decide) (by decide) rfl rfl) rfl rfl hl.1 rfl (lv_room (Nat.le_of_ble_eq_true rfl)) dX4_isSound_190 ⟨Nat.le_of_ble_eq_true rfl, Nat.le_of_ble_eq_true rfl⟩) hX (fun _ h => h) (fun r_ S_42 H locs hw hX => ?_)
                                  obtain ⟨⟨z_43, rfl⟩, hK9⟩ := hw
                                  replace hK := KA_trans hK hK9
                                  refine lv_istore_n (lv' := [(1, .int (bI z_43)), (0, .ref (ad 57)), (2, .int (nI a)), (3, .ref (ad (24 + 5 * a))), (4, .int (nI c9)), (5, .ref (ad (24 + 5 * c9))), (6, .int (nI d9))]) hx hb dX4_isSound_193 rfl hl (by decide) rfl (fun ls hl => ?_)
                                  refine lv_iinc (v := nI (d9 + 1)) (lv' := [(6, .int (nI (d9 + 1))), (1, .int (bI z_43)), (0, .ref (ad 57)), (2, .int (nI a)), (3, .ref (ad (24 + 5 * a))), (4, .int (nI c9)), (5, .ref (ad (24 + 5 * c9)))]) hx hb dX4_isSound_194 hl (k := 6) rfl (nI_1 d9) (by decide) rfl (fun ls hl => ?_)
                                  refine lv_goto (tgt := 167) hx hb dX4_isSound_197 (by decide) ?_
                                  exact ih167  S_42 z_43 (d9 + 1) hK (by omega) _ _ (by omega) hX _ (lv_sub hl [2, 1, 3, 4, 5, 6, 0] rfl)
                          exact loop167 (3 + 1) S_38 z_39 0 hK (by omega) _ _ (by omega) (WX.eqS rfl hX) _ (lv_sub hl [3, 1, 4, 5, 6, 2, 0] rfl)
                  exact loop135 (4 + 1) S2 z2 0 hK (by omega) _ _ (by omega) (WX.eqS rfl hX) _ (lv_sub hl [1, 2, 3, 4, 0] rfl)
                · skip
                  refine lv_iload hx hb dX4_isSound_54 (lv_at hl 4 rfl) ?_
                  refine lv_iconst (v := nI 3) hx hb dX4_isSound_56 (by decide) ?_
                  refine kn_icmp_ge (tgt := 132) hx hb (by omega) (by omega) dX4_isSound_57 (by decide) (fun k_44 => ?_) (fun k_44 => ?_)
                  · skip
                    refine lv_iconst (v := nI 0) hx hb dX4_isSound_132 (by decide) ?_
                    refine lv_istore (lv' := [(4, .int (nI 0)), (0, .ref (ad 57)), (1, .int (bI z2)), (2, .int (nI a)), (3, .ref (ad (24 + 5 * a)))]) hx hb dX4_isSound_133 hl (by decide) rfl (fun ls hl => ?_)
                    have loop135 : ∀ (fuel : Nat) (S3 : XS) (z3 : Bool) (c9 : Nat) (hK : KA S S3) (hc9 : c9 ≤ 4) (H : Heap) (locs : List Loc), 4 - c9 < fuel → WX dC dI ad S3 (AX ad) s H locs → ∀ ls : Array Slot, lv_has ls 7 [(0, .ref (ad 57)), (1, .int (bI z3)), (2, .int (nI a)), (3, .ref (ad (24 + 5 * a))), (4, .int (nI c9))] → W p l e ({ frames := 5, cells := 0, slots := 0, locals := 129 } : Room) s m ([.ref (ad 57)]).toArray below meth c H locs 0 0 (MQ below (va_Qi (fun r S' => (∃ z, r = bI z) ∧ KA S S') (PX dC dI ad) (AX ad)) ([.ref (ad 57)]).toArray s 0 0 (AX ad)) (F0 m 135 ls []) := by
                      intro fuel
                      induction fuel with
                      | zero => intro S3 z3 c9 hK hc9 H locs hf; exact absurd hf (Nat.not_lt_zero _)
                      | succ fuel ih135 =>
                        intro S3 z3 c9 hK hc9 H locs hf hX ls hl
                        refine lv_iload_n hx hb dX4_isSound_135 rfl (lv_at hl 1 rfl) ?_
                        refine kb_if_eq (tgt := 206) hx hb dX4_isSound_136 (by decide) (fun k_45 => ?_) (fun k_45 => ?_)
                        · skip
                          refine lv_iinc (v := nI (a + 1)) (lv' := [(2, .int (nI (a + 1))), (0, .ref (ad 57)), (1, .int (bI z3)), (3, .ref (ad (24 + 5 * a))), (4, .int (nI c9))]) hx hb dX4_isSound_206 hl (k := 2) rfl (nI_1 a) (by decide) rfl (fun ls hl => ?_)
                          refine lv_goto (tgt := 4) hx hb dX4_isSound_209 (by decide) ?_
                          exact ih4  S3 z3 (a + 1) hK (by omega) _ _ (by omega) hX _ (lv_sub hl [1, 2, 0] rfl)
                        · skip
                          refine lv_iload hx hb dX4_isSound_139 (lv_at hl 4 rfl) ?_
                          refine lv_iconst (v := nI 4) hx hb dX4_isSound_141 (by decide) ?_
                          refine kn_icmp_ge (tgt := 206) hx hb (by omega) (by omega) dX4_isSound_142 (by decide) (fun k_46 => ?_) (fun k_46 => ?_)
                          · skip
                            refine lv_iinc (v := nI (a + 1)) (lv' := [(2, .int (nI (a + 1))), (0, .ref (ad 57)), (1, .int (bI z3)), (3, .ref (ad (24 + 5 * a))), (4, .int (nI c9))]) hx hb dX4_isSound_206 hl (k := 2) rfl (nI_1 a) (by decide) rfl (fun ls hl => ?_)
                            refine lv_goto (tgt := 4) hx hb dX4_isSound_209 (by decide) ?_
                            exact ih4  S3 z3 (a + 1) hK (by omega) _ _ (by omega) hX _ (lv_sub hl [1, 2, 0] rfl)
                          · skip
                            refine lv_aload_n hx hb dX4_isSound_145 rfl (lv_at hl 0 rfl) ?_
                            refine lv_iload hx hb dX4_isSound_146 (lv_at hl 4 rfl) ?_
                            refine va_csr (va_Run.run (va_runV (As := [.int (nI c9)]) (rest := []) ⟨hx, hb, hml, hown, hts⟩ (m_X4_orderAt l dC dI ad S3 c9 (by omega)) (cwV 1 hts gX4_isSound_X4_orderAt rfl rfl rfl hdX4_orderAt_1 ⟨Nat.le_of_ble_eq_true rfl, Nat.le_of_ble_eq_true rfl⟩) (hX.preTop 57 6 (by decide) (by decide) rfl rfl) rfl rfl hl.1 rfl (lv_room (Nat.le_of_ble_eq_true rfl)) dX4_isSound_148 ⟨Nat.le_of_ble_eq_true rfl, Nat.le_of_ble_eq_true rfl⟩)) (fun k_ hk_ => ?_)
                            rw [hk_]
                            refine lv_astore (lv' := [(5, .ref (ad (24 + 5 * c9))), (0, .ref (ad 57)), (1, .int (bI z3)), (2, .int (nI a)), (3, .ref (ad (24 + 5 * a))), (4, .int (nI c9))]) hx hb dX4_isSound_151 hl (by decide) rfl (fun ls hl => ?_)
                            refine lv_aload_n hx hb dX4_isSound_153 rfl (lv_at hl 1 rfl) ?_
                            refine kx_gauditor hx hb hts hin4 hown hX (hts (.fieldLink RX4 31 "Orderlattice" "auditor" "LOrderlattice$Auditor;") (tm 452 (by decide +kernel) rfl)) dX4_isSound_154 ?_
                            refine lv_aload_n hx hb dX4_isSound_157 rfl (lv_at hl 4 rfl) ?_
                            refine lv_aload hx hb dX4_isSound_158 (lv_at hl 0 rfl) ?_
                            refine kx_ci (va_runV (As := [.ref (ad (24 + 5 * a)), .ref (ad (24 + 5 * c9))]) (rest := []) ⟨hx, hb, hml, hown, hts⟩ (m_X0_isRefiningSound l dC dI ad S3 a c9 (by omega) (by omega) hK.1 (by rw [hK.2.2.2 a (by omega)]; exact h5 a (by omega)) (by rw [hK.2.2.2 c9 (by omega)]; exact h5 c9 (by omega))) (cwV 2 hts gX4_isSound_X0_isRefiningSound rfl rfl rfl hdX0_isRefiningSound_2 ⟨Nat.le_of_ble_eq_true rfl, Nat.le_of_ble_eq_true rfl⟩) (hX.preTop 56 2 (by decide) (by decide) rfl rfl) rfl rfl hl.1 rfl (lv_room (Nat.le_of_ble_eq_true rfl)) dX4_isSound_160 ⟨Nat.le_of_ble_eq_true rfl, Nat.le_of_ble_eq_true rfl⟩) hX (fun _ h => h) (fun r_ S_47 H locs hw hX => ?_)
                            obtain ⟨⟨z_48, rfl⟩, hK9⟩ := hw
                            replace hK := KA_trans hK hK9
                            refine lv_istore_n (lv' := [(1, .int (bI z_48)), (5, .ref (ad (24 + 5 * c9))), (0, .ref (ad 57)), (2, .int (nI a)), (3, .ref (ad (24 + 5 * a))), (4, .int (nI c9))]) hx hb dX4_isSound_163 rfl hl (by decide) rfl (fun ls hl => ?_)
                            refine lv_iconst (v := nI 0) hx hb dX4_isSound_164 (by decide) ?_
                            refine lv_istore (lv' := [(6, .int (nI 0)), (1, .int (bI z_48)), (5, .ref (ad (24 + 5 * c9))), (0, .ref (ad 57)), (2, .int (nI a)), (3, .ref (ad (24 + 5 * a))), (4, .int (nI c9))]) hx hb dX4_isSound_165 hl (by decide) rfl (fun ls hl => ?_)
                            have loop167 : ∀ (fuel : Nat) (S4 : XS) (z4 : Bool) (d9 : Nat) (hK : KA S S4) (hd9 : d9 ≤ 3) (H : Heap) (locs : List Loc), 3 - d9 < fuel → WX dC dI ad S4 (AX ad) s H locs → ∀ ls : Array Slot, lv_has ls 7 [(0, .ref (ad 57)), (1, .int (bI z4)), (2, .int (nI a)), (3, .ref (ad (24 + 5 * a))), (4, .int (nI c9)), (5, .ref (ad (24 + 5 * c9))), (6, .int (nI d9))] → W p l e ({ frames := 5, cells := 0, slots := 0, locals := 129 } : Room) s m ([.ref (ad 57)]).toArray below meth c H locs 0 0 (MQ below (va_Qi (fun r S' => (∃ z, r = bI z) ∧ KA S S') (PX dC dI ad) (AX ad)) ([.ref (ad 57)]).toArray s 0 0 (AX ad)) (F0 m 167 ls []) := by
                              intro fuel
                              induction fuel with
                              | zero => intro S4 z4 d9 hK hd9 H locs hf; exact absurd hf (Nat.not_lt_zero _)
                              | succ fuel ih167 =>
                                intro S4 z4 d9 hK hd9 H locs hf hX ls hl
                                refine lv_iload_n hx hb dX4_isSound_167 rfl (lv_at hl 1 rfl) ?_
                                refine kb_if_eq (tgt := 200) hx hb dX4_isSound_168 (by decide) (fun k_49 => ?_) (fun k_49 => ?_)
                                · skip
                                  refine lv_iinc (v := nI (c9 + 1)) (lv' := [(4, .int (nI (c9 + 1))), (0, .ref (ad 57)), (1, .int (bI z4)), (2, .int (nI a)), (3, .ref (ad (24 + 5 * a))), (5, .ref (ad (24 + 5 * c9))), (6, .int (nI d9))]) hx hb dX4_isSound_200 hl (k := 4) rfl (nI_1 c9) (by decide) rfl (fun ls hl => ?_)
                                  refine lv_goto (tgt := 135) hx hb dX4_isSound_203 (by decide) ?_
                                  exact ih135  S4 z4 (c9 + 1) hK (by omega) _ _ (by omega) hX _ (lv_sub hl [1, 2, 3, 4, 0] rfl)
                                · skip
                                  refine lv_iload hx hb dX4_isSound_171 (lv_at hl 6 rfl) ?_
                                  refine lv_iconst (v := nI 3) hx hb dX4_isSound_173 (by decide) ?_
                                  refine kn_icmp_ge (tgt := 200) hx hb (by omega) (by omega) dX4_isSound_174 (by decide) (fun k_50 => ?_) (fun k_50 => ?_)
                                  · skip
                                    refine lv_iinc (v := nI (c9 + 1)) (lv' := [(4, .int (nI (c9 + 1))), (0, .ref (ad 57)), (1, .int (bI z4)), (2, .int (nI a)), (3, .ref (ad (24 + 5 * a))), (5, .ref (ad (24 + 5 * c9))), (6, .int (nI d9))]) hx hb dX4_isSound_200 hl (k := 4) rfl (nI_1 c9) (by decide) rfl (fun ls hl => ?_)
                                    refine lv_goto (tgt := 135) hx hb dX4_isSound_203 (by decide) ?_
                                    exact ih135  S4 z4 (c9 + 1) hK (by omega) _ _ (by omega) hX _ (lv_sub hl [1, 2, 3, 4, 0] rfl)
                                  · skip
                                    refine lv_aload_n hx hb dX4_isSound_177 rfl (lv_at hl 0 rfl) ?_
                                    refine kx_gauditor hx hb hts hin4 hown hX (hts (.fieldLink RX4 31 "Orderlattice" "auditor" "LOrderlattice$Auditor;") (tm 452 (by decide +kernel) rfl)) dX4_isSound_178 ?_
                                    refine lv_aload_n hx hb dX4_isSound_181 rfl (lv_at hl 0 rfl) ?_
                                    refine lv_iload hx hb dX4_isSound_182 (lv_at hl 6 rfl) ?_
                                    refine va_csr (va_Run.run (va_runV (As := [.int (nI d9)]) (rest := [.ref (ad 56)]) ⟨hx, hb, hml, hown, hts⟩ (m_X4_rowAt l dC dI ad S4 d9 (by omega)) (cwV 1 hts gX4_isSound_X4_rowAt rfl rfl rfl hdX4_rowAt_1 ⟨Nat.le_of_ble_eq_true rfl, Nat.le_of_ble_eq_true rfl⟩) (hX.preTop 57 6 (by decide) (by decide) rfl rfl) rfl rfl hl.1 rfl (lv_room (Nat.le_of_ble_eq_true rfl)) dX4_isSound_184 ⟨Nat.le_of_ble_eq_true rfl, Nat.le_of_ble_eq_true rfl⟩)) (fun k_ hk_ => ?_)
                                    rw [hk_]
                                    refine lv_aload_n hx hb dX4_isSound_187 rfl (lv_at hl 3 rfl) ?_
                                    refine lv_aload hx hb dX4_isSound_188 (lv_at hl 5 rfl) ?_
                                    refine kx_ci (va_runV (As := [.ref (ad (3 * d9)), .ref (ad (24 + 5 * a)), .ref (ad (24 + 5 * c9))]) (rest := []) ⟨hx, hb, hml, hown, hts⟩ (m_X0_isProductAlike l dC dI ad S4 d9 a c9 (by omega) (by omega) (by omega) hK.1 (by rw [hK.2.2.2 a (by omega)]; exact h5 a (by omega)) (by rw [hK.2.2.2 c9 (by omega)]; exact h5 c9 (by omega))) (cwV 3 hts gX4_isSound_X0_isProductAlike rfl rfl rfl hdX0_isProductAlike_3 ⟨Nat.le_of_ble_eq_true rfl, Nat.le_of_ble_eq_true rfl⟩) (hX.preTop 56 2 (by decide) (by decide) rfl rfl) rfl rfl hl.1 rfl (lv_room (Nat.le_of_ble_eq_true rfl)) dX4_isSound_190 ⟨Nat.le_of_ble_eq_true rfl, Nat.le_of_ble_eq_true rfl⟩) hX (fun _ h => h) (fun r_ S_51 H locs hw hX => ?_)
                                    obtain ⟨⟨z_52, rfl⟩, hK9⟩ := hw
                                    replace hK := KA_trans hK hK9
                                    refine lv_istore_n (lv' := [(1, .int (bI z_52)), (0, .ref (ad 57)), (2, .int (nI a)), (3, .ref (ad (24 + 5 * a))), (4, .int (nI c9)), (5, .ref (ad (24 + 5 * c9))), (6, .int (nI d9))]) hx hb dX4_isSound_193 rfl hl (by decide) rfl (fun ls hl => ?_)
                                    refine lv_iinc (v := nI (d9 + 1)) (lv' := [(6, .int (nI (d9 + 1))), (1, .int (bI z_52)), (0, .ref (ad 57)), (2, .int (nI a)), (3, .ref (ad (24 + 5 * a))), (4, .int (nI c9)), (5, .ref (ad (24 + 5 * c9)))]) hx hb dX4_isSound_194 hl (k := 6) rfl (nI_1 d9) (by decide) rfl (fun ls hl => ?_)
                                    refine lv_goto (tgt := 167) hx hb dX4_isSound_197 (by decide) ?_
                                    exact ih167  S_51 z_52 (d9 + 1) hK (by omega) _ _ (by omega) hX _ (lv_sub hl [2, 1, 3, 4, 5, 6, 0] rfl)
                            exact loop167 (3 + 1) S_47 z_48 0 hK (by omega) _ _ (by omega) (WX.eqS rfl hX) _ (lv_sub hl [3, 1, 4, 5, 6, 2, 0] rfl)
                    exact loop135 (4 + 1) S2 z2 0 hK (by omega) _ _ (by omega) (WX.eqS rfl hX) _ (lv_sub hl [1, 2, 3, 4, 0] rfl)
                  · skip
                    refine lv_aload_n hx hb dX4_isSound_60 rfl (lv_at hl 0 rfl) ?_
                    refine lv_iload hx hb dX4_isSound_61 (lv_at hl 4 rfl) ?_
                    refine va_csr (va_Run.run (va_runV (As := [.int (nI b9)]) (rest := []) ⟨hx, hb, hml, hown, hts⟩ (m_X4_rowAt l dC dI ad S2 b9 (by omega)) (cwV 1 hts gX4_isSound_X4_rowAt rfl rfl rfl hdX4_rowAt_1 ⟨Nat.le_of_ble_eq_true rfl, Nat.le_of_ble_eq_true rfl⟩) (hX.preTop 57 6 (by decide) (by decide) rfl rfl) rfl rfl hl.1 rfl (lv_room (Nat.le_of_ble_eq_true rfl)) dX4_isSound_63 ⟨Nat.le_of_ble_eq_true rfl, Nat.le_of_ble_eq_true rfl⟩)) (fun k_ hk_ => ?_)
                    rw [hk_]
                    refine lv_astore (lv' := [(5, .ref (ad (3 * b9))), (0, .ref (ad 57)), (1, .int (bI z2)), (2, .int (nI a)), (3, .ref (ad (24 + 5 * a))), (4, .int (nI b9))]) hx hb dX4_isSound_66 hl (by decide) rfl (fun ls hl => ?_)
                    refine lv_aload_n hx hb dX4_isSound_68 rfl (lv_at hl 1 rfl) ?_
                    refine kx_gauditor hx hb hts hin4 hown hX (hts (.fieldLink RX4 31 "Orderlattice" "auditor" "LOrderlattice$Auditor;") (tm 452 (by decide +kernel) rfl)) dX4_isSound_69 ?_
                    refine lv_aload hx hb dX4_isSound_72 (lv_at hl 0 rfl) ?_
                    refine lv_aload_n hx hb dX4_isSound_74 rfl (lv_at hl 4 rfl) ?_
                    refine kx_ci (va_runV (As := [.ref (ad (3 * b9)), .ref (ad (24 + 5 * a))]) (rest := []) ⟨hx, hb, hml, hown, hts⟩ (m_X0_areWaysAgreed l dC dI ad S2 b9 a (by omega) (by omega) hK.1) (cwV 2 hts gX4_isSound_X0_areWaysAgreed rfl rfl rfl hdX0_areWaysAgreed_2 ⟨Nat.le_of_ble_eq_true rfl, Nat.le_of_ble_eq_true rfl⟩) (hX.preTop 56 2 (by decide) (by decide) rfl rfl) rfl rfl hl.1 rfl (lv_room (Nat.le_of_ble_eq_true rfl)) dX4_isSound_75 ⟨Nat.le_of_ble_eq_true rfl, Nat.le_of_ble_eq_true rfl⟩) hX (fun _ h => h) (fun r_ S_53 H locs hw hX => ?_)
                    obtain ⟨⟨z_54, rfl⟩, hK9⟩ := hw
                    replace hK := KA_trans hK hK9
                    refine kb_if_eq (tgt := 124) hx hb dX4_isSound_78 (by decide) (fun k_55 => ?_) (fun k_55 => ?_)
                    · skip
                      refine lv_iconst (v := bI false) hx hb dX4_isSound_124 (by decide) ?_
                      refine lv_istore_n (lv' := [(1, .int (bI false)), (5, .ref (ad (3 * b9))), (0, .ref (ad 57)), (2, .int (nI a)), (3, .ref (ad (24 + 5 * a))), (4, .int (nI b9))]) hx hb dX4_isSound_125 rfl hl (by decide) rfl (fun ls hl => ?_)
                      refine lv_iinc (v := nI (b9 + 1)) (lv' := [(4, .int (nI (b9 + 1))), (1, .int (bI false)), (5, .ref (ad (3 * b9))), (0, .ref (ad 57)), (2, .int (nI a)), (3, .ref (ad (24 + 5 * a)))]) hx hb dX4_isSound_126 hl (k := 5) rfl (nI_1 b9) (by decide) rfl (fun ls hl => ?_)
                      refine lv_goto (tgt := 50) hx hb dX4_isSound_129 (by decide) ?_
                      exact ih50  S_53 false (b9 + 1) hK (by omega) _ _ (by omega) hX _ (lv_sub hl [3, 1, 4, 5, 0] rfl)
                    · skip
                      refine lv_aload_n hx hb dX4_isSound_81 rfl (lv_at hl 1 rfl) ?_
                      refine kx_gauditor hx hb hts hin4 hown hX (hts (.fieldLink RX4 31 "Orderlattice" "auditor" "LOrderlattice$Auditor;") (tm 452 (by decide +kernel) rfl)) dX4_isSound_82 ?_
                      refine lv_aload hx hb dX4_isSound_85 (lv_at hl 0 rfl) ?_
                      refine lv_aload_n hx hb dX4_isSound_87 rfl (lv_at hl 4 rfl) ?_
                      refine kx_ci (va_runV (As := [.ref (ad (3 * b9)), .ref (ad (24 + 5 * a))]) (rest := []) ⟨hx, hb, hml, hown, hts⟩ (m_X0_staysSorted l dC dI ad S_53 b9 a (by omega) (by omega) hK.1) (cwV 2 hts gX4_isSound_X0_staysSorted rfl rfl rfl hdX0_staysSorted_2 ⟨Nat.le_of_ble_eq_true rfl, Nat.le_of_ble_eq_true rfl⟩) (hX.preTop 56 2 (by decide) (by decide) rfl rfl) rfl rfl hl.1 rfl (lv_room (Nat.le_of_ble_eq_true rfl)) dX4_isSound_88 ⟨Nat.le_of_ble_eq_true rfl, Nat.le_of_ble_eq_true rfl⟩) hX (fun _ h => h) (fun r_ S_56 H locs hw hX => ?_)
                      obtain ⟨⟨z_57, rfl⟩, hK9⟩ := hw
                      replace hK := KA_trans hK hK9
                      refine kb_if_eq (tgt := 124) hx hb dX4_isSound_91 (by decide) (fun k_58 => ?_) (fun k_58 => ?_)
                      · skip
                        refine lv_iconst (v := bI false) hx hb dX4_isSound_124 (by decide) ?_
                        refine lv_istore_n (lv' := [(1, .int (bI false)), (5, .ref (ad (3 * b9))), (0, .ref (ad 57)), (2, .int (nI a)), (3, .ref (ad (24 + 5 * a))), (4, .int (nI b9))]) hx hb dX4_isSound_125 rfl hl (by decide) rfl (fun ls hl => ?_)
                        refine lv_iinc (v := nI (b9 + 1)) (lv' := [(4, .int (nI (b9 + 1))), (1, .int (bI false)), (5, .ref (ad (3 * b9))), (0, .ref (ad 57)), (2, .int (nI a)), (3, .ref (ad (24 + 5 * a)))]) hx hb dX4_isSound_126 hl (k := 5) rfl (nI_1 b9) (by decide) rfl (fun ls hl => ?_)
                        refine lv_goto (tgt := 50) hx hb dX4_isSound_129 (by decide) ?_
                        exact ih50  S_56 false (b9 + 1) hK (by omega) _ _ (by omega) hX _ (lv_sub hl [3, 1, 4, 5, 0] rfl)
                      · skip
                        refine lv_aload_n hx hb dX4_isSound_94 rfl (lv_at hl 1 rfl) ?_
                        refine kx_gauditor hx hb hts hin4 hown hX (hts (.fieldLink RX4 31 "Orderlattice" "auditor" "LOrderlattice$Auditor;") (tm 452 (by decide +kernel) rfl)) dX4_isSound_95 ?_
                        refine lv_aload hx hb dX4_isSound_98 (lv_at hl 0 rfl) ?_
                        refine lv_aload_n hx hb dX4_isSound_100 rfl (lv_at hl 4 rfl) ?_
                        refine kx_ci (va_runV (As := [.ref (ad (3 * b9)), .ref (ad (24 + 5 * a))]) (rest := []) ⟨hx, hb, hml, hown, hts⟩ (m_X0_isTurnedAlike l dC dI ad S_56 b9 a (by omega) (by omega) hK.1) (cwV 2 hts gX4_isSound_X0_isTurnedAlike rfl rfl rfl hdX0_isTurnedAlike_2 ⟨Nat.le_of_ble_eq_true rfl, Nat.le_of_ble_eq_true rfl⟩) (hX.preTop 56 2 (by decide) (by decide) rfl rfl) rfl rfl hl.1 rfl (lv_room (Nat.le_of_ble_eq_true rfl)) dX4_isSound_101 ⟨Nat.le_of_ble_eq_true rfl, Nat.le_of_ble_eq_true rfl⟩) hX (fun _ h => h) (fun r_ S_59 H locs hw hX => ?_)
                        obtain ⟨⟨z_60, rfl⟩, hK9⟩ := hw
                        replace hK := KA_trans hK hK9
                        refine kb_if_eq (tgt := 124) hx hb dX4_isSound_104 (by decide) (fun k_61 => ?_) (fun k_61 => ?_)
                        · skip
                          refine lv_iconst (v := bI false) hx hb dX4_isSound_124 (by decide) ?_
                          refine lv_istore_n (lv' := [(1, .int (bI false)), (5, .ref (ad (3 * b9))), (0, .ref (ad 57)), (2, .int (nI a)), (3, .ref (ad (24 + 5 * a))), (4, .int (nI b9))]) hx hb dX4_isSound_125 rfl hl (by decide) rfl (fun ls hl => ?_)
                          refine lv_iinc (v := nI (b9 + 1)) (lv' := [(4, .int (nI (b9 + 1))), (1, .int (bI false)), (5, .ref (ad (3 * b9))), (0, .ref (ad 57)), (2, .int (nI a)), (3, .ref (ad (24 + 5 * a)))]) hx hb dX4_isSound_126 hl (k := 5) rfl (nI_1 b9) (by decide) rfl (fun ls hl => ?_)
                          refine lv_goto (tgt := 50) hx hb dX4_isSound_129 (by decide) ?_
                          exact ih50  S_59 false (b9 + 1) hK (by omega) _ _ (by omega) hX _ (lv_sub hl [3, 1, 4, 5, 0] rfl)
                        · skip
                          refine lv_aload_n hx hb dX4_isSound_107 rfl (lv_at hl 1 rfl) ?_
                          refine kx_gauditor hx hb hts hin4 hown hX (hts (.fieldLink RX4 31 "Orderlattice" "auditor" "LOrderlattice$Auditor;") (tm 452 (by decide +kernel) rfl)) dX4_isSound_108 ?_
                          refine lv_aload hx hb dX4_isSound_111 (lv_at hl 0 rfl) ?_
                          refine lv_aload_n hx hb dX4_isSound_113 rfl (lv_at hl 4 rfl) ?_
                          refine kx_ci (va_runV (As := [.ref (ad (3 * b9)), .ref (ad (24 + 5 * a))]) (rest := []) ⟨hx, hb, hml, hown, hts⟩ (m_X0_isQueuedAlike l dC dI ad S_59 b9 a (by omega) (by omega) hK.1) (cwV 2 hts gX4_isSound_X0_isQueuedAlike rfl rfl rfl hdX0_isQueuedAlike_2 ⟨Nat.le_of_ble_eq_true rfl, Nat.le_of_ble_eq_true rfl⟩) (hX.preTop 56 2 (by decide) (by decide) rfl rfl) rfl rfl hl.1 rfl (lv_room (Nat.le_of_ble_eq_true rfl)) dX4_isSound_114 ⟨Nat.le_of_ble_eq_true rfl, Nat.le_of_ble_eq_true rfl⟩) hX (fun _ h => h) (fun r_ S_62 H locs hw hX => ?_)
                          obtain ⟨⟨z_63, rfl⟩, hK9⟩ := hw
                          replace hK := KA_trans hK hK9
                          refine kb_if_eq (tgt := 124) hx hb dX4_isSound_117 (by decide) (fun k_64 => ?_) (fun k_64 => ?_)
                          · skip
                            refine lv_iconst (v := bI false) hx hb dX4_isSound_124 (by decide) ?_
                            refine lv_istore_n (lv' := [(1, .int (bI false)), (5, .ref (ad (3 * b9))), (0, .ref (ad 57)), (2, .int (nI a)), (3, .ref (ad (24 + 5 * a))), (4, .int (nI b9))]) hx hb dX4_isSound_125 rfl hl (by decide) rfl (fun ls hl => ?_)
                            refine lv_iinc (v := nI (b9 + 1)) (lv' := [(4, .int (nI (b9 + 1))), (1, .int (bI false)), (5, .ref (ad (3 * b9))), (0, .ref (ad 57)), (2, .int (nI a)), (3, .ref (ad (24 + 5 * a)))]) hx hb dX4_isSound_126 hl (k := 5) rfl (nI_1 b9) (by decide) rfl (fun ls hl => ?_)
                            refine lv_goto (tgt := 50) hx hb dX4_isSound_129 (by decide) ?_
                            exact ih50  S_62 false (b9 + 1) hK (by omega) _ _ (by omega) hX _ (lv_sub hl [3, 1, 4, 5, 0] rfl)
                          · skip
                            refine lv_iconst (v := bI true) hx hb dX4_isSound_120 (by decide) ?_
                            refine lv_goto (tgt := 125) hx hb dX4_isSound_121 (by decide) ?_
                            refine lv_istore_n (lv' := [(1, .int (bI true)), (5, .ref (ad (3 * b9))), (0, .ref (ad 57)), (2, .int (nI a)), (3, .ref (ad (24 + 5 * a))), (4, .int (nI b9))]) hx hb dX4_isSound_125 rfl hl (by decide) rfl (fun ls hl => ?_)
                            refine lv_iinc (v := nI (b9 + 1)) (lv' := [(4, .int (nI (b9 + 1))), (1, .int (bI true)), (5, .ref (ad (3 * b9))), (0, .ref (ad 57)), (2, .int (nI a)), (3, .ref (ad (24 + 5 * a)))]) hx hb dX4_isSound_126 hl (k := 5) rfl (nI_1 b9) (by decide) rfl (fun ls hl => ?_)
                            refine lv_goto (tgt := 50) hx hb dX4_isSound_129 (by decide) ?_
                            exact ih50  S_62 true (b9 + 1) hK (by omega) _ _ (by omega) hX _ (lv_sub hl [3, 1, 4, 5, 0] rfl)
            exact loop50 (3 + 1) S1 true 0 hK (by omega) _ _ (by omega) (WX.eqS rfl hX) _ (lv_sub hl [3, 1, 4, 2, 0] rfl)
  exact loop4 (4 + 1) S true 0 hK (by omega) _ _ (by omega) (WX.eqS rfl hX) _ (lv_sub hl [2, 1, 0] rfl)
set_option maxHeartbeats 4000000 in
set_option maxRecDepth 100000 in
theorem m_X4_digest (l : Launch) (dC : Nat → ClassId) (dI : Nat → Nat → Nat) (ad : Nat → Nat) (S : XS) (hI : InvX S) (h5 : ∀ j, j < 4 → (S.2.1 j).2.2.2.2.1 ≤ 5) (hc : S.2.2.1 < 2 ^ 31 ∧ S.2.2.2.1 < 2 ^ 31 ∧ S.2.2.2.2 < 2 ^ 31) : Met l yX4_digest wsX4_digest ({ frames := 6, cells := 0, slots := 0, locals := 155 } : Room) (va_Pc [.ref (ad 57)] (PX dC dI ad S)) (va_Ql (fun r S' => (∃ z, r = mixI (mixSeqs S (mixPairs S (mixOrders S (mixRows S (iterL (fun k d => mixI d (countX S k)) 5 (lN 7842)))))) (bN z)) ∧ KA S S') (PX dC dI ad) (AX ad)) 0 0 (AX ad) := by
  refine Met.ofW (cc := cX4_digest) (maxL := 4) (ret := (some .long)) pl_X4 rfl ?_
  intro p e s m args below meth c s₁ B hml hv
  obtain ⟨rfl, hPX⟩ := hv
  have hx := B.exec
  have hb := B.bytes
  have hr := B.returns
  have hts := atoms_spec (ws := wsX4_digest) B.pre
  have hown : s.vm.findClass RX4 = some m.cls := findClass_of_methodNamed B.named
  have hlocks := B.notSynchronized
  have hX := WX.of hPX
  have hl := lv_entry ([.ref (ad 57)]) (n := 4) (Nat.le_of_ble_eq_true rfl)
  rw [lg_entry_eq]
  generalize (lg_sl ([.ref (ad 57)]) ++ List.replicate (4 - (lg_sl ([.ref (ad 57)])).length) Slot.unset).toArray = ls at hl ⊢
  have hl : lv_has ls 4 [(0, .ref (ad 57))] := hl
  show W p l e ({ frames := 6, cells := 0, slots := 0, locals := 155 } : Room) s m ([.ref (ad 57)]).toArray below meth c s.heap [] 0 0 (MQ below (va_Ql (fun r S' => (∃ z, r = mixI (mixSeqs S (mixPairs S (mixOrders S (mixRows S (iterL (fun k d => mixI d (countX S k)) 5 (lN 7842)))))) (bN z)) ∧ KA S S') (PX dC dI ad) (AX ad)) ([.ref (ad 57)]).toArray s 0 0 (AX ad)) (F0 m 0 ls [])
  refine lv_ldc2 (v := lN 7842) hx hb hown (hts (.constantLong RX4 279 7842) (tm 660 (by decide +kernel) rfl)) dX4_digest_0 ?_
  refine lv_lstore_n (lv' := [(1, .long (lN 7842)), (0, .ref (ad 57))]) hx hb dX4_digest_3 rfl hl (by decide) rfl (fun ls hl => ?_)
  refine lv_iconst (v := nI 0) hx hb dX4_digest_4 (by decide) ?_
  refine lv_istore_n (lv' := [(3, .int (nI 0)), (1, .long (lN 7842)), (0, .ref (ad 57))]) hx hb dX4_digest_5 rfl hl (by decide) rfl (fun ls hl => ?_)
  have loop6 : ∀ (fuel : Nat) (x : Int64) (k : Nat) (hk : k ≤ 5) (hx9 : x = iterL (fun k d => mixI d (countX S k)) k (lN 7842)), 5 - k < fuel → ∀ ls : Array Slot, lv_has ls 4 [(0, .ref (ad 57)), (1, .long x), (3, .int (nI k))] → W p l e ({ frames := 6, cells := 0, slots := 0, locals := 155 } : Room) s m ([.ref (ad 57)]).toArray below meth c s.heap [] 0 0 (MQ below (va_Ql (fun r S' => (∃ z, r = mixI (mixSeqs S (mixPairs S (mixOrders S (mixRows S (iterL (fun k d => mixI d (countX S k)) 5 (lN 7842)))))) (bN z)) ∧ KA S S') (PX dC dI ad) (AX ad)) ([.ref (ad 57)]).toArray s 0 0 (AX ad)) (F0 m 6 ls []) := by
    intro fuel
    induction fuel with
    | zero => intro x k hk hx9 hf; exact absurd hf (Nat.not_lt_zero _)
    | succ fuel ih6 =>
      intro x k hk hx9 hf ls hl
      refine lv_iload_n hx hb dX4_digest_6 rfl (lv_at hl 2 rfl) ?_
      refine lv_iconst (v := nI 5) hx hb dX4_digest_7 (by decide) ?_
      refine kn_icmp_ge (tgt := 27) hx hb (by omega) (by omega) dX4_digest_8 (by decide) (fun k_1 => ?_) (fun k_1 => ?_)
      · skip
        refine lv_aload_n hx hb dX4_digest_27 rfl (lv_at hl 0 rfl) ?_
        refine lv_lload_n hx hb dX4_digest_28 rfl (lv_at hl 1 rfl) ?_
        refine kx_crl (v := mixRows S x) (va_runV (As := [.long x]) (rest := []) ⟨hx, hb, hml, hown, hts⟩ (m_X4_mixedWithRows l dC dI ad S x hI) (cwV 1 hts gX4_digest_X4_mixedWithRows rfl rfl rfl hdX4_mixedWithRows_1 ⟨Nat.le_of_ble_eq_true rfl, Nat.le_of_ble_eq_true rfl⟩) (hX.preTop 57 6 (by decide) (by decide) rfl rfl) rfl rfl hl.1 rfl (lv_room (Nat.le_of_ble_eq_true rfl)) dX4_digest_29 ⟨Nat.le_of_ble_eq_true rfl, Nat.le_of_ble_eq_true rfl⟩) (fun _ h => h) ?_
        refine lv_lstore_n (lv' := [(1, .long (mixRows S x)), (0, .ref (ad 57)), (3, .int (nI k))]) hx hb dX4_digest_32 rfl hl (by decide) rfl (fun ls hl => ?_)
        refine lv_aload_n hx hb dX4_digest_33 rfl (lv_at hl 1 rfl) ?_
        refine lv_lload_n hx hb dX4_digest_34 rfl (lv_at hl 0 rfl) ?_
        refine kx_crl (v := mixOrders S (mixRows S x)) (va_runV (As := [.long (mixRows S x)]) (rest := []) ⟨hx, hb, hml, hown, hts⟩ (m_X4_mixedWithOrders l dC dI ad S (mixRows S x) hI) (cwV 1 hts gX4_digest_X4_mixedWithOrders rfl rfl rfl hdX4_mixedWithOrders_1 ⟨Nat.le_of_ble_eq_true rfl, Nat.le_of_ble_eq_true rfl⟩) (hX.preTop 57 6 (by decide) (by decide) rfl rfl) rfl rfl hl.1 rfl (lv_room (Nat.le_of_ble_eq_true rfl)) dX4_digest_35 ⟨Nat.le_of_ble_eq_true rfl, Nat.le_of_ble_eq_true rfl⟩) (fun _ h => h) ?_
        refine lv_lstore_n (lv' := [(1, .long (mixOrders S (mixRows S x))), (0, .ref (ad 57)), (3, .int (nI k))]) hx hb dX4_digest_38 rfl hl (by decide) rfl (fun ls hl => ?_)
        refine lv_aload_n hx hb dX4_digest_39 rfl (lv_at hl 1 rfl) ?_
        refine lv_lload_n hx hb dX4_digest_40 rfl (lv_at hl 0 rfl) ?_
        refine kx_crl (v := mixPairs S (mixOrders S (mixRows S x))) (va_runV (As := [.long (mixOrders S (mixRows S x))]) (rest := []) ⟨hx, hb, hml, hown, hts⟩ (m_X4_mixedWithPairs l dC dI ad S (mixOrders S (mixRows S x)) hI) (cwV 1 hts gX4_digest_X4_mixedWithPairs rfl rfl rfl hdX4_mixedWithPairs_1 ⟨Nat.le_of_ble_eq_true rfl, Nat.le_of_ble_eq_true rfl⟩) (hX.preTop 57 6 (by decide) (by decide) rfl rfl) rfl rfl hl.1 rfl (lv_room (Nat.le_of_ble_eq_true rfl)) dX4_digest_41 ⟨Nat.le_of_ble_eq_true rfl, Nat.le_of_ble_eq_true rfl⟩) (fun _ h => h) ?_
        refine lv_lstore_n (lv' := [(1, .long (mixPairs S (mixOrders S (mixRows S x)))), (0, .ref (ad 57)), (3, .int (nI k))]) hx hb dX4_digest_44 rfl hl (by decide) rfl (fun ls hl => ?_)
        refine lv_aload_n hx hb dX4_digest_45 rfl (lv_at hl 1 rfl) ?_
        refine lv_lload_n hx hb dX4_digest_46 rfl (lv_at hl 0 rfl) ?_
        refine kx_crl (v := mixSeqs S (mixPairs S (mixOrders S (mixRows S x)))) (va_runV (As := [.long (mixPairs S (mixOrders S (mixRows S x)))]) (rest := []) ⟨hx, hb, hml, hown, hts⟩ (m_X4_mixedWithSequences l dC dI ad S (mixPairs S (mixOrders S (mixRows S x))) hI) (cwV 1 hts gX4_digest_X4_mixedWithSequences rfl rfl rfl hdX4_mixedWithSequences_1 ⟨Nat.le_of_ble_eq_true rfl, Nat.le_of_ble_eq_true rfl⟩) (hX.preTop 57 6 (by decide) (by decide) rfl rfl) rfl rfl hl.1 rfl (lv_room (Nat.le_of_ble_eq_true rfl)) dX4_digest_47 ⟨Nat.le_of_ble_eq_true rfl, Nat.le_of_ble_eq_true rfl⟩) (fun _ h => h) ?_
        refine lv_lstore_n (lv' := [(1, .long (mixSeqs S (mixPairs S (mixOrders S (mixRows S x))))), (0, .ref (ad 57)), (3, .int (nI k))]) hx hb dX4_digest_50 rfl hl (by decide) rfl (fun ls hl => ?_)
        refine lv_lload_n hx hb dX4_digest_51 rfl (lv_at hl 0 rfl) ?_
        refine lv_aload_n hx hb dX4_digest_52 rfl (lv_at hl 1 rfl) ?_
        refine kx_ci (va_runV (As := []) (rest := [.long (mixSeqs S (mixPairs S (mixOrders S (mixRows S x))))]) ⟨hx, hb, hml, hown, hts⟩ (m_X4_isSound l dC dI ad S hI h5) (cwV 0 hts gX4_digest_X4_isSound rfl rfl rfl hdX4_isSound_0 ⟨Nat.le_of_ble_eq_true rfl, Nat.le_of_ble_eq_true rfl⟩) (hX.preTop 57 6 (by decide) (by decide) rfl rfl) rfl rfl hl.1 rfl (lv_room (Nat.le_of_ble_eq_true rfl)) dX4_digest_53 ⟨Nat.le_of_ble_eq_true rfl, Nat.le_of_ble_eq_true rfl⟩) hX (fun _ h => h) (fun r_ S_2 H locs hw hX => ?_)
        obtain ⟨⟨z_3, rfl⟩, hK⟩ := hw
        refine kb_if_eq (tgt := 63) hx hb dX4_digest_56 (by decide) (fun k_4 => ?_) (fun k_4 => ?_)
        · skip
          have hz := k_4
          refine lv_iconst (v := nI 0) hx hb dX4_digest_63 (by decide) ?_
          refine kx_crl (v := mixI (mixSeqs S (mixPairs S (mixOrders S (mixRows S x)))) 0) (va_runS (As := [.long (mixSeqs S (mixPairs S (mixOrders S (mixRows S x)))), .int (nI 0)]) (rest := []) ⟨hx, hb, hml, hown, hts⟩ (m_X4_mixed l dC dI ad S_2 (mixSeqs S (mixPairs S (mixOrders S (mixRows S x)))) 0 (by omega)) (va_cwS 2 hts gX4_digest_X4_mixed rfl rfl rfl hdX4_mixed_2.2 ⟨Nat.le_of_ble_eq_true rfl, Nat.le_of_ble_eq_true rfl⟩) hX.preS rfl rfl hl.1 rfl (lv_room (Nat.le_of_ble_eq_true rfl)) dX4_digest_64 ⟨Nat.le_of_ble_eq_true rfl, Nat.le_of_ble_eq_true rfl⟩) (fun _ h => h) ?_
          exact W.lret (v := mixI (mixSeqs S (mixPairs S (mixOrders S (mixRows S x)))) 0) hx hb hr (fun t9 ht9 hW9 => ⟨⟨_, S_2, rfl, ⟨⟨false, by rw [hx9, show k = 5 by omega]; rfl⟩, hK⟩, hX.P ht9 hW9⟩, hX.2.2.2.F ht9⟩) hX.2.2.2.2.2 dX4_digest_67
        · skip
          have hz := k_4
          refine lv_iconst (v := nI 1) hx hb dX4_digest_59 (by decide) ?_
          refine lv_goto (tgt := 64) hx hb dX4_digest_60 (by decide) ?_
          refine kx_crl (v := mixI (mixSeqs S (mixPairs S (mixOrders S (mixRows S x)))) 1) (va_runS (As := [.long (mixSeqs S (mixPairs S (mixOrders S (mixRows S x)))), .int (nI 1)]) (rest := []) ⟨hx, hb, hml, hown, hts⟩ (m_X4_mixed l dC dI ad S_2 (mixSeqs S (mixPairs S (mixOrders S (mixRows S x)))) 1 (by omega)) (va_cwS 2 hts gX4_digest_X4_mixed rfl rfl rfl hdX4_mixed_2.2 ⟨Nat.le_of_ble_eq_true rfl, Nat.le_of_ble_eq_true rfl⟩) hX.preS rfl rfl hl.1 rfl (lv_room (Nat.le_of_ble_eq_true rfl)) dX4_digest_64 ⟨Nat.le_of_ble_eq_true rfl, Nat.le_of_ble_eq_true rfl⟩) (fun _ h => h) ?_
          exact W.lret (v := mixI (mixSeqs S (mixPairs S (mixOrders S (mixRows S x)))) 1) hx hb hr (fun t9 ht9 hW9 => ⟨⟨_, S_2, rfl, ⟨⟨true, by rw [hx9, show k = 5 by omega]; rfl⟩, hK⟩, hX.P ht9 hW9⟩, hX.2.2.2.F ht9⟩) hX.2.2.2.2.2 dX4_digest_67
      · skip
        refine lv_lload_n hx hb dX4_digest_11 rfl (lv_at hl 1 rfl) ?_
        refine lv_aload_n hx hb dX4_digest_12 rfl (lv_at hl 0 rfl) ?_
        refine lv_iload_n hx hb dX4_digest_13 rfl (lv_at hl 2 rfl) ?_
        have hcx : countX S k < 2 ^ 31 := countX_lt hI hc k
        refine kx_cr (v := nI (countX S k)) (va_runV (As := [.int (nI k)]) (rest := [.long x]) ⟨hx, hb, hml, hown, hts⟩ (m_X4_count l dC dI ad S k (by omega) hI) (cwV 1 hts gX4_digest_X4_count rfl rfl rfl hdX4_count_1 ⟨Nat.le_of_ble_eq_true rfl, Nat.le_of_ble_eq_true rfl⟩) (hX.preTop 57 6 (by decide) (by decide) rfl rfl) rfl rfl hl.1 rfl (lv_room (Nat.le_of_ble_eq_true rfl)) dX4_digest_14 ⟨Nat.le_of_ble_eq_true rfl, Nat.le_of_ble_eq_true rfl⟩) (fun _ h => h) ?_
        refine kx_crl (v := mixI x (countX S k)) (va_runS (As := [.long x, .int (nI (countX S k))]) (rest := []) ⟨hx, hb, hml, hown, hts⟩ (m_X4_mixed l dC dI ad S x (countX S k) (by omega)) (va_cwS 2 hts gX4_digest_X4_mixed rfl rfl rfl hdX4_mixed_2.2 ⟨Nat.le_of_ble_eq_true rfl, Nat.le_of_ble_eq_true rfl⟩) hX.preS rfl rfl hl.1 rfl (lv_room (Nat.le_of_ble_eq_true rfl)) dX4_digest_17 ⟨Nat.le_of_ble_eq_true rfl, Nat.le_of_ble_eq_true rfl⟩) (fun _ h => h) ?_
        refine lv_lstore_n (lv' := [(1, .long (mixI x (countX S k))), (0, .ref (ad 57)), (3, .int (nI k))]) hx hb dX4_digest_20 rfl hl (by decide) rfl (fun ls hl => ?_)
        refine lv_iinc (v := nI (k + 1)) (lv' := [(3, .int (nI (k + 1))), (1, .long (mixI x (countX S k))), (0, .ref (ad 57))]) hx hb dX4_digest_21 hl (k := 2) rfl (nI_1 k) (by decide) rfl (fun ls hl => ?_)
        refine lv_goto (tgt := 6) hx hb dX4_digest_24 (by decide) ?_
        exact ih6  (mixI x (countX S k)) (k + 1) (by omega) (by rw [hx9]; rfl) (by omega) _ (lv_sub hl [2, 1, 0] rfl)
  exact loop6 (5 + 1) (lN 7842) 0 (by omega) rfl (by omega) _ (lv_sub hl [2, 1, 0] rfl)
