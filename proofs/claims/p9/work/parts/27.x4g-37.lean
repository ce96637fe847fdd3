section
/-! product, tellApart, isSound, digest -/
/-- the product of orders j and j2, made in the spare order -/
def prodO (S : XS) (j j2 : Nat) : OrdS := newO (apn (apn ((S.2.1 4).1) ((S.2.1 j).1) 0 ((S.2.1 j).2.2.2.2.1)) (S.2.1 j2).1 (S.2.1 j).2.2.2.2.1 (S.2.1 j2).2.2.2.2.1) (apn (apn ((S.2.1 4).2.1) ((S.2.1 j).2.1) 0 ((S.2.1 j).2.2.2.2.1)) (S.2.1 j2).2.1 (S.2.1 j).2.2.2.2.1 (S.2.1 j2).2.2.2.2.1) ((S.2.1 j).2.2.2.2.1 + (S.2.1 j2).2.2.2.2.1) (S.2.1 4).2.2.1 (S.2.1 4).2.2.2.1
def copyO (o p : OrdS) : OrdS := newO (apn o.1 p.1 0 p.2.2.2.2.1) (apn o.2.1 p.2.1 0 p.2.2.2.2.1) p.2.2.2.2.1 o.2.2.1 o.2.2.2.1
theorem prodO_ok {S : XS} (hI : InvX S) {j j2 : Nat} (hj : j < 4) (hj2 : j2 < 4) (h : (S.2.1 j).2.2.2.2.1 + (S.2.1 j2).2.2.2.2.1 ≤ 10) : ordOK (prodO S j j2) :=
  newO_ok (stepOK_apn2 (o := S.2.1 4) (o2 := S.2.1 j) (o3 := S.2.1 j2) (D := fun _ => false) (c := fun _ => 0) (r := fun _ => 0) (cl := 0) (hI.2 4 (by decide)).1 (hI.2 j (by omega)).1 (hI.2 j2 (by omega)).1 h)
theorem coarse_lt (cl : Nat → Nat) (p : Nat → Bool) : ∀ n, n ≤ 8 → (coarse cl p n).2 < 8
  | 0, _ => Nat.zero_lt_succ _
  | n + 1, h => by
    have ih := coarse_lt cl p n (by omega)
    rw [coarse]
    split
    · show n < 8; omega
    · exact ih
theorem KA_ref {S : XS} (h : InvX S) : KA S S := KA_refl h
theorem sumN_lt {f : Nat → Nat} {c : Nat} : ∀ n, (∀ k, k < n → f k ≤ c) → sumN f n ≤ n * c
  | 0, _ => Nat.zero_le _
  | n + 1, h => by
    have ih := sumN_lt n (fun k hk => h k (by omega))
    have := h n (by omega)
    rw [sumN, Nat.add_mul, Nat.one_mul]
    omega
theorem countX_lt {S : XS} (hI : InvX S) (hc : S.2.2.1 < 2 ^ 31 ∧ S.2.2.2.1 < 2 ^ 31 ∧ S.2.2.2.2 < 2 ^ 31) (k : Nat) : countX S k < 2 ^ 31 := by
  have h1 := sumN_lt (f := fun k => (S.1 k).2.2) (c := 16) 3 (fun k hk => (hI.1 k (by omega)).1)
  have h2 := sumN_lt (f := fun k => (S.2.1 k).2.2.2.2.1) (c := 10) 4 (fun k hk => (hI.2 k (by omega)).1.1)
  unfold countX
  split <;> omega
set_option maxHeartbeats 4000000 in
set_option maxRecDepth 100000 in
theorem m_X4_product (l : Launch) (dC : Nat → ClassId) (dI : Nat → Nat → Nat) (ad : Nat → Nat) (S : XS) (j : Nat) (j2 : Nat) (j3 : Nat) (hj : j < 4) (hj2 : j2 < 4) (hj3 : j3 < 4) (hI : InvX S) : Met l yX4_product wsX4_product ({ frames := 4, cells := 0, slots := 0, locals := 91 } : Room) (va_Pc [.ref (ad 57), .int (nI j), .int (nI j2), .int (nI j3)] (PX dC dI ad S)) (va_Qi (fun r S' => ((S.2.1 j).2.2.2.2.1 + (S.2.1 j2).2.2.2.2.1 ≤ 5 ∧ r = nI (copyO (S.2.1 j3) (prodO S j j2)).2.2.2.2.2 ∧ S' = xO (xO S 4 (prodO S j j2)) j3 (copyO (S.2.1 j3) (prodO S j j2))) ∨ (5 < (S.2.1 j).2.2.2.2.1 + (S.2.1 j2).2.2.2.2.1 ∧ r = -9 ∧ S' = refT S)) (PX dC dI ad) (AX ad)) 0 0 (AX ad) := by
  refine Met.ofW (cc := cX4_product) (maxL := 7) (ret := (some .int)) pl_X4 rfl ?_
  intro p e s m args below meth c s₁ B hml hv
  obtain ⟨rfl, hPX⟩ := hv
  have hx := B.exec
  have hb := B.bytes
  have hr := B.returns
  have hts := atoms_spec (ws := wsX4_product) B.pre
  have hown : s.vm.findClass RX4 = some m.cls := findClass_of_methodNamed B.named
  have hlocks := B.notSynchronized
  have hin4 : ∀ w ∈ u_ws RX4 TX4 9, w ∈ wsX4_product := tu 1328 (by decide +kernel) rfl
  have hX := WX.of hPX
  have hl := lv_entry ([.ref (ad 57), .int (nI j), .int (nI j2), .int (nI j3)]) (n := 7) (Nat.le_of_ble_eq_true rfl)
  rw [lg_entry_eq]
  generalize (lg_sl ([.ref (ad 57), .int (nI j), .int (nI j2), .int (nI j3)]) ++ List.replicate (7 - (lg_sl ([.ref (ad 57), .int (nI j), .int (nI j2), .int (nI j3)])).length) Slot.unset).toArray = ls at hl ⊢
  have hl : lv_has ls 7 [(0, .ref (ad 57)), (1, .int (nI j)), (2, .int (nI j2)), (3, .int (nI j3))] := hl
  show W p l e ({ frames := 4, cells := 0, slots := 0, locals := 91 } : Room) s m ([.ref (ad 57), .int (nI j), .int (nI j2), .int (nI j3)]).toArray below meth c s.heap [] 0 0 (MQ below (va_Qi (fun r S' => ((S.2.1 j).2.2.2.2.1 + (S.2.1 j2).2.2.2.2.1 ≤ 5 ∧ r = nI (copyO (S.2.1 j3) (prodO S j j2)).2.2.2.2.2 ∧ S' = xO (xO S 4 (prodO S j j2)) j3 (copyO (S.2.1 j3) (prodO S j j2))) ∨ (5 < (S.2.1 j).2.2.2.2.1 + (S.2.1 j2).2.2.2.2.1 ∧ r = -9 ∧ S' = refT S)) (PX dC dI ad) (AX ad)) ([.ref (ad 57), .int (nI j), .int (nI j2), .int (nI j3)]).toArray s 0 0 (AX ad)) (F0 m 0 ls [])
  have hn := (hI.2 j (by omega)).1.1
  have hn2 := (hI.2 j2 (by omega)).1.1
  refine lv_aload_n hx hb dX4_product_0 rfl (lv_at hl 0 rfl) ?_
  refine lv_iload_n hx hb dX4_product_1 rfl (lv_at hl 1 rfl) ?_
  refine va_csr (va_Run.run (va_runV (As := [.int (nI j)]) (rest := []) ⟨hx, hb, hml, hown, hts⟩ (m_X4_orderAt l dC dI ad S j (by omega)) (cwV 1 hts gX4_product_X4_orderAt rfl rfl rfl hdX4_orderAt_1 ⟨Nat.le_of_ble_eq_true rfl, Nat.le_of_ble_eq_true rfl⟩) (hX.preTop 57 6 (by decide) (by decide) rfl rfl) rfl rfl hl.1 rfl (lv_room (Nat.le_of_ble_eq_true rfl)) dX4_product_2 ⟨Nat.le_of_ble_eq_true rfl, Nat.le_of_ble_eq_true rfl⟩)) (fun k_ hk_ => ?_)
  rw [hk_]
  refine lv_astore (lv' := [(4, .ref (ad (24 + 5 * j))), (0, .ref (ad 57)), (1, .int (nI j)), (2, .int (nI j2)), (3, .int (nI j3))]) hx hb dX4_product_5 hl (by decide) rfl (fun ls hl => ?_)
  refine lv_aload_n hx hb dX4_product_7 rfl (lv_at hl 1 rfl) ?_
  refine lv_iload_n hx hb dX4_product_8 rfl (lv_at hl 3 rfl) ?_
  refine va_csr (va_Run.run (va_runV (As := [.int (nI j2)]) (rest := []) ⟨hx, hb, hml, hown, hts⟩ (m_X4_orderAt l dC dI ad S j2 (by omega)) (cwV 1 hts gX4_product_X4_orderAt rfl rfl rfl hdX4_orderAt_1 ⟨Nat.le_of_ble_eq_true rfl, Nat.le_of_ble_eq_true rfl⟩) (hX.preTop 57 6 (by decide) (by decide) rfl rfl) rfl rfl hl.1 rfl (lv_room (Nat.le_of_ble_eq_true rfl)) dX4_product_9 ⟨Nat.le_of_ble_eq_true rfl, Nat.le_of_ble_eq_true rfl⟩)) (fun k_ hk_ => ?_)
  rw [hk_]
  refine lv_astore (lv' := [(5, .ref (ad (24 + 5 * j2))), (4, .ref (ad (24 + 5 * j))), (0, .ref (ad 57)), (1, .int (nI j)), (2, .int (nI j2)), (3, .int (nI j3))]) hx hb dX4_product_12 hl (by decide) rfl (fun ls hl => ?_)
  refine lv_aload_n hx hb dX4_product_14 rfl (lv_at hl 2 rfl) ?_
  refine lv_iload_n hx hb dX4_product_15 rfl (lv_at hl 5 rfl) ?_
  refine va_csr (va_Run.run (va_runV (As := [.int (nI j3)]) (rest := []) ⟨hx, hb, hml, hown, hts⟩ (m_X4_orderAt l dC dI ad S j3 (by omega)) (cwV 1 hts gX4_product_X4_orderAt rfl rfl rfl hdX4_orderAt_1 ⟨Nat.le_of_ble_eq_true rfl, Nat.le_of_ble_eq_true rfl⟩) (hX.preTop 57 6 (by decide) (by decide) rfl rfl) rfl rfl hl.1 rfl (lv_room (Nat.le_of_ble_eq_true rfl)) dX4_product_16 ⟨Nat.le_of_ble_eq_true rfl, Nat.le_of_ble_eq_true rfl⟩)) (fun k_ hk_ => ?_)
  rw [hk_]
  refine lv_astore (lv' := [(6, .ref (ad (24 + 5 * j3))), (5, .ref (ad (24 + 5 * j2))), (4, .ref (ad (24 + 5 * j))), (0, .ref (ad 57)), (1, .int (nI j)), (2, .int (nI j2)), (3, .int (nI j3))]) hx hb dX4_product_19 hl (by decide) rfl (fun ls hl => ?_)
  refine lv_aload hx hb dX4_product_21 (lv_at hl 2 rfl) ?_
  refine kx_cr (v := nI ((S.2.1 j).2.2.2.2.1)) (va_runV (As := []) (rest := []) ⟨hx, hb, hml, hown, hts⟩ (m_X1_length l dC dI ad S j  (by omega)) (cwV 0 hts gX4_product_X1_length rfl rfl rfl hdX1_length_0 ⟨Nat.le_of_ble_eq_true rfl, Nat.le_of_ble_eq_true rfl⟩) (hX.preOrd (by omega)) rfl rfl hl.1 rfl (lv_room (Nat.le_of_ble_eq_true rfl)) dX4_product_23 ⟨Nat.le_of_ble_eq_true rfl, Nat.le_of_ble_eq_true rfl⟩) (fun _ h => h) ?_
  refine lv_aload hx hb dX4_product_26 (lv_at hl 1 rfl) ?_
  refine kx_cr (v := nI ((S.2.1 j2).2.2.2.2.1)) (va_runV (As := []) (rest := [.int (nI ((S.2.1 j).2.2.2.2.1))]) ⟨hx, hb, hml, hown, hts⟩ (m_X1_length l dC dI ad S j2  (by omega)) (cwV 0 hts gX4_product_X1_length rfl rfl rfl hdX1_length_0 ⟨Nat.le_of_ble_eq_true rfl, Nat.le_of_ble_eq_true rfl⟩) (hX.preOrd (by omega)) rfl rfl hl.1 rfl (lv_room (Nat.le_of_ble_eq_true rfl)) dX4_product_28 ⟨Nat.le_of_ble_eq_true rfl, Nat.le_of_ble_eq_true rfl⟩) (fun _ h => h) ?_
  refine kn_iadd hx hb dX4_product_31 ?_
  refine lv_iconst (v := nI 5) hx hb dX4_product_32 (by decide) ?_
  refine kn_icmp_le (tgt := 41) hx hb (by omega) (by omega) dX4_product_33 (by decide) (fun k_1 => ?_) (fun k_1 => ?_)
  · skip
    have hc := k_1
    refine lv_aload_n hx hb dX4_product_41 rfl (lv_at hl 3 rfl) ?_
    refine kx_gspareOrder hx hb hts hin4 hown hX (hts (.fieldLink RX4 41 "Orderlattice" "spareOrder" "LOrderlattice$Order;") (tm 454 (by decide +kernel) rfl)) dX4_product_42 ?_
    refine lv_aload hx hb dX4_product_45 (lv_at hl 2 rfl) ?_
    refine lv_aload hx hb dX4_product_47 (lv_at hl 1 rfl) ?_
    refine kx_cv (va_runV (As := [.ref (ad (24 + 5 * j)), .ref (ad (24 + 5 * j2))]) (rest := []) ⟨hx, hb, hml, hown, hts⟩ (m_X1_becomeProductOf l dC dI ad S 4 j j2 (by omega) (by omega) (by omega) (hI.2 4 (by decide)).1 (hI.2 j (by omega)).1 (hI.2 j2 (by omega)).1 (by omega) (by omega) (by omega)) (cwV 2 hts gX4_product_X1_becomeProductOf rfl rfl rfl hdX1_becomeProductOf_2 ⟨Nat.le_of_ble_eq_true rfl, Nat.le_of_ble_eq_true rfl⟩) (hX.preOrd (by omega)) rfl rfl hl.1 rfl (lv_room (Nat.le_of_ble_eq_true rfl)) dX4_product_49 ⟨Nat.le_of_ble_eq_true rfl, Nat.le_of_ble_eq_true rfl⟩) hX (fun _ h => h) (fun S_ H locs hw hX => ?_)
    subst hw
    obtain ⟨S2, e_S2⟩ : ∃ z, z = (xO S 4 (apn (apn ((S.2.1 4).1) ((S.2.1 j).1) 0 ((S.2.1 j).2.2.2.2.1)) ((S.2.1 j2).1) ((S.2.1 j).2.2.2.2.1) ((S.2.1 j2).2.2.2.2.1), apn (apn ((S.2.1 4).2.1) ((S.2.1 j).2.1) 0 ((S.2.1 j).2.2.2.2.1)) ((S.2.1 j2).2.1) ((S.2.1 j).2.2.2.2.1) ((S.2.1 j2).2.2.2.2.1), ovl (codeOf (apn (apn ((S.2.1 4).1) ((S.2.1 j).1) 0 ((S.2.1 j).2.2.2.2.1)) ((S.2.1 j2).1) ((S.2.1 j).2.2.2.2.1) ((S.2.1 j2).2.2.2.2.1)) (apn (apn ((S.2.1 4).2.1) ((S.2.1 j).2.1) 0 ((S.2.1 j).2.2.2.2.1)) ((S.2.1 j2).2.1) ((S.2.1 j).2.2.2.2.1) ((S.2.1 j2).2.2.2.2.1)) ((S.2.1 j).2.2.2.2.1 + (S.2.1 j2).2.2.2.2.1)) ((S.2.1 4).2.2.1) 16, ovl (rankC (codeOf (apn (apn ((S.2.1 4).1) ((S.2.1 j).1) 0 ((S.2.1 j).2.2.2.2.1)) ((S.2.1 j2).1) ((S.2.1 j).2.2.2.2.1) ((S.2.1 j2).2.2.2.2.1)) (apn (apn ((S.2.1 4).2.1) ((S.2.1 j).2.1) 0 ((S.2.1 j).2.2.2.2.1)) ((S.2.1 j2).2.1) ((S.2.1 j).2.2.2.2.1) ((S.2.1 j2).2.2.2.2.1)) ((S.2.1 j).2.2.2.2.1 + (S.2.1 j2).2.2.2.2.1))) ((S.2.1 4).2.2.2.1) 16, (S.2.1 j).2.2.2.2.1 + (S.2.1 j2).2.2.2.2.1, classC (codeOf (apn (apn ((S.2.1 4).1) ((S.2.1 j).1) 0 ((S.2.1 j).2.2.2.2.1)) ((S.2.1 j2).1) ((S.2.1 j).2.2.2.2.1) ((S.2.1 j2).2.2.2.2.1)) (apn (apn ((S.2.1 4).2.1) ((S.2.1 j).2.1) 0 ((S.2.1 j).2.2.2.2.1)) ((S.2.1 j2).2.1) ((S.2.1 j).2.2.2.2.1) ((S.2.1 j2).2.2.2.2.1)) ((S.2.1 j).2.2.2.2.1 + (S.2.1 j2).2.2.2.2.1)))) := ⟨_, rfl⟩
    replace hX := WX.eqS e_S2.symm hX
    have h4 : S2.2.1 4 = prodO S j j2 := by rw [e_S2, xO_ord]; rfl
    have e9 : S2 = xO S 4 (prodO S j j2) := e_S2
    have hj3 : S2.2.1 j3 = S.2.1 j3 := by rw [e_S2, xO_ne _ _ (show j3 ≠ 4 by omega)]
    refine lv_aload hx hb dX4_product_52 (lv_at hl 0 rfl) ?_
    refine lv_aload_n hx hb dX4_product_54 rfl (lv_at hl 3 rfl) ?_
    refine kx_gspareOrder hx hb hts hin4 hown hX (hts (.fieldLink RX4 41 "Orderlattice" "spareOrder" "LOrderlattice$Order;") (tm 454 (by decide +kernel) rfl)) dX4_product_55 ?_
    refine kx_cv (va_runV (As := [.ref (ad (24 + 5 * 4))]) (rest := []) ⟨hx, hb, hml, hown, hts⟩ (m_X1_becomeCopyOf l dC dI ad S2 j3 4 (by omega) (by decide) (by rw [hj3]; exact (hI.2 j3 (by omega)).1) (by rw [h4]; exact (prodO_ok hI hj hj2 (by omega)).1)) (cwV 1 hts gX4_product_X1_becomeCopyOf rfl rfl rfl hdX1_becomeCopyOf_1 ⟨Nat.le_of_ble_eq_true rfl, Nat.le_of_ble_eq_true rfl⟩) (hX.preOrd (by omega)) rfl rfl hl.1 rfl (lv_room (Nat.le_of_ble_eq_true rfl)) dX4_product_58 ⟨Nat.le_of_ble_eq_true rfl, Nat.le_of_ble_eq_true rfl⟩) hX (fun _ h => h) (fun S_ H locs hw hX => ?_)
    subst hw
    refine lv_aload hx hb dX4_product_61 (lv_at hl 0 rfl) ?_
    refine kx_cr (v := nI (classC (codeOf (apn ((S2.2.1 j3).1) ((S2.2.1 4).1) 0 ((S2.2.1 4).2.2.2.2.1)) (apn ((S2.2.1 j3).2.1) ((S2.2.1 4).2.1) 0 ((S2.2.1 4).2.2.2.2.1)) ((S2.2.1 4).2.2.2.2.1)))) (va_runV (As := []) (rest := []) ⟨hx, hb, hml, hown, hts⟩ (m_X1_classCount l dC dI ad (xO S2 j3 (apn ((S2.2.1 j3).1) ((S2.2.1 4).1) 0 ((S2.2.1 4).2.2.2.2.1), apn ((S2.2.1 j3).2.1) ((S2.2.1 4).2.1) 0 ((S2.2.1 4).2.2.2.2.1), ovl (codeOf (apn ((S2.2.1 j3).1) ((S2.2.1 4).1) 0 ((S2.2.1 4).2.2.2.2.1)) (apn ((S2.2.1 j3).2.1) ((S2.2.1 4).2.1) 0 ((S2.2.1 4).2.2.2.2.1)) ((S2.2.1 4).2.2.2.2.1)) ((S2.2.1 j3).2.2.1) 16, ovl (rankC (codeOf (apn ((S2.2.1 j3).1) ((S2.2.1 4).1) 0 ((S2.2.1 4).2.2.2.2.1)) (apn ((S2.2.1 j3).2.1) ((S2.2.1 4).2.1) 0 ((S2.2.1 4).2.2.2.2.1)) ((S2.2.1 4).2.2.2.2.1))) ((S2.2.1 j3).2.2.2.1) 16, (S2.2.1 4).2.2.2.2.1, classC (codeOf (apn ((S2.2.1 j3).1) ((S2.2.1 4).1) 0 ((S2.2.1 4).2.2.2.2.1)) (apn ((S2.2.1 j3).2.1) ((S2.2.1 4).2.1) 0 ((S2.2.1 4).2.2.2.2.1)) ((S2.2.1 4).2.2.2.2.1)))) j3  (by omega)) (cwV 0 hts gX4_product_X1_classCount rfl rfl rfl hdX1_classCount_0 ⟨Nat.le_of_ble_eq_true rfl, Nat.le_of_ble_eq_true rfl⟩) (hX.preOrd (by omega)) rfl rfl hl.1 rfl (lv_room (Nat.le_of_ble_eq_true rfl)) dX4_product_63 ⟨Nat.le_of_ble_eq_true rfl, Nat.le_of_ble_eq_true rfl⟩) (fun _ h => by rw [h, xO_ord]) ?_
    exact W.iret (v := nI (classC (codeOf (apn ((S2.2.1 j3).1) ((S2.2.1 4).1) 0 ((S2.2.1 4).2.2.2.2.1)) (apn ((S2.2.1 j3).2.1) ((S2.2.1 4).2.1) 0 ((S2.2.1 4).2.2.2.2.1)) ((S2.2.1 4).2.2.2.2.1)))) hx hb hr (fun t9 ht9 hW9 => ⟨⟨_, (xO S2 j3 (apn ((S2.2.1 j3).1) ((S2.2.1 4).1) 0 ((S2.2.1 4).2.2.2.2.1), apn ((S2.2.1 j3).2.1) ((S2.2.1 4).2.1) 0 ((S2.2.1 4).2.2.2.2.1), ovl (codeOf (apn ((S2.2.1 j3).1) ((S2.2.1 4).1) 0 ((S2.2.1 4).2.2.2.2.1)) (apn ((S2.2.1 j3).2.1) ((S2.2.1 4).2.1) 0 ((S2.2.1 4).2.2.2.2.1)) ((S2.2.1 4).2.2.2.2.1)) ((S2.2.1 j3).2.2.1) 16, ovl (rankC (codeOf (apn ((S2.2.1 j3).1) ((S2.2.1 4).1) 0 ((S2.2.1 4).2.2.2.2.1)) (apn ((S2.2.1 j3).2.1) ((S2.2.1 4).2.1) 0 ((S2.2.1 4).2.2.2.2.1)) ((S2.2.1 4).2.2.2.2.1))) ((S2.2.1 j3).2.2.2.1) 16, (S2.2.1 4).2.2.2.2.1, classC (codeOf (apn ((S2.2.1 j3).1) ((S2.2.1 4).1) 0 ((S2.2.1 4).2.2.2.2.1)) (apn ((S2.2.1 j3).2.1) ((S2.2.1 4).2.1) 0 ((S2.2.1 4).2.2.2.2.1)) ((S2.2.1 4).2.2.2.2.1)))), rfl, (Or.inl ⟨hc, by rw [← hj3, ← h4]; rfl, by rw [← e9, ← hj3, ← h4]; rfl⟩), hX.P ht9 hW9⟩, hX.2.2.2.F ht9⟩) hX.2.2.2.2.2 dX4_product_66
  · skip
    have hc := k_1
    refine lv_aload_n hx hb dX4_product_36 rfl (lv_at hl 3 rfl) ?_
    refine kx_ci (va_runV (As := []) (rest := []) ⟨hx, hb, hml, hown, hts⟩ (m_X4_refuse l dC dI ad S) (cwV 0 hts gX4_product_X4_refuse rfl rfl rfl hdX4_refuse_0 ⟨Nat.le_of_ble_eq_true rfl, Nat.le_of_ble_eq_true rfl⟩) (hX.preTop 57 6 (by decide) (by decide) rfl rfl) rfl rfl hl.1 rfl (lv_room (Nat.le_of_ble_eq_true rfl)) dX4_product_37 ⟨Nat.le_of_ble_eq_true rfl, Nat.le_of_ble_eq_true rfl⟩) hX (fun _ h => h) (fun r_ S_ H locs hw hX => ?_)
    obtain ⟨rfl, rfl⟩ := hw
    exact W.iret (v := (-9)) hx hb hr (fun t9 ht9 hW9 => ⟨⟨_, (xN S (S.2.2.1, S.2.2.2.1 + 1, S.2.2.2.2)), rfl, (Or.inr ⟨by omega, rfl, rfl⟩), hX.P ht9 hW9⟩, hX.2.2.2.F ht9⟩) hX.2.2.2.2.2 dX4_product_40
set_option maxHeartbeats 4000000 in
set_option maxRecDepth 100000 in
theorem m_X4_tellApart (l : Launch) (dC : Nat → ClassId) (dI : Nat → Nat → Nat) (ad : Nat → Nat) (S : XS) (j : Nat) (v : Nat) (v2 : Nat) (hj : j < 4) (hv : v < 16) (hv2 : v2 < 16) (hI : InvX S) : Met l yX4_tellApart wsX4_tellApart ({ frames := 5, cells := 0, slots := 0, locals := 117 } : Room) (va_Pc [.ref (ad 57), .int (nI j), .int (nI v), .int (nI v2)] (PX dC dI ad S)) (va_Qi (fun r S' => (v ≠ v2 ∧ (S.2.1 j).2.2.1 v = (S.2.1 j).2.2.1 v2 ∧ (S.2.1 j).2.2.2.2.1 < 5 ∧ r = nI (coarse (coarseC (S.2.1 j)) (keyApart v v2) 8).2 ∧ ∃ o4, ordOK o4 ∧ S' = xO (xO S 4 o4) j (newO (va_up (S.2.1 j).1 (S.2.1 j).2.2.2.2.1 (coarse (coarseC (S.2.1 j)) (keyApart v v2) 8).2) (va_up (S.2.1 j).2.1 (S.2.1 j).2.2.2.2.1 false) ((S.2.1 j).2.2.2.2.1 + 1) (S.2.1 j).2.2.1 (S.2.1 j).2.2.2.1)) ∨ ((v = v2 ∨ (S.2.1 j).2.2.1 v ≠ (S.2.1 j).2.2.1 v2 ∨ 5 ≤ (S.2.1 j).2.2.2.2.1) ∧ r = -9 ∧ S' = refT S)) (PX dC dI ad) (AX ad)) 0 0 (AX ad) := by
  refine Met.ofW (cc := cX4_tellApart) (maxL := 6) (ret := (some .int)) pl_X4 rfl ?_
  intro p e s m args below meth c s₁ B hml hv
  obtain ⟨rfl, hPX⟩ := hv
  have hx := B.exec
  have hb := B.bytes
  have hr := B.returns
  have hts := atoms_spec (ws := wsX4_tellApart) B.pre
  have hown : s.vm.findClass RX4 = some m.cls := findClass_of_methodNamed B.named
  have hlocks := B.notSynchronized
  have hX := WX.of hPX
  have hl := lv_entry ([.ref (ad 57), .int (nI j), .int (nI v), .int (nI v2)]) (n := 6) (Nat.le_of_ble_eq_true rfl)
  rw [lg_entry_eq]
  generalize (lg_sl ([.ref (ad 57), .int (nI j), .int (nI v), .int (nI v2)]) ++ List.replicate (6 - (lg_sl ([.ref (ad 57), .int (nI j), .int (nI v), .int (nI v2)])).length) Slot.unset).toArray = ls at hl ⊢
  have hl : lv_has ls 6 [(0, .ref (ad 57)), (1, .int (nI j)), (2, .int (nI v)), (3, .int (nI v2))] := hl
  show W p l e ({ frames := 5, cells := 0, slots := 0, locals := 117 } : Room) s m ([.ref (ad 57), .int (nI j), .int (nI v), .int (nI v2)]).toArray below meth c s.heap [] 0 0 (MQ below (va_Qi (fun r S' => (v ≠ v2 ∧ (S.2.1 j).2.2.1 v = (S.2.1 j).2.2.1 v2 ∧ (S.2.1 j).2.2.2.2.1 < 5 ∧ r = nI (coarse (coarseC (S.2.1 j)) (keyApart v v2) 8).2 ∧ ∃ o4, ordOK o4 ∧ S' = xO (xO S 4 o4) j (newO (va_up (S.2.1 j).1 (S.2.1 j).2.2.2.2.1 (coarse (coarseC (S.2.1 j)) (keyApart v v2) 8).2) (va_up (S.2.1 j).2.1 (S.2.1 j).2.2.2.2.1 false) ((S.2.1 j).2.2.2.2.1 + 1) (S.2.1 j).2.2.1 (S.2.1 j).2.2.2.1)) ∨ ((v = v2 ∨ (S.2.1 j).2.2.1 v ≠ (S.2.1 j).2.2.1 v2 ∨ 5 ≤ (S.2.1 j).2.2.2.2.1) ∧ r = -9 ∧ S' = refT S)) (PX dC dI ad) (AX ad)) ([.ref (ad 57), .int (nI j), .int (nI v), .int (nI v2)]).toArray s 0 0 (AX ad)) (F0 m 0 ls [])
  have hn := (hI.2 j (by omega)).1.1
  refine lv_aload_n hx hb dX4_tellApart_0 rfl (lv_at hl 0 rfl) ?_
  refine lv_iload_n hx hb dX4_tellApart_1 rfl (lv_at hl 1 rfl) ?_
  refine va_csr (va_Run.run (va_runV (As := [.int (nI j)]) (rest := []) ⟨hx, hb, hml, hown, hts⟩ (m_X4_orderAt l dC dI ad S j (by omega)) (cwV 1 hts gX4_tellApart_X4_orderAt rfl rfl rfl hdX4_orderAt_1 ⟨Nat.le_of_ble_eq_true rfl, Nat.le_of_ble_eq_true rfl⟩) (hX.preTop 57 6 (by decide) (by decide) rfl rfl) rfl rfl hl.1 rfl (lv_room (Nat.le_of_ble_eq_true rfl)) dX4_tellApart_2 ⟨Nat.le_of_ble_eq_true rfl, Nat.le_of_ble_eq_true rfl⟩)) (fun k_ hk_ => ?_)
  rw [hk_]
  refine lv_astore (lv' := [(4, .ref (ad (24 + 5 * j))), (0, .ref (ad 57)), (1, .int (nI j)), (2, .int (nI v)), (3, .int (nI v2))]) hx hb dX4_tellApart_5 hl (by decide) rfl (fun ls hl => ?_)
  refine lv_iload_n hx hb dX4_tellApart_7 rfl (lv_at hl 3 rfl) ?_
  refine va_csv (va_Run.run (va_runS (As := [.int (nI v)]) (rest := []) ⟨hx, hb, hml, hown, hts⟩ (m_X4_demandValue l dC dI ad S v (by omega)) (va_cwS 1 hts gX4_tellApart_X4_demandValue rfl rfl rfl hdX4_demandValue_1.2 ⟨Nat.le_of_ble_eq_true rfl, Nat.le_of_ble_eq_true rfl⟩) hX.preS rfl rfl hl.1 rfl (lv_room (Nat.le_of_ble_eq_true rfl)) dX4_tellApart_8 ⟨Nat.le_of_ble_eq_true rfl, Nat.le_of_ble_eq_true rfl⟩)) (fun _ => ?_)
  refine lv_iload_n hx hb dX4_tellApart_11 rfl (lv_at hl 4 rfl) ?_
  refine va_csv (va_Run.run (va_runS (As := [.int (nI v2)]) (rest := []) ⟨hx, hb, hml, hown, hts⟩ (m_X4_demandValue l dC dI ad S v2 (by omega)) (va_cwS 1 hts gX4_tellApart_X4_demandValue rfl rfl rfl hdX4_demandValue_1.2 ⟨Nat.le_of_ble_eq_true rfl, Nat.le_of_ble_eq_true rfl⟩) hX.preS rfl rfl hl.1 rfl (lv_room (Nat.le_of_ble_eq_true rfl)) dX4_tellApart_12 ⟨Nat.le_of_ble_eq_true rfl, Nat.le_of_ble_eq_true rfl⟩)) (fun _ => ?_)
  refine lv_iload_n hx hb dX4_tellApart_15 rfl (lv_at hl 3 rfl) ?_
  refine lv_iload_n hx hb dX4_tellApart_16 rfl (lv_at hl 4 rfl) ?_
  refine kn_icmp_eq (tgt := 39) hx hb (by omega) (by omega) dX4_tellApart_17 (by decide) (fun k_1 => ?_) (fun k_1 => ?_)
  · skip
    have ha := k_1
    refine lv_aload_n hx hb dX4_tellApart_39 rfl (lv_at hl 1 rfl) ?_
    refine kx_ci (va_runV (As := []) (rest := []) ⟨hx, hb, hml, hown, hts⟩ (m_X4_refuse l dC dI ad S) (cwV 0 hts gX4_tellApart_X4_refuse rfl rfl rfl hdX4_refuse_0 ⟨Nat.le_of_ble_eq_true rfl, Nat.le_of_ble_eq_true rfl⟩) (hX.preTop 57 6 (by decide) (by decide) rfl rfl) rfl rfl hl.1 rfl (lv_room (Nat.le_of_ble_eq_true rfl)) dX4_tellApart_40 ⟨Nat.le_of_ble_eq_true rfl, Nat.le_of_ble_eq_true rfl⟩) hX (fun _ h => h) (fun r_ S_ H locs hw hX => ?_)
    obtain ⟨rfl, rfl⟩ := hw
    exact W.iret (v := (-9)) hx hb hr (fun t9 ht9 hW9 => ⟨⟨_, (xN S (S.2.2.1, S.2.2.2.1 + 1, S.2.2.2.2)), rfl, (Or.inr ⟨Or.inl ha, rfl, rfl⟩), hX.P ht9 hW9⟩, hX.2.2.2.F ht9⟩) hX.2.2.2.2.2 dX4_tellApart_43
  · skip
    have ha := k_1
    refine lv_aload hx hb dX4_tellApart_20 (lv_at hl 0 rfl) ?_
    refine lv_iload_n hx hb dX4_tellApart_22 rfl (lv_at hl 3 rfl) ?_
    refine lv_iload_n hx hb dX4_tellApart_23 rfl (lv_at hl 4 rfl) ?_
    refine kx_cr (v := cmpI ((S.2.1 j).2.2.1 v) ((S.2.1 j).2.2.1 v2)) (va_runV (As := [.int (nI v), .int (nI v2)]) (rest := []) ⟨hx, hb, hml, hown, hts⟩ (m_X1_compared l dC dI ad S j v v2 (by omega) (hI.2 j (by omega)) (by omega) (by omega)) (cwV 2 hts gX4_tellApart_X1_compared rfl rfl rfl hdX1_compared_2 ⟨Nat.le_of_ble_eq_true rfl, Nat.le_of_ble_eq_true rfl⟩) (hX.preOrd (by omega)) rfl rfl hl.1 rfl (lv_room (Nat.le_of_ble_eq_true rfl)) dX4_tellApart_24 ⟨Nat.le_of_ble_eq_true rfl, Nat.le_of_ble_eq_true rfl⟩) (fun _ h => h) ?_
    refine kc_if_ne (tgt := 39) hx hb dX4_tellApart_27 (by decide) (fun k_2 => ?_) (fun k_2 => ?_)
    · skip
      have hb9 := k_2
      refine lv_aload_n hx hb dX4_tellApart_39 rfl (lv_at hl 1 rfl) ?_
      refine kx_ci (va_runV (As := []) (rest := []) ⟨hx, hb, hml, hown, hts⟩ (m_X4_refuse l dC dI ad S) (cwV 0 hts gX4_tellApart_X4_refuse rfl rfl rfl hdX4_refuse_0 ⟨Nat.le_of_ble_eq_true rfl, Nat.le_of_ble_eq_true rfl⟩) (hX.preTop 57 6 (by decide) (by decide) rfl rfl) rfl rfl hl.1 rfl (lv_room (Nat.le_of_ble_eq_true rfl)) dX4_tellApart_40 ⟨Nat.le_of_ble_eq_true rfl, Nat.le_of_ble_eq_true rfl⟩) hX (fun _ h => h) (fun r_ S_ H locs hw hX => ?_)
      obtain ⟨rfl, rfl⟩ := hw
      exact W.iret (v := (-9)) hx hb hr (fun t9 ht9 hW9 => ⟨⟨_, (xN S (S.2.2.1, S.2.2.2.1 + 1, S.2.2.2.2)), rfl, (Or.inr ⟨Or.inr (Or.inl (hb9)), rfl, rfl⟩), hX.P ht9 hW9⟩, hX.2.2.2.F ht9⟩) hX.2.2.2.2.2 dX4_tellApart_43
    · skip
      have hb9 := k_2
      refine lv_aload hx hb dX4_tellApart_30 (lv_at hl 0 rfl) ?_
      refine kx_cr (v := nI ((S.2.1 j).2.2.2.2.1)) (va_runV (As := []) (rest := []) ⟨hx, hb, hml, hown, hts⟩ (m_X1_length l dC dI ad S j  (by omega)) (cwV 0 hts gX4_tellApart_X1_length rfl rfl rfl hdX1_length_0 ⟨Nat.le_of_ble_eq_true rfl, Nat.le_of_ble_eq_true rfl⟩) (hX.preOrd (by omega)) rfl rfl hl.1 rfl (lv_room (Nat.le_of_ble_eq_true rfl)) dX4_tellApart_32 ⟨Nat.le_of_ble_eq_true rfl, Nat.le_of_ble_eq_true rfl⟩) (fun _ h => h) ?_
      refine lv_iconst (v := nI 5) hx hb dX4_tellApart_35 (by decide) ?_
      refine kn_icmp_lt (tgt := 44) hx hb (by omega) (by omega) dX4_tellApart_36 (by decide) (fun k_3 => ?_) (fun k_3 => ?_)
      · skip
        have hc := k_3
        refine lv_aload_n hx hb dX4_tellApart_44 rfl (lv_at hl 1 rfl) ?_
        refine lv_aload hx hb dX4_tellApart_45 (lv_at hl 0 rfl) ?_
        refine lv_iload_n hx hb dX4_tellApart_47 rfl (lv_at hl 3 rfl) ?_
        refine lv_iload_n hx hb dX4_tellApart_48 rfl (lv_at hl 4 rfl) ?_
        refine kx_ci (va_runV (As := [.ref (ad (24 + 5 * j)), .int (nI v), .int (nI v2)]) (rest := []) ⟨hx, hb, hml, hown, hts⟩ (m_X4_coarsestKey l dC dI ad S j v v2 (by omega) (by omega) (by omega) (by omega) hI) (cwV 3 hts gX4_tellApart_X4_coarsestKey rfl rfl rfl hdX4_coarsestKey_3 ⟨Nat.le_of_ble_eq_true rfl, Nat.le_of_ble_eq_true rfl⟩) (hX.preTop 57 6 (by decide) (by decide) rfl rfl) rfl rfl hl.1 rfl (lv_room (Nat.le_of_ble_eq_true rfl)) dX4_tellApart_49 ⟨Nat.le_of_ble_eq_true rfl, Nat.le_of_ble_eq_true rfl⟩) hX (fun _ h => h) (fun r_ S_ H locs hw hX => ?_)
        obtain ⟨rfl, o4, ho4, rfl⟩ := hw
        obtain ⟨S2, e_S2⟩ : ∃ z, z = (xO S 4 (o4.1, o4.2.1, o4.2.2.1, o4.2.2.2.1, o4.2.2.2.2.1, o4.2.2.2.2.2)) := ⟨_, rfl⟩
        replace hX := WX.eqS e_S2.symm hX
        have hj9 : S2.2.1 j = S.2.1 j := by rw [e_S2, xO_ne _ _ (show j ≠ 4 by omega)]
        have hkk := coarse_lt (coarseC (S.2.1 j)) (keyApart v v2) 8 (Nat.le_refl _)
        refine lv_istore (lv' := [(5, .int (nI ((coarse (coarseC (S.2.1 j)) (keyApart v v2) 8).2))), (4, .ref (ad (24 + 5 * j))), (0, .ref (ad 57)), (1, .int (nI j)), (2, .int (nI v)), (3, .int (nI v2))]) hx hb dX4_tellApart_52 hl (by decide) rfl (fun ls hl => ?_)
        refine lv_aload hx hb dX4_tellApart_54 (lv_at hl 1 rfl) ?_
        refine lv_iload hx hb dX4_tellApart_56 (lv_at hl 0 rfl) ?_
        refine lv_iconst (v := bI false) hx hb dX4_tellApart_58 (by decide) ?_
        refine kx_cv (va_runV (As := [.int (nI ((coarse (coarseC (S.2.1 j)) (keyApart v v2) 8).2)), .int (bI false)]) (rest := []) ⟨hx, hb, hml, hown, hts⟩ (m_X1_append l dC dI ad S2 j ((coarse (coarseC (S.2.1 j)) (keyApart v v2) 8).2) false (by omega) (by rw [hj9]; exact (hI.2 j (by omega)).1) (by rw [hj9]; omega) hkk) (cwV 2 hts gX4_tellApart_X1_append rfl rfl rfl hdX1_append_2 ⟨Nat.le_of_ble_eq_true rfl, Nat.le_of_ble_eq_true rfl⟩) (hX.preOrd (by omega)) rfl rfl hl.1 rfl (lv_room (Nat.le_of_ble_eq_true rfl)) dX4_tellApart_59 ⟨Nat.le_of_ble_eq_true rfl, Nat.le_of_ble_eq_true rfl⟩) hX (fun _ h => h) (fun S_ H locs hw hX => ?_)
        subst hw
        refine lv_iload hx hb dX4_tellApart_62 (lv_at hl 0 rfl) ?_
        exact W.iret (v := nI ((coarse (coarseC (S.2.1 j)) (keyApart v v2) 8).2)) hx hb hr (fun t9 ht9 hW9 => ⟨⟨_, (xO S2 j (va_up ((S2.2.1 j).1) ((S2.2.1 j).2.2.2.2.1) ((coarse (coarseC (S.2.1 j)) (keyApart v v2) 8).2), va_up ((S2.2.1 j).2.1) ((S2.2.1 j).2.2.2.2.1) false, ovl (codeOf (va_up ((S2.2.1 j).1) ((S2.2.1 j).2.2.2.2.1) ((coarse (coarseC (S.2.1 j)) (keyApart v v2) 8).2)) (va_up ((S2.2.1 j).2.1) ((S2.2.1 j).2.2.2.2.1) false) ((S2.2.1 j).2.2.2.2.1 + 1)) ((S2.2.1 j).2.2.1) 16, ovl (rankC (codeOf (va_up ((S2.2.1 j).1) ((S2.2.1 j).2.2.2.2.1) ((coarse (coarseC (S.2.1 j)) (keyApart v v2) 8).2)) (va_up ((S2.2.1 j).2.1) ((S2.2.1 j).2.2.2.2.1) false) ((S2.2.1 j).2.2.2.2.1 + 1))) ((S2.2.1 j).2.2.2.1) 16, (S2.2.1 j).2.2.2.2.1 + 1, classC (codeOf (va_up ((S2.2.1 j).1) ((S2.2.1 j).2.2.2.2.1) ((coarse (coarseC (S.2.1 j)) (keyApart v v2) 8).2)) (va_up ((S2.2.1 j).2.1) ((S2.2.1 j).2.2.2.2.1) false) ((S2.2.1 j).2.2.2.2.1 + 1)))), rfl, (Or.inl ⟨ha, hb9, hc, rfl, o4, ho4, by rw [hj9, e_S2]⟩), hX.P ht9 hW9⟩, hX.2.2.2.F ht9⟩) hX.2.2.2.2.2 dX4_tellApart_64
      · skip
        have hc := k_3
        refine lv_aload_n hx hb dX4_tellApart_39 rfl (lv_at hl 1 rfl) ?_
        refine kx_ci (va_runV (As := []) (rest := []) ⟨hx, hb, hml, hown, hts⟩ (m_X4_refuse l dC dI ad S) (cwV 0 hts gX4_tellApart_X4_refuse rfl rfl rfl hdX4_refuse_0 ⟨Nat.le_of_ble_eq_true rfl, Nat.le_of_ble_eq_true rfl⟩) (hX.preTop 57 6 (by decide) (by decide) rfl rfl) rfl rfl hl.1 rfl (lv_room (Nat.le_of_ble_eq_true rfl)) dX4_tellApart_40 ⟨Nat.le_of_ble_eq_true rfl, Nat.le_of_ble_eq_true rfl⟩) hX (fun _ h => h) (fun r_ S_ H locs hw hX => ?_)
        obtain ⟨rfl, rfl⟩ := hw
        exact W.iret (v := (-9)) hx hb hr (fun t9 ht9 hW9 => ⟨⟨_, (xN S (S.2.2.1, S.2.2.2.1 + 1, S.2.2.2.2)), rfl, (Or.inr ⟨Or.inr (Or.inr (by omega)), rfl, rfl⟩), hX.P ht9 hW9⟩, hX.2.2.2.F ht9⟩) hX.2.2.2.2.2 dX4_tellApart_43
set_option maxHeartbeats 4000000 in
set_option maxRecDepth 100000 in
theorem m_X4_isSound (l : Launch) (dC : Nat → ClassId) (dI : Nat → Nat → Nat) (ad : Nat → Nat) (S : XS) (hI : InvX S) (h5 : ∀ j, j < 4 → (S.2.1 j).2.2.2.2.1 ≤ 5) : Met l yX4_isSound wsX4_isSound ({ frames := 5, cells := 0, slots := 0, locals := 129 } : Room) (va_Pc [.ref (ad 57)] (PX dC dI ad S)) (va_Qi (fun r S' => (∃ z, r = bI z) ∧ KA S S') (PX dC dI ad) (AX ad)) 0 0 (AX ad) := by
  refine Met.ofW (cc := cX4_isSound) (maxL := 7) (ret := (some .boolean)) pl_X4 rfl ?_
  intro p e s m args below meth c s₁ B hml hv
  obtain ⟨rfl, hPX⟩ := hv
  have hx := B.exec
  have hb := B.bytes
  have hr := B.returns
  have hts := atoms_spec (ws := wsX4_isSound) B.pre
  have hown : s.vm.findClass RX4 = some m.cls := findClass_of_methodNamed B.named
  have hlocks := B.notSynchronized
  have hin4 : ∀ w ∈ u_ws RX4 TX4 9, w ∈ wsX4_isSound := tu 1328 (by decide +kernel) rfl
  have hX := WX.of hPX
  have hl := lv_entry ([.ref (ad 57)]) (n := 7) (Nat.le_of_ble_eq_true rfl)
  rw [lg_entry_eq]
  generalize (lg_sl ([.ref (ad 57)]) ++ List.replicate (7 - (lg_sl ([.ref (ad 57)])).length) Slot.unset).toArray = ls at hl ⊢
  have hl : lv_has ls 7 [(0, .ref (ad 57))] := hl
  show W p l e ({ frames := 5, cells := 0, slots := 0, locals := 129 } : Room) s m ([.ref (ad 57)]).toArray below meth c s.heap [] 0 0 (MQ below (va_Qi (fun r S' => (∃ z, r = bI z) ∧ KA S S') (PX dC dI ad) (AX ad)) ([.ref (ad 57)]).toArray s 0 0 (AX ad)) (F0 m 0 ls [])
  have hK := KA_refl hI
  refine lv_iconst (v := bI true) hx hb dX4_isSound_0 (by decide) ?_
  refine lv_istore_n (lv' := [(1, .int (bI true)), (0, .ref (ad 57))]) hx hb dX4_isSound_1 rfl hl (by decide) rfl (fun ls hl => ?_)
  refine lv_iconst (v := nI 0) hx hb dX4_isSound_2 (by decide) ?_
  refine lv_istore_n (lv' := [(2, .int (nI 0)), (1, .int (bI true)), (0, .ref (ad 57))]) hx hb dX4_isSound_3 rfl hl (by decide) rfl (fun ls hl => ?_)
  have loop4 : ∀ (fuel : Nat) (S1 : XS) (z1 : Bool) (a : Nat) (hK : KA S S1) (ha : a ≤ 4) (H : Heap) (locs : List Loc), 4 - a < fuel → WX dC dI ad S1 (AX ad) s H locs → ∀ ls : Array Slot, lv_has ls 7 [(0, .ref (ad 57)), (1, .int (bI z1)), (2, .int (nI a))] → W p l e ({ frames := 5, cells := 0, slots := 0, locals := 129 } : Room) s m ([.ref (ad 57)]).toArray below meth c H locs 0 0 (MQ below (va_Qi (fun r S' => (∃ z, r = bI z) ∧ KA S S') (PX dC dI ad) (AX ad)) ([.ref (ad 57)]).toArray s 0 0 (AX ad)) (F0 m 4 ls []) := by
    intro fuel
    induction fuel with
    | zero => intro S1 z1 a hK ha H locs hf; exact absurd hf (Nat.not_lt_zero _)
    | succ fuel ih4 =>
      intro S1 z1 a hK ha H locs hf hX ls hl
      refine lv_iload_n hx hb dX4_isSound_4 rfl (lv_at hl 1 rfl) ?_
      refine kb_if_eq (tgt := 212) hx hb dX4_isSound_5 (by decide) (fun k_1 => ?_) (fun k_1 => ?_)
      · skip
        refine lv_iload_n hx hb dX4_isSound_212 rfl (lv_at hl 1 rfl) ?_
        exact W.zret (v := bI z1) hx hb hr (bI_narrow _) (fun t9 ht9 hW9 => ⟨⟨_, S1, rfl, ⟨⟨_, rfl⟩, hK⟩, hX.P ht9 hW9⟩, hX.2.2.2.F ht9⟩) hX.2.2.2.2.2 dX4_isSound_213
      · skip
        refine lv_iload_n hx hb dX4_isSound_8 rfl (lv_at hl 2 rfl) ?_
        refine lv_iconst (v := nI 4) hx hb dX4_isSound_9 (by decide) ?_
        refine kn_icmp_ge (tgt := 212) hx hb (by omega) (by omega) dX4_isSound_10 (by decide) (fun k_2 => ?_) (fun k_2 => ?_)
        · skip
          refine lv_iload_n hx hb dX4_isSound_212 rfl (lv_at hl 1 rfl) ?_
          exact W.zret (v := bI z1) hx hb hr (bI_narrow _) (fun t9 ht9 hW9 => ⟨⟨_, S1, rfl, ⟨⟨_, rfl⟩, hK⟩, hX.P ht9 hW9⟩, hX.2.2.2.F ht9⟩) hX.2.2.2.2.2 dX4_isSound_213
        · skip
          refine lv_aload_n hx hb dX4_isSound_13 rfl (lv_at hl 0 rfl) ?_
          refine lv_iload_n hx hb dX4_isSound_14 rfl (lv_at hl 2 rfl) ?_
          refine va_csr (va_Run.run (va_runV (As := [.int (nI a)]) (rest := []) ⟨hx, hb, hml, hown, hts⟩ (m_X4_orderAt l dC dI ad S1 a (by omega)) (cwV 1 hts gX4_isSound_X4_orderAt rfl rfl rfl hdX4_orderAt_1 ⟨Nat.le_of_ble_eq_true rfl, Nat.le_of_ble_eq_true rfl⟩) (hX.preTop 57 6 (by decide) (by decide) rfl rfl) rfl rfl hl.1 rfl (lv_room (Nat.le_of_ble_eq_true rfl)) dX4_isSound_15 ⟨Nat.le_of_ble_eq_true rfl, Nat.le_of_ble_eq_true rfl⟩)) (fun k_ hk_ => ?_)
          rw [hk_]
          refine lv_astore_n (lv' := [(3, .ref (ad (24 + 5 * a))), (0, .ref (ad 57)), (1, .int (bI z1)), (2, .int (nI a))]) hx hb dX4_isSound_18 rfl hl (by decide) rfl (fun ls hl => ?_)
          refine lv_aload_n hx hb dX4_isSound_19 rfl (lv_at hl 1 rfl) ?_
          refine kx_gauditor hx hb hts hin4 hown hX (hts (.fieldLink RX4 31 "Orderlattice" "auditor" "LOrderlattice$Auditor;") (tm 452 (by decide +kernel) rfl)) dX4_isSound_20 ?_
          refine lv_aload_n hx hb dX4_isSound_23 rfl (lv_at hl 0 rfl) ?_
          refine kx_cr (v := bI true) (va_runV (As := [.ref (ad (24 + 5 * a))]) (rest := []) ⟨hx, hb, hml, hown, hts⟩ (m_X0_areSignsTurned l dC dI ad S1 a (by omega) (hK.1.2 a (by omega))) (cwV 1 hts gX4_isSound_X0_areSignsTurned rfl rfl rfl hdX0_areSignsTurned_1 ⟨Nat.le_of_ble_eq_true rfl, Nat.le_of_ble_eq_true rfl⟩) (hX.preTop 56 2 (by decide) (by decide) rfl rfl) rfl rfl hl.1 rfl (lv_room (Nat.le_of_ble_eq_true rfl)) dX4_isSound_24 ⟨Nat.le_of_ble_eq_true rfl, Nat.le_of_ble_eq_true rfl⟩) (fun _ h => h) ?_
          refine kb_if_eq (tgt := 45) hx hb dX4_isSound_27 (by decide) (fun k_3 => absurd k_3 (by decide)) (fun k_3 => ?_)
          refine lv_aload_n hx hb dX4_isSound_30 rfl (lv_at hl 1 rfl) ?_
          refine kx_gauditor hx hb hts hin4 hown hX (hts (.fieldLink RX4 31 "Orderlattice" "auditor" "LOrderlattice$Auditor;") (tm 452 (by decide +kernel) rfl)) dX4_isSound_31 ?_
          refine lv_aload_n hx hb dX4_isSound_34 rfl (lv_at hl 0 rfl) ?_
          refine kx_cr (v := bI (decide (cntB (rankSome (S1.2.1 a).2.2.2.1) 16 = (S1.2.1 a).2.2.2.2.2))) (va_runV (As := [.ref (ad (24 + 5 * a))]) (rest := []) ⟨hx, hb, hml, hown, hts⟩ (m_X0_areRanksAsClasses l dC dI ad S1 a (by omega) (hK.1.2 a (by omega))) (cwV 1 hts gX4_isSound_X0_areRanksAsClasses rfl rfl rfl hdX0_areRanksAsClasses_1 ⟨Nat.le_of_ble_eq_true rfl, Nat.le_of_ble_eq_true rfl⟩) (hX.preTop 56 2 (by decide) (by decide) rfl rfl) rfl rfl hl.1 rfl (lv_room (Nat.le_of_ble_eq_true rfl)) dX4_isSound_35 ⟨Nat.le_of_ble_eq_true rfl, Nat.le_of_ble_eq_true rfl⟩) (fun _ h => h) ?_
          refine kb_if_eq (tgt := 45) hx hb dX4_isSound_38 (by decide) (fun k_4 => ?_) (fun k_4 => ?_)
          · skip
            refine lv_iconst (v := bI false) hx hb dX4_isSound_45 (by decide) ?_
            refine lv_istore_n (lv' := [(1, .int (bI false)), (3, .ref (ad (24 + 5 * a))), (0, .ref (ad 57)), (2, .int (nI a))]) hx hb dX4_isSound_46 rfl hl (by decide) rfl (fun ls hl => ?_)
            refine lv_iconst (v := nI 0) hx hb dX4_isSound_47 (by decide) ?_
            refine lv_istore (lv' := [(4, .int (nI 0)), (1, .int (bI false)), (3, .ref (ad (24 + 5 * a))), (0, .ref (ad 57)), (2, .int (nI a))]) hx hb dX4_isSound_48 hl (by decide) rfl (fun ls hl => ?_)
            have loop50 : ∀ (fuel : Nat) (S2 : XS) (z2 : Bool) (b9 : Nat) (hK : KA S S2) (hb9 : b9 ≤ 3) (H : Heap) (locs : List Loc), 3 - b9 < fuel → WX dC dI ad S2 (AX ad) s H locs → ∀ ls : Array Slot, lv_has ls 7 [(0, .ref (ad 57)), (1, .int (bI z2)), (2, .int (nI a)), (3, .ref (ad (24 + 5 * a))), (4, .int (nI b9))] → W p l e ({ frames := 5, cells := 0, slots := 0, locals := 129 } : Room) s m ([.ref (ad 57)]).toArray below meth c H locs 0 0 (MQ below (va_Qi (fun r S' => (∃ z, r = bI z) ∧ KA S S') (PX dC dI ad) (AX ad)) ([.ref (ad 57)]).toArray s 0 0 (AX ad)) (F0 m 50 ls []) := by
              intro fuel
              induction fuel with
              | zero => intro S2 z2 b9 hK hb9 H locs hf; exact absurd hf (Nat.not_lt_zero _)
              | succ fuel ih50 =>
                intro S2 z2 b9 hK hb9 H locs hf hX ls hl
                refine lv_iload_n hx hb dX4_isSound_50 rfl (lv_at hl 1 rfl) ?_
                refine kb_if_eq (tgt := 132) hx hb dX4_isSound_51 (by decide) (fun k_5 => ?_) (fun k_5 => ?_)
                · skip
                  refine lv_iconst (v := nI 0) hx hb dX4_isSound_132 (by decide) ?_
                  refine lv_istore (lv' := [(4, .int (nI 0)), (0, .ref (ad 57)), (1, .int (bI z2)), (2, .int (nI a)), (3, .ref (ad (24 + 5 * a)))]) hx hb dX4_isSound_133 hl (by decide) rfl (fun ls hl => ?_)
                  have loop135 : ∀ (fuel : Nat) (S3 : XS) (z3 : Bool) (c9 : Nat) (hK : KA S S3) (hc9 : c9 ≤ 4) (H : Heap) (locs : List Loc), 4 - c9 < fuel → WX dC dI ad S3 (AX ad) s H locs → ∀ ls : Array Slot, lv_has ls 7 [(0, .ref (ad 57)), (1, .int (bI z3)), (2, .int (nI a)), (3, .ref (ad (24 + 5 * a))), (4, .int (nI c9))] → W p l e ({ frames := 5, cells := 0, slots := 0, locals := 129 } : Room) s m ([.ref (ad 57)]).toArray below meth c H locs 0 0 (MQ below (va_Qi (fun r S' => (∃ z, r = bI z) ∧ KA S S') (PX dC dI ad) (AX ad)) ([.ref (ad 57)]).toArray s 0 0 (AX ad)) (F0 m 135 ls []) := by
                    intro fuel
                    induction fuel with
                    | zero => intro S3 z3 c9 hK hc9 H locs hf; exact absurd hf (Nat.not_lt_zero _)
                    | succ fuel ih135 =>
                      intro S3 z3 c9 hK hc9 H locs hf hX ls hl
                      refine lv_iload_n hx hb dX4_isSound_135 rfl (lv_at hl 1 rfl) ?_
                      refine kb_if_eq (tgt := 206) hx hb dX4_isSound_136 (by decide) (fun k_6 => ?_) (fun k_6 => ?_)
                      · skip
                        refine lv_iinc (v := nI (a + 1)) (lv' := [(2, .int (nI (a + 1))), (0, .ref (ad 57)), (1, .int (bI z3)), (3, .ref (ad (24 + 5 * a))), (4, .int (nI c9))]) hx hb dX4_isSound_206 hl (k := 2) rfl (nI_1 a) (by decide) rfl (fun ls hl => ?_)
                        refine lv_goto (tgt := 4) hx hb dX4_isSound_209 (by decide) ?_
                        exact ih4  S3 z3 (a + 1) hK (by omega) _ _ (by omega) hX _ (lv_sub hl [1, 2, 0] rfl)
                      · skip
                        refine lv_iload hx hb dX4_isSound_139 (lv_at hl 4 rfl) ?_
                        refine lv_iconst (v := nI 4) hx hb dX4_isSound_141 (by decide) ?_
                        refine kn_icmp_ge (tgt := 206) hx hb (by omega) (by omega) dX4_isSound_142 (by decide) (fun k_7 => ?_) (fun k_7 => ?_)
                        · skip
                          refine lv_iinc (v := nI (a + 1)) (lv' := [(2, .int (nI (a + 1))), (0, .ref (ad 57)), (1, .int (bI z3)), (3, .ref (ad (24 + 5 * a))), (4, .int (nI c9))]) hx hb dX4_isSound_206 hl (k := 2) rfl (nI_1 a) (by decide) rfl (fun ls hl => ?_)
                          refine lv_goto (tgt := 4) hx hb dX4_isSound_209 (by decide) ?_
                          exact ih4  S3 z3 (a + 1) hK (by omega) _ _ (by omega) hX _ (lv_sub hl [1, 2, 0] rfl)
                        · skip
                          refine lv_aload_n hx hb dX4_isSound_145 rfl (lv_at hl 0 rfl) ?_
                          refine lv_iload hx hb dX4_isSound_146 (lv_at hl 4 rfl) ?_
                          refine va_csr (va_Run.run (va_runV (As := [.int (nI c9)]) (rest := []) ⟨hx, hb, hml, hown, hts⟩ (m_X4_orderAt l dC dI ad S3 c9 (by omega)) (cwV 1 hts gX4_isSound_X4_orderAt rfl rfl rfl hdX4_orderAt_1 ⟨Nat.le_of_ble_eq_true rfl, Nat.le_of_ble_eq_true rfl⟩) (hX.preTop 57 6 (by decide) (by decide) rfl rfl) rfl rfl hl.1 rfl (lv_room (Nat.le_of_ble_eq_true rfl)) dX4_isSound_148 ⟨Nat.le_of_ble_eq_true rfl, Nat.le_of_ble_eq_true rfl⟩)) (fun k_ hk_ => ?_)
                          rw [hk_]
                          refine lv_astore (lv' := [(5, .ref (ad (24 + 5 * c9))), (0, .ref (ad 57)), (1, .int (bI z3)), (2, .int (nI a)), (3, .ref (ad (24 + 5 * a))), (4, .int (nI c9))]) hx hb dX4_isSound_151 hl (by decide) rfl (fun ls hl => ?_)
                          refine lv_aload_n hx hb dX4_isSound_153 rfl (lv_at hl 1 rfl) ?_
                          refine kx_gauditor hx hb hts hin4 hown hX (hts (.fieldLink RX4 31 "Orderlattice" "auditor" "LOrderlattice$Auditor;") (tm 452 (by decide +kernel) rfl)) dX4_isSound_154 ?_
                          refine lv_aload_n hx hb dX4_isSound_157 rfl (lv_at hl 4 rfl) ?_
                          refine lv_aload hx hb dX4_isSound_158 (lv_at hl 0 rfl) ?_
                          refine kx_ci (va_runV (As := [.ref (ad (24 + 5 * a)), .ref (ad (24 + 5 * c9))]) (rest := []) ⟨hx, hb, hml, hown, hts⟩ (m_X0_isRefiningSound l dC dI ad S3 a c9 (by omega) (by omega) hK.1 (by rw [hK.2.2.2 a (by omega)]; exact h5 a (by omega)) (by rw [hK.2.2.2 c9 (by omega)]; exact h5 c9 (by omega))) (cwV 2 hts gX4_isSound_X0_isRefiningSound rfl rfl rfl hdX0_isRefiningSound_2 ⟨Nat.le_of_ble_eq_true rfl, Nat.le_of_ble_eq_true rfl⟩) (hX.preTop 56 2 (by decide) (by decide) rfl rfl) rfl rfl hl.1 rfl (lv_room (Nat.le_of_ble_eq_true rfl)) dX4_isSound_160 ⟨Nat.le_of_ble_eq_true rfl, Nat.le_of_ble_eq_true rfl⟩) hX (fun _ h => h) (fun r_ S_8 H locs hw hX => ?_)
                          obtain ⟨⟨z_9, rfl⟩, hK9⟩ := hw
                          replace hK := KA_trans hK hK9
                          refine lv_istore_n (lv' := [(1, .int (bI z_9)), (5, .ref (ad (24 + 5 * c9))), (0, .ref (ad 57)), (2, .int (nI a)), (3, .ref (ad (24 + 5 * a))), (4, .int (nI c9))]) hx hb dX4_isSound_163 rfl hl (by decide) rfl (fun ls hl => ?_)
                          refine lv_iconst (v := nI 0) hx hb dX4_isSound_164 (by decide) ?_
                          refine lv_istore (lv' := [(6, .int (nI 0)), (1, .int (bI z_9)), (5, .ref (ad (24 + 5 * c9))), (0, .ref (ad 57)), (2, .int (nI a)), (3, .ref (ad (24 + 5 * a))), (4, .int (nI c9))]) hx hb dX4_isSound_165 hl (by decide) rfl (fun ls hl => ?_)
                          have loop167 : ∀ (fuel : Nat) (S4 : XS) (z4 : Bool) (d9 : Nat) (hK : KA S S4) (hd9 : d9 ≤ 3) (H : Heap) (locs : List Loc), 3 - d9 < fuel → WX dC dI ad S4 (AX ad) s H locs → ∀ ls : Array Slot, lv_has ls 7 [(0, .ref (ad 57)), (1, .int (bI z4)), (2, .int (nI a)), (3, .ref (ad (24 + 5 * a))), (4, .int (nI c9)), (5, .ref (ad (24 + 5 * c9))), (6, .int (nI d9))] → W p l e ({ frames := 5, cells := 0, slots := 0, locals := 129 } : Room) s m ([.ref (ad 57)]).toArray below meth c H locs 0 0 (MQ below (va_Qi (fun r S' => (∃ z, r = bI z) ∧ KA S S') (PX dC dI ad) (AX ad)) ([.ref (ad 57)]).toArray s 0 0 (AX ad)) (F0 m 167 ls []) := by
                            intro fuel
                            induction fuel with
                            | zero => intro S4 z4 d9 hK hd9 H locs hf; exact absurd hf (Nat.not_lt_zero _)
                            | succ fuel ih167 =>
                              intro S4 z4 d9 hK hd9 H locs hf hX ls hl
                              refine lv_iload_n hx hb dX4_isSound_167 rfl (lv_at hl 1 rfl) ?_
                              refine kb_if_eq (tgt := 200) hx hb dX4_isSound_168 (by decide) (fun k_10 => ?_) (fun k_10 => ?_)
                              · skip
                                refine lv_iinc (v := nI (c9 + 1)) (lv' := [(4, .int (nI (c9 + 1))), (0, .ref (ad 57)), (1, .int (bI z4)), (2, .int (nI a)), (3, .ref (ad (24 + 5 * a))), (5, .ref (ad (24 + 5 * c9))), (6, .int (nI d9))]) hx hb dX4_isSound_200 hl (k := 4) rfl (nI_1 c9) (by decide) rfl (fun ls hl => ?_)
                                refine lv_goto (tgt := 135) hx hb dX4_isSound_203 (by decide) ?_
                                exact ih135  S4 z4 (c9 + 1) hK (by omega) _ _ (by omega) hX _ (lv_sub hl [1, 2, 3, 4, 0] rfl)
                              · skip
                                refine lv_iload hx hb dX4_isSound_171 (lv_at hl 6 rfl) ?_
                                refine lv_iconst (v := nI 3) hx hb dX4_isSound_173 (by decide) ?_
                                refine kn_icmp_ge (tgt := 200) hx hb (by omega) (by omega) dX4_isSound_174 (by decide) (fun k_11 => ?_) (fun k_11 => ?_)
                                · skip
                                  refine lv_iinc (v := nI (c9 + 1)) (lv' := [(4, .int (nI (c9 + 1))), (0, .ref (ad 57)), (1, .int (bI z4)), (2, .int (nI a)), (3, .ref (ad (24 + 5 * a))), (5, .ref (ad (24 + 5 * c9))), (6, .int (nI d9))]) hx hb dX4_isSound_200 hl (k := 4) rfl (nI_1 c9) (by decide) rfl (fun ls hl => ?_)
                                  refine lv_goto (tgt := 135) hx hb dX4_isSound_203 (by decide) ?_
                                  exact ih135  S4 z4 (c9 + 1) hK (by omega) _ _ (by omega) hX _ (lv_sub hl [1, 2, 3, 4, 0] rfl)
                                · skip
                                  refine lv_aload_n hx hb dX4_isSound_177 rfl (lv_at hl 0 rfl) ?_
                                  refine kx_gauditor hx hb hts hin4 hown hX (hts (.fieldLink RX4 31 "Orderlattice" "auditor" "LOrderlattice$Auditor;") (tm 452 (by decide +kernel) rfl)) dX4_isSound_178 ?_
                                  refine lv_aload_n hx hb dX4_isSound_181 rfl (lv_at hl 0 rfl) ?_
                                  refine lv_iload hx hb dX4_isSound_182 (lv_at hl 6 rfl) ?_
                                  refine va_csr (va_Run.run (va_runV (As := [.int (nI d9)]) (rest := [.ref (ad 56)]) ⟨hx, hb, hml, hown, hts⟩ (m_X4_rowAt l dC dI ad S4 d9 (by omega)) (cwV 1 hts gX4_isSound_X4_rowAt rfl rfl rfl hdX4_rowAt_1 ⟨Nat.le_of_ble_eq_true rfl, Nat.le_of_ble_eq_true rfl⟩) (hX.preTop 57 6 (by decide) (by decide) rfl rfl) rfl rfl hl.1 rfl (lv_room (Nat.le_of_ble_eq_true rfl)) dX4_isSound_184 ⟨Nat.le_of_ble_eq_true rfl, Nat.le_of_ble_eq_true rfl⟩)) (fun k_ hk_ => ?_)
                                  rw [hk_]
                                  refine lv_aload_n hx hb dX4_isSound_187 rfl (lv_at hl 3 rfl) ?_
                                  refine lv_aload hx hb dX4_isSound_188 (lv_at hl 5 rfl) ?_
                                  refine kx_ci (va_runV (As := [.ref (ad (3 * d9)), .ref (ad (24 + 5 * a)), .ref (ad (24 + 5 * c9))]) (rest := []) ⟨hx, hb, hml, hown, hts⟩ (m_X0_isProductAlike l dC dI ad S4 d9 a c9 (by omega) (by omega) (by omega) hK.1 (by rw [hK.2.2.2 a (by omega)]; exact h5 a (by omega)) (by rw [hK.2.2.2 c9 (by omega)]; exact h5 c9 (by omega))) (cwV 3 hts gX4_isSound_X0_isProductAlike rfl rfl rfl hdX0_isProductAlike_3 ⟨Nat.le_of_ble_eq_true rfl, Nat.le_of_ble_eq_true rfl⟩) (hX.preTop 56 2 (by decide) (by decide) rfl rfl) rfl rfl hl.1 rfl (lv_room (Nat.le_of_ble_eq_true rfl)) dX4_isSound_190 ⟨Nat.le_of_ble_eq_true rfl, Nat.le_of_ble_eq_true rfl⟩) hX (fun _ h => h) (fun r_ S_12 H locs hw hX => ?_)
                                  obtain ⟨⟨z_13, rfl⟩, hK9⟩ := hw
                                  replace hK := KA_trans hK hK9
                                  refine lv_istore_n (lv' := [(1, .int (bI z_13)), (0, .ref (ad 57)), (2, .int (nI a)), (3, .ref (ad (24 + 5 * a))), (4, .int (nI c9)), (5, .ref (ad (24 + 5 * c9))), (6, .int (nI d9))]) hx hb dX4_isSound_193 rfl hl (by decide) rfl (fun ls hl => ?_)
                                  refine lv_iinc (v := nI (d9 + 1)) (lv' := [(6, .int (nI (d9 + 1))), (1, .int (bI z_13)), (0, .ref (ad 57)), (2, .int (nI a)), (3, .ref (ad (24 + 5 * a))), (4, .int (nI c9)), (5, .ref (ad (24 + 5 * c9)))]) hx hb dX4_isSound_194 hl (k := 6) rfl (nI_1 d9) (by decide) rfl (fun ls hl => ?_)
                                  refine lv_goto (tgt := 167) hx hb dX4_isSound_197 (by decide) ?_
                                  exact ih167  S_12 z_13 (d9 + 1) hK (by omega) _ _ (by omega) hX _ (lv_sub hl [2, 1, 3, 4, 5, 6, 0] rfl)
                          exact loop167 (3 + 1) S_8 z_9 0 hK (by omega) _ _ (by omega) (WX.eqS rfl hX) _ (lv_sub hl [3, 1, 4, 5, 6, 2, 0] rfl)
                  exact loop135 (4 + 1) S2 z2 0 hK (by omega) _ _ (by omega) (WX.eqS rfl hX) _ (lv_sub hl [1, 2, 3, 4, 0] rfl)
                · skip
                  refine lv_iload hx hb dX4_isSound_54 (lv_at hl 4 rfl) ?_
                  refine lv_iconst (v := nI 3) hx hb dX4_isSound_56 (by decide) ?_
                  refine kn_icmp_ge (tgt := 132) hx hb (by omega) (by omega) dX4_isSound_57 (by decide) (fun k_14 => ?_) (fun k_14 => ?_)
                  · skip
                    refine lv_iconst (v := nI 0) hx hb dX4_isSound_132 (by decide) ?_
                    refine lv_istore (lv' := [(4, .int (nI 0)), (0, .ref (ad 57)), (1, .int (bI z2)), (2, .int (nI a)), (3, .ref (ad (24 + 5 * a)))]) hx hb dX4_isSound_133 hl (by decide) rfl (fun ls hl => ?_)
                    have loop135 : ∀ (fuel : Nat) (S3 : XS) (z3 : Bool) (c9 : Nat) (hK : KA S S3) (hc9 : c9 ≤ 4) (H : Heap) (locs : List Loc), 4 - c9 < fuel → WX dC dI ad S3 (AX ad) s H locs → ∀ ls : Array Slot, lv_has ls 7 [(0, .ref (ad 57)), (1, .int (bI z3)), (2, .int (nI a)), (3, .ref (ad (24 + 5 * a))), (4, .int (nI c9))] → W p l e ({ frames := 5, cells := 0, slots := 0, locals := 129 } : Room) s m ([.ref (ad 57)]).toArray below meth c H locs 0 0 (MQ below (va_Qi (fun r S' => (∃ z, r = bI z) ∧ KA S S') (PX dC dI ad) (AX ad)) ([.ref (ad 57)]).toArray s 0 0 (AX ad)) (F0 m 135 ls []) := by
                      intro fuel
                      induction fuel with
                      | zero => intro S3 z3 c9 hK hc9 H locs hf; exact absurd hf (Nat.not_lt_zero _)
                      | succ fuel ih135 =>
                        intro S3 z3 c9 hK hc9 H locs hf hX ls hl
                        refine lv_iload_n hx hb dX4_isSound_135 rfl (lv_at hl 1 rfl) ?_
                        refine kb_if_eq (tgt := 206) hx hb dX4_isSound_136 (by decide) (fun k_15 => ?_) (fun k_15 => ?_)
                        · skip
                          refine lv_iinc (v := nI (a + 1)) (lv' := [(2, .int (nI (a + 1))), (0, .ref (ad 57)), (1, .int (bI z3)), (3, .ref (ad (24 + 5 * a))), (4, .int (nI c9))]) hx hb dX4_isSound_206 hl (k := 2) rfl (nI_1 a) (by decide) rfl (fun ls hl => ?_)
                          refine lv_goto (tgt := 4) hx hb dX4_isSound_209 (by decide) ?_
                          exact ih4  S3 z3 (a + 1) hK (by omega) _ _ (by omega) hX _ (lv_sub hl [1, 2, 0] rfl)
                        · skip
                          refine lv_iload hx hb dX4_isSound_139 (lv_at hl 4 rfl) ?_
                          refine lv_iconst (v := nI 4) hx hb dX4_isSound_141 (by decide) ?_
                          refine kn_icmp_ge (tgt := 206) hx hb (by omega) (by omega) dX4_isSound_142 (by decide) (fun k_16 => ?_) (fun k_16 => ?_)
                          · skip
                            refine lv_iinc (v := nI (a + 1)) (lv' := [(2, .int (nI (a + 1))), (0, .ref (ad 57)), (1, .int (bI z3)), (3, .ref (ad (24 + 5 * a))), (4, .int (nI c9))]) hx hb dX4_isSound_206 hl (k := 2) rfl (nI_1 a) (by decide) rfl (fun ls hl => ?_)
                            refine lv_goto (tgt := 4) hx hb dX4_isSound_209 (by decide) ?_
                            exact ih4  S3 z3 (a + 1) hK (by omega) _ _ (by omega) hX _ (lv_sub hl [1, 2, 0] rfl)
                          · skip
                            refine lv_aload_n hx hb dX4_isSound_145 rfl (lv_at hl 0 rfl) ?_
                            refine lv_iload hx hb dX4_isSound_146 (lv_at hl 4 rfl) ?_
                            refine va_csr (va_Run.run (va_runV (As := [.int (nI c9)]) (rest := []) ⟨hx, hb, hml, hown, hts⟩ (m_X4_orderAt l dC dI ad S3 c9 (by omega)) (cwV 1 hts gX4_isSound_X4_orderAt rfl rfl rfl hdX4_orderAt_1 ⟨Nat.le_of_ble_eq_true rfl, Nat.le_of_ble_eq_true rfl⟩) (hX.preTop 57 6 (by decide) (by decide) rfl rfl) rfl rfl hl.1 rfl (lv_room (Nat.le_of_ble_eq_true rfl)) dX4_isSound_148 ⟨Nat.le_of_ble_eq_true rfl, Nat.le_of_ble_eq_true rfl⟩)) (fun k_ hk_ => ?_)
                            rw [hk_]
                            refine lv_astore (lv' := [(5, .ref (ad (24 + 5 * c9))), (0, .ref (ad 57)), (1, .int (bI z3)), (2, .int (nI a)), (3, .ref (ad (24 + 5 * a))), (4, .int (nI c9))]) hx hb dX4_isSound_151 hl (by decide) rfl (fun ls hl => ?_)
                            refine lv_aload_n hx hb dX4_isSound_153 rfl (lv_at hl 1 rfl) ?_
                            refine kx_gauditor hx hb hts hin4 hown hX (hts (.fieldLink RX4 31 "Orderlattice" "auditor" "LOrderlattice$Auditor;") (tm 452 (by decide +kernel) rfl)) dX4_isSound_154 ?_
                            refine lv_aload_n hx hb dX4_isSound_157 rfl (lv_at hl 4 rfl) ?_
                            refine lv_aload hx hb dX4_isSound_158 (lv_at hl 0 rfl) ?_
                            refine kx_ci (va_runV (As := [.ref (ad (24 + 5 * a)), .ref (ad (24 + 5 * c9))]) (rest := []) ⟨hx, hb, hml, hown, hts⟩ (m_X0_isRefiningSound l dC dI ad S3 a c9 (by omega) (by omega) hK.1 (by rw [hK.2.2.2 a (by omega)]; exact h5 a (by omega)) (by rw [hK.2.2.2 c9 (by omega)]; exact h5 c9 (by omega))) (cwV 2 hts gX4_isSound_X0_isRefiningSound rfl rfl rfl hdX0_isRefiningSound_2 ⟨Nat.le_of_ble_eq_true rfl, Nat.le_of_ble_eq_true rfl⟩) (hX.preTop 56 2 (by decide) (by decide) rfl rfl) rfl rfl hl.1 rfl (lv_room (Nat.le_of_ble_eq_true rfl)) dX4_isSound_160 ⟨Nat.le_of_ble_eq_true rfl, Nat.le_of_ble_eq_true rfl⟩) hX (fun _ h => h) (fun r_ S_17 H locs hw hX => ?_)
                            obtain ⟨⟨z_18, rfl⟩, hK9⟩ := hw
                            replace hK := KA_trans hK hK9
                            refine lv_istore_n (lv' := [(1, .int (bI z_18)), (5, .ref (ad (24 + 5 * c9))), (0, .ref (ad 57)), (2, .int (nI a)), (3, .ref (ad (24 + 5 * a))), (4, .int (nI c9))]) hx hb dX4_isSound_163 rfl hl (by decide) rfl (fun ls hl => ?_)
                            refine lv_iconst (v := nI 0) hx hb dX4_isSound_164 (by decide) ?_
                            refine lv_istore (lv' := [(6, .int (nI 0)), (1, .int (bI z_18)), (5, .ref (ad (24 + 5 * c9))), (0, .ref (ad 57)), (2, .int (nI a)), (3, .ref (ad (24 + 5 * a))), (4, .int (nI c9))]) hx hb dX4_isSound_165 hl (by decide) rfl (fun ls hl => ?_)
                            have loop167 : ∀ (fuel : Nat) (S4 : XS) (z4 : Bool) (d9 : Nat) (hK : KA S S4) (hd9 : d9 ≤ 3) (H : Heap) (locs : List Loc), 3 - d9 < fuel → WX dC dI ad S4 (AX ad) s H locs → ∀ ls : Array Slot, lv_has ls 7 [(0, .ref (ad 57)), (1, .int (bI z4)), (2, .int (nI a)), (3, .ref (ad (24 + 5 * a))), (4, .int (nI c9)), (5, .ref (ad (24 + 5 * c9))), (6, .int (nI d9))] → W p l e ({ frames := 5, cells := 0, slots := 0, locals := 129 } : Room) s m ([.ref (ad 57)]).toArray below meth c H locs 0 0 (MQ below (va_Qi (fun r S' => (∃ z, r = bI z) ∧ KA S S') (PX dC dI ad) (AX ad)) ([.ref (ad 57)]).toArray s 0 0 (AX ad)) (F0 m 167 ls []) := by
                              intro fuel
                              induction fuel with
                              | zero => intro S4 z4 d9 hK hd9 H locs hf; exact absurd hf (Nat.not_lt_zero _)
                              | succ fuel ih167 =>
                                intro S4 z4 d9 hK hd9 H locs hf hX ls hl
                                refine lv_iload_n hx hb dX4_isSound_167 rfl (lv_at hl 1 rfl) ?_
                                refine kb_if_eq (tgt := 200) hx hb dX4_isSound_168 (by decide) (fun k_19 => ?_) (fun k_19 => ?_)
                                · skip
                                  refine lv_iinc (v := nI (c9 + 1)) (lv' := [(4, .int (nI (c9 + 1))), (0, .ref (ad 57)), (1, .int (bI z4)), (2, .int (nI a)), (3, .ref (ad (24 + 5 * a))), (5, .ref (ad (24 + 5 * c9))), (6, .int (nI d9))]) hx hb dX4_isSound_200 hl (k := 4) rfl (nI_1 c9) (by decide) rfl (fun ls hl => ?_)
                                  refine lv_goto (tgt := 135) hx hb dX4_isSound_203 (by decide) ?_
                                  exact ih135  S4 z4 (c9 + 1) hK (by omega) _ _ (by omega) hX _ (lv_sub hl [1, 2, 3, 4, 0] rfl)
                                · skip
                                  refine lv_iload hx hb dX4_isSound_171 (lv_at hl 6 rfl) ?_
                                  refine lv_iconst (v := nI 3) hx hb dX4_isSound_173 (by decide) ?_
                                  refine kn_icmp_ge (tgt := 200) hx hb (by omega) (by omega) dX4_isSound_174 (by decide) (fun k_20 => ?_) (fun k_20 => ?_)
                                  · skip
                                    refine lv_iinc (v := nI (c9 + 1)) (lv' := [(4, .int (nI (c9 + 1))), (0, .ref (ad 57)), (1, .int (bI z4)), (2, .int (nI a)), (3, .ref (ad (24 + 5 * a))), (5, .ref (ad (24 + 5 * c9))), (6, .int (nI d9))]) hx hb dX4_isSound_200 hl (k := 4) rfl (nI_1 c9) (by decide) rfl (fun ls hl => ?_)
                                    refine lv_goto (tgt := 135) hx hb dX4_isSound_203 (by decide) ?_
                                    exact ih135  S4 z4 (c9 + 1) hK (by omega) _ _ (by omega) hX _ (lv_sub hl [1, 2, 3, 4, 0] rfl)
                                  · skip
                                    refine lv_aload_n hx hb dX4_isSound_177 rfl (lv_at hl 0 rfl) ?_
                                    refine kx_gauditor hx hb hts hin4 hown hX (hts (.fieldLink RX4 31 "Orderlattice" "auditor" "LOrderlattice$Auditor;") (tm 452 (by decide +kernel) rfl)) dX4_isSound_178 ?_
                                    refine lv_aload_n hx hb dX4_isSound_181 rfl (lv_at hl 0 rfl) ?_
                                    refine lv_iload hx hb dX4_isSound_182 (lv_at hl 6 rfl) ?_
                                    refine va_csr (va_Run.run (va_runV (As := [.int (nI d9)]) (rest := [.ref (ad 56)]) ⟨hx, hb, hml, hown, hts⟩ (m_X4_rowAt l dC dI ad S4 d9 (by omega)) (cwV 1 hts gX4_isSound_X4_rowAt rfl rfl rfl hdX4_rowAt_1 ⟨Nat.le_of_ble_eq_true rfl, Nat.le_of_ble_eq_true rfl⟩) (hX.preTop 57 6 (by decide) (by decide) rfl rfl) rfl rfl hl.1 rfl (lv_room (Nat.le_of_ble_eq_true rfl)) dX4_isSound_184 ⟨Nat.le_of_ble_eq_true rfl, Nat.le_of_ble_eq_true rfl⟩)) (fun k_ hk_ => ?_)
                                    rw [hk_]
                                    refine lv_aload_n hx hb dX4_isSound_187 rfl (lv_at hl 3 rfl) ?_
                                    refine lv_aload hx hb dX4_isSound_188 (lv_at hl 5 rfl) ?_
                                    refine kx_ci (va_runV (As := [.ref (ad (3 * d9)), .ref (ad (24 + 5 * a)), .ref (ad (24 + 5 * c9))]) (rest := []) ⟨hx, hb, hml, hown, hts⟩ (m_X0_isProductAlike l dC dI ad S4 d9 a c9 (by omega) (by omega) (by omega) hK.1 (by rw [hK.2.2.2 a (by omega)]; exact h5 a (by omega)) (by rw [hK.2.2.2 c9 (by omega)]; exact h5 c9 (by omega))) (cwV 3 hts gX4_isSound_X0_isProductAlike rfl rfl rfl hdX0_isProductAlike_3 ⟨Nat.le_of_ble_eq_true rfl, Nat.le_of_ble_eq_true rfl⟩) (hX.preTop 56 2 (by decide) (by decide) rfl rfl) rfl rfl hl.1 rfl (lv_room (Nat.le_of_ble_eq_true rfl)) dX4_isSound_190 ⟨Nat.le_of_ble_eq_true rfl, Nat.le_of_ble_eq_true rfl⟩) hX (fun _ h => h) (fun r_ S_21 H locs hw hX => ?_)
                                    obtain ⟨⟨z_22, rfl⟩, hK9⟩ := hw
                                    replace hK := KA_trans hK hK9
                                    refine lv_istore_n (lv' := [(1, .int (bI z_22)), (0, .ref (ad 57)), (2, .int (nI a)), (3, .ref (ad (24 + 5 * a))), (4, .int (nI c9)), (5, .ref (ad (24 + 5 * c9))), (6, .int (nI d9))]) hx hb dX4_isSound_193 rfl hl (by decide) rfl (fun ls hl => ?_)
                                    refine lv_iinc (v := nI (d9 + 1)) (lv' := [(6, .int (nI (d9 + 1))), (1, .int (bI z_22)), (0, .ref (ad 57)), (2, .int (nI a)), (3, .ref (ad (24 + 5 * a))), (4, .int (nI c9)), (5, .ref (ad (24 + 5 * c9)))]) hx hb dX4_isSound_194 hl (k := 6) rfl (nI_1 d9) (by decide) rfl (fun ls hl => ?_)
                                    refine lv_goto (tgt := 167) hx hb dX4_isSound_197 (by decide) ?_
                                    exact ih167  S_21 z_22 (d9 + 1) hK (by omega) _ _ (by omega) hX _ (lv_sub hl [2, 1, 3, 4, 5, 6, 0] rfl)
                            exact loop167 (3 + 1) S_17 z_18 0 hK (by omega) _ _ (by omega) (WX.eqS rfl hX) _ (lv_sub hl [3, 1, 4, 5, 6, 2, 0] rfl)
                    exact loop135 (4 + 1) S2 z2 0 hK (by omega) _ _ (by omega) (WX.eqS rfl hX) _ (lv_sub hl [1, 2, 3, 4, 0] rfl)
                  · skip
                    refine lv_aload_n hx hb dX4_isSound_60 rfl (lv_at hl 0 rfl) ?_
                    refine lv_iload hx hb dX4_isSound_61 (lv_at hl 4 rfl) ?_
                    refine va_csr (va_Run.run (va_runV (As := [.int (nI b9)]) (rest := []) ⟨hx, hb, hml, hown, hts⟩ (m_X4_rowAt l dC dI ad S2 b9 (by omega)) (cwV 1 hts gX4_isSound_X4_rowAt rfl rfl rfl hdX4_rowAt_1 ⟨Nat.le_of_ble_eq_true rfl, Nat.le_of_ble_eq_true rfl⟩) (hX.preTop 57 6 (by decide) (by decide) rfl rfl) rfl rfl hl.1 rfl (lv_room (Nat.le_of_ble_eq_true rfl)) dX4_isSound_63 ⟨Nat.le_of_ble_eq_true rfl, Nat.le_of_ble_eq_true rfl⟩)) (fun k_ hk_ => ?_)
                    rw [hk_]
                    refine lv_astore (lv' := [(5, .ref (ad (3 * b9))), (0, .ref (ad 57)), (1, .int (bI z2)), (2, .int (nI a)), (3, .ref (ad (24 + 5 * a))), (4, .int (nI b9))]) hx hb dX4_isSound_66 hl (by decide) rfl (fun ls hl => ?_)
                    refine lv_aload_n hx hb dX4_isSound_68 rfl (lv_at hl 1 rfl) ?_
                    refine kx_gauditor hx hb hts hin4 hown hX (hts (.fieldLink RX4 31 "Orderlattice" "auditor" "LOrderlattice$Auditor;") (tm 452 (by decide +kernel) rfl)) dX4_isSound_69 ?_
                    refine lv_aload hx hb dX4_isSound_72 (lv_at hl 0 rfl) ?_
                    refine lv_aload_n hx hb dX4_isSound_74 rfl (lv_at hl 4 rfl) ?_
                    refine kx_ci (va_runV (As := [.ref (ad (3 * b9)), .ref (ad (24 + 5 * a))]) (rest := []) ⟨hx, hb, hml, hown, hts⟩ (m_X0_areWaysAgreed l dC dI ad S2 b9 a (by omega) (by omega) hK.1) (cwV 2 hts gX4_isSound_X0_areWaysAgreed rfl rfl rfl hdX0_areWaysAgreed_2 ⟨Nat.le_of_ble_eq_true rfl, Nat.le_of_ble_eq_true rfl⟩) (hX.preTop 56 2 (by decide) (by decide) rfl rfl) rfl rfl hl.1 rfl (lv_room (Nat.le_of_ble_eq_true rfl)) dX4_isSound_75 ⟨Nat.le_of_ble_eq_true rfl, Nat.le_of_ble_eq_true rfl⟩) hX (fun _ h => h) (fun r_ S_23 H locs hw hX => ?_)
                    obtain ⟨⟨z_24, rfl⟩, hK9⟩ := hw
                    replace hK := KA_trans hK hK9
                    refine kb_if_eq (tgt := 124) hx hb dX4_isSound_78 (by decide) (fun k_25 => ?_) (fun k_25 => ?_)
                    · skip
                      refine lv_iconst (v := bI false) hx hb dX4_isSound_124 (by decide) ?_
                      refine lv_istore_n (lv' := [(1, .int (bI false)), (5, .ref (ad (3 * b9))), (0, .ref (ad 57)), (2, .int (nI a)), (3, .ref (ad (24 + 5 * a))), (4, .int (nI b9))]) hx hb dX4_isSound_125 rfl hl (by decide) rfl (fun ls hl => ?_)
                      refine lv_iinc (v := nI (b9 + 1)) (lv' := [(4, .int (nI (b9 + 1))), (1, .int (bI false)), (5, .ref (ad (3 * b9))), (0, .ref (ad 57)), (2, .int (nI a)), (3, .ref (ad (24 + 5 * a)))]) hx hb dX4_isSound_126 hl (k := 5) rfl (nI_1 b9) (by decide) rfl (fun ls hl => ?_)
                      refine lv_goto (tgt := 50) hx hb dX4_isSound_129 (by decide) ?_
                      exact ih50  S_23 false (b9 + 1) hK (by omega) _ _ (by omega) hX _ (lv_sub hl [3, 1, 4, 5, 0] rfl)
                    · skip
                      refine lv_aload_n hx hb dX4_isSound_81 rfl (lv_at hl 1 rfl) ?_
                      refine kx_gauditor hx hb hts hin4 hown hX (hts (.fieldLink RX4 31 "Orderlattice" "auditor" "LOrderlattice$Auditor;") (tm 452 (by decide +kernel) rfl)) dX4_isSound_82 ?_
                      refine lv_aload hx hb dX4_isSound_85 (lv_at hl 0 rfl) ?_
                      refine lv_aload_n hx hb dX4_isSound_87 rfl (lv_at hl 4 rfl) ?_
                      refine kx_ci (va_runV (As := [.ref (ad (3 * b9)), .ref (ad (24 + 5 * a))]) (rest := []) ⟨hx, hb, hml, hown, hts⟩ (m_X0_staysSorted l dC dI ad S_23 b9 a (by omega) (by omega) hK.1) (cwV 2 hts gX4_isSound_X0_staysSorted rfl rfl rfl hdX0_staysSorted_2 ⟨Nat.le_of_ble_eq_true rfl, Nat.le_of_ble_eq_true rfl⟩) (hX.preTop 56 2 (by decide) (by decide) rfl rfl) rfl rfl hl.1 rfl (lv_room (Nat.le_of_ble_eq_true rfl)) dX4_isSound_88 ⟨Nat.le_of_ble_eq_true rfl, Nat.le_of_ble_eq_true rfl⟩) hX (fun _ h => h) (fun r_ S_26 H locs hw hX => ?_)
                      obtain ⟨⟨z_27, rfl⟩, hK9⟩ := hw
                      replace hK := KA_trans hK hK9
                      refine kb_if_eq (tgt := 124) hx hb dX4_isSound_91 (by decide) (fun k_28 => ?_) (fun k_28 => ?_)
                      · skip
                        refine lv_iconst (v := bI false) hx hb dX4_isSound_124 (by decide) ?_
                        refine lv_istore_n (lv' := [(1, .int (bI false)), (5, .ref (ad (3 * b9))), (0, .ref (ad 57)), (2, .int (nI a)), (3, .ref (ad (24 + 5 * a))), (4, .int (nI b9))]) hx hb dX4_isSound_125 rfl hl (by decide) rfl (fun ls hl => ?_)
                        refine lv_iinc (v := nI (b9 + 1)) (lv' := [(4, .int (nI (b9 + 1))), (1, .int (bI false)), (5, .ref (ad (3 * b9))), (0, .ref (ad 57)), (2, .int (nI a)), (3, .ref (ad (24 + 5 * a)))]) hx hb dX4_isSound_126 hl (k := 5) rfl (nI_1 b9) (by decide) rfl (fun ls hl => ?_)
                        refine lv_goto (tgt := 50) hx hb dX4_isSound_129 (by decide) ?_
                        exact ih50  S_26 false (b9 + 1) hK (by omega) _ _ (by omega) hX _ (lv_sub hl [3, 1, 4, 5, 0] rfl)
                      · skip
                        refine lv_aload_n hx hb dX4_isSound_94 rfl (lv_at hl 1 rfl) ?_
                        refine kx_gauditor hx hb hts hin4 hown hX (hts (.fieldLink RX4 31 "Orderlattice" "auditor" "LOrderlattice$Auditor;") (tm 452 (by decide +kernel) rfl)) dX4_isSound_95 ?_
                        refine lv_aload hx hb dX4_isSound_98 (lv_at hl 0 rfl) ?_
                        refine lv_aload_n hx hb dX4_isSound_100 rfl (lv_at hl 4 rfl) ?_
                        refine kx_ci (va_runV (As := [.ref (ad (3 * b9)), .ref (ad (24 + 5 * a))]) (rest := []) ⟨hx, hb, hml, hown, hts⟩ (m_X0_isTurnedAlike l dC dI ad S_26 b9 a (by omega) (by omega) hK.1) (cwV 2 hts gX4_isSound_X0_isTurnedAlike rfl rfl rfl hdX0_isTurnedAlike_2 ⟨Nat.le_of_ble_eq_true rfl, Nat.le_of_ble_eq_true rfl⟩) (hX.preTop 56 2 (by decide) (by decide) rfl rfl) rfl rfl hl.1 rfl (lv_room (Nat.le_of_ble_eq_true rfl)) dX4_isSound_101 ⟨Nat.le_of_ble_eq_true rfl, Nat.le_of_ble_eq_true rfl⟩) hX (fun _ h => h) (fun r_ S_29 H locs hw hX => ?_)
                        obtain ⟨⟨z_30, rfl⟩, hK9⟩ := hw
                        replace hK := KA_trans hK hK9
                        refine kb_if_eq (tgt := 124) hx hb dX4_isSound_104 (by decide) (fun k_31 => ?_) (fun k_31 => ?_)
                        · skip
                          refine lv_iconst (v := bI false) hx hb dX4_isSound_124 (by decide) ?_
                          refine lv_istore_n (lv' := [(1, .int (bI false)), (5, .ref (ad (3 * b9))), (0, .ref (ad 57)), (2, .int (nI a)), (3, .ref (ad (24 + 5 * a))), (4, .int (nI b9))]) hx hb dX4_isSound_125 rfl hl (by decide) rfl (fun ls hl => ?_)
                          refine lv_iinc (v := nI (b9 + 1)) (lv' := [(4, .int (nI (b9 + 1))), (1, .int (bI false)), (5, .ref (ad (3 * b9))), (0, .ref (ad 57)), (2, .int (nI a)), (3, .ref (ad (24 + 5 * a)))]) hx hb dX4_isSound_126 hl (k := 5) rfl (nI_1 b9) (by decide) rfl (fun ls hl => ?_)
                          refine lv_goto (tgt := 50) hx hb dX4_isSound_129 (by decide) ?_
                          exact ih50  S_29 false (b9 + 1) hK (by omega) _ _ (by omega) hX _ (lv_sub hl [3, 1, 4, 5, 0] rfl)
                        · skip
                          refine lv_aload_n hx hb dX4_isSound_107 rfl (lv_at hl 1 rfl) ?_
                          refine kx_gauditor hx hb hts hin4 hown hX (hts (.fieldLink RX4 31 "Orderlattice" "auditor" "LOrderlattice$Auditor;") (tm 452 (by decide +kernel) rfl)) dX4_isSound_108 ?_
                          refine lv_aload hx hb dX4_isSound_111 (lv_at hl 0 rfl) ?_
                          refine lv_aload_n hx hb dX4_isSound_113 rfl (lv_at hl 4 rfl) ?_
                          refine kx_ci (va_runV (As := [.ref (ad (3 * b9)), .ref (ad (24 + 5 * a))]) (rest := []) ⟨hx, hb, hml, hown, hts⟩ (m_X0_isQueuedAlike l dC dI ad S_29 b9 a (by omega) (by omega) hK.1) (cwV 2 hts gX4_isSound_X0_isQueuedAlike rfl rfl rfl hdX0_isQueuedAlike_2 ⟨Nat.le_of_ble_eq_true rfl, Nat.le_of_ble_eq_true rfl⟩) (hX.preTop 56 2 (by decide) (by decide) rfl rfl) rfl rfl hl.1 rfl (lv_room (Nat.le_of_ble_eq_true rfl)) dX4_isSound_114 ⟨Nat.le_of_ble_eq_true rfl, Nat.le_of_ble_eq_true rfl⟩) hX (fun _ h => h) (fun r_ S_32 H locs hw hX => ?_)
                          obtain ⟨⟨z_33, rfl⟩, hK9⟩ := hw
                          replace hK := KA_trans hK hK9
                          refine kb_if_eq (tgt := 124) hx hb dX4_isSound_117 (by decide) (fun k_34 => ?_) (fun k_34 => ?_)
                          · skip
                            refine lv_iconst (v := bI false) hx hb dX4_isSound_124 (by decide) ?_
                            refine lv_istore_n (lv' := [(1, .int (bI false)), (5, .ref (ad (3 * b9))), (0, .ref (ad 57)), (2, .int (nI a)), (3, .ref (ad (24 + 5 * a))), (4, .int (nI b9))]) hx hb dX4_isSound_125 rfl hl (by decide) rfl (fun ls hl => ?_)
                            refine lv_iinc (v := nI (b9 + 1)) (lv' := [(4, .int (nI (b9 + 1))), (1, .int (bI false)), (5, .ref (ad (3 * b9))), (0, .ref (ad 57)), (2, .int (nI a)), (3, .ref (ad (24 + 5 * a)))]) hx hb dX4_isSound_126 hl (k := 5) rfl (nI_1 b9) (by decide) rfl (fun ls hl => ?_)
                            refine lv_goto (tgt := 50) hx hb dX4_isSound_129 (by decide) ?_
                            exact ih50  S_32 false (b9 + 1) hK (by omega) _ _ (by omega) hX _ (lv_sub hl [3, 1, 4, 5, 0] rfl)
                          · skip
                            refine lv_iconst (v := bI true) hx hb dX4_isSound_120 (by decide) ?_
                            refine lv_goto (tgt := 125) hx hb dX4_isSound_121 (by decide) ?_
                            refine lv_istore_n (lv' := [(1, .int (bI true)), (5, .ref (ad (3 * b9))), (0, .ref (ad 57)), (2, .int (nI a)), (3, .ref (ad (24 + 5 * a))), (4, .int (nI b9))]) hx hb dX4_isSound_125 rfl hl (by decide) rfl (fun ls hl => ?_)
                            refine lv_iinc (v := nI (b9 + 1)) (lv' := [(4, .int (nI (b9 + 1))), (1, .int (bI true)), (5, .ref (ad (3 * b9))), (0, .ref (ad 57)), (2, .int (nI a)), (3, .ref (ad (24 + 5 * a)))]) hx hb dX4_isSound_126 hl (k := 5) rfl (nI_1 b9) (by decide) rfl (fun ls hl => ?_)
                            refine lv_goto (tgt := 50) hx hb dX4_isSound_129 (by decide) ?_
                            exact ih50  S_32 true (b9 + 1) hK (by omega) _ _ (by omega) hX _ (lv_sub hl [3, 1, 4, 5, 0] rfl)
            exact loop50 (3 + 1) S1 false 0 hK (by omega) _ _ (by omega) (WX.eqS rfl hX) _ (lv_sub hl [3, 1, 4, 2, 0] rfl)
          · skip
            refine lv_iconst (v := bI true) hx hb dX4_isSound_41 (by decide) ?_
            refine lv_goto (tgt := 46) hx hb dX4_isSound_42 (by decide) ?_
            refine lv_istore_n (lv' := [(1, .int (bI true)), (3, .ref (ad (24 + 5 * a))), (0, .ref (ad 57)), (2, .int (nI a))]) hx hb dX4_isSound_46 rfl hl (by decide) rfl (fun ls hl => ?_)
            refine lv_iconst (v := nI 0) hx hb dX4_isSound_47 (by decide) ?_
            refine lv_istore (lv' := [(4, .int (nI 0)), (1, .int (bI true)), (3, .ref (ad (24 + 5 * a))), (0, .ref (ad 57)), (2, .int (nI a))]) hx hb dX4_isSound_48 hl (by decide) rfl (fun ls hl => ?_)
            have loop50 : ∀ (fuel : Nat) (S2 : XS) (z2 : Bool) (b9 : Nat) (hK : KA S S2) (hb9 : b9 ≤ 3) (H : Heap) (locs : List Loc), 3 - b9 < fuel → WX dC dI ad S2 (AX ad) s H locs → ∀ ls : Array Slot, lv_has ls 7 [(0, .ref (ad 57)), (1, .int (bI z2)), (2, .int (nI a)), (3, .ref (ad (24 + 5 * a))), (4, .int (nI b9))] → W p l e ({ frames := 5, cells := 0, slots := 0, locals := 129 } : Room) s m ([.ref (ad 57)]).toArray below meth c H locs 0 0 (MQ below (va_Qi (fun r S' => (∃ z, r = bI z) ∧ KA S S') (PX dC dI ad) (AX ad)) ([.ref (ad 57)]).toArray s 0 0 (AX ad)) (F0 m 50 ls []) := by
              intro fuel
              induction fuel with
              | zero => intro S2 z2 b9 hK hb9 H locs hf; exact absurd hf (Nat.not_lt_zero _)
              | succ fuel ih50 =>
                intro S2 z2 b9 hK hb9 H locs hf hX ls hl
                refine lv_iload_n hx hb dX4_isSound_50 rfl (lv_at hl 1 rfl) ?_
                refine kb_if_eq (tgt := 132) hx hb dX4_isSound_51 (by decide) (fun k_35 => ?_) (fun k_35 => ?_)
                · skip
                  refine lv_iconst (v := nI 0) hx hb dX4_isSound_132 (by decide) ?_
                  refine lv_istore (lv' := [(4, .int (nI 0)), (0, .ref (ad 57)), (1, .int (bI z2)), (2, .int (nI a)), (3, .ref (ad (24 + 5 * a)))]) hx hb dX4_isSound_133 hl (by decide) rfl (fun ls hl => ?_)
                  have loop135 : ∀ (fuel : Nat) (S3 : XS) (z3 : Bool) (c9 : Nat) (hK : KA S S3) (hc9 : c9 ≤ 4) (H : Heap) (locs : List Loc), 4 - c9 < fuel → WX dC dI ad S3 (AX ad) s H locs → ∀ ls : Array Slot, lv_has ls 7 [(0, .ref (ad 57)), (1, .int (bI z3)), (2, .int (nI a)), (3, .ref (ad (24 + 5 * a))), (4, .int (nI c9))] → W p l e ({ frames := 5, cells := 0, slots := 0, locals := 129 } : Room) s m ([.ref (ad 57)]).toArray below meth c H locs 0 0 (MQ below (va_Qi (fun r S' => (∃ z, r = bI z) ∧ KA S S') (PX dC dI ad) (AX ad)) ([.ref (ad 57)]).toArray s 0 0 (AX ad)) (F0 m 135 ls []) := by
                    intro fuel
                    induction fuel with
                    | zero => intro S3 z3 c9 hK hc9 H locs hf; exact absurd hf (Nat.not_lt_zero _)
                    | succ fuel ih135 =>
                      intro S3 z3 c9 hK hc9 H locs hf hX ls hl
                      refine lv_iload_n hx hb dX4_isSound_135 rfl (lv_at hl 1 rfl) ?_
                      refine kb_if_eq (tgt := 206) hx hb dX4_isSound_136 (by decide) (fun k_36 => ?_) (fun k_36 => ?_)
                      · skip
                        refine lv_iinc (v := nI (a + 1)) (lv' := [(2, .int (nI (a + 1))), (0, .ref (ad 57)), (1, .int (bI z3)), (3, .ref (ad (24 + 5 * a))), (4, .int (nI c9))]) hx hb dX4_isSound_206 hl (k := 2) rfl (nI_1 a) (by decide) rfl (fun ls hl => ?_)
                        refine lv_goto (tgt := 4) hx hb dX4_isSound_209 (by decide) ?_
                        exact ih4  S3 z3 (a + 1) hK (by omega) _ _ (by omega) hX _ (lv_sub hl [1, 2, 0] rfl)
                      · skip
                        refine lv_iload hx hb dX4_isSound_139 (lv_at hl 4 rfl) ?_
                        refine lv_iconst (v := nI 4) hx hb dX4_isSound_141 (by decide) ?_
                        refine kn_icmp_ge (tgt := 206) hx hb (by omega) (by omega) dX4_isSound_142 (by decide) (fun k_37 => ?_) (fun k_37 => ?_)
                        · skip
                          refine lv_iinc (v := nI (a + 1)) (lv' := [(2, .int (nI (a + 1))), (0, .ref (ad 57)), (1, .int (bI z3)), (3, .ref (ad (24 + 5 * a))), (4, .int (nI c9))]) hx hb dX4_isSound_206 hl (k := 2) rfl (nI_1 a) (by decide) rfl (fun ls hl => ?_)
                          refine lv_goto (tgt := 4) hx hb dX4_isSound_209 (by decide) ?_
                          exact ih4  S3 z3 (a + 1) hK (by omega) _ _ (by omega) hX _ (lv_sub hl [1, 2, 0] rfl)
                        · skip
                          refine lv_aload_n hx hb dX4_isSound_145 rfl (lv_at hl 0 rfl) ?_
                          refine lv_iload hx hb dX4_isSound_146 (lv_at hl 4 rfl) ?_
                          refine va_csr (va_Run.run (va_runV (As := [.int (nI c9)]) (rest := []) ⟨hx, hb, hml, hown, hts⟩ (m_X4_orderAt l dC dI ad S3 c9 (by omega)) (cwV 1 hts gX4_isSound_X4_orderAt rfl rfl rfl hdX4_orderAt_1 ⟨Nat.le_of_ble_eq_true rfl, Nat.le_of_ble_eq_true rfl⟩) (hX.preTop 57 6 (by decide) (by decide) rfl rfl) rfl rfl hl.1 rfl (lv_room (Nat.le_of_ble_eq_true rfl)) dX4_isSound_148 ⟨Nat.le_of_ble_eq_true rfl, Nat.le_of_ble_eq_true rfl⟩)) (fun k_ hk_ => ?_)
                          rw [hk_]
                          refine lv_astore (lv' := [(5, .ref (ad (24 + 5 * c9))), (0, .ref (ad 57)), (1, .int (bI z3)), (2, .int (nI a)), (3, .ref (ad (24 + 5 * a))), (4, .int (nI c9))]) hx hb dX4_isSound_151 hl (by decide) rfl (fun ls hl => ?_)
                          refine lv_aload_n hx hb dX4_isSound_153 rfl (lv_at hl 1 rfl) ?_
                          refine kx_gauditor hx hb hts hin4 hown hX (hts (.fieldLink RX4 31 "Orderlattice" "auditor" "LOrderlattice$Auditor;") (tm 452 (by decide +kernel) rfl)) dX4_isSound_154 ?_
                          refine lv_aload_n hx hb dX4_isSound_157 rfl (lv_at hl 4 rfl) ?_
                          refine lv_aload hx hb dX4_isSound_158 (lv_at hl 0 rfl) ?_
                          refine kx_ci (va_runV (As := [.ref (ad (24 + 5 * a)), .ref (ad (24 + 5 * c9))]) (rest := []) ⟨hx, hb, hml, hown, hts⟩ (m_X0_isRefiningSound l dC dI ad S3 a c9 (by omega) (by omega) hK.1 (by rw [hK.2.2.2 a (by omega)]; exact h5 a (by omega)) (by rw [hK.2.2.2 c9 (by omega)]; exact h5 c9 (by omega))) (cwV 2 hts gX4_isSound_X0_isRefiningSound rfl rfl rfl hdX0_isRefiningSound_2 ⟨Nat.le_of_ble_eq_true rfl, Nat.le_of_ble_eq_true rfl⟩) (hX.preTop 56 2 (by decide) (by decide) rfl rfl) rfl rfl hl.1 rfl (lv_room (Nat.le_of_ble_eq_true rfl)) dX4_isSound_160 ⟨Nat.le_of_ble_eq_true rfl, Nat.le_of_ble_eq_true rfl⟩) hX (fun _ h => h) (fun r_ S_38 H locs hw hX => ?_)
                          obtain ⟨⟨z_39, rfl⟩, hK9⟩ := hw
                          replace hK := KA_trans hK hK9
                          refine lv_istore_n (lv' := [(1, .int (bI z_39)), (5, .ref (ad (24 + 5 * c9))), (0, .ref (ad 57)), (2, .int (nI a)), (3, .ref (ad (24 + 5 * a))), (4, .int (nI c9))]) hx hb dX4_isSound_163 rfl hl (by decide) rfl (fun ls hl => ?_)
                          refine lv_iconst (v := nI 0) hx hb dX4_isSound_164 (by decide) ?_
                          refine lv_istore (lv' := [(6, .int (nI 0)), (1, .int (bI z_39)), (5, .ref (ad (24 + 5 * c9))), (0, .ref (ad 57)), (2, .int (nI a)), (3, .ref (ad (24 + 5 * a))), (4, .int (nI c9))]) hx hb dX4_isSound_165 hl (by decide) rfl (fun ls hl => ?_)
                          have loop167 : ∀ (fuel : Nat) (S4 : XS) (z4 : Bool) (d9 : Nat) (hK : KA S S4) (hd9 : d9 ≤ 3) (H : Heap) (locs : List Loc), 3 - d9 < fuel → WX dC dI ad S4 (AX ad) s H locs → ∀ ls : Array Slot, lv_has ls 7 [(0, .ref (ad 57)), (1, .int (bI z4)), (2, .int (nI a)), (3, .ref (ad (24 + 5 * a))), (4, .int (nI c9)), (5, .ref (ad (24 + 5 * c9))), (6, .int (nI d9))] → W p l e ({ frames := 5, cells := 0, slots := 0, locals := 129 } : Room) s m ([.ref (ad 57)]).toArray below meth c H locs 0 0 (MQ below (va_Qi (fun r S' => (∃ z, r = bI z) ∧ KA S S') (PX dC dI ad) (AX ad)) ([.ref (ad 57)]).toArray s 0 0 (AX ad)) (F0 m 167 ls []) := by
                            intro fuel
                            induction fuel with
                            | zero => intro S4 z4 d9 hK hd9 H locs hf; exact absurd hf (Nat.not_lt_zero _)
                            | succ fuel ih167 =>
                              intro S4 z4 d9 hK hd9 H locs hf hX ls hl
                              refine lv_iload_n hx hb dX4_isSound_167 rfl (lv_at hl 1 rfl) ?_
                              refine kb_if_eq (tgt := 200) hx hb dX4_isSound_168 (by decide) (fun k_40 => ?_) (fun k_40 => ?_)
                              · skip
                                refine lv_iinc (v := nI (c9 + 1)) (lv' := [(4, .int (nI (c9 + 1))), (0, .ref (ad 57)), (1, .int (bI z4)), (2, .int (nI a)), (3, .ref (ad (24 + 5 * a))), (5, .ref (ad (24 + 5 * c9))), (6, .int (nI d9))]) hx hb dX4_isSound_200 hl (k := 4) rfl (nI_1 c9) (by decide) rfl (fun ls hl => ?_)
                                refine lv_goto (tgt := 135) hx hb dX4_isSound_203 (by decide) ?_
                                exact ih135  S4 z4 (c9 + 1) hK (by omega) _ _ (by omega) hX _ (lv_sub hl [1, 2, 3, 4, 0] rfl)
                              · skip
                                refine lv_iload hx hb dX4_isSound_171 (lv_at hl 6 rfl) ?_
                                refine lv_iconst (v := nI 3) hx hb dX4_isSound_173 (by decide) ?_
                                refine kn_icmp_ge (tgt := 200) hx hb (by omega) (by omega) dX4_isSound_174 (by decide) (fun k_41 => ?_) (fun k_41 => ?_)
                                · skip
                                  refine lv_iinc (v := nI (c9 + 1)) (lv' := [(4, .int (nI (c9 + 1))), (0, .ref (ad 57)), (1, .int (bI z4)), (2, .int (nI a)), (3, .ref (ad (24 + 5 * a))), (5, .ref (ad (24 + 5 * c9))), (6, .int (nI d9))]) hx hb dX4_isSound_200 hl (k := 4) rfl (nI_1 c9) (by decide) rfl (fun ls hl => ?_)
                                  refine lv_goto (tgt := 135) hx hb dX4_isSound_203 (by decide) ?_
                                  exact ih135  S4 z4 (c9 + 1) hK (by omega) _ _ (by omega) hX _ (lv_sub hl [1, 2, 3, 4, 0] rfl)
                                · skip
                                  refine lv_aload_n hx hb dX4_isSound_177 rfl (lv_at hl 0 rfl) ?_
                                  refine kx_gauditor hx hb hts hin4 hown hX (hts (.fieldLink RX4 31 "Orderlattice" "auditor" "LOrderlattice$Auditor;") (tm 452 (by decide +kernel) rfl)) dX4_isSound_178 ?_
                                  refine lv_aload_n hx hb dX4_isSound_181 rfl (lv_at hl 0 rfl) ?_
                                  refine lv_iload hx hb dX4_isSound_182 (lv_at hl 6 rfl) ?_
                                  refine va_csr (va_Run.run (va_runV (As := [.int (nI d9)]) (rest := [.ref (ad 56)]) ⟨hx, hb, hml, hown, hts⟩ (m_X4_rowAt l dC dI ad S4 d9 (by omega)) (cwV 1 hts gX4_isSound_X4_rowAt rfl rfl rfl hdX4_rowAt_1 ⟨Nat.le_of_ble_eq_true rfl, Nat.le_of_ble_eq_true rfl⟩) (hX.preTop 57 6 (by decide) (by decide) rfl rfl) rfl rfl hl.1 rfl (lv_room (Nat.le_of_ble_eq_true rfl)) dX4_isSound_184 ⟨Nat.le_of_ble_eq_true rfl, Nat.le_of_ble_eq_true rfl⟩)) (fun k_ hk_ => ?_)
                                  rw [hk_]
                                  refine lv_aload_n hx hb dX4_isSound_187 rfl (lv_at hl 3 rfl) ?_
                                  refine lv_aload hx hb dX4_isSound_188 (lv_at hl 5 rfl) ?_
                                  refine kx_ci (va_runV (As := [.ref (ad (3 * d9)), .ref (ad (24 + 5 * a)), .ref (ad (24 + 5 * c9))]) (rest := []) ⟨hx, hb, hml, hown, hts⟩ (m_X0_isProductAlike l dC dI ad S4 d9 a c9 (by omega) (by omega) (by omega) hK.1 (by rw [hK.2.2.2 a (by omega)]; exact h5 a (by omega)) (by rw [hK.2.2.2 c9 (by omega)]; exact h5 c9 (by omega))) (cwV 3 hts gX4_isSound_X0_isProductAlike rfl rfl rfl hdX0_isProductAlike_3 ⟨Nat.le_of_ble_eq_true rfl, Nat.le_of_ble_eq_true rfl⟩) (hX.preTop 56 2 (by decide) (by decide) rfl rfl) rfl rfl hl.1 rfl (lv_room (Nat.le_of_ble_eq_true rfl)) dX4_isSound_190 ⟨Nat.le_of_ble_eq_true rfl, Nat.le_of_ble_eq_true rfl⟩) hX (fun _ h => h) (fun r_ S_42 H locs hw hX => ?_)
                                  obtain ⟨⟨z_43, rfl⟩, hK9⟩ := hw
                                  replace hK := KA_trans hK hK9
                                  refine lv_istore_n (lv' := [(1, .int (bI z_43)), (0, .ref (ad 57)), (2, .int (nI a)), (3, .ref (ad (24 + 5 * a))), (4, .int (nI c9)), (5, .ref (ad (24 + 5 * c9))), (6, .int (nI d9))]) hx hb dX4_isSound_193 rfl hl (by decide) rfl (fun ls hl => ?_)
                                  refine lv_iinc (v := nI (d9 + 1)) (lv' := [(6, .int (nI (d9 + 1))), (1, .int (bI z_43)), (0, .ref (ad 57)), (2, .int (nI a)), (3, .ref (ad (24 + 5 * a))), (4, .int (nI c9)), (5, .ref (ad (24 + 5 * c9)))]) hx hb dX4_isSound_194 hl (k := 6) rfl (nI_1 d9) (by decide) rfl (fun ls hl => ?_)
                                  refine lv_goto (tgt := 167) hx hb dX4_isSound_197 (by decide) ?_
                                  exact ih167  S_42 z_43 (d9 + 1) hK (by omega) _ _ (by omega) hX _ (lv_sub hl [2, 1, 3, 4, 5, 6, 0] rfl)
                          exact loop167 (3 + 1) S_38 z_39 0 hK (by omega) _ _ (by omega) (WX.eqS rfl hX) _ (lv_sub hl [3, 1, 4, 5, 6, 2, 0] rfl)
                  exact loop135 (4 + 1) S2 z2 0 hK (by omega) _ _ (by omega) (WX.eqS rfl hX) _ (lv_sub hl [1, 2, 3, 4, 0] rfl)
                · skip
                  refine lv_iload hx hb dX4_isSound_54 (lv_at hl 4 rfl) ?_
                  refine lv_iconst (v := nI 3) hx hb dX4_isSound_56 (by decide) ?_
                  refine kn_icmp_ge (tgt := 132) hx hb (by omega) (by omega) dX4_isSound_57 (by decide) (fun k_44 => ?_) (fun k_44 => ?_)
                  · skip
                    refine lv_iconst (v := nI 0) hx hb dX4_isSound_132 (by decide) ?_
                    refine lv_istore (lv' := [(4, .int (nI 0)), (0, .ref (ad 57)), (1, .int (bI z2)), (2, .int (nI a)), (3, .ref (ad (24 + 5 * a)))]) hx hb dX4_isSound_133 hl (by decide) rfl (fun ls hl => ?_)
                    have loop135 : ∀ (fuel : Nat) (S3 : XS) (z3 : Bool) (c9 : Nat) (hK : KA S S3) (hc9 : c9 ≤ 4) (H : Heap) (locs : List Loc), 4 - c9 < fuel → WX dC dI ad S3 (AX ad) s H locs → ∀ ls : Array Slot, lv_has ls 7 [(0, .ref (ad 57)), (1, .int (bI z3)), (2, .int (nI a)), (3, .ref (ad (24 + 5 * a))), (4, .int (nI c9))] → W p l e ({ frames := 5, cells := 0, slots := 0, locals := 129 } : Room) s m ([.ref (ad 57)]).toArray below meth c H locs 0 0 (MQ below (va_Qi (fun r S' => (∃ z, r = bI z) ∧ KA S S') (PX dC dI ad) (AX ad)) ([.ref (ad 57)]).toArray s 0 0 (AX ad)) (F0 m 135 ls []) := by
                      intro fuel
                      induction fuel with
                      | zero => intro S3 z3 c9 hK hc9 H locs hf; exact absurd hf (Nat.not_lt_zero _)
                      | succ fuel ih135 =>
                        intro S3 z3 c9 hK hc9 H locs hf hX ls hl
                        refine lv_iload_n hx hb dX4_isSound_135 rfl (lv_at hl 1 rfl) ?_
                        refine kb_if_eq (tgt := 206) hx hb dX4_isSound_136 (by decide) (fun k_45 => ?_) (fun k_45 => ?_)
                        · skip
                          refine lv_iinc (v := nI (a + 1)) (lv' := [(2, .int (nI (a + 1))), (0, .ref (ad 57)), (1, .int (bI z3)), (3, .ref (ad (24 + 5 * a))), (4, .int (nI c9))]) hx hb dX4_isSound_206 hl (k := 2) rfl (nI_1 a) (by decide) rfl (fun ls hl => ?_)
                          refine lv_goto (tgt := 4) hx hb dX4_isSound_209 (by decide) ?_
                          exact ih4  S3 z3 (a + 1) hK (by omega) _ _ (by omega) hX _ (lv_sub hl [1, 2, 0] rfl)
                        · skip
                          refine lv_iload hx hb dX4_isSound_139 (lv_at hl 4 rfl) ?_
                          refine lv_iconst (v := nI 4) hx hb dX4_isSound_141 (by decide) ?_
                          refine kn_icmp_ge (tgt := 206) hx hb (by omega) (by omega) dX4_isSound_142 (by decide) (fun k_46 => ?_) (fun k_46 => ?_)
                          · skip
                            refine lv_iinc (v := nI (a + 1)) (lv' := [(2, .int (nI (a + 1))), (0, .ref (ad 57)), (1, .int (bI z3)), (3, .ref (ad (24 + 5 * a))), (4, .int (nI c9))]) hx hb dX4_isSound_206 hl (k := 2) rfl (nI_1 a) (by decide) rfl (fun ls hl => ?_)
                            refine lv_goto (tgt := 4) hx hb dX4_isSound_209 (by decide) ?_
                            exact ih4  S3 z3 (a + 1) hK (by omega) _ _ (by omega) hX _ (lv_sub hl [1, 2, 0] rfl)
                          · skip
                            refine lv_aload_n hx hb dX4_isSound_145 rfl (lv_at hl 0 rfl) ?_
                            refine lv_iload hx hb dX4_isSound_146 (lv_at hl 4 rfl) ?_
                            refine va_csr (va_Run.run (va_runV (As := [.int (nI c9)]) (rest := []) ⟨hx, hb, hml, hown, hts⟩ (m_X4_orderAt l dC dI ad S3 c9 (by omega)) (cwV 1 hts gX4_isSound_X4_orderAt rfl rfl rfl hdX4_orderAt_1 ⟨Nat.le_of_ble_eq_true rfl, Nat.le_of_ble_eq_true rfl⟩) (hX.preTop 57 6 (by decide) (by decide) rfl rfl) rfl rfl hl.1 rfl (lv_room (Nat.le_of_ble_eq_true rfl)) dX4_isSound_148 ⟨Nat.le_of_ble_eq_true rfl, Nat.le_of_ble_eq_true rfl⟩)) (fun k_ hk_ => ?_)
                            rw [hk_]
                            refine lv_astore (lv' := [(5, .ref (ad (24 + 5 * c9))), (0, .ref (ad 57)), (1, .int (bI z3)), (2, .int (nI a)), (3, .ref (ad (24 + 5 * a))), (4, .int (nI c9))]) hx hb dX4_isSound_151 hl (by decide) rfl (fun ls hl => ?_)
                            refine lv_aload_n hx hb dX4_isSound_153 rfl (lv_at hl 1 rfl) ?_
                            refine kx_gauditor hx hb hts hin4 hown hX (hts (.fieldLink RX4 31 "Orderlattice" "auditor" "LOrderlattice$Auditor;") (tm 452 (by decide +kernel) rfl)) dX4_isSound_154 ?_
                            refine lv_aload_n hx hb dX4_isSound_157 rfl (lv_at hl 4 rfl) ?_
                            refine lv_aload hx hb dX4_isSound_158 (lv_at hl 0 rfl) ?_
                            refine kx_ci (va_runV (As := [.ref (ad (24 + 5 * a)), .ref (ad (24 + 5 * c9))]) (rest := []) ⟨hx, hb, hml, hown, hts⟩ (m_X0_isRefiningSound l dC dI ad S3 a c9 (by omega) (by omega) hK.1 (by rw [hK.2.2.2 a (by omega)]; exact h5 a (by omega)) (by rw [hK.2.2.2 c9 (by omega)]; exact h5 c9 (by omega))) (cwV 2 hts gX4_isSound_X0_isRefiningSound rfl rfl rfl hdX0_isRefiningSound_2 ⟨Nat.le_of_ble_eq_true rfl, Nat.le_of_ble_eq_true rfl⟩) (hX.preTop 56 2 (by decide) (by decide) rfl rfl) rfl rfl hl.1 rfl (lv_room (Nat.le_of_ble_eq_true rfl)) dX4_isSound_160 ⟨Nat.le_of_ble_eq_true rfl, Nat.le_of_ble_eq_true rfl⟩) hX (fun _ h => h) (fun r_ S_47 H locs hw hX => ?_)
                            obtain ⟨⟨z_48, rfl⟩, hK9⟩ := hw
                            replace hK := KA_trans hK hK9
                            refine lv_istore_n (lv' := [(1, .int (bI z_48)), (5, .ref (ad (24 + 5 * c9))), (0, .ref (ad 57)), (2, .int (nI a)), (3, .ref (ad (24 + 5 * a))), (4, .int (nI c9))]) hx hb dX4_isSound_163 rfl hl (by decide) rfl (fun ls hl => ?_)
                            refine lv_iconst (v := nI 0) hx hb dX4_isSound_164 (by decide) ?_
                            refine lv_istore (lv' := [(6, .int (nI 0)), (1, .int (bI z_48)), (5, .ref (ad (24 + 5 * c9))), (0, .ref (ad 57)), (2, .int (nI a)), (3, .ref (ad (24 + 5 * a))), (4, .int (nI c9))]) hx hb dX4_isSound_165 hl (by decide) rfl (fun ls hl => ?_)
                            have loop167 : ∀ (fuel : Nat) (S4 : XS) (z4 : Bool) (d9 : Nat) (hK : KA S S4) (hd9 : d9 ≤ 3) (H : Heap) (locs : List Loc), 3 - d9 < fuel → WX dC dI ad S4 (AX ad) s H locs → ∀ ls : Array Slot, lv_has ls 7 [(0, .ref (ad 57)), (1, .int (bI z4)), (2, .int (nI a)), (3, .ref (ad (24 + 5 * a))), (4, .int (nI c9)), (5, .ref (ad (24 + 5 * c9))), (6, .int (nI d9))] → W p l e ({ frames := 5, cells := 0, slots := 0, locals := 129 } : Room) s m ([.ref (ad 57)]).toArray below meth c H locs 0 0 (MQ below (va_Qi (fun r S' => (∃ z, r = bI z) ∧ KA S S') (PX dC dI ad) (AX ad)) ([.ref (ad 57)]).toArray s 0 0 (AX ad)) (F0 m 167 ls []) := by
                              intro fuel
                              induction fuel with
                              | zero => intro S4 z4 d9 hK hd9 H locs hf; exact absurd hf (Nat.not_lt_zero _)
                              | succ fuel ih167 =>
                                intro S4 z4 d9 hK hd9 H locs hf hX ls hl
                                refine lv_iload_n hx hb dX4_isSound_167 rfl (lv_at hl 1 rfl) ?_
                                refine kb_if_eq (tgt := 200) hx hb dX4_isSound_168 (by decide) (fun k_49 => ?_) (fun k_49 => ?_)
                                · skip
                                  refine lv_iinc (v := nI (c9 + 1)) (lv' := [(4, .int (nI (c9 + 1))), (0, .ref (ad 57)), (1, .int (bI z4)), (2, .int (nI a)), (3, .ref (ad (24 + 5 * a))), (5, .ref (ad (24 + 5 * c9))), (6, .int (nI d9))]) hx hb dX4_isSound_200 hl (k := 4) rfl (nI_1 c9) (by decide) rfl (fun ls hl => ?_)
                                  refine lv_goto (tgt := 135) hx hb dX4_isSound_203 (by decide) ?_
                                  exact ih135  S4 z4 (c9 + 1) hK (by omega) _ _ (by omega) hX _ (lv_sub hl [1, 2, 3, 4, 0] rfl)
                                · skip
                                  refine lv_iload hx hb dX4_isSound_171 (lv_at hl 6 rfl) ?_
                                  refine lv_iconst (v := nI 3) hx hb dX4_isSound_173 (by decide) ?_
                                  refine kn_icmp_ge (tgt := 200) hx hb (by omega) (by omega) dX4_isSound_174 (by decide) (fun k_50 => ?_) (fun k_50 => ?_)
                                  · skip
                                    refine lv_iinc (v := nI (c9 + 1)) (lv' := [(4, .int (nI (c9 + 1))), (0, .ref (ad 57)), (1, .int (bI z4)), (2, .int (nI a)), (3, .ref (ad (24 + 5 * a))), (5, .ref (ad (24 + 5 * c9))), (6, .int (nI d9))]) hx hb dX4_isSound_200 hl (k := 4) rfl (nI_1 c9) (by decide) rfl (fun ls hl => ?_)
                                    refine lv_goto (tgt := 135) hx hb dX4_isSound_203 (by decide) ?_
                                    exact ih135  S4 z4 (c9 + 1) hK (by omega) _ _ (by omega) hX _ (lv_sub hl [1, 2, 3, 4, 0] rfl)
                                  · skip
                                    refine lv_aload_n hx hb dX4_isSound_177 rfl (lv_at hl 0 rfl) ?_
                                    refine kx_gauditor hx hb hts hin4 hown hX (hts (.fieldLink RX4 31 "Orderlattice" "auditor" "LOrderlattice$Auditor;") (tm 452 (by decide +kernel) rfl)) dX4_isSound_178 ?_
                                    refine lv_aload_n hx hb dX4_isSound_181 rfl (lv_at hl 0 rfl) ?_
                                    refine lv_iload hx hb dX4_isSound_182 (lv_at hl 6 rfl) ?_
                                    refine va_csr (va_Run.run (va_runV (As := [.int (nI d9)]) (rest := [.ref (ad 56)]) ⟨hx, hb, hml, hown, hts⟩ (m_X4_rowAt l dC dI ad S4 d9 (by omega)) (cwV 1 hts gX4_isSound_X4_rowAt rfl rfl rfl hdX4_rowAt_1 ⟨Nat.le_of_ble_eq_true rfl, Nat.le_of_ble_eq_true rfl⟩) (hX.preTop 57 6 (by decide) (by decide) rfl rfl) rfl rfl hl.1 rfl (lv_room (Nat.le_of_ble_eq_true rfl)) dX4_isSound_184 ⟨Nat.le_of_ble_eq_true rfl, Nat.le_of_ble_eq_true rfl⟩)) (fun k_ hk_ => ?_)
                                    rw [hk_]
                                    refine lv_aload_n hx hb dX4_isSound_187 rfl (lv_at hl 3 rfl) ?_
                                    refine lv_aload hx hb dX4_isSound_188 (lv_at hl 5 rfl) ?_
                                    refine kx_ci (va_runV (As := [.ref (ad (3 * d9)), .ref (ad (24 + 5 * a)), .ref (ad (24 + 5 * c9))]) (rest := []) ⟨hx, hb, hml, hown, hts⟩ (m_X0_isProductAlike l dC dI ad S4 d9 a c9 (by omega) (by omega) (by omega) hK.1 (by rw [hK.2.2.2 a (by omega)]; exact h5 a (by omega)) (by rw [hK.2.2.2 c9 (by omega)]; exact h5 c9 (by omega))) (cwV 3 hts gX4_isSound_X0_isProductAlike rfl rfl rfl hdX0_isProductAlike_3 ⟨Nat.le_of_ble_eq_true rfl, Nat.le_of_ble_eq_true rfl⟩) (hX.preTop 56 2 (by decide) (by decide) rfl rfl) rfl rfl hl.1 rfl (lv_room (Nat.le_of_ble_eq_true rfl)) dX4_isSound_190 ⟨Nat.le_of_ble_eq_true rfl, Nat.le_of_ble_eq_true rfl⟩) hX (fun _ h => h) (fun r_ S_51 H locs hw hX => ?_)
                                    obtain ⟨⟨z_52, rfl⟩, hK9⟩ := hw
                                    replace hK := KA_trans hK hK9
                                    refine lv_istore_n (lv' := [(1, .int (bI z_52)), (0, .ref (ad 57)), (2, .int (nI a)), (3, .ref (ad (24 + 5 * a))), (4, .int (nI c9)), (5, .ref (ad (24 + 5 * c9))), (6, .int (nI d9))]) hx hb dX4_isSound_193 rfl hl (by decide) rfl (fun ls hl => ?_)
                                    refine lv_iinc (v := nI (d9 + 1)) (lv' := [(6, .int (nI (d9 + 1))), (1, .int (bI z_52)), (0, .ref (ad 57)), (2, .int (nI a)), (3, .ref (ad (24 + 5 * a))), (4, .int (nI c9)), (5, .ref (ad (24 + 5 * c9)))]) hx hb dX4_isSound_194 hl (k := 6) rfl (nI_1 d9) (by decide) rfl (fun ls hl => ?_)
                                    refine lv_goto (tgt := 167) hx hb dX4_isSound_197 (by decide) ?_
                                    exact ih167  S_51 z_52 (d9 + 1) hK (by omega) _ _ (by omega) hX _ (lv_sub hl [2, 1, 3, 4, 5, 6, 0] rfl)
                            exact loop167 (3 + 1) S_47 z_48 0 hK (by omega) _ _ (by omega) (WX.eqS rfl hX) _ (lv_sub hl [3, 1, 4, 5, 6, 2, 0] rfl)
                    exact loop135 (4 + 1) S2 z2 0 hK (by omega) _ _ (by omega) (WX.eqS rfl hX) _ (lv_sub hl [1, 2, 3, 4, 0] rfl)
                  · skip
                    refine lv_aload_n hx hb dX4_isSound_60 rfl (lv_at hl 0 rfl) ?_
                    refine lv_iload hx hb dX4_isSound_61 (lv_at hl 4 rfl) ?_
                    refine va_csr (va_Run.run (va_runV (As := [.int (nI b9)]) (rest := []) ⟨hx, hb, hml, hown, hts⟩ (m_X4_rowAt l dC dI ad S2 b9 (by omega)) (cwV 1 hts gX4_isSound_X4_rowAt rfl rfl rfl hdX4_rowAt_1 ⟨Nat.le_of_ble_eq_true rfl, Nat.le_of_ble_eq_true rfl⟩) (hX.preTop 57 6 (by decide) (by decide) rfl rfl) rfl rfl hl.1 rfl (lv_room (Nat.le_of_ble_eq_true rfl)) dX4_isSound_63 ⟨Nat.le_of_ble_eq_true rfl, Nat.le_of_ble_eq_true rfl⟩)) (fun k_ hk_ => ?_)
                    rw [hk_]
                    refine lv_astore (lv' := [(5, .ref (ad (3 * b9))), (0, .ref (ad 57)), (1, .int (bI z2)), (2, .int (nI a)), (3, .ref (ad (24 + 5 * a))), (4, .int (nI b9))]) hx hb dX4_isSound_66 hl (by decide) rfl (fun ls hl => ?_)
                    refine lv_aload_n hx hb dX4_isSound_68 rfl (lv_at hl 1 rfl) ?_
                    refine kx_gauditor hx hb hts hin4 hown hX (hts (.fieldLink RX4 31 "Orderlattice" "auditor" "LOrderlattice$Auditor;") (tm 452 (by decide +kernel) rfl)) dX4_isSound_69 ?_
                    refine lv_aload hx hb dX4_isSound_72 (lv_at hl 0 rfl) ?_
                    refine lv_aload_n hx hb dX4_isSound_74 rfl (lv_at hl 4 rfl) ?_
                    refine kx_ci (va_runV (As := [.ref (ad (3 * b9)), .ref (ad (24 + 5 * a))]) (rest := []) ⟨hx, hb, hml, hown, hts⟩ (m_X0_areWaysAgreed l dC dI ad S2 b9 a (by omega) (by omega) hK.1) (cwV 2 hts gX4_isSound_X0_areWaysAgreed rfl rfl rfl hdX0_areWaysAgreed_2 ⟨Nat.le_of_ble_eq_true rfl, Nat.le_of_ble_eq_true rfl⟩) (hX.preTop 56 2 (by decide) (by decide) rfl rfl) rfl rfl hl.1 rfl (lv_room (Nat.le_of_ble_eq_true rfl)) dX4_isSound_75 ⟨Nat.le_of_ble_eq_true rfl, Nat.le_of_ble_eq_true rfl⟩) hX (fun _ h => h) (fun r_ S_53 H locs hw hX => ?_)
                    obtain ⟨⟨z_54, rfl⟩, hK9⟩ := hw
                    replace hK := KA_trans hK hK9
                    refine kb_if_eq (tgt := 124) hx hb dX4_isSound_78 (by decide) (fun k_55 => ?_) (fun k_55 => ?_)
                    · skip
                      refine lv_iconst (v := bI false) hx hb dX4_isSound_124 (by decide) ?_
                      refine lv_istore_n (lv' := [(1, .int (bI false)), (5, .ref (ad (3 * b9))), (0, .ref (ad 57)), (2, .int (nI a)), (3, .ref (ad (24 + 5 * a))), (4, .int (nI b9))]) hx hb dX4_isSound_125 rfl hl (by decide) rfl (fun ls hl => ?_)
                      refine lv_iinc (v := nI (b9 + 1)) (lv' := [(4, .int (nI (b9 + 1))), (1, .int (bI false)), (5, .ref (ad (3 * b9))), (0, .ref (ad 57)), (2, .int (nI a)), (3, .ref (ad (24 + 5 * a)))]) hx hb dX4_isSound_126 hl (k := 5) rfl (nI_1 b9) (by decide) rfl (fun ls hl => ?_)
                      refine lv_goto (tgt := 50) hx hb dX4_isSound_129 (by decide) ?_
                      exact ih50  S_53 false (b9 + 1) hK (by omega) _ _ (by omega) hX _ (lv_sub hl [3, 1, 4, 5, 0] rfl)
                    · skip
                      refine lv_aload_n hx hb dX4_isSound_81 rfl (lv_at hl 1 rfl) ?_
                      refine kx_gauditor hx hb hts hin4 hown hX (hts (.fieldLink RX4 31 "Orderlattice" "auditor" "LOrderlattice$Auditor;") (tm 452 (by decide +kernel) rfl)) dX4_isSound_82 ?_
                      refine lv_aload hx hb dX4_isSound_85 (lv_at hl 0 rfl) ?_
                      refine lv_aload_n hx hb dX4_isSound_87 rfl (lv_at hl 4 rfl) ?_
                      refine kx_ci (va_runV (As := [.ref (ad (3 * b9)), .ref (ad (24 + 5 * a))]) (rest := []) ⟨hx, hb, hml, hown, hts⟩ (m_X0_staysSorted l dC dI ad S_53 b9 a (by omega) (by omega) hK.1) (cwV 2 hts gX4_isSound_X0_staysSorted rfl rfl rfl hdX0_staysSorted_2 ⟨Nat.le_of_ble_eq_true rfl, Nat.le_of_ble_eq_true rfl⟩) (hX.preTop 56 2 (by decide) (by decide) rfl rfl) rfl rfl hl.1 rfl (lv_room (Nat.le_of_ble_eq_true rfl)) dX4_isSound_88 ⟨Nat.le_of_ble_eq_true rfl, Nat.le_of_ble_eq_true rfl⟩) hX (fun _ h => h) (fun r_ S_56 H locs hw hX => ?_)
                      obtain ⟨⟨z_57, rfl⟩, hK9⟩ := hw
                      replace hK := KA_trans hK hK9
                      refine kb_if_eq (tgt := 124) hx hb dX4_isSound_91 (by decide) (fun k_58 => ?_) (fun k_58 => ?_)
                      · skip
                        refine lv_iconst (v := bI false) hx hb dX4_isSound_124 (by decide) ?_
                        refine lv_istore_n (lv' := [(1, .int (bI false)), (5, .ref (ad (3 * b9))), (0, .ref (ad 57)), (2, .int (nI a)), (3, .ref (ad (24 + 5 * a))), (4, .int (nI b9))]) hx hb dX4_isSound_125 rfl hl (by decide) rfl (fun ls hl => ?_)
                        refine lv_iinc (v := nI (b9 + 1)) (lv' := [(4, .int (nI (b9 + 1))), (1, .int (bI false)), (5, .ref (ad (3 * b9))), (0, .ref (ad 57)), (2, .int (nI a)), (3, .ref (ad (24 + 5 * a)))]) hx hb dX4_isSound_126 hl (k := 5) rfl (nI_1 b9) (by decide) rfl (fun ls hl => ?_)
                        refine lv_goto (tgt := 50) hx hb dX4_isSound_129 (by decide) ?_
                        exact ih50  S_56 false (b9 + 1) hK (by omega) _ _ (by omega) hX _ (lv_sub hl [3, 1, 4, 5, 0] rfl)
                      · skip
                        refine lv_aload_n hx hb dX4_isSound_94 rfl (lv_at hl 1 rfl) ?_
                        refine kx_gauditor hx hb hts hin4 hown hX (hts (.fieldLink RX4 31 "Orderlattice" "auditor" "LOrderlattice$Auditor;") (tm 452 (by decide +kernel) rfl)) dX4_isSound_95 ?_
                        refine lv_aload hx hb dX4_isSound_98 (lv_at hl 0 rfl) ?_
                        refine lv_aload_n hx hb dX4_isSound_100 rfl (lv_at hl 4 rfl) ?_
                        refine kx_ci (va_runV (As := [.ref (ad (3 * b9)), .ref (ad (24 + 5 * a))]) (rest := []) ⟨hx, hb, hml, hown, hts⟩ (m_X0_isTurnedAlike l dC dI ad S_56 b9 a (by omega) (by omega) hK.1) (cwV 2 hts gX4_isSound_X0_isTurnedAlike rfl rfl rfl hdX0_isTurnedAlike_2 ⟨Nat.le_of_ble_eq_true rfl, Nat.le_of_ble_eq_true rfl⟩) (hX.preTop 56 2 (by decide) (by decide) rfl rfl) rfl rfl hl.1 rfl (lv_room (Nat.le_of_ble_eq_true rfl)) dX4_isSound_101 ⟨Nat.le_of_ble_eq_true rfl, Nat.le_of_ble_eq_true rfl⟩) hX (fun _ h => h) (fun r_ S_59 H locs hw hX => ?_)
                        obtain ⟨⟨z_60, rfl⟩, hK9⟩ := hw
                        replace hK := KA_trans hK hK9
                        refine kb_if_eq (tgt := 124) hx hb dX4_isSound_104 (by decide) (fun k_61 => ?_) (fun k_61 => ?_)
                        · skip
                          refine lv_iconst (v := bI false) hx hb dX4_isSound_124 (by decide) ?_
                          refine lv_istore_n (lv' := [(1, .int (bI false)), (5, .ref (ad (3 * b9))), (0, .ref (ad 57)), (2, .int (nI a)), (3, .ref (ad (24 + 5 * a))), (4, .int (nI b9))]) hx hb dX4_isSound_125 rfl hl (by decide) rfl (fun ls hl => ?_)
                          refine lv_iinc (v := nI (b9 + 1)) (lv' := [(4, .int (nI (b9 + 1))), (1, .int (bI false)), (5, .ref (ad (3 * b9))), (0, .ref (ad 57)), (2, .int (nI a)), (3, .ref (ad (24 + 5 * a)))]) hx hb dX4_isSound_126 hl (k := 5) rfl (nI_1 b9) (by decide) rfl (fun ls hl => ?_)
                          refine lv_goto (tgt := 50) hx hb dX4_isSound_129 (by decide) ?_
                          exact ih50  S_59 false (b9 + 1) hK (by omega) _ _ (by omega) hX _ (lv_sub hl [3, 1, 4, 5, 0] rfl)
                        · skip
                          refine lv_aload_n hx hb dX4_isSound_107 rfl (lv_at hl 1 rfl) ?_
                          refine kx_gauditor hx hb hts hin4 hown hX (hts (.fieldLink RX4 31 "Orderlattice" "auditor" "LOrderlattice$Auditor;") (tm 452 (by decide +kernel) rfl)) dX4_isSound_108 ?_
                          refine lv_aload hx hb dX4_isSound_111 (lv_at hl 0 rfl) ?_
                          refine lv_aload_n hx hb dX4_isSound_113 rfl (lv_at hl 4 rfl) ?_
                          refine kx_ci (va_runV (As := [.ref (ad (3 * b9)), .ref (ad (24 + 5 * a))]) (rest := []) ⟨hx, hb, hml, hown, hts⟩ (m_X0_isQueuedAlike l dC dI ad S_59 b9 a (by omega) (by omega) hK.1) (cwV 2 hts gX4_isSound_X0_isQueuedAlike rfl rfl rfl hdX0_isQueuedAlike_2 ⟨Nat.le_of_ble_eq_true rfl, Nat.le_of_ble_eq_true rfl⟩) (hX.preTop 56 2 (by decide) (by decide) rfl rfl) rfl rfl hl.1 rfl (lv_room (Nat.le_of_ble_eq_true rfl)) dX4_isSound_114 ⟨Nat.le_of_ble_eq_true rfl, Nat.le_of_ble_eq_true rfl⟩) hX (fun _ h => h) (fun r_ S_62 H locs hw hX => ?_)
                          obtain ⟨⟨z_63, rfl⟩, hK9⟩ := hw
                          replace hK := KA_trans hK hK9
                          refine kb_if_eq (tgt := 124) hx hb dX4_isSound_117 (by decide) (fun k_64 => ?_) (fun k_64 => ?_)
                          · skip
                            refine lv_iconst (v := bI false) hx hb dX4_isSound_124 (by decide) ?_
                            refine lv_istore_n (lv' := [(1, .int (bI false)), (5, .ref (ad (3 * b9))), (0, .ref (ad 57)), (2, .int (nI a)), (3, .ref (ad (24 + 5 * a))), (4, .int (nI b9))]) hx hb dX4_isSound_125 rfl hl (by decide) rfl (fun ls hl => ?_)
                            refine lv_iinc (v := nI (b9 + 1)) (lv' := [(4, .int (nI (b9 + 1))), (1, .int (bI false)), (5, .ref (ad (3 * b9))), (0, .ref (ad 57)), (2, .int (nI a)), (3, .ref (ad (24 + 5 * a)))]) hx hb dX4_isSound_126 hl (k := 5) rfl (nI_1 b9) (by decide) rfl (fun ls hl => ?_)
                            refine lv_goto (tgt := 50) hx hb dX4_isSound_129 (by decide) ?_
                            exact ih50  S_62 false (b9 + 1) hK (by omega) _ _ (by omega) hX _ (lv_sub hl [3, 1, 4, 5, 0] rfl)
                          · skip
                            refine lv_iconst (v := bI true) hx hb dX4_isSound_120 (by decide) ?_
                            refine lv_goto (tgt := 125) hx hb dX4_isSound_121 (by decide) ?_
                            refine lv_istore_n (lv' := [(1, .int (bI true)), (5, .ref (ad (3 * b9))), (0, .ref (ad 57)), (2, .int (nI a)), (3, .ref (ad (24 + 5 * a))), (4, .int (nI b9))]) hx hb dX4_isSound_125 rfl hl (by decide) rfl (fun ls hl => ?_)
                            refine lv_iinc (v := nI (b9 + 1)) (lv' := [(4, .int (nI (b9 + 1))), (1, .int (bI true)), (5, .ref (ad (3 * b9))), (0, .ref (ad 57)), (2, .int (nI a)), (3, .ref (ad (24 + 5 * a)))]) hx hb dX4_isSound_126 hl (k := 5) rfl (nI_1 b9) (by decide) rfl (fun ls hl => ?_)
                            refine lv_goto (tgt := 50) hx hb dX4_isSound_129 (by decide) ?_
                            exact ih50  S_62 true (b9 + 1) hK (by omega) _ _ (by omega) hX _ (lv_sub hl [3, 1, 4, 5, 0] rfl)
            exact loop50 (3 + 1) S1 true 0 hK (by omega) _ _ (by omega) (WX.eqS rfl hX) _ (lv_sub hl [3, 1, 4, 2, 0] rfl)
  exact loop4 (4 + 1) S true 0 hK (by omega) _ _ (by omega) (WX.eqS rfl hX) _ (lv_sub hl [2, 1, 0] rfl)
set_option maxHeartbeats 4000000 in
set_option maxRecDepth 100000 in
theorem m_X4_digest (l : Launch) (dC : Nat → ClassId) (dI : Nat → Nat → Nat) (ad : Nat → Nat) (S : XS) (hI : InvX S) (h5 : ∀ j, j < 4 → (S.2.1 j).2.2.2.2.1 ≤ 5) (hc : S.2.2.1 < 2 ^ 31 ∧ S.2.2.2.1 < 2 ^ 31 ∧ S.2.2.2.2 < 2 ^ 31) : Met l yX4_digest wsX4_digest ({ frames := 6, cells := 0, slots := 0, locals := 155 } : Room) (va_Pc [.ref (ad 57)] (PX dC dI ad S)) (va_Ql (fun r S' => (∃ z, r = mixI (mixSeqs S (mixPairs S (mixOrders S (mixRows S (iterL (fun k d => mixI d (countX S k)) 5 (lN 7842)))))) (bN z)) ∧ KA S S') (PX dC dI ad) (AX ad)) 0 0 (AX ad) := by
  refine Met.ofW (cc := cX4_digest) (maxL := 4) (ret := (some .long)) pl_X4 rfl ?_
  intro p e s m args below meth c s₁ B hml hv
  obtain ⟨rfl, hPX⟩ := hv
  have hx := B.exec
  have hb := B.bytes
  have hr := B.returns
  have hts := atoms_spec (ws := wsX4_digest) B.pre
  have hown : s.vm.findClass RX4 = some m.cls := findClass_of_methodNamed B.named
  have hlocks := B.notSynchronized
  have hX := WX.of hPX
  have hl := lv_entry ([.ref (ad 57)]) (n := 4) (Nat.le_of_ble_eq_true rfl)
  rw [lg_entry_eq]
  generalize (lg_sl ([.ref (ad 57)]) ++ List.replicate (4 - (lg_sl ([.ref (ad 57)])).length) Slot.unset).toArray = ls at hl ⊢
  have hl : lv_has ls 4 [(0, .ref (ad 57))] := hl
  show W p l e ({ frames := 6, cells := 0, slots := 0, locals := 155 } : Room) s m ([.ref (ad 57)]).toArray below meth c s.heap [] 0 0 (MQ below (va_Ql (fun r S' => (∃ z, r = mixI (mixSeqs S (mixPairs S (mixOrders S (mixRows S (iterL (fun k d => mixI d (countX S k)) 5 (lN 7842)))))) (bN z)) ∧ KA S S') (PX dC dI ad) (AX ad)) ([.ref (ad 57)]).toArray s 0 0 (AX ad)) (F0 m 0 ls [])
  refine lv_ldc2 (v := lN 7842) hx hb hown (hts (.constantLong RX4 279 7842) (tm 660 (by decide +kernel) rfl)) dX4_digest_0 ?_
  refine lv_lstore_n (lv' := [(1, .long (lN 7842)), (0, .ref (ad 57))]) hx hb dX4_digest_3 rfl hl (by decide) rfl (fun ls hl => ?_)
  refine lv_iconst (v := nI 0) hx hb dX4_digest_4 (by decide) ?_
  refine lv_istore_n (lv' := [(3, .int (nI 0)), (1, .long (lN 7842)), (0, .ref (ad 57))]) hx hb dX4_digest_5 rfl hl (by decide) rfl (fun ls hl => ?_)
  have loop6 : ∀ (fuel : Nat) (x : Int64) (k : Nat) (hk : k ≤ 5) (hx9 : x = iterL (fun k d => mixI d (countX S k)) k (lN 7842)), 5 - k < fuel → ∀ ls : Array Slot, lv_has ls 4 [(0, .ref (ad 57)), (1, .long x), (3, .int (nI k))] → W p l e ({ frames := 6, cells := 0, slots := 0, locals := 155 } : Room) s m ([.ref (ad 57)]).toArray below meth c s.heap [] 0 0 (MQ below (va_Ql (fun r S' => (∃ z, r = mixI (mixSeqs S (mixPairs S (mixOrders S (mixRows S (iterL (fun k d => mixI d (countX S k)) 5 (lN 7842)))))) (bN z)) ∧ KA S S') (PX dC dI ad) (AX ad)) ([.ref (ad 57)]).toArray s 0 0 (AX ad)) (F0 m 6 ls []) := by
    intro fuel
    induction fuel with
    | zero => intro x k hk hx9 hf; exact absurd hf (Nat.not_lt_zero _)
    | succ fuel ih6 =>
      intro x k hk hx9 hf ls hl
      refine lv_iload_n hx hb dX4_digest_6 rfl (lv_at hl 2 rfl) ?_
      refine lv_iconst (v := nI 5) hx hb dX4_digest_7 (by decide) ?_
      refine kn_icmp_ge (tgt := 27) hx hb (by omega) (by omega) dX4_digest_8 (by decide) (fun k_1 => ?_) (fun k_1 => ?_)
      · skip
        refine lv_aload_n hx hb dX4_digest_27 rfl (lv_at hl 0 rfl) ?_
        refine lv_lload_n hx hb dX4_digest_28 rfl (lv_at hl 1 rfl) ?_
        refine kx_crl (v := mixRows S x) (va_runV (As := [.long x]) (rest := []) ⟨hx, hb, hml, hown, hts⟩ (m_X4_mixedWithRows l dC dI ad S x hI) (cwV 1 hts gX4_digest_X4_mixedWithRows rfl rfl rfl hdX4_mixedWithRows_1 ⟨Nat.le_of_ble_eq_true rfl, Nat.le_of_ble_eq_true rfl⟩) (hX.preTop 57 6 (by decide) (by decide) rfl rfl) rfl rfl hl.1 rfl (lv_room (Nat.le_of_ble_eq_true rfl)) dX4_digest_29 ⟨Nat.le_of_ble_eq_true rfl, Nat.le_of_ble_eq_true rfl⟩) (fun _ h => h) ?_
        refine lv_lstore_n (lv' := [(1, .long (mixRows S x)), (0, .ref (ad 57)), (3, .int (nI k))]) hx hb dX4_digest_32 rfl hl (by decide) rfl (fun ls hl => ?_)
        refine lv_aload_n hx hb dX4_digest_33 rfl (lv_at hl 1 rfl) ?_
        refine lv_lload_n hx hb dX4_digest_34 rfl (lv_at hl 0 rfl) ?_
        refine kx_crl (v := mixOrders S (mixRows S x)) (va_runV (As := [.long (mixRows S x)]) (rest := []) ⟨hx, hb, hml, hown, hts⟩ (m_X4_mixedWithOrders l dC dI ad S (mixRows S x) hI) (cwV 1 hts gX4_digest_X4_mixedWithOrders rfl rfl rfl hdX4_mixedWithOrders_1 ⟨Nat.le_of_ble_eq_true rfl, Nat.le_of_ble_eq_true rfl⟩) (hX.preTop 57 6 (by decide) (by decide) rfl rfl) rfl rfl hl.1 rfl (lv_room (Nat.le_of_ble_eq_true rfl)) dX4_digest_35 ⟨Nat.le_of_ble_eq_true rfl, Nat.le_of_ble_eq_true rfl⟩) (fun _ h => h) ?_
        refine lv_lstore_n (lv' := [(1, .long (mixOrders S (mixRows S x))), (0, .ref (ad 57)), (3, .int (nI k))]) hx hb dX4_digest_38 rfl hl (by decide) rfl (fun ls hl => ?_)
        refine lv_aload_n hx hb dX4_digest_39 rfl (lv_at hl 1 rfl) ?_
        refine lv_lload_n hx hb dX4_digest_40 rfl (lv_at hl 0 rfl) ?_
        refine kx_crl (v := mixPairs S (mixOrders S (mixRows S x))) (va_runV (As := [.long (mixOrders S (mixRows S x))]) (rest := []) ⟨hx, hb, hml, hown, hts⟩ (m_X4_mixedWithPairs l dC dI ad S (mixOrders S (mixRows S x)) hI) (cwV 1 hts gX4_digest_X4_mixedWithPairs rfl rfl rfl hdX4_mixedWithPairs_1 ⟨Nat.le_of_ble_eq_true rfl, Nat.le_of_ble_eq_true rfl⟩) (hX.preTop 57 6 (by decide) (by decide) rfl rfl) rfl rfl hl.1 rfl (lv_room (Nat.le_of_ble_eq_true rfl)) dX4_digest_41 ⟨Nat.le_of_ble_eq_true rfl, Nat.le_of_ble_eq_true rfl⟩) (fun _ h => h) ?_
        refine lv_lstore_n (lv' := [(1, .long (mixPairs S (mixOrders S (mixRows S x)))), (0, .ref (ad 57)), (3, .int (nI k))]) hx hb dX4_digest_44 rfl hl (by decide) rfl (fun ls hl => ?_)
        refine lv_aload_n hx hb dX4_digest_45 rfl (lv_at hl 1 rfl) ?_
        refine lv_lload_n hx hb dX4_digest_46 rfl (lv_at hl 0 rfl) ?_
        refine kx_crl (v := mixSeqs S (mixPairs S (mixOrders S (mixRows S x)))) (va_runV (As := [.long (mixPairs S (mixOrders S (mixRows S x)))]) (rest := []) ⟨hx, hb, hml, hown, hts⟩ (m_X4_mixedWithSequences l dC dI ad S (mixPairs S (mixOrders S (mixRows S x))) hI) (cwV 1 hts gX4_digest_X4_mixedWithSequences rfl rfl rfl hdX4_mixedWithSequences_1 ⟨Nat.le_of_ble_eq_true rfl, Nat.le_of_ble_eq_true rfl⟩) (hX.preTop 57 6 (by decide) (by decide) rfl rfl) rfl rfl hl.1 rfl (lv_room (Nat.le_of_ble_eq_true rfl)) dX4_digest_47 ⟨Nat.le_of_ble_eq_true rfl, Nat.le_of_ble_eq_true rfl⟩) (fun _ h => h) ?_
        refine lv_lstore_n (lv' := [(1, .long (mixSeqs S (mixPairs S (mixOrders S (mixRows S x))))), (0, .ref (ad 57)), (3, .int (nI k))]) hx hb dX4_digest_50 rfl hl (by decide) rfl (fun ls hl => ?_)
        refine lv_lload_n hx hb dX4_digest_51 rfl (lv_at hl 0 rfl) ?_
        refine lv_aload_n hx hb dX4_digest_52 rfl (lv_at hl 1 rfl) ?_
        refine kx_ci (va_runV (As := []) (rest := [.long (mixSeqs S (mixPairs S (mixOrders S (mixRows S x))))]) ⟨hx, hb, hml, hown, hts⟩ (m_X4_isSound l dC dI ad S hI h5) (cwV 0 hts gX4_digest_X4_isSound rfl rfl rfl hdX4_isSound_0 ⟨Nat.le_of_ble_eq_true rfl, Nat.le_of_ble_eq_true rfl⟩) (hX.preTop 57 6 (by decide) (by decide) rfl rfl) rfl rfl hl.1 rfl (lv_room (Nat.le_of_ble_eq_true rfl)) dX4_digest_53 ⟨Nat.le_of_ble_eq_true rfl, Nat.le_of_ble_eq_true rfl⟩) hX (fun _ h => h) (fun r_ S_2 H locs hw hX => ?_)
        obtain ⟨⟨z_3, rfl⟩, hK⟩ := hw
        refine kb_if_eq (tgt := 63) hx hb dX4_digest_56 (by decide) (fun k_4 => ?_) (fun k_4 => ?_)
        · skip
          have hz := k_4
          refine lv_iconst (v := nI 0) hx hb dX4_digest_63 (by decide) ?_
          refine kx_crl (v := mixI (mixSeqs S (mixPairs S (mixOrders S (mixRows S x)))) 0) (va_runS (As := [.long (mixSeqs S (mixPairs S (mixOrders S (mixRows S x)))), .int (nI 0)]) (rest := []) ⟨hx, hb, hml, hown, hts⟩ (m_X4_mixed l dC dI ad S_2 (mixSeqs S (mixPairs S (mixOrders S (mixRows S x)))) 0 (by omega)) (va_cwS 2 hts gX4_digest_X4_mixed rfl rfl rfl hdX4_mixed_2.2 ⟨Nat.le_of_ble_eq_true rfl, Nat.le_of_ble_eq_true rfl⟩) hX.preS rfl rfl hl.1 rfl (lv_room (Nat.le_of_ble_eq_true rfl)) dX4_digest_64 ⟨Nat.le_of_ble_eq_true rfl, Nat.le_of_ble_eq_true rfl⟩) (fun _ h => h) ?_
          exact W.lret (v := mixI (mixSeqs S (mixPairs S (mixOrders S (mixRows S x)))) 0) hx hb hr (fun t9 ht9 hW9 => ⟨⟨_, S_2, rfl, ⟨⟨false, by rw [hx9, show k = 5 by omega]; rfl⟩, hK⟩, hX.P ht9 hW9⟩, hX.2.2.2.F ht9⟩) hX.2.2.2.2.2 dX4_digest_67
        · skip
          have hz := k_4
          refine lv_iconst (v := nI 1) hx hb dX4_digest_59 (by decide) ?_
          refine lv_goto (tgt := 64) hx hb dX4_digest_60 (by decide) ?_
          refine kx_crl (v := mixI (mixSeqs S (mixPairs S (mixOrders S (mixRows S x)))) 1) (va_runS (As := [.long (mixSeqs S (mixPairs S (mixOrders S (mixRows S x)))), .int (nI 1)]) (rest := []) ⟨hx, hb, hml, hown, hts⟩ (m_X4_mixed l dC dI ad S_2 (mixSeqs S (mixPairs S (mixOrders S (mixRows S x)))) 1 (by omega)) (va_cwS 2 hts gX4_digest_X4_mixed rfl rfl rfl hdX4_mixed_2.2 ⟨Nat.le_of_ble_eq_true rfl, Nat.le_of_ble_eq_true rfl⟩) hX.preS rfl rfl hl.1 rfl (lv_room (Nat.le_of_ble_eq_true rfl)) dX4_digest_64 ⟨Nat.le_of_ble_eq_true rfl, Nat.le_of_ble_eq_true rfl⟩) (fun _ h => h) ?_
          exact W.lret (v := mixI (mixSeqs S (mixPairs S (mixOrders S (mixRows S x)))) 1) hx hb hr (fun t9 ht9 hW9 => ⟨⟨_, S_2, rfl, ⟨⟨true, by rw [hx9, show k = 5 by omega]; rfl⟩, hK⟩, hX.P ht9 hW9⟩, hX.2.2.2.F ht9⟩) hX.2.2.2.2.2 dX4_digest_67
      · skip
        refine lv_lload_n hx hb dX4_digest_11 rfl (lv_at hl 1 rfl) ?_
        refine lv_aload_n hx hb dX4_digest_12 rfl (lv_at hl 0 rfl) ?_
        refine lv_iload_n hx hb dX4_digest_13 rfl (lv_at hl 2 rfl) ?_
        have hcx : countX S k < 2 ^ 31 := countX_lt hI hc k
        refine kx_cr (v := nI (countX S k)) (va_runV (As := [.int (nI k)]) (rest := [.long x]) ⟨hx, hb, hml, hown, hts⟩ (m_X4_count l dC dI ad S k (by omega) hI) (cwV 1 hts gX4_digest_X4_count rfl rfl rfl hdX4_count_1 ⟨Nat.le_of_ble_eq_true rfl, Nat.le_of_ble_eq_true rfl⟩) (hX.preTop 57 6 (by decide) (by decide) rfl rfl) rfl rfl hl.1 rfl (lv_room (Nat.le_of_ble_eq_true rfl)) dX4_digest_14 ⟨Nat.le_of_ble_eq_true rfl, Nat.le_of_ble_eq_true rfl⟩) (fun _ h => h) ?_
        refine kx_crl (v := mixI x (countX S k)) (va_runS (As := [.long x, .int (nI (countX S k))]) (rest := []) ⟨hx, hb, hml, hown, hts⟩ (m_X4_mixed l dC dI ad S x (countX S k) (by omega)) (va_cwS 2 hts gX4_digest_X4_mixed rfl rfl rfl hdX4_mixed_2.2 ⟨Nat.le_of_ble_eq_true rfl, Nat.le_of_ble_eq_true rfl⟩) hX.preS rfl rfl hl.1 rfl (lv_room (Nat.le_of_ble_eq_true rfl)) dX4_digest_17 ⟨Nat.le_of_ble_eq_true rfl, Nat.le_of_ble_eq_true rfl⟩) (fun _ h => h) ?_
        refine lv_lstore_n (lv' := [(1, .long (mixI x (countX S k))), (0, .ref (ad 57)), (3, .int (nI k))]) hx hb dX4_digest_20 rfl hl (by decide) rfl (fun ls hl => ?_)
        refine lv_iinc (v := nI (k + 1)) (lv' := [(3, .int (nI (k + 1))), (1, .long (mixI x (countX S k))), (0, .ref (ad 57))]) hx hb dX4_digest_21 hl (k := 2) rfl (nI_1 k) (by decide) rfl (fun ls hl => ?_)
        refine lv_goto (tgt := 6) hx hb dX4_digest_24 (by decide) ?_
        exact ih6  (mixI x (countX S k)) (k + 1) (by omega) (by rw [hx9]; rfl) (by omega) _ (lv_sub hl [2, 1, 0] rfl)
  exact loop6 (5 + 1) (lN 7842) 0 (by omega) rfl (by omega) _ (lv_sub hl [2, 1, 0] rfl)
end
section
/-! texts: JDK methods that touch no world -/
theorem pureS {s : State} {H : Heap} {As : List Value} : PreS s H (va_Pc As (fun _ => True)) As := ⟨fun _ _ _ _ h => ⟨h.1, trivial⟩, fun _ _ _ => ⟨rfl, trivial⟩⟩
theorem sb_dg_of {v k : Nat} (hk : 1 ≤ k ∧ k ≤ 9) (h1 : v < 10 ^ k) (h2 : k = 1 ∨ 10 ^ (k - 1) ≤ v) : sb_dg v = k := by
  obtain ⟨a, b⟩ := hk
  rcases (show k = 1 ∨ k = 2 ∨ k = 3 ∨ k = 4 ∨ k = 5 ∨ k = 6 ∨ k = 7 ∨ k = 8 ∨ k = 9 by omega) with rfl | rfl | rfl | rfl | rfl | rfl | rfl | rfl | rfl <;> simp at h1 h2 <;> unfold sb_dg <;> (repeat' split) <;> omega
theorem p10_lt {k : Nat} (hk : k ≤ 9) : 10 ^ k < 2 ^ 31 := by
  have h := Nat.pow_le_pow_right (show 0 < 10 by decide) hk
  have : 10 ^ 9 < 2 ^ 31 := by decide
  omega
theorem sz_lt {v k : Nat} (hv : v < 2 ^ 31) (hk : k ≤ 9) (h : -nI (10 ^ k) < -nI v) : v < 10 ^ k := (sb_nlt (p10_lt hk) hv).mp h
theorem sz_le {v k : Nat} (hv : v < 2 ^ 31) (hk : k ≤ 9) (h : ¬ -nI (10 ^ k) < -nI v) : 10 ^ k ≤ v := by
  rw [sb_nlt (p10_lt hk) hv] at h; omega
theorem sz_mul (k : Nat) : nI 10 * -nI (10 ^ k) = -nI (10 ^ (k + 1)) := by
  rw [Int32.mul_neg, Nat.pow_succ, Nat.mul_comm (10 ^ k) 10]
  show -(Int32.ofNat 10 * Int32.ofNat (10 ^ k)) = -(Int32.ofNat (10 * 10 ^ k))
  rw [Int32.ofNat_mul]
theorem max_nI {a b : Nat} (ha : a < 2 ^ 31) (hb : b < 2 ^ 31) : (if nI a < nI b then nI b else nI a) = nI (max a b) := by
  by_cases h : a < b
  · rw [if_pos (nI_lt h hb), Nat.max_eq_right (Nat.le_of_lt h)]
  · rw [if_neg (nI_nlt (by omega) (by omega)), Nat.max_eq_left (by omega)]
theorem sz_k9 {v k : Nat} (hv : v < 1000000000) (hk : 1 ≤ k ∧ k ≤ 9) (h : -nI v ≤ -nI (10 ^ k)) : 1 ≤ k + 1 ∧ k + 1 ≤ 9 := by
  rw [sb_nle (by omega) (p10_lt hk.2)] at h
  refine ⟨by omega, ?_⟩
  by_cases e : k = 9
  · subst e; omega
  · omega
theorem sz_le9 {v k : Nat} (hv : v < 1000000000) (hk : 1 ≤ k ∧ k ≤ 9) (h : -nI v ≤ -nI (10 ^ k)) : 10 ^ (k + 1 - 1) ≤ v := by
  rw [sb_nle (by omega) (p10_lt hk.2)] at h
  exact h
theorem sz_ret {v k : Nat} (hv : v < 1000000000) (hk : 1 ≤ k ∧ k ≤ 9) (hp : k = 1 ∨ 10 ^ (k - 1) ≤ v) (h : ¬ -nI v ≤ -nI (10 ^ k)) : nI k = nI (sb_dg v) := by
  rw [sb_nle (by omega) (p10_lt hk.2)] at h
  rw [sb_dg_of hk (by omega) hp]
set_option maxHeartbeats 4000000 in
set_option maxRecDepth 100000 in
theorem m_J6_stringSize_0f7a4 (l : Launch) (v : Nat) (hv : v < 1000000000) : Met l yJ6_stringSize_0f7a4 wsJ6_stringSize_0f7a4 ({ frames := 0, cells := 0, slots := 0, locals := 0 } : Room) (va_Pc [.int (nI v)] (fun _ => True)) (vp_Si (fun r => r = nI (sb_dg v))) 0 0 (fun _ => False) := by
  refine ofWF (cc := cJ6_stringSize_0f7a4) (maxL := 4) (ret := (some .int)) (by decide +kernel) rfl ?_
  intro p e s m args below meth c s₁ B hml hv
  obtain ⟨rfl, hPB⟩ := hv
  have hx := B.exec
  have hb := B.bytes
  have hr := B.returns
  have hts := atoms_spec (ws := wsJ6_stringSize_0f7a4) B.pre
  have hown : s.vm.findClass RJ6 = some m.cls := findClass_of_methodNamed B.named
  have hlocks := B.notSynchronized
  have hl := lv_entry ([.int (nI v)]) (n := 4) (Nat.le_of_ble_eq_true rfl)
  rw [lg_entry_eq]
  generalize (lg_sl ([.int (nI v)]) ++ List.replicate (4 - (lg_sl ([.int (nI v)])).length) Slot.unset).toArray = ls at hl ⊢
  have hl : lv_has ls 4 [(0, .int (nI v))] := hl
  show W p l e ({ frames := 0, cells := 0, slots := 0, locals := 0 } : Room) s m ([.int (nI v)]).toArray below meth c s.heap [] 0 0 (MQ below (vp_Si (fun r => r = nI (sb_dg v))) ([.int (nI v)]).toArray s 0 0 (fun _ => False)) (F0 m 0 ls [])
  refine lv_iconst (v := nI 1) hx hb dJ6_stringSize_0f7a4_0 (by decide) ?_
  refine lv_istore_n (lv' := [(1, .int (nI 1)), (0, .int (nI v))]) hx hb dJ6_stringSize_0f7a4_1 rfl hl (by decide) rfl (fun ls hl => ?_)
  refine lv_iload_n hx hb dJ6_stringSize_0f7a4_2 rfl (lv_at hl 1 rfl) ?_
  refine kn_if_lt (tgt := 11) hx hb (by omega) dJ6_stringSize_0f7a4_3 (by decide) ?_
  refine lv_iconst (v := nI 0) hx hb dJ6_stringSize_0f7a4_6 (by decide) ?_
  refine lv_istore_n (lv' := [(1, .int (nI 0)), (0, .int (nI v))]) hx hb dJ6_stringSize_0f7a4_7 rfl hl (by decide) rfl (fun ls hl => ?_)
  refine lv_iload_n hx hb dJ6_stringSize_0f7a4_8 rfl (lv_at hl 1 rfl) ?_
  refine lv_ineg hx hb dJ6_stringSize_0f7a4_9 ?_
  refine lv_istore_n (lv' := [(0, .int (-(nI v))), (1, .int (nI 0))]) hx hb dJ6_stringSize_0f7a4_10 rfl hl (by decide) rfl (fun ls hl => ?_)
  refine lv_bipush (v := -nI (10 ^ 1)) hx hb dJ6_stringSize_0f7a4_11 (by decide) ?_
  refine lv_istore_n (lv' := [(2, .int (-nI (10 ^ 1))), (0, .int (-(nI v))), (1, .int (nI 0))]) hx hb dJ6_stringSize_0f7a4_13 rfl hl (by decide) rfl (fun ls hl => ?_)
  refine lv_iconst (v := nI 1) hx hb dJ6_stringSize_0f7a4_14 (by decide) ?_
  refine lv_istore_n (lv' := [(3, .int (nI 1)), (2, .int (-nI (10 ^ 1))), (0, .int (-(nI v))), (1, .int (nI 0))]) hx hb dJ6_stringSize_0f7a4_15 rfl hl (by decide) rfl (fun ls hl => ?_)
  have loop16 : ∀ (fuel : Nat) (k : Nat) (hk : 1 ≤ k ∧ k ≤ 9) (hp : k = 1 ∨ 10 ^ (k - 1) ≤ v), 10 - k < fuel → ∀ ls : Array Slot, lv_has ls 4 [(0, .int (-nI v)), (1, .int (nI 0)), (2, .int (-nI (10 ^ k))), (3, .int (nI k))] → W p l e ({ frames := 0, cells := 0, slots := 0, locals := 0 } : Room) s m ([.int (nI v)]).toArray below meth c s.heap [] 0 0 (MQ below (vp_Si (fun r => r = nI (sb_dg v))) ([.int (nI v)]).toArray s 0 0 (fun _ => False)) (F0 m 16 ls []) := by
    intro fuel
    induction fuel with
    | zero => intro k hk hp hf; exact absurd hf (Nat.not_lt_zero _)
    | succ fuel ih16 =>
      intro k hk hp hf ls hl
      refine lv_iload_n hx hb dJ6_stringSize_0f7a4_16 rfl (lv_at hl 3 rfl) ?_
      refine lv_bipush (v := nI 10) hx hb dJ6_stringSize_0f7a4_17 (by decide) ?_
      refine kn_icmp_ge (tgt := 42) hx hb (by omega) (by omega) dJ6_stringSize_0f7a4_19 (by decide) (fun k_2 => absurd k_2 (by omega)) (fun k_2 => ?_)
      refine lv_iload_n hx hb dJ6_stringSize_0f7a4_22 rfl (lv_at hl 0 rfl) ?_
      refine lv_iload_n hx hb dJ6_stringSize_0f7a4_23 rfl (lv_at hl 2 rfl) ?_
      refine lv_icmp_le (tgt := 31) hx hb dJ6_stringSize_0f7a4_24 (by decide) (fun k_3 => ?_) (fun k_3 => ?_)
      · skip
        have h9 := k_3
        refine lv_bipush (v := nI 10) hx hb dJ6_stringSize_0f7a4_31 (by decide) ?_
        refine lv_iload_n hx hb dJ6_stringSize_0f7a4_33 rfl (lv_at hl 2 rfl) ?_
        refine lv_imul hx hb dJ6_stringSize_0f7a4_34 ?_
        rw [sz_mul k]
        refine lv_istore_n (lv' := [(2, .int (-nI (10 ^ (k + 1)))), (0, .int (-nI v)), (1, .int (nI 0)), (3, .int (nI k))]) hx hb dJ6_stringSize_0f7a4_35 rfl hl (by decide) rfl (fun ls hl => ?_)
        refine lv_iinc (v := nI (k + 1)) (lv' := [(3, .int (nI (k + 1))), (2, .int (-nI (10 ^ (k + 1)))), (0, .int (-nI v)), (1, .int (nI 0))]) hx hb dJ6_stringSize_0f7a4_36 hl (k := 3) rfl (nI_1 k) (by decide) rfl (fun ls hl => ?_)
        refine lv_goto (tgt := 16) hx hb dJ6_stringSize_0f7a4_39 (by decide) ?_
        exact ih16  (k + 1) (sz_k9 hv hk h9) (Or.inr (sz_le9 hv hk h9)) (by omega) _ (lv_sub hl [2, 3, 1, 0] rfl)
      · skip
        have h9 := k_3
        refine lv_iload_n hx hb dJ6_stringSize_0f7a4_27 rfl (lv_at hl 3 rfl) ?_
        refine lv_iload_n hx hb dJ6_stringSize_0f7a4_28 rfl (lv_at hl 1 rfl) ?_
        refine kn_iadd hx hb dJ6_stringSize_0f7a4_29 ?_
        exact W.iret (v := nI (k + 0)) hx hb hr (fun t9 ht9 hW9 => ⟨_, rfl, (sz_ret hv hk hp h9), ht9⟩) (fun _ h => nomatch h) dJ6_stringSize_0f7a4_30
  exact loop16 (10 + 1) 1 (by omega) (Or.inl rfl) (by omega) _ (lv_sub hl [2, 3, 1, 0] rfl)
set_option maxHeartbeats 4000000 in
set_option maxRecDepth 100000 in
theorem m_J1_canEncode_fc78d (l : Launch) (v : Nat) (hv : v < 256) : Met l yJ1_canEncode_fc78d wsJ1_canEncode_fc78d ({ frames := 0, cells := 0, slots := 0, locals := 0 } : Room) (va_Pc [.int (nI v)] (fun _ => True)) (vp_Si (fun r => r = bI true)) 0 0 (fun _ => False) := by
  refine ofWF (cc := cJ1_canEncode_fc78d) (maxL := 1) (ret := (some .boolean)) (by decide +kernel) rfl ?_
  intro p e s m args below meth c s₁ B hml hv
  obtain ⟨rfl, hPB⟩ := hv
  have hx := B.exec
  have hb := B.bytes
  have hr := B.returns
  have hts := atoms_spec (ws := wsJ1_canEncode_fc78d) B.pre
  have hown : s.vm.findClass RJ1 = some m.cls := findClass_of_methodNamed B.named
  have hlocks := B.notSynchronized
  have hl := lv_entry ([.int (nI v)]) (n := 1) (Nat.le_of_ble_eq_true rfl)
  rw [lg_entry_eq]
  generalize (lg_sl ([.int (nI v)]) ++ List.replicate (1 - (lg_sl ([.int (nI v)])).length) Slot.unset).toArray = ls at hl ⊢
  have hl : lv_has ls 1 [(0, .int (nI v))] := hl
  show W p l e ({ frames := 0, cells := 0, slots := 0, locals := 0 } : Room) s m ([.int (nI v)]).toArray below meth c s.heap [] 0 0 (MQ below (vp_Si (fun r => r = bI true)) ([.int (nI v)]).toArray s 0 0 (fun _ => False)) (F0 m 0 ls [])
  refine lv_iload_n hx hb dJ1_canEncode_fc78d_0 rfl (lv_at hl 0 rfl) ?_
  refine lv_sipush (v := nI 255) hx hb dJ1_canEncode_fc78d_1 (by decide) ?_
  refine kn_icmp_gt (tgt := 11) hx hb (by omega) (by omega) dJ1_canEncode_fc78d_4 (by decide) (fun k_1 => absurd k_1 (by omega)) (fun k_1 => ?_)
  refine lv_iconst (v := bI true) hx hb dJ1_canEncode_fc78d_7 (by decide) ?_
  refine lv_goto (tgt := 12) hx hb dJ1_canEncode_fc78d_8 (by decide) ?_
  exact W.zret (v := bI true) hx hb hr (bI_narrow _) (fun t9 ht9 hW9 => ⟨_, rfl, rfl, ht9⟩) (fun _ h => nomatch h) dJ1_canEncode_fc78d_12
set_option maxHeartbeats 4000000 in
set_option maxRecDepth 100000 in
theorem m_J8_newLength_cabcc (l : Launch) (a b d : Nat) (h1 : a + b < 1000000000) (h2 : a + d < 1000000000) (h3 : 0 < b) : Met l yJ8_newLength_cabcc wsJ8_newLength_cabcc ({ frames := 1, cells := 0, slots := 0, locals := 14 } : Room) (va_Pc [.int (nI a), .int (nI b), .int (nI d)] (fun _ => True)) (vp_Si (fun r => r = nI (a + max b d))) 0 0 (fun _ => False) := by
  refine ofWF (cc := cJ8_newLength_cabcc) (maxL := 4) (ret := (some .int)) (by decide +kernel) rfl ?_
  intro p e s m args below meth c s₁ B hml hv
  obtain ⟨rfl, hPB⟩ := hv
  have hx := B.exec
  have hb := B.bytes
  have hr := B.returns
  have hts := atoms_spec (ws := wsJ8_newLength_cabcc) B.pre
  have hown : s.vm.findClass RJ8 = some m.cls := findClass_of_methodNamed B.named
  have hlocks := B.notSynchronized
  have hl := lv_entry ([.int (nI a), .int (nI b), .int (nI d)]) (n := 4) (Nat.le_of_ble_eq_true rfl)
  rw [lg_entry_eq]
  generalize (lg_sl ([.int (nI a), .int (nI b), .int (nI d)]) ++ List.replicate (4 - (lg_sl ([.int (nI a), .int (nI b), .int (nI d)])).length) Slot.unset).toArray = ls at hl ⊢
  have hl : lv_has ls 4 [(0, .int (nI a)), (1, .int (nI b)), (2, .int (nI d))] := hl
  show W p l e ({ frames := 1, cells := 0, slots := 0, locals := 14 } : Room) s m ([.int (nI a), .int (nI b), .int (nI d)]).toArray below meth c s.heap [] 0 0 (MQ below (vp_Si (fun r => r = nI (a + max b d))) ([.int (nI a), .int (nI b), .int (nI d)]).toArray s 0 0 (fun _ => False)) (F0 m 0 ls [])
  refine lv_iload_n hx hb dJ8_newLength_cabcc_0 rfl (lv_at hl 0 rfl) ?_
  refine lv_iload_n hx hb dJ8_newLength_cabcc_1 rfl (lv_at hl 1 rfl) ?_
  refine lv_iload_n hx hb dJ8_newLength_cabcc_2 rfl (lv_at hl 2 rfl) ?_
  refine va_mmax hx hb (by rw [hml]; exact hl.1.symm) hown (hts (.methodLink RJ8 194 Lib.Math.max.name) (tm 229 (by decide +kernel) rfl)) (hts (.static Lib.Math.max.name) (tm 230 (by decide +kernel) rfl)) (hts (.initialized "java/lang/Math") (tm 152 (by decide +kernel) rfl)) (hts (.code Lib.Math.max.name Lib.Math.max.code 2 (some .int)) (tm 231 (by decide +kernel) rfl)) (Nat.le_of_ble_eq_true rfl) (Nat.le_of_ble_eq_true rfl) (Nat.le_of_ble_eq_true rfl) (Nat.le_of_ble_eq_true rfl) dJ8_newLength_cabcc_3 ?_
  rw [max_nI (a := b) (b := d) (by omega) (by omega)]
  refine kn_iadd hx hb dJ8_newLength_cabcc_6 ?_
  refine lv_istore_n (lv' := [(3, .int (nI (a + (max b d)))), (0, .int (nI a)), (1, .int (nI b)), (2, .int (nI d))]) hx hb dJ8_newLength_cabcc_7 rfl hl (by decide) rfl (fun ls hl => ?_)
  refine lv_iconst (v := nI 0) hx hb dJ8_newLength_cabcc_8 (by decide) ?_
  refine lv_iload_n hx hb dJ8_newLength_cabcc_9 rfl (lv_at hl 0 rfl) ?_
  refine kn_icmp_ge (tgt := 21) hx hb (by omega) (by omega) dJ8_newLength_cabcc_10 (by decide) (fun k_1 => absurd k_1 (by omega)) (fun k_1 => ?_)
  refine lv_iload_n hx hb dJ8_newLength_cabcc_13 rfl (lv_at hl 0 rfl) ?_
  refine lv_ldc (v := nI 2147483639) hx hb hown (hts (.constant RJ8 200 2147483639) (tm 232 (by decide +kernel) rfl)) dJ8_newLength_cabcc_14 ?_
  refine kn_icmp_gt (tgt := 21) hx hb (by omega) (by omega) dJ8_newLength_cabcc_16 (by decide) (fun k_2 => absurd k_2 (by omega)) (fun k_2 => ?_)
  refine lv_iload_n hx hb dJ8_newLength_cabcc_19 rfl (lv_at hl 0 rfl) ?_
  exact W.iret (v := nI (a + (max b d))) hx hb hr (fun t9 ht9 hW9 => ⟨_, rfl, rfl, ht9⟩) (fun _ h => nomatch h) dJ8_newLength_cabcc_20
set_option maxHeartbeats 4000000 in
set_option maxRecDepth 100000 in
theorem m_J7_checkLength_df160 (l : Launch) (a b : Nat) (h1 : a ≤ b) (h2 : b < 1000000000) : Met l yJ7_checkLength_df160 wsJ7_checkLength_df160 ({ frames := 0, cells := 0, slots := 0, locals := 0 } : Room) (va_Pc [.int (nI a), .int (nI b)] (fun _ => True)) (va_Sv (fun _ => True)) 0 0 (fun _ => False) := by
  refine ofWF (cc := cJ7_checkLength_df160) (maxL := 2) (ret := none) (by decide +kernel) rfl ?_
  intro p e s m args below meth c s₁ B hml hv
  obtain ⟨rfl, hPB⟩ := hv
  have hx := B.exec
  have hb := B.bytes
  have hr := B.returns
  have hts := atoms_spec (ws := wsJ7_checkLength_df160) B.pre
  have hown : s.vm.findClass RJ7 = some m.cls := findClass_of_methodNamed B.named
  have hlocks := B.notSynchronized
  have hl := lv_entry ([.int (nI a), .int (nI b)]) (n := 2) (Nat.le_of_ble_eq_true rfl)
  rw [lg_entry_eq]
  generalize (lg_sl ([.int (nI a), .int (nI b)]) ++ List.replicate (2 - (lg_sl ([.int (nI a), .int (nI b)])).length) Slot.unset).toArray = ls at hl ⊢
  have hl : lv_has ls 2 [(0, .int (nI a)), (1, .int (nI b))] := hl
  show W p l e ({ frames := 0, cells := 0, slots := 0, locals := 0 } : Room) s m ([.int (nI a), .int (nI b)]).toArray below meth c s.heap [] 0 0 (MQ below (va_Sv (fun _ => True)) ([.int (nI a), .int (nI b)]).toArray s 0 0 (fun _ => False)) (F0 m 0 ls [])
  refine lv_iload_n hx hb dJ7_checkLength_df160_0 rfl (lv_at hl 1 rfl) ?_
  refine lv_iload_n hx hb dJ7_checkLength_df160_1 rfl (lv_at hl 0 rfl) ?_
  refine kn_icmp_ge (tgt := 37) hx hb (by omega) (by omega) dJ7_checkLength_df160_2 (by decide) (fun k_1 => ?_) (fun k_1 => absurd k_1 (by omega))
  exact W.vret hx hb hr (fun t9 ht9 hW9 => ⟨rfl, trivial, ht9⟩) (fun _ h => nomatch h) dJ7_checkLength_df160_37
end
section
/-! texts: a StringBuilder and its bytes -/
def eSB (b n : Nat) : va_E := .inr (1, [.ref b, .int (nI 0), .int (nI 0), .int (nI n)])
def eBy (cB : ClassId) (m : Nat) (f : Nat → Int32) : va_E := .inl (cB, m, .inl f)
def zB (z q : Nat) : Prop := z ≤ q
def ZBA (A : Nat → Prop) (U : State) (H : Heap) : Prop := va_Z "java/lang/String" "COMPACT_STRINGS" "Z" (.int (nI 1)) A U H ∧ (∃ (t : Nat) (g : Nat → Int32), va_Z "java/lang/Integer" "DigitOnes" "[B" (.ref t) A U H ∧ va_T .byte t 100 (fun j => .int (g j)) A U H) ∧ (∃ (t : Nat) (g : Nat → Int32), va_Z "java/lang/Integer" "DigitTens" "[B" (.ref t) A U H ∧ va_T .byte t 100 (fun j => .int (g j)) A U H) ∧ va_Nw (.castable "[B" "java/lang/Cloneable") U
abbrev ZB (z : Nat) (U : State) (H : Heap) : Prop := ZBA (zB z) U H
theorem ZBA.kept {A : Nat → Prop} {U : State} {H H1 : Heap} (h : ZBA A U H) (hq : ∀ a : Nat, a < H.size → ¬ A a → H1[a]? = H[a]?) : ZBA A U H1 := by
  obtain ⟨h1, ⟨t, g, h2, h3⟩, ⟨t', g', h4, h5⟩, h6⟩ := h
  exact ⟨h1.kept hq, ⟨t, g, h2.kept hq, h3.kept hq⟩, ⟨t', g', h4.kept hq, h5.kept hq⟩, h6⟩
theorem ZBA.warm {A : Nat → Prop} {s U : State} {H : Heap} (hW : s.WarmedH U.vm) (h : ZBA A s H) : ZBA A U H := by
  obtain ⟨h1, ⟨t, g, h2, h3⟩, ⟨t', g', h4, h5⟩, h6⟩ := h
  exact ⟨h1.moved hW.alike, ⟨t, g, h2.moved hW.alike, h3.moved hW.alike⟩, ⟨t', g', h4.moved hW.alike, h5.moved hW.alike⟩, va_Nw.warmC hW h6⟩
theorem ZBA.same {A : Nat → Prop} {s U : State} {H : Heap} (hv : s.vm = U.vm) (h : ZBA A s H) : ZBA A U H := by
  have e : s.vm.Alike U.vm := by rw [hv]; exact Vm.Alike.refl _
  obtain ⟨h1, ⟨t, g, h2, h3⟩, ⟨t', g', h4, h5⟩, h6⟩ := h
  exact ⟨h1.moved e, ⟨t, g, h2.moved e, h3.moved e⟩, ⟨t', g', h4.moved e, h5.moved e⟩, va_Nw.same rfl hv h6⟩
theorem ZBA.narrow {A A' : Nat → Prop} {U : State} {H : Heap} (hn : ∀ q, A' q → A q) (h : ZBA A U H) : ZBA A' U H := by
  obtain ⟨h1, ⟨t, g, h2, h3⟩, ⟨t', g', h4, h5⟩, h6⟩ := h
  exact ⟨h1.narrow hn, ⟨t, g, h2.narrow hn, h3.narrow hn⟩, ⟨t', g', h4.narrow hn, h5.narrow hn⟩, h6⟩
/-- the contract side: a world of its own from address z on -/
def PB (dC : Nat → ClassId) (dI : Nat → Nat → Nat) (cB : ClassId) (z : Nat) (W : va_W) (U : State) : Prop := va_P (dC, dI) vwCl W U.heap ∧ va_K (dC, dI) vwCl [(cB, .byte)] U ∧ va_D (zB z) W ∧ z ≤ U.heap.size ∧ ZB z U U.heap
/-- the walking side -/
def WB (dC : Nat → ClassId) (dI : Nat → Nat → Nat) (cB : ClassId) (z : Nat) (W : va_W) (s : State) (H : Heap) (locs : List Loc) : Prop := va_P (dC, dI) vwCl W H ∧ va_K (dC, dI) vwCl [(cB, .byte)] s ∧ va_D (zB z) W ∧ va_S (zB z) s.heap H locs ∧ z ≤ s.heap.size ∧ ZB z s s.heap
section KB
variable {dC : Nat → ClassId} {dI : Nat → Nat → Nat} {cB : ClassId} {z : Nat} {W : va_W} {s : State} {H : Heap} {locs : List Loc}
theorem WB.of (h : PB dC dI cB z W s) : WB dC dI cB z W s s.heap [] := ⟨h.1, h.2.1, h.2.2.1, va_S.rf, h.2.2.2.1, h.2.2.2.2⟩
theorem WB.P {U : State} (h : WB dC dI cB z W s H locs) (hU : U.heap = H) (hW : s.WarmedH U.vm) : PB dC dI cB z W U := by
  refine ⟨by rw [hU]; exact h.1, va_K.moved hW.alike h.2.1, h.2.2.1, ?_, ?_⟩
  · rw [hU]; exact Nat.le_trans h.2.2.2.2.1 h.2.2.2.1.1
  · rw [hU]; exact (h.2.2.2.2.2.kept h.2.2.2.1.2.1).warm hW
theorem WB.F {t : State} (h : WB dC dI cB z W s H locs) (ht : t.heap = H) : va_F (zB z) s t := h.2.2.2.1.F ht
theorem WB.L (h : WB dC dI cB z W s H locs) : ∀ q ∈ locs, zB z q.base := h.2.2.2.1.2.2
theorem PB.call {U : State} {g : JFrame} {mk : MethodId} {a : Array Value} (h : PB dC dI cB z W U) : PB dC dI cB z W (U.calling g mk a) := ⟨h.1, va_K.moved (u := U) (U := U.calling g mk a) (Vm.Alike.refl U.vm) h.2.1, h.2.2.1, h.2.2.2.1, ZBA.same (s := U) (U := U.calling g mk a) rfl h.2.2.2.2⟩
theorem PB.blind {av : List Value} : FrameBlind (va_Pc av (PB dC dI cB z W)) := fun _ _ _ _ h => ⟨h.1, h.2.call⟩
theorem WB.preV {a : Nat} {fs : List Value} {ci : Nat} {q : vw_C} {As : List Value} (h : WB dC dI cB z W s H locs) (hc : vwCl[ci]? = some q) (k : Nat) (he : W[k]? = some (a, .inr (ci, fs))) : PreV s H q.1 a (va_Pc (Value.ref a :: As) (PB dC dI cB z W)) As :=
  ⟨PB.blind, va_recv h.2.1 h.1 (ci := ci) (q0 := k) hc he, fun _ hU hW => ⟨rfl, h.P hU hW⟩⟩
theorem WB.preS {As : List Value} (h : WB dC dI cB z W s H locs) : PreS s H (va_Pc As (PB dC dI cB z W)) As := ⟨PB.blind, fun _ hU hW => ⟨rfl, h.P hU hW⟩⟩
theorem WB.to {W' : va_W} {H1 : Heap} {locs1 : List Loc} (h : WB dC dI cB z W s H locs) (h1 : va_P (dC, dI) vwCl W' H1) (h2 : va_D (zB z) W') (h3 : va_S (zB z) s.heap H1 locs1) : WB dC dI cB z W' s H1 locs1 := ⟨h1, h.2.1, h2, h3, h.2.2.2.2.1, h.2.2.2.2.2⟩
theorem WB.back {W' : va_W} {t : State} {H1 : Heap} {locs1 : List Loc} (h : WB dC dI cB z W s H locs) (ht : t.heap = H1) (hvm : s.vm.Alike t.vm) (hB : PB dC dI cB z W' t) (hS : va_S (zB z) s.heap H1 locs1) : WB dC dI cB z W' s H1 locs1 := ⟨by rw [← ht]; exact hB.1, h.2.1, hB.2.2.1, hS, h.2.2.2.2.1, h.2.2.2.2.2⟩
end KB
theorem fit_nar (x : Int32) : fits .byte (.int (vp_nar .byte x)) = true := by rw [vp_nar_byte]; exact pk_fb x
section KB2
variable {p : Program} {l : Launch} {e : Env} {R : Room} {s : State} {m : MethodId} {args : Array Value} {below : List Frame} {meth : Method} {c : Code} {H : Heap} {locs : List Loc} {cells slots : Nat} {Q : State → Prop}
variable {cc : ByteArray} {pc : Nat} {ls : Array Slot} {rest st0 : List Value} {dC : Nat → ClassId} {dI : Nat → Nat → Nat} {cB : ClassId} {z : Nat} {G : va_W} {Ts : List Cond} {index a b n k : Nat} {own : String} {mc ms : Nat} {av : Array Value}
theorem kb_put (hx : p.tables.exec = Jvm.exec) (hb : c.code = cc) (hts : ∀ w ∈ Ts, w.before args s = true) (hin : ∀ w ∈ u_ws RJ4 TJ4 4, w ∈ Ts) (hown : s.vm.findClass own = some m.cls) (hB : WB dC dI cB z G s H locs) (q0 : Nat) {fs : List Value} (he : G[q0]? = some (a, .inr (1, fs))) (k : Nat) (hk : k < 4) {ref : String} (hlink : (Cond.fieldLink own index ref (TJ4 k).2.1 (TJ4 k).2.2.1).before args s = true) (hsame : ∀ x, s.fieldFound? (TJ4 k).1 (TJ4 k).2.1 (TJ4 k).2.2.1 = some x → s.fieldFound? ref (TJ4 k).2.1 (TJ4 k).2.2.1 = some x) (hfin : (TJ4 k).2.2.2 = false) {ty : FieldType} {v : Value} (hd : parseFieldDescriptor (TJ4 k).2.2.1 = some ty) (hn : narrow ty v = v) (hfit : fits ty v = true) (hl : k < fs.length) (hdg : decode cc pc = .ok (.putfield index, 3))
    (kk : ∀ (H1 : Heap) (locs1 : List Loc), WB dC dI cB z (G.set q0 (a, .inr (1, fs.set k v))) s H1 locs1 → W p l e R s m args below meth c H1 locs1 cells slots Q (F0 m (pc + 3) ls rest)) : W p l e R s m args below meth c H locs cells slots Q (F0 m pc ls (v :: .ref a :: rest)) :=
  va_put (D := (dC, dI)) (ci := 1) (C := RJ4) (T := TJ4) (N := 4) hx hb hts hin tyJ4 tyJ4_ok nmJ4 hown hB.2.1 hB.1 hB.2.2.1 hB.2.2.2.1 q0 he rfl k hk hlink hsame hfin hd hn hfit hl hdg (fun H1 locs1 h1 h2 h3 => kk H1 locs1 (hB.to h1 h2 h3))
theorem kb_pstr (hx : p.tables.exec = Jvm.exec) (hb : c.code = cc) (hts : ∀ w ∈ Ts, w.before args s = true) (hin : ∀ w ∈ u_ws RJ0 TJ0 4, w ∈ Ts) (hown : s.vm.findClass RJ0 = some m.cls) (hB : WB dC dI cB z G s H locs) (q0 : Nat) {fs : List Value} (he : G[q0]? = some (a, .inr (0, fs))) (k : Nat) (hk : k < 4) (hlink : (Cond.fieldLink RJ0 index RJ0 (TJ0 k).2.1 (TJ0 k).2.2.1).before args s = true) (hsame : ∀ x, s.fieldFound? (TJ0 k).1 (TJ0 k).2.1 (TJ0 k).2.2.1 = some x → s.fieldFound? RJ0 (TJ0 k).2.1 (TJ0 k).2.2.1 = some x) (hfin : (TJ0 k).2.2.2 = true) (hin2 : meth.name = "<init>") (hdecl : (TJ0 k).1 = RJ0) {ty : FieldType} {v : Value} (hd : parseFieldDescriptor (TJ0 k).2.2.1 = some ty) (hn : narrow ty v = v) (hfit : fits ty v = true) (hl : k < fs.length) (hdg : decode cc pc = .ok (.putfield index, 3))
    (kk : ∀ (H1 : Heap) (locs1 : List Loc), WB dC dI cB z (G.set q0 (a, .inr (0, fs.set k v))) s H1 locs1 → W p l e R s m args below meth c H1 locs1 cells slots Q (F0 m (pc + 3) ls rest)) : W p l e R s m args below meth c H locs cells slots Q (F0 m pc ls (v :: .ref a :: rest)) :=
  va_putF (D := (dC, dI)) (ci := 0) (C := RJ0) (T := TJ0) (N := 4) hx hb hts hin tyJ0 tyJ0_ok nmJ0 hown hB.2.1 hB.1 hB.2.2.1 hB.2.2.2.1 q0 he rfl k hk hlink hsame hfin hin2 hdecl hd hn hfit hl hdg (fun H1 locs1 h1 h2 h3 => kk H1 locs1 (hB.to h1 h2 h3))
theorem kb_new (hx : p.tables.exec = Jvm.exec) (hb : c.code = cc) (harr : (Cond.arrayClass .byte).before args s = true) (hB : WB dC dI cB z G s H locs) (hn : n ≤ 65536) (hcells : cells + 1 ≤ R.cells) (hslots : slots + n ≤ R.slots) (hdg : decode cc pc = .ok (.newarray .byte, 2))
    (kk : ∀ (q : Nat) (H1 : Heap), WB dC dI cB z (G ++ [(q, eBy cB n (fun _ => 0))]) s H1 locs → W p l e R s m args below meth c H1 locs (cells + 1) (slots + n) Q (F0 m (pc + 2) ls (.ref q :: rest))) : W p l e R s m args below meth c H locs cells slots Q (F0 m pc ls (.int (nI n) :: rest)) := by
  refine va_newa (atype := .byte) (ty := .byte) (a0 := (n, .inl (fun _ => 0))) hx hb harr rfl hB.2.1 hB.1 hB.2.2.1 hB.2.2.2.1 (fun q hq => Nat.le_trans hB.2.2.2.2.1 hq) (fun cA => ?_) (nI_pos (by omega)) (nI_clamp (by omega)) (by show n * 1 ≤ 536870912; omega) hcells hslots hdg (fun q cA H1 hK1 h1 h2 h3 => ?_)
  · rfl
  · obtain rfl : cA = cB := by
      have e1 := (hK1.2 0 (cB, .byte) rfl).2
      have e2 := (hK1.2 1 (cA, .byte) rfl).2
      exact Option.some.inj (e2.symm.trans e1)
    exact kk q H1 (hB.to h1 h2 h3)
theorem kb_bst (hx : p.tables.exec = Jvm.exec) (hb : c.code = cc) (hB : WB dC dI cB z G s H locs) (q0 : Nat) {f : Nat → Int32} {x : Int32} (ha : G[q0]? = some (a, eBy cB n f)) (hk : k < n) (hn : n ≤ 65536) (hdg : decode cc pc = .ok (.bastore, 1))
    (kk : ∀ (H1 : Heap) (locs1 : List Loc), WB dC dI cB z (G.set q0 (a, eBy cB n (upd f k (vp_nar .byte x)))) s H1 locs1 → W p l e R s m args below meth c H1 locs1 cells slots Q (F0 m (pc + 1) ls rest)) : W p l e R s m args below meth c H locs cells slots Q (F0 m pc ls (.int x :: .int (nI k) :: .ref a :: rest)) :=
  va_bast hx hb hB.2.1 hB.1 hB.2.2.1 hB.2.2.2.1 q0 0 ha rfl (vp_in_nI hk (by omega)) hdg (fun H1 locs1 h1 h2 h3 => kk H1 locs1 (by rw [nI_clamp (by omega)] at h1 h2; exact hB.to h1 h2 h3))
theorem kb_cp (hx : p.tables.exec = Jvm.exec) (hb : c.code = cc) (hml : c.maxLocals = ls.size) (hown : s.vm.findClass own = some m.cls) (hlink : (Cond.methodLink own index arraycopyName).before args s = true) (hnat : (Cond.native arraycopyName).before args s = true) (hstat : (Cond.static arraycopyName).before args s = true) (hini : (Cond.initialized "java/lang/System").before args s = true)
    (hB : WB dC dI cB z G s H locs) (q0 q1 : Nat) {a0 a1 n0 n1 : Nat} {f g : Nat → Int32} (ha0 : G[q0]? = some (a0, eBy cB n0 f)) (ha1 : G[q1]? = some (a1, eBy cB n1 g)) (hf : sb_Fit f) (h4 : n ≤ n0) (h5 : n ≤ n1) (hn : n ≤ 65536) (hframes : 1 ≤ R.frames) (hlocals : (rest.map fun v => v.category).sum + (nativeFrameWords "java/lang/System" "arraycopy" 5 + 11) ≤ R.locals) (hdg : decode cc pc = .ok (.invokestatic index, 3))
    (kk : ∀ (H1 : Heap) (locs1 : List Loc), WB dC dI cB z (G.set q1 (a1, eBy cB n1 (va_cpy f g 0 0 n))) s H1 locs1 → W p l e R s m args below meth c H1 locs1 cells slots Q (F0 m (pc + 3) ls rest)) : W p l e R s m args below meth c H locs cells slots Q (F0 m pc ls (.int (nI n) :: .int (nI 0) :: .ref a1 :: .int (nI 0) :: .ref a0 :: rest)) := by
  have e0 : (nI 0).toNatClampNeg = 0 := nI_clamp (by decide)
  have en : (nI n).toNatClampNeg = n := nI_clamp (by omega)
  refine va_copyi (ty := .byte) hx hb hml hown hlink hnat hstat hini hB.2.1 hB.1 hB.2.2.1 hB.2.2.2.1 q0 q1 0 0 ha0 ha1 rfl rfl rfl (nI_pos (by decide)) (nI_pos (by decide)) (nI_pos (by omega)) (by rw [e0, en]; omega) (by rw [e0, en]; omega) (fun i _ => hf _) hframes hlocals hdg (fun H1 locs1 h1 h2 h3 => kk H1 locs1 ?_)
  rw [e0, en] at h1 h2
  exact hB.to h1 h2 h3
theorem kb_v {S1 : Type} {post : S1 → Prop} {Gf : S1 → va_W} (hr : va_Run p l e R s m args below meth c H locs cells slots mc ms (F0 m pc ls st0) rest (va_Qv post (fun u t => PB dC dI cB z (Gf u) t) (zB z) av) (zB z)) (hB : WB dC dI cB z G s H locs)
    (kk : ∀ (u : S1) (H1 : Heap) (locs1 : List Loc), post u → WB dC dI cB z (Gf u) s H1 locs1 → W p l e R s m args below meth c H1 locs1 (cells + mc) (slots + ms) Q (F0 m (pc + 3) ls rest)) : W p l e R s m args below meth c H locs cells slots Q (F0 m pc ls st0) :=
  va_callv hr hB.2.2.2.1 (fun _ _ h => h) (fun _ h => h) (fun u t H1 locs1 ht hvm hp hb1 _ _ hS => kk u H1 locs1 hp (hB.back ht hvm hb1 hS))
theorem kb_i {S1 : Type} {post : Int32 → S1 → Prop} {Gf : S1 → va_W} (hr : va_Run p l e R s m args below meth c H locs cells slots mc ms (F0 m pc ls st0) rest (va_Qi post (fun u t => PB dC dI cB z (Gf u) t) (zB z) av) (zB z)) (hB : WB dC dI cB z G s H locs)
    (kk : ∀ (r : Int32) (u : S1) (H1 : Heap) (locs1 : List Loc), post r u → WB dC dI cB z (Gf u) s H1 locs1 → W p l e R s m args below meth c H1 locs1 (cells + mc) (slots + ms) Q (F0 m (pc + 3) ls (.int r :: rest))) : W p l e R s m args below meth c H locs cells slots Q (F0 m pc ls st0) :=
  va_calli hr hB.2.2.2.1 (fun _ _ h => h) (fun _ h => h) (fun r u t H1 locs1 ht hvm hp hb1 _ _ hS => kk r u H1 locs1 hp (hB.back ht hvm hb1 hS))
theorem kb_r {S1 : Type} {post : S1 → Prop} {Gf : S1 → Nat → va_W} {ra : S1 → Nat → Prop} (hr : va_Run p l e R s m args below meth c H locs cells slots mc ms (F0 m pc ls st0) rest (va_Qr post (fun u q t => ra u q ∧ PB dC dI cB z (Gf u q) t) (zB z) av) (zB z)) (hB : WB dC dI cB z G s H locs)
    (kk : ∀ (u : S1) (q : Nat) (H1 : Heap) (locs1 : List Loc), post u → ra u q → WB dC dI cB z (Gf u q) s H1 locs1 → W p l e R s m args below meth c H1 locs1 (cells + mc) (slots + ms) Q (F0 m (pc + 3) ls (.ref q :: rest))) : W p l e R s m args below meth c H locs cells slots Q (F0 m pc ls st0) :=
  va_callr hr hB.2.2.2.1 (fun _ _ h => h) (fun _ h => h) (fun u q t H1 locs1 ht hvm hp hb1 _ _ hS => kk u q H1 locs1 hp hb1.1 (hB.back ht hvm hb1.2 hS))
end KB2
end
section
/-! texts: the builder's methods -/
theorem KatJ4 {dC : Nat → ClassId} {dI : Nat → Nat → Nat} {cB : ClassId} {z : Nat} {G : va_W} {U : State} (h : PB dC dI cB z G U) : ClassAt U RJ4 (dC 1) := by
  obtain ⟨-, hf, hk⟩ := h.2.1.1 1 (RJ4, TJ4, 4) rfl
  exact ⟨hf, hk.choose, hk.choose_spec.1, hk.choose_spec.2⟩
def gm (q m : Nat) : Nat := if q ≤ m then 0 else sb_cap q m
theorem gm_le {q m : Nat} (h : m < q) : sb_cap q m ≤ gm q m := by rw [gm, if_neg (by omega)]; exact Nat.le_refl _
theorem gm0 {q m : Nat} (h : m < q) : 0 + sb_cap q m ≤ gm q m := by rw [Nat.zero_add]; exact gm_le h
theorem app_old {α : Type} {G : List α} {x y : α} {k : Nat} (h : G[k]? = some y) : (G ++ [x])[k]? = some y := by
  rw [List.getElem?_append_left (List.getElem?_eq_some_iff.mp h).1]; exact h
theorem app_new {α : Type} {G : List α} {x : α} : (G ++ [x])[G.length]? = some x := by
  rw [List.getElem?_append_right (Nat.le_refl _), Nat.sub_self]; rfl
theorem app_set {α : Type} {G : List α} {x y : α} : (G ++ [x]).set G.length y = G ++ [y] := by
  induction G with
  | nil => rfl
  | cons g G ih => exact congrArg (g :: ·) ih
theorem set1 {α : Type} {G : List α} {x y : α} (h : G[1]? = some x) : (G.set 1 y)[1]? = some y := by
  rw [List.getElem?_set_self (List.getElem?_eq_some_iff.mp h).1]
theorem cap_eq {q m : Nat} (h : m < q) : m + max (q - m) (m + 2) = sb_cap q m := by
  unfold sb_cap
  rw [if_neg (by omega)]
  split <;> omega
theorem sub_le0 {q m : Nat} (hq : q ≤ 65536) (hm : m ≤ 65536) : nI q - nI m ≤ 0 ↔ q ≤ m := by
  have e1 : (nI q - nI m).toInt = (q : Int) - m := pk_sub_toInt (by omega) (by omega)
  rw [Int32.le_iff_toInt_le, e1, Int32.toInt_zero]
  omega
theorem WB.drop1 {dC : Nat → ClassId} {dI : Nat → Nat → Nat} {cB : ClassId} {z : Nat} {x y w : Nat × va_E} {s : State} {H : Heap} {locs : List Loc} (h : WB dC dI cB z [x, y, w] s H locs) : WB dC dI cB z [x, w] s H locs :=
  h.to (h.1.sub [0, 2] rfl) (h.2.2.1.sub [0, 2] (by decide) rfl) h.2.2.2.1
theorem set_same {α : Type} {G : List α} {x : α} {k : Nat} (h : G[k]? = some x) : G.set k x = G := by
  obtain ⟨h1, h2⟩ := List.getElem?_eq_some_iff.mp h
  rw [← h2, List.set_getElem_self]
set_option maxHeartbeats 4000000 in
set_option maxRecDepth 100000 in
theorem m_J5_isLatin1_aae02 (l : Launch) (dC : Nat → ClassId) (dI : Nat → Nat → Nat) (cB : ClassId) (z : Nat) (G : va_W) (a b n : Nat) (hG : G[0]? = some (a, eSB b n)) : Met l yJ5_isLatin1_aae02 wsJ5_isLatin1_aae02 ({ frames := 0, cells := 0, slots := 0, locals := 0 } : Room) (va_Pc [.ref a] (PB dC dI cB z G)) (vp_Si (fun r => r = bI true)) 0 0 (fun _ => False) := by
  refine ofWF (cc := cJ5_isLatin1_aae02) (maxL := 1) (ret := (some .boolean)) (by decide +kernel) rfl ?_
  intro p e s m args below meth c s₁ B hml hv
  obtain ⟨rfl, hPB⟩ := hv
  have hx := B.exec
  have hb := B.bytes
  have hr := B.returns
  have hts := atoms_spec (ws := wsJ5_isLatin1_aae02) B.pre
  have hown : s.vm.findClass RJ5 = some m.cls := findClass_of_methodNamed B.named
  have hlocks := B.notSynchronized
  have hinJ4 : ∀ w ∈ u_ws RJ4 TJ4 4, w ∈ wsJ5_isLatin1_aae02 := tu 1326 (by decide +kernel) rfl
  have hB := WB.of hPB
  have hl := lv_entry ([.ref a]) (n := 1) (Nat.le_of_ble_eq_true rfl)
  rw [lg_entry_eq]
  generalize (lg_sl ([.ref a]) ++ List.replicate (1 - (lg_sl ([.ref a])).length) Slot.unset).toArray = ls at hl ⊢
  have hl : lv_has ls 1 [(0, .ref a)] := hl
  show W p l e ({ frames := 0, cells := 0, slots := 0, locals := 0 } : Room) s m ([.ref a]).toArray below meth c s.heap [] 0 0 (MQ below (vp_Si (fun r => r = bI true)) ([.ref a]).toArray s 0 0 (fun _ => False)) (F0 m 0 ls [])
  refine va_gets hx hb hB.2.2.2.2.2.1 hB.2.2.2.1 hown (hts (.fieldLink RJ5 18 "java/lang/String" "COMPACT_STRINGS" "Z") (tm 283 (by decide +kernel) rfl)) (fun _ h => h) dJ5_isLatin1_aae02_0 ?_
  refine kn_if_eq (tgt := 17) hx hb (by omega) dJ5_isLatin1_aae02_3 (by decide) (fun k_1 => absurd k_1 (by omega)) (fun k_1 => ?_)
  refine lv_aload_n hx hb dJ5_isLatin1_aae02_6 rfl (lv_at hl 0 rfl) ?_
  refine va_get (D := (dC, dI)) (ci := 1) (C := RJ4) (T := TJ4) (N := 4) (fs := [.ref b, .int (nI 0), .int (nI 0), .int (nI n)]) hx hb hts hinJ4 hown hB.2.1 hB.1 0 hG rfl 1 (by decide) (hts (.fieldLink RJ5 22 "java/lang/AbstractStringBuilder" "coder" "B") (tm 217 (by decide +kernel) rfl)) (fun _ h => h) rfl dJ5_isLatin1_aae02_7 ?_
  refine kn_if_ne (tgt := 17) hx hb (by omega) dJ5_isLatin1_aae02_10 (by decide) (fun k_2 => absurd k_2 (by omega)) (fun k_2 => ?_)
  refine lv_iconst (v := bI true) hx hb dJ5_isLatin1_aae02_13 (by decide) ?_
  refine lv_goto (tgt := 18) hx hb dJ5_isLatin1_aae02_14 (by decide) ?_
  exact W.zret (v := bI true) hx hb hr (bI_narrow _) (fun t9 ht9 hW9 => ⟨_, rfl, rfl, ht9⟩) (fun _ h => nomatch h) dJ5_isLatin1_aae02_18
set_option maxHeartbeats 4000000 in
set_option maxRecDepth 100000 in
theorem m_J5_length_8abf5 (l : Launch) (dC : Nat → ClassId) (dI : Nat → Nat → Nat) (cB : ClassId) (z : Nat) (G : va_W) (a b n : Nat) (hG : G[0]? = some (a, eSB b n)) : Met l yJ5_length_8abf5 wsJ5_length_8abf5 ({ frames := 0, cells := 0, slots := 0, locals := 0 } : Room) (va_Pc [.ref a] (PB dC dI cB z G)) (vp_Si (fun r => r = nI n)) 0 0 (fun _ => False) := by
  refine ofWF (cc := cJ5_length_8abf5) (maxL := 1) (ret := (some .int)) (by decide +kernel) rfl ?_
  intro p e s m args below meth c s₁ B hml hv
  obtain ⟨rfl, hPB⟩ := hv
  have hx := B.exec
  have hb := B.bytes
  have hr := B.returns
  have hts := atoms_spec (ws := wsJ5_length_8abf5) B.pre
  have hown : s.vm.findClass RJ5 = some m.cls := findClass_of_methodNamed B.named
  have hlocks := B.notSynchronized
  have hinJ4 : ∀ w ∈ u_ws RJ4 TJ4 4, w ∈ wsJ5_length_8abf5 := tu 1326 (by decide +kernel) rfl
  have hB := WB.of hPB
  have hl := lv_entry ([.ref a]) (n := 1) (Nat.le_of_ble_eq_true rfl)
  rw [lg_entry_eq]
  generalize (lg_sl ([.ref a]) ++ List.replicate (1 - (lg_sl ([.ref a])).length) Slot.unset).toArray = ls at hl ⊢
  have hl : lv_has ls 1 [(0, .ref a)] := hl
  show W p l e ({ frames := 0, cells := 0, slots := 0, locals := 0 } : Room) s m ([.ref a]).toArray below meth c s.heap [] 0 0 (MQ below (vp_Si (fun r => r = nI n)) ([.ref a]).toArray s 0 0 (fun _ => False)) (F0 m 0 ls [])
  refine lv_aload_n hx hb dJ5_length_8abf5_0 rfl (lv_at hl 0 rfl) ?_
  refine va_get (D := (dC, dI)) (ci := 1) (C := RJ4) (T := TJ4) (N := 4) (fs := [.ref b, .int (nI 0), .int (nI 0), .int (nI n)]) hx hb hts hinJ4 hown hB.2.1 hB.1 0 hG rfl 3 (by decide) (hts (.fieldLink RJ5 79 "java/lang/AbstractStringBuilder" "count" "I") (tm 277 (by decide +kernel) rfl)) (fun _ h => h) rfl dJ5_length_8abf5_1 ?_
  exact W.iret (v := nI n) hx hb hr (fun t9 ht9 hW9 => ⟨_, rfl, rfl, ht9⟩) (fun _ h => nomatch h) dJ5_length_8abf5_4
set_option maxHeartbeats 4000000 in
set_option maxRecDepth 100000 in
theorem m_J4_length_8abf5 (l : Launch) (dC : Nat → ClassId) (dI : Nat → Nat → Nat) (cB : ClassId) (z : Nat) (G : va_W) (a b n : Nat) (hG : G[0]? = some (a, eSB b n)) : Met l yJ4_length_8abf5 wsJ4_length_8abf5 ({ frames := 1, cells := 0, slots := 0, locals := 20 } : Room) (va_Pc [.ref a] (PB dC dI cB z G)) (vp_Si (fun r => r = nI n)) 0 0 (fun _ => False) := by
  refine ofWF (cc := cJ4_length_8abf5) (maxL := 1) (ret := (some .int)) (by decide +kernel) rfl ?_
  intro p e s m args below meth c s₁ B hml hv
  obtain ⟨rfl, hPB⟩ := hv
  have hx := B.exec
  have hb := B.bytes
  have hr := B.returns
  have hts := atoms_spec (ws := wsJ4_length_8abf5) B.pre
  have hown : s.vm.findClass RJ4 = some m.cls := findClass_of_methodNamed B.named
  have hlocks := B.notSynchronized
  have hB := WB.of hPB
  have hl := lv_entry ([.ref a]) (n := 1) (Nat.le_of_ble_eq_true rfl)
  rw [lg_entry_eq]
  generalize (lg_sl ([.ref a]) ++ List.replicate (1 - (lg_sl ([.ref a])).length) Slot.unset).toArray = ls at hl ⊢
  have hl : lv_has ls 1 [(0, .ref a)] := hl
  show W p l e ({ frames := 1, cells := 0, slots := 0, locals := 20 } : Room) s m ([.ref a]).toArray below meth c s.heap [] 0 0 (MQ below (vp_Si (fun r => r = nI n)) ([.ref a]).toArray s 0 0 (fun _ => False)) (F0 m 0 ls [])
  have hat := KatJ4 hPB
  refine lv_aload_n hx hb dJ4_length_8abf5_0 rfl (lv_at hl 0 rfl) ?_
  refine kx_cr (v := nI n) (va_runSU (As := []) (rest := []) (C := RJ4) hat ⟨hx, hb, hml, hown, hts⟩ (m_J5_length_8abf5 l dC dI cB z G a b n hG) (va_cwSU 0 hts gJ4_length_8abf5_J5_length_8abf5_s343 rfl rfl rfl (by decide +kernel) ⟨Nat.le_of_ble_eq_true rfl, Nat.le_of_ble_eq_true rfl⟩) (hB.preV (ci := 1) (q := (RJ4, TJ4, 4)) rfl 0 hG) rfl rfl hl.1 rfl (lv_room (Nat.le_of_ble_eq_true rfl)) dJ4_length_8abf5_1 ⟨Nat.le_of_ble_eq_true rfl, Nat.le_of_ble_eq_true rfl⟩) (fun _ h => h) ?_
  exact W.iret (v := nI n) hx hb hr (fun t9 ht9 hW9 => ⟨_, rfl, rfl, ht9⟩) (fun _ h => nomatch h) dJ4_length_8abf5_4
set_option maxHeartbeats 4000000 in
set_option maxRecDepth 100000 in
theorem m_J5_getValue_6d5f1 (l : Launch) (dC : Nat → ClassId) (dI : Nat → Nat → Nat) (cB : ClassId) (z : Nat) (G : va_W) (a b n : Nat) (hG : G[0]? = some (a, eSB b n)) : Met l yJ5_getValue_6d5f1 wsJ5_getValue_6d5f1 ({ frames := 0, cells := 0, slots := 0, locals := 0 } : Room) (va_Pc [.ref a] (PB dC dI cB z G)) (va_Sr (fun k => k = b) (fun k => .ref k)) 0 0 (fun _ => False) := by
  refine ofWF (cc := cJ5_getValue_6d5f1) (maxL := 1) (ret := (some (.array .byte))) (by decide +kernel) rfl ?_
  intro p e s m args below meth c s₁ B hml hv
  obtain ⟨rfl, hPB⟩ := hv
  have hx := B.exec
  have hb := B.bytes
  have hr := B.returns
  have hts := atoms_spec (ws := wsJ5_getValue_6d5f1) B.pre
  have hown : s.vm.findClass RJ5 = some m.cls := findClass_of_methodNamed B.named
  have hlocks := B.notSynchronized
  have hinJ4 : ∀ w ∈ u_ws RJ4 TJ4 4, w ∈ wsJ5_getValue_6d5f1 := tu 1326 (by decide +kernel) rfl
  have hB := WB.of hPB
  have hl := lv_entry ([.ref a]) (n := 1) (Nat.le_of_ble_eq_true rfl)
  rw [lg_entry_eq]
  generalize (lg_sl ([.ref a]) ++ List.replicate (1 - (lg_sl ([.ref a])).length) Slot.unset).toArray = ls at hl ⊢
  have hl : lv_has ls 1 [(0, .ref a)] := hl
  show W p l e ({ frames := 0, cells := 0, slots := 0, locals := 0 } : Room) s m ([.ref a]).toArray below meth c s.heap [] 0 0 (MQ below (va_Sr (fun k => k = b) (fun k => .ref k)) ([.ref a]).toArray s 0 0 (fun _ => False)) (F0 m 0 ls [])
  refine lv_aload_n hx hb dJ5_getValue_6d5f1_0 rfl (lv_at hl 0 rfl) ?_
  refine va_get (D := (dC, dI)) (ci := 1) (C := RJ4) (T := TJ4) (N := 4) (fs := [.ref b, .int (nI 0), .int (nI 0), .int (nI n)]) hx hb hts hinJ4 hown hB.2.1 hB.1 0 hG rfl 0 (by decide) (hts (.fieldLink RJ5 15 "java/lang/AbstractStringBuilder" "value" "[B") (tm 216 (by decide +kernel) rfl)) (fun _ h => h) rfl dJ5_getValue_6d5f1_1 ?_
  exact W.aret (v := .ref b) hx hb hr (Or.inr ⟨_, rfl⟩) (Or.inr ⟨_, rfl⟩) (fun t9 ht9 hW9 => ⟨_, rfl, rfl, ht9⟩) (fun _ h => nomatch h) dJ5_getValue_6d5f1_4
set_option maxHeartbeats 4000000 in
set_option maxRecDepth 100000 in
theorem m_J5_newCapacity_0f7a4 (l : Launch) (dC : Nat → ClassId) (dI : Nat → Nat → Nat) (cB : ClassId) (z : Nat) (G : va_W) (a b n cp : Nat) (f : Nat → Int32) (hG : G[0]? = some (a, eSB b n)) (hG2 : G[1]? = some (b, eBy cB cp f)) (q : Nat) (h1 : cp < q) (h2 : q ≤ 65536) (h3 : cp ≤ 65536) : Met l yJ5_newCapacity_0f7a4 wsJ5_newCapacity_0f7a4 ({ frames := 2, cells := 0, slots := 0, locals := 37 } : Room) (va_Pc [.ref a, .int (nI q)] (PB dC dI cB z G)) (vp_Si (fun r => r = nI (sb_cap q cp))) 0 0 (fun _ => False) := by
  refine ofWF (cc := cJ5_newCapacity_0f7a4) (maxL := 6) (ret := (some .int)) (by decide +kernel) rfl ?_
  intro p e s m args below meth c s₁ B hml hv
  obtain ⟨rfl, hPB⟩ := hv
  have hx := B.exec
  have hb := B.bytes
  have hr := B.returns
  have hts := atoms_spec (ws := wsJ5_newCapacity_0f7a4) B.pre
  have hown : s.vm.findClass RJ5 = some m.cls := findClass_of_methodNamed B.named
  have hlocks := B.notSynchronized
  have hinJ4 : ∀ w ∈ u_ws RJ4 TJ4 4, w ∈ wsJ5_newCapacity_0f7a4 := tu 1326 (by decide +kernel) rfl
  have hB := WB.of hPB
  have hl := lv_entry ([.ref a, .int (nI q)]) (n := 6) (Nat.le_of_ble_eq_true rfl)
  rw [lg_entry_eq]
  generalize (lg_sl ([.ref a, .int (nI q)]) ++ List.replicate (6 - (lg_sl ([.ref a, .int (nI q)])).length) Slot.unset).toArray = ls at hl ⊢
  have hl : lv_has ls 6 [(0, .ref a), (1, .int (nI q))] := hl
  show W p l e ({ frames := 2, cells := 0, slots := 0, locals := 37 } : Room) s m ([.ref a, .int (nI q)]).toArray below meth c s.heap [] 0 0 (MQ below (vp_Si (fun r => r = nI (sb_cap q cp))) ([.ref a, .int (nI q)]).toArray s 0 0 (fun _ => False)) (F0 m 0 ls [])
  refine lv_aload_n hx hb dJ5_newCapacity_0f7a4_0 rfl (lv_at hl 0 rfl) ?_
  refine va_get (D := (dC, dI)) (ci := 1) (C := RJ4) (T := TJ4) (N := 4) (fs := [.ref b, .int (nI 0), .int (nI 0), .int (nI n)]) hx hb hts hinJ4 hown hB.2.1 hB.1 0 hG rfl 0 (by decide) (hts (.fieldLink RJ5 15 "java/lang/AbstractStringBuilder" "value" "[B") (tm 216 (by decide +kernel) rfl)) (fun _ h => h) rfl dJ5_newCapacity_0f7a4_1 ?_
  refine va_alen (cA := cB) (x := (cp, .inl f)) hx hb hB.2.1 hB.1 1 0 hG2 rfl (v := nI cp) rfl dJ5_newCapacity_0f7a4_4 ?_
  refine lv_istore_n (lv' := [(2, .int (nI cp)), (0, .ref a), (1, .int (nI q))]) hx hb dJ5_newCapacity_0f7a4_5 rfl hl (by decide) rfl (fun ls hl => ?_)
  refine lv_iload_n hx hb dJ5_newCapacity_0f7a4_6 rfl (lv_at hl 2 rfl) ?_
  refine lv_aload_n hx hb dJ5_newCapacity_0f7a4_7 rfl (lv_at hl 1 rfl) ?_
  refine va_get (D := (dC, dI)) (ci := 1) (C := RJ4) (T := TJ4) (N := 4) (fs := [.ref b, .int (nI 0), .int (nI 0), .int (nI n)]) hx hb hts hinJ4 hown hB.2.1 hB.1 0 hG rfl 1 (by decide) (hts (.fieldLink RJ5 22 "java/lang/AbstractStringBuilder" "coder" "B") (tm 217 (by decide +kernel) rfl)) (fun _ h => h) rfl dJ5_newCapacity_0f7a4_8 ?_
  refine lv_ishl hx hb dJ5_newCapacity_0f7a4_11 ?_
  rw [show (nI q) <<< ((nI 0) &&& 31) = nI q from sb_shl0 _]
  refine lv_istore_n (lv' := [(3, .int (nI q)), (2, .int (nI cp)), (0, .ref a), (1, .int (nI q))]) hx hb dJ5_newCapacity_0f7a4_12 rfl hl (by decide) rfl (fun ls hl => ?_)
  refine lv_iload_n hx hb dJ5_newCapacity_0f7a4_13 rfl (lv_at hl 0 rfl) ?_
  refine lv_iload_n hx hb dJ5_newCapacity_0f7a4_14 rfl (lv_at hl 1 rfl) ?_
  refine kn_isub hx hb (by omega) dJ5_newCapacity_0f7a4_15 ?_
  refine lv_istore (lv' := [(4, .int (nI (q - cp))), (3, .int (nI q)), (2, .int (nI cp)), (0, .ref a), (1, .int (nI q))]) hx hb dJ5_newCapacity_0f7a4_16 hl (by decide) rfl (fun ls hl => ?_)
  refine lv_iload_n hx hb dJ5_newCapacity_0f7a4_18 rfl (lv_at hl 2 rfl) ?_
  refine lv_iload hx hb dJ5_newCapacity_0f7a4_19 (lv_at hl 0 rfl) ?_
  refine lv_iload_n hx hb dJ5_newCapacity_0f7a4_21 rfl (lv_at hl 2 rfl) ?_
  refine lv_iconst (v := nI 2) hx hb dJ5_newCapacity_0f7a4_22 (by decide) ?_
  refine lv_aload_n hx hb dJ5_newCapacity_0f7a4_23 rfl (lv_at hl 3 rfl) ?_
  refine va_get (D := (dC, dI)) (ci := 1) (C := RJ4) (T := TJ4) (N := 4) (fs := [.ref b, .int (nI 0), .int (nI 0), .int (nI n)]) hx hb hts hinJ4 hown hB.2.1 hB.1 0 hG rfl 1 (by decide) (hts (.fieldLink RJ5 22 "java/lang/AbstractStringBuilder" "coder" "B") (tm 217 (by decide +kernel) rfl)) (fun _ h => h) rfl dJ5_newCapacity_0f7a4_24 ?_
  refine lv_ishl hx hb dJ5_newCapacity_0f7a4_27 ?_
  rw [show (nI 2) <<< ((nI 0) &&& 31) = nI 2 from sb_shl0 _]
  refine kn_iadd hx hb dJ5_newCapacity_0f7a4_28 ?_
  refine kx_cr (v := nI (cp + max (q - cp) (cp + 2))) (va_runS (As := [.int (nI cp), .int (nI (q - cp)), .int (nI (cp + 2))]) (rest := []) ⟨hx, hb, hml, hown, hts⟩ (m_J8_newLength_cabcc l cp (q - cp) (cp + 2) (by omega) (by omega) (by omega)) (va_cwS 3 hts gJ5_newCapacity_0f7a4_J8_newLength_cabcc rfl rfl rfl hdJ8_newLength_cabcc_3.2 ⟨Nat.le_of_ble_eq_true rfl, Nat.le_of_ble_eq_true rfl⟩) (pureS) rfl rfl hl.1 rfl (lv_room (Nat.le_of_ble_eq_true rfl)) dJ5_newCapacity_0f7a4_29 ⟨Nat.le_of_ble_eq_true rfl, Nat.le_of_ble_eq_true rfl⟩) (fun _ h => h) ?_
  refine lv_istore (lv' := [(5, .int (nI (cp + max (q - cp) (cp + 2)))), (4, .int (nI (q - cp))), (3, .int (nI q)), (2, .int (nI cp)), (0, .ref a), (1, .int (nI q))]) hx hb dJ5_newCapacity_0f7a4_32 hl (by decide) rfl (fun ls hl => ?_)
  refine lv_iload hx hb dJ5_newCapacity_0f7a4_34 (lv_at hl 0 rfl) ?_
  refine lv_ldc (v := nI 2147483647) hx hb hown (hts (.constant RJ5 39 2147483647) (tm 224 (by decide +kernel) rfl)) dJ5_newCapacity_0f7a4_36 ?_
  refine kn_icmp_ne (tgt := 51) hx hb (by omega) (by omega) dJ5_newCapacity_0f7a4_38 (by decide) (fun k_1 => ?_) (fun k_1 => absurd k_1 (by omega))
  refine lv_iload hx hb dJ5_newCapacity_0f7a4_51 (lv_at hl 0 rfl) ?_
  refine lv_aload_n hx hb dJ5_newCapacity_0f7a4_53 rfl (lv_at hl 4 rfl) ?_
  refine va_get (D := (dC, dI)) (ci := 1) (C := RJ4) (T := TJ4) (N := 4) (fs := [.ref b, .int (nI 0), .int (nI 0), .int (nI n)]) hx hb hts hinJ4 hown hB.2.1 hB.1 0 hG rfl 1 (by decide) (hts (.fieldLink RJ5 22 "java/lang/AbstractStringBuilder" "coder" "B") (tm 217 (by decide +kernel) rfl)) (fun _ h => h) rfl dJ5_newCapacity_0f7a4_54 ?_
  refine lv_ishr hx hb dJ5_newCapacity_0f7a4_57 ?_
  rw [show (nI (cp + max (q - cp) (cp + 2))) >>> ((nI 0) &&& 31) = nI (cp + max (q - cp) (cp + 2)) from sb_shr0 _]
  exact W.iret (v := nI (cp + max (q - cp) (cp + 2))) hx hb hr (fun t9 ht9 hW9 => ⟨_, rfl, (congrArg nI (cap_eq h1)), ht9⟩) (fun _ h => nomatch h) dJ5_newCapacity_0f7a4_58
set_option maxHeartbeats 4000000 in
set_option maxRecDepth 100000 in
theorem m_J7_copyOf_9075b (l : Launch) (dC : Nat → ClassId) (dI : Nat → Nat → Nat) (cB : ClassId) (z : Nat) (G : va_W) (b cp : Nat) (f : Nat → Int32) (hG2 : G[1]? = some (b, eBy cB cp f)) (q : Nat) (hf : sb_Fit f) (h1 : cp < q) (h2 : q ≤ 65536) : Met l yJ7_copyOf_9075b wsJ7_copyOf_9075b ({ frames := 1, cells := 1, slots := q, locals := 40 } : Room) (va_Pc [.ref b, .int (nI q)] (PB dC dI cB z G)) (va_Qr (fun u : Nat → Int32 => sb_Fit u) (fun u q9 t => True ∧ PB dC dI cB z (G ++ [(q9, eBy cB q u)]) t) (zB z)) 1 q (zB z) := by
  refine ofWF (cc := cJ7_copyOf_9075b) (maxL := 3) (ret := (some (.array .byte))) (by decide +kernel) rfl ?_
  intro p e s m args below meth c s₁ B hml hv
  obtain ⟨rfl, hPB⟩ := hv
  have hx := B.exec
  have hb := B.bytes
  have hr := B.returns
  have hts := atoms_spec (ws := wsJ7_copyOf_9075b) B.pre
  have hown : s.vm.findClass RJ7 = some m.cls := findClass_of_methodNamed B.named
  have hlocks := B.notSynchronized
  have hB := WB.of hPB
  have hl := lv_entry ([.ref b, .int (nI q)]) (n := 3) (Nat.le_of_ble_eq_true rfl)
  rw [lg_entry_eq]
  generalize (lg_sl ([.ref b, .int (nI q)]) ++ List.replicate (3 - (lg_sl ([.ref b, .int (nI q)])).length) Slot.unset).toArray = ls at hl ⊢
  have hl : lv_has ls 3 [(0, .ref b), (1, .int (nI q))] := hl
  show W p l e ({ frames := 1, cells := 1, slots := q, locals := 40 } : Room) s m ([.ref b, .int (nI q)]).toArray below meth c s.heap [] 0 0 (MQ below (va_Qr (fun u : Nat → Int32 => sb_Fit u) (fun u q9 t => True ∧ PB dC dI cB z (G ++ [(q9, eBy cB q u)]) t) (zB z)) ([.ref b, .int (nI q)]).toArray s 1 q (zB z)) (F0 m 0 ls [])
  refine lv_iload_n hx hb dJ7_copyOf_9075b_0 rfl (lv_at hl 1 rfl) ?_
  refine lv_aload_n hx hb dJ7_copyOf_9075b_1 rfl (lv_at hl 0 rfl) ?_
  refine va_alen (cA := cB) (x := (cp, .inl f)) hx hb hB.2.1 hB.1 1 0 hG2 rfl (v := nI cp) rfl dJ7_copyOf_9075b_2 ?_
  refine kn_icmp_ne (tgt := 14) hx hb (by omega) (by omega) dJ7_copyOf_9075b_3 (by decide) (fun k_1 => ?_) (fun k_1 => absurd k_1 (by omega))
  refine lv_iload_n hx hb dJ7_copyOf_9075b_14 rfl (lv_at hl 1 rfl) ?_
  refine kb_new hx hb (hts (.arrayClass .byte) (tm 246 (by decide +kernel) rfl)) hB (by omega) (Nat.le_refl _) (by show 0 + q ≤ q; omega) dJ7_copyOf_9075b_15 (fun q_2 H hB => ?_)
  refine lv_astore_n (lv' := [(2, .ref q_2), (0, .ref b), (1, .int (nI q))]) hx hb dJ7_copyOf_9075b_17 rfl hl (by decide) rfl (fun ls hl => ?_)
  refine lv_aload_n hx hb dJ7_copyOf_9075b_18 rfl (lv_at hl 1 rfl) ?_
  refine lv_iconst (v := nI 0) hx hb dJ7_copyOf_9075b_19 (by decide) ?_
  refine lv_aload_n hx hb dJ7_copyOf_9075b_20 rfl (lv_at hl 0 rfl) ?_
  refine lv_iconst (v := nI 0) hx hb dJ7_copyOf_9075b_21 (by decide) ?_
  refine lv_aload_n hx hb dJ7_copyOf_9075b_22 rfl (lv_at hl 1 rfl) ?_
  refine va_alen (cA := cB) (x := (cp, .inl f)) hx hb hB.2.1 hB.1 1 0 (app_old hG2) rfl (v := nI cp) rfl dJ7_copyOf_9075b_23 ?_
  refine lv_iload_n hx hb dJ7_copyOf_9075b_24 rfl (lv_at hl 2 rfl) ?_
  refine kn_min hx hb (by rw [hml]; exact hl.1.symm) hown (hts (.methodLink RJ7 304 Lib.Math.min.name) (tm 247 (by decide +kernel) rfl)) (hts (.static Lib.Math.min.name) (tm 151 (by decide +kernel) rfl)) (hts (.initialized "java/lang/Math") (tm 152 (by decide +kernel) rfl)) (hts (.code Lib.Math.min.name Lib.Math.min.code 2 (some .int)) (tm 153 (by decide +kernel) rfl)) (Nat.le_of_ble_eq_true rfl) (Nat.le_of_ble_eq_true rfl) (by simp) (by simp) (by omega) (by omega) dJ7_copyOf_9075b_25 ?_
  refine kb_cp hx hb (by rw [hml]; exact hl.1.symm) hown (hts (.methodLink RJ7 150 arraycopyName) (tm 248 (by decide +kernel) rfl)) (hts (.native arraycopyName) (tm 249 (by decide +kernel) rfl)) (hts (.static arraycopyName) (tm 250 (by decide +kernel) rfl)) (hts (.initialized "java/lang/System") (tm 251 (by decide +kernel) rfl)) hB 1 G.length (f := f) (g := (fun _ => 0)) (app_old hG2) app_new hf (by omega) (by omega) (by omega) (Nat.le_of_ble_eq_true rfl) (Nat.le_of_ble_eq_true rfl) dJ7_copyOf_9075b_28 (fun H locs hB => ?_)
  rw [app_set] at hB
  refine lv_aload_n hx hb dJ7_copyOf_9075b_31 rfl (lv_at hl 0 rfl) ?_
  exact W.widen (k := 1) (n := q) (by omega) (by omega) (W.aret (v := .ref q_2) hx hb hr (Or.inr ⟨_, rfl⟩) (Or.inr ⟨_, rfl⟩) (fun t9 ht9 hW9 => ⟨⟨_, _, rfl, sb_fitC hf sb_fit0, trivial, hB.P ht9 hW9⟩, hB.F ht9⟩) hB.L dJ7_copyOf_9075b_32)
set_option maxHeartbeats 4000000 in
set_option maxRecDepth 100000 in
theorem m_J6_getChars_ba4f3 (l : Launch) (dC : Nat → ClassId) (dI : Nat → Nat → Nat) (cB : ClassId) (z : Nat) (G : va_W) (b cp : Nat) (f : Nat → Int32) (hG2 : G[1]? = some (b, eBy cB cp f)) (v i9 : Nat) (hf : sb_Fit f) (hv : v < 1000000000) (hi : sb_dg v ≤ i9) (him : i9 ≤ cp) (hm : cp ≤ 65536) : Met l yJ6_getChars_ba4f3 wsJ6_getChars_ba4f3 ({ frames := 0, cells := 0, slots := 0, locals := 0 } : Room) (va_Pc [.int (nI v), .int (nI i9), .ref b] (PB dC dI cB z G)) (va_Qi (fun (_ : Int32) (u : Nat → Int32) => sb_Fit u) (fun u t => PB dC dI cB z (G.set 1 (b, eBy cB cp u)) t) (zB z)) 0 0 (zB z) := by
  refine ofWF (cc := cJ6_getChars_ba4f3) (maxL := 7) (ret := (some .int)) (by decide +kernel) rfl ?_
  intro p e s m args below meth c s₁ B hml hv
  obtain ⟨rfl, hPB⟩ := hv
  have hx := B.exec
  have hb := B.bytes
  have hr := B.returns
  have hts := atoms_spec (ws := wsJ6_getChars_ba4f3) B.pre
  have hown : s.vm.findClass RJ6 = some m.cls := findClass_of_methodNamed B.named
  have hlocks := B.notSynchronized
  have hB := WB.of hPB
  have hl := lv_entry ([.int (nI v), .int (nI i9), .ref b]) (n := 7) (Nat.le_of_ble_eq_true rfl)
  rw [lg_entry_eq]
  generalize (lg_sl ([.int (nI v), .int (nI i9), .ref b]) ++ List.replicate (7 - (lg_sl ([.int (nI v), .int (nI i9), .ref b])).length) Slot.unset).toArray = ls at hl ⊢
  have hl : lv_has ls 7 [(0, .int (nI v)), (1, .int (nI i9)), (2, .ref b)] := hl
  show W p l e ({ frames := 0, cells := 0, slots := 0, locals := 0 } : Room) s m ([.int (nI v), .int (nI i9), .ref b]).toArray below meth c s.heap [] 0 0 (MQ below (va_Qi (fun (_ : Int32) (u : Nat → Int32) => sb_Fit u) (fun u t => PB dC dI cB z (G.set 1 (b, eBy cB cp u)) t) (zB z)) ([.int (nI v), .int (nI i9), .ref b]).toArray s 0 0 (zB z)) (F0 m 0 ls [])
  replace hB : WB dC dI cB z (G.set 1 (b, eBy cB cp f)) s s.heap [] := by rw [set_same hG2]; exact hB
  obtain ⟨-, ⟨t1, g1, hZ1, hT1⟩, ⟨t2, g2, hZ2, hT2⟩, -⟩ := hB.2.2.2.2.2
  refine lv_iload_n hx hb dJ6_getChars_ba4f3_0 rfl (lv_at hl 1 rfl) ?_
  refine lv_istore (lv' := [(5, .int (nI i9)), (0, .int (nI v)), (1, .int (nI i9)), (2, .ref b)]) hx hb dJ6_getChars_ba4f3_1 hl (by decide) rfl (fun ls hl => ?_)
  refine lv_iload_n hx hb dJ6_getChars_ba4f3_3 rfl (lv_at hl 1 rfl) ?_
  refine kn_if_ge (tgt := 11) hx hb (by omega) dJ6_getChars_ba4f3_4 (by decide) ?_
  refine lv_iconst (v := nI 0) hx hb dJ6_getChars_ba4f3_11 (by decide) ?_
  refine lv_istore (lv' := [(6, .int (nI 0)), (5, .int (nI i9)), (0, .int (nI v)), (1, .int (nI i9)), (2, .ref b)]) hx hb dJ6_getChars_ba4f3_12 hl (by decide) rfl (fun ls hl => ?_)
  refine lv_iload hx hb dJ6_getChars_ba4f3_14 (lv_at hl 0 rfl) ?_
  refine kn_if_ne (tgt := 22) hx hb (by omega) dJ6_getChars_ba4f3_16 (by decide) (fun k_2 => absurd k_2 (by omega)) (fun k_2 => ?_)
  refine lv_iload_n hx hb dJ6_getChars_ba4f3_19 rfl (lv_at hl 2 rfl) ?_
  refine lv_ineg hx hb dJ6_getChars_ba4f3_20 ?_
  refine lv_istore_n (lv' := [(0, .int (-(nI v))), (6, .int (nI 0)), (5, .int (nI i9)), (1, .int (nI i9)), (2, .ref b)]) hx hb dJ6_getChars_ba4f3_21 rfl hl (by decide) rfl (fun ls hl => ?_)
  have loop22 : ∀ (fuel : Nat) (w p9 : Nat) (f9 : Nat → Int32) (hf : sb_Fit f9) (hw : w < 1000000000) (hp : sb_dg w ≤ p9) (hpm : p9 ≤ cp) (H : Heap) (locs : List Loc), w < fuel → WB dC dI cB z (G.set 1 (b, eBy cB cp f9)) s H locs → ∀ ls : Array Slot, lv_has ls 7 [(0, .int (-nI w)), (2, .ref b), (5, .int (nI p9)), (6, .int (nI 0))] → W p l e ({ frames := 0, cells := 0, slots := 0, locals := 0 } : Room) s m ([.int (nI v), .int (nI i9), .ref b]).toArray below meth c H locs 0 0 (MQ below (va_Qi (fun (_ : Int32) (u : Nat → Int32) => sb_Fit u) (fun u t => PB dC dI cB z (G.set 1 (b, eBy cB cp u)) t) (zB z)) ([.int (nI v), .int (nI i9), .ref b]).toArray s 0 0 (zB z)) (F0 m 22 ls []) := by
    intro fuel
    induction fuel with
    | zero => intro w p9 f9 hf hw hp hpm H locs hf9; exact absurd hf9 (Nat.not_lt_zero _)
    | succ fuel ih22 =>
      intro w p9 f9 hf hw hp hpm H locs hf9 hB ls hl
      refine lv_iload_n hx hb dJ6_getChars_ba4f3_22 rfl (lv_at hl 0 rfl) ?_
      refine lv_bipush (v := -nI 100) hx hb dJ6_getChars_ba4f3_23 (by decide) ?_
      refine lv_icmp_gt (tgt := 72) hx hb dJ6_getChars_ba4f3_25 (by decide) (fun k_3 => ?_) (fun k_3 => ?_)
      · skip
        have hc9 : w < 100 := (sb_nlt (by decide) (by omega)).mp k_3
        have hd1 := (sb_dg_in w).1
        refine lv_aload_n hx hb dJ6_getChars_ba4f3_72 rfl (lv_at hl 1 rfl) ?_
        refine lv_iinc (v := nI (p9 - 1)) (lv' := [(5, .int (nI (p9 - 1))), (0, .int (-nI w)), (2, .ref b), (6, .int (nI 0))]) hx hb dJ6_getChars_ba4f3_73 hl (k := 2) rfl (kn_dec (by omega)) (by decide) rfl (fun ls hl => ?_)
        refine lv_iload hx hb dJ6_getChars_ba4f3_76 (lv_at hl 0 rfl) ?_
        refine va_gets hx hb hZ1 hB.2.2.2.1 hown (hts (.fieldLink RJ6 83 "java/lang/Integer" "DigitOnes" "[B") (tm 358 (by decide +kernel) rfl)) (fun _ h => h) dJ6_getChars_ba4f3_78 ?_
        refine lv_iload_n hx hb dJ6_getChars_ba4f3_81 rfl (lv_at hl 1 rfl) ?_
        refine lv_ineg hx hb dJ6_getChars_ba4f3_82 ?_
        rw [Int32.neg_neg]
        refine va_tb hx hb hT1 hB.2.2.2.1 (vp_in_nI (by omega) (by omega)) rfl dJ6_getChars_ba4f3_83 ?_
        refine kb_bst (n := cp) (f := f9) hx hb hB 1 (set1 hG2) (by omega) (by omega) dJ6_getChars_ba4f3_84 (fun H locs hB => ?_)
        obtain ⟨f_4, hf, hB⟩ : ∃ g9, sb_Fit g9 ∧ WB dC dI cB z (G.set 1 (b, eBy cB cp g9)) s H locs := ⟨_, sb_fitU hf (fit_nar _), (by rw [List.set_set] at hB; exact hB)⟩
        refine lv_iload_n hx hb dJ6_getChars_ba4f3_85 rfl (lv_at hl 1 rfl) ?_
        refine lv_bipush (v := -nI 9) hx hb dJ6_getChars_ba4f3_86 (by decide) ?_
        refine lv_icmp_ge (tgt := 104) hx hb dJ6_getChars_ba4f3_88 (by decide) (fun k_5 => ?_) (fun k_5 => ?_)
        · skip
          refine lv_iload hx hb dJ6_getChars_ba4f3_104 (lv_at hl 3 rfl) ?_
          refine kn_if_eq (tgt := 118) hx hb (by omega) dJ6_getChars_ba4f3_106 (by decide) (fun k_6 => ?_) (fun k_6 => absurd k_6 (by omega))
          refine lv_iload hx hb dJ6_getChars_ba4f3_118 (lv_at hl 0 rfl) ?_
          exact W.iret (v := nI (p9 - 1)) hx hb hr (fun t9 ht9 hW9 => ⟨⟨_, f_4, rfl, hf, hB.P ht9 hW9⟩, hB.F ht9⟩) hB.L dJ6_getChars_ba4f3_120
        · skip
          have hc8 : ¬ w ≤ 9 := fun z9 => k_5 ((sb_nle (by decide) (by omega)).mpr z9)
          have hd7 : 2 ≤ sb_dg w := by unfold sb_dg; (repeat' split) <;> omega
          refine lv_aload_n hx hb dJ6_getChars_ba4f3_91 rfl (lv_at hl 2 rfl) ?_
          refine lv_iinc (v := nI (p9 - 1 - 1)) (lv' := [(5, .int (nI (p9 - 1 - 1))), (0, .int (-nI w)), (2, .ref b), (6, .int (nI 0))]) hx hb dJ6_getChars_ba4f3_92 hl (k := 0) rfl (kn_dec (by omega)) (by decide) rfl (fun ls hl => ?_)
          refine lv_iload hx hb dJ6_getChars_ba4f3_95 (lv_at hl 0 rfl) ?_
          refine va_gets hx hb hZ2 hB.2.2.2.1 hown (hts (.fieldLink RJ6 87 "java/lang/Integer" "DigitTens" "[B") (tm 359 (by decide +kernel) rfl)) (fun _ h => h) dJ6_getChars_ba4f3_97 ?_
          refine lv_iload_n hx hb dJ6_getChars_ba4f3_100 rfl (lv_at hl 1 rfl) ?_
          refine lv_ineg hx hb dJ6_getChars_ba4f3_101 ?_
          rw [Int32.neg_neg]
          refine va_tb hx hb hT2 hB.2.2.2.1 (vp_in_nI (by omega) (by omega)) rfl dJ6_getChars_ba4f3_102 ?_
          refine kb_bst (n := cp) (f := f_4) hx hb hB 1 (set1 hG2) (by omega) (by omega) dJ6_getChars_ba4f3_103 (fun H locs hB => ?_)
          obtain ⟨f_7, hf, hB⟩ : ∃ g9, sb_Fit g9 ∧ WB dC dI cB z (G.set 1 (b, eBy cB cp g9)) s H locs := ⟨_, sb_fitU hf (fit_nar _), (by rw [List.set_set] at hB; exact hB)⟩
          refine lv_iload hx hb dJ6_getChars_ba4f3_104 (lv_at hl 3 rfl) ?_
          refine kn_if_eq (tgt := 118) hx hb (by omega) dJ6_getChars_ba4f3_106 (by decide) (fun k_8 => ?_) (fun k_8 => absurd k_8 (by omega))
          refine lv_iload hx hb dJ6_getChars_ba4f3_118 (lv_at hl 0 rfl) ?_
          exact W.iret (v := nI (p9 - 1 - 1)) hx hb hr (fun t9 ht9 hW9 => ⟨⟨_, f_7, rfl, hf, hB.P ht9 hW9⟩, hB.F ht9⟩) hB.L dJ6_getChars_ba4f3_120
      · skip
        have hc9 : ¬ w < 100 := fun z9 => k_3 ((sb_nlt (by decide) (by omega)).mpr z9)
        have hd9 := sb_dg100 (w := w) (by omega) (by omega)
        have hd8 := sb_dg_in (w / 100)
        refine lv_iload_n hx hb dJ6_getChars_ba4f3_28 rfl (lv_at hl 0 rfl) ?_
        refine lv_bipush (v := nI 100) hx hb dJ6_getChars_ba4f3_29 (by decide) ?_
        refine lv_idiv hx hb dJ6_getChars_ba4f3_31 (by decide) ?_
        rw [show -nI w / nI 100 = -nI (w / 100) from sb_ndiv (by omega)]
        refine lv_istore_n (lv' := [(3, .int (-nI (w / 100))), (0, .int (-nI w)), (2, .ref b), (5, .int (nI p9)), (6, .int (nI 0))]) hx hb dJ6_getChars_ba4f3_32 rfl hl (by decide) rfl (fun ls hl => ?_)
        refine lv_iload_n hx hb dJ6_getChars_ba4f3_33 rfl (lv_at hl 0 rfl) ?_
        refine lv_bipush (v := nI 100) hx hb dJ6_getChars_ba4f3_34 (by decide) ?_
        refine lv_imul hx hb dJ6_getChars_ba4f3_36 ?_
        refine lv_iload_n hx hb dJ6_getChars_ba4f3_37 rfl (lv_at hl 1 rfl) ?_
        refine lv_isub hx hb dJ6_getChars_ba4f3_38 ?_
        rw [show -nI (w / 100) * nI 100 - -nI w = nI (w % 100) from sb_nrem (by omega)]
        refine lv_istore (lv' := [(4, .int (nI (w % 100))), (3, .int (-nI (w / 100))), (0, .int (-nI w)), (2, .ref b), (5, .int (nI p9)), (6, .int (nI 0))]) hx hb dJ6_getChars_ba4f3_39 hl (by decide) rfl (fun ls hl => ?_)
        refine lv_iload_n hx hb dJ6_getChars_ba4f3_41 rfl (lv_at hl 1 rfl) ?_
        refine lv_istore_n (lv' := [(0, .int (-nI (w / 100))), (4, .int (nI (w % 100))), (3, .int (-nI (w / 100))), (2, .ref b), (5, .int (nI p9)), (6, .int (nI 0))]) hx hb dJ6_getChars_ba4f3_42 rfl hl (by decide) rfl (fun ls hl => ?_)
        refine lv_aload_n hx hb dJ6_getChars_ba4f3_43 rfl (lv_at hl 3 rfl) ?_
        refine lv_iinc (v := nI (p9 - 1)) (lv' := [(5, .int (nI (p9 - 1))), (0, .int (-nI (w / 100))), (4, .int (nI (w % 100))), (3, .int (-nI (w / 100))), (2, .ref b), (6, .int (nI 0))]) hx hb dJ6_getChars_ba4f3_44 hl (k := 4) rfl (kn_dec (by omega)) (by decide) rfl (fun ls hl => ?_)
        refine lv_iload hx hb dJ6_getChars_ba4f3_47 (lv_at hl 0 rfl) ?_
        refine va_gets hx hb hZ1 hB.2.2.2.1 hown (hts (.fieldLink RJ6 83 "java/lang/Integer" "DigitOnes" "[B") (tm 358 (by decide +kernel) rfl)) (fun _ h => h) dJ6_getChars_ba4f3_49 ?_
        refine lv_iload hx hb dJ6_getChars_ba4f3_52 (lv_at hl 2 rfl) ?_
        refine va_tb hx hb hT1 hB.2.2.2.1 (vp_in_nI (by omega) (by omega)) rfl dJ6_getChars_ba4f3_54 ?_
        refine kb_bst (n := cp) (f := f9) hx hb hB 1 (set1 hG2) (by omega) (by omega) dJ6_getChars_ba4f3_55 (fun H locs hB => ?_)
        obtain ⟨f_9, hf, hB⟩ : ∃ g9, sb_Fit g9 ∧ WB dC dI cB z (G.set 1 (b, eBy cB cp g9)) s H locs := ⟨_, sb_fitU hf (fit_nar _), (by rw [List.set_set] at hB; exact hB)⟩
        refine lv_aload_n hx hb dJ6_getChars_ba4f3_56 rfl (lv_at hl 4 rfl) ?_
        refine lv_iinc (v := nI (p9 - 1 - 1)) (lv' := [(5, .int (nI (p9 - 1 - 1))), (0, .int (-nI (w / 100))), (4, .int (nI (w % 100))), (3, .int (-nI (w / 100))), (2, .ref b), (6, .int (nI 0))]) hx hb dJ6_getChars_ba4f3_57 hl (k := 0) rfl (kn_dec (by omega)) (by decide) rfl (fun ls hl => ?_)
        refine lv_iload hx hb dJ6_getChars_ba4f3_60 (lv_at hl 0 rfl) ?_
        refine va_gets hx hb hZ2 hB.2.2.2.1 hown (hts (.fieldLink RJ6 87 "java/lang/Integer" "DigitTens" "[B") (tm 359 (by decide +kernel) rfl)) (fun _ h => h) dJ6_getChars_ba4f3_62 ?_
        refine lv_iload hx hb dJ6_getChars_ba4f3_65 (lv_at hl 2 rfl) ?_
        refine va_tb hx hb hT2 hB.2.2.2.1 (vp_in_nI (by omega) (by omega)) rfl dJ6_getChars_ba4f3_67 ?_
        refine kb_bst (n := cp) (f := f_9) hx hb hB 1 (set1 hG2) (by omega) (by omega) dJ6_getChars_ba4f3_68 (fun H locs hB => ?_)
        obtain ⟨f_10, hf, hB⟩ : ∃ g9, sb_Fit g9 ∧ WB dC dI cB z (G.set 1 (b, eBy cB cp g9)) s H locs := ⟨_, sb_fitU hf (fit_nar _), (by rw [List.set_set] at hB; exact hB)⟩
        refine lv_goto (tgt := 22) hx hb dJ6_getChars_ba4f3_69 (by decide) ?_
        exact ih22  (w / 100) (p9 - 1 - 1) f_10 hf (by omega) (by omega) (by omega) _ _ (by omega) hB _ (lv_sub hl [1, 4, 0, 5] rfl)
  exact loop22 (v + 1) v i9 f hf (by omega) (by omega) (by omega) _ _ (by omega) hB _ (lv_sub hl [0, 4, 2, 1] rfl)
set_option maxHeartbeats 4000000 in
set_option maxRecDepth 100000 in
theorem m_J5_ensureCapacityInternal_d00df (l : Launch) (dC : Nat → ClassId) (dI : Nat → Nat → Nat) (cB : ClassId) (z : Nat) (a b n cp : Nat) (f : Nat → Int32) (q : Nat) (hm : cp ≤ 65536) (hq : q ≤ 65536) (hf : sb_Fit f) (hcap : sb_cap q cp ≤ 65536) : Met l yJ5_ensureCapacityInternal_d00df wsJ5_ensureCapacityInternal_d00df ({ frames := 3, cells := 1, slots := (gm q cp), locals := 62 } : Room) (va_Pc [.ref a, .int (nI q)] (PB dC dI cB z [(a, eSB b n), (b, eBy cB cp f)])) (va_Qv (fun u : Nat × (Nat → Int32) => sb_Fit u.2) (fun u t => PB dC dI cB z [(a, eSB u.1 n), (u.1, eBy cB (sb_cap q cp) u.2)] t) (zB z)) 1 (gm q cp) (zB z) := by
  refine ofWF (cc := cJ5_ensureCapacityInternal_d00df) (maxL := 3) (ret := none) (by decide +kernel) rfl ?_
  intro p e s m args below meth c s₁ B hml hv
  obtain ⟨rfl, hPB⟩ := hv
  have hx := B.exec
  have hb := B.bytes
  have hr := B.returns
  have hts := atoms_spec (ws := wsJ5_ensureCapacityInternal_d00df) B.pre
  have hown : s.vm.findClass RJ5 = some m.cls := findClass_of_methodNamed B.named
  have hlocks := B.notSynchronized
  have hinJ4 : ∀ w ∈ u_ws RJ4 TJ4 4, w ∈ wsJ5_ensureCapacityInternal_d00df := tu 1326 (by decide +kernel) rfl
  have hB := WB.of hPB
  have hl := lv_entry ([.ref a, .int (nI q)]) (n := 3) (Nat.le_of_ble_eq_true rfl)
  rw [lg_entry_eq]
  generalize (lg_sl ([.ref a, .int (nI q)]) ++ List.replicate (3 - (lg_sl ([.ref a, .int (nI q)])).length) Slot.unset).toArray = ls at hl ⊢
  have hl : lv_has ls 3 [(0, .ref a), (1, .int (nI q))] := hl
  show W p l e ({ frames := 3, cells := 1, slots := (gm q cp), locals := 62 } : Room) s m ([.ref a, .int (nI q)]).toArray below meth c s.heap [] 0 0 (MQ below (va_Qv (fun u : Nat × (Nat → Int32) => sb_Fit u.2) (fun u t => PB dC dI cB z [(a, eSB u.1 n), (u.1, eBy cB (sb_cap q cp) u.2)] t) (zB z)) ([.ref a, .int (nI q)]).toArray s 1 (gm q cp) (zB z)) (F0 m 0 ls [])
  refine lv_aload_n hx hb dJ5_ensureCapacityInternal_d00df_0 rfl (lv_at hl 0 rfl) ?_
  refine va_get (D := (dC, dI)) (ci := 1) (C := RJ4) (T := TJ4) (N := 4) (fs := [.ref b, .int (nI 0), .int (nI 0), .int (nI n)]) hx hb hts hinJ4 hown hB.2.1 hB.1 0 rfl rfl 0 (by decide) (hts (.fieldLink RJ5 15 "java/lang/AbstractStringBuilder" "value" "[B") (tm 216 (by decide +kernel) rfl)) (fun _ h => h) rfl dJ5_ensureCapacityInternal_d00df_1 ?_
  refine va_alen (cA := cB) (x := (cp, .inl f)) hx hb hB.2.1 hB.1 1 0 rfl rfl (v := nI cp) rfl dJ5_ensureCapacityInternal_d00df_4 ?_
  refine lv_aload_n hx hb dJ5_ensureCapacityInternal_d00df_5 rfl (lv_at hl 0 rfl) ?_
  refine va_get (D := (dC, dI)) (ci := 1) (C := RJ4) (T := TJ4) (N := 4) (fs := [.ref b, .int (nI 0), .int (nI 0), .int (nI n)]) hx hb hts hinJ4 hown hB.2.1 hB.1 0 rfl rfl 1 (by decide) (hts (.fieldLink RJ5 22 "java/lang/AbstractStringBuilder" "coder" "B") (tm 217 (by decide +kernel) rfl)) (fun _ h => h) rfl dJ5_ensureCapacityInternal_d00df_6 ?_
  refine lv_ishr hx hb dJ5_ensureCapacityInternal_d00df_9 ?_
  rw [show (nI cp) >>> ((nI 0) &&& 31) = nI cp from sb_shr0 _]
  refine lv_istore_n (lv' := [(2, .int (nI cp)), (0, .ref a), (1, .int (nI q))]) hx hb dJ5_ensureCapacityInternal_d00df_10 rfl hl (by decide) rfl (fun ls hl => ?_)
  refine lv_iload_n hx hb dJ5_ensureCapacityInternal_d00df_11 rfl (lv_at hl 2 rfl) ?_
  refine lv_iload_n hx hb dJ5_ensureCapacityInternal_d00df_12 rfl (lv_at hl 0 rfl) ?_
  refine lv_isub hx hb dJ5_ensureCapacityInternal_d00df_13 ?_
  refine lv_if_le (tgt := 38) hx hb dJ5_ensureCapacityInternal_d00df_14 (by decide) (fun k_1 => ?_) (fun k_1 => ?_)
  · skip
    have hle : q ≤ cp := (sub_le0 hq hm).mp k_1
    have e9 : sb_cap q cp = cp := if_pos hle
    replace hB : WB dC dI cB z [(a, eSB b n), (b, eBy cB (sb_cap q cp) f)] s s.heap [] := by rw [e9]; exact hB
    exact W.widen (k := 1) (n := (gm q cp)) (by omega) (by first | exact Nat.zero_le _ | exact gm0 (by omega)) (W.vret hx hb hr (fun t9 ht9 hW9 => ⟨⟨(b, f), rfl, hf, hB.P ht9 hW9⟩, hB.F ht9⟩) hB.L dJ5_ensureCapacityInternal_d00df_38)
  · skip
    have hle : ¬ q ≤ cp := fun z9 => k_1 ((sub_le0 hq hm).mpr z9)
    have hge := sb_cap_ge q cp
    refine lv_aload_n hx hb dJ5_ensureCapacityInternal_d00df_17 rfl (lv_at hl 1 rfl) ?_
    refine lv_aload_n hx hb dJ5_ensureCapacityInternal_d00df_18 rfl (lv_at hl 1 rfl) ?_
    refine va_get (D := (dC, dI)) (ci := 1) (C := RJ4) (T := TJ4) (N := 4) (fs := [.ref b, .int (nI 0), .int (nI 0), .int (nI n)]) hx hb hts hinJ4 hown hB.2.1 hB.1 0 rfl rfl 0 (by decide) (hts (.fieldLink RJ5 15 "java/lang/AbstractStringBuilder" "value" "[B") (tm 216 (by decide +kernel) rfl)) (fun _ h => h) rfl dJ5_ensureCapacityInternal_d00df_19 ?_
    refine lv_aload_n hx hb dJ5_ensureCapacityInternal_d00df_22 rfl (lv_at hl 1 rfl) ?_
    refine lv_iload_n hx hb dJ5_ensureCapacityInternal_d00df_23 rfl (lv_at hl 2 rfl) ?_
    refine kx_cr (v := nI (sb_cap q cp)) (va_runU (As := [.int (nI q)]) (rest := [.ref b, .ref a]) ⟨hx, hb, hml, hown, hts⟩ (m_J5_newCapacity_0f7a4 l dC dI cB z ([(a, eSB b n), (b, eBy cB cp f)]) a b n cp f rfl rfl q (by omega) (by omega) (by omega)) (va_cwU 1 hts gJ5_ensureCapacityInternal_d00df_J5_newCapacity_0f7a4_u104J4 rfl rfl rfl rfl (by decide +kernel) ⟨Nat.le_of_ble_eq_true rfl, Nat.le_of_ble_eq_true rfl⟩) (hB.preV (ci := 1) (q := (RJ4, TJ4, 4)) rfl 0 rfl) rfl rfl hl.1 rfl (lv_room (Nat.le_of_ble_eq_true rfl)) dJ5_ensureCapacityInternal_d00df_24 ⟨Nat.le_of_ble_eq_true rfl, Nat.le_of_ble_eq_true rfl⟩) (fun _ h => h) ?_
    refine lv_aload_n hx hb dJ5_ensureCapacityInternal_d00df_27 rfl (lv_at hl 1 rfl) ?_
    refine va_get (D := (dC, dI)) (ci := 1) (C := RJ4) (T := TJ4) (N := 4) (fs := [.ref b, .int (nI 0), .int (nI 0), .int (nI n)]) hx hb hts hinJ4 hown hB.2.1 hB.1 0 rfl rfl 1 (by decide) (hts (.fieldLink RJ5 22 "java/lang/AbstractStringBuilder" "coder" "B") (tm 217 (by decide +kernel) rfl)) (fun _ h => h) rfl dJ5_ensureCapacityInternal_d00df_28 ?_
    refine lv_ishl hx hb dJ5_ensureCapacityInternal_d00df_31 ?_
    rw [show (nI (sb_cap q cp)) <<< ((nI 0) &&& 31) = nI (sb_cap q cp) from sb_shl0 _]
    refine kb_r (va_runS (As := [.ref b, .int (nI (sb_cap q cp))]) (rest := [.ref a]) ⟨hx, hb, hml, hown, hts⟩ (m_J7_copyOf_9075b l dC dI cB z ([(a, eSB b n), (b, eBy cB cp f)]) b cp f rfl (sb_cap q cp) hf (by omega) (by omega)) (va_cwS 2 hts gJ5_ensureCapacityInternal_d00df_J7_copyOf_9075b rfl rfl rfl hdJ7_copyOf_9075b_2.2 ⟨Nat.le_of_ble_eq_true rfl, Nat.le_of_ble_eq_true rfl⟩) (hB.preS) rfl rfl hl.1 rfl (lv_room (Nat.le_of_ble_eq_true rfl)) dJ5_ensureCapacityInternal_d00df_32 ⟨Nat.le_refl _, gm0 (by omega)⟩) hB (fun u q9 H locs hu hq hB => ?_)
    replace hB : WB dC dI cB z [(a, eSB b n), (b, eBy cB cp f), (q9, eBy cB (sb_cap q cp) u)] s H locs := hB
    have hf := hu
    refine kb_put (fs := [.ref b, .int (nI 0), .int (nI 0), .int (nI n)]) hx hb hts hinJ4 hown hB 0 rfl 0 (by decide) (hts (.fieldLink RJ5 15 "java/lang/AbstractStringBuilder" "value" "[B") (tm 216 (by decide +kernel) rfl)) (fun _ h => h) rfl rfl rfl rfl (Nat.le_of_ble_eq_true rfl) dJ5_ensureCapacityInternal_d00df_35 (fun H locs hB => ?_)
    replace hB : WB dC dI cB z [(a, eSB q9 n), (b, eBy cB cp f), (q9, eBy cB (sb_cap q cp) u)] s H locs := hB
    replace hB := hB.drop1
    exact W.widen (k := 1) (n := (gm q cp)) (by omega) (by first | exact Nat.zero_le _ | exact gm0 (by omega)) (W.vret hx hb hr (fun t9 ht9 hW9 => ⟨⟨(q9, u), rfl, hf, hB.P ht9 hW9⟩, hB.F ht9⟩) hB.L dJ5_ensureCapacityInternal_d00df_38)
end
section
theorem cl_fit {cA : ClassId} {f : Nat → Int32} {n : Nat} (hf : sb_Fit f) : ∀ (i : Nat) (v : Value), (vp_cell cA (n, .inl f)).slots[i]? = some v → fits .byte v = true := by
  intro i v h
  have hlt : i < n := by
    have := (Array.getElem?_eq_some_iff.mp h).1
    rw [vp_cell_i, arrV_size] at this
    exact this
  rw [vp_cell_i, arrV_read _ _ hlt] at h
  cases h
  exact hf i
set_option maxHeartbeats 4000000 in
set_option maxRecDepth 100000 in
theorem m_J5_append_3fe6f (l : Launch) (dC : Nat → ClassId) (dI : Nat → Nat → Nat) (cB : ClassId) (z : Nat) (a b n cp : Nat) (f : Nat → Int32) (hnm : n ≤ cp) (hm : cp ≤ 65536) (hf : sb_Fit f) (v : Nat) (hv : v < 256) (hcap : sb_cap (n + 1) cp ≤ 65536) : Met l yJ5_append_3fe6f wsJ5_append_3fe6f ({ frames := 4, cells := 1, slots := (gm (n + 1) cp), locals := 84 } : Room) (va_Pc [.ref a, .int (nI v)] (PB dC dI cB z [(a, eSB b n), (b, eBy cB cp f)])) (va_Qr (fun u : Nat × (Nat → Int32) => sb_Fit u.2) (fun u q9 t => q9 = a ∧ PB dC dI cB z [(a, eSB u.1 (n + 1)), (u.1, eBy cB (sb_cap (n + 1) cp) u.2)] t) (zB z)) 1 (gm (n + 1) cp) (zB z) := by
  refine ofWF (cc := cJ5_append_3fe6f) (maxL := 2) (ret := (some (.object "java/lang/AbstractStringBuilder"))) (by decide +kernel) rfl ?_
  intro p e s m args below meth c s₁ B hml hv
  obtain ⟨rfl, hPB⟩ := hv
  have hx := B.exec
  have hb := B.bytes
  have hr := B.returns
  have hts := atoms_spec (ws := wsJ5_append_3fe6f) B.pre
  have hown : s.vm.findClass RJ5 = some m.cls := findClass_of_methodNamed B.named
  have hlocks := B.notSynchronized
  have hinJ4 : ∀ w ∈ u_ws RJ4 TJ4 4, w ∈ wsJ5_append_3fe6f := tu 1326 (by decide +kernel) rfl
  have hB := WB.of hPB
  have hl := lv_entry ([.ref a, .int (nI v)]) (n := 2) (Nat.le_of_ble_eq_true rfl)
  rw [lg_entry_eq]
  generalize (lg_sl ([.ref a, .int (nI v)]) ++ List.replicate (2 - (lg_sl ([.ref a, .int (nI v)])).length) Slot.unset).toArray = ls at hl ⊢
  have hl : lv_has ls 2 [(0, .ref a), (1, .int (nI v))] := hl
  show W p l e ({ frames := 4, cells := 1, slots := (gm (n + 1) cp), locals := 84 } : Room) s m ([.ref a, .int (nI v)]).toArray below meth c s.heap [] 0 0 (MQ below (va_Qr (fun u : Nat × (Nat → Int32) => sb_Fit u.2) (fun u q9 t => q9 = a ∧ PB dC dI cB z [(a, eSB u.1 (n + 1)), (u.1, eBy cB (sb_cap (n + 1) cp) u.2)] t) (zB z)) ([.ref a, .int (nI v)]).toArray s 1 (gm (n + 1) cp) (zB z)) (F0 m 0 ls [])
  have hge9 := sb_cap_ge (n + 1) cp
  have hat := KatJ4 hPB
  refine lv_aload_n hx hb dJ5_append_3fe6f_0 rfl (lv_at hl 0 rfl) ?_
  refine lv_aload_n hx hb dJ5_append_3fe6f_1 rfl (lv_at hl 0 rfl) ?_
  refine va_get (D := (dC, dI)) (ci := 1) (C := RJ4) (T := TJ4) (N := 4) (fs := [.ref b, .int (nI 0), .int (nI 0), .int (nI n)]) hx hb hts hinJ4 hown hB.2.1 hB.1 0 rfl rfl 3 (by decide) (hts (.fieldLink RJ5 79 "java/lang/AbstractStringBuilder" "count" "I") (tm 277 (by decide +kernel) rfl)) (fun _ h => h) rfl dJ5_append_3fe6f_2 ?_
  refine lv_iconst (v := nI 1) hx hb dJ5_append_3fe6f_5 (by decide) ?_
  refine kn_iadd hx hb dJ5_append_3fe6f_6 ?_
  refine kb_v (va_runU (As := [.int (nI (n + 1))]) (rest := []) ⟨hx, hb, hml, hown, hts⟩ (m_J5_ensureCapacityInternal_d00df l dC dI cB z a b n cp f (n + 1) (by omega) (by omega) hf hcap) (va_cwU 1 hts gJ5_append_3fe6f_J5_ensureCapacityInternal_d00df_u100J4 rfl rfl rfl rfl (by decide +kernel) ⟨Nat.le_of_ble_eq_true rfl, Nat.le_of_ble_eq_true rfl⟩) (hB.preV (ci := 1) (q := (RJ4, TJ4, 4)) rfl 0 rfl) rfl rfl hl.1 rfl (lv_room (Nat.le_of_ble_eq_true rfl)) dJ5_append_3fe6f_7 ⟨by simp, by simp⟩) hB (fun u H locs hu hB => ?_)
  obtain ⟨b2, f2⟩ := u
  replace hB : WB dC dI cB z [(a, eSB b2 n), (b2, eBy cB (sb_cap (n + 1) cp) f2)] s H locs := hB
  have hf : sb_Fit f2 := hu
  have hge := sb_cap_ge (n + 1) cp
  refine lv_aload_n hx hb dJ5_append_3fe6f_10 rfl (lv_at hl 0 rfl) ?_
  refine kx_cr (v := bI true) (va_runU (As := []) (rest := []) ⟨hx, hb, hml, hown, hts⟩ (m_J5_isLatin1_aae02 l dC dI cB z ([(a, eSB b2 n), (b2, eBy cB (sb_cap (n + 1) cp) f2)]) a b2 n rfl) (va_cwU 0 hts gJ5_append_3fe6f_J5_isLatin1_aae02_u83J4 rfl rfl rfl rfl (by decide +kernel) ⟨Nat.le_of_ble_eq_true rfl, Nat.le_of_ble_eq_true rfl⟩) (hB.preV (ci := 1) (q := (RJ4, TJ4, 4)) rfl 0 rfl) rfl rfl hl.1 rfl (lv_room (Nat.le_of_ble_eq_true rfl)) dJ5_append_3fe6f_11 ⟨by simp, by simp⟩) (fun _ h => h) ?_
  refine kb_if_eq (tgt := 45) hx hb dJ5_append_3fe6f_14 (by decide) (fun k_1 => absurd k_1 (by decide)) (fun k_1 => ?_)
  refine lv_iload_n hx hb dJ5_append_3fe6f_17 rfl (lv_at hl 1 rfl) ?_
  refine kx_cr (v := bI true) (va_runS (As := [.int (nI v)]) (rest := []) ⟨hx, hb, hml, hown, hts⟩ (m_J1_canEncode_fc78d l v (by omega)) (va_cwS 1 hts gJ5_append_3fe6f_J1_canEncode_fc78d rfl rfl rfl hdJ1_canEncode_fc78d_1.2 ⟨Nat.le_of_ble_eq_true rfl, Nat.le_of_ble_eq_true rfl⟩) (pureS) rfl rfl hl.1 rfl (lv_room (Nat.le_of_ble_eq_true rfl)) dJ5_append_3fe6f_18 ⟨by simp, by simp⟩) (fun _ h => h) ?_
  refine kb_if_eq (tgt := 45) hx hb dJ5_append_3fe6f_21 (by decide) (fun k_2 => absurd k_2 (by decide)) (fun k_2 => ?_)
  refine lv_aload_n hx hb dJ5_append_3fe6f_24 rfl (lv_at hl 0 rfl) ?_
  refine va_get (D := (dC, dI)) (ci := 1) (C := RJ4) (T := TJ4) (N := 4) (fs := [.ref b2, .int (nI 0), .int (nI 0), .int (nI n)]) hx hb hts hinJ4 hown hB.2.1 hB.1 0 rfl rfl 0 (by decide) (hts (.fieldLink RJ5 15 "java/lang/AbstractStringBuilder" "value" "[B") (tm 216 (by decide +kernel) rfl)) (fun _ h => h) rfl dJ5_append_3fe6f_25 ?_
  refine lv_aload_n hx hb dJ5_append_3fe6f_28 rfl (lv_at hl 0 rfl) ?_
  refine lv_dup hx hb dJ5_append_3fe6f_29 rfl ?_
  refine va_get (D := (dC, dI)) (ci := 1) (C := RJ4) (T := TJ4) (N := 4) (fs := [.ref b2, .int (nI 0), .int (nI 0), .int (nI n)]) hx hb hts hinJ4 hown hB.2.1 hB.1 0 rfl rfl 3 (by decide) (hts (.fieldLink RJ5 79 "java/lang/AbstractStringBuilder" "count" "I") (tm 277 (by decide +kernel) rfl)) (fun _ h => h) rfl dJ5_append_3fe6f_30 ?_
  refine lv_dup_x1 hx hb dJ5_append_3fe6f_33 rfl rfl ?_
  refine lv_iconst (v := nI 1) hx hb dJ5_append_3fe6f_34 (by decide) ?_
  refine kn_iadd hx hb dJ5_append_3fe6f_35 ?_
  refine kb_put (fs := [.ref b2, .int (nI 0), .int (nI 0), .int (nI n)]) hx hb hts hinJ4 hown hB 0 rfl 3 (by decide) (hts (.fieldLink RJ5 79 "java/lang/AbstractStringBuilder" "count" "I") (tm 277 (by decide +kernel) rfl)) (fun _ h => h) rfl rfl rfl rfl (Nat.le_of_ble_eq_true rfl) dJ5_append_3fe6f_36 (fun H locs hB => ?_)
  replace hB : WB dC dI cB z [(a, eSB b2 (n + 1)), (b2, eBy cB (sb_cap (n + 1) cp) f2)] s H locs := hB
  refine lv_iload_n hx hb dJ5_append_3fe6f_39 rfl (lv_at hl 1 rfl) ?_
  refine lv_i2b hx hb dJ5_append_3fe6f_40 rfl ?_
  refine kb_bst (n := (sb_cap (n + 1) cp)) (f := f2) hx hb hB 1 rfl (by omega) (by omega) dJ5_append_3fe6f_41 (fun H locs hB => ?_)
  obtain ⟨f_3, hf, hB⟩ : ∃ g9, sb_Fit g9 ∧ WB dC dI cB z [(a, eSB b2 (n + 1)), (b2, eBy cB (sb_cap (n + 1) cp) g9)] s H locs := ⟨_, sb_fitU hf (fit_nar _), hB⟩
  refine lv_goto (tgt := 75) hx hb dJ5_append_3fe6f_42 (by decide) ?_
  refine lv_aload_n hx hb dJ5_append_3fe6f_75 rfl (lv_at hl 0 rfl) ?_
  exact W.widen (k := 1) (n := (gm (n + 1) cp)) (by simp) (by simp) (W.aret (v := .ref a) hx hb hr (Or.inl ⟨_, rfl⟩) (Or.inr ⟨_, rfl⟩) (fun t9 ht9 hW9 => ⟨⟨(b2, f_3), _, rfl, hf, rfl, hB.P ht9 hW9⟩, hB.F ht9⟩) hB.L dJ5_append_3fe6f_76)
set_option maxHeartbeats 4000000 in
set_option maxRecDepth 100000 in
theorem m_J4_append_cf468 (l : Launch) (dC : Nat → ClassId) (dI : Nat → Nat → Nat) (cB : ClassId) (z : Nat) (a b n cp : Nat) (f : Nat → Int32) (hnm : n ≤ cp) (hm : cp ≤ 65536) (hf : sb_Fit f) (v : Nat) (hv : v < 256) (hcap : sb_cap (n + 1) cp ≤ 65536) : Met l yJ4_append_cf468 wsJ4_append_cf468 ({ frames := 5, cells := 1, slots := (gm (n + 1) cp), locals := 105 } : Room) (va_Pc [.ref a, .int (nI v)] (PB dC dI cB z [(a, eSB b n), (b, eBy cB cp f)])) (va_Qr (fun u : Nat × (Nat → Int32) => sb_Fit u.2) (fun u q9 t => q9 = a ∧ PB dC dI cB z [(a, eSB u.1 (n + 1)), (u.1, eBy cB (sb_cap (n + 1) cp) u.2)] t) (zB z)) 1 (gm (n + 1) cp) (zB z) := by
  refine ofWF (cc := cJ4_append_cf468) (maxL := 2) (ret := (some (.object "java/lang/StringBuilder"))) (by decide +kernel) rfl ?_
  intro p e s m args below meth c s₁ B hml hv
  obtain ⟨rfl, hPB⟩ := hv
  have hx := B.exec
  have hb := B.bytes
  have hr := B.returns
  have hts := atoms_spec (ws := wsJ4_append_cf468) B.pre
  have hown : s.vm.findClass RJ4 = some m.cls := findClass_of_methodNamed B.named
  have hlocks := B.notSynchronized
  have hB := WB.of hPB
  have hl := lv_entry ([.ref a, .int (nI v)]) (n := 2) (Nat.le_of_ble_eq_true rfl)
  rw [lg_entry_eq]
  generalize (lg_sl ([.ref a, .int (nI v)]) ++ List.replicate (2 - (lg_sl ([.ref a, .int (nI v)])).length) Slot.unset).toArray = ls at hl ⊢
  have hl : lv_has ls 2 [(0, .ref a), (1, .int (nI v))] := hl
  show W p l e ({ frames := 5, cells := 1, slots := (gm (n + 1) cp), locals := 105 } : Room) s m ([.ref a, .int (nI v)]).toArray below meth c s.heap [] 0 0 (MQ below (va_Qr (fun u : Nat × (Nat → Int32) => sb_Fit u.2) (fun u q9 t => q9 = a ∧ PB dC dI cB z [(a, eSB u.1 (n + 1)), (u.1, eBy cB (sb_cap (n + 1) cp) u.2)] t) (zB z)) ([.ref a, .int (nI v)]).toArray s 1 (gm (n + 1) cp) (zB z)) (F0 m 0 ls [])
  have hat := KatJ4 hPB
  refine lv_aload_n hx hb dJ4_append_cf468_0 rfl (lv_at hl 0 rfl) ?_
  refine lv_iload_n hx hb dJ4_append_cf468_1 rfl (lv_at hl 1 rfl) ?_
  refine kb_r (va_runSU (As := [.int (nI v)]) (rest := []) (C := RJ4) hat ⟨hx, hb, hml, hown, hts⟩ (m_J5_append_3fe6f l dC dI cB z a b n cp f (by omega) (by omega) hf v (by omega) hcap) (va_cwSU 1 hts gJ4_append_cf468_J5_append_3fe6f_s50 rfl rfl rfl (by decide +kernel) ⟨Nat.le_of_ble_eq_true rfl, Nat.le_of_ble_eq_true rfl⟩) (hB.preV (ci := 1) (q := (RJ4, TJ4, 4)) rfl 0 rfl) rfl rfl hl.1 rfl (lv_room (Nat.le_of_ble_eq_true rfl)) dJ4_append_cf468_2 ⟨by simp, by simp⟩) hB (fun u q9 H locs hu hq hB => ?_)
  obtain ⟨b3, f3⟩ := u
  rw [hq]
  replace hB : WB dC dI cB z [(a, eSB b3 (n + 1)), (b3, eBy cB (sb_cap (n + 1) cp) f3)] s H locs := hB
  have hf : sb_Fit f3 := hu
  refine lv_pop hx hb dJ4_append_cf468_5 rfl ?_
  refine lv_aload_n hx hb dJ4_append_cf468_6 rfl (lv_at hl 0 rfl) ?_
  exact W.widen (k := 1) (n := (gm (n + 1) cp)) (by simp) (by simp) (W.aret (v := .ref a) hx hb hr (Or.inl ⟨_, rfl⟩) (Or.inr ⟨_, rfl⟩) (fun t9 ht9 hW9 => ⟨⟨(b3, f3), _, rfl, hf, rfl, hB.P ht9 hW9⟩, hB.F ht9⟩) hB.L dJ4_append_cf468_7)
set_option maxHeartbeats 4000000 in
set_option maxRecDepth 100000 in
theorem m_J5_append_c97b9 (l : Launch) (dC : Nat → ClassId) (dI : Nat → Nat → Nat) (cB : ClassId) (z : Nat) (a b n cp : Nat) (f : Nat → Int32) (hnm : n ≤ cp) (hm : cp ≤ 65536) (hf : sb_Fit f) (v : Nat) (hv : v < 1000000000) (hcap : sb_cap (n + sb_dg v) cp ≤ 65536) : Met l yJ5_append_c97b9 wsJ5_append_c97b9 ({ frames := 4, cells := 1, slots := (gm (n + sb_dg v) cp), locals := 84 } : Room) (va_Pc [.ref a, .int (nI v)] (PB dC dI cB z [(a, eSB b n), (b, eBy cB cp f)])) (va_Qr (fun u : Nat × (Nat → Int32) => sb_Fit u.2) (fun u q9 t => q9 = a ∧ PB dC dI cB z [(a, eSB u.1 (n + sb_dg v)), (u.1, eBy cB (sb_cap (n + sb_dg v) cp) u.2)] t) (zB z)) 1 (gm (n + sb_dg v) cp) (zB z) := by
  refine ofWF (cc := cJ5_append_c97b9) (maxL := 4) (ret := (some (.object "java/lang/AbstractStringBuilder"))) (by decide +kernel) rfl ?_
  intro p e s m args below meth c s₁ B hml hv
  obtain ⟨rfl, hPB⟩ := hv
  have hx := B.exec
  have hb := B.bytes
  have hr := B.returns
  have hts := atoms_spec (ws := wsJ5_append_c97b9) B.pre
  have hown : s.vm.findClass RJ5 = some m.cls := findClass_of_methodNamed B.named
  have hlocks := B.notSynchronized
  have hinJ4 : ∀ w ∈ u_ws RJ4 TJ4 4, w ∈ wsJ5_append_c97b9 := tu 1326 (by decide +kernel) rfl
  have hB := WB.of hPB
  have hl := lv_entry ([.ref a, .int (nI v)]) (n := 4) (Nat.le_of_ble_eq_true rfl)
  rw [lg_entry_eq]
  generalize (lg_sl ([.ref a, .int (nI v)]) ++ List.replicate (4 - (lg_sl ([.ref a, .int (nI v)])).length) Slot.unset).toArray = ls at hl ⊢
  have hl : lv_has ls 4 [(0, .ref a), (1, .int (nI v))] := hl
  show W p l e ({ frames := 4, cells := 1, slots := (gm (n + sb_dg v) cp), locals := 84 } : Room) s m ([.ref a, .int (nI v)]).toArray below meth c s.heap [] 0 0 (MQ below (va_Qr (fun u : Nat × (Nat → Int32) => sb_Fit u.2) (fun u q9 t => q9 = a ∧ PB dC dI cB z [(a, eSB u.1 (n + sb_dg v)), (u.1, eBy cB (sb_cap (n + sb_dg v) cp) u.2)] t) (zB z)) ([.ref a, .int (nI v)]).toArray s 1 (gm (n + sb_dg v) cp) (zB z)) (F0 m 0 ls [])
  have hge9 := sb_cap_ge (n + sb_dg v) cp
  have hd9 := sb_dg_in v
  refine lv_aload_n hx hb dJ5_append_c97b9_0 rfl (lv_at hl 0 rfl) ?_
  refine va_get (D := (dC, dI)) (ci := 1) (C := RJ4) (T := TJ4) (N := 4) (fs := [.ref b, .int (nI 0), .int (nI 0), .int (nI n)]) hx hb hts hinJ4 hown hB.2.1 hB.1 0 rfl rfl 3 (by decide) (hts (.fieldLink RJ5 79 "java/lang/AbstractStringBuilder" "count" "I") (tm 277 (by decide +kernel) rfl)) (fun _ h => h) rfl dJ5_append_c97b9_1 ?_
  refine lv_istore_n (lv' := [(2, .int (nI n)), (0, .ref a), (1, .int (nI v))]) hx hb dJ5_append_c97b9_4 rfl hl (by decide) rfl (fun ls hl => ?_)
  refine lv_iload_n hx hb dJ5_append_c97b9_5 rfl (lv_at hl 0 rfl) ?_
  refine lv_iload_n hx hb dJ5_append_c97b9_6 rfl (lv_at hl 2 rfl) ?_
  refine kx_cr (v := nI (sb_dg v)) (va_runS (As := [.int (nI v)]) (rest := [.int (nI n)]) ⟨hx, hb, hml, hown, hts⟩ (m_J6_stringSize_0f7a4 l v (by omega)) (va_cwS 1 hts gJ5_append_c97b9_J6_stringSize_0f7a4 rfl rfl rfl hdJ6_stringSize_0f7a4_1.2 ⟨Nat.le_of_ble_eq_true rfl, Nat.le_of_ble_eq_true rfl⟩) (pureS) rfl rfl hl.1 rfl (lv_room (Nat.le_of_ble_eq_true rfl)) dJ5_append_c97b9_7 ⟨by simp, by simp⟩) (fun _ h => h) ?_
  refine kn_iadd hx hb dJ5_append_c97b9_10 ?_
  refine lv_istore_n (lv' := [(3, .int (nI (n + (sb_dg v)))), (2, .int (nI n)), (0, .ref a), (1, .int (nI v))]) hx hb dJ5_append_c97b9_11 rfl hl (by decide) rfl (fun ls hl => ?_)
  refine lv_aload_n hx hb dJ5_append_c97b9_12 rfl (lv_at hl 2 rfl) ?_
  refine lv_iload_n hx hb dJ5_append_c97b9_13 rfl (lv_at hl 0 rfl) ?_
  refine kb_v (va_runU (As := [.int (nI (n + (sb_dg v)))]) (rest := []) ⟨hx, hb, hml, hown, hts⟩ (m_J5_ensureCapacityInternal_d00df l dC dI cB z a b n cp f (n + (sb_dg v)) (by omega) (by omega) hf hcap) (va_cwU 1 hts gJ5_append_c97b9_J5_ensureCapacityInternal_d00df_u100J4 rfl rfl rfl rfl (by decide +kernel) ⟨Nat.le_of_ble_eq_true rfl, Nat.le_of_ble_eq_true rfl⟩) (hB.preV (ci := 1) (q := (RJ4, TJ4, 4)) rfl 0 rfl) rfl rfl hl.1 rfl (lv_room (Nat.le_of_ble_eq_true rfl)) dJ5_append_c97b9_14 ⟨by simp, by simp⟩) hB (fun u H locs hu hB => ?_)
  obtain ⟨b2, f2⟩ := u
  replace hB : WB dC dI cB z [(a, eSB b2 n), (b2, eBy cB (sb_cap (n + (sb_dg v)) cp) f2)] s H locs := hB
  have hf : sb_Fit f2 := hu
  have hge := sb_cap_ge (n + (sb_dg v)) cp
  refine lv_aload_n hx hb dJ5_append_c97b9_17 rfl (lv_at hl 2 rfl) ?_
  refine kx_cr (v := bI true) (va_runU (As := []) (rest := []) ⟨hx, hb, hml, hown, hts⟩ (m_J5_isLatin1_aae02 l dC dI cB z ([(a, eSB b2 n), (b2, eBy cB (sb_cap (n + (sb_dg v)) cp) f2)]) a b2 n rfl) (va_cwU 0 hts gJ5_append_c97b9_J5_isLatin1_aae02_u83J4 rfl rfl rfl rfl (by decide +kernel) ⟨Nat.le_of_ble_eq_true rfl, Nat.le_of_ble_eq_true rfl⟩) (hB.preV (ci := 1) (q := (RJ4, TJ4, 4)) rfl 0 rfl) rfl rfl hl.1 rfl (lv_room (Nat.le_of_ble_eq_true rfl)) dJ5_append_c97b9_18 ⟨by simp, by simp⟩) (fun _ h => h) ?_
  refine kb_if_eq (tgt := 37) hx hb dJ5_append_c97b9_21 (by decide) (fun k_1 => absurd k_1 (by decide)) (fun k_1 => ?_)
  refine lv_iload_n hx hb dJ5_append_c97b9_24 rfl (lv_at hl 3 rfl) ?_
  refine lv_iload_n hx hb dJ5_append_c97b9_25 rfl (lv_at hl 0 rfl) ?_
  refine lv_aload_n hx hb dJ5_append_c97b9_26 rfl (lv_at hl 2 rfl) ?_
  refine va_get (D := (dC, dI)) (ci := 1) (C := RJ4) (T := TJ4) (N := 4) (fs := [.ref b2, .int (nI 0), .int (nI 0), .int (nI n)]) hx hb hts hinJ4 hown hB.2.1 hB.1 0 rfl rfl 0 (by decide) (hts (.fieldLink RJ5 15 "java/lang/AbstractStringBuilder" "value" "[B") (tm 216 (by decide +kernel) rfl)) (fun _ h => h) rfl dJ5_append_c97b9_27 ?_
  refine kb_i (va_runS (As := [.int (nI v), .int (nI (n + (sb_dg v))), .ref b2]) (rest := []) ⟨hx, hb, hml, hown, hts⟩ (m_J6_getChars_ba4f3 l dC dI cB z ([(a, eSB b2 n), (b2, eBy cB (sb_cap (n + (sb_dg v)) cp) f2)]) b2 (sb_cap (n + (sb_dg v)) cp) f2 rfl v (n + (sb_dg v)) hf (by omega) (by omega) (by omega) (by omega)) (va_cwS 3 hts gJ5_append_c97b9_J6_getChars_ba4f3 rfl rfl rfl hdJ6_getChars_ba4f3_3.2 ⟨Nat.le_of_ble_eq_true rfl, Nat.le_of_ble_eq_true rfl⟩) (hB.preS) rfl rfl hl.1 rfl (lv_room (Nat.le_of_ble_eq_true rfl)) dJ5_append_c97b9_30 ⟨by simp, by simp⟩) hB (fun r9 u H locs hu hB => ?_)
  obtain ⟨f3, hf, hB⟩ : ∃ g9, sb_Fit g9 ∧ WB dC dI cB z [(a, eSB b2 n), (b2, eBy cB (sb_cap (n + (sb_dg v)) cp) g9)] s H locs := ⟨u, hu, hB⟩
  refine lv_pop hx hb dJ5_append_c97b9_33 rfl ?_
  refine lv_goto (tgt := 48) hx hb dJ5_append_c97b9_34 (by decide) ?_
  refine lv_aload_n hx hb dJ5_append_c97b9_48 rfl (lv_at hl 2 rfl) ?_
  refine lv_iload_n hx hb dJ5_append_c97b9_49 rfl (lv_at hl 0 rfl) ?_
  refine kb_put (fs := [.ref b2, .int (nI 0), .int (nI 0), .int (nI n)]) hx hb hts hinJ4 hown hB 0 rfl 3 (by decide) (hts (.fieldLink RJ5 79 "java/lang/AbstractStringBuilder" "count" "I") (tm 277 (by decide +kernel) rfl)) (fun _ h => h) rfl rfl rfl rfl (Nat.le_of_ble_eq_true rfl) dJ5_append_c97b9_50 (fun H locs hB => ?_)
  replace hB : WB dC dI cB z [(a, eSB b2 (n + (sb_dg v))), (b2, eBy cB (sb_cap (n + (sb_dg v)) cp) f3)] s H locs := hB
  refine lv_aload_n hx hb dJ5_append_c97b9_53 rfl (lv_at hl 2 rfl) ?_
  exact W.widen (k := 1) (n := (gm (n + sb_dg v) cp)) (by simp) (by simp) (W.aret (v := .ref a) hx hb hr (Or.inl ⟨_, rfl⟩) (Or.inr ⟨_, rfl⟩) (fun t9 ht9 hW9 => ⟨⟨(b2, f3), _, rfl, hf, rfl, hB.P ht9 hW9⟩, hB.F ht9⟩) hB.L dJ5_append_c97b9_54)
set_option maxHeartbeats 4000000 in
set_option maxRecDepth 100000 in
theorem m_J4_append_bf812 (l : Launch) (dC : Nat → ClassId) (dI : Nat → Nat → Nat) (cB : ClassId) (z : Nat) (a b n cp : Nat) (f : Nat → Int32) (hnm : n ≤ cp) (hm : cp ≤ 65536) (hf : sb_Fit f) (v : Nat) (hv : v < 1000000000) (hcap : sb_cap (n + sb_dg v) cp ≤ 65536) : Met l yJ4_append_bf812 wsJ4_append_bf812 ({ frames := 5, cells := 1, slots := (gm (n + sb_dg v) cp), locals := 107 } : Room) (va_Pc [.ref a, .int (nI v)] (PB dC dI cB z [(a, eSB b n), (b, eBy cB cp f)])) (va_Qr (fun u : Nat × (Nat → Int32) => sb_Fit u.2) (fun u q9 t => q9 = a ∧ PB dC dI cB z [(a, eSB u.1 (n + sb_dg v)), (u.1, eBy cB (sb_cap (n + sb_dg v) cp) u.2)] t) (zB z)) 1 (gm (n + sb_dg v) cp) (zB z) := by
  refine ofWF (cc := cJ4_append_bf812) (maxL := 2) (ret := (some (.object "java/lang/StringBuilder"))) (by decide +kernel) rfl ?_
  intro p e s m args below meth c s₁ B hml hv
  obtain ⟨rfl, hPB⟩ := hv
  have hx := B.exec
  have hb := B.bytes
  have hr := B.returns
  have hts := atoms_spec (ws := wsJ4_append_bf812) B.pre
  have hown : s.vm.findClass RJ4 = some m.cls := findClass_of_methodNamed B.named
  have hlocks := B.notSynchronized
  have hB := WB.of hPB
  have hl := lv_entry ([.ref a, .int (nI v)]) (n := 2) (Nat.le_of_ble_eq_true rfl)
  rw [lg_entry_eq]
  generalize (lg_sl ([.ref a, .int (nI v)]) ++ List.replicate (2 - (lg_sl ([.ref a, .int (nI v)])).length) Slot.unset).toArray = ls at hl ⊢
  have hl : lv_has ls 2 [(0, .ref a), (1, .int (nI v))] := hl
  show W p l e ({ frames := 5, cells := 1, slots := (gm (n + sb_dg v) cp), locals := 107 } : Room) s m ([.ref a, .int (nI v)]).toArray below meth c s.heap [] 0 0 (MQ below (va_Qr (fun u : Nat × (Nat → Int32) => sb_Fit u.2) (fun u q9 t => q9 = a ∧ PB dC dI cB z [(a, eSB u.1 (n + sb_dg v)), (u.1, eBy cB (sb_cap (n + sb_dg v) cp) u.2)] t) (zB z)) ([.ref a, .int (nI v)]).toArray s 1 (gm (n + sb_dg v) cp) (zB z)) (F0 m 0 ls [])
  have hat := KatJ4 hPB
  refine lv_aload_n hx hb dJ4_append_bf812_0 rfl (lv_at hl 0 rfl) ?_
  refine lv_iload_n hx hb dJ4_append_bf812_1 rfl (lv_at hl 1 rfl) ?_
  refine kb_r (va_runSU (As := [.int (nI v)]) (rest := []) (C := RJ4) hat ⟨hx, hb, hml, hown, hts⟩ (m_J5_append_c97b9 l dC dI cB z a b n cp f (by omega) (by omega) hf v (by omega) hcap) (va_cwSU 1 hts gJ4_append_bf812_J5_append_c97b9_s53 rfl rfl rfl (by decide +kernel) ⟨Nat.le_of_ble_eq_true rfl, Nat.le_of_ble_eq_true rfl⟩) (hB.preV (ci := 1) (q := (RJ4, TJ4, 4)) rfl 0 rfl) rfl rfl hl.1 rfl (lv_room (Nat.le_of_ble_eq_true rfl)) dJ4_append_bf812_2 ⟨by simp, by simp⟩) hB (fun u q9 H locs hu hq hB => ?_)
  obtain ⟨b3, f3⟩ := u
  rw [hq]
  replace hB : WB dC dI cB z [(a, eSB b3 (n + sb_dg v)), (b3, eBy cB (sb_cap (n + sb_dg v) cp) f3)] s H locs := hB
  have hf : sb_Fit f3 := hu
  refine lv_pop hx hb dJ4_append_bf812_5 rfl ?_
  refine lv_aload_n hx hb dJ4_append_bf812_6 rfl (lv_at hl 0 rfl) ?_
  exact W.widen (k := 1) (n := (gm (n + sb_dg v) cp)) (by simp) (by simp) (W.aret (v := .ref a) hx hb hr (Or.inl ⟨_, rfl⟩) (Or.inr ⟨_, rfl⟩) (fun t9 ht9 hW9 => ⟨⟨(b3, f3), _, rfl, hf, rfl, hB.P ht9 hW9⟩, hB.F ht9⟩) hB.L dJ4_append_bf812_7)
set_option maxHeartbeats 4000000 in
set_option maxRecDepth 100000 in
theorem m_J5_init_d00df (l : Launch) (dC : Nat → ClassId) (dI : Nat → Nat → Nat) (cB : ClassId) (z : Nat) (a k : Nat) (hk : k ≤ 65536) : Met l yJ5_init_d00df wsJ5_init_d00df ({ frames := 1, cells := 1, slots := k, locals := 20 } : Room) (va_Pc [.ref a, .int (nI k)] (PB dC dI cB z [(a, .inr (1, [.null, .int (nI 0), .int (nI 0), .int (nI 0)]))])) (va_Qv (fun _ : Nat => True) (fun u t => PB dC dI cB z [(a, eSB u 0), (u, eBy cB k (fun _ => 0))] t) (zB z)) 1 k (zB z) := by
  refine ofWF (cc := cJ5_init_d00df) (maxL := 2) (ret := none) (by decide +kernel) rfl ?_
  intro p e s m args below meth c s₁ B hml hv
  obtain ⟨rfl, hPB⟩ := hv
  have hx := B.exec
  have hb := B.bytes
  have hr := B.returns
  have hts := atoms_spec (ws := wsJ5_init_d00df) B.pre
  have hown : s.vm.findClass RJ5 = some m.cls := findClass_of_methodNamed B.named
  have hlocks := B.notSynchronized
  have hinJ4 : ∀ w ∈ u_ws RJ4 TJ4 4, w ∈ wsJ5_init_d00df := tu 1326 (by decide +kernel) rfl
  have hB := WB.of hPB
  have hl := lv_entry ([.ref a, .int (nI k)]) (n := 2) (Nat.le_of_ble_eq_true rfl)
  rw [lg_entry_eq]
  generalize (lg_sl ([.ref a, .int (nI k)]) ++ List.replicate (2 - (lg_sl ([.ref a, .int (nI k)])).length) Slot.unset).toArray = ls at hl ⊢
  have hl : lv_has ls 2 [(0, .ref a), (1, .int (nI k))] := hl
  show W p l e ({ frames := 1, cells := 1, slots := k, locals := 20 } : Room) s m ([.ref a, .int (nI k)]).toArray below meth c s.heap [] 0 0 (MQ below (va_Qv (fun _ : Nat => True) (fun u t => PB dC dI cB z [(a, eSB u 0), (u, eBy cB k (fun _ => 0))] t) (zB z)) ([.ref a, .int (nI k)]).toArray s 1 k (zB z)) (F0 m 0 ls [])
  refine lv_aload_n hx hb dJ5_init_d00df_0 rfl (lv_at hl 0 rfl) ?_
  refine W.objInit hx hb hown (hts (.methodLink RJ5 3 objectInit) (tm 419 (by decide +kernel) rfl)) (hts (.instanceMethod objectInit) (tm 1 (by decide +kernel) rfl)) (hts (.code objectInit ⟨#[0xb1]⟩ 1 none) (tm 2 (by decide +kernel) rfl)) (g := F0 m 1 ls [.ref a]) rfl (by rw [hml]; exact hl.1) rfl dJ5_init_d00df_1 (Nat.le_of_ble_eq_true rfl) (Nat.le_of_ble_eq_true rfl) ?_
  show W p l e _ s m _ below meth c _ _ _ _ _ (F0 m 4 ls [])
  refine va_gets hx hb hB.2.2.2.2.2.1 hB.2.2.2.1 hown (hts (.fieldLink RJ5 18 "java/lang/String" "COMPACT_STRINGS" "Z") (tm 283 (by decide +kernel) rfl)) (fun _ h => h) dJ5_init_d00df_4 ?_
  refine kn_if_eq (tgt := 25) hx hb (by omega) dJ5_init_d00df_7 (by decide) (fun k_1 => absurd k_1 (by omega)) (fun k_1 => ?_)
  refine lv_aload_n hx hb dJ5_init_d00df_10 rfl (lv_at hl 0 rfl) ?_
  refine lv_iload_n hx hb dJ5_init_d00df_11 rfl (lv_at hl 1 rfl) ?_
  refine kb_new hx hb (hts (.arrayClass .byte) (tm 246 (by decide +kernel) rfl)) hB (by omega) (Nat.le_refl _) (by simp) dJ5_init_d00df_12 (fun q_2 H hB => ?_)
  replace hB : WB dC dI cB z [(a, .inr (1, [.null, .int (nI 0), .int (nI 0), .int (nI 0)])), (q_2, eBy cB k (fun _ => 0))] s H _ := hB
  refine kb_put (fs := [.null, .int (nI 0), .int (nI 0), .int (nI 0)]) hx hb hts hinJ4 hown hB 0 rfl 0 (by decide) (hts (.fieldLink RJ5 15 "java/lang/AbstractStringBuilder" "value" "[B") (tm 216 (by decide +kernel) rfl)) (fun _ h => h) rfl rfl rfl rfl (Nat.le_of_ble_eq_true rfl) dJ5_init_d00df_14 (fun H locs hB => ?_)
  replace hB : WB dC dI cB z [(a, eSB q_2 0), (q_2, eBy cB k (fun _ => 0))] s H locs := hB
  refine lv_aload_n hx hb dJ5_init_d00df_17 rfl (lv_at hl 0 rfl) ?_
  refine lv_iconst (v := nI 0) hx hb dJ5_init_d00df_18 (by decide) ?_
  refine kb_put (fs := [.ref q_2, .int (nI 0), .int (nI 0), .int (nI 0)]) hx hb hts hinJ4 hown hB 0 rfl 1 (by decide) (hts (.fieldLink RJ5 22 "java/lang/AbstractStringBuilder" "coder" "B") (tm 217 (by decide +kernel) rfl)) (fun _ h => h) rfl rfl (by decide) (by decide) (Nat.le_of_ble_eq_true rfl) dJ5_init_d00df_19 (fun H locs hB => ?_)
  replace hB : WB dC dI cB z [(a, eSB q_2 0), (q_2, eBy cB k (fun _ => 0))] s H locs := hB
  refine lv_goto (tgt := 38) hx hb dJ5_init_d00df_22 (by decide) ?_
  exact W.widen (k := 1) (n := k) (by simp) (by simp) (W.vret hx hb hr (fun t9 ht9 hW9 => ⟨⟨q_2, rfl, trivial, hB.P ht9 hW9⟩, hB.F ht9⟩) hB.L dJ5_init_d00df_38)
set_option maxHeartbeats 4000000 in
set_option maxRecDepth 100000 in
theorem m_J4_init_da8c8 (l : Launch) (dC : Nat → ClassId) (dI : Nat → Nat → Nat) (cB : ClassId) (z : Nat) (a : Nat) : Met l yJ4_init_da8c8 wsJ4_init_da8c8 ({ frames := 2, cells := 1, slots := 16, locals := 41 } : Room) (va_Pc [.ref a] (PB dC dI cB z [(a, .inr (1, [.null, .int (nI 0), .int (nI 0), .int (nI 0)]))])) (va_Qv (fun _ : Nat => True) (fun u t => PB dC dI cB z [(a, eSB u 0), (u, eBy cB 16 (fun _ => 0))] t) (zB z)) 1 16 (zB z) := by
  refine ofWF (cc := cJ4_init_da8c8) (maxL := 1) (ret := none) (by decide +kernel) rfl ?_
  intro p e s m args below meth c s₁ B hml hv
  obtain ⟨rfl, hPB⟩ := hv
  have hx := B.exec
  have hb := B.bytes
  have hr := B.returns
  have hts := atoms_spec (ws := wsJ4_init_da8c8) B.pre
  have hown : s.vm.findClass RJ4 = some m.cls := findClass_of_methodNamed B.named
  have hlocks := B.notSynchronized
  have hB := WB.of hPB
  have hl := lv_entry ([.ref a]) (n := 1) (Nat.le_of_ble_eq_true rfl)
  rw [lg_entry_eq]
  generalize (lg_sl ([.ref a]) ++ List.replicate (1 - (lg_sl ([.ref a])).length) Slot.unset).toArray = ls at hl ⊢
  have hl : lv_has ls 1 [(0, .ref a)] := hl
  show W p l e ({ frames := 2, cells := 1, slots := 16, locals := 41 } : Room) s m ([.ref a]).toArray below meth c s.heap [] 0 0 (MQ below (va_Qv (fun _ : Nat => True) (fun u t => PB dC dI cB z [(a, eSB u 0), (u, eBy cB 16 (fun _ => 0))] t) (zB z)) ([.ref a]).toArray s 1 16 (zB z)) (F0 m 0 ls [])
  refine lv_aload_n hx hb dJ4_init_da8c8_0 rfl (lv_at hl 0 rfl) ?_
  refine lv_bipush (v := nI 16) hx hb dJ4_init_da8c8_1 (by decide) ?_
  refine kb_v (va_runI (As := [.int (nI 16)]) (rest := []) ⟨hx, hb, hml, hown, hts⟩ (m_J5_init_d00df l dC dI cB z a 16 (by omega)) (cwI 1 hts gJ4_init_da8c8_J5_init_d00df rfl rfl rfl (hts (.initialized yJ5_init_d00df.cls) (tm 222 (by decide +kernel) rfl)) (hts (.methodLink RJ4 1 yJ5_init_d00df) (tm 416 (by decide +kernel) rfl)) (hts (.instanceMethod yJ5_init_d00df) (tm 417 (by decide +kernel) rfl)) rfl (by decide +kernel) ⟨Nat.le_of_ble_eq_true rfl, Nat.le_of_ble_eq_true rfl⟩) (hB.preS) rfl rfl hl.1 rfl (lv_room (Nat.le_of_ble_eq_true rfl)) dJ4_init_da8c8_3 ⟨Nat.le_of_ble_eq_true rfl, Nat.le_of_ble_eq_true rfl⟩) hB (fun u H locs hu hB => ?_)
  replace hB : WB dC dI cB z [(a, eSB u 0), (u, eBy cB 16 (fun _ => 0))] s H locs := hB
  exact W.widen (k := 1) (n := 16) (by simp) (by simp) (W.vret hx hb hr (fun t9 ht9 hW9 => ⟨⟨u, rfl, trivial, hB.P ht9 hW9⟩, hB.F ht9⟩) hB.L dJ4_init_da8c8_6)
set_option maxHeartbeats 4000000 in
set_option maxRecDepth 100000 in
theorem m_J7_copyOfRangeByte_39247 (l : Launch) (dC : Nat → ClassId) (dI : Nat → Nat → Nat) (cB : ClassId) (z : Nat) (G : va_W) (b cp : Nat) (f : Nat → Int32) (hG2 : G[1]? = some (b, eBy cB cp f)) (n : Nat) (hn : n ≤ cp) (hm : cp ≤ 65536) (hf : sb_Fit f) : Met l yJ7_copyOfRangeByte_39247 wsJ7_copyOfRangeByte_39247 ({ frames := 1, cells := 1, slots := n, locals := 40 } : Room) (va_Pc [.ref b, .int (nI 0), .int (nI n)] (PB dC dI cB z G)) (va_Qr (fun u : Nat → Int32 => sb_Fit u) (fun u q9 t => True ∧ PB dC dI cB z (G ++ [(q9, eBy cB n u)]) t) (zB z)) 1 n (zB z) := by
  refine ofWF (cc := cJ7_copyOfRangeByte_39247) (maxL := 5) (ret := (some (.array .byte))) (by decide +kernel) rfl ?_
  intro p e s m args below meth c s₁ B hml hv
  obtain ⟨rfl, hPB⟩ := hv
  have hx := B.exec
  have hb := B.bytes
  have hr := B.returns
  have hts := atoms_spec (ws := wsJ7_copyOfRangeByte_39247) B.pre
  have hown : s.vm.findClass RJ7 = some m.cls := findClass_of_methodNamed B.named
  have hlocks := B.notSynchronized
  have hB := WB.of hPB
  have hl := lv_entry ([.ref b, .int (nI 0), .int (nI n)]) (n := 5) (Nat.le_of_ble_eq_true rfl)
  rw [lg_entry_eq]
  generalize (lg_sl ([.ref b, .int (nI 0), .int (nI n)]) ++ List.replicate (5 - (lg_sl ([.ref b, .int (nI 0), .int (nI n)])).length) Slot.unset).toArray = ls at hl ⊢
  have hl : lv_has ls 5 [(0, .ref b), (1, .int (nI 0)), (2, .int (nI n))] := hl
  show W p l e ({ frames := 1, cells := 1, slots := n, locals := 40 } : Room) s m ([.ref b, .int (nI 0), .int (nI n)]).toArray below meth c s.heap [] 0 0 (MQ below (va_Qr (fun u : Nat → Int32 => sb_Fit u) (fun u q9 t => True ∧ PB dC dI cB z (G ++ [(q9, eBy cB n u)]) t) (zB z)) ([.ref b, .int (nI 0), .int (nI n)]).toArray s 1 n (zB z)) (F0 m 0 ls [])
  refine lv_iload_n hx hb dJ7_copyOfRangeByte_39247_0 rfl (lv_at hl 1 rfl) ?_
  refine lv_iload_n hx hb dJ7_copyOfRangeByte_39247_1 rfl (lv_at hl 2 rfl) ?_
  refine va_csv (va_Run.run (va_runS (As := [.int (nI 0), .int (nI n)]) (rest := []) ⟨hx, hb, hml, hown, hts⟩ (m_J7_checkLength_df160 l 0 n (by omega) (by omega)) (va_cwS 2 hts gJ7_copyOfRangeByte_39247_J7_checkLength_df160 rfl rfl rfl hdJ7_checkLength_df160_2.2 ⟨Nat.le_of_ble_eq_true rfl, Nat.le_of_ble_eq_true rfl⟩) (pureS) rfl rfl hl.1 rfl (lv_room (Nat.le_of_ble_eq_true rfl)) dJ7_copyOfRangeByte_39247_2 ⟨Nat.le_of_ble_eq_true rfl, Nat.le_of_ble_eq_true rfl⟩)) (fun _ => ?_)
  refine lv_iload_n hx hb dJ7_copyOfRangeByte_39247_5 rfl (lv_at hl 2 rfl) ?_
  refine lv_iload_n hx hb dJ7_copyOfRangeByte_39247_6 rfl (lv_at hl 1 rfl) ?_
  refine kn_isub hx hb (by omega) dJ7_copyOfRangeByte_39247_7 ?_
  rw [Nat.sub_zero]
  refine lv_istore_n (lv' := [(3, .int (nI n)), (0, .ref b), (1, .int (nI 0)), (2, .int (nI n))]) hx hb dJ7_copyOfRangeByte_39247_8 rfl hl (by decide) rfl (fun ls hl => ?_)
  refine lv_iload_n hx hb dJ7_copyOfRangeByte_39247_9 rfl (lv_at hl 0 rfl) ?_
  refine kb_new hx hb (hts (.arrayClass .byte) (tm 246 (by decide +kernel) rfl)) hB (by omega) (Nat.le_refl _) (by simp) dJ7_copyOfRangeByte_39247_10 (fun q_1 H hB => ?_)
  refine lv_astore (lv' := [(4, .ref q_1), (3, .int (nI n)), (0, .ref b), (1, .int (nI 0)), (2, .int (nI n))]) hx hb dJ7_copyOfRangeByte_39247_12 hl (by decide) rfl (fun ls hl => ?_)
  refine lv_aload_n hx hb dJ7_copyOfRangeByte_39247_14 rfl (lv_at hl 2 rfl) ?_
  refine lv_iload_n hx hb dJ7_copyOfRangeByte_39247_15 rfl (lv_at hl 3 rfl) ?_
  refine lv_aload hx hb dJ7_copyOfRangeByte_39247_16 (lv_at hl 0 rfl) ?_
  refine lv_iconst (v := nI 0) hx hb dJ7_copyOfRangeByte_39247_18 (by decide) ?_
  refine lv_aload_n hx hb dJ7_copyOfRangeByte_39247_19 rfl (lv_at hl 2 rfl) ?_
  refine va_alen (cA := cB) (x := (cp, .inl f)) hx hb hB.2.1 hB.1 1 0 (app_old hG2) rfl (v := nI cp) rfl dJ7_copyOfRangeByte_39247_20 ?_
  refine lv_iload_n hx hb dJ7_copyOfRangeByte_39247_21 rfl (lv_at hl 3 rfl) ?_
  refine kn_isub hx hb (by omega) dJ7_copyOfRangeByte_39247_22 ?_
  rw [Nat.sub_zero]
  refine lv_iload_n hx hb dJ7_copyOfRangeByte_39247_23 rfl (lv_at hl 1 rfl) ?_
  refine kn_min hx hb (by rw [hml]; exact hl.1.symm) hown (hts (.methodLink RJ7 304 Lib.Math.min.name) (tm 247 (by decide +kernel) rfl)) (hts (.static Lib.Math.min.name) (tm 151 (by decide +kernel) rfl)) (hts (.initialized "java/lang/Math") (tm 152 (by decide +kernel) rfl)) (hts (.code Lib.Math.min.name Lib.Math.min.code 2 (some .int)) (tm 153 (by decide +kernel) rfl)) (Nat.le_of_ble_eq_true rfl) (Nat.le_of_ble_eq_true rfl) (by simp) (by simp) (by omega) (by omega) dJ7_copyOfRangeByte_39247_24 ?_
  refine kb_cp hx hb (by rw [hml]; exact hl.1.symm) hown (hts (.methodLink RJ7 150 arraycopyName) (tm 248 (by decide +kernel) rfl)) (hts (.native arraycopyName) (tm 249 (by decide +kernel) rfl)) (hts (.static arraycopyName) (tm 250 (by decide +kernel) rfl)) (hts (.initialized "java/lang/System") (tm 251 (by decide +kernel) rfl)) hB 1 G.length (f := f) (g := (fun _ => 0)) (app_old hG2) app_new hf (by omega) (by omega) (by omega) (Nat.le_of_ble_eq_true rfl) (Nat.le_of_ble_eq_true rfl) dJ7_copyOfRangeByte_39247_27 (fun H locs hB => ?_)
  rw [app_set] at hB
  refine lv_aload hx hb dJ7_copyOfRangeByte_39247_30 (lv_at hl 0 rfl) ?_
  exact W.widen (k := 1) (n := n) (by simp) (by simp) (W.aret (v := .ref q_1) hx hb hr (Or.inr ⟨_, rfl⟩) (Or.inr ⟨_, rfl⟩) (fun t9 ht9 hW9 => ⟨⟨_, _, rfl, sb_fitC hf sb_fit0, trivial, hB.P ht9 hW9⟩, hB.F ht9⟩) hB.L dJ7_copyOfRangeByte_39247_32)
set_option maxHeartbeats 4000000 in
set_option maxRecDepth 100000 in
theorem m_J7_copyOfRange_39247 (l : Launch) (dC : Nat → ClassId) (dI : Nat → Nat → Nat) (cB : ClassId) (z : Nat) (G : va_W) (b cp : Nat) (f : Nat → Int32) (hG2 : G[1]? = some (b, eBy cB cp f)) (n : Nat) (hn : n ≤ cp) (hm : cp ≤ 65536) (hf : sb_Fit f) : Met l yJ7_copyOfRange_39247 wsJ7_copyOfRange_39247 ({ frames := 2, cells := 1, slots := n, locals := 64 } : Room) (va_Pc [.ref b, .int (nI 0), .int (nI n)] (PB dC dI cB z G)) (va_Qr (fun u : Nat → Int32 => sb_Fit u) (fun u q9 t => True ∧ PB dC dI cB z (G ++ [(q9, eBy cB n u)]) t) (zB z)) 1 n (zB z) := by
  refine ofWF (cc := cJ7_copyOfRange_39247) (maxL := 3) (ret := (some (.array .byte))) (by decide +kernel) rfl ?_
  intro p e s m args below meth c s₁ B hml hv
  obtain ⟨rfl, hPB⟩ := hv
  have hx := B.exec
  have hb := B.bytes
  have hr := B.returns
  have hts := atoms_spec (ws := wsJ7_copyOfRange_39247) B.pre
  have hown : s.vm.findClass RJ7 = some m.cls := findClass_of_methodNamed B.named
  have hlocks := B.notSynchronized
  have hB := WB.of hPB
  have hl := lv_entry ([.ref b, .int (nI 0), .int (nI n)]) (n := 3) (Nat.le_of_ble_eq_true rfl)
  rw [lg_entry_eq]
  generalize (lg_sl ([.ref b, .int (nI 0), .int (nI n)]) ++ List.replicate (3 - (lg_sl ([.ref b, .int (nI 0), .int (nI n)])).length) Slot.unset).toArray = ls at hl ⊢
  have hl : lv_has ls 3 [(0, .ref b), (1, .int (nI 0)), (2, .int (nI n))] := hl
  show W p l e ({ frames := 2, cells := 1, slots := n, locals := 64 } : Room) s m ([.ref b, .int (nI 0), .int (nI n)]).toArray below meth c s.heap [] 0 0 (MQ below (va_Qr (fun u : Nat → Int32 => sb_Fit u) (fun u q9 t => True ∧ PB dC dI cB z (G ++ [(q9, eBy cB n u)]) t) (zB z)) ([.ref b, .int (nI 0), .int (nI n)]).toArray s 1 n (zB z)) (F0 m 0 ls [])
  refine lv_iload_n hx hb dJ7_copyOfRange_39247_0 rfl (lv_at hl 1 rfl) ?_
  refine kn_if_ne (tgt := 10) hx hb (by omega) dJ7_copyOfRange_39247_1 (by decide) (fun k_1 => absurd k_1 (by omega)) (fun k_1 => ?_)
  refine lv_iload_n hx hb dJ7_copyOfRange_39247_4 rfl (lv_at hl 2 rfl) ?_
  refine lv_aload_n hx hb dJ7_copyOfRange_39247_5 rfl (lv_at hl 0 rfl) ?_
  refine va_alen (cA := cB) (x := (cp, .inl f)) hx hb hB.2.1 hB.1 1 0 hG2 rfl (v := nI cp) rfl dJ7_copyOfRange_39247_6 ?_
  refine kn_icmp_eq (tgt := 17) hx hb (by omega) (by omega) dJ7_copyOfRange_39247_7 (by decide) (fun k_2 => ?_) (fun k_2 => ?_)
  · skip
    refine lv_aload_n hx hb dJ7_copyOfRange_39247_17 rfl (lv_at hl 0 rfl) ?_
    obtain rfl : n = cp := by omega
    refine va_clone (ty := .byte) (x := (n, .inl f)) hx hb (by rw [hml]; exact hl.1.symm) hown (hts (.methodLink RJ7 310 ⟨"[B", "clone", "()Ljava/lang/Object;"⟩) (tm 240 (by decide +kernel) rfl)) (hts (.sameMethod "[B" "java/lang/Object" "clone" "()Ljava/lang/Object;") (tm 241 (by decide +kernel) rfl)) (hts (.native ⟨"java/lang/Object", "clone", "()Ljava/lang/Object;"⟩) (tm 242 (by decide +kernel) rfl)) (hts (.instanceMethod ⟨"java/lang/Object", "clone", "()Ljava/lang/Object;"⟩) (tm 243 (by decide +kernel) rfl)) (hts (.selects "[B" ⟨"[B", "clone", "()Ljava/lang/Object;"⟩ ⟨"java/lang/Object", "clone", "()Ljava/lang/Object;"⟩) (tm 244 (by decide +kernel) rfl)) hB.2.2.2.2.2.2.2.2 hB.2.1 hB.1 hB.2.2.1 hB.2.2.2.1 (fun q hq => Nat.le_trans hB.2.2.2.2.1 hq) 1 0 hG2 rfl (hB.2.1.2 0 _ rfl).2 (cl_fit hf) (Nat.le_of_ble_eq_true rfl) (Nat.le_of_ble_eq_true rfl) (by simp) (by simp) dJ7_copyOfRange_39247_18 (fun q9 H _ h1 h2 h3 => ?_)
    replace hB : WB dC dI cB z (G ++ [(q9, eBy cB n f)]) s H [] := hB.to h1 h2 h3
    refine va_castA hx hb hown (hts (.classLink RJ7 311 "[B") (tm 245 (by decide +kernel) rfl)) hB.1 G.length (x := (n, .inl f)) app_new (hB.2.1.2 0 _ rfl).2 dJ7_copyOfRange_39247_21 ?_
    exact W.widen (k := 1) (n := n) (by simp) (by simp) (W.aret (v := .ref q9) hx hb hr (Or.inr ⟨_, rfl⟩) (Or.inr ⟨_, rfl⟩) (fun t9 ht9 hW9 => ⟨⟨_, _, rfl, hf, trivial, hB.P ht9 hW9⟩, hB.F ht9⟩) hB.L dJ7_copyOfRange_39247_24)
  · skip
    refine lv_aload_n hx hb dJ7_copyOfRange_39247_10 rfl (lv_at hl 0 rfl) ?_
    refine lv_iload_n hx hb dJ7_copyOfRange_39247_11 rfl (lv_at hl 1 rfl) ?_
    refine lv_iload_n hx hb dJ7_copyOfRange_39247_12 rfl (lv_at hl 2 rfl) ?_
    refine kb_r (va_runS (As := [.ref b, .int (nI 0), .int (nI n)]) (rest := []) ⟨hx, hb, hml, hown, hts⟩ (m_J7_copyOfRangeByte_39247 l dC dI cB z G b cp f hG2 n (by omega) (by omega) hf) (va_cwS 3 hts gJ7_copyOfRange_39247_J7_copyOfRangeByte_39247 rfl rfl rfl hdJ7_copyOfRangeByte_39247_3.2 ⟨Nat.le_of_ble_eq_true rfl, Nat.le_of_ble_eq_true rfl⟩) (hB.preS) rfl rfl hl.1 rfl (lv_room (Nat.le_of_ble_eq_true rfl)) dJ7_copyOfRange_39247_13 ⟨by simp, by simp⟩) hB (fun u q9 H locs hu hq hB => ?_)
    replace hB : WB dC dI cB z (G ++ [(q9, eBy cB n u)]) s H locs := hB
    have hf : sb_Fit u := hu
    exact W.widen (k := 1) (n := n) (by simp) (by simp) (W.aret (v := .ref q9) hx hb hr (Or.inr ⟨_, rfl⟩) (Or.inr ⟨_, rfl⟩) (fun t9 ht9 hW9 => ⟨⟨_, _, rfl, hf, trivial, hB.P ht9 hW9⟩, hB.F ht9⟩) hB.L dJ7_copyOfRange_39247_16)
end
section
set_option maxHeartbeats 4000000 in
set_option maxRecDepth 100000 in
theorem m_J0_init_db425 (l : Launch) (dC : Nat → ClassId) (dI : Nat → Nat → Nat) (cB : ClassId) (z : Nat) (a b n cp : Nat) (f : Nat → Int32) (r : Nat) (hnm : n ≤ cp) (hm : cp ≤ 65536) (hf : sb_Fit f) : Met l yJ0_init_db425 wsJ0_init_db425 ({ frames := 3, cells := 1, slots := n, locals := 86 } : Room) (va_Pc [.ref r, .ref a, .null] (PB dC dI cB z [(a, eSB b n), (b, eBy cB cp f), (r, .inr (0, [.null, .int (nI 0), .int (nI 0), .int (nI 0)]))])) (va_Qv (fun _ : Unit => True) (fun _ t => PB dC dI cB z [(a, eSB b n), (b, eBy cB cp f)] t) (zB z)) 1 n (zB z) := by
  refine ofWF (cc := cJ0_init_db425) (maxL := 5) (ret := none) (by decide +kernel) rfl ?_
  intro p e s m args below meth c s₁ B hml hv
  obtain ⟨rfl, hPB⟩ := hv
  have hx := B.exec
  have hb := B.bytes
  have hr := B.returns
  have hts := atoms_spec (ws := wsJ0_init_db425) B.pre
  have hown : s.vm.findClass RJ0 = some m.cls := findClass_of_methodNamed B.named
  have hlocks := B.notSynchronized
  have hB := WB.of hPB
  have hl := lv_entry ([.ref r, .ref a, .null]) (n := 5) (Nat.le_of_ble_eq_true rfl)
  rw [lg_entry_eq]
  generalize (lg_sl ([.ref r, .ref a, .null]) ++ List.replicate (5 - (lg_sl ([.ref r, .ref a, .null])).length) Slot.unset).toArray = ls at hl ⊢
  have hl : lv_has ls 5 [(0, .ref r), (1, .ref a), (2, .null)] := hl
  show W p l e ({ frames := 3, cells := 1, slots := n, locals := 86 } : Room) s m ([.ref r, .ref a, .null]).toArray below meth c s.heap [] 0 0 (MQ below (va_Qv (fun _ : Unit => True) (fun _ t => PB dC dI cB z [(a, eSB b n), (b, eBy cB cp f)] t) (zB z)) ([.ref r, .ref a, .null]).toArray s 1 n (zB z)) (F0 m 0 ls [])
  have hin2 : meth.name = "<init>" := (name_of_methodNamed B.named B.method).1
  have hinJ0 : ∀ w ∈ u_ws RJ0 TJ0 4, w ∈ wsJ0_init_db425 := tu 1327 (by decide +kernel) rfl
  have hat := KatJ4 hPB
  refine lv_aload_n hx hb dJ0_init_db425_0 rfl (lv_at hl 0 rfl) ?_
  refine W.objInit hx hb hown (hts (.methodLink RJ0 1 objectInit) (tm 384 (by decide +kernel) rfl)) (hts (.instanceMethod objectInit) (tm 1 (by decide +kernel) rfl)) (hts (.code objectInit ⟨#[0xb1]⟩ 1 none) (tm 2 (by decide +kernel) rfl)) (g := F0 m 1 ls [.ref r]) rfl (by rw [hml]; exact hl.1) rfl dJ0_init_db425_1 (Nat.le_of_ble_eq_true rfl) (Nat.le_of_ble_eq_true rfl) ?_
  show W p l e _ s m _ below meth c _ _ _ _ _ (F0 m 4 ls [])
  refine lv_aload_n hx hb dJ0_init_db425_4 rfl (lv_at hl 1 rfl) ?_
  refine va_csr (va_Run.run (va_runU (As := []) (rest := []) ⟨hx, hb, hml, hown, hts⟩ (m_J5_getValue_6d5f1 l dC dI cB z ([(a, eSB b n), (b, eBy cB cp f), (r, .inr (0, [.null, .int (nI 0), .int (nI 0), .int (nI 0)]))]) a b n rfl) (va_cwU 0 hts gJ0_init_db425_J5_getValue_6d5f1_u552J4 rfl rfl rfl rfl (by decide +kernel) ⟨Nat.le_of_ble_eq_true rfl, Nat.le_of_ble_eq_true rfl⟩) (hB.preV (ci := 1) (q := (RJ4, TJ4, 4)) rfl 0 rfl) rfl rfl hl.1 rfl (lv_room (Nat.le_of_ble_eq_true rfl)) dJ0_init_db425_5 ⟨Nat.le_of_ble_eq_true rfl, Nat.le_of_ble_eq_true rfl⟩)) (fun k_ hk_ => ?_)
  rw [hk_]
  refine lv_astore_n (lv' := [(3, .ref b), (0, .ref r), (1, .ref a), (2, .null)]) hx hb dJ0_init_db425_8 rfl hl (by decide) rfl (fun ls hl => ?_)
  refine lv_aload_n hx hb dJ0_init_db425_9 rfl (lv_at hl 2 rfl) ?_
  refine kx_cr (v := nI n) (va_runU (As := []) (rest := []) ⟨hx, hb, hml, hown, hts⟩ (m_J4_length_8abf5 l dC dI cB z ([(a, eSB b n), (b, eBy cB cp f), (r, .inr (0, [.null, .int (nI 0), .int (nI 0), .int (nI 0)]))]) a b n rfl) (va_cwO 0 hts gJ0_init_db425_J4_length_8abf5_u549J4 rfl rfl rfl (b0 := cJ5_length_8abf5) (m0 := 1) (r0 := some .int) (by decide +kernel) (by decide +kernel) ⟨Nat.le_of_ble_eq_true rfl, Nat.le_of_ble_eq_true rfl⟩) (hB.preV (ci := 1) (q := (RJ4, TJ4, 4)) rfl 0 rfl) rfl rfl hl.1 rfl (lv_room (Nat.le_of_ble_eq_true rfl)) dJ0_init_db425_10 ⟨Nat.le_of_ble_eq_true rfl, Nat.le_of_ble_eq_true rfl⟩) (fun _ h => h) ?_
  refine lv_istore (lv' := [(4, .int (nI n)), (3, .ref b), (0, .ref r), (1, .ref a), (2, .null)]) hx hb dJ0_init_db425_13 hl (by decide) rfl (fun ls hl => ?_)
  refine lv_aload_n hx hb dJ0_init_db425_15 rfl (lv_at hl 3 rfl) ?_
  refine kx_cr (v := bI true) (va_runU (As := []) (rest := []) ⟨hx, hb, hml, hown, hts⟩ (m_J5_isLatin1_aae02 l dC dI cB z ([(a, eSB b n), (b, eBy cB cp f), (r, .inr (0, [.null, .int (nI 0), .int (nI 0), .int (nI 0)]))]) a b n rfl) (va_cwU 0 hts gJ0_init_db425_J5_isLatin1_aae02_u1047J4 rfl rfl rfl rfl (by decide +kernel) ⟨Nat.le_of_ble_eq_true rfl, Nat.le_of_ble_eq_true rfl⟩) (hB.preV (ci := 1) (q := (RJ4, TJ4, 4)) rfl 0 rfl) rfl rfl hl.1 rfl (lv_room (Nat.le_of_ble_eq_true rfl)) dJ0_init_db425_16 ⟨Nat.le_of_ble_eq_true rfl, Nat.le_of_ble_eq_true rfl⟩) (fun _ h => h) ?_
  refine kb_if_eq (tgt := 41) hx hb dJ0_init_db425_19 (by decide) (fun k_1 => absurd k_1 (by decide)) (fun k_1 => ?_)
  refine lv_aload_n hx hb dJ0_init_db425_22 rfl (lv_at hl 2 rfl) ?_
  refine lv_iconst (v := nI 0) hx hb dJ0_init_db425_23 (by decide) ?_
  refine kb_pstr (fs := [.null, .int (nI 0), .int (nI 0), .int (nI 0)]) hx hb hts hinJ0 hown hB 2 rfl 1 (by decide) (hts (.fieldLink RJ0 15 "java/lang/String" "coder" "B") (tm 385 (by decide +kernel) rfl)) (fun _ h => h) rfl hin2 rfl rfl (by decide) (by decide) (Nat.le_of_ble_eq_true rfl) dJ0_init_db425_24 (fun H locs hB => ?_)
  replace hB : WB dC dI cB z [(a, eSB b n), (b, eBy cB cp f), (r, .inr (0, [.null, .int (nI 0), .int (nI 0), .int (nI 0)]))] s H locs := hB
  refine lv_aload_n hx hb dJ0_init_db425_27 rfl (lv_at hl 2 rfl) ?_
  refine lv_aload_n hx hb dJ0_init_db425_28 rfl (lv_at hl 1 rfl) ?_
  refine lv_iconst (v := nI 0) hx hb dJ0_init_db425_29 (by decide) ?_
  refine lv_iload hx hb dJ0_init_db425_30 (lv_at hl 0 rfl) ?_
  refine kb_r (va_runS (As := [.ref b, .int (nI 0), .int (nI n)]) (rest := [.ref r]) ⟨hx, hb, hml, hown, hts⟩ (m_J7_copyOfRange_39247 l dC dI cB z ([(a, eSB b n), (b, eBy cB cp f), (r, .inr (0, [.null, .int (nI 0), .int (nI 0), .int (nI 0)]))]) b cp f rfl n (by omega) (by omega) hf) (va_cwS 3 hts gJ0_init_db425_J7_copyOfRange_39247 rfl rfl rfl hdJ7_copyOfRange_39247_3.2 ⟨Nat.le_of_ble_eq_true rfl, Nat.le_of_ble_eq_true rfl⟩) (hB.preS) rfl rfl hl.1 rfl (lv_room (Nat.le_of_ble_eq_true rfl)) dJ0_init_db425_32 ⟨by simp, by simp⟩) hB (fun u q9 H locs hu hq hB => ?_)
  replace hB : WB dC dI cB z [(a, eSB b n), (b, eBy cB cp f), (r, .inr (0, [.null, .int (nI 0), .int (nI 0), .int (nI 0)])), (q9, eBy cB n u)] s H locs := hB
  refine kb_pstr (fs := [.null, .int (nI 0), .int (nI 0), .int (nI 0)]) hx hb hts hinJ0 hown hB 2 rfl 0 (by decide) (hts (.fieldLink RJ0 9 "java/lang/String" "value" "[B") (tm 386 (by decide +kernel) rfl)) (fun _ h => h) rfl hin2 rfl rfl rfl rfl (Nat.le_of_ble_eq_true rfl) dJ0_init_db425_35 (fun H locs hB => ?_)
  replace hB : WB dC dI cB z [(a, eSB b n), (b, eBy cB cp f), (r, .inr (0, [.ref q9, .int (nI 0), .int (nI 0), .int (nI 0)])), (q9, eBy cB n u)] s H locs := hB
  refine lv_goto (tgt := 97) hx hb dJ0_init_db425_38 (by decide) ?_
  replace hB : WB dC dI cB z [(a, eSB b n), (b, eBy cB cp f)] s H locs := hB.to (hB.1.sub [0, 1] rfl) (hB.2.2.1.sub [0, 1] (by decide) rfl) hB.2.2.2.1
  exact W.widen (k := 1) (n := n) (by simp) (by simp) (W.vret hx hb hr (fun t9 ht9 hW9 => ⟨⟨(), rfl, trivial, hB.P ht9 hW9⟩, hB.F ht9⟩) hB.L dJ0_init_db425_97)
set_option maxHeartbeats 4000000 in
set_option maxRecDepth 100000 in
theorem m_J0_init_81219 (l : Launch) (dC : Nat → ClassId) (dI : Nat → Nat → Nat) (cB : ClassId) (z : Nat) (a b n cp : Nat) (f : Nat → Int32) (r : Nat) (hnm : n ≤ cp) (hm : cp ≤ 65536) (hf : sb_Fit f) : Met l yJ0_init_81219 wsJ0_init_81219 ({ frames := 4, cells := 1, slots := n, locals := 110 } : Room) (va_Pc [.ref r, .ref a] (PB dC dI cB z [(a, eSB b n), (b, eBy cB cp f), (r, .inr (0, [.null, .int (nI 0), .int (nI 0), .int (nI 0)]))])) (va_Qv (fun _ : Unit => True) (fun _ t => PB dC dI cB z [(a, eSB b n), (b, eBy cB cp f)] t) (zB z)) 1 n (zB z) := by
  refine ofWF (cc := cJ0_init_81219) (maxL := 2) (ret := none) (by decide +kernel) rfl ?_
  intro p e s m args below meth c s₁ B hml hv
  obtain ⟨rfl, hPB⟩ := hv
  have hx := B.exec
  have hb := B.bytes
  have hr := B.returns
  have hts := atoms_spec (ws := wsJ0_init_81219) B.pre
  have hown : s.vm.findClass RJ0 = some m.cls := findClass_of_methodNamed B.named
  have hlocks := B.notSynchronized
  have hB := WB.of hPB
  have hl := lv_entry ([.ref r, .ref a]) (n := 2) (Nat.le_of_ble_eq_true rfl)
  rw [lg_entry_eq]
  generalize (lg_sl ([.ref r, .ref a]) ++ List.replicate (2 - (lg_sl ([.ref r, .ref a])).length) Slot.unset).toArray = ls at hl ⊢
  have hl : lv_has ls 2 [(0, .ref r), (1, .ref a)] := hl
  show W p l e ({ frames := 4, cells := 1, slots := n, locals := 110 } : Room) s m ([.ref r, .ref a]).toArray below meth c s.heap [] 0 0 (MQ below (va_Qv (fun _ : Unit => True) (fun _ t => PB dC dI cB z [(a, eSB b n), (b, eBy cB cp f)] t) (zB z)) ([.ref r, .ref a]).toArray s 1 n (zB z)) (F0 m 0 ls [])
  refine lv_aload_n hx hb dJ0_init_81219_0 rfl (lv_at hl 0 rfl) ?_
  refine lv_aload_n hx hb dJ0_init_81219_1 rfl (lv_at hl 1 rfl) ?_
  refine lv_null hx hb dJ0_init_81219_2 ?_
  refine kb_v (va_runI (As := [.ref a, .null]) (rest := []) ⟨hx, hb, hml, hown, hts⟩ (m_J0_init_db425 l dC dI cB z a b n cp f r hnm hm hf) (cwI 2 hts gJ0_init_81219_J0_init_db425 rfl rfl rfl (hts (.initialized yJ0_init_db425.cls) (tm 264 (by decide +kernel) rfl)) (hts (.methodLink RJ0 489 yJ0_init_db425) (tm 404 (by decide +kernel) rfl)) (hts (.instanceMethod yJ0_init_db425) (tm 405 (by decide +kernel) rfl)) rfl (by decide +kernel) ⟨Nat.le_of_ble_eq_true rfl, Nat.le_of_ble_eq_true rfl⟩) (hB.preS) rfl rfl hl.1 rfl (lv_room (Nat.le_of_ble_eq_true rfl)) dJ0_init_81219_3 ⟨by simp, by simp⟩) hB (fun u H locs hu hB => ?_)
  replace hB : WB dC dI cB z [(a, eSB b n), (b, eBy cB cp f)] s H locs := hB
  exact W.widen (k := 1) (n := n) (by simp) (by simp) (W.vret hx hb hr (fun t9 ht9 hW9 => ⟨⟨(), rfl, trivial, hB.P ht9 hW9⟩, hB.F ht9⟩) hB.L dJ0_init_81219_6)
set_option maxHeartbeats 4000000 in
set_option maxRecDepth 100000 in
theorem m_J4_toString_0e30d (l : Launch) (dC : Nat → ClassId) (dI : Nat → Nat → Nat) (cB : ClassId) (z : Nat) (a b n cp : Nat) (f : Nat → Int32) (hnm : n ≤ cp) (hm : cp ≤ 65536) (hf : sb_Fit f) : Met l yJ4_toString_0e30d wsJ4_toString_0e30d ({ frames := 5, cells := 2, slots := (4 + n), locals := 131 } : Room) (va_Pc [.ref a] (PB dC dI cB z [(a, eSB b n), (b, eBy cB cp f)])) (va_Qr (fun _ : Unit => True) (fun _ _ t => True ∧ PB dC dI cB z [(a, eSB b n), (b, eBy cB cp f)] t) (zB z)) 2 (4 + n) (zB z) := by
  refine ofWF (cc := cJ4_toString_0e30d) (maxL := 1) (ret := (some (.object "java/lang/String"))) (by decide +kernel) rfl ?_
  intro p e s m args below meth c s₁ B hml hv
  obtain ⟨rfl, hPB⟩ := hv
  have hx := B.exec
  have hb := B.bytes
  have hr := B.returns
  have hts := atoms_spec (ws := wsJ4_toString_0e30d) B.pre
  have hown : s.vm.findClass RJ4 = some m.cls := findClass_of_methodNamed B.named
  have hlocks := B.notSynchronized
  have hB := WB.of hPB
  have hl := lv_entry ([.ref a]) (n := 1) (Nat.le_of_ble_eq_true rfl)
  rw [lg_entry_eq]
  generalize (lg_sl ([.ref a]) ++ List.replicate (1 - (lg_sl ([.ref a])).length) Slot.unset).toArray = ls at hl ⊢
  have hl : lv_has ls 1 [(0, .ref a)] := hl
  show W p l e ({ frames := 5, cells := 2, slots := (4 + n), locals := 131 } : Room) s m ([.ref a]).toArray below meth c s.heap [] 0 0 (MQ below (va_Qr (fun _ : Unit => True) (fun _ _ t => True ∧ PB dC dI cB z [(a, eSB b n), (b, eBy cB cp f)] t) (zB z)) ([.ref a]).toArray s 2 (4 + n) (zB z)) (F0 m 0 ls [])
  have hinJ0 : ∀ w ∈ u_ws RJ0 TJ0 4, w ∈ wsJ4_toString_0e30d := tu 1327 (by decide +kernel) rfl
  refine va_new (D := (dC, dI)) (ci := 0) (C := RJ0) (T := TJ0) (N := 4) (fs := [.null, .int (nI 0), .int (nI 0), .int (nI 0)]) hx hb hts hinJ0 tyJ0 tyJ0_ok hown (hts (.classLink RJ4 18 RJ0) (tm 407 (by decide +kernel) rfl)) (hts (.instantiable RJ0 4) (tm 408 (by decide +kernel) rfl)) (hts (.initialized RJ0) (tm 264 (by decide +kernel) rfl)) hB.2.1 hB.1 hB.2.2.1 hB.2.2.2.1 (fun q hq => Nat.le_trans hB.2.2.2.2.1 hq) rfl (fun j hj => by rcases (show j = 0 ∨ j = 1 ∨ j = 2 ∨ j = 3 by omega) with rfl | rfl | rfl | rfl <;> rfl) (by simp) (by simp) dJ4_toString_0e30d_0 (fun r H h1 h2 h3 => ?_)
  replace hB : WB dC dI cB z [(a, eSB b n), (b, eBy cB cp f), (r, .inr (0, [.null, .int (nI 0), .int (nI 0), .int (nI 0)]))] s H _ := hB.to h1 h2 h3
  refine lv_dup hx hb dJ4_toString_0e30d_3 rfl ?_
  refine lv_aload_n hx hb dJ4_toString_0e30d_4 rfl (lv_at hl 0 rfl) ?_
  refine kb_v (va_runI (As := [.ref a]) (rest := [.ref r]) ⟨hx, hb, hml, hown, hts⟩ (m_J0_init_81219 l dC dI cB z a b n cp f r hnm hm hf) (cwI 1 hts gJ4_toString_0e30d_J0_init_81219 rfl rfl rfl (hts (.initialized yJ0_init_81219.cls) (tm 264 (by decide +kernel) rfl)) (hts (.methodLink RJ4 137 yJ0_init_81219) (tm 409 (by decide +kernel) rfl)) (hts (.instanceMethod yJ0_init_81219) (tm 410 (by decide +kernel) rfl)) rfl (by decide +kernel) ⟨Nat.le_of_ble_eq_true rfl, Nat.le_of_ble_eq_true rfl⟩) (hB.preS) rfl rfl hl.1 rfl (lv_room (Nat.le_of_ble_eq_true rfl)) dJ4_toString_0e30d_5 ⟨by simp, by simp⟩) hB (fun u H locs hu hB => ?_)
  replace hB : WB dC dI cB z [(a, eSB b n), (b, eBy cB cp f)] s H locs := hB
  exact W.widen (k := 2) (n := (4 + n)) (by simp) (by simp) (W.aret (v := .ref r) hx hb hr (Or.inl ⟨_, rfl⟩) (Or.inr ⟨_, rfl⟩) (fun t9 ht9 hW9 => ⟨⟨(), _, rfl, trivial, trivial, hB.P ht9 hW9⟩, hB.F ht9⟩) hB.L dJ4_toString_0e30d_8)
end
section
/-! texts: the class's world beside a builder's -/
def AZ (ad : Nat → Nat) (z q : Nat) : Prop := AX ad q ∨ zB z q
def TB (dC : Nat → ClassId) (dI : Nat → Nat → Nat) (cB : ClassId) (ad : Nat → Nat) (z : Nat) (G : va_W) (s : State) (H : Heap) : Prop := va_P (dC, dI) vwCl G H ∧ va_K (dC, dI) vwCl [(cB, .byte)] s ∧ va_D (zB z) G ∧ z ≤ s.heap.size ∧ ZBA (AZ ad z) s s.heap ∧ ∀ q, AX ad q → q < z
/-- the two links by which a row and an order reach the gap's maker -/
def NT (U : State) : Prop := va_Nw (.methodLinkNest RX2 65 yX4_appendGap "Orderlattice") U ∧ va_Nw (.methodLinkNest RX1 65 yX4_appendGap "Orderlattice") U
theorem NT.warm {s U : State} (hW : s.WarmedH U.vm) (h : NT s) : NT U := ⟨va_Nw.warmM hW h.1, va_Nw.warmM hW h.2⟩
theorem NT.same {s U : State} (hv : s.vm = U.vm) (h : NT s) : NT U := ⟨va_Nw.same rfl hv h.1, va_Nw.same rfl hv h.2⟩
/-- before a call that makes a text -/
def PT (dC : Nat → ClassId) (dI : Nat → Nat → Nat) (cB : ClassId) (ad : Nat → Nat) (S : XS) (U : State) : Prop := PX dC dI ad S U ∧ va_K (dC, dI) vwCl [(cB, .byte)] U ∧ ZBA (AZ ad U.heap.size) U U.heap ∧ NT U
section KT0
variable {dC : Nat → ClassId} {dI : Nat → Nat → Nat} {cB : ClassId} {ad : Nat → Nat} {z : Nat} {G : va_W} {S : XS} {s : State} {H : Heap} {locs : List Loc}
theorem PX.lt {U : State} (h : PX dC dI ad S U) : ∀ q, AX ad q → q < U.heap.size := by
  rintro q ⟨k, hk, rfl⟩
  exact (h.1 k _ (wX_get hk)).lt
theorem PT.call {U : State} {g : JFrame} {mk : MethodId} {a : Array Value} (h : PT dC dI cB ad S U) : PT dC dI cB ad S (U.calling g mk a) := ⟨h.1.call, va_K.moved (u := U) (U := U.calling g mk a) (Vm.Alike.refl U.vm) h.2.1, ZBA.same (s := U) (U := U.calling g mk a) rfl h.2.2.1, NT.same (s := U) (U := U.calling g mk a) rfl h.2.2.2⟩
theorem PT.blind {av : List Value} : FrameBlind (va_Pc av (PT dC dI cB ad S)) := fun _ _ _ _ h => ⟨h.1, h.2.call⟩
theorem WX.ofT (h : PT dC dI cB ad S s) : WX dC dI ad S (AZ ad s.heap.size) s s.heap [] := ⟨h.1.1, h.1.2.1, h.1.2.2.weaken (fun _ _ _ h => Or.inl h), va_S.rf⟩
theorem TB.of (h : PT dC dI cB ad S s) : TB dC dI cB ad s.heap.size [] s s.heap := ⟨fun k q hk => by simp at hk, h.2.1, ⟨fun i j p q hi => by simp at hi, fun k q hk => by simp at hk⟩, Nat.le_refl _, h.2.2.1, h.1.lt⟩
theorem TB.toPB {U : State} (h : TB dC dI cB ad z G s H) (hX : WX dC dI ad S (AZ ad z) s H locs) (hU : U.heap = H) (hW : s.WarmedH U.vm) : PB dC dI cB z G U := by
  refine ⟨by rw [hU]; exact h.1, va_K.moved hW.alike h.2.1, h.2.2.1, ?_, ?_⟩
  · rw [hU]; exact Nat.le_trans h.2.2.2.1 hX.2.2.2.1
  · rw [hU]; exact ((h.2.2.2.2.1.kept hX.2.2.2.2.1).warm hW).narrow (fun _ hq => Or.inr hq)
theorem TB.preV {a ci : Nat} {q : vw_C} {fs As : List Value} (h : TB dC dI cB ad z G s H) (hX : WX dC dI ad S (AZ ad z) s H locs) (hc : vwCl[ci]? = some q) (k : Nat) (he : G[k]? = some (a, .inr (ci, fs))) : PreV s H q.1 a (va_Pc (Value.ref a :: As) (PB dC dI cB z G)) As :=
  ⟨PB.blind, va_recv h.2.1 h.1 (ci := ci) (q0 := k) hc he, fun _ hU hW => ⟨rfl, h.toPB hX hU hW⟩⟩
theorem TB.preS {As : List Value} (h : TB dC dI cB ad z G s H) (hX : WX dC dI ad S (AZ ad z) s H locs) : PreS s H (va_Pc As (PB dC dI cB z G)) As := ⟨PB.blind, fun _ hU hW => ⟨rfl, h.toPB hX hU hW⟩⟩
theorem TB.toPT {U : State} (h : TB dC dI cB ad z G s H) (hX : WX dC dI ad S (AZ ad z) s H locs) (hN : NT s) (hU : U.heap = H) (hW : s.WarmedH U.vm) : PT dC dI cB ad S U := by
  have hP := hX.P hU hW
  refine ⟨hP, va_K.moved hW.alike h.2.1, ?_, hN.warm hW⟩
  rw [hU]
  refine ((h.2.2.2.2.1.kept hX.2.2.2.2.1).warm hW).narrow (fun q hq => ?_)
  rcases hq with hq | hq
  · exact Or.inl hq
  · exact Or.inr (Nat.le_trans (Nat.le_trans h.2.2.2.1 hX.2.2.2.1) hq)
theorem TB.preRow {i : Nat} {As : List Value} (h : TB dC dI cB ad z G s H) (hX : WX dC dI ad S (AZ ad z) s H locs) (hN : NT s) (hi : i < 8) : PreV s H RX2 (ad (3 * i)) (va_Pc (Value.ref (ad (3 * i)) :: As) (PT dC dI cB ad S)) As :=
  ⟨PT.blind, (hX.preRow hi (As := As)).2.1, fun _ hU hW => ⟨rfl, h.toPT hX hN hU hW⟩⟩
theorem TB.preOrd {i : Nat} {As : List Value} (h : TB dC dI cB ad z G s H) (hX : WX dC dI ad S (AZ ad z) s H locs) (hN : NT s) (hi : i < 6) : PreV s H RX1 (ad (24 + 5 * i)) (va_Pc (Value.ref (ad (24 + 5 * i)) :: As) (PT dC dI cB ad S)) As :=
  ⟨PT.blind, (hX.preOrd hi (As := As)).2.1, fun _ hU hW => ⟨rfl, h.toPT hX hN hU hW⟩⟩
theorem TB.kept {H1 : Heap} (h : TB dC dI cB ad z G s H) (hk : ∀ q, q < H.size → ¬ AX ad q → H1[q]? = H[q]?) : TB dC dI cB ad z G s H1 :=
  ⟨h.1.kept (fun k q hq => hk q.1 ((h.1 k q hq).lt) (fun z9 => by have h1 := h.2.2.2.2.2 _ z9; have h2 : z ≤ q.1 := h.2.2.1.2 k q hq; omega)), h.2⟩
theorem WX.keptZ {H1 : Heap} {locs1 : List Loc} (hX : WX dC dI ad S (AZ ad z) s H locs) (hz : ∀ q, AX ad q → q < z) (hk : ∀ q, q < H.size → ¬ zB z q → H1[q]? = H[q]?) (hS : va_S (AZ ad z) s.heap H1 locs1) : WX dC dI ad S (AZ ad z) s H1 locs1 :=
  ⟨hX.1.kept (fun k q hq => hk q.1 ((hX.1 k q hq).lt) (fun z9 => by obtain ⟨hk6, e⟩ := wX_in k q hq; have := hz q.1 ⟨k, hk6, e⟩; have h2 : z ≤ q.1 := z9; omega)), hX.2.1, hX.2.2.1, hS⟩
end KT0
section KT
variable {p : Program} {l : Launch} {e : Env} {R : Room} {s : State} {m : MethodId} {args : Array Value} {below : List Frame} {meth : Method} {c : Code} {H : Heap} {locs : List Loc} {cells slots : Nat} {Q : State → Prop}
variable {cc : ByteArray} {pc : Nat} {ls : Array Slot} {rest st0 : List Value} {dC : Nat → ClassId} {dI : Nat → Nat → Nat} {cB : ClassId} {ad : Nat → Nat} {z : Nat} {G : va_W} {S : XS} {Ts : List Cond} {index : Nat} {own : String} {mc ms : Nat} {av : Array Value}
theorem kt_v {S1 : Type} {post : S1 → Prop} {Gf : S1 → va_W} (hr : va_Run p l e R s m args below meth c H locs cells slots mc ms (F0 m pc ls st0) rest (va_Qv post (fun u t => PB dC dI cB z (Gf u) t) (zB z) av) (zB z)) (hX : WX dC dI ad S (AZ ad z) s H locs) (hT : TB dC dI cB ad z G s H)
    (kk : ∀ (u : S1) (H1 : Heap) (locs1 : List Loc), post u → WX dC dI ad S (AZ ad z) s H1 locs1 → TB dC dI cB ad z (Gf u) s H1 → W p l e R s m args below meth c H1 locs1 (cells + mc) (slots + ms) Q (F0 m (pc + 3) ls rest)) : W p l e R s m args below meth c H locs cells slots Q (F0 m pc ls st0) :=
  va_callv hr hX.2.2.2 (fun _ _ h => Or.inr h) (fun _ h => Or.inr h) (fun u t H1 locs1 ht hvm hp hb1 _ hk hS => kk u H1 locs1 hp (hX.keptZ hT.2.2.2.2.2 hk hS) ⟨by rw [← ht]; exact hb1.1, hT.2.1, hb1.2.2.1, hT.2.2.2⟩)
theorem kt_r {S1 : Type} {post : S1 → Prop} {Gf : S1 → Nat → va_W} {ra : S1 → Nat → Prop} (hr : va_Run p l e R s m args below meth c H locs cells slots mc ms (F0 m pc ls st0) rest (va_Qr post (fun u q t => ra u q ∧ PB dC dI cB z (Gf u q) t) (zB z) av) (zB z)) (hX : WX dC dI ad S (AZ ad z) s H locs) (hT : TB dC dI cB ad z G s H)
    (kk : ∀ (u : S1) (q : Nat) (H1 : Heap) (locs1 : List Loc), post u → ra u q → WX dC dI ad S (AZ ad z) s H1 locs1 → TB dC dI cB ad z (Gf u q) s H1 → W p l e R s m args below meth c H1 locs1 (cells + mc) (slots + ms) Q (F0 m (pc + 3) ls (.ref q :: rest))) : W p l e R s m args below meth c H locs cells slots Q (F0 m pc ls st0) :=
  va_callr hr hX.2.2.2 (fun _ _ h => Or.inr h) (fun _ h => Or.inr h) (fun u q t H1 locs1 ht hvm hp hb1 _ hk hS => kk u q H1 locs1 hp hb1.1 (hX.keptZ hT.2.2.2.2.2 hk hS) ⟨by rw [← ht]; exact hb1.2.1, hT.2.1, hb1.2.2.2.1, hT.2.2.2⟩)
theorem kt_x {post : XS → Prop} (hr : va_Run p l e R s m args below meth c H locs cells slots 0 0 (F0 m pc ls st0) rest (va_Qv post (PX dC dI ad) (AX ad) av) (AX ad)) (hX : WX dC dI ad S (AZ ad z) s H locs) (hT : TB dC dI cB ad z G s H)
    (kk : ∀ (S1 : XS) (H1 : Heap) (locs1 : List Loc), post S1 → WX dC dI ad S1 (AZ ad z) s H1 locs1 → TB dC dI cB ad z G s H1 → W p l e R s m args below meth c H1 locs1 cells slots Q (F0 m (pc + 3) ls rest)) : W p l e R s m args below meth c H locs cells slots Q (F0 m pc ls st0) :=
  va_callv hr hX.2.2.2 (fun _ _ h => Or.inl h) (fun _ h => Or.inl h) (fun u t H1 locs1 ht hvm hp hB _ hk hS => kk u H1 locs1 hp (kx_back hX (fun _ h => Or.inl h) ht hvm hB hS) (hT.kept hk))
/-- a call that makes a text: the class's world as it was -/
theorem kt_t {post : XS → Prop} (hr : va_Run p l e R s m args below meth c H locs cells slots mc ms (F0 m pc ls st0) rest (va_Qr post (fun S1 _ t => PX dC dI ad S1 t) (AX ad) av) (AX ad)) (hX : WX dC dI ad S (AZ ad z) s H locs) (hT : TB dC dI cB ad z G s H)
    (kk : ∀ (S1 : XS) (q : Nat) (H1 : Heap) (locs1 : List Loc), post S1 → WX dC dI ad S1 (AZ ad z) s H1 locs1 → TB dC dI cB ad z G s H1 → W p l e R s m args below meth c H1 locs1 (cells + mc) (slots + ms) Q (F0 m (pc + 3) ls (.ref q :: rest))) : W p l e R s m args below meth c H locs cells slots Q (F0 m pc ls st0) :=
  va_callr hr hX.2.2.2 (fun _ _ h => Or.inl h) (fun _ h => Or.inl h) (fun u q t H1 locs1 ht hvm hp hB _ hk hS => kk u q H1 locs1 hp (kx_back hX (fun _ h => Or.inl h) ht hvm hB hS) (hT.kept hk))
theorem kt_new (hx : p.tables.exec = Jvm.exec) (hb : c.code = cc) (hts : ∀ w ∈ Ts, w.before args s = true) (hin : ∀ w ∈ u_ws RJ4 TJ4 4, w ∈ Ts) (hown : s.vm.findClass own = some m.cls) (hcl : (Cond.classLink own index RJ4).before args s = true) (hinst : (Cond.instantiable RJ4 4).before args s = true) (hini : (Cond.initialized RJ4).before args s = true) (hX : WX dC dI ad S (AZ ad z) s H locs) (hT : TB dC dI cB ad z [] s H) (hcells : cells + 1 ≤ R.cells) (hslots : slots + 4 ≤ R.slots) (hdg : decode cc pc = .ok (.new index, 3))
    (kk : ∀ (q : Nat) (H1 : Heap), WX dC dI ad S (AZ ad z) s H1 locs → TB dC dI cB ad z [(q, .inr (1, [.null, .int (nI 0), .int (nI 0), .int (nI 0)]))] s H1 → W p l e R s m args below meth c H1 locs (cells + 1) (slots + 4) Q (F0 m (pc + 3) ls (.ref q :: rest))) : W p l e R s m args below meth c H locs cells slots Q (F0 m pc ls rest) := by
  refine va_new (D := (dC, dI)) (ci := 1) (C := RJ4) (T := TJ4) (N := 4) (fs := [.null, .int (nI 0), .int (nI 0), .int (nI 0)]) hx hb hts hin tyJ4 tyJ4_ok hown hcl hinst hini hX.2.1 hX.1 hX.2.2.1 hX.2.2.2 (fun q hq => Or.inr (Nat.le_trans hT.2.2.2.1 hq)) rfl (fun j hj => by rcases (show j = 0 ∨ j = 1 ∨ j = 2 ∨ j = 3 by omega) with rfl | rfl | rfl | rfl <;> rfl) hcells hslots hdg (fun q H1 h1 h2 h3 => ?_)
  have hlen : (wX dC ad S).length = 60 := by rw [wX, List.length_map, List.length_range]
  have h60 : (wX dC ad S ++ [(q, (.inr (1, [.null, .int (nI 0), .int (nI 0), .int (nI 0)]) : va_E))])[60]? = some (q, .inr (1, [.null, .int (nI 0), .int (nI 0), .int (nI 0)])) := by rw [← hlen]; exact app_new
  have hq : zB z q := by
    rcases h2.2 60 _ h60 with ⟨k, hk, e⟩ | h
    · have hk' := app_old (x := (q, (.inr (1, [.null, .int (nI 0), .int (nI 0), .int (nI 0)]) : va_E))) (wX_get (dC := dC) (ad := ad) (S := S) hk)
      have := h2.1 60 k _ _ h60 hk' e
      omega
    · exact h
  refine kk q H1 ⟨fun k x hk => h1 k x (app_old hk), hX.2.1, hX.2.2.1, h3⟩ ⟨fun k x hk => ?_, hT.2.1, ⟨fun i j x y hi hj _ => ?_, fun k x hk => ?_⟩, hT.2.2.2⟩
  · have hz : k < 1 := (List.getElem?_eq_some_iff.mp hk).1
    obtain rfl : k = 0 := by omega
    cases hk
    exact h1 60 _ h60
  · have h1 : i < 1 := (List.getElem?_eq_some_iff.mp hi).1
    have h2 : j < 1 := (List.getElem?_eq_some_iff.mp hj).1
    omega
  · have hz : k < 1 := (List.getElem?_eq_some_iff.mp hk).1
    obtain rfl : k = 0 := by omega
    cases hk
    exact hq
theorem W.filt {g : JFrame} (kk : ∀ locs1 : List Loc, (∀ q ∈ locs1, q ∈ locs ∧ q.base < s.heap.size) → W p l e R s m args below meth c H locs1 cells slots Q g) : W p l e R s m args below meth c H locs cells slots Q g := by
  intro T hT X
  refine kk (locs.filter (fun q => q.base < s.heap.size)) (fun q hq => ?_) T hT ⟨X.admits, X.cas, X.clock, X.frames, X.room, X.hears, X.method, X.code, X.here, X.tail, X.warmed, X.limits, X.bytes, ?_⟩
  · have h := List.mem_filter.mp hq
    exact ⟨h.1, of_decide_eq_true h.2⟩
  · exact State.sameButNew.weaken X.same (fun x hx hl => List.mem_filter.mpr ⟨hx, decide_eq_true hl⟩) (Nat.le_refl _) (Nat.le_refl _)
end KT
theorem free_X {ad : Nat → Nat} {s : State} {H : Heap} {locs locs1 : List Loc} (hS : va_S (AZ ad s.heap.size) s.heap H locs) (h : ∀ q ∈ locs1, q ∈ locs ∧ q.base < s.heap.size) : ∀ q ∈ locs1, AX ad q.base := fun q hq => by
  obtain ⟨h1, h2⟩ := h q hq
  rcases hS.2.2 q h1 with h3 | h3
  · exact h3
  · exact absurd h2 (Nat.not_lt.mpr h3)
theorem va_F.X {ad : Nat → Nat} {s t : State} (h : va_F (AZ ad s.heap.size) s t) : va_F (AX ad) s t := ⟨h.1, fun q hq hA => h.2 q hq (fun z => z.elim hA (fun z2 => by have h3 : s.heap.size ≤ q := z2; omega))⟩
/-! growing: how much, and what it costs -/
theorem cap_b {q cp Q : Nat} (hq : q ≤ Q) (hc : cp ≤ 2 * Q) : sb_cap q cp ≤ 2 * Q := by
  unfold sb_cap
  split
  · exact hc
  · split <;> omega
theorem gm_pot (q cp : Nat) : gm q cp + 2 * cp ≤ 2 * sb_cap q cp := by
  unfold gm sb_cap
  split
  · omega
  · split <;> omega
section KTA
variable {p : Program} {l : Launch} {e : Env} {R : Room} {s : State} {m : MethodId} {args : Array Value} {below : List Frame} {meth : Method} {c : Code} {H : Heap} {locs : List Loc} {cells sl : Nat} {Q : State → Prop}
variable {pc : Nat} {ls : Array Slot} {rest st0 : List Value} {dC : Nat → ClassId} {dI : Nat → Nat → Nat} {cB : ClassId} {ad : Nat → Nat} {z : Nat} {S : XS} {av : Array Value} {a b n cp n2 : Nat} {f : Nat → Int32}
/-- an append, and what it costs -/
theorem kt_app (N : Nat) (hr : va_Run p l e R s m args below meth c H locs cells (sl + 2 * cp) 1 (gm n2 cp) (F0 m pc ls st0) rest (va_Qr (fun u : Nat × (Nat → Int32) => sb_Fit u.2) (fun u q9 t => q9 = a ∧ PB dC dI cB z [(a, eSB u.1 n2), (u.1, eBy cB (sb_cap n2 cp) u.2)] t) (zB z) av) (zB z)) (hX : WX dC dI ad S (AZ ad z) s H locs) (hT : TB dC dI cB ad z [(a, eSB b n), (b, eBy cB cp f)] s H) (hq : n2 ≤ N) (hc : cp ≤ 2 * N)
    (kk : ∀ (b2 c2 : Nat) (f2 : Nat → Int32) (H1 : Heap) (locs1 : List Loc), WX dC dI ad S (AZ ad z) s H1 locs1 → TB dC dI cB ad z [(a, eSB b2 n2), (b2, eBy cB c2 f2)] s H1 → sb_Fit f2 → n2 ≤ c2 → cp ≤ c2 → c2 ≤ 2 * N → W p l e R s m args below meth c H1 locs1 (cells + 1) (sl + 2 * c2) Q (F0 m (pc + 3) ls (.ref a :: rest))) : W p l e R s m args below meth c H locs cells (sl + 2 * cp) Q (F0 m pc ls st0) := by
  refine kt_r hr hX hT (fun u q9 H1 locs1 hu hq9 hX1 hT1 => ?_)
  rw [hq9]
  refine W.widen (Nat.le_refl _) (show sl + 2 * cp + gm n2 cp ≤ sl + 2 * sb_cap n2 cp by have := gm_pot n2 cp; omega) ?_
  exact kk u.1 (sb_cap n2 cp) u.2 H1 locs1 hX1 hT1 hu (sb_cap_ge _ _) (sb_cap_gem _ _) (cap_b hq hc)
def GapQ (n cp : Nat) (u : Nat × Nat × Nat × (Nat → Int32)) : Prop := u.2.1 ≤ n + 1 ∧ u.2.1 ≤ u.2.2.1 ∧ cp ≤ u.2.2.1 ∧ gm (n + 1) cp + 2 * cp ≤ 2 * u.2.2.1 ∧ (u.2.2.1 = cp ∨ u.2.2.1 = sb_cap (n + 1) cp) ∧ sb_Fit u.2.2.2
theorem kt_gap (N : Nat) (hr : va_Run p l e R s m args below meth c H locs cells (sl + 2 * cp) 1 (gm (n + 1) cp) (F0 m pc ls st0) rest (va_Qv (GapQ n cp) (fun u t => PB dC dI cB z [(a, eSB u.1 u.2.1), (u.1, eBy cB u.2.2.1 u.2.2.2)] t) (zB z) av) (zB z)) (hX : WX dC dI ad S (AZ ad z) s H locs) (hT : TB dC dI cB ad z [(a, eSB b n), (b, eBy cB cp f)] s H) (hq : n + 1 ≤ N) (hc : cp ≤ 2 * N)
    (kk : ∀ (b2 n2 c2 : Nat) (f2 : Nat → Int32) (H1 : Heap) (locs1 : List Loc), WX dC dI ad S (AZ ad z) s H1 locs1 → TB dC dI cB ad z [(a, eSB b2 n2), (b2, eBy cB c2 f2)] s H1 → sb_Fit f2 → n2 ≤ n + 1 → n2 ≤ c2 → cp ≤ c2 → c2 ≤ 2 * N → W p l e R s m args below meth c H1 locs1 (cells + 1) (sl + 2 * c2) Q (F0 m (pc + 3) ls rest)) : W p l e R s m args below meth c H locs cells (sl + 2 * cp) Q (F0 m pc ls st0) := by
  refine kt_v hr hX hT (fun u H1 locs1 hu hX1 hT1 => ?_)
  obtain ⟨h1, h2, h3, h4, h5, h6⟩ := hu
  refine W.widen (Nat.le_refl _) (show sl + 2 * cp + gm (n + 1) cp ≤ sl + 2 * u.2.2.1 by omega) ?_
  refine kk u.1 u.2.1 u.2.2.1 u.2.2.2 H1 locs1 hX1 hT1 h6 h1 h2 h3 ?_
  rcases h5 with h5 | h5
  · rw [h5]; exact hc
  · rw [h5]; exact cap_b hq hc
end KTA
theorem dg2 {v : Nat} (h : v < 100) : sb_dg v ≤ 2 := by unfold sb_dg; (repeat' split) <;> omega
theorem dg6 {v : Nat} (h : v < 1000000) : sb_dg v ≤ 6 := by unfold sb_dg; (repeat' split) <;> omega
theorem gap_0 {b n cp : Nat} {f : Nat → Int32} (h0 : n = 0) (hnm : n ≤ cp) (h1 : 1 ≤ cp) (hf : sb_Fit f) : GapQ n cp (b, n, cp, f) :=
  ⟨by show n ≤ n + 1; omega, hnm, Nat.le_refl _, by show gm (n + 1) cp + 2 * cp ≤ 2 * cp; rw [gm, if_pos (by omega)]; omega, Or.inl rfl, hf⟩
theorem gap_1 {b n cp : Nat} {f : Nat → Int32} (hf : sb_Fit f) : GapQ n cp (b, n + 1, sb_cap (n + 1) cp, f) :=
  ⟨Nat.le_refl _, sb_cap_ge _ _, sb_cap_gem _ _, gm_pot _ _, Or.inr rfl, hf⟩
set_option maxHeartbeats 4000000 in
set_option maxRecDepth 100000 in
theorem m_X4_appendGap (l : Launch) (dC : Nat → ClassId) (dI : Nat → Nat → Nat) (cB : ClassId) (z : Nat) (a b n cp : Nat) (f : Nat → Int32) (hnm : n ≤ cp) (hm : cp ≤ 65536) (hf : sb_Fit f) (h1 : 1 ≤ cp) (hcap : sb_cap (n + 1) cp ≤ 65536) : Met l yX4_appendGap wsX4_appendGap ({ frames := 6, cells := 1, slots := (gm (n + 1) cp), locals := 126 } : Room) (va_Pc [.ref a] (PB dC dI cB z [(a, eSB b n), (b, eBy cB cp f)])) (va_Qv (GapQ n cp) (fun u t => PB dC dI cB z [(a, eSB u.1 u.2.1), (u.1, eBy cB u.2.2.1 u.2.2.2)] t) (zB z)) 1 (gm (n + 1) cp) (zB z) := by
  refine ofWF (cc := cX4_appendGap) (maxL := 1) (ret := none) (by decide +kernel) rfl ?_
  intro p e s m args below meth c s₁ B hml hv
  obtain ⟨rfl, hPB⟩ := hv
  have hx := B.exec
  have hb := B.bytes
  have hr := B.returns
  have hts := atoms_spec (ws := wsX4_appendGap) B.pre
  have hown : s.vm.findClass RX4 = some m.cls := findClass_of_methodNamed B.named
  have hlocks := B.notSynchronized
  have hB := WB.of hPB
  have hl := lv_entry ([.ref a]) (n := 1) (Nat.le_of_ble_eq_true rfl)
  rw [lg_entry_eq]
  generalize (lg_sl ([.ref a]) ++ List.replicate (1 - (lg_sl ([.ref a])).length) Slot.unset).toArray = ls at hl ⊢
  have hl : lv_has ls 1 [(0, .ref a)] := hl
  show W p l e ({ frames := 6, cells := 1, slots := (gm (n + 1) cp), locals := 126 } : Room) s m ([.ref a]).toArray below meth c s.heap [] 0 0 (MQ below (va_Qv (GapQ n cp) (fun u t => PB dC dI cB z [(a, eSB u.1 u.2.1), (u.1, eBy cB u.2.2.1 u.2.2.2)] t) (zB z)) ([.ref a]).toArray s 1 (gm (n + 1) cp) (zB z)) (F0 m 0 ls [])
  refine lv_aload_n hx hb dX4_appendGap_0 rfl (lv_at hl 0 rfl) ?_
  refine kx_cr (v := nI n) (va_runV (As := []) (rest := []) ⟨hx, hb, hml, hown, hts⟩ (m_J4_length_8abf5 l dC dI cB z ([(a, eSB b n), (b, eBy cB cp f)]) a b n rfl) (cwV 0 hts gX4_appendGap_J4_length_8abf5 rfl rfl rfl hdJ4_length_8abf5_0 ⟨Nat.le_of_ble_eq_true rfl, Nat.le_of_ble_eq_true rfl⟩) (hB.preV (ci := 1) (q := (RJ4, TJ4, 4)) rfl 0 rfl) rfl rfl hl.1 rfl (lv_room (Nat.le_of_ble_eq_true rfl)) dX4_appendGap_1 ⟨Nat.le_of_ble_eq_true rfl, Nat.le_of_ble_eq_true rfl⟩) (fun _ h => h) ?_
  refine kn_if_le (tgt := 14) hx hb (by omega) dX4_appendGap_4 (by decide) (fun k_1 => ?_) (fun k_1 => ?_)
  · skip
    have h0 := k_1
    exact W.widen (k := 1) (n := (gm (n + 1) cp)) (by simp) (by simp) (W.vret hx hb hr (fun t9 ht9 hW9 => ⟨⟨(b, n, cp, f), rfl, (gap_0 h0 hnm h1 hf), hB.P ht9 hW9⟩, hB.F ht9⟩) hB.L dX4_appendGap_14)
  · skip
    have h0 := k_1
    refine lv_aload_n hx hb dX4_appendGap_7 rfl (lv_at hl 0 rfl) ?_
    refine lv_bipush (v := nI 32) hx hb dX4_appendGap_8 (by decide) ?_
    refine kb_r (va_runV (As := [.int (nI 32)]) (rest := []) ⟨hx, hb, hml, hown, hts⟩ (m_J4_append_cf468 l dC dI cB z a b n cp f (by omega) (by omega) hf 32 (by omega) hcap) (cwV 1 hts gX4_appendGap_J4_append_cf468 rfl rfl rfl hdJ4_append_cf468_1 ⟨Nat.le_of_ble_eq_true rfl, Nat.le_of_ble_eq_true rfl⟩) (hB.preV (ci := 1) (q := (RJ4, TJ4, 4)) rfl 0 rfl) rfl rfl hl.1 rfl (lv_room (Nat.le_of_ble_eq_true rfl)) dX4_appendGap_10 ⟨by simp, by simp⟩) hB (fun u q9 H locs hu hq hB => ?_)
    obtain ⟨b3, f3⟩ := u
    rw [hq]
    replace hB : WB dC dI cB z [(a, eSB b3 (n + 1)), (b3, eBy cB (sb_cap (n + 1) cp) f3)] s H locs := hB
    have hf : sb_Fit f3 := hu
    refine lv_pop hx hb dX4_appendGap_13 rfl ?_
    exact W.widen (k := 1) (n := (gm (n + 1) cp)) (by simp) (by simp) (W.vret hx hb hr (fun t9 ht9 hW9 => ⟨⟨(b3, n + 1, sb_cap (n + 1) cp, f3), rfl, (gap_1 hf), hB.P ht9 hW9⟩, hB.F ht9⟩) hB.L dX4_appendGap_14)
end
section
set_option maxHeartbeats 4000000 in
set_option maxRecDepth 100000 in
theorem m_X2_told (l : Launch) (dC : Nat → ClassId) (dI : Nat → Nat → Nat) (cB : ClassId) (ad : Nat → Nat) (S : XS) (i : Nat) (hi : i < 8) (hrow : rowOK (S.1 i)) : Met l yX2_told wsX2_told ({ frames := 7, cells := 80, slots := 900, locals := 151 } : Room) (va_Pc [.ref (ad (3 * i))] (PT dC dI cB ad S)) (va_Qr (fun S1 : XS => S1 = S) (fun S1 _ t => PX dC dI ad S1 t) (AX ad)) 80 900 (AX ad) := by
  refine Met.ofW (cc := cX2_told) (maxL := 3) (ret := (some (.object "java/lang/String"))) pl_X2 rfl ?_
  intro p e s m args below meth c s₁ B hml hv
  obtain ⟨rfl, hPT⟩ := hv
  have hx := B.exec
  have hb := B.bytes
  have hr := B.returns
  have hts := atoms_spec (ws := wsX2_told) B.pre
  have hown : s.vm.findClass RX2 = some m.cls := findClass_of_methodNamed B.named
  have hlocks := B.notSynchronized
  have hin2 : ∀ w ∈ u_ws RX2 TX2 3, w ∈ wsX2_told := tu 1322 (by decide +kernel) rfl
  have hinJ4 : ∀ w ∈ u_ws RJ4 TJ4 4, w ∈ wsX2_told := tu 1326 (by decide +kernel) rfl
  have hN : NT s := hPT.2.2.2
  have hX := WX.ofT hPT
  have hT := TB.of hPT
  have hl := lv_entry ([.ref (ad (3 * i))]) (n := 3) (Nat.le_of_ble_eq_true rfl)
  rw [lg_entry_eq]
  generalize (lg_sl ([.ref (ad (3 * i))]) ++ List.replicate (3 - (lg_sl ([.ref (ad (3 * i))])).length) Slot.unset).toArray = ls at hl ⊢
  have hl : lv_has ls 3 [(0, .ref (ad (3 * i)))] := hl
  show W p l e ({ frames := 7, cells := 80, slots := 900, locals := 151 } : Room) s m ([.ref (ad (3 * i))]).toArray below meth c s.heap [] 0 0 (MQ below (va_Qr (fun S1 : XS => S1 = S) (fun S1 _ t => PX dC dI ad S1 t) (AX ad)) ([.ref (ad (3 * i))]).toArray s 80 900 (AX ad)) (F0 m 0 ls [])
  have hn := hrow.1
  refine kt_new hx hb hts hinJ4 hown (hts (.classLink RX2 62 RJ4) (tm 432 (by decide +kernel) rfl)) (hts (.instantiable RJ4 4) (tm 374 (by decide +kernel) rfl)) (hts (.initialized RJ4) (tm 328 (by decide +kernel) rfl)) hX hT (by show _ ≤ 80; omega) (by show _ ≤ 900; omega) dX2_told_0 (fun a9 H hX hT => ?_)
  refine lv_dup hx hb dX2_told_3 rfl ?_
  refine kt_v (va_runI (As := []) (rest := [.ref a9]) ⟨hx, hb, hml, hown, hts⟩ (m_J4_init_da8c8 l dC dI cB s.heap.size a9) (cwI 0 hts gX2_told_J4_init_da8c8 rfl rfl rfl (hts (.initialized yJ4_init_da8c8.cls) (tm 328 (by decide +kernel) rfl)) (hts (.methodLink RX2 64 yJ4_init_da8c8) (tm 433 (by decide +kernel) rfl)) (hts (.instanceMethod yJ4_init_da8c8) (tm 414 (by decide +kernel) rfl)) rfl (by decide +kernel) ⟨Nat.le_of_ble_eq_true rfl, Nat.le_of_ble_eq_true rfl⟩) (hT.preS hX) rfl rfl hl.1 rfl (lv_room (Nat.le_of_ble_eq_true rfl)) dX2_told_4 ⟨by show _ ≤ 80; omega, by show _ ≤ 900; omega⟩) hX hT (fun b0 H locs _ hX hT => ?_)
  refine W.widen (k := 2) (n := 4 + 2 * 16) (by omega) (by omega) ?_
  have hf : sb_Fit (fun _ => 0) := sb_fit0
  refine lv_astore_n (lv' := [(1, .ref a9), (0, .ref (ad (3 * i)))]) hx hb dX2_told_7 rfl hl (by decide) rfl (fun ls hl => ?_)
  refine lv_iconst (v := nI 0) hx hb dX2_told_8 (by decide) ?_
  refine lv_istore_n (lv' := [(2, .int (nI 0)), (1, .ref a9), (0, .ref (ad (3 * i)))]) hx hb dX2_told_9 rfl hl (by decide) rfl (fun ls hl => ?_)
  have loop10 : ∀ (fuel : Nat) (k : Nat) (b1 n1 c1 : Nat) (f1 : Nat → Int32) (hk : k ≤ (S.1 i).2.2) (hn1 : n1 ≤ 10 * k) (hnc : n1 ≤ c1 ∧ 16 ≤ c1 ∧ c1 ≤ 340) (hf : sb_Fit f1) (H : Heap) (locs : List Loc), (S.1 i).2.2 - k < fuel → WX dC dI ad S (AZ ad s.heap.size) s H locs → TB dC dI cB ad s.heap.size [(a9, eSB b1 n1), (b1, eBy cB c1 f1)] s H → ∀ ls : Array Slot, lv_has ls 3 [(0, .ref (ad (3 * i))), (1, .ref a9), (2, .int (nI k))] → W p l e ({ frames := 7, cells := 80, slots := 900, locals := 151 } : Room) s m ([.ref (ad (3 * i))]).toArray below meth c H locs (2 + 4 * k) (4 + 2 * c1) (MQ below (va_Qr (fun S1 : XS => S1 = S) (fun S1 _ t => PX dC dI ad S1 t) (AX ad)) ([.ref (ad (3 * i))]).toArray s 80 900 (AX ad)) (F0 m 10 ls []) := by
    intro fuel
    induction fuel with
    | zero => intro k b1 n1 c1 f1 hk hn1 hnc hf H locs hf9; exact absurd hf9 (Nat.not_lt_zero _)
    | succ fuel ih10 =>
      intro k b1 n1 c1 f1 hk hn1 hnc hf H locs hf9 hX hT ls hl
      refine lv_iload_n hx hb dX2_told_10 rfl (lv_at hl 2 rfl) ?_
      refine lv_aload_n hx hb dX2_told_11 rfl (lv_at hl 0 rfl) ?_
      refine kr_gn (n := (S.1 i).2.2) hx hb hts hin2 hown hX (by omega) rfl (hts (.fieldLink RX2 18 "Orderlattice$Row" "many" "I") (tm 27 (by decide +kernel) rfl)) dX2_told_12 ?_
      refine kn_icmp_ge (tgt := 51) hx hb (by omega) (by omega) dX2_told_15 (by decide) (fun k_1 => ?_) (fun k_1 => ?_)
      · skip
        refine lv_aload_n hx hb dX2_told_51 rfl (lv_at hl 1 rfl) ?_
        refine kt_r (va_runV (As := []) (rest := []) ⟨hx, hb, hml, hown, hts⟩ (m_J4_toString_0e30d l dC dI cB s.heap.size a9 b1 n1 c1 f1 (by omega) (by omega) hf) (cwV 0 hts gX2_told_J4_toString_0e30d rfl rfl rfl hdJ4_toString_0e30d_0 ⟨Nat.le_of_ble_eq_true rfl, Nat.le_of_ble_eq_true rfl⟩) (hT.preV hX (ci := 1) (q := (RJ4, TJ4, 4)) rfl 0 rfl) rfl rfl hl.1 rfl (lv_room (Nat.le_of_ble_eq_true rfl)) dX2_told_52 ⟨by show _ ≤ 80; omega, by show _ ≤ 900; omega⟩) hX hT (fun _ q9 H locs _ _ hX hT => ?_)
        exact W.widen (k := 80) (n := 900) (by omega) (by omega) (W.filt (fun locs1 hl1 => W.aret (v := .ref q9) hx hb hr (Or.inl ⟨_, rfl⟩) (Or.inr ⟨_, rfl⟩) (fun t9 ht9 hW9 => ⟨⟨S, _, rfl, rfl, hX.P ht9 hW9⟩, (hX.2.2.2.F ht9).X⟩) (free_X hX.2.2.2 hl1) dX2_told_55))
      · skip
        have hv9 := hrow.2 k (by omega)
        have hd1 := dg2 (v := (S.1 i).1 k) (by omega)
        have hd2 := dg6 (v := (S.1 i).2.1 k) (by omega)
        refine lv_aload_n hx hb dX2_told_18 rfl (lv_at hl 1 rfl) ?_
        have hcb := cap_b (q := n1 + 1) (cp := c1) (Q := 170) (by omega) (by omega)
        refine kt_gap (sl := 4) 170 (va_runSN (As := [.ref a9]) (rest := []) ⟨hx, hb, hml, hown, hts⟩ (m_X4_appendGap l dC dI cB s.heap.size a9 b1 n1 c1 f1 (by omega) (by omega) hf (by omega) (by omega)) ⟨va_cnB 1 hts gX2_told_X4_appendGap_n65 rfl rfl rfl hN.1 (hts (.initialized RX4) (tm 421 (by decide +kernel) rfl)) (by decide +kernel) ⟨Nat.le_of_ble_eq_true rfl, Nat.le_of_ble_eq_true rfl⟩, hts (.static yX4_appendGap) (by decide +kernel), trivial⟩ (hT.preS hX) rfl rfl hl.1 rfl (lv_room (Nat.le_of_ble_eq_true rfl)) dX2_told_19 ⟨by show _ ≤ 80; omega, by show _ ≤ 900; have := gm_pot (n1 + 1) c1; omega⟩) hX hT (by omega) (by omega) (fun b_2 n_2 c_2 f_2 H locs hX hT hf _ _ _ _ => ?_)
        refine lv_aload_n hx hb dX2_told_22 rfl (lv_at hl 1 rfl) ?_
        refine lv_aload_n hx hb dX2_told_23 rfl (lv_at hl 0 rfl) ?_
        refine lv_iload_n hx hb dX2_told_24 rfl (lv_at hl 2 rfl) ?_
        refine kx_cr (v := nI (((S.1 i).1) k)) (va_runV (As := [.int (nI k)]) (rest := [.ref a9]) ⟨hx, hb, hml, hown, hts⟩ (m_X2_valueOn l dC dI ad S i k (by omega) (by omega)) (cwV 1 hts gX2_told_X2_valueOn rfl rfl rfl hdX2_valueOn_1 ⟨Nat.le_of_ble_eq_true rfl, Nat.le_of_ble_eq_true rfl⟩) (hX.preRow (by omega)) rfl rfl hl.1 rfl (lv_room (Nat.le_of_ble_eq_true rfl)) dX2_told_25 ⟨by show _ ≤ 80; omega, by show _ ≤ 900; omega⟩) (fun _ h => h) ?_
        have hcb := cap_b (q := n_2 + sb_dg (((S.1 i).1) k)) (cp := c_2) (Q := 170) (by omega) (by omega)
        refine kt_app (sl := 4) (n2 := n_2 + sb_dg (((S.1 i).1) k)) 170 (va_runV (As := [.int (nI (((S.1 i).1) k))]) (rest := []) ⟨hx, hb, hml, hown, hts⟩ (m_J4_append_bf812 l dC dI cB s.heap.size a9 b_2 n_2 c_2 f_2 (by omega) (by omega) hf (((S.1 i).1) k) (by omega) (by omega)) (cwV 1 hts gX2_told_J4_append_bf812 rfl rfl rfl hdJ4_append_bf812_1 ⟨Nat.le_of_ble_eq_true rfl, Nat.le_of_ble_eq_true rfl⟩) (hT.preV hX (ci := 1) (q := (RJ4, TJ4, 4)) rfl 0 rfl) rfl rfl hl.1 rfl (lv_room (Nat.le_of_ble_eq_true rfl)) dX2_told_28 ⟨by show _ ≤ 80; omega, by show _ ≤ 900; have := gm_pot (n_2 + sb_dg (((S.1 i).1) k)) c_2; omega⟩) hX hT (by omega) (by omega) (fun b_3 c_3 f_3 H locs hX hT hf _ _ _ => ?_)
        refine lv_bipush (v := nI 46) hx hb dX2_told_31 (by decide) ?_
        have hcb := cap_b (q := n_2 + sb_dg (((S.1 i).1) k) + 1) (cp := c_3) (Q := 170) (by omega) (by omega)
        refine kt_app (sl := 4) (n2 := n_2 + sb_dg (((S.1 i).1) k) + 1) 170 (va_runV (As := [.int (nI 46)]) (rest := []) ⟨hx, hb, hml, hown, hts⟩ (m_J4_append_cf468 l dC dI cB s.heap.size a9 b_3 (n_2 + sb_dg (((S.1 i).1) k)) c_3 f_3 (by omega) (by omega) hf 46 (by omega) (by omega)) (cwV 1 hts gX2_told_J4_append_cf468 rfl rfl rfl hdJ4_append_cf468_1 ⟨Nat.le_of_ble_eq_true rfl, Nat.le_of_ble_eq_true rfl⟩) (hT.preV hX (ci := 1) (q := (RJ4, TJ4, 4)) rfl 0 rfl) rfl rfl hl.1 rfl (lv_room (Nat.le_of_ble_eq_true rfl)) dX2_told_33 ⟨by show _ ≤ 80; omega, by show _ ≤ 900; have := gm_pot (n_2 + sb_dg (((S.1 i).1) k) + 1) c_3; omega⟩) hX hT (by omega) (by omega) (fun b_4 c_4 f_4 H locs hX hT hf _ _ _ => ?_)
        refine lv_aload_n hx hb dX2_told_36 rfl (lv_at hl 0 rfl) ?_
        refine lv_iload_n hx hb dX2_told_37 rfl (lv_at hl 2 rfl) ?_
        refine kx_cr (v := nI (((S.1 i).2.1) k)) (va_runV (As := [.int (nI k)]) (rest := [.ref a9]) ⟨hx, hb, hml, hown, hts⟩ (m_X2_markOn l dC dI ad S i k (by omega) (by omega)) (cwV 1 hts gX2_told_X2_markOn rfl rfl rfl hdX2_markOn_1 ⟨Nat.le_of_ble_eq_true rfl, Nat.le_of_ble_eq_true rfl⟩) (hX.preRow (by omega)) rfl rfl hl.1 rfl (lv_room (Nat.le_of_ble_eq_true rfl)) dX2_told_38 ⟨by show _ ≤ 80; omega, by show _ ≤ 900; omega⟩) (fun _ h => h) ?_
        have hcb := cap_b (q := n_2 + sb_dg (((S.1 i).1) k) + 1 + sb_dg (((S.1 i).2.1) k)) (cp := c_4) (Q := 170) (by omega) (by omega)
        refine kt_app (sl := 4) (n2 := n_2 + sb_dg (((S.1 i).1) k) + 1 + sb_dg (((S.1 i).2.1) k)) 170 (va_runV (As := [.int (nI (((S.1 i).2.1) k))]) (rest := []) ⟨hx, hb, hml, hown, hts⟩ (m_J4_append_bf812 l dC dI cB s.heap.size a9 b_4 (n_2 + sb_dg (((S.1 i).1) k) + 1) c_4 f_4 (by omega) (by omega) hf (((S.1 i).2.1) k) (by omega) (by omega)) (cwV 1 hts gX2_told_J4_append_bf812 rfl rfl rfl hdJ4_append_bf812_1 ⟨Nat.le_of_ble_eq_true rfl, Nat.le_of_ble_eq_true rfl⟩) (hT.preV hX (ci := 1) (q := (RJ4, TJ4, 4)) rfl 0 rfl) rfl rfl hl.1 rfl (lv_room (Nat.le_of_ble_eq_true rfl)) dX2_told_41 ⟨by show _ ≤ 80; omega, by show _ ≤ 900; have := gm_pot (n_2 + sb_dg (((S.1 i).1) k) + 1 + sb_dg (((S.1 i).2.1) k)) c_4; omega⟩) hX hT (by omega) (by omega) (fun b_5 c_5 f_5 H locs hX hT hf _ _ _ => ?_)
        refine lv_pop hx hb dX2_told_44 rfl ?_
        refine lv_iinc (v := nI (k + 1)) (lv' := [(2, .int (nI (k + 1))), (0, .ref (ad (3 * i))), (1, .ref a9)]) hx hb dX2_told_45 hl (k := 2) rfl (nI_1 k) (by decide) rfl (fun ls hl => ?_)
        refine lv_goto (tgt := 10) hx hb dX2_told_48 (by decide) ?_
        refine W.widen (k := 2 + 4 * (k + 1)) (n := 4 + 2 * c_5) (by omega) (by omega) ?_
        exact ih10  (k + 1) b_5 (n_2 + sb_dg (((S.1 i).1) k) + 1 + sb_dg (((S.1 i).2.1) k)) c_5 f_5 (by omega) (by omega) (by omega) hf _ _ (by omega) hX hT _ (lv_sub hl [1, 2, 0] rfl)
  refine W.widen (k := 2 + 4 * 0) (n := 4 + 2 * 16) (by omega) (by omega) ?_
  exact loop10 ((S.1 i).2.2 + 1) 0 b0 0 16 (fun _ => 0) (by omega) (by omega) (by omega) hf _ _ (by omega) hX hT _ (lv_sub hl [2, 1, 0] rfl)
set_option maxHeartbeats 4000000 in
set_option maxRecDepth 100000 in
theorem m_X1_told (l : Launch) (dC : Nat → ClassId) (dI : Nat → Nat → Nat) (cB : ClassId) (ad : Nat → Nat) (S : XS) (j : Nat) (hj : j < 6) (ho : ordOK (S.2.1 j)) : Met l yX1_told wsX1_told ({ frames := 7, cells := 80, slots := 900, locals := 151 } : Room) (va_Pc [.ref (ad (24 + 5 * j))] (PT dC dI cB ad S)) (va_Qr (fun S1 : XS => S1 = S) (fun S1 _ t => PX dC dI ad S1 t) (AX ad)) 80 900 (AX ad) := by
  refine Met.ofW (cc := cX1_told) (maxL := 3) (ret := (some (.object "java/lang/String"))) pl_X1 rfl ?_
  intro p e s m args below meth c s₁ B hml hv
  obtain ⟨rfl, hPT⟩ := hv
  have hx := B.exec
  have hb := B.bytes
  have hr := B.returns
  have hts := atoms_spec (ws := wsX1_told) B.pre
  have hown : s.vm.findClass RX1 = some m.cls := findClass_of_methodNamed B.named
  have hlocks := B.notSynchronized
  have hin1 : ∀ w ∈ u_ws RX1 TX1 6, w ∈ wsX1_told := tu 1324 (by decide +kernel) rfl
  have hinJ4 : ∀ w ∈ u_ws RJ4 TJ4 4, w ∈ wsX1_told := tu 1326 (by decide +kernel) rfl
  have hN : NT s := hPT.2.2.2
  have hX := WX.ofT hPT
  have hT := TB.of hPT
  have hl := lv_entry ([.ref (ad (24 + 5 * j))]) (n := 3) (Nat.le_of_ble_eq_true rfl)
  rw [lg_entry_eq]
  generalize (lg_sl ([.ref (ad (24 + 5 * j))]) ++ List.replicate (3 - (lg_sl ([.ref (ad (24 + 5 * j))])).length) Slot.unset).toArray = ls at hl ⊢
  have hl : lv_has ls 3 [(0, .ref (ad (24 + 5 * j)))] := hl
  show W p l e ({ frames := 7, cells := 80, slots := 900, locals := 151 } : Room) s m ([.ref (ad (24 + 5 * j))]).toArray below meth c s.heap [] 0 0 (MQ below (va_Qr (fun S1 : XS => S1 = S) (fun S1 _ t => PX dC dI ad S1 t) (AX ad)) ([.ref (ad (24 + 5 * j))]).toArray s 80 900 (AX ad)) (F0 m 0 ls [])
  have hn := ho.1.1
  refine kt_new hx hb hts hinJ4 hown (hts (.classLink RX1 62 RJ4) (tm 412 (by decide +kernel) rfl)) (hts (.instantiable RJ4 4) (tm 374 (by decide +kernel) rfl)) (hts (.initialized RJ4) (tm 328 (by decide +kernel) rfl)) hX hT (by show _ ≤ 80; omega) (by show _ ≤ 900; omega) dX1_told_0 (fun a9 H hX hT => ?_)
  refine lv_dup hx hb dX1_told_3 rfl ?_
  refine kt_v (va_runI (As := []) (rest := [.ref a9]) ⟨hx, hb, hml, hown, hts⟩ (m_J4_init_da8c8 l dC dI cB s.heap.size a9) (cwI 0 hts gX1_told_J4_init_da8c8 rfl rfl rfl (hts (.initialized yJ4_init_da8c8.cls) (tm 328 (by decide +kernel) rfl)) (hts (.methodLink RX1 64 yJ4_init_da8c8) (tm 413 (by decide +kernel) rfl)) (hts (.instanceMethod yJ4_init_da8c8) (tm 414 (by decide +kernel) rfl)) rfl (by decide +kernel) ⟨Nat.le_of_ble_eq_true rfl, Nat.le_of_ble_eq_true rfl⟩) (hT.preS hX) rfl rfl hl.1 rfl (lv_room (Nat.le_of_ble_eq_true rfl)) dX1_told_4 ⟨by show _ ≤ 80; omega, by show _ ≤ 900; omega⟩) hX hT (fun b0 H locs _ hX hT => ?_)
  refine W.widen (k := 2) (n := 4 + 2 * 16) (by omega) (by omega) ?_
  have hf : sb_Fit (fun _ => 0) := sb_fit0
  refine lv_astore_n (lv' := [(1, .ref a9), (0, .ref (ad (24 + 5 * j)))]) hx hb dX1_told_7 rfl hl (by decide) rfl (fun ls hl => ?_)
  refine lv_iconst (v := nI 0) hx hb dX1_told_8 (by decide) ?_
  refine lv_istore_n (lv' := [(2, .int (nI 0)), (1, .ref a9), (0, .ref (ad (24 + 5 * j)))]) hx hb dX1_told_9 rfl hl (by decide) rfl (fun ls hl => ?_)
  have loop10 : ∀ (fuel : Nat) (k : Nat) (b1 n1 c1 : Nat) (f1 : Nat → Int32) (hk : k ≤ (S.2.1 j).2.2.2.2.1) (hn1 : n1 ≤ 10 * k) (hnc : n1 ≤ c1 ∧ 16 ≤ c1 ∧ c1 ≤ 340) (hf : sb_Fit f1) (H : Heap) (locs : List Loc), (S.2.1 j).2.2.2.2.1 - k < fuel → WX dC dI ad S (AZ ad s.heap.size) s H locs → TB dC dI cB ad s.heap.size [(a9, eSB b1 n1), (b1, eBy cB c1 f1)] s H → ∀ ls : Array Slot, lv_has ls 3 [(0, .ref (ad (24 + 5 * j))), (1, .ref a9), (2, .int (nI k))] → W p l e ({ frames := 7, cells := 80, slots := 900, locals := 151 } : Room) s m ([.ref (ad (24 + 5 * j))]).toArray below meth c H locs (2 + 4 * k) (4 + 2 * c1) (MQ below (va_Qr (fun S1 : XS => S1 = S) (fun S1 _ t => PX dC dI ad S1 t) (AX ad)) ([.ref (ad (24 + 5 * j))]).toArray s 80 900 (AX ad)) (F0 m 10 ls []) := by
    intro fuel
    induction fuel with
    | zero => intro k b1 n1 c1 f1 hk hn1 hnc hf H locs hf9; exact absurd hf9 (Nat.not_lt_zero _)
    | succ fuel ih10 =>
      intro k b1 n1 c1 f1 hk hn1 hnc hf H locs hf9 hX hT ls hl
      refine lv_iload_n hx hb dX1_told_10 rfl (lv_at hl 2 rfl) ?_
      refine lv_aload_n hx hb dX1_told_11 rfl (lv_at hl 0 rfl) ?_
      refine ko_gn (n := (S.2.1 j).2.2.2.2.1) hx hb hts hin1 hown hX (by omega) rfl (hts (.fieldLink RX1 26 "Orderlattice$Order" "many" "I") (tm 37 (by decide +kernel) rfl)) dX1_told_12 ?_
      refine kn_icmp_ge (tgt := 56) hx hb (by omega) (by omega) dX1_told_15 (by decide) (fun k_1 => ?_) (fun k_1 => ?_)
      · skip
        refine lv_aload_n hx hb dX1_told_56 rfl (lv_at hl 1 rfl) ?_
        refine kt_r (va_runV (As := []) (rest := []) ⟨hx, hb, hml, hown, hts⟩ (m_J4_toString_0e30d l dC dI cB s.heap.size a9 b1 n1 c1 f1 (by omega) (by omega) hf) (cwV 0 hts gX1_told_J4_toString_0e30d rfl rfl rfl hdJ4_toString_0e30d_0 ⟨Nat.le_of_ble_eq_true rfl, Nat.le_of_ble_eq_true rfl⟩) (hT.preV hX (ci := 1) (q := (RJ4, TJ4, 4)) rfl 0 rfl) rfl rfl hl.1 rfl (lv_room (Nat.le_of_ble_eq_true rfl)) dX1_told_57 ⟨by show _ ≤ 80; omega, by show _ ≤ 900; omega⟩) hX hT (fun _ q9 H locs _ _ hX hT => ?_)
        exact W.widen (k := 80) (n := 900) (by omega) (by omega) (W.filt (fun locs1 hl1 => W.aret (v := .ref q9) hx hb hr (Or.inl ⟨_, rfl⟩) (Or.inr ⟨_, rfl⟩) (fun t9 ht9 hW9 => ⟨⟨S, _, rfl, rfl, hX.P ht9 hW9⟩, (hX.2.2.2.F ht9).X⟩) (free_X hX.2.2.2 hl1) dX1_told_60))
      · skip
        have hk9 := ho.1.2 k (by omega)
        have hd1 := dg2 (v := (S.2.1 j).1 k) (by omega)
        refine lv_aload_n hx hb dX1_told_18 rfl (lv_at hl 1 rfl) ?_
        have hcb := cap_b (q := n1 + 1) (cp := c1) (Q := 170) (by omega) (by omega)
        refine kt_gap (sl := 4) 170 (va_runSN (As := [.ref a9]) (rest := []) ⟨hx, hb, hml, hown, hts⟩ (m_X4_appendGap l dC dI cB s.heap.size a9 b1 n1 c1 f1 (by omega) (by omega) hf (by omega) (by omega)) ⟨va_cnB 1 hts gX1_told_X4_appendGap_n65 rfl rfl rfl hN.2 (hts (.initialized RX4) (tm 421 (by decide +kernel) rfl)) (by decide +kernel) ⟨Nat.le_of_ble_eq_true rfl, Nat.le_of_ble_eq_true rfl⟩, hts (.static yX4_appendGap) (by decide +kernel), trivial⟩ (hT.preS hX) rfl rfl hl.1 rfl (lv_room (Nat.le_of_ble_eq_true rfl)) dX1_told_19 ⟨by show _ ≤ 80; omega, by show _ ≤ 900; have := gm_pot (n1 + 1) c1; omega⟩) hX hT (by omega) (by omega) (fun b_2 n_2 c_2 f_2 H locs hX hT hf _ _ _ _ => ?_)
        refine lv_aload_n hx hb dX1_told_22 rfl (lv_at hl 1 rfl) ?_
        refine lv_aload_n hx hb dX1_told_23 rfl (lv_at hl 0 rfl) ?_
        refine lv_iload_n hx hb dX1_told_24 rfl (lv_at hl 2 rfl) ?_
        refine kx_cr (v := nI (((S.2.1 j).1) k)) (va_runV (As := [.int (nI k)]) (rest := [.ref a9]) ⟨hx, hb, hml, hown, hts⟩ (m_X1_keyOn l dC dI ad S j k (by omega) (by omega)) (cwV 1 hts gX1_told_X1_keyOn rfl rfl rfl hdX1_keyOn_1 ⟨Nat.le_of_ble_eq_true rfl, Nat.le_of_ble_eq_true rfl⟩) (hX.preOrd (by omega)) rfl rfl hl.1 rfl (lv_room (Nat.le_of_ble_eq_true rfl)) dX1_told_25 ⟨by show _ ≤ 80; omega, by show _ ≤ 900; omega⟩) (fun _ h => h) ?_
        have hcb := cap_b (q := n_2 + sb_dg (((S.2.1 j).1) k)) (cp := c_2) (Q := 170) (by omega) (by omega)
        refine kt_app (sl := 4) (n2 := n_2 + sb_dg (((S.2.1 j).1) k)) 170 (va_runV (As := [.int (nI (((S.2.1 j).1) k))]) (rest := []) ⟨hx, hb, hml, hown, hts⟩ (m_J4_append_bf812 l dC dI cB s.heap.size a9 b_2 n_2 c_2 f_2 (by omega) (by omega) hf (((S.2.1 j).1) k) (by omega) (by omega)) (cwV 1 hts gX1_told_J4_append_bf812 rfl rfl rfl hdJ4_append_bf812_1 ⟨Nat.le_of_ble_eq_true rfl, Nat.le_of_ble_eq_true rfl⟩) (hT.preV hX (ci := 1) (q := (RJ4, TJ4, 4)) rfl 0 rfl) rfl rfl hl.1 rfl (lv_room (Nat.le_of_ble_eq_true rfl)) dX1_told_28 ⟨by show _ ≤ 80; omega, by show _ ≤ 900; have := gm_pot (n_2 + sb_dg (((S.2.1 j).1) k)) c_2; omega⟩) hX hT (by omega) (by omega) (fun b_3 c_3 f_3 H locs hX hT hf _ _ _ => ?_)
        refine lv_aload_n hx hb dX1_told_31 rfl (lv_at hl 0 rfl) ?_
        refine lv_iload_n hx hb dX1_told_32 rfl (lv_at hl 2 rfl) ?_
        refine kx_cr (v := bI (((S.2.1 j).2.1) k)) (va_runV (As := [.int (nI k)]) (rest := [.ref a9]) ⟨hx, hb, hml, hown, hts⟩ (m_X1_isDownOn l dC dI ad S j k (by omega) (by omega)) (cwV 1 hts gX1_told_X1_isDownOn rfl rfl rfl hdX1_isDownOn_1 ⟨Nat.le_of_ble_eq_true rfl, Nat.le_of_ble_eq_true rfl⟩) (hX.preOrd (by omega)) rfl rfl hl.1 rfl (lv_room (Nat.le_of_ble_eq_true rfl)) dX1_told_33 ⟨by show _ ≤ 80; omega, by show _ ≤ 900; omega⟩) (fun _ h => h) ?_
        refine kb_if_eq (tgt := 44) hx hb dX1_told_36 (by decide) (fun k_4 => ?_) (fun k_4 => ?_)
        · skip
          refine lv_bipush (v := nI 43) hx hb dX1_told_44 (by decide) ?_
          have hcb := cap_b (q := n_2 + sb_dg (((S.2.1 j).1) k) + 1) (cp := c_3) (Q := 170) (by omega) (by omega)
          refine kt_app (sl := 4) (n2 := n_2 + sb_dg (((S.2.1 j).1) k) + 1) 170 (va_runV (As := [.int (nI 43)]) (rest := []) ⟨hx, hb, hml, hown, hts⟩ (m_J4_append_cf468 l dC dI cB s.heap.size a9 b_3 (n_2 + sb_dg (((S.2.1 j).1) k)) c_3 f_3 (by omega) (by omega) hf 43 (by omega) (by omega)) (cwV 1 hts gX1_told_J4_append_cf468 rfl rfl rfl hdJ4_append_cf468_1 ⟨Nat.le_of_ble_eq_true rfl, Nat.le_of_ble_eq_true rfl⟩) (hT.preV hX (ci := 1) (q := (RJ4, TJ4, 4)) rfl 0 rfl) rfl rfl hl.1 rfl (lv_room (Nat.le_of_ble_eq_true rfl)) dX1_told_46 ⟨by show _ ≤ 80; omega, by show _ ≤ 900; have := gm_pot (n_2 + sb_dg (((S.2.1 j).1) k) + 1) c_3; omega⟩) hX hT (by omega) (by omega) (fun b_5 c_5 f_5 H locs hX hT hf _ _ _ => ?_)
          refine lv_pop hx hb dX1_told_49 rfl ?_
          refine lv_iinc (v := nI (k + 1)) (lv' := [(2, .int (nI (k + 1))), (0, .ref (ad (24 + 5 * j))), (1, .ref a9)]) hx hb dX1_told_50 hl (k := 2) rfl (nI_1 k) (by decide) rfl (fun ls hl => ?_)
          refine lv_goto (tgt := 10) hx hb dX1_told_53 (by decide) ?_
          refine W.widen (k := 2 + 4 * (k + 1)) (n := 4 + 2 * c_5) (by omega) (by omega) ?_
          exact ih10  (k + 1) b_5 (n_2 + sb_dg (((S.2.1 j).1) k) + 1) c_5 f_5 (by omega) (by omega) (by omega) hf _ _ (by omega) hX hT _ (lv_sub hl [1, 2, 0] rfl)
        · skip
          refine lv_bipush (v := nI 45) hx hb dX1_told_39 (by decide) ?_
          refine lv_goto (tgt := 46) hx hb dX1_told_41 (by decide) ?_
          have hcb := cap_b (q := n_2 + sb_dg (((S.2.1 j).1) k) + 1) (cp := c_3) (Q := 170) (by omega) (by omega)
          refine kt_app (sl := 4) (n2 := n_2 + sb_dg (((S.2.1 j).1) k) + 1) 170 (va_runV (As := [.int (nI 45)]) (rest := []) ⟨hx, hb, hml, hown, hts⟩ (m_J4_append_cf468 l dC dI cB s.heap.size a9 b_3 (n_2 + sb_dg (((S.2.1 j).1) k)) c_3 f_3 (by omega) (by omega) hf 45 (by omega) (by omega)) (cwV 1 hts gX1_told_J4_append_cf468 rfl rfl rfl hdJ4_append_cf468_1 ⟨Nat.le_of_ble_eq_true rfl, Nat.le_of_ble_eq_true rfl⟩) (hT.preV hX (ci := 1) (q := (RJ4, TJ4, 4)) rfl 0 rfl) rfl rfl hl.1 rfl (lv_room (Nat.le_of_ble_eq_true rfl)) dX1_told_46 ⟨by show _ ≤ 80; omega, by show _ ≤ 900; have := gm_pot (n_2 + sb_dg (((S.2.1 j).1) k) + 1) c_3; omega⟩) hX hT (by omega) (by omega) (fun b_6 c_6 f_6 H locs hX hT hf _ _ _ => ?_)
          refine lv_pop hx hb dX1_told_49 rfl ?_
          refine lv_iinc (v := nI (k + 1)) (lv' := [(2, .int (nI (k + 1))), (0, .ref (ad (24 + 5 * j))), (1, .ref a9)]) hx hb dX1_told_50 hl (k := 2) rfl (nI_1 k) (by decide) rfl (fun ls hl => ?_)
          refine lv_goto (tgt := 10) hx hb dX1_told_53 (by decide) ?_
          refine W.widen (k := 2 + 4 * (k + 1)) (n := 4 + 2 * c_6) (by omega) (by omega) ?_
          exact ih10  (k + 1) b_6 (n_2 + sb_dg (((S.2.1 j).1) k) + 1) c_6 f_6 (by omega) (by omega) (by omega) hf _ _ (by omega) hX hT _ (lv_sub hl [1, 2, 0] rfl)
  refine W.widen (k := 2 + 4 * 0) (n := 4 + 2 * 16) (by omega) (by omega) ?_
  exact loop10 ((S.2.1 j).2.2.2.2.1 + 1) 0 b0 0 16 (fun _ => 0) (by omega) (by omega) (by omega) hf _ _ (by omega) hX hT _ (lv_sub hl [2, 1, 0] rfl)
set_option maxHeartbeats 4000000 in
set_option maxRecDepth 100000 in
theorem m_X4_text (l : Launch) (dC : Nat → ClassId) (dI : Nat → Nat → Nat) (cB : ClassId) (ad : Nat → Nat) (S : XS) (i : Nat) (hi : i < 3) (hI : InvX S) : Met l yX4_text wsX4_text ({ frames := 8, cells := 80, slots := 900, locals := 173 } : Room) (va_Pc [.ref (ad 57), .int (nI i)] (PT dC dI cB ad S)) (va_Qr (fun S1 : XS => S1 = S) (fun S1 _ t => PX dC dI ad S1 t) (AX ad)) 80 900 (AX ad) := by
  refine Met.ofW (cc := cX4_text) (maxL := 2) (ret := (some (.object "java/lang/String"))) pl_X4 rfl ?_
  intro p e s m args below meth c s₁ B hml hv
  obtain ⟨rfl, hPT⟩ := hv
  have hx := B.exec
  have hb := B.bytes
  have hr := B.returns
  have hts := atoms_spec (ws := wsX4_text) B.pre
  have hown : s.vm.findClass RX4 = some m.cls := findClass_of_methodNamed B.named
  have hlocks := B.notSynchronized
  have hN : NT s := hPT.2.2.2
  have hX := WX.ofT hPT
  have hT := TB.of hPT
  have hl := lv_entry ([.ref (ad 57), .int (nI i)]) (n := 2) (Nat.le_of_ble_eq_true rfl)
  rw [lg_entry_eq]
  generalize (lg_sl ([.ref (ad 57), .int (nI i)]) ++ List.replicate (2 - (lg_sl ([.ref (ad 57), .int (nI i)])).length) Slot.unset).toArray = ls at hl ⊢
  have hl : lv_has ls 2 [(0, .ref (ad 57)), (1, .int (nI i))] := hl
  show W p l e ({ frames := 8, cells := 80, slots := 900, locals := 173 } : Room) s m ([.ref (ad 57), .int (nI i)]).toArray below meth c s.heap [] 0 0 (MQ below (va_Qr (fun S1 : XS => S1 = S) (fun S1 _ t => PX dC dI ad S1 t) (AX ad)) ([.ref (ad 57), .int (nI i)]).toArray s 80 900 (AX ad)) (F0 m 0 ls [])
  refine lv_aload_n hx hb dX4_text_0 rfl (lv_at hl 0 rfl) ?_
  refine lv_iload_n hx hb dX4_text_1 rfl (lv_at hl 1 rfl) ?_
  refine va_csr (va_Run.run (va_runV (As := [.int (nI i)]) (rest := []) ⟨hx, hb, hml, hown, hts⟩ (m_X4_rowAt l dC dI ad S i (by omega)) (cwV 1 hts gX4_text_X4_rowAt rfl rfl rfl hdX4_rowAt_1 ⟨Nat.le_of_ble_eq_true rfl, Nat.le_of_ble_eq_true rfl⟩) (hX.preTop 57 6 (by decide) (by decide) rfl rfl) rfl rfl hl.1 rfl (lv_room (Nat.le_of_ble_eq_true rfl)) dX4_text_2 ⟨by show _ ≤ 80; omega, by show _ ≤ 900; omega⟩)) (fun k_ hk_ => ?_)
  rw [hk_]
  refine kt_t (va_runV (As := []) (rest := []) ⟨hx, hb, hml, hown, hts⟩ (m_X2_told l dC dI cB ad S i (by omega) (hI.1 i (by omega))) (cwV 0 hts gX4_text_X2_told rfl rfl rfl hdX2_told_0 ⟨Nat.le_of_ble_eq_true rfl, Nat.le_of_ble_eq_true rfl⟩) (hT.preRow hX hN (by omega)) rfl rfl hl.1 rfl (lv_room (Nat.le_of_ble_eq_true rfl)) dX4_text_5 ⟨by show 0 + _ ≤ _; simp, by show 0 + _ ≤ _; simp⟩) hX hT (fun S1 q9 H locs hS9 hX hT => ?_)
  rw [hS9] at hX
  exact W.widen (k := 80) (n := 900) (by omega) (by omega) (W.filt (fun locs1 hl1 => W.aret (v := .ref q9) hx hb hr (Or.inl ⟨_, rfl⟩) (Or.inr ⟨_, rfl⟩) (fun t9 ht9 hW9 => ⟨⟨S, _, rfl, rfl, hX.P ht9 hW9⟩, (hX.2.2.2.F ht9).X⟩) (free_X hX.2.2.2 hl1) dX4_text_8))
set_option maxHeartbeats 4000000 in
set_option maxRecDepth 100000 in
theorem m_X4_orderText (l : Launch) (dC : Nat → ClassId) (dI : Nat → Nat → Nat) (cB : ClassId) (ad : Nat → Nat) (S : XS) (j : Nat) (hj : j < 4) (hI : InvX S) : Met l yX4_orderText wsX4_orderText ({ frames := 8, cells := 80, slots := 900, locals := 173 } : Room) (va_Pc [.ref (ad 57), .int (nI j)] (PT dC dI cB ad S)) (va_Qr (fun S1 : XS => S1 = S) (fun S1 _ t => PX dC dI ad S1 t) (AX ad)) 80 900 (AX ad) := by
  refine Met.ofW (cc := cX4_orderText) (maxL := 2) (ret := (some (.object "java/lang/String"))) pl_X4 rfl ?_
  intro p e s m args below meth c s₁ B hml hv
  obtain ⟨rfl, hPT⟩ := hv
  have hx := B.exec
  have hb := B.bytes
  have hr := B.returns
  have hts := atoms_spec (ws := wsX4_orderText) B.pre
  have hown : s.vm.findClass RX4 = some m.cls := findClass_of_methodNamed B.named
  have hlocks := B.notSynchronized
  have hN : NT s := hPT.2.2.2
  have hX := WX.ofT hPT
  have hT := TB.of hPT
  have hl := lv_entry ([.ref (ad 57), .int (nI j)]) (n := 2) (Nat.le_of_ble_eq_true rfl)
  rw [lg_entry_eq]
  generalize (lg_sl ([.ref (ad 57), .int (nI j)]) ++ List.replicate (2 - (lg_sl ([.ref (ad 57), .int (nI j)])).length) Slot.unset).toArray = ls at hl ⊢
  have hl : lv_has ls 2 [(0, .ref (ad 57)), (1, .int (nI j))] := hl
  show W p l e ({ frames := 8, cells := 80, slots := 900, locals := 173 } : Room) s m ([.ref (ad 57), .int (nI j)]).toArray below meth c s.heap [] 0 0 (MQ below (va_Qr (fun S1 : XS => S1 = S) (fun S1 _ t => PX dC dI ad S1 t) (AX ad)) ([.ref (ad 57), .int (nI j)]).toArray s 80 900 (AX ad)) (F0 m 0 ls [])
  refine lv_aload_n hx hb dX4_orderText_0 rfl (lv_at hl 0 rfl) ?_
  refine lv_iload_n hx hb dX4_orderText_1 rfl (lv_at hl 1 rfl) ?_
  refine va_csr (va_Run.run (va_runV (As := [.int (nI j)]) (rest := []) ⟨hx, hb, hml, hown, hts⟩ (m_X4_orderAt l dC dI ad S j (by omega)) (cwV 1 hts gX4_orderText_X4_orderAt rfl rfl rfl hdX4_orderAt_1 ⟨Nat.le_of_ble_eq_true rfl, Nat.le_of_ble_eq_true rfl⟩) (hX.preTop 57 6 (by decide) (by decide) rfl rfl) rfl rfl hl.1 rfl (lv_room (Nat.le_of_ble_eq_true rfl)) dX4_orderText_2 ⟨by show _ ≤ 80; omega, by show _ ≤ 900; omega⟩)) (fun k_ hk_ => ?_)
  rw [hk_]
  refine kt_t (va_runV (As := []) (rest := []) ⟨hx, hb, hml, hown, hts⟩ (m_X1_told l dC dI cB ad S j (by omega) (hI.2 j (by omega))) (cwV 0 hts gX4_orderText_X1_told rfl rfl rfl hdX1_told_0 ⟨Nat.le_of_ble_eq_true rfl, Nat.le_of_ble_eq_true rfl⟩) (hT.preOrd hX hN (by omega)) rfl rfl hl.1 rfl (lv_room (Nat.le_of_ble_eq_true rfl)) dX4_orderText_5 ⟨by show 0 + _ ≤ _; simp, by show 0 + _ ≤ _; simp⟩) hX hT (fun S1 q9 H locs hS9 hX hT => ?_)
  rw [hS9] at hX
  exact W.widen (k := 80) (n := 900) (by omega) (by omega) (W.filt (fun locs1 hl1 => W.aret (v := .ref q9) hx hb hr (Or.inl ⟨_, rfl⟩) (Or.inr ⟨_, rfl⟩) (fun t9 ht9 hW9 => ⟨⟨S, _, rfl, rfl, hX.P ht9 hW9⟩, (hX.2.2.2.F ht9).X⟩) (free_X hX.2.2.2 hl1) dX4_orderText_8))
end
section
/-! lots and ranks told -/
def PL (dC : Nat → ClassId) (dI : Nat → Nat → Nat) (cB : ClassId) (ad : Nat → Nat) (S : XS) (z a b n cp : Nat) (f : Nat → Int32) (U : State) : Prop := PX dC dI ad S U ∧ PB dC dI cB z [(a, eSB b n), (b, eBy cB cp f)] U ∧ ZBA (AZ ad z) U U.heap ∧ (∀ q, AX ad q → q < z) ∧ NT U
def LotQ (n cp : Nat) (u : Nat × Nat × Nat × (Nat → Int32)) : Prop := u.2.1 ≤ n + 10 ∧ u.2.1 ≤ u.2.2.1 ∧ cp ≤ u.2.2.1 ∧ u.2.2.1 ≤ 320 ∧ sb_Fit u.2.2.2
section KL
variable {dC : Nat → ClassId} {dI : Nat → Nat → Nat} {cB : ClassId} {ad : Nat → Nat} {z a b n cp : Nat} {f : Nat → Int32} {S : XS} {s : State} {H : Heap} {locs : List Loc}
theorem PL.call {U : State} {g : JFrame} {mk : MethodId} {av : Array Value} (h : PL dC dI cB ad S z a b n cp f U) : PL dC dI cB ad S z a b n cp f (U.calling g mk av) := ⟨h.1.call, h.2.1.call, ZBA.same (s := U) (U := U.calling g mk av) rfl h.2.2.1, h.2.2.2.1, NT.same (s := U) (U := U.calling g mk av) rfl h.2.2.2.2⟩
theorem PL.blind {av : List Value} : FrameBlind (va_Pc av (PL dC dI cB ad S z a b n cp f)) := fun _ _ _ _ h => ⟨h.1, h.2.call⟩
theorem WX.ofL (h : PL dC dI cB ad S z a b n cp f s) : WX dC dI ad S (AZ ad z) s s.heap [] := ⟨h.1.1, h.1.2.1, h.1.2.2.weaken (fun _ _ _ h => Or.inl h), va_S.rf⟩
theorem TB.ofL (h : PL dC dI cB ad S z a b n cp f s) : TB dC dI cB ad z [(a, eSB b n), (b, eBy cB cp f)] s s.heap := ⟨h.2.1.1, h.2.1.2.1, h.2.1.2.2.1, h.2.1.2.2.2.1, h.2.2.1, h.2.2.2.1⟩
theorem TB.preLot {i : Nat} {As : List Value} (h : TB dC dI cB ad z [(a, eSB b n), (b, eBy cB cp f)] s H) (hX : WX dC dI ad S (AZ ad z) s H locs) (hN : NT s) (hi : i < 8) : PreV s H RX2 (ad (3 * i)) (va_Pc (Value.ref (ad (3 * i)) :: As) (PL dC dI cB ad S z a b n cp f)) As :=
  ⟨PL.blind, (hX.preRow hi (As := As)).2.1, fun _ hU hW => ⟨rfl, hX.P hU hW, h.toPB hX hU hW, by rw [hU]; exact (h.2.2.2.2.1.kept hX.2.2.2.2.1).warm hW, h.2.2.2.2.2, hN.warm hW⟩⟩
end KL
section KL2
variable {p : Program} {l : Launch} {e : Env} {R : Room} {s : State} {m : MethodId} {args : Array Value} {below : List Frame} {meth : Method} {c : Code} {H : Heap} {locs : List Loc} {cells slots : Nat} {Q : State → Prop}
variable {pc : Nat} {ls : Array Slot} {rest st0 : List Value} {dC : Nat → ClassId} {dI : Nat → Nat → Nat} {cB : ClassId} {ad : Nat → Nat} {z : Nat} {G : va_W} {S : XS} {mc ms : Nat} {av : Array Value}
theorem kt_l {S1 : Type} {post : S1 → Prop} {Gf : S1 → va_W} (hr : va_Run p l e R s m args below meth c H locs cells slots mc ms (F0 m pc ls st0) rest (va_Qv post (fun u t => PX dC dI ad S t ∧ PB dC dI cB z (Gf u) t) (AZ ad z) av) (AZ ad z)) (hX : WX dC dI ad S (AZ ad z) s H locs) (hT : TB dC dI cB ad z G s H)
    (kk : ∀ (u : S1) (H1 : Heap) (locs1 : List Loc), post u → WX dC dI ad S (AZ ad z) s H1 locs1 → TB dC dI cB ad z (Gf u) s H1 → W p l e R s m args below meth c H1 locs1 (cells + mc) (slots + ms) Q (F0 m (pc + 3) ls rest)) : W p l e R s m args below meth c H locs cells slots Q (F0 m pc ls st0) :=
  va_callv hr hX.2.2.2 (fun _ _ h => h) (fun _ h => h) (fun u t H1 locs1 ht hvm hp hB _ _ hS => kk u H1 locs1 hp ⟨by rw [← ht]; exact hB.1.1, hX.2.1, hX.2.2.1, hS⟩ ⟨by rw [← ht]; exact hB.2.1, hT.2.1, hB.2.2.2.1, hT.2.2.2⟩)
end KL2
set_option maxHeartbeats 4000000 in
set_option maxRecDepth 100000 in
theorem m_X2_appendLot (l : Launch) (dC : Nat → ClassId) (dI : Nat → Nat → Nat) (cB : ClassId) (ad : Nat → Nat) (S : XS) (i j r9 : Nat) (z a9 b n cp : Nat) (f : Nat → Int32) (hi : i < 8) (hj : j < 6) (hr9 : r9 ≤ 16) (hI : InvX S) (hn0 : n + 10 ≤ 160) (hnm : n ≤ cp) (hc9 : 16 ≤ cp ∧ cp ≤ 320) (hf : sb_Fit f) : Met l yX2_appendLot wsX2_appendLot ({ frames := 7, cells := 4, slots := 640, locals := 146 } : Room) (va_Pc [.ref (ad (3 * i)), .ref a9, .ref (ad (24 + 5 * j)), .int (nI r9)] (PL dC dI cB ad S z a9 b n cp f)) (va_Qv (LotQ n cp) (fun u t => PX dC dI ad S t ∧ PB dC dI cB z [(a9, eSB u.1 u.2.1), (u.1, eBy cB u.2.2.1 u.2.2.2)] t) (AZ ad z)) 4 640 (AZ ad z) := by
  refine Met.ofW (cc := cX2_appendLot) (maxL := 7) (ret := none) pl_X2 rfl ?_
  intro p e s m args below meth c s₁ B hml hv
  obtain ⟨rfl, hPT⟩ := hv
  have hx := B.exec
  have hb := B.bytes
  have hr := B.returns
  have hts := atoms_spec (ws := wsX2_appendLot) B.pre
  have hown : s.vm.findClass RX2 = some m.cls := findClass_of_methodNamed B.named
  have hlocks := B.notSynchronized
  have hin2 : ∀ w ∈ u_ws RX2 TX2 3, w ∈ wsX2_appendLot := tu 1322 (by decide +kernel) rfl
  have hN : NT s := hPT.2.2.2.2
  have hX := WX.ofL hPT
  have hT := TB.ofL hPT
  have hl := lv_entry ([.ref (ad (3 * i)), .ref a9, .ref (ad (24 + 5 * j)), .int (nI r9)]) (n := 7) (Nat.le_of_ble_eq_true rfl)
  rw [lg_entry_eq]
  generalize (lg_sl ([.ref (ad (3 * i)), .ref a9, .ref (ad (24 + 5 * j)), .int (nI r9)]) ++ List.replicate (7 - (lg_sl ([.ref (ad (3 * i)), .ref a9, .ref (ad (24 + 5 * j)), .int (nI r9)])).length) Slot.unset).toArray = ls at hl ⊢
  have hl : lv_has ls 7 [(0, .ref (ad (3 * i))), (1, .ref a9), (2, .ref (ad (24 + 5 * j))), (3, .int (nI r9))] := hl
  show W p l e ({ frames := 7, cells := 4, slots := 640, locals := 146 } : Room) s m ([.ref (ad (3 * i)), .ref a9, .ref (ad (24 + 5 * j)), .int (nI r9)]).toArray below meth c s.heap [] 0 0 (MQ below (va_Qv (LotQ n cp) (fun u t => PX dC dI ad S t ∧ PB dC dI cB z [(a9, eSB u.1 u.2.1), (u.1, eBy cB u.2.2.1 u.2.2.2)] t) (AZ ad z)) ([.ref (ad (3 * i)), .ref a9, .ref (ad (24 + 5 * j)), .int (nI r9)]).toArray s 4 640 (AZ ad z)) (F0 m 0 ls [])
  have hn := (hI.1 i (by omega)).1
  refine lv_iconst (v := (-1)) hx hb dX2_appendLot_0 (by decide) ?_
  refine lv_istore (lv' := [(4, .int (-1)), (0, .ref (ad (3 * i))), (1, .ref a9), (2, .ref (ad (24 + 5 * j))), (3, .int (nI r9))]) hx hb dX2_appendLot_1 hl (by decide) rfl (fun ls hl => ?_)
  refine lv_iconst (v := nI 0) hx hb dX2_appendLot_3 (by decide) ?_
  refine lv_istore (lv' := [(5, .int (nI 0)), (4, .int (-1)), (0, .ref (ad (3 * i))), (1, .ref a9), (2, .ref (ad (24 + 5 * j))), (3, .int (nI r9))]) hx hb dX2_appendLot_4 hl (by decide) rfl (fun ls hl => ?_)
  refine lv_iconst (v := nI 0) hx hb dX2_appendLot_6 (by decide) ?_
  refine lv_istore (lv' := [(6, .int (nI 0)), (5, .int (nI 0)), (4, .int (-1)), (0, .ref (ad (3 * i))), (1, .ref a9), (2, .ref (ad (24 + 5 * j))), (3, .int (nI r9))]) hx hb dX2_appendLot_7 hl (by decide) rfl (fun ls hl => ?_)
  have loop9 : ∀ (fuel : Nat) (x4 : Int32) (cn k : Nat) (b1 n1 c1 : Nat) (f1 : Nat → Int32) (hk : k ≤ (S.1 i).2.2) (hcn : cn ≤ k ∧ (0 < cn → x4 ≠ -1)) (hx4 : x4 = -1 ∨ ∃ q, q < (S.1 i).2.2 ∧ x4 = nI q) (hnc : n1 ≤ n ∧ n1 ≤ c1 ∧ cp ≤ c1 ∧ 16 ≤ c1 ∧ c1 ≤ 320) (hf : sb_Fit f1) (H : Heap) (locs : List Loc), (S.1 i).2.2 - k < fuel → WX dC dI ad S (AZ ad z) s H locs → TB dC dI cB ad z [(a9, eSB b1 n1), (b1, eBy cB c1 f1)] s H → ∀ ls : Array Slot, lv_has ls 7 [(0, .ref (ad (3 * i))), (1, .ref a9), (2, .ref (ad (24 + 5 * j))), (3, .int (nI r9)), (4, .int x4), (5, .int (nI cn)), (6, .int (nI k))] → W p l e ({ frames := 7, cells := 4, slots := 640, locals := 146 } : Room) s m ([.ref (ad (3 * i)), .ref a9, .ref (ad (24 + 5 * j)), .int (nI r9)]).toArray below meth c H locs (0) (0 + 2 * c1) (MQ below (va_Qv (LotQ n cp) (fun u t => PX dC dI ad S t ∧ PB dC dI cB z [(a9, eSB u.1 u.2.1), (u.1, eBy cB u.2.2.1 u.2.2.2)] t) (AZ ad z)) ([.ref (ad (3 * i)), .ref a9, .ref (ad (24 + 5 * j)), .int (nI r9)]).toArray s 4 640 (AZ ad z)) (F0 m 9 ls []) := by
    intro fuel
    induction fuel with
    | zero => intro x4 cn k b1 n1 c1 f1 hk hcn hx4 hnc hf H locs hf9; exact absurd hf9 (Nat.not_lt_zero _)
    | succ fuel ih9 =>
      intro x4 cn k b1 n1 c1 f1 hk hcn hx4 hnc hf H locs hf9 hX hT ls hl
      refine lv_iload hx hb dX2_appendLot_9 (lv_at hl 6 rfl) ?_
      refine lv_aload_n hx hb dX2_appendLot_11 rfl (lv_at hl 0 rfl) ?_
      refine kr_gn (n := (S.1 i).2.2) hx hb hts hin2 hown hX (by omega) rfl (hts (.fieldLink RX2 18 "Orderlattice$Row" "many" "I") (tm 27 (by decide +kernel) rfl)) dX2_appendLot_12 ?_
      refine kn_icmp_ge (tgt := 56) hx hb (by omega) (by omega) dX2_appendLot_15 (by decide) (fun k_1 => ?_) (fun k_1 => ?_)
      · skip
        refine lv_iload hx hb dX2_appendLot_56 (lv_at hl 5 rfl) ?_
        refine kn_if_le (tgt := 86) hx hb (by omega) dX2_appendLot_58 (by decide) (fun k_2 => ?_) (fun k_2 => ?_)
        · skip
          exact W.widen (k := 4) (n := 640) (by omega) (by omega) (W.vret hx hb hr (fun t9 ht9 hW9 => ⟨⟨(b1, n1, c1, f1), rfl, ⟨by show n1 ≤ n + 10; omega, by show n1 ≤ c1; omega, by show cp ≤ c1; omega, by show c1 ≤ 320; omega, hf⟩, hX.P ht9 hW9, hT.toPB hX ht9 hW9⟩, hX.2.2.2.F ht9⟩) hX.2.2.2.2.2 dX2_appendLot_86)
        · skip
          obtain ⟨q5, hq5, hq6⟩ := hx4.resolve_left (hcn.2 (by omega))
          subst hq6
          have hm9 := ((hI.1 i (by omega)).2 q5 (by omega)).2
          have hd1 := dg6 (v := (S.1 i).2.1 q5) (by omega)
          have hd2 := dg2 (v := cn) (by omega)
          refine lv_aload_n hx hb dX2_appendLot_61 rfl (lv_at hl 1 rfl) ?_
          have hcb := cap_b (q := n1 + 1) (cp := c1) (Q := 160) (by omega) (by omega)
          refine kt_gap (sl := 0) 160 (va_runSN (As := [.ref a9]) (rest := []) ⟨hx, hb, hml, hown, hts⟩ (m_X4_appendGap l dC dI cB z a9 b1 n1 c1 f1 (by omega) (by omega) hf (by omega) (by omega)) ⟨va_cnB 1 hts gX2_appendLot_X4_appendGap_n65 rfl rfl rfl hN.1 (hts (.initialized RX4) (tm 421 (by decide +kernel) rfl)) (by decide +kernel) ⟨Nat.le_of_ble_eq_true rfl, Nat.le_of_ble_eq_true rfl⟩, hts (.static yX4_appendGap) (by decide +kernel), trivial⟩ (hT.preS hX) rfl rfl hl.1 rfl (lv_room (Nat.le_of_ble_eq_true rfl)) dX2_appendLot_62 ⟨by show _ ≤ 4; omega, by show _ ≤ 640; have := gm_pot (n1 + 1) c1; omega⟩) hX hT (by omega) (by omega) (fun b_3 n_3 c_3 f_3 H locs hX hT hf _ _ _ _ => ?_)
          refine lv_aload_n hx hb dX2_appendLot_65 rfl (lv_at hl 1 rfl) ?_
          refine lv_aload_n hx hb dX2_appendLot_66 rfl (lv_at hl 0 rfl) ?_
          refine lv_iload hx hb dX2_appendLot_67 (lv_at hl 4 rfl) ?_
          refine kx_cr (v := nI (((S.1 i).2.1) q5)) (va_runV (As := [.int (nI q5)]) (rest := [.ref a9]) ⟨hx, hb, hml, hown, hts⟩ (m_X2_markOn l dC dI ad S i q5 (by omega) (by omega)) (cwV 1 hts gX2_appendLot_X2_markOn rfl rfl rfl hdX2_markOn_1 ⟨Nat.le_of_ble_eq_true rfl, Nat.le_of_ble_eq_true rfl⟩) (hX.preRow (by omega)) rfl rfl hl.1 rfl (lv_room (Nat.le_of_ble_eq_true rfl)) dX2_appendLot_69 ⟨by show _ ≤ 4; omega, by show _ ≤ 640; omega⟩) (fun _ h => h) ?_
          have hcb := cap_b (q := n_3 + sb_dg (((S.1 i).2.1) q5)) (cp := c_3) (Q := 160) (by omega) (by omega)
          refine kt_app (sl := 0) (n2 := n_3 + sb_dg (((S.1 i).2.1) q5)) 160 (va_runV (As := [.int (nI (((S.1 i).2.1) q5))]) (rest := []) ⟨hx, hb, hml, hown, hts⟩ (m_J4_append_bf812 l dC dI cB z a9 b_3 n_3 c_3 f_3 (by omega) (by omega) hf (((S.1 i).2.1) q5) (by omega) (by omega)) (cwV 1 hts gX2_appendLot_J4_append_bf812 rfl rfl rfl hdJ4_append_bf812_1 ⟨Nat.le_of_ble_eq_true rfl, Nat.le_of_ble_eq_true rfl⟩) (hT.preV hX (ci := 1) (q := (RJ4, TJ4, 4)) rfl 0 rfl) rfl rfl hl.1 rfl (lv_room (Nat.le_of_ble_eq_true rfl)) dX2_appendLot_72 ⟨by show _ ≤ 4; omega, by show _ ≤ 640; have := gm_pot (n_3 + sb_dg (((S.1 i).2.1) q5)) c_3; omega⟩) hX hT (by omega) (by omega) (fun b_4 c_4 f_4 H locs hX hT hf _ _ _ => ?_)
          refine lv_bipush (v := nI 58) hx hb dX2_appendLot_75 (by decide) ?_
          have hcb := cap_b (q := n_3 + sb_dg (((S.1 i).2.1) q5) + 1) (cp := c_4) (Q := 160) (by omega) (by omega)
          refine kt_app (sl := 0) (n2 := n_3 + sb_dg (((S.1 i).2.1) q5) + 1) 160 (va_runV (As := [.int (nI 58)]) (rest := []) ⟨hx, hb, hml, hown, hts⟩ (m_J4_append_cf468 l dC dI cB z a9 b_4 (n_3 + sb_dg (((S.1 i).2.1) q5)) c_4 f_4 (by omega) (by omega) hf 58 (by omega) (by omega)) (cwV 1 hts gX2_appendLot_J4_append_cf468 rfl rfl rfl hdJ4_append_cf468_1 ⟨Nat.le_of_ble_eq_true rfl, Nat.le_of_ble_eq_true rfl⟩) (hT.preV hX (ci := 1) (q := (RJ4, TJ4, 4)) rfl 0 rfl) rfl rfl hl.1 rfl (lv_room (Nat.le_of_ble_eq_true rfl)) dX2_appendLot_77 ⟨by show _ ≤ 4; omega, by show _ ≤ 640; have := gm_pot (n_3 + sb_dg (((S.1 i).2.1) q5) + 1) c_4; omega⟩) hX hT (by omega) (by omega) (fun b_5 c_5 f_5 H locs hX hT hf _ _ _ => ?_)
          refine lv_iload hx hb dX2_appendLot_80 (lv_at hl 5 rfl) ?_
          have hcb := cap_b (q := n_3 + sb_dg (((S.1 i).2.1) q5) + 1 + sb_dg cn) (cp := c_5) (Q := 160) (by omega) (by omega)
          refine kt_app (sl := 0) (n2 := n_3 + sb_dg (((S.1 i).2.1) q5) + 1 + sb_dg cn) 160 (va_runV (As := [.int (nI cn)]) (rest := []) ⟨hx, hb, hml, hown, hts⟩ (m_J4_append_bf812 l dC dI cB z a9 b_5 (n_3 + sb_dg (((S.1 i).2.1) q5) + 1) c_5 f_5 (by omega) (by omega) hf cn (by omega) (by omega)) (cwV 1 hts gX2_appendLot_J4_append_bf812 rfl rfl rfl hdJ4_append_bf812_1 ⟨Nat.le_of_ble_eq_true rfl, Nat.le_of_ble_eq_true rfl⟩) (hT.preV hX (ci := 1) (q := (RJ4, TJ4, 4)) rfl 0 rfl) rfl rfl hl.1 rfl (lv_room (Nat.le_of_ble_eq_true rfl)) dX2_appendLot_82 ⟨by show _ ≤ 4; omega, by show _ ≤ 640; have := gm_pot (n_3 + sb_dg (((S.1 i).2.1) q5) + 1 + sb_dg cn) c_5; omega⟩) hX hT (by omega) (by omega) (fun b_6 c_6 f_6 H locs hX hT hf _ _ _ => ?_)
          refine lv_pop hx hb dX2_appendLot_85 rfl ?_
          exact W.widen (k := 4) (n := 640) (by omega) (by omega) (W.vret hx hb hr (fun t9 ht9 hW9 => ⟨⟨(b_6, n_3 + sb_dg (((S.1 i).2.1) q5) + 1 + sb_dg cn, c_6, f_6), rfl, ⟨by show n_3 + sb_dg (((S.1 i).2.1) q5) + 1 + sb_dg cn ≤ n + 10; omega, by show n_3 + sb_dg (((S.1 i).2.1) q5) + 1 + sb_dg cn ≤ c_6; omega, by show cp ≤ c_6; omega, by show c_6 ≤ 320; omega, hf⟩, hX.P ht9 hW9, hT.toPB hX ht9 hW9⟩, hX.2.2.2.F ht9⟩) hX.2.2.2.2.2 dX2_appendLot_86)
      · skip
        have hv9 := (hI.1 i (by omega)).2 k (by omega)
        have hrk := ordOK.rnk (hI.2 j (by omega)) hv9.1
        refine lv_aload_n hx hb dX2_appendLot_18 rfl (lv_at hl 2 rfl) ?_
        refine lv_aload_n hx hb dX2_appendLot_19 rfl (lv_at hl 0 rfl) ?_
        refine lv_iload hx hb dX2_appendLot_20 (lv_at hl 6 rfl) ?_
        refine kx_cr (v := nI (((S.1 i).1) k)) (va_runV (As := [.int (nI k)]) (rest := [.ref (ad (24 + 5 * j))]) ⟨hx, hb, hml, hown, hts⟩ (m_X2_valueOn l dC dI ad S i k (by omega) (by omega)) (cwV 1 hts gX2_appendLot_X2_valueOn rfl rfl rfl hdX2_valueOn_1 ⟨Nat.le_of_ble_eq_true rfl, Nat.le_of_ble_eq_true rfl⟩) (hX.preRow (by omega)) rfl rfl hl.1 rfl (lv_room (Nat.le_of_ble_eq_true rfl)) dX2_appendLot_22 ⟨by show _ ≤ 4; omega, by show _ ≤ 640; omega⟩) (fun _ h => h) ?_
        refine kx_cr (v := nI (((S.2.1 j).2.2.2.1) (((S.1 i).1) k))) (va_runV (As := [.int (nI (((S.1 i).1) k))]) (rest := []) ⟨hx, hb, hml, hown, hts⟩ (m_X1_rankOf l dC dI ad S j (((S.1 i).1) k) (by omega) (by omega)) (cwV 1 hts gX2_appendLot_X1_rankOf rfl rfl rfl hdX1_rankOf_1 ⟨Nat.le_of_ble_eq_true rfl, Nat.le_of_ble_eq_true rfl⟩) (hX.preOrd (by omega)) rfl rfl hl.1 rfl (lv_room (Nat.le_of_ble_eq_true rfl)) dX2_appendLot_25 ⟨by show _ ≤ 4; omega, by show _ ≤ 640; omega⟩) (fun _ h => h) ?_
        refine lv_iload_n hx hb dX2_appendLot_28 rfl (lv_at hl 3 rfl) ?_
        refine kn_icmp_ne (tgt := 50) hx hb (by omega) (by omega) dX2_appendLot_29 (by decide) (fun k_7 => ?_) (fun k_7 => ?_)
        · skip
          refine lv_iinc (v := nI (k + 1)) (lv' := [(6, .int (nI (k + 1))), (0, .ref (ad (3 * i))), (1, .ref a9), (2, .ref (ad (24 + 5 * j))), (3, .int (nI r9)), (4, .int x4), (5, .int (nI cn))]) hx hb dX2_appendLot_50 hl (k := 6) rfl (nI_1 k) (by decide) rfl (fun ls hl => ?_)
          refine lv_goto (tgt := 9) hx hb dX2_appendLot_53 (by decide) ?_
          refine W.widen (k := 0) (n := 0 + 2 * c1) (by omega) (by omega) ?_
          exact ih9  x4 cn (k + 1) b1 n1 c1 f1 (by omega) ⟨by omega, hcn.2⟩ hx4 (by omega) hf _ _ (by omega) hX hT _ (lv_sub hl [1, 2, 3, 4, 5, 6, 0] rfl)
        · skip
          refine lv_iload hx hb dX2_appendLot_32 (lv_at hl 4 rfl) ?_
          refine lv_iconst (v := (-1)) hx hb dX2_appendLot_34 (by decide) ?_
          refine lv_icmp_ne (tgt := 43) hx hb dX2_appendLot_35 (by decide) (fun k_8 => ?_) (fun k_8 => ?_)
          · skip
            have h35 := k_8
            refine lv_iload hx hb dX2_appendLot_43 (lv_at hl 4 rfl) ?_
            refine lv_istore (lv' := [(4, .int x4), (0, .ref (ad (3 * i))), (1, .ref a9), (2, .ref (ad (24 + 5 * j))), (3, .int (nI r9)), (5, .int (nI cn)), (6, .int (nI k))]) hx hb dX2_appendLot_45 hl (by decide) rfl (fun ls hl => ?_)
            refine lv_iinc (v := nI (cn + 1)) (lv' := [(5, .int (nI (cn + 1))), (4, .int x4), (0, .ref (ad (3 * i))), (1, .ref a9), (2, .ref (ad (24 + 5 * j))), (3, .int (nI r9)), (6, .int (nI k))]) hx hb dX2_appendLot_47 hl (k := 5) rfl (nI_1 cn) (by decide) rfl (fun ls hl => ?_)
            refine lv_iinc (v := nI (k + 1)) (lv' := [(6, .int (nI (k + 1))), (5, .int (nI (cn + 1))), (4, .int x4), (0, .ref (ad (3 * i))), (1, .ref a9), (2, .ref (ad (24 + 5 * j))), (3, .int (nI r9))]) hx hb dX2_appendLot_50 hl (k := 6) rfl (nI_1 k) (by decide) rfl (fun ls hl => ?_)
            refine lv_goto (tgt := 9) hx hb dX2_appendLot_53 (by decide) ?_
            refine W.widen (k := 0) (n := 0 + 2 * c1) (by omega) (by omega) ?_
            exact ih9  x4 (cn + 1) (k + 1) b1 n1 c1 f1 (by omega) ⟨by omega, fun _ => h35⟩ hx4 (by omega) hf _ _ (by omega) hX hT _ (lv_sub hl [3, 4, 5, 6, 2, 1, 0] rfl)
          · skip
            have h35 := k_8
            refine lv_iload hx hb dX2_appendLot_38 (lv_at hl 6 rfl) ?_
            refine lv_goto (tgt := 45) hx hb dX2_appendLot_40 (by decide) ?_
            refine lv_istore (lv' := [(4, .int (nI k)), (0, .ref (ad (3 * i))), (1, .ref a9), (2, .ref (ad (24 + 5 * j))), (3, .int (nI r9)), (5, .int (nI cn)), (6, .int (nI k))]) hx hb dX2_appendLot_45 hl (by decide) rfl (fun ls hl => ?_)
            refine lv_iinc (v := nI (cn + 1)) (lv' := [(5, .int (nI (cn + 1))), (4, .int (nI k)), (0, .ref (ad (3 * i))), (1, .ref a9), (2, .ref (ad (24 + 5 * j))), (3, .int (nI r9)), (6, .int (nI k))]) hx hb dX2_appendLot_47 hl (k := 5) rfl (nI_1 cn) (by decide) rfl (fun ls hl => ?_)
            refine lv_iinc (v := nI (k + 1)) (lv' := [(6, .int (nI (k + 1))), (5, .int (nI (cn + 1))), (4, .int (nI k)), (0, .ref (ad (3 * i))), (1, .ref a9), (2, .ref (ad (24 + 5 * j))), (3, .int (nI r9))]) hx hb dX2_appendLot_50 hl (k := 6) rfl (nI_1 k) (by decide) rfl (fun ls hl => ?_)
            refine lv_goto (tgt := 9) hx hb dX2_appendLot_53 (by decide) ?_
            refine W.widen (k := 0) (n := 0 + 2 * c1) (by omega) (by omega) ?_
            exact ih9  (nI k) (cn + 1) (k + 1) b1 n1 c1 f1 (by omega) ⟨by omega, fun _ => nI_nm1 (by omega)⟩ (Or.inr ⟨k, by omega, rfl⟩) (by omega) hf _ _ (by omega) hX hT _ (lv_sub hl [3, 4, 5, 6, 2, 1, 0] rfl)
  refine W.widen (k := 0) (n := 0 + 2 * cp) (by omega) (by omega) ?_
  exact loop9 ((S.1 i).2.2 + 1) (-1) 0 0 b n cp f (by omega) ⟨by omega, fun h9 => absurd h9 (by omega)⟩ (Or.inl rfl) (by omega) hf _ _ (by omega) hX hT _ (lv_sub hl [3, 4, 5, 6, 2, 1, 0] rfl)
set_option maxHeartbeats 4000000 in
set_option maxRecDepth 100000 in
theorem m_X2_lotsTold (l : Launch) (dC : Nat → ClassId) (dI : Nat → Nat → Nat) (cB : ClassId) (ad : Nat → Nat) (S : XS) (i j : Nat) (hi : i < 8) (hj : j < 6) (hI : InvX S) : Met l yX2_lotsTold wsX2_lotsTold ({ frames := 8, cells := 80, slots := 11200, locals := 172 } : Room) (va_Pc [.ref (ad (3 * i)), .ref (ad (24 + 5 * j))] (PT dC dI cB ad S)) (va_Qr (fun S1 : XS => S1 = S) (fun S1 _ t => PX dC dI ad S1 t) (AX ad)) 80 11200 (AX ad) := by
  refine Met.ofW (cc := cX2_lotsTold) (maxL := 4) (ret := (some (.object "java/lang/String"))) pl_X2 rfl ?_
  intro p e s m args below meth c s₁ B hml hv
  obtain ⟨rfl, hPT⟩ := hv
  have hx := B.exec
  have hb := B.bytes
  have hr := B.returns
  have hts := atoms_spec (ws := wsX2_lotsTold) B.pre
  have hown : s.vm.findClass RX2 = some m.cls := findClass_of_methodNamed B.named
  have hlocks := B.notSynchronized
  have hinJ4 : ∀ w ∈ u_ws RJ4 TJ4 4, w ∈ wsX2_lotsTold := tu 1326 (by decide +kernel) rfl
  have hN : NT s := hPT.2.2.2
  have hX := WX.ofT hPT
  have hT := TB.of hPT
  have hl := lv_entry ([.ref (ad (3 * i)), .ref (ad (24 + 5 * j))]) (n := 4) (Nat.le_of_ble_eq_true rfl)
  rw [lg_entry_eq]
  generalize (lg_sl ([.ref (ad (3 * i)), .ref (ad (24 + 5 * j))]) ++ List.replicate (4 - (lg_sl ([.ref (ad (3 * i)), .ref (ad (24 + 5 * j))])).length) Slot.unset).toArray = ls at hl ⊢
  have hl : lv_has ls 4 [(0, .ref (ad (3 * i))), (1, .ref (ad (24 + 5 * j)))] := hl
  show W p l e ({ frames := 8, cells := 80, slots := 11200, locals := 172 } : Room) s m ([.ref (ad (3 * i)), .ref (ad (24 + 5 * j))]).toArray below meth c s.heap [] 0 0 (MQ below (va_Qr (fun S1 : XS => S1 = S) (fun S1 _ t => PX dC dI ad S1 t) (AX ad)) ([.ref (ad (3 * i)), .ref (ad (24 + 5 * j))]).toArray s 80 11200 (AX ad)) (F0 m 0 ls [])
  have hcl := ordOK.cls (hI.2 j (by omega))
  refine kt_new hx hb hts hinJ4 hown (hts (.classLink RX2 62 RJ4) (tm 432 (by decide +kernel) rfl)) (hts (.instantiable RJ4 4) (tm 374 (by decide +kernel) rfl)) (hts (.initialized RJ4) (tm 328 (by decide +kernel) rfl)) hX hT (by show _ ≤ 80; omega) (by show _ ≤ 11200; omega) dX2_lotsTold_0 (fun a9 H hX hT => ?_)
  refine lv_dup hx hb dX2_lotsTold_3 rfl ?_
  refine kt_v (va_runI (As := []) (rest := [.ref a9]) ⟨hx, hb, hml, hown, hts⟩ (m_J4_init_da8c8 l dC dI cB s.heap.size a9) (cwI 0 hts gX2_lotsTold_J4_init_da8c8 rfl rfl rfl (hts (.initialized yJ4_init_da8c8.cls) (tm 328 (by decide +kernel) rfl)) (hts (.methodLink RX2 64 yJ4_init_da8c8) (tm 433 (by decide +kernel) rfl)) (hts (.instanceMethod yJ4_init_da8c8) (tm 414 (by decide +kernel) rfl)) rfl (by decide +kernel) ⟨Nat.le_of_ble_eq_true rfl, Nat.le_of_ble_eq_true rfl⟩) (hT.preS hX) rfl rfl hl.1 rfl (lv_room (Nat.le_of_ble_eq_true rfl)) dX2_lotsTold_4 ⟨by show _ ≤ 80; omega, by show _ ≤ 11200; omega⟩) hX hT (fun b0 H locs _ hX hT => ?_)
  refine W.widen (k := 2) (n := 4 + 2 * 16) (by omega) (by omega) ?_
  have hf : sb_Fit (fun _ => 0) := sb_fit0
  refine lv_astore_n (lv' := [(2, .ref a9), (0, .ref (ad (3 * i))), (1, .ref (ad (24 + 5 * j)))]) hx hb dX2_lotsTold_7 rfl hl (by decide) rfl (fun ls hl => ?_)
  refine lv_iconst (v := nI 0) hx hb dX2_lotsTold_8 (by decide) ?_
  refine lv_istore_n (lv' := [(3, .int (nI 0)), (2, .ref a9), (0, .ref (ad (3 * i))), (1, .ref (ad (24 + 5 * j)))]) hx hb dX2_lotsTold_9 rfl hl (by decide) rfl (fun ls hl => ?_)
  have loop10 : ∀ (fuel : Nat) (k : Nat) (b1 n1 c1 : Nat) (f1 : Nat → Int32) (hk : k ≤ 16) (hn1 : n1 ≤ 10 * k) (hnc : n1 ≤ c1 ∧ 16 ≤ c1 ∧ c1 ≤ 320) (hf : sb_Fit f1) (H : Heap) (locs : List Loc), 16 - k < fuel → WX dC dI ad S (AZ ad s.heap.size) s H locs → TB dC dI cB ad s.heap.size [(a9, eSB b1 n1), (b1, eBy cB c1 f1)] s H → ∀ ls : Array Slot, lv_has ls 4 [(0, .ref (ad (3 * i))), (1, .ref (ad (24 + 5 * j))), (2, .ref a9), (3, .int (nI k))] → W p l e ({ frames := 8, cells := 80, slots := 11200, locals := 172 } : Room) s m ([.ref (ad (3 * i)), .ref (ad (24 + 5 * j))]).toArray below meth c H locs (2 + 4 * k) ((4 + 640 * k) + 2 * c1) (MQ below (va_Qr (fun S1 : XS => S1 = S) (fun S1 _ t => PX dC dI ad S1 t) (AX ad)) ([.ref (ad (3 * i)), .ref (ad (24 + 5 * j))]).toArray s 80 11200 (AX ad)) (F0 m 10 ls []) := by
    intro fuel
    induction fuel with
    | zero => intro k b1 n1 c1 f1 hk hn1 hnc hf H locs hf9; exact absurd hf9 (Nat.not_lt_zero _)
    | succ fuel ih10 =>
      intro k b1 n1 c1 f1 hk hn1 hnc hf H locs hf9 hX hT ls hl
      refine lv_iload_n hx hb dX2_lotsTold_10 rfl (lv_at hl 3 rfl) ?_
      refine lv_aload_n hx hb dX2_lotsTold_11 rfl (lv_at hl 1 rfl) ?_
      refine kx_cr (v := nI ((S.2.1 j).2.2.2.2.2)) (va_runV (As := []) (rest := [.int (nI k)]) ⟨hx, hb, hml, hown, hts⟩ (m_X1_classCount l dC dI ad S j  (by omega)) (cwV 0 hts gX2_lotsTold_X1_classCount rfl rfl rfl hdX1_classCount_0 ⟨Nat.le_of_ble_eq_true rfl, Nat.le_of_ble_eq_true rfl⟩) (hX.preOrd (by omega)) rfl rfl hl.1 rfl (lv_room (Nat.le_of_ble_eq_true rfl)) dX2_lotsTold_12 ⟨by show _ ≤ 80; omega, by show _ ≤ 11200; omega⟩) (fun _ h => h) ?_
      refine kn_icmp_ge (tgt := 31) hx hb (by omega) (by omega) dX2_lotsTold_15 (by decide) (fun k_1 => ?_) (fun k_1 => ?_)
      · skip
        refine lv_aload_n hx hb dX2_lotsTold_31 rfl (lv_at hl 2 rfl) ?_
        refine kt_r (va_runV (As := []) (rest := []) ⟨hx, hb, hml, hown, hts⟩ (m_J4_toString_0e30d l dC dI cB s.heap.size a9 b1 n1 c1 f1 (by omega) (by omega) hf) (cwV 0 hts gX2_lotsTold_J4_toString_0e30d rfl rfl rfl hdJ4_toString_0e30d_0 ⟨Nat.le_of_ble_eq_true rfl, Nat.le_of_ble_eq_true rfl⟩) (hT.preV hX (ci := 1) (q := (RJ4, TJ4, 4)) rfl 0 rfl) rfl rfl hl.1 rfl (lv_room (Nat.le_of_ble_eq_true rfl)) dX2_lotsTold_32 ⟨by show _ ≤ 80; omega, by show _ ≤ 11200; omega⟩) hX hT (fun _ q9 H locs _ _ hX hT => ?_)
        exact W.widen (k := 80) (n := 11200) (by omega) (by omega) (W.filt (fun locs1 hl1 => W.aret (v := .ref q9) hx hb hr (Or.inl ⟨_, rfl⟩) (Or.inr ⟨_, rfl⟩) (fun t9 ht9 hW9 => ⟨⟨S, _, rfl, rfl, hX.P ht9 hW9⟩, (hX.2.2.2.F ht9).X⟩) (free_X hX.2.2.2 hl1) dX2_lotsTold_35))
      · skip
        refine lv_aload_n hx hb dX2_lotsTold_18 rfl (lv_at hl 0 rfl) ?_
        refine lv_aload_n hx hb dX2_lotsTold_19 rfl (lv_at hl 2 rfl) ?_
        refine lv_aload_n hx hb dX2_lotsTold_20 rfl (lv_at hl 1 rfl) ?_
        refine lv_iload_n hx hb dX2_lotsTold_21 rfl (lv_at hl 3 rfl) ?_
        refine kt_l (va_runV (As := [.ref a9, .ref (ad (24 + 5 * j)), .int (nI k)]) (rest := []) ⟨hx, hb, hml, hown, hts⟩ (m_X2_appendLot l dC dI cB ad S i j k s.heap.size a9 b1 n1 c1 f1 (by omega) (by omega) (by omega) hI (by omega) (by omega) (by omega) hf) (cwV 3 hts gX2_lotsTold_X2_appendLot rfl rfl rfl hdX2_appendLot_3 ⟨Nat.le_of_ble_eq_true rfl, Nat.le_of_ble_eq_true rfl⟩) (hT.preLot hX hN (by omega)) rfl rfl hl.1 rfl (lv_room (Nat.le_of_ble_eq_true rfl)) dX2_lotsTold_22 ⟨by show _ + 4 ≤ 80; omega, by show _ + 640 ≤ 11200; omega⟩) hX hT (fun u_2 H locs hu hX hT => ?_)
        obtain ⟨b_2, n_2, c_2, f_2⟩ := u_2
        obtain ⟨hu1, hu2, hu3, hu4, hf⟩ := hu
        replace hu1 : n_2 ≤ n1 + 10 := hu1
        replace hu2 : n_2 ≤ c_2 := hu2
        replace hu3 : c1 ≤ c_2 := hu3
        replace hu4 : c_2 ≤ 320 := hu4
        replace hf : sb_Fit f_2 := hf
        refine lv_iinc (v := nI (k + 1)) (lv' := [(3, .int (nI (k + 1))), (0, .ref (ad (3 * i))), (1, .ref (ad (24 + 5 * j))), (2, .ref a9)]) hx hb dX2_lotsTold_25 hl (k := 3) rfl (nI_1 k) (by decide) rfl (fun ls hl => ?_)
        refine lv_goto (tgt := 10) hx hb dX2_lotsTold_28 (by decide) ?_
        refine W.widen (k := 2 + 4 * (k + 1)) (n := (4 + 640 * (k + 1)) + 2 * c_2) (by omega) (by omega) ?_
        exact ih10  (k + 1) b_2 n_2 c_2 f_2 (by omega) (by omega) (by omega) hf _ _ (by omega) hX hT _ (lv_sub hl [1, 2, 3, 0] rfl)
  refine W.widen (k := 2 + 4 * 0) (n := (4 + 640 * 0) + 2 * 16) (by omega) (by omega) ?_
  exact loop10 (16 + 1) 0 b0 0 16 (fun _ => 0) (by omega) (by omega) (by omega) hf _ _ (by omega) hX hT _ (lv_sub hl [2, 3, 1, 0] rfl)
set_option maxHeartbeats 4000000 in
set_option maxRecDepth 100000 in
theorem m_X4_groups (l : Launch) (dC : Nat → ClassId) (dI : Nat → Nat → Nat) (cB : ClassId) (ad : Nat → Nat) (S : XS) (i j : Nat) (hi : i < 3) (hj : j < 4) (hI : InvX S) : Met l yX4_groups wsX4_groups ({ frames := 9, cells := 80, slots := 11200, locals := 195 } : Room) (va_Pc [.ref (ad 57), .int (nI i), .int (nI j)] (PT dC dI cB ad S)) (va_Qr (fun S1 : XS => S1 = S) (fun S1 _ t => PX dC dI ad S1 t) (AX ad)) 80 11200 (AX ad) := by
  refine Met.ofW (cc := cX4_groups) (maxL := 4) (ret := (some (.object "java/lang/String"))) pl_X4 rfl ?_
  intro p e s m args below meth c s₁ B hml hv
  obtain ⟨rfl, hPT⟩ := hv
  have hx := B.exec
  have hb := B.bytes
  have hr := B.returns
  have hts := atoms_spec (ws := wsX4_groups) B.pre
  have hown : s.vm.findClass RX4 = some m.cls := findClass_of_methodNamed B.named
  have hlocks := B.notSynchronized
  have hN : NT s := hPT.2.2.2
  have hX := WX.ofT hPT
  have hT := TB.of hPT
  have hl := lv_entry ([.ref (ad 57), .int (nI i), .int (nI j)]) (n := 4) (Nat.le_of_ble_eq_true rfl)
  rw [lg_entry_eq]
  generalize (lg_sl ([.ref (ad 57), .int (nI i), .int (nI j)]) ++ List.replicate (4 - (lg_sl ([.ref (ad 57), .int (nI i), .int (nI j)])).length) Slot.unset).toArray = ls at hl ⊢
  have hl : lv_has ls 4 [(0, .ref (ad 57)), (1, .int (nI i)), (2, .int (nI j))] := hl
  show W p l e ({ frames := 9, cells := 80, slots := 11200, locals := 195 } : Room) s m ([.ref (ad 57), .int (nI i), .int (nI j)]).toArray below meth c s.heap [] 0 0 (MQ below (va_Qr (fun S1 : XS => S1 = S) (fun S1 _ t => PX dC dI ad S1 t) (AX ad)) ([.ref (ad 57), .int (nI i), .int (nI j)]).toArray s 80 11200 (AX ad)) (F0 m 0 ls [])
  refine lv_aload_n hx hb dX4_groups_0 rfl (lv_at hl 0 rfl) ?_
  refine lv_iload_n hx hb dX4_groups_1 rfl (lv_at hl 1 rfl) ?_
  refine va_csr (va_Run.run (va_runV (As := [.int (nI i)]) (rest := []) ⟨hx, hb, hml, hown, hts⟩ (m_X4_rowAt l dC dI ad S i (by omega)) (cwV 1 hts gX4_groups_X4_rowAt rfl rfl rfl hdX4_rowAt_1 ⟨Nat.le_of_ble_eq_true rfl, Nat.le_of_ble_eq_true rfl⟩) (hX.preTop 57 6 (by decide) (by decide) rfl rfl) rfl rfl hl.1 rfl (lv_room (Nat.le_of_ble_eq_true rfl)) dX4_groups_2 ⟨by show _ ≤ 80; omega, by show _ ≤ 11200; omega⟩)) (fun k_ hk_ => ?_)
  rw [hk_]
  refine lv_astore_n (lv' := [(3, .ref (ad (3 * i))), (0, .ref (ad 57)), (1, .int (nI i)), (2, .int (nI j))]) hx hb dX4_groups_5 rfl hl (by decide) rfl (fun ls hl => ?_)
  refine lv_aload_n hx hb dX4_groups_6 rfl (lv_at hl 0 rfl) ?_
  refine lv_aload_n hx hb dX4_groups_7 rfl (lv_at hl 1 rfl) ?_
  refine lv_iload_n hx hb dX4_groups_8 rfl (lv_at hl 3 rfl) ?_
  refine va_csr (va_Run.run (va_runV (As := [.int (nI j)]) (rest := [.ref (ad (3 * i))]) ⟨hx, hb, hml, hown, hts⟩ (m_X4_orderAt l dC dI ad S j (by omega)) (cwV 1 hts gX4_groups_X4_orderAt rfl rfl rfl hdX4_orderAt_1 ⟨Nat.le_of_ble_eq_true rfl, Nat.le_of_ble_eq_true rfl⟩) (hX.preTop 57 6 (by decide) (by decide) rfl rfl) rfl rfl hl.1 rfl (lv_room (Nat.le_of_ble_eq_true rfl)) dX4_groups_9 ⟨by show _ ≤ 80; omega, by show _ ≤ 11200; omega⟩)) (fun k_ hk_ => ?_)
  rw [hk_]
  refine kt_t (va_runV (As := [.ref (ad (24 + 5 * j))]) (rest := []) ⟨hx, hb, hml, hown, hts⟩ (m_X2_lotsTold l dC dI cB ad S i j (by omega) (by omega) hI) (cwV 1 hts gX4_groups_X2_lotsTold rfl rfl rfl hdX2_lotsTold_1 ⟨Nat.le_of_ble_eq_true rfl, Nat.le_of_ble_eq_true rfl⟩) (hT.preRow hX hN (by omega)) rfl rfl hl.1 rfl (lv_room (Nat.le_of_ble_eq_true rfl)) dX4_groups_12 ⟨by show 0 + _ ≤ _; simp, by show 0 + _ ≤ _; simp⟩) hX hT (fun S1 q9 H locs hS9 hX hT => ?_)
  rw [hS9] at hX
  exact W.widen (k := 80) (n := 11200) (by omega) (by omega) (W.filt (fun locs1 hl1 => W.aret (v := .ref q9) hx hb hr (Or.inl ⟨_, rfl⟩) (Or.inr ⟨_, rfl⟩) (fun t9 ht9 hW9 => ⟨⟨S, _, rfl, rfl, hX.P ht9 hW9⟩, (hX.2.2.2.F ht9).X⟩) (free_X hX.2.2.2 hl1) dX4_groups_15))
end
