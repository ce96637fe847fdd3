section
/-! what is asked of rows -/
def seqB (c v : Nat → Nat) (n : Nat) : Bool := decide (∀ q, q < n - 1 → c (v q) ≤ c (v (q + 1)))
def firstB (c v : Nat → Nat) (k : Nat) : Bool := decide (∀ q, q < k → c (v q) ≠ c (v k))
theorem seq_s {f : Nat → Nat} {k : Nat} (h1 : 1 ≤ k) (h : ∀ q, q + 1 < k → f q ≤ f (q + 1)) (hk : f (k - 1) ≤ f k) : ∀ q, q + 1 < k + 1 → f q ≤ f (q + 1) := by
  intro q hq
  by_cases e : q + 1 = k
  · subst e
    rw [Nat.add_sub_cancel] at hk
    exact hk
  · exact h q (by omega)
def sideB (h a b : Nat) : Bool := match h with
  | 0 => decide (a < b)
  | 1 => decide (a ≤ b)
  | 2 => decide (b ≤ a)
  | _ => decide (b < a)
def nearB (h a b : Nat) : Bool := if h ≤ 1 then decide (b < a) else decide (a < b)
theorem near_lot {h a b : Nat} (hh : h ≤ 1) (h2 : b < a) : bI true = bI (nearB h a b) := by rw [nearB, if_pos hh, decide_eq_true h2]
theorem near_lof {h a b : Nat} (hh : h ≤ 1) (h2 : ¬ b < a) : bI false = bI (nearB h a b) := by rw [nearB, if_pos hh, decide_eq_false h2]
theorem near_hit {h a b : Nat} (hh : 1 < h) (h2 : a < b) : bI true = bI (nearB h a b) := by rw [nearB, if_neg (by omega), decide_eq_true h2]
theorem near_hif {h a b : Nat} (hh : 1 < h) (h2 : ¬ a < b) : bI false = bI (nearB h a b) := by rw [nearB, if_neg (by omega), decide_eq_false h2]
def rev (f : Nat → Nat) (n a : Nat) : Nat → Nat := fun k => if k < n ∧ (k < a ∨ n - 1 - k < a) then f (n - 1 - k) else f k
theorem rev_a0 (f : Nat → Nat) (n : Nat) : rev f n 0 = f := by
  funext k
  unfold rev
  rw [if_neg (by omega)]
theorem rev_z (f : Nat → Nat) {n : Nat} (h : n = 0) : rev f n n = f := by
  funext k
  unfold rev
  rw [if_neg (by omega)]
theorem rev_end (f : Nat → Nat) {n a : Nat} (h : n - 1 - a ≤ a) : rev f n a = rev f n n := by
  funext k
  unfold rev
  by_cases hk : k < n
  · rw [if_pos (show k < n ∧ (k < n ∨ n - 1 - k < n) by omega)]
    by_cases h2 : k < n ∧ (k < a ∨ n - 1 - k < a)
    · rw [if_pos h2]
    · rw [if_neg h2, show n - 1 - k = k by omega]
  · rw [if_neg (by omega), if_neg (by omega)]
theorem rev_up (f : Nat → Nat) {n a : Nat} (h : a < n - 1 - a) : xch (rev f n a) a (n - 1 - a) = rev f n (a + 1) := by
  funext k
  unfold xch va_up
  by_cases h1 : k = n - 1 - a
  · subst h1
    rw [if_pos rfl]
    unfold rev
    rw [if_neg (by omega), if_pos (by omega), show n - 1 - (n - 1 - a) = a by omega]
  · rw [if_neg h1]
    by_cases h2 : k = a
    · subst h2
      rw [if_pos rfl]
      unfold rev
      rw [if_neg (by omega), if_pos (by omega)]
    · rw [if_neg h2]
      unfold rev
      by_cases h3 : k < n ∧ (k < a ∨ n - 1 - k < a)
      · rw [if_pos h3, if_pos (by omega)]
      · rw [if_neg h3, if_neg (by omega)]
theorem nI_nm1 {k : Nat} (h : k < 2 ^ 31) : ¬ nI k = (-1) := fun e => absurd (show nI k < 0 by rw [e]; decide) (nI_pos h)
set_option maxHeartbeats 4000000 in
set_option maxRecDepth 100000 in
theorem m_X2_placesUnlike (l : Launch) (dC : Nat → ClassId) (dI : Nat → Nat → Nat) (ad : Nat → Nat) (S : XS) (i t : Nat) (hi : i < 8) (ht : t < 8) (hro : rowOK (S.1 i)) (hro2 : rowOK (S.1 t)) : Met l yX2_placesUnlike wsX2_placesUnlike ({ frames := 1, cells := 0, slots := 0, locals := 21 } : Room) (va_Pc [.ref (ad (3 * i)), .ref (ad (3 * t))] (PX dC dI ad S)) (vp_Si (fun r => r = nI (cntB (fun k => decide ((S.1 i).2.1 k ≠ (S.1 t).2.1 k)) (S.1 i).2.2))) 0 0 (fun _ => False) := by
  refine Met.ofW (cc := cX2_placesUnlike) (maxL := 4) (ret := (some .int)) pl_X2 rfl ?_
  intro p e s m args below meth c s₁ B hml hv
  obtain ⟨rfl, hPX⟩ := hv
  have hx := B.exec
  have hb := B.bytes
  have hr := B.returns
  have hts := atoms_spec (ws := wsX2_placesUnlike) B.pre
  have hown : s.vm.findClass RX2 = some m.cls := findClass_of_methodNamed B.named
  have hlocks := B.notSynchronized
  have hin2 : ∀ w ∈ u_ws RX2 TX2 3, w ∈ wsX2_placesUnlike := tu 1322 (by decide +kernel) rfl
  have hX := WX.of hPX
  have hl := lv_entry ([.ref (ad (3 * i)), .ref (ad (3 * t))]) (n := 4) (Nat.le_of_ble_eq_true rfl)
  rw [lg_entry_eq]
  generalize (lg_sl ([.ref (ad (3 * i)), .ref (ad (3 * t))]) ++ List.replicate (4 - (lg_sl ([.ref (ad (3 * i)), .ref (ad (3 * t))])).length) Slot.unset).toArray = ls at hl ⊢
  have hl : lv_has ls 4 [(0, .ref (ad (3 * i))), (1, .ref (ad (3 * t)))] := hl
  show W p l e ({ frames := 1, cells := 0, slots := 0, locals := 21 } : Room) s m ([.ref (ad (3 * i)), .ref (ad (3 * t))]).toArray below meth c s.heap [] 0 0 (MQ below (vp_Si (fun r => r = nI (cntB (fun k => decide ((S.1 i).2.1 k ≠ (S.1 t).2.1 k)) (S.1 i).2.2))) ([.ref (ad (3 * i)), .ref (ad (3 * t))]).toArray s 0 0 (fun _ => False)) (F0 m 0 ls [])
  have hn := hro.1
  have hm := fun k hk => (hro.2 k hk).2
  have hm2 := fun k hk => (hro2.2 k hk).2
  refine lv_iconst (v := nI 0) hx hb dX2_placesUnlike_0 (by decide) ?_
  refine lv_istore_n (lv' := [(2, .int (nI 0)), (0, .ref (ad (3 * i))), (1, .ref (ad (3 * t)))]) hx hb dX2_placesUnlike_1 rfl hl (by decide) rfl (fun ls hl => ?_)
  refine lv_iconst (v := nI 0) hx hb dX2_placesUnlike_2 (by decide) ?_
  refine lv_istore_n (lv' := [(3, .int (nI 0)), (2, .int (nI 0)), (0, .ref (ad (3 * i))), (1, .ref (ad (3 * t)))]) hx hb dX2_placesUnlike_3 rfl hl (by decide) rfl (fun ls hl => ?_)
  have loop4 : ∀ (fuel : Nat) (q k : Nat) (hk : k ≤ (S.1 i).2.2) (hq : q = cntB (fun k => decide ((S.1 i).2.1 k ≠ (S.1 t).2.1 k)) k), (S.1 i).2.2 - k < fuel → ∀ ls : Array Slot, lv_has ls 4 [(0, .ref (ad (3 * i))), (1, .ref (ad (3 * t))), (2, .int (nI q)), (3, .int (nI k))] → W p l e ({ frames := 1, cells := 0, slots := 0, locals := 21 } : Room) s m ([.ref (ad (3 * i)), .ref (ad (3 * t))]).toArray below meth c s.heap [] 0 0 (MQ below (vp_Si (fun r => r = nI (cntB (fun k => decide ((S.1 i).2.1 k ≠ (S.1 t).2.1 k)) (S.1 i).2.2))) ([.ref (ad (3 * i)), .ref (ad (3 * t))]).toArray s 0 0 (fun _ => False)) (F0 m 4 ls []) := by
    intro fuel
    induction fuel with
    | zero => intro q k hk hq hf; exact absurd hf (Nat.not_lt_zero _)
    | succ fuel ih4 =>
      intro q k hk hq hf ls hl
      refine lv_iload_n hx hb dX2_placesUnlike_4 rfl (lv_at hl 3 rfl) ?_
      refine lv_aload_n hx hb dX2_placesUnlike_5 rfl (lv_at hl 0 rfl) ?_
      refine kr_gn (n := (S.1 i).2.2) hx hb hts hin2 hown hX hi rfl (hts (.fieldLink RX2 18 "Orderlattice$Row" "many" "I") (tm 27 (by decide +kernel) rfl)) dX2_placesUnlike_6 ?_
      refine kn_icmp_ge (tgt := 34) hx hb (by omega) (by omega) dX2_placesUnlike_9 (by decide) (fun c1 => ?_) (fun c1 => ?_)
      · skip
        refine lv_iload_n hx hb dX2_placesUnlike_34 rfl (lv_at hl 2 rfl) ?_
        exact W.iret (v := nI q) hx hb hr (fun t9 ht9 hW9 => ⟨_, rfl, (by rw [hq, show k = (S.1 i).2.2 by omega]), ht9⟩) (fun _ h => nomatch h) dX2_placesUnlike_35
      · skip
        refine lv_aload_n hx hb dX2_placesUnlike_12 rfl (lv_at hl 0 rfl) ?_
        refine lv_iload_n hx hb dX2_placesUnlike_13 rfl (lv_at hl 3 rfl) ?_
        refine kx_cr (v := nI (((S.1 i).2.1) k)) (va_runV (As := [.int (nI k)]) (rest := []) ⟨hx, hb, hml, hown, hts⟩ (m_X2_markOn l dC dI ad S i k hi (by omega)) (cwV 1 hts gX2_placesUnlike_X2_markOn rfl rfl rfl hdX2_markOn_1 ⟨Nat.le_of_ble_eq_true rfl, Nat.le_of_ble_eq_true rfl⟩) (hX.preRow hi) rfl rfl hl.1 rfl (lv_room (Nat.le_of_ble_eq_true rfl)) dX2_placesUnlike_14 ⟨Nat.le_of_ble_eq_true rfl, Nat.le_of_ble_eq_true rfl⟩) (fun _ h => h) ?_
        refine lv_aload_n hx hb dX2_placesUnlike_17 rfl (lv_at hl 1 rfl) ?_
        refine lv_iload_n hx hb dX2_placesUnlike_18 rfl (lv_at hl 3 rfl) ?_
        refine kx_cr (v := nI (((S.1 t).2.1) k)) (va_runV (As := [.int (nI k)]) (rest := [.int (nI (((S.1 i).2.1) k))]) ⟨hx, hb, hml, hown, hts⟩ (m_X2_markOn l dC dI ad S t k ht (by omega)) (cwV 1 hts gX2_placesUnlike_X2_markOn rfl rfl rfl hdX2_markOn_1 ⟨Nat.le_of_ble_eq_true rfl, Nat.le_of_ble_eq_true rfl⟩) (hX.preRow ht) rfl rfl hl.1 rfl (lv_room (Nat.le_of_ble_eq_true rfl)) dX2_placesUnlike_19 ⟨Nat.le_of_ble_eq_true rfl, Nat.le_of_ble_eq_true rfl⟩) (fun _ h => h) ?_
        have h1 := hm k (by omega)
        have h2 := hm2 k (by omega)
        refine kn_icmp_eq (tgt := 28) hx hb (by omega) (by omega) dX2_placesUnlike_22 (by decide) (fun c2 => ?_) (fun c2 => ?_)
        · skip
          have hc := c2
          refine lv_iinc (v := nI (k + 1)) (lv' := [(3, .int (nI (k + 1))), (0, .ref (ad (3 * i))), (1, .ref (ad (3 * t))), (2, .int (nI q))]) hx hb dX2_placesUnlike_28 hl (k := 3) rfl (nI_1 k) (by decide) rfl (fun ls hl => ?_)
          refine lv_goto (tgt := 4) hx hb dX2_placesUnlike_31 (by decide) ?_
          exact ih4  q (k + 1) (by omega) (by rw [cntB_f (decide_eq_false (fun z => z hc)), hq]) (by omega) _ (lv_sub hl [1, 2, 3, 0] rfl)
        · skip
          have hc := c2
          refine lv_iinc (v := nI (q + 1)) (lv' := [(2, .int (nI (q + 1))), (0, .ref (ad (3 * i))), (1, .ref (ad (3 * t))), (3, .int (nI k))]) hx hb dX2_placesUnlike_25 hl (k := 2) rfl (nI_1 q) (by decide) rfl (fun ls hl => ?_)
          refine lv_iinc (v := nI (k + 1)) (lv' := [(3, .int (nI (k + 1))), (2, .int (nI (q + 1))), (0, .ref (ad (3 * i))), (1, .ref (ad (3 * t)))]) hx hb dX2_placesUnlike_28 hl (k := 3) rfl (nI_1 k) (by decide) rfl (fun ls hl => ?_)
          refine lv_goto (tgt := 4) hx hb dX2_placesUnlike_31 (by decide) ?_
          exact ih4  (q + 1) (k + 1) (by omega) (by rw [cntB_t (decide_eq_true hc), hq]) (by omega) _ (lv_sub hl [2, 3, 1, 0] rfl)
  exact loop4 ((S.1 i).2.2 - 0 + 1) 0 0 (by omega) rfl (by omega) _ (lv_sub hl [2, 3, 1, 0] rfl)
set_option maxHeartbeats 4000000 in
set_option maxRecDepth 100000 in
theorem m_X2_isLike (l : Launch) (dC : Nat → ClassId) (dI : Nat → Nat → Nat) (ad : Nat → Nat) (S : XS) (i t : Nat) (hi : i < 8) (ht : t < 8) (hro : rowOK (S.1 i)) (hro2 : rowOK (S.1 t)) : Met l yX2_isLike wsX2_isLike ({ frames := 1, cells := 0, slots := 0, locals := 21 } : Room) (va_Pc [.ref (ad (3 * i)), .ref (ad (3 * t))] (PX dC dI ad S)) (vp_Si (fun r => r = bI (decide ((S.1 i).2.2 = (S.1 t).2.2 ∧ ∀ k, k < (S.1 i).2.2 → (S.1 i).2.1 k = (S.1 t).2.1 k ∧ (S.1 i).1 k = (S.1 t).1 k)))) 0 0 (fun _ => False) := by
  refine Met.ofW (cc := cX2_isLike) (maxL := 3) (ret := (some .boolean)) pl_X2 rfl ?_
  intro p e s m args below meth c s₁ B hml hv
  obtain ⟨rfl, hPX⟩ := hv
  have hx := B.exec
  have hb := B.bytes
  have hr := B.returns
  have hts := atoms_spec (ws := wsX2_isLike) B.pre
  have hown : s.vm.findClass RX2 = some m.cls := findClass_of_methodNamed B.named
  have hlocks := B.notSynchronized
  have hin2 : ∀ w ∈ u_ws RX2 TX2 3, w ∈ wsX2_isLike := tu 1322 (by decide +kernel) rfl
  have hX := WX.of hPX
  have hl := lv_entry ([.ref (ad (3 * i)), .ref (ad (3 * t))]) (n := 3) (Nat.le_of_ble_eq_true rfl)
  rw [lg_entry_eq]
  generalize (lg_sl ([.ref (ad (3 * i)), .ref (ad (3 * t))]) ++ List.replicate (3 - (lg_sl ([.ref (ad (3 * i)), .ref (ad (3 * t))])).length) Slot.unset).toArray = ls at hl ⊢
  have hl : lv_has ls 3 [(0, .ref (ad (3 * i))), (1, .ref (ad (3 * t)))] := hl
  show W p l e ({ frames := 1, cells := 0, slots := 0, locals := 21 } : Room) s m ([.ref (ad (3 * i)), .ref (ad (3 * t))]).toArray below meth c s.heap [] 0 0 (MQ below (vp_Si (fun r => r = bI (decide ((S.1 i).2.2 = (S.1 t).2.2 ∧ ∀ k, k < (S.1 i).2.2 → (S.1 i).2.1 k = (S.1 t).2.1 k ∧ (S.1 i).1 k = (S.1 t).1 k)))) ([.ref (ad (3 * i)), .ref (ad (3 * t))]).toArray s 0 0 (fun _ => False)) (F0 m 0 ls [])
  have hn := hro.1
  have hn2 := hro2.1
  have hm := fun k hk => (hro.2 k hk)
  have hm2 := fun k hk => (hro2.2 k hk)
  refine lv_aload_n hx hb dX2_isLike_0 rfl (lv_at hl 0 rfl) ?_
  refine kr_gn (n := (S.1 i).2.2) hx hb hts hin2 hown hX hi rfl (hts (.fieldLink RX2 18 "Orderlattice$Row" "many" "I") (tm 27 (by decide +kernel) rfl)) dX2_isLike_1 ?_
  refine lv_aload_n hx hb dX2_isLike_4 rfl (lv_at hl 1 rfl) ?_
  refine kx_cr (v := nI ((S.1 t).2.2)) (va_runV (As := []) (rest := [.int (nI ((S.1 i).2.2))]) ⟨hx, hb, hml, hown, hts⟩ (m_X2_length l dC dI ad S t ht) (cwV 0 hts gX2_isLike_X2_length rfl rfl rfl hdX2_length_0 ⟨Nat.le_of_ble_eq_true rfl, Nat.le_of_ble_eq_true rfl⟩) (hX.preRow ht) rfl rfl hl.1 rfl (lv_room (Nat.le_of_ble_eq_true rfl)) dX2_isLike_5 ⟨Nat.le_of_ble_eq_true rfl, Nat.le_of_ble_eq_true rfl⟩) (fun _ h => h) ?_
  refine kn_icmp_eq (tgt := 13) hx hb (by omega) (by omega) dX2_isLike_8 (by decide) (fun c1 => ?_) (fun c1 => ?_)
  · skip
    have he := c1
    refine lv_iconst (v := nI 0) hx hb dX2_isLike_13 (by decide) ?_
    refine lv_istore_n (lv' := [(2, .int (nI 0)), (0, .ref (ad (3 * i))), (1, .ref (ad (3 * t)))]) hx hb dX2_isLike_14 rfl hl (by decide) rfl (fun ls hl => ?_)
    have loop15 : ∀ (fuel : Nat) (k : Nat) (hk : k ≤ (S.1 i).2.2) (hq : ∀ q, q < k → (S.1 i).2.1 q = (S.1 t).2.1 q ∧ (S.1 i).1 q = (S.1 t).1 q), (S.1 i).2.2 - k < fuel → ∀ ls : Array Slot, lv_has ls 3 [(0, .ref (ad (3 * i))), (1, .ref (ad (3 * t))), (2, .int (nI k))] → W p l e ({ frames := 1, cells := 0, slots := 0, locals := 21 } : Room) s m ([.ref (ad (3 * i)), .ref (ad (3 * t))]).toArray below meth c s.heap [] 0 0 (MQ below (vp_Si (fun r => r = bI (decide ((S.1 i).2.2 = (S.1 t).2.2 ∧ ∀ k, k < (S.1 i).2.2 → (S.1 i).2.1 k = (S.1 t).2.1 k ∧ (S.1 i).1 k = (S.1 t).1 k)))) ([.ref (ad (3 * i)), .ref (ad (3 * t))]).toArray s 0 0 (fun _ => False)) (F0 m 15 ls []) := by
      intro fuel
      induction fuel with
      | zero => intro k hk hq hf; exact absurd hf (Nat.not_lt_zero _)
      | succ fuel ih15 =>
        intro k hk hq hf ls hl
        refine lv_iload_n hx hb dX2_isLike_15 rfl (lv_at hl 2 rfl) ?_
        refine lv_aload_n hx hb dX2_isLike_16 rfl (lv_at hl 0 rfl) ?_
        refine kr_gn (n := (S.1 i).2.2) hx hb hts hin2 hown hX hi rfl (hts (.fieldLink RX2 18 "Orderlattice$Row" "many" "I") (tm 27 (by decide +kernel) rfl)) dX2_isLike_17 ?_
        refine kn_icmp_ge (tgt := 57) hx hb (by omega) (by omega) dX2_isLike_20 (by decide) (fun c2 => ?_) (fun c2 => ?_)
        · skip
          refine lv_iconst (v := nI 1) hx hb dX2_isLike_57 (by decide) ?_
          exact W.zret (v := bI true) hx hb hr (bI_narrow _) (fun t9 ht9 hW9 => ⟨_, rfl, (kd_t ⟨he, fun q h => hq q (by omega)⟩), ht9⟩) (fun _ h => nomatch h) dX2_isLike_58
        · skip
          refine lv_aload_n hx hb dX2_isLike_23 rfl (lv_at hl 0 rfl) ?_
          refine lv_iload_n hx hb dX2_isLike_24 rfl (lv_at hl 2 rfl) ?_
          refine kx_cr (v := nI (((S.1 i).2.1) k)) (va_runV (As := [.int (nI k)]) (rest := []) ⟨hx, hb, hml, hown, hts⟩ (m_X2_markOn l dC dI ad S i k hi (by omega)) (cwV 1 hts gX2_isLike_X2_markOn rfl rfl rfl hdX2_markOn_1 ⟨Nat.le_of_ble_eq_true rfl, Nat.le_of_ble_eq_true rfl⟩) (hX.preRow hi) rfl rfl hl.1 rfl (lv_room (Nat.le_of_ble_eq_true rfl)) dX2_isLike_25 ⟨Nat.le_of_ble_eq_true rfl, Nat.le_of_ble_eq_true rfl⟩) (fun _ h => h) ?_
          refine lv_aload_n hx hb dX2_isLike_28 rfl (lv_at hl 1 rfl) ?_
          refine lv_iload_n hx hb dX2_isLike_29 rfl (lv_at hl 2 rfl) ?_
          refine kx_cr (v := nI (((S.1 t).2.1) k)) (va_runV (As := [.int (nI k)]) (rest := [.int (nI (((S.1 i).2.1) k))]) ⟨hx, hb, hml, hown, hts⟩ (m_X2_markOn l dC dI ad S t k ht (by omega)) (cwV 1 hts gX2_isLike_X2_markOn rfl rfl rfl hdX2_markOn_1 ⟨Nat.le_of_ble_eq_true rfl, Nat.le_of_ble_eq_true rfl⟩) (hX.preRow ht) rfl rfl hl.1 rfl (lv_room (Nat.le_of_ble_eq_true rfl)) dX2_isLike_30 ⟨Nat.le_of_ble_eq_true rfl, Nat.le_of_ble_eq_true rfl⟩) (fun _ h => h) ?_
          have h1 := hm k (by omega)
          have h2 := hm2 k (by omega)
          refine kn_icmp_ne (tgt := 49) hx hb (by omega) (by omega) dX2_isLike_33 (by decide) (fun c3 => ?_) (fun c3 => ?_)
          · skip
            have hc := c3
            refine lv_iconst (v := nI 0) hx hb dX2_isLike_49 (by decide) ?_
            exact W.zret (v := bI false) hx hb hr (bI_narrow _) (fun t9 ht9 hW9 => ⟨_, rfl, (kd_f (fun z => hc (z.2 k (by omega)).1)), ht9⟩) (fun _ h => nomatch h) dX2_isLike_50
          · skip
            have hc := c3
            refine lv_aload_n hx hb dX2_isLike_36 rfl (lv_at hl 0 rfl) ?_
            refine lv_iload_n hx hb dX2_isLike_37 rfl (lv_at hl 2 rfl) ?_
            refine kx_cr (v := nI (((S.1 i).1) k)) (va_runV (As := [.int (nI k)]) (rest := []) ⟨hx, hb, hml, hown, hts⟩ (m_X2_valueOn l dC dI ad S i k hi (by omega)) (cwV 1 hts gX2_isLike_X2_valueOn rfl rfl rfl hdX2_valueOn_1 ⟨Nat.le_of_ble_eq_true rfl, Nat.le_of_ble_eq_true rfl⟩) (hX.preRow hi) rfl rfl hl.1 rfl (lv_room (Nat.le_of_ble_eq_true rfl)) dX2_isLike_38 ⟨Nat.le_of_ble_eq_true rfl, Nat.le_of_ble_eq_true rfl⟩) (fun _ h => h) ?_
            refine lv_aload_n hx hb dX2_isLike_41 rfl (lv_at hl 1 rfl) ?_
            refine lv_iload_n hx hb dX2_isLike_42 rfl (lv_at hl 2 rfl) ?_
            refine kx_cr (v := nI (((S.1 t).1) k)) (va_runV (As := [.int (nI k)]) (rest := [.int (nI (((S.1 i).1) k))]) ⟨hx, hb, hml, hown, hts⟩ (m_X2_valueOn l dC dI ad S t k ht (by omega)) (cwV 1 hts gX2_isLike_X2_valueOn rfl rfl rfl hdX2_valueOn_1 ⟨Nat.le_of_ble_eq_true rfl, Nat.le_of_ble_eq_true rfl⟩) (hX.preRow ht) rfl rfl hl.1 rfl (lv_room (Nat.le_of_ble_eq_true rfl)) dX2_isLike_43 ⟨Nat.le_of_ble_eq_true rfl, Nat.le_of_ble_eq_true rfl⟩) (fun _ h => h) ?_
            refine kn_icmp_eq (tgt := 51) hx hb (by omega) (by omega) dX2_isLike_46 (by decide) (fun c4 => ?_) (fun c4 => ?_)
            · skip
              have hd := c4
              refine lv_iinc (v := nI (k + 1)) (lv' := [(2, .int (nI (k + 1))), (0, .ref (ad (3 * i))), (1, .ref (ad (3 * t)))]) hx hb dX2_isLike_51 hl (k := 2) rfl (nI_1 k) (by decide) rfl (fun ls hl => ?_)
              refine lv_goto (tgt := 15) hx hb dX2_isLike_54 (by decide) ?_
              exact ih15  (k + 1) (by omega) (lt_s hq ⟨hc, hd⟩) (by omega) _ (lv_sub hl [1, 2, 0] rfl)
            · skip
              have hd := c4
              refine lv_iconst (v := nI 0) hx hb dX2_isLike_49 (by decide) ?_
              exact W.zret (v := bI false) hx hb hr (bI_narrow _) (fun t9 ht9 hW9 => ⟨_, rfl, (kd_f (fun z => hd (z.2 k (by omega)).2)), ht9⟩) (fun _ h => nomatch h) dX2_isLike_50
    exact loop15 ((S.1 i).2.2 - 0 + 1) 0 (by omega) (fun q h => absurd h (Nat.not_lt_zero q)) (by omega) _ (lv_sub hl [1, 2, 0] rfl)
  · skip
    have he := c1
    refine lv_iconst (v := nI 0) hx hb dX2_isLike_11 (by decide) ?_
    exact W.zret (v := bI false) hx hb hr (bI_narrow _) (fun t9 ht9 hW9 => ⟨_, rfl, (kd_f (fun z => he z.1)), ht9⟩) (fun _ h => nomatch h) dX2_isLike_12
set_option maxHeartbeats 4000000 in
set_option maxRecDepth 100000 in
theorem m_X2_isInSequenceBy (l : Launch) (dC : Nat → ClassId) (dI : Nat → Nat → Nat) (ad : Nat → Nat) (S : XS) (i j : Nat) (hi : i < 8) (hj : j < 6) (hro : rowOK (S.1 i)) (ho : ordOK (S.2.1 j)) : Met l yX2_isInSequenceBy wsX2_isInSequenceBy ({ frames := 1, cells := 0, slots := 0, locals := 26 } : Room) (va_Pc [.ref (ad (3 * i)), .ref (ad (24 + 5 * j))] (PX dC dI ad S)) (vp_Si (fun r => r = bI (seqB (S.2.1 j).2.2.1 (S.1 i).1 (S.1 i).2.2))) 0 0 (fun _ => False) := by
  refine Met.ofW (cc := cX2_isInSequenceBy) (maxL := 3) (ret := (some .boolean)) pl_X2 rfl ?_
  intro p e s m args below meth c s₁ B hml hv
  obtain ⟨rfl, hPX⟩ := hv
  have hx := B.exec
  have hb := B.bytes
  have hr := B.returns
  have hts := atoms_spec (ws := wsX2_isInSequenceBy) B.pre
  have hown : s.vm.findClass RX2 = some m.cls := findClass_of_methodNamed B.named
  have hlocks := B.notSynchronized
  have hin2 : ∀ w ∈ u_ws RX2 TX2 3, w ∈ wsX2_isInSequenceBy := tu 1322 (by decide +kernel) rfl
  have hX := WX.of hPX
  have hl := lv_entry ([.ref (ad (3 * i)), .ref (ad (24 + 5 * j))]) (n := 3) (Nat.le_of_ble_eq_true rfl)
  rw [lg_entry_eq]
  generalize (lg_sl ([.ref (ad (3 * i)), .ref (ad (24 + 5 * j))]) ++ List.replicate (3 - (lg_sl ([.ref (ad (3 * i)), .ref (ad (24 + 5 * j))])).length) Slot.unset).toArray = ls at hl ⊢
  have hl : lv_has ls 3 [(0, .ref (ad (3 * i))), (1, .ref (ad (24 + 5 * j)))] := hl
  show W p l e ({ frames := 1, cells := 0, slots := 0, locals := 26 } : Room) s m ([.ref (ad (3 * i)), .ref (ad (24 + 5 * j))]).toArray below meth c s.heap [] 0 0 (MQ below (vp_Si (fun r => r = bI (seqB (S.2.1 j).2.2.1 (S.1 i).1 (S.1 i).2.2))) ([.ref (ad (3 * i)), .ref (ad (24 + 5 * j))]).toArray s 0 0 (fun _ => False)) (F0 m 0 ls [])
  have hn := hro.1
  refine lv_iconst (v := nI 1) hx hb dX2_isInSequenceBy_0 (by decide) ?_
  refine lv_istore_n (lv' := [(2, .int (nI 1)), (0, .ref (ad (3 * i))), (1, .ref (ad (24 + 5 * j)))]) hx hb dX2_isInSequenceBy_1 rfl hl (by decide) rfl (fun ls hl => ?_)
  have loop2 : ∀ (fuel : Nat) (k : Nat) (hk : 1 ≤ k ∧ (k ≤ (S.1 i).2.2 ∨ k = 1)) (hq : ∀ q, q + 1 < k → (S.2.1 j).2.2.1 ((S.1 i).1 q) ≤ (S.2.1 j).2.2.1 ((S.1 i).1 (q + 1))), 17 - k < fuel → ∀ ls : Array Slot, lv_has ls 3 [(0, .ref (ad (3 * i))), (1, .ref (ad (24 + 5 * j))), (2, .int (nI k))] → W p l e ({ frames := 1, cells := 0, slots := 0, locals := 26 } : Room) s m ([.ref (ad (3 * i)), .ref (ad (24 + 5 * j))]).toArray below meth c s.heap [] 0 0 (MQ below (vp_Si (fun r => r = bI (seqB (S.2.1 j).2.2.1 (S.1 i).1 (S.1 i).2.2))) ([.ref (ad (3 * i)), .ref (ad (24 + 5 * j))]).toArray s 0 0 (fun _ => False)) (F0 m 2 ls []) := by
    intro fuel
    induction fuel with
    | zero => intro k hk hq hf; exact absurd hf (Nat.not_lt_zero _)
    | succ fuel ih2 =>
      intro k hk hq hf ls hl
      refine lv_iload_n hx hb dX2_isInSequenceBy_2 rfl (lv_at hl 2 rfl) ?_
      refine lv_aload_n hx hb dX2_isInSequenceBy_3 rfl (lv_at hl 0 rfl) ?_
      refine kr_gn (n := (S.1 i).2.2) hx hb hts hin2 hown hX hi rfl (hts (.fieldLink RX2 18 "Orderlattice$Row" "many" "I") (tm 27 (by decide +kernel) rfl)) dX2_isInSequenceBy_4 ?_
      refine kn_icmp_ge (tgt := 37) hx hb (by omega) (by omega) dX2_isInSequenceBy_7 (by decide) (fun c1 => ?_) (fun c1 => ?_)
      · skip
        refine lv_iconst (v := nI 1) hx hb dX2_isInSequenceBy_37 (by decide) ?_
        exact W.zret (v := bI true) hx hb hr (bI_narrow _) (fun t9 ht9 hW9 => ⟨_, rfl, (kd_t (fun q h => hq q (by omega))), ht9⟩) (fun _ h => nomatch h) dX2_isInSequenceBy_38
      · skip
        refine lv_aload_n hx hb dX2_isInSequenceBy_10 rfl (lv_at hl 1 rfl) ?_
        refine lv_aload_n hx hb dX2_isInSequenceBy_11 rfl (lv_at hl 0 rfl) ?_
        refine lv_iload_n hx hb dX2_isInSequenceBy_12 rfl (lv_at hl 2 rfl) ?_
        refine kx_cr (v := nI (((S.1 i).1) k)) (va_runV (As := [.int (nI k)]) (rest := [.ref (ad (24 + 5 * j))]) ⟨hx, hb, hml, hown, hts⟩ (m_X2_valueOn l dC dI ad S i k hi (by omega)) (cwV 1 hts gX2_isInSequenceBy_X2_valueOn rfl rfl rfl hdX2_valueOn_1 ⟨Nat.le_of_ble_eq_true rfl, Nat.le_of_ble_eq_true rfl⟩) (hX.preRow hi) rfl rfl hl.1 rfl (lv_room (Nat.le_of_ble_eq_true rfl)) dX2_isInSequenceBy_13 ⟨Nat.le_of_ble_eq_true rfl, Nat.le_of_ble_eq_true rfl⟩) (fun _ h => h) ?_
        refine lv_aload_n hx hb dX2_isInSequenceBy_16 rfl (lv_at hl 0 rfl) ?_
        refine lv_iload_n hx hb dX2_isInSequenceBy_17 rfl (lv_at hl 2 rfl) ?_
        refine lv_iconst (v := nI 1) hx hb dX2_isInSequenceBy_18 (by decide) ?_
        refine kn_isub hx hb (by omega) dX2_isInSequenceBy_19 ?_
        refine kx_cr (v := nI (((S.1 i).1) (k - 1))) (va_runV (As := [.int (nI (k - 1))]) (rest := [.int (nI (((S.1 i).1) k)), .ref (ad (24 + 5 * j))]) ⟨hx, hb, hml, hown, hts⟩ (m_X2_valueOn l dC dI ad S i (k - 1) hi (by omega)) (cwV 1 hts gX2_isInSequenceBy_X2_valueOn rfl rfl rfl hdX2_valueOn_1 ⟨Nat.le_of_ble_eq_true rfl, Nat.le_of_ble_eq_true rfl⟩) (hX.preRow hi) rfl rfl hl.1 rfl (lv_room (Nat.le_of_ble_eq_true rfl)) dX2_isInSequenceBy_20 ⟨Nat.le_of_ble_eq_true rfl, Nat.le_of_ble_eq_true rfl⟩) (fun _ h => h) ?_
        refine kx_cr (v := cmpI (((S.2.1 j).2.2.1) (((S.1 i).1) k)) (((S.2.1 j).2.2.1) (((S.1 i).1) (k - 1)))) (va_runV (As := [.int (nI (((S.1 i).1) k)), .int (nI (((S.1 i).1) (k - 1)))]) (rest := []) ⟨hx, hb, hml, hown, hts⟩ (m_X1_compared l dC dI ad S j (((S.1 i).1) k) (((S.1 i).1) (k - 1)) hj ho (hro.2 _ (by omega)).1 (hro.2 _ (by omega)).1) (cwV 2 hts gX2_isInSequenceBy_X1_compared rfl rfl rfl hdX1_compared_2 ⟨Nat.le_of_ble_eq_true rfl, Nat.le_of_ble_eq_true rfl⟩) (hX.preOrd hj) rfl rfl hl.1 rfl (lv_room (Nat.le_of_ble_eq_true rfl)) dX2_isInSequenceBy_23 ⟨Nat.le_of_ble_eq_true rfl, Nat.le_of_ble_eq_true rfl⟩) (fun _ h => h) ?_
        refine kc_if_ge (tgt := 31) hx hb dX2_isInSequenceBy_26 (by decide) (fun c2 => ?_) (fun c2 => ?_)
        · skip
          have hc := c2
          refine lv_iinc (v := nI (k + 1)) (lv' := [(2, .int (nI (k + 1))), (0, .ref (ad (3 * i))), (1, .ref (ad (24 + 5 * j)))]) hx hb dX2_isInSequenceBy_31 hl (k := 2) rfl (nI_1 k) (by decide) rfl (fun ls hl => ?_)
          refine lv_goto (tgt := 2) hx hb dX2_isInSequenceBy_34 (by decide) ?_
          exact ih2  (k + 1) (by omega) (seq_s (by omega) hq hc) (by omega) _ (lv_sub hl [1, 2, 0] rfl)
        · skip
          have hc := c2
          refine lv_iconst (v := nI 0) hx hb dX2_isInSequenceBy_29 (by decide) ?_
          exact W.zret (v := bI false) hx hb hr (bI_narrow _) (fun t9 ht9 hW9 => ⟨_, rfl, (kd_f (fun z => absurd (z (k - 1) (by omega)) (by rw [show k - 1 + 1 = k by omega]; omega))), ht9⟩) (fun _ h => nomatch h) dX2_isInSequenceBy_30
  exact loop2 (17 + 1) 1 (by omega) (fun q h => absurd h (by omega)) (by omega) _ (lv_sub hl [1, 2, 0] rfl)
set_option maxHeartbeats 4000000 in
set_option maxRecDepth 100000 in
theorem m_X2_hasAlike (l : Launch) (dC : Nat → ClassId) (dI : Nat → Nat → Nat) (ad : Nat → Nat) (S : XS) (i j x : Nat) (hi : i < 8) (hj : j < 6) (hro : rowOK (S.1 i)) (ho : ordOK (S.2.1 j)) (hx9 : x < 16) : Met l yX2_hasAlike wsX2_hasAlike ({ frames := 1, cells := 0, slots := 0, locals := 26 } : Room) (va_Pc [.ref (ad (3 * i)), .ref (ad (24 + 5 * j)), .int (nI x)] (PX dC dI ad S)) (vp_Si (fun r => r = bI (decide (∃ k, k < (S.1 i).2.2 ∧ (S.2.1 j).2.2.1 ((S.1 i).1 k) = (S.2.1 j).2.2.1 x)))) 0 0 (fun _ => False) := by
  refine Met.ofW (cc := cX2_hasAlike) (maxL := 4) (ret := (some .boolean)) pl_X2 rfl ?_
  intro p e s m args below meth c s₁ B hml hv
  obtain ⟨rfl, hPX⟩ := hv
  have hx := B.exec
  have hb := B.bytes
  have hr := B.returns
  have hts := atoms_spec (ws := wsX2_hasAlike) B.pre
  have hown : s.vm.findClass RX2 = some m.cls := findClass_of_methodNamed B.named
  have hlocks := B.notSynchronized
  have hin2 : ∀ w ∈ u_ws RX2 TX2 3, w ∈ wsX2_hasAlike := tu 1322 (by decide +kernel) rfl
  have hX := WX.of hPX
  have hl := lv_entry ([.ref (ad (3 * i)), .ref (ad (24 + 5 * j)), .int (nI x)]) (n := 4) (Nat.le_of_ble_eq_true rfl)
  rw [lg_entry_eq]
  generalize (lg_sl ([.ref (ad (3 * i)), .ref (ad (24 + 5 * j)), .int (nI x)]) ++ List.replicate (4 - (lg_sl ([.ref (ad (3 * i)), .ref (ad (24 + 5 * j)), .int (nI x)])).length) Slot.unset).toArray = ls at hl ⊢
  have hl : lv_has ls 4 [(0, .ref (ad (3 * i))), (1, .ref (ad (24 + 5 * j))), (2, .int (nI x))] := hl
  show W p l e ({ frames := 1, cells := 0, slots := 0, locals := 26 } : Room) s m ([.ref (ad (3 * i)), .ref (ad (24 + 5 * j)), .int (nI x)]).toArray below meth c s.heap [] 0 0 (MQ below (vp_Si (fun r => r = bI (decide (∃ k, k < (S.1 i).2.2 ∧ (S.2.1 j).2.2.1 ((S.1 i).1 k) = (S.2.1 j).2.2.1 x)))) ([.ref (ad (3 * i)), .ref (ad (24 + 5 * j)), .int (nI x)]).toArray s 0 0 (fun _ => False)) (F0 m 0 ls [])
  have hn := hro.1
  refine lv_iconst (v := nI 0) hx hb dX2_hasAlike_0 (by decide) ?_
  refine lv_istore_n (lv' := [(3, .int (nI 0)), (0, .ref (ad (3 * i))), (1, .ref (ad (24 + 5 * j))), (2, .int (nI x))]) hx hb dX2_hasAlike_1 rfl hl (by decide) rfl (fun ls hl => ?_)
  have loop2 : ∀ (fuel : Nat) (k : Nat) (hk : k ≤ (S.1 i).2.2) (hq : ∀ q, q < k → (S.2.1 j).2.2.1 ((S.1 i).1 q) ≠ (S.2.1 j).2.2.1 x), (S.1 i).2.2 - k < fuel → ∀ ls : Array Slot, lv_has ls 4 [(0, .ref (ad (3 * i))), (1, .ref (ad (24 + 5 * j))), (2, .int (nI x)), (3, .int (nI k))] → W p l e ({ frames := 1, cells := 0, slots := 0, locals := 26 } : Room) s m ([.ref (ad (3 * i)), .ref (ad (24 + 5 * j)), .int (nI x)]).toArray below meth c s.heap [] 0 0 (MQ below (vp_Si (fun r => r = bI (decide (∃ k, k < (S.1 i).2.2 ∧ (S.2.1 j).2.2.1 ((S.1 i).1 k) = (S.2.1 j).2.2.1 x)))) ([.ref (ad (3 * i)), .ref (ad (24 + 5 * j)), .int (nI x)]).toArray s 0 0 (fun _ => False)) (F0 m 2 ls []) := by
    intro fuel
    induction fuel with
    | zero => intro k hk hq hf; exact absurd hf (Nat.not_lt_zero _)
    | succ fuel ih2 =>
      intro k hk hq hf ls hl
      refine lv_iload_n hx hb dX2_hasAlike_2 rfl (lv_at hl 3 rfl) ?_
      refine lv_aload_n hx hb dX2_hasAlike_3 rfl (lv_at hl 0 rfl) ?_
      refine kr_gn (n := (S.1 i).2.2) hx hb hts hin2 hown hX hi rfl (hts (.fieldLink RX2 18 "Orderlattice$Row" "many" "I") (tm 27 (by decide +kernel) rfl)) dX2_hasAlike_4 ?_
      refine kn_icmp_ge (tgt := 31) hx hb (by omega) (by omega) dX2_hasAlike_7 (by decide) (fun c1 => ?_) (fun c1 => ?_)
      · skip
        refine lv_iconst (v := nI 0) hx hb dX2_hasAlike_31 (by decide) ?_
        exact W.zret (v := bI false) hx hb hr (bI_narrow _) (fun t9 ht9 hW9 => ⟨_, rfl, (kd_f (fun ⟨q, h1, h2⟩ => hq q (by omega) h2)), ht9⟩) (fun _ h => nomatch h) dX2_hasAlike_32
      · skip
        refine lv_aload_n hx hb dX2_hasAlike_10 rfl (lv_at hl 1 rfl) ?_
        refine lv_aload_n hx hb dX2_hasAlike_11 rfl (lv_at hl 0 rfl) ?_
        refine lv_iload_n hx hb dX2_hasAlike_12 rfl (lv_at hl 3 rfl) ?_
        refine kx_cr (v := nI (((S.1 i).1) k)) (va_runV (As := [.int (nI k)]) (rest := [.ref (ad (24 + 5 * j))]) ⟨hx, hb, hml, hown, hts⟩ (m_X2_valueOn l dC dI ad S i k hi (by omega)) (cwV 1 hts gX2_hasAlike_X2_valueOn rfl rfl rfl hdX2_valueOn_1 ⟨Nat.le_of_ble_eq_true rfl, Nat.le_of_ble_eq_true rfl⟩) (hX.preRow hi) rfl rfl hl.1 rfl (lv_room (Nat.le_of_ble_eq_true rfl)) dX2_hasAlike_13 ⟨Nat.le_of_ble_eq_true rfl, Nat.le_of_ble_eq_true rfl⟩) (fun _ h => h) ?_
        refine lv_iload_n hx hb dX2_hasAlike_16 rfl (lv_at hl 2 rfl) ?_
        refine kx_cr (v := cmpI (((S.2.1 j).2.2.1) (((S.1 i).1) k)) (((S.2.1 j).2.2.1) x)) (va_runV (As := [.int (nI (((S.1 i).1) k)), .int (nI x)]) (rest := []) ⟨hx, hb, hml, hown, hts⟩ (m_X1_compared l dC dI ad S j (((S.1 i).1) k) x hj ho (hro.2 _ (by omega)).1 (by omega)) (cwV 2 hts gX2_hasAlike_X1_compared rfl rfl rfl hdX1_compared_2 ⟨Nat.le_of_ble_eq_true rfl, Nat.le_of_ble_eq_true rfl⟩) (hX.preOrd hj) rfl rfl hl.1 rfl (lv_room (Nat.le_of_ble_eq_true rfl)) dX2_hasAlike_17 ⟨Nat.le_of_ble_eq_true rfl, Nat.le_of_ble_eq_true rfl⟩) (fun _ h => h) ?_
        refine kc_if_ne (tgt := 25) hx hb dX2_hasAlike_20 (by decide) (fun c2 => ?_) (fun c2 => ?_)
        · skip
          have hc := c2
          refine lv_iinc (v := nI (k + 1)) (lv' := [(3, .int (nI (k + 1))), (0, .ref (ad (3 * i))), (1, .ref (ad (24 + 5 * j))), (2, .int (nI x))]) hx hb dX2_hasAlike_25 hl (k := 3) rfl (nI_1 k) (by decide) rfl (fun ls hl => ?_)
          refine lv_goto (tgt := 2) hx hb dX2_hasAlike_28 (by decide) ?_
          exact ih2  (k + 1) (by omega) (lt_s hq hc) (by omega) _ (lv_sub hl [1, 2, 3, 0] rfl)
        · skip
          have hc := c2
          refine lv_iconst (v := nI 1) hx hb dX2_hasAlike_23 (by decide) ?_
          exact W.zret (v := bI true) hx hb hr (bI_narrow _) (fun t9 ht9 hW9 => ⟨_, rfl, (kd_t ⟨k, by omega, hc⟩), ht9⟩) (fun _ h => nomatch h) dX2_hasAlike_24
  exact loop2 ((S.1 i).2.2 - 0 + 1) 0 (by omega) (fun q h => absurd h (Nat.not_lt_zero q)) (by omega) _ (lv_sub hl [1, 2, 3, 0] rfl)
set_option maxHeartbeats 4000000 in
set_option maxRecDepth 100000 in
theorem m_X2_thingsAhead (l : Launch) (dC : Nat → ClassId) (dI : Nat → Nat → Nat) (ad : Nat → Nat) (S : XS) (i j x : Nat) (hi : i < 8) (hj : j < 6) (hro : rowOK (S.1 i)) (ho : ordOK (S.2.1 j)) (hx9 : x < 16) : Met l yX2_thingsAhead wsX2_thingsAhead ({ frames := 1, cells := 0, slots := 0, locals := 26 } : Room) (va_Pc [.ref (ad (3 * i)), .ref (ad (24 + 5 * j)), .int (nI x)] (PX dC dI ad S)) (vp_Si (fun r => r = nI (cntB (fun k => decide ((S.2.1 j).2.2.1 ((S.1 i).1 k) < (S.2.1 j).2.2.1 x)) (S.1 i).2.2))) 0 0 (fun _ => False) := by
  refine Met.ofW (cc := cX2_thingsAhead) (maxL := 5) (ret := (some .int)) pl_X2 rfl ?_
  intro p e s m args below meth c s₁ B hml hv
  obtain ⟨rfl, hPX⟩ := hv
  have hx := B.exec
  have hb := B.bytes
  have hr := B.returns
  have hts := atoms_spec (ws := wsX2_thingsAhead) B.pre
  have hown : s.vm.findClass RX2 = some m.cls := findClass_of_methodNamed B.named
  have hlocks := B.notSynchronized
  have hin2 : ∀ w ∈ u_ws RX2 TX2 3, w ∈ wsX2_thingsAhead := tu 1322 (by decide +kernel) rfl
  have hX := WX.of hPX
  have hl := lv_entry ([.ref (ad (3 * i)), .ref (ad (24 + 5 * j)), .int (nI x)]) (n := 5) (Nat.le_of_ble_eq_true rfl)
  rw [lg_entry_eq]
  generalize (lg_sl ([.ref (ad (3 * i)), .ref (ad (24 + 5 * j)), .int (nI x)]) ++ List.replicate (5 - (lg_sl ([.ref (ad (3 * i)), .ref (ad (24 + 5 * j)), .int (nI x)])).length) Slot.unset).toArray = ls at hl ⊢
  have hl : lv_has ls 5 [(0, .ref (ad (3 * i))), (1, .ref (ad (24 + 5 * j))), (2, .int (nI x))] := hl
  show W p l e ({ frames := 1, cells := 0, slots := 0, locals := 26 } : Room) s m ([.ref (ad (3 * i)), .ref (ad (24 + 5 * j)), .int (nI x)]).toArray below meth c s.heap [] 0 0 (MQ below (vp_Si (fun r => r = nI (cntB (fun k => decide ((S.2.1 j).2.2.1 ((S.1 i).1 k) < (S.2.1 j).2.2.1 x)) (S.1 i).2.2))) ([.ref (ad (3 * i)), .ref (ad (24 + 5 * j)), .int (nI x)]).toArray s 0 0 (fun _ => False)) (F0 m 0 ls [])
  have hn := hro.1
  refine lv_iconst (v := nI 0) hx hb dX2_thingsAhead_0 (by decide) ?_
  refine lv_istore_n (lv' := [(3, .int (nI 0)), (0, .ref (ad (3 * i))), (1, .ref (ad (24 + 5 * j))), (2, .int (nI x))]) hx hb dX2_thingsAhead_1 rfl hl (by decide) rfl (fun ls hl => ?_)
  refine lv_iconst (v := nI 0) hx hb dX2_thingsAhead_2 (by decide) ?_
  refine lv_istore (lv' := [(4, .int (nI 0)), (3, .int (nI 0)), (0, .ref (ad (3 * i))), (1, .ref (ad (24 + 5 * j))), (2, .int (nI x))]) hx hb dX2_thingsAhead_3 hl (by decide) rfl (fun ls hl => ?_)
  have loop5 : ∀ (fuel : Nat) (q k : Nat) (hk : k ≤ (S.1 i).2.2) (hq : q = cntB (fun k => decide ((S.2.1 j).2.2.1 ((S.1 i).1 k) < (S.2.1 j).2.2.1 x)) k), (S.1 i).2.2 - k < fuel → ∀ ls : Array Slot, lv_has ls 5 [(0, .ref (ad (3 * i))), (1, .ref (ad (24 + 5 * j))), (2, .int (nI x)), (3, .int (nI q)), (4, .int (nI k))] → W p l e ({ frames := 1, cells := 0, slots := 0, locals := 26 } : Room) s m ([.ref (ad (3 * i)), .ref (ad (24 + 5 * j)), .int (nI x)]).toArray below meth c s.heap [] 0 0 (MQ below (vp_Si (fun r => r = nI (cntB (fun k => decide ((S.2.1 j).2.2.1 ((S.1 i).1 k) < (S.2.1 j).2.2.1 x)) (S.1 i).2.2))) ([.ref (ad (3 * i)), .ref (ad (24 + 5 * j)), .int (nI x)]).toArray s 0 0 (fun _ => False)) (F0 m 5 ls []) := by
    intro fuel
    induction fuel with
    | zero => intro q k hk hq hf; exact absurd hf (Nat.not_lt_zero _)
    | succ fuel ih5 =>
      intro q k hk hq hf ls hl
      refine lv_iload hx hb dX2_thingsAhead_5 (lv_at hl 4 rfl) ?_
      refine lv_aload_n hx hb dX2_thingsAhead_7 rfl (lv_at hl 0 rfl) ?_
      refine kr_gn (n := (S.1 i).2.2) hx hb hts hin2 hown hX hi rfl (hts (.fieldLink RX2 18 "Orderlattice$Row" "many" "I") (tm 27 (by decide +kernel) rfl)) dX2_thingsAhead_8 ?_
      refine kn_icmp_ge (tgt := 37) hx hb (by omega) (by omega) dX2_thingsAhead_11 (by decide) (fun c1 => ?_) (fun c1 => ?_)
      · skip
        refine lv_iload_n hx hb dX2_thingsAhead_37 rfl (lv_at hl 3 rfl) ?_
        exact W.iret (v := nI q) hx hb hr (fun t9 ht9 hW9 => ⟨_, rfl, (by rw [hq, show k = (S.1 i).2.2 by omega]), ht9⟩) (fun _ h => nomatch h) dX2_thingsAhead_38
      · skip
        refine lv_aload_n hx hb dX2_thingsAhead_14 rfl (lv_at hl 1 rfl) ?_
        refine lv_aload_n hx hb dX2_thingsAhead_15 rfl (lv_at hl 0 rfl) ?_
        refine lv_iload hx hb dX2_thingsAhead_16 (lv_at hl 4 rfl) ?_
        refine kx_cr (v := nI (((S.1 i).1) k)) (va_runV (As := [.int (nI k)]) (rest := [.ref (ad (24 + 5 * j))]) ⟨hx, hb, hml, hown, hts⟩ (m_X2_valueOn l dC dI ad S i k hi (by omega)) (cwV 1 hts gX2_thingsAhead_X2_valueOn rfl rfl rfl hdX2_valueOn_1 ⟨Nat.le_of_ble_eq_true rfl, Nat.le_of_ble_eq_true rfl⟩) (hX.preRow hi) rfl rfl hl.1 rfl (lv_room (Nat.le_of_ble_eq_true rfl)) dX2_thingsAhead_18 ⟨Nat.le_of_ble_eq_true rfl, Nat.le_of_ble_eq_true rfl⟩) (fun _ h => h) ?_
        refine lv_iload_n hx hb dX2_thingsAhead_21 rfl (lv_at hl 2 rfl) ?_
        refine kx_cr (v := cmpI (((S.2.1 j).2.2.1) (((S.1 i).1) k)) (((S.2.1 j).2.2.1) x)) (va_runV (As := [.int (nI (((S.1 i).1) k)), .int (nI x)]) (rest := []) ⟨hx, hb, hml, hown, hts⟩ (m_X1_compared l dC dI ad S j (((S.1 i).1) k) x hj ho (hro.2 _ (by omega)).1 (by omega)) (cwV 2 hts gX2_thingsAhead_X1_compared rfl rfl rfl hdX1_compared_2 ⟨Nat.le_of_ble_eq_true rfl, Nat.le_of_ble_eq_true rfl⟩) (hX.preOrd hj) rfl rfl hl.1 rfl (lv_room (Nat.le_of_ble_eq_true rfl)) dX2_thingsAhead_22 ⟨Nat.le_of_ble_eq_true rfl, Nat.le_of_ble_eq_true rfl⟩) (fun _ h => h) ?_
        refine kc_if_ge (tgt := 31) hx hb dX2_thingsAhead_25 (by decide) (fun c2 => ?_) (fun c2 => ?_)
        · skip
          have hc := c2
          refine lv_iinc (v := nI (k + 1)) (lv' := [(4, .int (nI (k + 1))), (0, .ref (ad (3 * i))), (1, .ref (ad (24 + 5 * j))), (2, .int (nI x)), (3, .int (nI q))]) hx hb dX2_thingsAhead_31 hl (k := 4) rfl (nI_1 k) (by decide) rfl (fun ls hl => ?_)
          refine lv_goto (tgt := 5) hx hb dX2_thingsAhead_34 (by decide) ?_
          exact ih5  q (k + 1) (by omega) (by rw [cntB_f (decide_eq_false (by omega)), hq]) (by omega) _ (lv_sub hl [1, 2, 3, 4, 0] rfl)
        · skip
          have hc := c2
          refine lv_iinc (v := nI (q + 1)) (lv' := [(3, .int (nI (q + 1))), (0, .ref (ad (3 * i))), (1, .ref (ad (24 + 5 * j))), (2, .int (nI x)), (4, .int (nI k))]) hx hb dX2_thingsAhead_28 hl (k := 3) rfl (nI_1 q) (by decide) rfl (fun ls hl => ?_)
          refine lv_iinc (v := nI (k + 1)) (lv' := [(4, .int (nI (k + 1))), (3, .int (nI (q + 1))), (0, .ref (ad (3 * i))), (1, .ref (ad (24 + 5 * j))), (2, .int (nI x))]) hx hb dX2_thingsAhead_31 hl (k := 4) rfl (nI_1 k) (by decide) rfl (fun ls hl => ?_)
          refine lv_goto (tgt := 5) hx hb dX2_thingsAhead_34 (by decide) ?_
          exact ih5  (q + 1) (k + 1) (by omega) (by rw [cntB_t (decide_eq_true hc), hq]) (by omega) _ (lv_sub hl [2, 3, 4, 1, 0] rfl)
  exact loop5 ((S.1 i).2.2 - 0 + 1) 0 0 (by omega) rfl (by omega) _ (lv_sub hl [2, 3, 4, 1, 0] rfl)
set_option maxHeartbeats 4000000 in
set_option maxRecDepth 100000 in
theorem m_X2_isFirstOfLot (l : Launch) (dC : Nat → ClassId) (dI : Nat → Nat → Nat) (ad : Nat → Nat) (S : XS) (i j x : Nat) (hi : i < 8) (hj : j < 6) (hro : rowOK (S.1 i)) (ho : ordOK (S.2.1 j)) (hx9 : x < 16) : Met l yX2_isFirstOfLot wsX2_isFirstOfLot ({ frames := 1, cells := 0, slots := 0, locals := 26 } : Room) (va_Pc [.ref (ad (3 * i)), .ref (ad (24 + 5 * j)), .int (nI x)] (PX dC dI ad S)) (vp_Si (fun r => r = bI (firstB (S.2.1 j).2.2.1 (S.1 i).1 x))) 0 0 (fun _ => False) := by
  refine Met.ofW (cc := cX2_isFirstOfLot) (maxL := 4) (ret := (some .boolean)) pl_X2 rfl ?_
  intro p e s m args below meth c s₁ B hml hv
  obtain ⟨rfl, hPX⟩ := hv
  have hx := B.exec
  have hb := B.bytes
  have hr := B.returns
  have hts := atoms_spec (ws := wsX2_isFirstOfLot) B.pre
  have hown : s.vm.findClass RX2 = some m.cls := findClass_of_methodNamed B.named
  have hlocks := B.notSynchronized
  have hX := WX.of hPX
  have hl := lv_entry ([.ref (ad (3 * i)), .ref (ad (24 + 5 * j)), .int (nI x)]) (n := 4) (Nat.le_of_ble_eq_true rfl)
  rw [lg_entry_eq]
  generalize (lg_sl ([.ref (ad (3 * i)), .ref (ad (24 + 5 * j)), .int (nI x)]) ++ List.replicate (4 - (lg_sl ([.ref (ad (3 * i)), .ref (ad (24 + 5 * j)), .int (nI x)])).length) Slot.unset).toArray = ls at hl ⊢
  have hl : lv_has ls 4 [(0, .ref (ad (3 * i))), (1, .ref (ad (24 + 5 * j))), (2, .int (nI x))] := hl
  show W p l e ({ frames := 1, cells := 0, slots := 0, locals := 26 } : Room) s m ([.ref (ad (3 * i)), .ref (ad (24 + 5 * j)), .int (nI x)]).toArray below meth c s.heap [] 0 0 (MQ below (vp_Si (fun r => r = bI (firstB (S.2.1 j).2.2.1 (S.1 i).1 x))) ([.ref (ad (3 * i)), .ref (ad (24 + 5 * j)), .int (nI x)]).toArray s 0 0 (fun _ => False)) (F0 m 0 ls [])
  have hn := hro.1
  refine lv_iconst (v := nI 0) hx hb dX2_isFirstOfLot_0 (by decide) ?_
  refine lv_istore_n (lv' := [(3, .int (nI 0)), (0, .ref (ad (3 * i))), (1, .ref (ad (24 + 5 * j))), (2, .int (nI x))]) hx hb dX2_isFirstOfLot_1 rfl hl (by decide) rfl (fun ls hl => ?_)
  have loop2 : ∀ (fuel : Nat) (k : Nat) (hk : k ≤ x) (hq : ∀ q, q < k → (S.2.1 j).2.2.1 ((S.1 i).1 q) ≠ (S.2.1 j).2.2.1 ((S.1 i).1 x)), x - k < fuel → ∀ ls : Array Slot, lv_has ls 4 [(0, .ref (ad (3 * i))), (1, .ref (ad (24 + 5 * j))), (2, .int (nI x)), (3, .int (nI k))] → W p l e ({ frames := 1, cells := 0, slots := 0, locals := 26 } : Room) s m ([.ref (ad (3 * i)), .ref (ad (24 + 5 * j)), .int (nI x)]).toArray below meth c s.heap [] 0 0 (MQ below (vp_Si (fun r => r = bI (firstB (S.2.1 j).2.2.1 (S.1 i).1 x))) ([.ref (ad (3 * i)), .ref (ad (24 + 5 * j)), .int (nI x)]).toArray s 0 0 (fun _ => False)) (F0 m 2 ls []) := by
    intro fuel
    induction fuel with
    | zero => intro k hk hq hf; exact absurd hf (Nat.not_lt_zero _)
    | succ fuel ih2 =>
      intro k hk hq hf ls hl
      refine lv_iload_n hx hb dX2_isFirstOfLot_2 rfl (lv_at hl 3 rfl) ?_
      refine lv_iload_n hx hb dX2_isFirstOfLot_3 rfl (lv_at hl 2 rfl) ?_
      refine kn_icmp_ge (tgt := 32) hx hb (by omega) (by omega) dX2_isFirstOfLot_4 (by decide) (fun c1 => ?_) (fun c1 => ?_)
      · skip
        refine lv_iconst (v := nI 1) hx hb dX2_isFirstOfLot_32 (by decide) ?_
        exact W.zret (v := bI true) hx hb hr (bI_narrow _) (fun t9 ht9 hW9 => ⟨_, rfl, (kd_t (fun q h => hq q (by omega))), ht9⟩) (fun _ h => nomatch h) dX2_isFirstOfLot_33
      · skip
        refine lv_aload_n hx hb dX2_isFirstOfLot_7 rfl (lv_at hl 1 rfl) ?_
        refine lv_aload_n hx hb dX2_isFirstOfLot_8 rfl (lv_at hl 0 rfl) ?_
        refine lv_iload_n hx hb dX2_isFirstOfLot_9 rfl (lv_at hl 3 rfl) ?_
        refine kx_cr (v := nI (((S.1 i).1) k)) (va_runV (As := [.int (nI k)]) (rest := [.ref (ad (24 + 5 * j))]) ⟨hx, hb, hml, hown, hts⟩ (m_X2_valueOn l dC dI ad S i k hi (by omega)) (cwV 1 hts gX2_isFirstOfLot_X2_valueOn rfl rfl rfl hdX2_valueOn_1 ⟨Nat.le_of_ble_eq_true rfl, Nat.le_of_ble_eq_true rfl⟩) (hX.preRow hi) rfl rfl hl.1 rfl (lv_room (Nat.le_of_ble_eq_true rfl)) dX2_isFirstOfLot_10 ⟨Nat.le_of_ble_eq_true rfl, Nat.le_of_ble_eq_true rfl⟩) (fun _ h => h) ?_
        refine lv_aload_n hx hb dX2_isFirstOfLot_13 rfl (lv_at hl 0 rfl) ?_
        refine lv_iload_n hx hb dX2_isFirstOfLot_14 rfl (lv_at hl 2 rfl) ?_
        refine kx_cr (v := nI (((S.1 i).1) x)) (va_runV (As := [.int (nI x)]) (rest := [.int (nI (((S.1 i).1) k)), .ref (ad (24 + 5 * j))]) ⟨hx, hb, hml, hown, hts⟩ (m_X2_valueOn l dC dI ad S i x hi (by omega)) (cwV 1 hts gX2_isFirstOfLot_X2_valueOn rfl rfl rfl hdX2_valueOn_1 ⟨Nat.le_of_ble_eq_true rfl, Nat.le_of_ble_eq_true rfl⟩) (hX.preRow hi) rfl rfl hl.1 rfl (lv_room (Nat.le_of_ble_eq_true rfl)) dX2_isFirstOfLot_15 ⟨Nat.le_of_ble_eq_true rfl, Nat.le_of_ble_eq_true rfl⟩) (fun _ h => h) ?_
        refine kx_cr (v := cmpI (((S.2.1 j).2.2.1) (((S.1 i).1) k)) (((S.2.1 j).2.2.1) (((S.1 i).1) x))) (va_runV (As := [.int (nI (((S.1 i).1) k)), .int (nI (((S.1 i).1) x))]) (rest := []) ⟨hx, hb, hml, hown, hts⟩ (m_X1_compared l dC dI ad S j (((S.1 i).1) k) (((S.1 i).1) x) hj ho (hro.2 _ (by omega)).1 (hro.2 _ (by omega)).1) (cwV 2 hts gX2_isFirstOfLot_X1_compared rfl rfl rfl hdX1_compared_2 ⟨Nat.le_of_ble_eq_true rfl, Nat.le_of_ble_eq_true rfl⟩) (hX.preOrd hj) rfl rfl hl.1 rfl (lv_room (Nat.le_of_ble_eq_true rfl)) dX2_isFirstOfLot_18 ⟨Nat.le_of_ble_eq_true rfl, Nat.le_of_ble_eq_true rfl⟩) (fun _ h => h) ?_
        refine kc_if_ne (tgt := 26) hx hb dX2_isFirstOfLot_21 (by decide) (fun c2 => ?_) (fun c2 => ?_)
        · skip
          have hc := c2
          refine lv_iinc (v := nI (k + 1)) (lv' := [(3, .int (nI (k + 1))), (0, .ref (ad (3 * i))), (1, .ref (ad (24 + 5 * j))), (2, .int (nI x))]) hx hb dX2_isFirstOfLot_26 hl (k := 3) rfl (nI_1 k) (by decide) rfl (fun ls hl => ?_)
          refine lv_goto (tgt := 2) hx hb dX2_isFirstOfLot_29 (by decide) ?_
          exact ih2  (k + 1) (by omega) (lt_s hq hc) (by omega) _ (lv_sub hl [1, 2, 3, 0] rfl)
        · skip
          have hc := c2
          refine lv_iconst (v := nI 0) hx hb dX2_isFirstOfLot_24 (by decide) ?_
          exact W.zret (v := bI false) hx hb hr (bI_narrow _) (fun t9 ht9 hW9 => ⟨_, rfl, (kd_f (fun z => z k (by omega) hc)), ht9⟩) (fun _ h => nomatch h) dX2_isFirstOfLot_25
  exact loop2 (x - 0 + 1) 0 (by omega) (fun q h => absurd h (Nat.not_lt_zero q)) (by omega) _ (lv_sub hl [1, 2, 3, 0] rfl)
set_option maxHeartbeats 4000000 in
set_option maxRecDepth 100000 in
theorem m_X2_lots (l : Launch) (dC : Nat → ClassId) (dI : Nat → Nat → Nat) (ad : Nat → Nat) (S : XS) (i j : Nat) (hi : i < 8) (hj : j < 6) (hro : rowOK (S.1 i)) (ho : ordOK (S.2.1 j)) : Met l yX2_lots wsX2_lots ({ frames := 2, cells := 0, slots := 0, locals := 49 } : Room) (va_Pc [.ref (ad (3 * i)), .ref (ad (24 + 5 * j))] (PX dC dI ad S)) (vp_Si (fun r => r = nI (cntB (firstB (S.2.1 j).2.2.1 (S.1 i).1) (S.1 i).2.2))) 0 0 (fun _ => False) := by
  refine Met.ofW (cc := cX2_lots) (maxL := 4) (ret := (some .int)) pl_X2 rfl ?_
  intro p e s m args below meth c s₁ B hml hv
  obtain ⟨rfl, hPX⟩ := hv
  have hx := B.exec
  have hb := B.bytes
  have hr := B.returns
  have hts := atoms_spec (ws := wsX2_lots) B.pre
  have hown : s.vm.findClass RX2 = some m.cls := findClass_of_methodNamed B.named
  have hlocks := B.notSynchronized
  have hin2 : ∀ w ∈ u_ws RX2 TX2 3, w ∈ wsX2_lots := tu 1322 (by decide +kernel) rfl
  have hX := WX.of hPX
  have hl := lv_entry ([.ref (ad (3 * i)), .ref (ad (24 + 5 * j))]) (n := 4) (Nat.le_of_ble_eq_true rfl)
  rw [lg_entry_eq]
  generalize (lg_sl ([.ref (ad (3 * i)), .ref (ad (24 + 5 * j))]) ++ List.replicate (4 - (lg_sl ([.ref (ad (3 * i)), .ref (ad (24 + 5 * j))])).length) Slot.unset).toArray = ls at hl ⊢
  have hl : lv_has ls 4 [(0, .ref (ad (3 * i))), (1, .ref (ad (24 + 5 * j)))] := hl
  show W p l e ({ frames := 2, cells := 0, slots := 0, locals := 49 } : Room) s m ([.ref (ad (3 * i)), .ref (ad (24 + 5 * j))]).toArray below meth c s.heap [] 0 0 (MQ below (vp_Si (fun r => r = nI (cntB (firstB (S.2.1 j).2.2.1 (S.1 i).1) (S.1 i).2.2))) ([.ref (ad (3 * i)), .ref (ad (24 + 5 * j))]).toArray s 0 0 (fun _ => False)) (F0 m 0 ls [])
  have hn := hro.1
  refine lv_iconst (v := nI 0) hx hb dX2_lots_0 (by decide) ?_
  refine lv_istore_n (lv' := [(2, .int (nI 0)), (0, .ref (ad (3 * i))), (1, .ref (ad (24 + 5 * j)))]) hx hb dX2_lots_1 rfl hl (by decide) rfl (fun ls hl => ?_)
  refine lv_iconst (v := nI 0) hx hb dX2_lots_2 (by decide) ?_
  refine lv_istore_n (lv' := [(3, .int (nI 0)), (2, .int (nI 0)), (0, .ref (ad (3 * i))), (1, .ref (ad (24 + 5 * j)))]) hx hb dX2_lots_3 rfl hl (by decide) rfl (fun ls hl => ?_)
  have loop4 : ∀ (fuel : Nat) (q k : Nat) (hk : k ≤ (S.1 i).2.2) (hq : q = cntB (firstB (S.2.1 j).2.2.1 (S.1 i).1) k), (S.1 i).2.2 - k < fuel → ∀ ls : Array Slot, lv_has ls 4 [(0, .ref (ad (3 * i))), (1, .ref (ad (24 + 5 * j))), (2, .int (nI q)), (3, .int (nI k))] → W p l e ({ frames := 2, cells := 0, slots := 0, locals := 49 } : Room) s m ([.ref (ad (3 * i)), .ref (ad (24 + 5 * j))]).toArray below meth c s.heap [] 0 0 (MQ below (vp_Si (fun r => r = nI (cntB (firstB (S.2.1 j).2.2.1 (S.1 i).1) (S.1 i).2.2))) ([.ref (ad (3 * i)), .ref (ad (24 + 5 * j))]).toArray s 0 0 (fun _ => False)) (F0 m 4 ls []) := by
    intro fuel
    induction fuel with
    | zero => intro q k hk hq hf; exact absurd hf (Nat.not_lt_zero _)
    | succ fuel ih4 =>
      intro q k hk hq hf ls hl
      refine lv_iload_n hx hb dX2_lots_4 rfl (lv_at hl 3 rfl) ?_
      refine lv_aload_n hx hb dX2_lots_5 rfl (lv_at hl 0 rfl) ?_
      refine kr_gn (n := (S.1 i).2.2) hx hb hts hin2 hown hX hi rfl (hts (.fieldLink RX2 18 "Orderlattice$Row" "many" "I") (tm 27 (by decide +kernel) rfl)) dX2_lots_6 ?_
      refine kn_icmp_ge (tgt := 30) hx hb (by omega) (by omega) dX2_lots_9 (by decide) (fun c1 => ?_) (fun c1 => ?_)
      · skip
        refine lv_iload_n hx hb dX2_lots_30 rfl (lv_at hl 2 rfl) ?_
        exact W.iret (v := nI q) hx hb hr (fun t9 ht9 hW9 => ⟨_, rfl, (by rw [hq, show k = (S.1 i).2.2 by omega]), ht9⟩) (fun _ h => nomatch h) dX2_lots_31
      · skip
        refine lv_aload_n hx hb dX2_lots_12 rfl (lv_at hl 0 rfl) ?_
        refine lv_aload_n hx hb dX2_lots_13 rfl (lv_at hl 1 rfl) ?_
        refine lv_iload_n hx hb dX2_lots_14 rfl (lv_at hl 3 rfl) ?_
        refine kx_cr (v := bI (firstB (S.2.1 j).2.2.1 (S.1 i).1 k)) (va_runV (As := [.ref (ad (24 + 5 * j)), .int (nI k)]) (rest := []) ⟨hx, hb, hml, hown, hts⟩ (m_X2_isFirstOfLot l dC dI ad S i j k hi hj hro ho (by omega)) (cwV 2 hts gX2_lots_X2_isFirstOfLot rfl rfl rfl hdX2_isFirstOfLot_2 ⟨Nat.le_of_ble_eq_true rfl, Nat.le_of_ble_eq_true rfl⟩) (hX.preRow hi) rfl rfl hl.1 rfl (lv_room (Nat.le_of_ble_eq_true rfl)) dX2_lots_15 ⟨Nat.le_of_ble_eq_true rfl, Nat.le_of_ble_eq_true rfl⟩) (fun _ h => h) ?_
        refine kb_if_eq (tgt := 24) hx hb dX2_lots_18 (by decide) (fun c2 => ?_) (fun c2 => ?_)
        · skip
          have hc := c2
          refine lv_iinc (v := nI (k + 1)) (lv' := [(3, .int (nI (k + 1))), (0, .ref (ad (3 * i))), (1, .ref (ad (24 + 5 * j))), (2, .int (nI q))]) hx hb dX2_lots_24 hl (k := 3) rfl (nI_1 k) (by decide) rfl (fun ls hl => ?_)
          refine lv_goto (tgt := 4) hx hb dX2_lots_27 (by decide) ?_
          exact ih4  q (k + 1) (by omega) (by rw [cntB_f hc, hq]) (by omega) _ (lv_sub hl [1, 2, 3, 0] rfl)
        · skip
          have hc := c2
          refine lv_iinc (v := nI (q + 1)) (lv' := [(2, .int (nI (q + 1))), (0, .ref (ad (3 * i))), (1, .ref (ad (24 + 5 * j))), (3, .int (nI k))]) hx hb dX2_lots_21 hl (k := 2) rfl (nI_1 q) (by decide) rfl (fun ls hl => ?_)
          refine lv_iinc (v := nI (k + 1)) (lv' := [(3, .int (nI (k + 1))), (2, .int (nI (q + 1))), (0, .ref (ad (3 * i))), (1, .ref (ad (24 + 5 * j)))]) hx hb dX2_lots_24 hl (k := 3) rfl (nI_1 k) (by decide) rfl (fun ls hl => ?_)
          refine lv_goto (tgt := 4) hx hb dX2_lots_27 (by decide) ?_
          exact ih4  (q + 1) (k + 1) (by omega) (by rw [cntB_t hc, hq]) (by omega) _ (lv_sub hl [2, 3, 1, 0] rfl)
  exact loop4 ((S.1 i).2.2 - 0 + 1) 0 0 (by omega) rfl (by omega) _ (lv_sub hl [2, 3, 1, 0] rfl)
set_option maxHeartbeats 4000000 in
set_option maxRecDepth 100000 in
theorem m_X2_lotsAhead (l : Launch) (dC : Nat → ClassId) (dI : Nat → Nat → Nat) (ad : Nat → Nat) (S : XS) (i j x : Nat) (hi : i < 8) (hj : j < 6) (hro : rowOK (S.1 i)) (ho : ordOK (S.2.1 j)) (hx9 : x < 16) : Met l yX2_lotsAhead wsX2_lotsAhead ({ frames := 2, cells := 0, slots := 0, locals := 49 } : Room) (va_Pc [.ref (ad (3 * i)), .ref (ad (24 + 5 * j)), .int (nI x)] (PX dC dI ad S)) (vp_Si (fun r => r = nI (cntB (fun k => firstB (S.2.1 j).2.2.1 (S.1 i).1 k && decide ((S.2.1 j).2.2.1 ((S.1 i).1 k) < (S.2.1 j).2.2.1 x)) (S.1 i).2.2))) 0 0 (fun _ => False) := by
  refine Met.ofW (cc := cX2_lotsAhead) (maxL := 5) (ret := (some .int)) pl_X2 rfl ?_
  intro p e s m args below meth c s₁ B hml hv
  obtain ⟨rfl, hPX⟩ := hv
  have hx := B.exec
  have hb := B.bytes
  have hr := B.returns
  have hts := atoms_spec (ws := wsX2_lotsAhead) B.pre
  have hown : s.vm.findClass RX2 = some m.cls := findClass_of_methodNamed B.named
  have hlocks := B.notSynchronized
  have hin2 : ∀ w ∈ u_ws RX2 TX2 3, w ∈ wsX2_lotsAhead := tu 1322 (by decide +kernel) rfl
  have hX := WX.of hPX
  have hl := lv_entry ([.ref (ad (3 * i)), .ref (ad (24 + 5 * j)), .int (nI x)]) (n := 5) (Nat.le_of_ble_eq_true rfl)
  rw [lg_entry_eq]
  generalize (lg_sl ([.ref (ad (3 * i)), .ref (ad (24 + 5 * j)), .int (nI x)]) ++ List.replicate (5 - (lg_sl ([.ref (ad (3 * i)), .ref (ad (24 + 5 * j)), .int (nI x)])).length) Slot.unset).toArray = ls at hl ⊢
  have hl : lv_has ls 5 [(0, .ref (ad (3 * i))), (1, .ref (ad (24 + 5 * j))), (2, .int (nI x))] := hl
  show W p l e ({ frames := 2, cells := 0, slots := 0, locals := 49 } : Room) s m ([.ref (ad (3 * i)), .ref (ad (24 + 5 * j)), .int (nI x)]).toArray below meth c s.heap [] 0 0 (MQ below (vp_Si (fun r => r = nI (cntB (fun k => firstB (S.2.1 j).2.2.1 (S.1 i).1 k && decide ((S.2.1 j).2.2.1 ((S.1 i).1 k) < (S.2.1 j).2.2.1 x)) (S.1 i).2.2))) ([.ref (ad (3 * i)), .ref (ad (24 + 5 * j)), .int (nI x)]).toArray s 0 0 (fun _ => False)) (F0 m 0 ls [])
  have hn := hro.1
  refine lv_iconst (v := nI 0) hx hb dX2_lotsAhead_0 (by decide) ?_
  refine lv_istore_n (lv' := [(3, .int (nI 0)), (0, .ref (ad (3 * i))), (1, .ref (ad (24 + 5 * j))), (2, .int (nI x))]) hx hb dX2_lotsAhead_1 rfl hl (by decide) rfl (fun ls hl => ?_)
  refine lv_iconst (v := nI 0) hx hb dX2_lotsAhead_2 (by decide) ?_
  refine lv_istore (lv' := [(4, .int (nI 0)), (3, .int (nI 0)), (0, .ref (ad (3 * i))), (1, .ref (ad (24 + 5 * j))), (2, .int (nI x))]) hx hb dX2_lotsAhead_3 hl (by decide) rfl (fun ls hl => ?_)
  have loop5 : ∀ (fuel : Nat) (q k : Nat) (hk : k ≤ (S.1 i).2.2) (hq : q = cntB (fun k => firstB (S.2.1 j).2.2.1 (S.1 i).1 k && decide ((S.2.1 j).2.2.1 ((S.1 i).1 k) < (S.2.1 j).2.2.1 x)) k), (S.1 i).2.2 - k < fuel → ∀ ls : Array Slot, lv_has ls 5 [(0, .ref (ad (3 * i))), (1, .ref (ad (24 + 5 * j))), (2, .int (nI x)), (3, .int (nI q)), (4, .int (nI k))] → W p l e ({ frames := 2, cells := 0, slots := 0, locals := 49 } : Room) s m ([.ref (ad (3 * i)), .ref (ad (24 + 5 * j)), .int (nI x)]).toArray below meth c s.heap [] 0 0 (MQ below (vp_Si (fun r => r = nI (cntB (fun k => firstB (S.2.1 j).2.2.1 (S.1 i).1 k && decide ((S.2.1 j).2.2.1 ((S.1 i).1 k) < (S.2.1 j).2.2.1 x)) (S.1 i).2.2))) ([.ref (ad (3 * i)), .ref (ad (24 + 5 * j)), .int (nI x)]).toArray s 0 0 (fun _ => False)) (F0 m 5 ls []) := by
    intro fuel
    induction fuel with
    | zero => intro q k hk hq hf; exact absurd hf (Nat.not_lt_zero _)
    | succ fuel ih5 =>
      intro q k hk hq hf ls hl
      refine lv_iload hx hb dX2_lotsAhead_5 (lv_at hl 4 rfl) ?_
      refine lv_aload_n hx hb dX2_lotsAhead_7 rfl (lv_at hl 0 rfl) ?_
      refine kr_gn (n := (S.1 i).2.2) hx hb hts hin2 hown hX hi rfl (hts (.fieldLink RX2 18 "Orderlattice$Row" "many" "I") (tm 27 (by decide +kernel) rfl)) dX2_lotsAhead_8 ?_
      refine kn_icmp_ge (tgt := 47) hx hb (by omega) (by omega) dX2_lotsAhead_11 (by decide) (fun c1 => ?_) (fun c1 => ?_)
      · skip
        refine lv_iload_n hx hb dX2_lotsAhead_47 rfl (lv_at hl 3 rfl) ?_
        exact W.iret (v := nI q) hx hb hr (fun t9 ht9 hW9 => ⟨_, rfl, (by rw [hq, show k = (S.1 i).2.2 by omega]), ht9⟩) (fun _ h => nomatch h) dX2_lotsAhead_48
      · skip
        refine lv_aload_n hx hb dX2_lotsAhead_14 rfl (lv_at hl 1 rfl) ?_
        refine lv_aload_n hx hb dX2_lotsAhead_15 rfl (lv_at hl 0 rfl) ?_
        refine lv_iload hx hb dX2_lotsAhead_16 (lv_at hl 4 rfl) ?_
        refine kx_cr (v := nI (((S.1 i).1) k)) (va_runV (As := [.int (nI k)]) (rest := [.ref (ad (24 + 5 * j))]) ⟨hx, hb, hml, hown, hts⟩ (m_X2_valueOn l dC dI ad S i k hi (by omega)) (cwV 1 hts gX2_lotsAhead_X2_valueOn rfl rfl rfl hdX2_valueOn_1 ⟨Nat.le_of_ble_eq_true rfl, Nat.le_of_ble_eq_true rfl⟩) (hX.preRow hi) rfl rfl hl.1 rfl (lv_room (Nat.le_of_ble_eq_true rfl)) dX2_lotsAhead_18 ⟨Nat.le_of_ble_eq_true rfl, Nat.le_of_ble_eq_true rfl⟩) (fun _ h => h) ?_
        refine lv_iload_n hx hb dX2_lotsAhead_21 rfl (lv_at hl 2 rfl) ?_
        refine kx_cr (v := cmpI (((S.2.1 j).2.2.1) (((S.1 i).1) k)) (((S.2.1 j).2.2.1) x)) (va_runV (As := [.int (nI (((S.1 i).1) k)), .int (nI x)]) (rest := []) ⟨hx, hb, hml, hown, hts⟩ (m_X1_compared l dC dI ad S j (((S.1 i).1) k) x hj ho (hro.2 _ (by omega)).1 (by omega)) (cwV 2 hts gX2_lotsAhead_X1_compared rfl rfl rfl hdX1_compared_2 ⟨Nat.le_of_ble_eq_true rfl, Nat.le_of_ble_eq_true rfl⟩) (hX.preOrd hj) rfl rfl hl.1 rfl (lv_room (Nat.le_of_ble_eq_true rfl)) dX2_lotsAhead_22 ⟨Nat.le_of_ble_eq_true rfl, Nat.le_of_ble_eq_true rfl⟩) (fun _ h => h) ?_
        refine kc_if_ge (tgt := 41) hx hb dX2_lotsAhead_25 (by decide) (fun c2 => ?_) (fun c2 => ?_)
        · skip
          have hc := c2
          refine lv_iinc (v := nI (k + 1)) (lv' := [(4, .int (nI (k + 1))), (0, .ref (ad (3 * i))), (1, .ref (ad (24 + 5 * j))), (2, .int (nI x)), (3, .int (nI q))]) hx hb dX2_lotsAhead_41 hl (k := 4) rfl (nI_1 k) (by decide) rfl (fun ls hl => ?_)
          refine lv_goto (tgt := 5) hx hb dX2_lotsAhead_44 (by decide) ?_
          exact ih5  q (k + 1) (by omega) (by rw [cntB_f (by rw [decide_eq_false (by omega), Bool.and_false]), hq]) (by omega) _ (lv_sub hl [1, 2, 3, 4, 0] rfl)
        · skip
          have hc := c2
          refine lv_aload_n hx hb dX2_lotsAhead_28 rfl (lv_at hl 0 rfl) ?_
          refine lv_aload_n hx hb dX2_lotsAhead_29 rfl (lv_at hl 1 rfl) ?_
          refine lv_iload hx hb dX2_lotsAhead_30 (lv_at hl 4 rfl) ?_
          refine kx_cr (v := bI (firstB (S.2.1 j).2.2.1 (S.1 i).1 k)) (va_runV (As := [.ref (ad (24 + 5 * j)), .int (nI k)]) (rest := []) ⟨hx, hb, hml, hown, hts⟩ (m_X2_isFirstOfLot l dC dI ad S i j k hi hj hro ho (by omega)) (cwV 2 hts gX2_lotsAhead_X2_isFirstOfLot rfl rfl rfl hdX2_isFirstOfLot_2 ⟨Nat.le_of_ble_eq_true rfl, Nat.le_of_ble_eq_true rfl⟩) (hX.preRow hi) rfl rfl hl.1 rfl (lv_room (Nat.le_of_ble_eq_true rfl)) dX2_lotsAhead_32 ⟨Nat.le_of_ble_eq_true rfl, Nat.le_of_ble_eq_true rfl⟩) (fun _ h => h) ?_
          refine kb_if_eq (tgt := 41) hx hb dX2_lotsAhead_35 (by decide) (fun c3 => ?_) (fun c3 => ?_)
          · skip
            have hd := c3
            refine lv_iinc (v := nI (k + 1)) (lv' := [(4, .int (nI (k + 1))), (0, .ref (ad (3 * i))), (1, .ref (ad (24 + 5 * j))), (2, .int (nI x)), (3, .int (nI q))]) hx hb dX2_lotsAhead_41 hl (k := 4) rfl (nI_1 k) (by decide) rfl (fun ls hl => ?_)
            refine lv_goto (tgt := 5) hx hb dX2_lotsAhead_44 (by decide) ?_
            exact ih5  q (k + 1) (by omega) (by rw [cntB_f (by rw [hd, Bool.false_and]), hq]) (by omega) _ (lv_sub hl [1, 2, 3, 4, 0] rfl)
          · skip
            have hd := c3
            refine lv_iinc (v := nI (q + 1)) (lv' := [(3, .int (nI (q + 1))), (0, .ref (ad (3 * i))), (1, .ref (ad (24 + 5 * j))), (2, .int (nI x)), (4, .int (nI k))]) hx hb dX2_lotsAhead_38 hl (k := 3) rfl (nI_1 q) (by decide) rfl (fun ls hl => ?_)
            refine lv_iinc (v := nI (k + 1)) (lv' := [(4, .int (nI (k + 1))), (3, .int (nI (q + 1))), (0, .ref (ad (3 * i))), (1, .ref (ad (24 + 5 * j))), (2, .int (nI x))]) hx hb dX2_lotsAhead_41 hl (k := 4) rfl (nI_1 k) (by decide) rfl (fun ls hl => ?_)
            refine lv_goto (tgt := 5) hx hb dX2_lotsAhead_44 (by decide) ?_
            exact ih5  (q + 1) (k + 1) (by omega) (by rw [cntB_t (by rw [hd, decide_eq_true hc, Bool.true_and]), hq]) (by omega) _ (lv_sub hl [2, 3, 4, 1, 0] rfl)
  exact loop5 ((S.1 i).2.2 - 0 + 1) 0 0 (by omega) rfl (by omega) _ (lv_sub hl [2, 3, 4, 1, 0] rfl)
set_option maxHeartbeats 4000000 in
set_option maxRecDepth 100000 in
theorem m_X2_firstPlaceBy (l : Launch) (dC : Nat → ClassId) (dI : Nat → Nat → Nat) (ad : Nat → Nat) (S : XS) (i j : Nat) (hi : i < 8) (hj : j < 6) (hro : rowOK (S.1 i)) (ho : ordOK (S.2.1 j)) : Met l yX2_firstPlaceBy wsX2_firstPlaceBy ({ frames := 1, cells := 0, slots := 0, locals := 26 } : Room) (va_Pc [.ref (ad (3 * i)), .ref (ad (24 + 5 * j))] (PX dC dI ad S)) (vp_Si (fun r => r = oI (bestB (fun _ => true) (fun a b => decide ((S.2.1 j).2.2.1 ((S.1 i).1 a) < (S.2.1 j).2.2.1 ((S.1 i).1 b))) (S.1 i).2.2))) 0 0 (fun _ => False) := by
  refine Met.ofW (cc := cX2_firstPlaceBy) (maxL := 4) (ret := (some .int)) pl_X2 rfl ?_
  intro p e s m args below meth c s₁ B hml hv
  obtain ⟨rfl, hPX⟩ := hv
  have hx := B.exec
  have hb := B.bytes
  have hr := B.returns
  have hts := atoms_spec (ws := wsX2_firstPlaceBy) B.pre
  have hown : s.vm.findClass RX2 = some m.cls := findClass_of_methodNamed B.named
  have hlocks := B.notSynchronized
  have hin2 : ∀ w ∈ u_ws RX2 TX2 3, w ∈ wsX2_firstPlaceBy := tu 1322 (by decide +kernel) rfl
  have hX := WX.of hPX
  have hl := lv_entry ([.ref (ad (3 * i)), .ref (ad (24 + 5 * j))]) (n := 4) (Nat.le_of_ble_eq_true rfl)
  rw [lg_entry_eq]
  generalize (lg_sl ([.ref (ad (3 * i)), .ref (ad (24 + 5 * j))]) ++ List.replicate (4 - (lg_sl ([.ref (ad (3 * i)), .ref (ad (24 + 5 * j))])).length) Slot.unset).toArray = ls at hl ⊢
  have hl : lv_has ls 4 [(0, .ref (ad (3 * i))), (1, .ref (ad (24 + 5 * j)))] := hl
  show W p l e ({ frames := 1, cells := 0, slots := 0, locals := 26 } : Room) s m ([.ref (ad (3 * i)), .ref (ad (24 + 5 * j))]).toArray below meth c s.heap [] 0 0 (MQ below (vp_Si (fun r => r = oI (bestB (fun _ => true) (fun a b => decide ((S.2.1 j).2.2.1 ((S.1 i).1 a) < (S.2.1 j).2.2.1 ((S.1 i).1 b))) (S.1 i).2.2))) ([.ref (ad (3 * i)), .ref (ad (24 + 5 * j))]).toArray s 0 0 (fun _ => False)) (F0 m 0 ls [])
  have hn := hro.1
  refine lv_iconst (v := (-1)) hx hb dX2_firstPlaceBy_0 (by decide) ?_
  refine lv_istore_n (lv' := [(2, .int (-1)), (0, .ref (ad (3 * i))), (1, .ref (ad (24 + 5 * j)))]) hx hb dX2_firstPlaceBy_1 rfl hl (by decide) rfl (fun ls hl => ?_)
  refine lv_iconst (v := nI 0) hx hb dX2_firstPlaceBy_2 (by decide) ?_
  refine lv_istore_n (lv' := [(3, .int (nI 0)), (2, .int (-1)), (0, .ref (ad (3 * i))), (1, .ref (ad (24 + 5 * j)))]) hx hb dX2_firstPlaceBy_3 rfl hl (by decide) rfl (fun ls hl => ?_)
  have loop4 : ∀ (fuel : Nat) (o : Option Nat) (k : Nat) (hk : k ≤ (S.1 i).2.2) (hq : o = bestB (fun _ => true) (fun a b => decide ((S.2.1 j).2.2.1 ((S.1 i).1 a) < (S.2.1 j).2.2.1 ((S.1 i).1 b))) k), (S.1 i).2.2 - k < fuel → ∀ ls : Array Slot, lv_has ls 4 [(0, .ref (ad (3 * i))), (1, .ref (ad (24 + 5 * j))), (2, .int (oI o)), (3, .int (nI k))] → W p l e ({ frames := 1, cells := 0, slots := 0, locals := 26 } : Room) s m ([.ref (ad (3 * i)), .ref (ad (24 + 5 * j))]).toArray below meth c s.heap [] 0 0 (MQ below (vp_Si (fun r => r = oI (bestB (fun _ => true) (fun a b => decide ((S.2.1 j).2.2.1 ((S.1 i).1 a) < (S.2.1 j).2.2.1 ((S.1 i).1 b))) (S.1 i).2.2))) ([.ref (ad (3 * i)), .ref (ad (24 + 5 * j))]).toArray s 0 0 (fun _ => False)) (F0 m 4 ls []) := by
    intro fuel
    induction fuel with
    | zero => intro o k hk hq hf; exact absurd hf (Nat.not_lt_zero _)
    | succ fuel ih4 =>
      intro o k hk hq hf ls hl
      refine lv_iload_n hx hb dX2_firstPlaceBy_4 rfl (lv_at hl 3 rfl) ?_
      refine lv_aload_n hx hb dX2_firstPlaceBy_5 rfl (lv_at hl 0 rfl) ?_
      refine kr_gn (n := (S.1 i).2.2) hx hb hts hin2 hown hX hi rfl (hts (.fieldLink RX2 18 "Orderlattice$Row" "many" "I") (tm 27 (by decide +kernel) rfl)) dX2_firstPlaceBy_6 ?_
      refine kn_icmp_ge (tgt := 42) hx hb (by omega) (by omega) dX2_firstPlaceBy_9 (by decide) (fun c1 => ?_) (fun c1 => ?_)
      · skip
        refine lv_iload_n hx hb dX2_firstPlaceBy_42 rfl (lv_at hl 2 rfl) ?_
        exact W.iret (v := (oI o)) hx hb hr (fun t9 ht9 hW9 => ⟨_, rfl, (by rw [hq, show k = (S.1 i).2.2 by omega]), ht9⟩) (fun _ h => nomatch h) dX2_firstPlaceBy_43
      · skip
        rcases o with _ | bb
        · skip
          refine lv_iload_n hx hb dX2_firstPlaceBy_12 rfl (lv_at hl 2 rfl) ?_
          refine lv_iconst (v := (-1)) hx hb dX2_firstPlaceBy_13 (by decide) ?_
          refine lv_icmp_eq (tgt := 34) hx hb dX2_firstPlaceBy_14 (by decide) (fun c2 => ?_) (fun c2 => absurd rfl c2)
          refine lv_iload_n hx hb dX2_firstPlaceBy_34 rfl (lv_at hl 3 rfl) ?_
          refine lv_istore_n (lv' := [(2, .int (nI k)), (0, .ref (ad (3 * i))), (1, .ref (ad (24 + 5 * j))), (3, .int (nI k))]) hx hb dX2_firstPlaceBy_35 rfl hl (by decide) rfl (fun ls hl => ?_)
          refine lv_iinc (v := nI (k + 1)) (lv' := [(3, .int (nI (k + 1))), (2, .int (nI k)), (0, .ref (ad (3 * i))), (1, .ref (ad (24 + 5 * j)))]) hx hb dX2_firstPlaceBy_36 hl (k := 3) rfl (nI_1 k) (by decide) rfl (fun ls hl => ?_)
          refine lv_goto (tgt := 4) hx hb dX2_firstPlaceBy_39 (by decide) ?_
          exact ih4  (some k) (k + 1) (by omega) (bestB_first rfl hq.symm).symm (by omega) _ (lv_sub hl [2, 3, 1, 0] rfl)
        · skip
          have hbb := (bestB_lt hq.symm).1
          have hl : lv_has ls 4 [(0, .ref (ad (3 * i))), (1, .ref (ad (24 + 5 * j))), (2, .int (nI bb)), (3, .int (nI k))] := hl
          refine lv_iload_n hx hb dX2_firstPlaceBy_12 rfl (lv_at hl 2 rfl) ?_
          refine lv_iconst (v := (-1)) hx hb dX2_firstPlaceBy_13 (by decide) ?_
          refine lv_icmp_eq (tgt := 34) hx hb dX2_firstPlaceBy_14 (by decide) (fun c3 => absurd c3 (nI_nm1 (by omega))) (fun c3 => ?_)
          refine lv_aload_n hx hb dX2_firstPlaceBy_17 rfl (lv_at hl 1 rfl) ?_
          refine lv_aload_n hx hb dX2_firstPlaceBy_18 rfl (lv_at hl 0 rfl) ?_
          refine lv_iload_n hx hb dX2_firstPlaceBy_19 rfl (lv_at hl 3 rfl) ?_
          refine kx_cr (v := nI (((S.1 i).1) k)) (va_runV (As := [.int (nI k)]) (rest := [.ref (ad (24 + 5 * j))]) ⟨hx, hb, hml, hown, hts⟩ (m_X2_valueOn l dC dI ad S i k hi (by omega)) (cwV 1 hts gX2_firstPlaceBy_X2_valueOn rfl rfl rfl hdX2_valueOn_1 ⟨Nat.le_of_ble_eq_true rfl, Nat.le_of_ble_eq_true rfl⟩) (hX.preRow hi) rfl rfl hl.1 rfl (lv_room (Nat.le_of_ble_eq_true rfl)) dX2_firstPlaceBy_20 ⟨Nat.le_of_ble_eq_true rfl, Nat.le_of_ble_eq_true rfl⟩) (fun _ h => h) ?_
          refine lv_aload_n hx hb dX2_firstPlaceBy_23 rfl (lv_at hl 0 rfl) ?_
          refine lv_iload_n hx hb dX2_firstPlaceBy_24 rfl (lv_at hl 2 rfl) ?_
          refine kx_cr (v := nI (((S.1 i).1) bb)) (va_runV (As := [.int (nI bb)]) (rest := [.int (nI (((S.1 i).1) k)), .ref (ad (24 + 5 * j))]) ⟨hx, hb, hml, hown, hts⟩ (m_X2_valueOn l dC dI ad S i bb hi (by omega)) (cwV 1 hts gX2_firstPlaceBy_X2_valueOn rfl rfl rfl hdX2_valueOn_1 ⟨Nat.le_of_ble_eq_true rfl, Nat.le_of_ble_eq_true rfl⟩) (hX.preRow hi) rfl rfl hl.1 rfl (lv_room (Nat.le_of_ble_eq_true rfl)) dX2_firstPlaceBy_25 ⟨Nat.le_of_ble_eq_true rfl, Nat.le_of_ble_eq_true rfl⟩) (fun _ h => h) ?_
          refine kx_cr (v := cmpI (((S.2.1 j).2.2.1) (((S.1 i).1) k)) (((S.2.1 j).2.2.1) (((S.1 i).1) bb))) (va_runV (As := [.int (nI (((S.1 i).1) k)), .int (nI (((S.1 i).1) bb))]) (rest := []) ⟨hx, hb, hml, hown, hts⟩ (m_X1_compared l dC dI ad S j (((S.1 i).1) k) (((S.1 i).1) bb) hj ho (hro.2 _ (by omega)).1 (hro.2 _ (by omega)).1) (cwV 2 hts gX2_firstPlaceBy_X1_compared rfl rfl rfl hdX1_compared_2 ⟨Nat.le_of_ble_eq_true rfl, Nat.le_of_ble_eq_true rfl⟩) (hX.preOrd hj) rfl rfl hl.1 rfl (lv_room (Nat.le_of_ble_eq_true rfl)) dX2_firstPlaceBy_28 ⟨Nat.le_of_ble_eq_true rfl, Nat.le_of_ble_eq_true rfl⟩) (fun _ h => h) ?_
          refine kc_if_ge (tgt := 36) hx hb dX2_firstPlaceBy_31 (by decide) (fun c4 => ?_) (fun c4 => ?_)
          · skip
            have hc := c4
            refine lv_iinc (v := nI (k + 1)) (lv' := [(3, .int (nI (k + 1))), (0, .ref (ad (3 * i))), (1, .ref (ad (24 + 5 * j))), (2, .int (nI bb))]) hx hb dX2_firstPlaceBy_36 hl (k := 3) rfl (nI_1 k) (by decide) rfl (fun ls hl => ?_)
            refine lv_goto (tgt := 4) hx hb dX2_firstPlaceBy_39 (by decide) ?_
            exact ih4  (some bb) (k + 1) (by omega) (bestB_old rfl hq.symm (decide_eq_false (by omega))).symm (by omega) _ (lv_sub hl [1, 2, 3, 0] rfl)
          · skip
            have hc := c4
            refine lv_iload_n hx hb dX2_firstPlaceBy_34 rfl (lv_at hl 3 rfl) ?_
            refine lv_istore_n (lv' := [(2, .int (nI k)), (0, .ref (ad (3 * i))), (1, .ref (ad (24 + 5 * j))), (3, .int (nI k))]) hx hb dX2_firstPlaceBy_35 rfl hl (by decide) rfl (fun ls hl => ?_)
            refine lv_iinc (v := nI (k + 1)) (lv' := [(3, .int (nI (k + 1))), (2, .int (nI k)), (0, .ref (ad (3 * i))), (1, .ref (ad (24 + 5 * j)))]) hx hb dX2_firstPlaceBy_36 hl (k := 3) rfl (nI_1 k) (by decide) rfl (fun ls hl => ?_)
            refine lv_goto (tgt := 4) hx hb dX2_firstPlaceBy_39 (by decide) ?_
            exact ih4  (some k) (k + 1) (by omega) (bestB_new rfl hq.symm (decide_eq_true hc)).symm (by omega) _ (lv_sub hl [2, 3, 1, 0] rfl)
  exact loop4 ((S.1 i).2.2 - 0 + 1) none 0 (by omega) rfl (by omega) _ (lv_sub hl [2, 3, 1, 0] rfl)
set_option maxHeartbeats 4000000 in
set_option maxRecDepth 100000 in
theorem m_X2_lastPlaceBy (l : Launch) (dC : Nat → ClassId) (dI : Nat → Nat → Nat) (ad : Nat → Nat) (S : XS) (i j : Nat) (hi : i < 8) (hj : j < 6) (hro : rowOK (S.1 i)) (ho : ordOK (S.2.1 j)) : Met l yX2_lastPlaceBy wsX2_lastPlaceBy ({ frames := 1, cells := 0, slots := 0, locals := 26 } : Room) (va_Pc [.ref (ad (3 * i)), .ref (ad (24 + 5 * j))] (PX dC dI ad S)) (vp_Si (fun r => r = oI (bestB (fun _ => true) (fun a b => decide ((S.2.1 j).2.2.1 ((S.1 i).1 b) < (S.2.1 j).2.2.1 ((S.1 i).1 a))) (S.1 i).2.2))) 0 0 (fun _ => False) := by
  refine Met.ofW (cc := cX2_lastPlaceBy) (maxL := 4) (ret := (some .int)) pl_X2 rfl ?_
  intro p e s m args below meth c s₁ B hml hv
  obtain ⟨rfl, hPX⟩ := hv
  have hx := B.exec
  have hb := B.bytes
  have hr := B.returns
  have hts := atoms_spec (ws := wsX2_lastPlaceBy) B.pre
  have hown : s.vm.findClass RX2 = some m.cls := findClass_of_methodNamed B.named
  have hlocks := B.notSynchronized
  have hin2 : ∀ w ∈ u_ws RX2 TX2 3, w ∈ wsX2_lastPlaceBy := tu 1322 (by decide +kernel) rfl
  have hX := WX.of hPX
  have hl := lv_entry ([.ref (ad (3 * i)), .ref (ad (24 + 5 * j))]) (n := 4) (Nat.le_of_ble_eq_true rfl)
  rw [lg_entry_eq]
  generalize (lg_sl ([.ref (ad (3 * i)), .ref (ad (24 + 5 * j))]) ++ List.replicate (4 - (lg_sl ([.ref (ad (3 * i)), .ref (ad (24 + 5 * j))])).length) Slot.unset).toArray = ls at hl ⊢
  have hl : lv_has ls 4 [(0, .ref (ad (3 * i))), (1, .ref (ad (24 + 5 * j)))] := hl
  show W p l e ({ frames := 1, cells := 0, slots := 0, locals := 26 } : Room) s m ([.ref (ad (3 * i)), .ref (ad (24 + 5 * j))]).toArray below meth c s.heap [] 0 0 (MQ below (vp_Si (fun r => r = oI (bestB (fun _ => true) (fun a b => decide ((S.2.1 j).2.2.1 ((S.1 i).1 b) < (S.2.1 j).2.2.1 ((S.1 i).1 a))) (S.1 i).2.2))) ([.ref (ad (3 * i)), .ref (ad (24 + 5 * j))]).toArray s 0 0 (fun _ => False)) (F0 m 0 ls [])
  have hn := hro.1
  refine lv_iconst (v := (-1)) hx hb dX2_lastPlaceBy_0 (by decide) ?_
  refine lv_istore_n (lv' := [(2, .int (-1)), (0, .ref (ad (3 * i))), (1, .ref (ad (24 + 5 * j)))]) hx hb dX2_lastPlaceBy_1 rfl hl (by decide) rfl (fun ls hl => ?_)
  refine lv_iconst (v := nI 0) hx hb dX2_lastPlaceBy_2 (by decide) ?_
  refine lv_istore_n (lv' := [(3, .int (nI 0)), (2, .int (-1)), (0, .ref (ad (3 * i))), (1, .ref (ad (24 + 5 * j)))]) hx hb dX2_lastPlaceBy_3 rfl hl (by decide) rfl (fun ls hl => ?_)
  have loop4 : ∀ (fuel : Nat) (o : Option Nat) (k : Nat) (hk : k ≤ (S.1 i).2.2) (hq : o = bestB (fun _ => true) (fun a b => decide ((S.2.1 j).2.2.1 ((S.1 i).1 b) < (S.2.1 j).2.2.1 ((S.1 i).1 a))) k), (S.1 i).2.2 - k < fuel → ∀ ls : Array Slot, lv_has ls 4 [(0, .ref (ad (3 * i))), (1, .ref (ad (24 + 5 * j))), (2, .int (oI o)), (3, .int (nI k))] → W p l e ({ frames := 1, cells := 0, slots := 0, locals := 26 } : Room) s m ([.ref (ad (3 * i)), .ref (ad (24 + 5 * j))]).toArray below meth c s.heap [] 0 0 (MQ below (vp_Si (fun r => r = oI (bestB (fun _ => true) (fun a b => decide ((S.2.1 j).2.2.1 ((S.1 i).1 b) < (S.2.1 j).2.2.1 ((S.1 i).1 a))) (S.1 i).2.2))) ([.ref (ad (3 * i)), .ref (ad (24 + 5 * j))]).toArray s 0 0 (fun _ => False)) (F0 m 4 ls []) := by
    intro fuel
    induction fuel with
    | zero => intro o k hk hq hf; exact absurd hf (Nat.not_lt_zero _)
    | succ fuel ih4 =>
      intro o k hk hq hf ls hl
      refine lv_iload_n hx hb dX2_lastPlaceBy_4 rfl (lv_at hl 3 rfl) ?_
      refine lv_aload_n hx hb dX2_lastPlaceBy_5 rfl (lv_at hl 0 rfl) ?_
      refine kr_gn (n := (S.1 i).2.2) hx hb hts hin2 hown hX hi rfl (hts (.fieldLink RX2 18 "Orderlattice$Row" "many" "I") (tm 27 (by decide +kernel) rfl)) dX2_lastPlaceBy_6 ?_
      refine kn_icmp_ge (tgt := 42) hx hb (by omega) (by omega) dX2_lastPlaceBy_9 (by decide) (fun c1 => ?_) (fun c1 => ?_)
      · skip
        refine lv_iload_n hx hb dX2_lastPlaceBy_42 rfl (lv_at hl 2 rfl) ?_
        exact W.iret (v := (oI o)) hx hb hr (fun t9 ht9 hW9 => ⟨_, rfl, (by rw [hq, show k = (S.1 i).2.2 by omega]), ht9⟩) (fun _ h => nomatch h) dX2_lastPlaceBy_43
      · skip
        rcases o with _ | bb
        · skip
          refine lv_iload_n hx hb dX2_lastPlaceBy_12 rfl (lv_at hl 2 rfl) ?_
          refine lv_iconst (v := (-1)) hx hb dX2_lastPlaceBy_13 (by decide) ?_
          refine lv_icmp_eq (tgt := 34) hx hb dX2_lastPlaceBy_14 (by decide) (fun c2 => ?_) (fun c2 => absurd rfl c2)
          refine lv_iload_n hx hb dX2_lastPlaceBy_34 rfl (lv_at hl 3 rfl) ?_
          refine lv_istore_n (lv' := [(2, .int (nI k)), (0, .ref (ad (3 * i))), (1, .ref (ad (24 + 5 * j))), (3, .int (nI k))]) hx hb dX2_lastPlaceBy_35 rfl hl (by decide) rfl (fun ls hl => ?_)
          refine lv_iinc (v := nI (k + 1)) (lv' := [(3, .int (nI (k + 1))), (2, .int (nI k)), (0, .ref (ad (3 * i))), (1, .ref (ad (24 + 5 * j)))]) hx hb dX2_lastPlaceBy_36 hl (k := 3) rfl (nI_1 k) (by decide) rfl (fun ls hl => ?_)
          refine lv_goto (tgt := 4) hx hb dX2_lastPlaceBy_39 (by decide) ?_
          exact ih4  (some k) (k + 1) (by omega) (bestB_first rfl hq.symm).symm (by omega) _ (lv_sub hl [2, 3, 1, 0] rfl)
        · skip
          have hbb := (bestB_lt hq.symm).1
          have hl : lv_has ls 4 [(0, .ref (ad (3 * i))), (1, .ref (ad (24 + 5 * j))), (2, .int (nI bb)), (3, .int (nI k))] := hl
          refine lv_iload_n hx hb dX2_lastPlaceBy_12 rfl (lv_at hl 2 rfl) ?_
          refine lv_iconst (v := (-1)) hx hb dX2_lastPlaceBy_13 (by decide) ?_
          refine lv_icmp_eq (tgt := 34) hx hb dX2_lastPlaceBy_14 (by decide) (fun c3 => absurd c3 (nI_nm1 (by omega))) (fun c3 => ?_)
          refine lv_aload_n hx hb dX2_lastPlaceBy_17 rfl (lv_at hl 1 rfl) ?_
          refine lv_aload_n hx hb dX2_lastPlaceBy_18 rfl (lv_at hl 0 rfl) ?_
          refine lv_iload_n hx hb dX2_lastPlaceBy_19 rfl (lv_at hl 3 rfl) ?_
          refine kx_cr (v := nI (((S.1 i).1) k)) (va_runV (As := [.int (nI k)]) (rest := [.ref (ad (24 + 5 * j))]) ⟨hx, hb, hml, hown, hts⟩ (m_X2_valueOn l dC dI ad S i k hi (by omega)) (cwV 1 hts gX2_lastPlaceBy_X2_valueOn rfl rfl rfl hdX2_valueOn_1 ⟨Nat.le_of_ble_eq_true rfl, Nat.le_of_ble_eq_true rfl⟩) (hX.preRow hi) rfl rfl hl.1 rfl (lv_room (Nat.le_of_ble_eq_true rfl)) dX2_lastPlaceBy_20 ⟨Nat.le_of_ble_eq_true rfl, Nat.le_of_ble_eq_true rfl⟩) (fun _ h => h) ?_
          refine lv_aload_n hx hb dX2_lastPlaceBy_23 rfl (lv_at hl 0 rfl) ?_
          refine lv_iload_n hx hb dX2_lastPlaceBy_24 rfl (lv_at hl 2 rfl) ?_
          refine kx_cr (v := nI (((S.1 i).1) bb)) (va_runV (As := [.int (nI bb)]) (rest := [.int (nI (((S.1 i).1) k)), .ref (ad (24 + 5 * j))]) ⟨hx, hb, hml, hown, hts⟩ (m_X2_valueOn l dC dI ad S i bb hi (by omega)) (cwV 1 hts gX2_lastPlaceBy_X2_valueOn rfl rfl rfl hdX2_valueOn_1 ⟨Nat.le_of_ble_eq_true rfl, Nat.le_of_ble_eq_true rfl⟩) (hX.preRow hi) rfl rfl hl.1 rfl (lv_room (Nat.le_of_ble_eq_true rfl)) dX2_lastPlaceBy_25 ⟨Nat.le_of_ble_eq_true rfl, Nat.le_of_ble_eq_true rfl⟩) (fun _ h => h) ?_
          refine kx_cr (v := cmpI (((S.2.1 j).2.2.1) (((S.1 i).1) k)) (((S.2.1 j).2.2.1) (((S.1 i).1) bb))) (va_runV (As := [.int (nI (((S.1 i).1) k)), .int (nI (((S.1 i).1) bb))]) (rest := []) ⟨hx, hb, hml, hown, hts⟩ (m_X1_compared l dC dI ad S j (((S.1 i).1) k) (((S.1 i).1) bb) hj ho (hro.2 _ (by omega)).1 (hro.2 _ (by omega)).1) (cwV 2 hts gX2_lastPlaceBy_X1_compared rfl rfl rfl hdX1_compared_2 ⟨Nat.le_of_ble_eq_true rfl, Nat.le_of_ble_eq_true rfl⟩) (hX.preOrd hj) rfl rfl hl.1 rfl (lv_room (Nat.le_of_ble_eq_true rfl)) dX2_lastPlaceBy_28 ⟨Nat.le_of_ble_eq_true rfl, Nat.le_of_ble_eq_true rfl⟩) (fun _ h => h) ?_
          refine kc_if_le (tgt := 36) hx hb dX2_lastPlaceBy_31 (by decide) (fun c4 => ?_) (fun c4 => ?_)
          · skip
            have hc := c4
            refine lv_iinc (v := nI (k + 1)) (lv' := [(3, .int (nI (k + 1))), (0, .ref (ad (3 * i))), (1, .ref (ad (24 + 5 * j))), (2, .int (nI bb))]) hx hb dX2_lastPlaceBy_36 hl (k := 3) rfl (nI_1 k) (by decide) rfl (fun ls hl => ?_)
            refine lv_goto (tgt := 4) hx hb dX2_lastPlaceBy_39 (by decide) ?_
            exact ih4  (some bb) (k + 1) (by omega) (bestB_old rfl hq.symm (decide_eq_false (by omega))).symm (by omega) _ (lv_sub hl [1, 2, 3, 0] rfl)
          · skip
            have hc := c4
            refine lv_iload_n hx hb dX2_lastPlaceBy_34 rfl (lv_at hl 3 rfl) ?_
            refine lv_istore_n (lv' := [(2, .int (nI k)), (0, .ref (ad (3 * i))), (1, .ref (ad (24 + 5 * j))), (3, .int (nI k))]) hx hb dX2_lastPlaceBy_35 rfl hl (by decide) rfl (fun ls hl => ?_)
            refine lv_iinc (v := nI (k + 1)) (lv' := [(3, .int (nI (k + 1))), (2, .int (nI k)), (0, .ref (ad (3 * i))), (1, .ref (ad (24 + 5 * j)))]) hx hb dX2_lastPlaceBy_36 hl (k := 3) rfl (nI_1 k) (by decide) rfl (fun ls hl => ?_)
            refine lv_goto (tgt := 4) hx hb dX2_lastPlaceBy_39 (by decide) ?_
            exact ih4  (some k) (k + 1) (by omega) (bestB_new rfl hq.symm (decide_eq_true hc)).symm (by omega) _ (lv_sub hl [2, 3, 1, 0] rfl)
  exact loop4 ((S.1 i).2.2 - 0 + 1) none 0 (by omega) rfl (by omega) _ (lv_sub hl [2, 3, 1, 0] rfl)
set_option maxHeartbeats 4000000 in
set_option maxRecDepth 100000 in
theorem m_X2_isOnSide (l : Launch) (dC : Nat → ClassId) (dI : Nat → Nat → Nat) (ad : Nat → Nat) (S : XS) (a b h : Nat) (hh : h < 4) : Met l yX2_isOnSide wsX2_isOnSide ({ frames := 0, cells := 0, slots := 0, locals := 0 } : Room) (va_Pc [.int (cmpI a b), .int (nI h)] (PX dC dI ad S)) (vp_Si (fun r => r = bI (sideB h a b))) 0 0 (fun _ => False) := by
  refine Met.ofW (cc := cX2_isOnSide) (maxL := 2) (ret := (some .boolean)) pl_X2 rfl ?_
  intro p e s m args below meth c s₁ B hml hv
  obtain ⟨rfl, hPX⟩ := hv
  have hx := B.exec
  have hb := B.bytes
  have hr := B.returns
  have hts := atoms_spec (ws := wsX2_isOnSide) B.pre
  have hown : s.vm.findClass RX2 = some m.cls := findClass_of_methodNamed B.named
  have hlocks := B.notSynchronized
  have hX := WX.of hPX
  have hl := lv_entry ([.int (cmpI a b), .int (nI h)]) (n := 2) (Nat.le_of_ble_eq_true rfl)
  rw [lg_entry_eq]
  generalize (lg_sl ([.int (cmpI a b), .int (nI h)]) ++ List.replicate (2 - (lg_sl ([.int (cmpI a b), .int (nI h)])).length) Slot.unset).toArray = ls at hl ⊢
  have hl : lv_has ls 2 [(0, .int (cmpI a b)), (1, .int (nI h))] := hl
  show W p l e ({ frames := 0, cells := 0, slots := 0, locals := 0 } : Room) s m ([.int (cmpI a b), .int (nI h)]).toArray below meth c s.heap [] 0 0 (MQ below (vp_Si (fun r => r = bI (sideB h a b))) ([.int (cmpI a b), .int (nI h)]).toArray s 0 0 (fun _ => False)) (F0 m 0 ls [])
  rcases (show h = 0 ∨ h = 1 ∨ h = 2 ∨ h = 3 by omega) with rfl | rfl | rfl | rfl
  · skip
    have hl : lv_has ls 2 [(0, .int (cmpI a b)), (1, .int (nI 0))] := hl
    refine lv_iload_n hx hb dX2_isOnSide_0 rfl (lv_at hl 1 rfl) ?_
    refine lv_tableIn (x := nI 0) (off := 27) (tgt := 28) hx hb dX2_isOnSide_1 (by decide) (by decide) (by decide) (by decide) ?_
    refine lv_iload_n hx hb dX2_isOnSide_28 rfl (lv_at hl 0 rfl) ?_
    refine kc_if_ge (tgt := 36) hx hb dX2_isOnSide_29 (by decide) (fun c1 => ?_) (fun c1 => ?_)
    · skip
      refine lv_iconst (v := nI 0) hx hb dX2_isOnSide_36 (by decide) ?_
      exact W.zret (v := bI false) hx hb hr (bI_narrow _) (fun t9 ht9 hW9 => ⟨_, rfl, (kd_f (by omega)), ht9⟩) (fun _ h => nomatch h) dX2_isOnSide_37
    · skip
      refine lv_iconst (v := nI 1) hx hb dX2_isOnSide_32 (by decide) ?_
      refine lv_goto (tgt := 37) hx hb dX2_isOnSide_33 (by decide) ?_
      exact W.zret (v := bI true) hx hb hr (bI_narrow _) (fun t9 ht9 hW9 => ⟨_, rfl, (kd_t (by omega)), ht9⟩) (fun _ h => nomatch h) dX2_isOnSide_37
  · skip
    have hl : lv_has ls 2 [(0, .int (cmpI a b)), (1, .int (nI 1))] := hl
    refine lv_iload_n hx hb dX2_isOnSide_0 rfl (lv_at hl 1 rfl) ?_
    refine lv_tableIn (x := nI 1) (off := 37) (tgt := 38) hx hb dX2_isOnSide_1 (by decide) (by decide) (by decide) (by decide) ?_
    refine lv_iload_n hx hb dX2_isOnSide_38 rfl (lv_at hl 0 rfl) ?_
    refine kc_if_gt (tgt := 46) hx hb dX2_isOnSide_39 (by decide) (fun c2 => ?_) (fun c2 => ?_)
    · skip
      refine lv_iconst (v := nI 0) hx hb dX2_isOnSide_46 (by decide) ?_
      exact W.zret (v := bI false) hx hb hr (bI_narrow _) (fun t9 ht9 hW9 => ⟨_, rfl, (kd_f (by omega)), ht9⟩) (fun _ h => nomatch h) dX2_isOnSide_47
    · skip
      refine lv_iconst (v := nI 1) hx hb dX2_isOnSide_42 (by decide) ?_
      refine lv_goto (tgt := 47) hx hb dX2_isOnSide_43 (by decide) ?_
      exact W.zret (v := bI true) hx hb hr (bI_narrow _) (fun t9 ht9 hW9 => ⟨_, rfl, (kd_t (by omega)), ht9⟩) (fun _ h => nomatch h) dX2_isOnSide_47
  · skip
    have hl : lv_has ls 2 [(0, .int (cmpI a b)), (1, .int (nI 2))] := hl
    refine lv_iload_n hx hb dX2_isOnSide_0 rfl (lv_at hl 1 rfl) ?_
    refine lv_tableIn (x := nI 2) (off := 47) (tgt := 48) hx hb dX2_isOnSide_1 (by decide) (by decide) (by decide) (by decide) ?_
    refine lv_iload_n hx hb dX2_isOnSide_48 rfl (lv_at hl 0 rfl) ?_
    refine kc_if_lt (tgt := 56) hx hb dX2_isOnSide_49 (by decide) (fun c3 => ?_) (fun c3 => ?_)
    · skip
      refine lv_iconst (v := nI 0) hx hb dX2_isOnSide_56 (by decide) ?_
      exact W.zret (v := bI false) hx hb hr (bI_narrow _) (fun t9 ht9 hW9 => ⟨_, rfl, (kd_f (by omega)), ht9⟩) (fun _ h => nomatch h) dX2_isOnSide_57
    · skip
      refine lv_iconst (v := nI 1) hx hb dX2_isOnSide_52 (by decide) ?_
      refine lv_goto (tgt := 57) hx hb dX2_isOnSide_53 (by decide) ?_
      exact W.zret (v := bI true) hx hb hr (bI_narrow _) (fun t9 ht9 hW9 => ⟨_, rfl, (kd_t (by omega)), ht9⟩) (fun _ h => nomatch h) dX2_isOnSide_57
  · skip
    have hl : lv_has ls 2 [(0, .int (cmpI a b)), (1, .int (nI 3))] := hl
    refine lv_iload_n hx hb dX2_isOnSide_0 rfl (lv_at hl 1 rfl) ?_
    refine lv_tableOut (x := nI 3) (tgt := 58) hx hb dX2_isOnSide_1 (by decide) (by decide) ?_
    refine lv_iload_n hx hb dX2_isOnSide_58 rfl (lv_at hl 0 rfl) ?_
    refine kc_if_le (tgt := 66) hx hb dX2_isOnSide_59 (by decide) (fun c4 => ?_) (fun c4 => ?_)
    · skip
      refine lv_iconst (v := nI 0) hx hb dX2_isOnSide_66 (by decide) ?_
      exact W.zret (v := bI false) hx hb hr (bI_narrow _) (fun t9 ht9 hW9 => ⟨_, rfl, (kd_f (by omega)), ht9⟩) (fun _ h => nomatch h) dX2_isOnSide_67
    · skip
      refine lv_iconst (v := nI 1) hx hb dX2_isOnSide_62 (by decide) ?_
      refine lv_goto (tgt := 67) hx hb dX2_isOnSide_63 (by decide) ?_
      exact W.zret (v := bI true) hx hb hr (bI_narrow _) (fun t9 ht9 hW9 => ⟨_, rfl, (kd_t (by omega)), ht9⟩) (fun _ h => nomatch h) dX2_isOnSide_67
set_option maxHeartbeats 4000000 in
set_option maxRecDepth 100000 in
theorem m_X2_isNearer (l : Launch) (dC : Nat → ClassId) (dI : Nat → Nat → Nat) (ad : Nat → Nat) (S : XS) (i j p9 b9 h : Nat) (hi : i < 8) (hj : j < 6) (hro : rowOK (S.1 i)) (ho : ordOK (S.2.1 j)) (hp9 : p9 < 16) (hb9 : b9 < 16) (hh : h < 4) : Met l yX2_isNearer wsX2_isNearer ({ frames := 1, cells := 0, slots := 0, locals := 26 } : Room) (va_Pc [.ref (ad (3 * i)), .ref (ad (24 + 5 * j)), .int (nI p9), .int (nI b9), .int (nI h)] (PX dC dI ad S)) (vp_Si (fun r => r = bI (nearB h ((S.2.1 j).2.2.1 ((S.1 i).1 p9)) ((S.2.1 j).2.2.1 ((S.1 i).1 b9))))) 0 0 (fun _ => False) := by
  refine Met.ofW (cc := cX2_isNearer) (maxL := 6) (ret := (some .boolean)) pl_X2 rfl ?_
  intro p e s m args below meth c s₁ B hml hv
  obtain ⟨rfl, hPX⟩ := hv
  have hx := B.exec
  have hb := B.bytes
  have hr := B.returns
  have hts := atoms_spec (ws := wsX2_isNearer) B.pre
  have hown : s.vm.findClass RX2 = some m.cls := findClass_of_methodNamed B.named
  have hlocks := B.notSynchronized
  have hX := WX.of hPX
  have hl := lv_entry ([.ref (ad (3 * i)), .ref (ad (24 + 5 * j)), .int (nI p9), .int (nI b9), .int (nI h)]) (n := 6) (Nat.le_of_ble_eq_true rfl)
  rw [lg_entry_eq]
  generalize (lg_sl ([.ref (ad (3 * i)), .ref (ad (24 + 5 * j)), .int (nI p9), .int (nI b9), .int (nI h)]) ++ List.replicate (6 - (lg_sl ([.ref (ad (3 * i)), .ref (ad (24 + 5 * j)), .int (nI p9), .int (nI b9), .int (nI h)])).length) Slot.unset).toArray = ls at hl ⊢
  have hl : lv_has ls 6 [(0, .ref (ad (3 * i))), (1, .ref (ad (24 + 5 * j))), (2, .int (nI p9)), (3, .int (nI b9)), (4, .int (nI h))] := hl
  show W p l e ({ frames := 1, cells := 0, slots := 0, locals := 26 } : Room) s m ([.ref (ad (3 * i)), .ref (ad (24 + 5 * j)), .int (nI p9), .int (nI b9), .int (nI h)]).toArray below meth c s.heap [] 0 0 (MQ below (vp_Si (fun r => r = bI (nearB h ((S.2.1 j).2.2.1 ((S.1 i).1 p9)) ((S.2.1 j).2.2.1 ((S.1 i).1 b9))))) ([.ref (ad (3 * i)), .ref (ad (24 + 5 * j)), .int (nI p9), .int (nI b9), .int (nI h)]).toArray s 0 0 (fun _ => False)) (F0 m 0 ls [])
  have hn := hro.1
  refine lv_aload_n hx hb dX2_isNearer_0 rfl (lv_at hl 1 rfl) ?_
  refine lv_aload_n hx hb dX2_isNearer_1 rfl (lv_at hl 0 rfl) ?_
  refine lv_iload_n hx hb dX2_isNearer_2 rfl (lv_at hl 2 rfl) ?_
  refine kx_cr (v := nI (((S.1 i).1) p9)) (va_runV (As := [.int (nI p9)]) (rest := [.ref (ad (24 + 5 * j))]) ⟨hx, hb, hml, hown, hts⟩ (m_X2_valueOn l dC dI ad S i p9 hi (by omega)) (cwV 1 hts gX2_isNearer_X2_valueOn rfl rfl rfl hdX2_valueOn_1 ⟨Nat.le_of_ble_eq_true rfl, Nat.le_of_ble_eq_true rfl⟩) (hX.preRow hi) rfl rfl hl.1 rfl (lv_room (Nat.le_of_ble_eq_true rfl)) dX2_isNearer_3 ⟨Nat.le_of_ble_eq_true rfl, Nat.le_of_ble_eq_true rfl⟩) (fun _ h => h) ?_
  refine lv_aload_n hx hb dX2_isNearer_6 rfl (lv_at hl 0 rfl) ?_
  refine lv_iload_n hx hb dX2_isNearer_7 rfl (lv_at hl 3 rfl) ?_
  refine kx_cr (v := nI (((S.1 i).1) b9)) (va_runV (As := [.int (nI b9)]) (rest := [.int (nI (((S.1 i).1) p9)), .ref (ad (24 + 5 * j))]) ⟨hx, hb, hml, hown, hts⟩ (m_X2_valueOn l dC dI ad S i b9 hi (by omega)) (cwV 1 hts gX2_isNearer_X2_valueOn rfl rfl rfl hdX2_valueOn_1 ⟨Nat.le_of_ble_eq_true rfl, Nat.le_of_ble_eq_true rfl⟩) (hX.preRow hi) rfl rfl hl.1 rfl (lv_room (Nat.le_of_ble_eq_true rfl)) dX2_isNearer_8 ⟨Nat.le_of_ble_eq_true rfl, Nat.le_of_ble_eq_true rfl⟩) (fun _ h => h) ?_
  refine kx_cr (v := cmpI (((S.2.1 j).2.2.1) (((S.1 i).1) p9)) (((S.2.1 j).2.2.1) (((S.1 i).1) b9))) (va_runV (As := [.int (nI (((S.1 i).1) p9)), .int (nI (((S.1 i).1) b9))]) (rest := []) ⟨hx, hb, hml, hown, hts⟩ (m_X1_compared l dC dI ad S j (((S.1 i).1) p9) (((S.1 i).1) b9) hj ho (hro.2 _ (by omega)).1 (hro.2 _ (by omega)).1) (cwV 2 hts gX2_isNearer_X1_compared rfl rfl rfl hdX1_compared_2 ⟨Nat.le_of_ble_eq_true rfl, Nat.le_of_ble_eq_true rfl⟩) (hX.preOrd hj) rfl rfl hl.1 rfl (lv_room (Nat.le_of_ble_eq_true rfl)) dX2_isNearer_11 ⟨Nat.le_of_ble_eq_true rfl, Nat.le_of_ble_eq_true rfl⟩) (fun _ h => h) ?_
  refine lv_istore (lv' := [(5, .int (cmpI (((S.2.1 j).2.2.1) (((S.1 i).1) p9)) (((S.2.1 j).2.2.1) (((S.1 i).1) b9)))), (0, .ref (ad (3 * i))), (1, .ref (ad (24 + 5 * j))), (2, .int (nI p9)), (3, .int (nI b9)), (4, .int (nI h))]) hx hb dX2_isNearer_14 hl (by decide) rfl (fun ls hl => ?_)
  refine lv_iload hx hb dX2_isNearer_16 (lv_at hl 5 rfl) ?_
  refine lv_iconst (v := nI 1) hx hb dX2_isNearer_18 (by decide) ?_
  refine kn_icmp_gt (tgt := 35) hx hb (by omega) (by omega) dX2_isNearer_19 (by decide) (fun c1 => ?_) (fun c1 => ?_)
  · skip
    have hh1 := c1
    refine lv_iload hx hb dX2_isNearer_35 (lv_at hl 0 rfl) ?_
    refine kc_if_ge (tgt := 44) hx hb dX2_isNearer_37 (by decide) (fun c2 => ?_) (fun c2 => ?_)
    · skip
      refine lv_iconst (v := bI false) hx hb dX2_isNearer_44 (by decide) ?_
      exact W.zret (v := bI false) hx hb hr (bI_narrow _) (fun t9 ht9 hW9 => ⟨_, rfl, (near_hif (by omega) (by omega)), ht9⟩) (fun _ h => nomatch h) dX2_isNearer_45
    · skip
      refine lv_iconst (v := bI true) hx hb dX2_isNearer_40 (by decide) ?_
      refine lv_goto (tgt := 45) hx hb dX2_isNearer_41 (by decide) ?_
      exact W.zret (v := bI true) hx hb hr (bI_narrow _) (fun t9 ht9 hW9 => ⟨_, rfl, (near_hit (by omega) (by omega)), ht9⟩) (fun _ h => nomatch h) dX2_isNearer_45
  · skip
    have hh1 := c1
    refine lv_iload hx hb dX2_isNearer_22 (lv_at hl 0 rfl) ?_
    refine kc_if_le (tgt := 31) hx hb dX2_isNearer_24 (by decide) (fun c3 => ?_) (fun c3 => ?_)
    · skip
      refine lv_iconst (v := bI false) hx hb dX2_isNearer_31 (by decide) ?_
      refine lv_goto (tgt := 45) hx hb dX2_isNearer_32 (by decide) ?_
      exact W.zret (v := bI false) hx hb hr (bI_narrow _) (fun t9 ht9 hW9 => ⟨_, rfl, (near_lof (by omega) (by omega)), ht9⟩) (fun _ h => nomatch h) dX2_isNearer_45
    · skip
      refine lv_iconst (v := bI true) hx hb dX2_isNearer_27 (by decide) ?_
      refine lv_goto (tgt := 45) hx hb dX2_isNearer_28 (by decide) ?_
      exact W.zret (v := bI true) hx hb hr (bI_narrow _) (fun t9 ht9 hW9 => ⟨_, rfl, (near_lot (by omega) (by omega)), ht9⟩) (fun _ h => nomatch h) dX2_isNearer_45
set_option maxHeartbeats 4000000 in
set_option maxRecDepth 100000 in
theorem m_X2_nearestPlace (l : Launch) (dC : Nat → ClassId) (dI : Nat → Nat → Nat) (ad : Nat → Nat) (S : XS) (i j x h : Nat) (hi : i < 8) (hj : j < 6) (hro : rowOK (S.1 i)) (ho : ordOK (S.2.1 j)) (hx9 : x < 16) (hh : h < 4) : Met l yX2_nearestPlace wsX2_nearestPlace ({ frames := 2, cells := 0, slots := 0, locals := 51 } : Room) (va_Pc [.ref (ad (3 * i)), .ref (ad (24 + 5 * j)), .int (nI x), .int (nI h)] (PX dC dI ad S)) (vp_Si (fun r => r = oI (bestB (fun k => sideB h ((S.2.1 j).2.2.1 ((S.1 i).1 k)) ((S.2.1 j).2.2.1 x)) (fun a b => nearB h ((S.2.1 j).2.2.1 ((S.1 i).1 a)) ((S.2.1 j).2.2.1 ((S.1 i).1 b))) (S.1 i).2.2))) 0 0 (fun _ => False) := by
  refine Met.ofW (cc := cX2_nearestPlace) (maxL := 6) (ret := (some .int)) pl_X2 rfl ?_
  intro p e s m args below meth c s₁ B hml hv
  obtain ⟨rfl, hPX⟩ := hv
  have hx := B.exec
  have hb := B.bytes
  have hr := B.returns
  have hts := atoms_spec (ws := wsX2_nearestPlace) B.pre
  have hown : s.vm.findClass RX2 = some m.cls := findClass_of_methodNamed B.named
  have hlocks := B.notSynchronized
  have hin2 : ∀ w ∈ u_ws RX2 TX2 3, w ∈ wsX2_nearestPlace := tu 1322 (by decide +kernel) rfl
  have hX := WX.of hPX
  have hl := lv_entry ([.ref (ad (3 * i)), .ref (ad (24 + 5 * j)), .int (nI x), .int (nI h)]) (n := 6) (Nat.le_of_ble_eq_true rfl)
  rw [lg_entry_eq]
  generalize (lg_sl ([.ref (ad (3 * i)), .ref (ad (24 + 5 * j)), .int (nI x), .int (nI h)]) ++ List.replicate (6 - (lg_sl ([.ref (ad (3 * i)), .ref (ad (24 + 5 * j)), .int (nI x), .int (nI h)])).length) Slot.unset).toArray = ls at hl ⊢
  have hl : lv_has ls 6 [(0, .ref (ad (3 * i))), (1, .ref (ad (24 + 5 * j))), (2, .int (nI x)), (3, .int (nI h))] := hl
  show W p l e ({ frames := 2, cells := 0, slots := 0, locals := 51 } : Room) s m ([.ref (ad (3 * i)), .ref (ad (24 + 5 * j)), .int (nI x), .int (nI h)]).toArray below meth c s.heap [] 0 0 (MQ below (vp_Si (fun r => r = oI (bestB (fun k => sideB h ((S.2.1 j).2.2.1 ((S.1 i).1 k)) ((S.2.1 j).2.2.1 x)) (fun a b => nearB h ((S.2.1 j).2.2.1 ((S.1 i).1 a)) ((S.2.1 j).2.2.1 ((S.1 i).1 b))) (S.1 i).2.2))) ([.ref (ad (3 * i)), .ref (ad (24 + 5 * j)), .int (nI x), .int (nI h)]).toArray s 0 0 (fun _ => False)) (F0 m 0 ls [])
  have hn := hro.1
  refine lv_iconst (v := (-1)) hx hb dX2_nearestPlace_0 (by decide) ?_
  refine lv_istore (lv' := [(4, .int (-1)), (0, .ref (ad (3 * i))), (1, .ref (ad (24 + 5 * j))), (2, .int (nI x)), (3, .int (nI h))]) hx hb dX2_nearestPlace_1 hl (by decide) rfl (fun ls hl => ?_)
  refine lv_iconst (v := nI 0) hx hb dX2_nearestPlace_3 (by decide) ?_
  refine lv_istore (lv' := [(5, .int (nI 0)), (4, .int (-1)), (0, .ref (ad (3 * i))), (1, .ref (ad (24 + 5 * j))), (2, .int (nI x)), (3, .int (nI h))]) hx hb dX2_nearestPlace_4 hl (by decide) rfl (fun ls hl => ?_)
  have loop6 : ∀ (fuel : Nat) (o : Option Nat) (k : Nat) (hk : k ≤ (S.1 i).2.2) (hq : o = bestB (fun k => sideB h ((S.2.1 j).2.2.1 ((S.1 i).1 k)) ((S.2.1 j).2.2.1 x)) (fun a b => nearB h ((S.2.1 j).2.2.1 ((S.1 i).1 a)) ((S.2.1 j).2.2.1 ((S.1 i).1 b))) k), (S.1 i).2.2 - k < fuel → ∀ ls : Array Slot, lv_has ls 6 [(0, .ref (ad (3 * i))), (1, .ref (ad (24 + 5 * j))), (2, .int (nI x)), (3, .int (nI h)), (4, .int (oI o)), (5, .int (nI k))] → W p l e ({ frames := 2, cells := 0, slots := 0, locals := 51 } : Room) s m ([.ref (ad (3 * i)), .ref (ad (24 + 5 * j)), .int (nI x), .int (nI h)]).toArray below meth c s.heap [] 0 0 (MQ below (vp_Si (fun r => r = oI (bestB (fun k => sideB h ((S.2.1 j).2.2.1 ((S.1 i).1 k)) ((S.2.1 j).2.2.1 x)) (fun a b => nearB h ((S.2.1 j).2.2.1 ((S.1 i).1 a)) ((S.2.1 j).2.2.1 ((S.1 i).1 b))) (S.1 i).2.2))) ([.ref (ad (3 * i)), .ref (ad (24 + 5 * j)), .int (nI x), .int (nI h)]).toArray s 0 0 (fun _ => False)) (F0 m 6 ls []) := by
    intro fuel
    induction fuel with
    | zero => intro o k hk hq hf; exact absurd hf (Nat.not_lt_zero _)
    | succ fuel ih6 =>
      intro o k hk hq hf ls hl
      refine lv_iload hx hb dX2_nearestPlace_6 (lv_at hl 5 rfl) ?_
      refine lv_aload_n hx hb dX2_nearestPlace_8 rfl (lv_at hl 0 rfl) ?_
      refine kr_gn (n := (S.1 i).2.2) hx hb hts hin2 hown hX hi rfl (hts (.fieldLink RX2 18 "Orderlattice$Row" "many" "I") (tm 27 (by decide +kernel) rfl)) dX2_nearestPlace_9 ?_
      refine kn_icmp_ge (tgt := 62) hx hb (by omega) (by omega) dX2_nearestPlace_12 (by decide) (fun c1 => ?_) (fun c1 => ?_)
      · skip
        refine lv_iload hx hb dX2_nearestPlace_62 (lv_at hl 4 rfl) ?_
        exact W.iret (v := (oI o)) hx hb hr (fun t9 ht9 hW9 => ⟨_, rfl, (by rw [hq, show k = (S.1 i).2.2 by omega]), ht9⟩) (fun _ h => nomatch h) dX2_nearestPlace_64
      · skip
        refine lv_aload_n hx hb dX2_nearestPlace_15 rfl (lv_at hl 1 rfl) ?_
        refine lv_aload_n hx hb dX2_nearestPlace_16 rfl (lv_at hl 0 rfl) ?_
        refine lv_iload hx hb dX2_nearestPlace_17 (lv_at hl 5 rfl) ?_
        refine kx_cr (v := nI (((S.1 i).1) k)) (va_runV (As := [.int (nI k)]) (rest := [.ref (ad (24 + 5 * j))]) ⟨hx, hb, hml, hown, hts⟩ (m_X2_valueOn l dC dI ad S i k hi (by omega)) (cwV 1 hts gX2_nearestPlace_X2_valueOn rfl rfl rfl hdX2_valueOn_1 ⟨Nat.le_of_ble_eq_true rfl, Nat.le_of_ble_eq_true rfl⟩) (hX.preRow hi) rfl rfl hl.1 rfl (lv_room (Nat.le_of_ble_eq_true rfl)) dX2_nearestPlace_19 ⟨Nat.le_of_ble_eq_true rfl, Nat.le_of_ble_eq_true rfl⟩) (fun _ h => h) ?_
        refine lv_iload_n hx hb dX2_nearestPlace_22 rfl (lv_at hl 2 rfl) ?_
        refine kx_cr (v := cmpI (((S.2.1 j).2.2.1) (((S.1 i).1) k)) (((S.2.1 j).2.2.1) x)) (va_runV (As := [.int (nI (((S.1 i).1) k)), .int (nI x)]) (rest := []) ⟨hx, hb, hml, hown, hts⟩ (m_X1_compared l dC dI ad S j (((S.1 i).1) k) x hj ho (hro.2 _ (by omega)).1 (by omega)) (cwV 2 hts gX2_nearestPlace_X1_compared rfl rfl rfl hdX1_compared_2 ⟨Nat.le_of_ble_eq_true rfl, Nat.le_of_ble_eq_true rfl⟩) (hX.preOrd hj) rfl rfl hl.1 rfl (lv_room (Nat.le_of_ble_eq_true rfl)) dX2_nearestPlace_23 ⟨Nat.le_of_ble_eq_true rfl, Nat.le_of_ble_eq_true rfl⟩) (fun _ h => h) ?_
        refine lv_iload_n hx hb dX2_nearestPlace_26 rfl (lv_at hl 3 rfl) ?_
        refine kx_cr (v := bI (sideB h (((S.2.1 j).2.2.1) (((S.1 i).1) k)) (((S.2.1 j).2.2.1) x))) (va_runS (As := [.int (cmpI (((S.2.1 j).2.2.1) (((S.1 i).1) k)) (((S.2.1 j).2.2.1) x)), .int (nI h)]) (rest := []) ⟨hx, hb, hml, hown, hts⟩ (m_X2_isOnSide l dC dI ad S (((S.2.1 j).2.2.1) (((S.1 i).1) k)) (((S.2.1 j).2.2.1) x) h (by omega)) (va_cwS 2 hts gX2_nearestPlace_X2_isOnSide rfl rfl rfl hdX2_isOnSide_2.2 ⟨Nat.le_of_ble_eq_true rfl, Nat.le_of_ble_eq_true rfl⟩) hX.preS rfl rfl hl.1 rfl (lv_room (Nat.le_of_ble_eq_true rfl)) dX2_nearestPlace_27 ⟨Nat.le_of_ble_eq_true rfl, Nat.le_of_ble_eq_true rfl⟩) (fun _ h => h) ?_
        refine kb_if_eq (tgt := 56) hx hb dX2_nearestPlace_30 (by decide) (fun c2 => ?_) (fun c2 => ?_)
        · skip
          have hs := c2
          refine lv_iinc (v := nI (k + 1)) (lv' := [(5, .int (nI (k + 1))), (0, .ref (ad (3 * i))), (1, .ref (ad (24 + 5 * j))), (2, .int (nI x)), (3, .int (nI h)), (4, .int (oI o))]) hx hb dX2_nearestPlace_56 hl (k := 5) rfl (nI_1 k) (by decide) rfl (fun ls hl => ?_)
          refine lv_goto (tgt := 6) hx hb dX2_nearestPlace_59 (by decide) ?_
          exact ih6  o (k + 1) (by omega) (hq.trans (bestB_no (p := (fun k => sideB h ((S.2.1 j).2.2.1 ((S.1 i).1 k)) ((S.2.1 j).2.2.1 x))) (lt := (fun a b => nearB h ((S.2.1 j).2.2.1 ((S.1 i).1 a)) ((S.2.1 j).2.2.1 ((S.1 i).1 b)))) hs).symm) (by omega) _ (lv_sub hl [1, 2, 3, 4, 5, 0] rfl)
        · skip
          have hs := c2
          rcases o with _ | bb
          · skip
            refine lv_iload hx hb dX2_nearestPlace_33 (lv_at hl 4 rfl) ?_
            refine lv_iconst (v := (-1)) hx hb dX2_nearestPlace_35 (by decide) ?_
            refine lv_icmp_eq (tgt := 52) hx hb dX2_nearestPlace_36 (by decide) (fun c3 => ?_) (fun c3 => absurd rfl c3)
            refine lv_iload hx hb dX2_nearestPlace_52 (lv_at hl 5 rfl) ?_
            refine lv_istore (lv' := [(4, .int (nI k)), (0, .ref (ad (3 * i))), (1, .ref (ad (24 + 5 * j))), (2, .int (nI x)), (3, .int (nI h)), (5, .int (nI k))]) hx hb dX2_nearestPlace_54 hl (by decide) rfl (fun ls hl => ?_)
            refine lv_iinc (v := nI (k + 1)) (lv' := [(5, .int (nI (k + 1))), (4, .int (nI k)), (0, .ref (ad (3 * i))), (1, .ref (ad (24 + 5 * j))), (2, .int (nI x)), (3, .int (nI h))]) hx hb dX2_nearestPlace_56 hl (k := 5) rfl (nI_1 k) (by decide) rfl (fun ls hl => ?_)
            refine lv_goto (tgt := 6) hx hb dX2_nearestPlace_59 (by decide) ?_
            exact ih6  (some k) (k + 1) (by omega) (bestB_first (p := (fun k => sideB h ((S.2.1 j).2.2.1 ((S.1 i).1 k)) ((S.2.1 j).2.2.1 x))) (lt := (fun a b => nearB h ((S.2.1 j).2.2.1 ((S.1 i).1 a)) ((S.2.1 j).2.2.1 ((S.1 i).1 b)))) hs hq.symm).symm (by omega) _ (lv_sub hl [2, 3, 4, 5, 1, 0] rfl)
          · skip
            have hbb := (bestB_lt hq.symm).1
            have hl : lv_has ls 6 [(0, .ref (ad (3 * i))), (1, .ref (ad (24 + 5 * j))), (2, .int (nI x)), (3, .int (nI h)), (4, .int (nI bb)), (5, .int (nI k))] := hl
            refine lv_iload hx hb dX2_nearestPlace_33 (lv_at hl 4 rfl) ?_
            refine lv_iconst (v := (-1)) hx hb dX2_nearestPlace_35 (by decide) ?_
            refine lv_icmp_eq (tgt := 52) hx hb dX2_nearestPlace_36 (by decide) (fun c4 => absurd c4 (nI_nm1 (by omega))) (fun c4 => ?_)
            refine lv_aload_n hx hb dX2_nearestPlace_39 rfl (lv_at hl 0 rfl) ?_
            refine lv_aload_n hx hb dX2_nearestPlace_40 rfl (lv_at hl 1 rfl) ?_
            refine lv_iload hx hb dX2_nearestPlace_41 (lv_at hl 5 rfl) ?_
            refine lv_iload hx hb dX2_nearestPlace_43 (lv_at hl 4 rfl) ?_
            refine lv_iload_n hx hb dX2_nearestPlace_45 rfl (lv_at hl 3 rfl) ?_
            refine kx_cr (v := bI (nearB h ((S.2.1 j).2.2.1 ((S.1 i).1 k)) ((S.2.1 j).2.2.1 ((S.1 i).1 bb)))) (va_runV (As := [.ref (ad (24 + 5 * j)), .int (nI k), .int (nI bb), .int (nI h)]) (rest := []) ⟨hx, hb, hml, hown, hts⟩ (m_X2_isNearer l dC dI ad S i j k bb h hi hj hro ho (by omega) (by omega) (by omega)) (cwV 4 hts gX2_nearestPlace_X2_isNearer rfl rfl rfl hdX2_isNearer_4 ⟨Nat.le_of_ble_eq_true rfl, Nat.le_of_ble_eq_true rfl⟩) (hX.preRow hi) rfl rfl hl.1 rfl (lv_room (Nat.le_of_ble_eq_true rfl)) dX2_nearestPlace_46 ⟨Nat.le_of_ble_eq_true rfl, Nat.le_of_ble_eq_true rfl⟩) (fun _ h => h) ?_
            refine kb_if_eq (tgt := 56) hx hb dX2_nearestPlace_49 (by decide) (fun c5 => ?_) (fun c5 => ?_)
            · skip
              have hc := c5
              refine lv_iinc (v := nI (k + 1)) (lv' := [(5, .int (nI (k + 1))), (0, .ref (ad (3 * i))), (1, .ref (ad (24 + 5 * j))), (2, .int (nI x)), (3, .int (nI h)), (4, .int (nI bb))]) hx hb dX2_nearestPlace_56 hl (k := 5) rfl (nI_1 k) (by decide) rfl (fun ls hl => ?_)
              refine lv_goto (tgt := 6) hx hb dX2_nearestPlace_59 (by decide) ?_
              exact ih6  (some bb) (k + 1) (by omega) (bestB_old (p := (fun k => sideB h ((S.2.1 j).2.2.1 ((S.1 i).1 k)) ((S.2.1 j).2.2.1 x))) (lt := (fun a b => nearB h ((S.2.1 j).2.2.1 ((S.1 i).1 a)) ((S.2.1 j).2.2.1 ((S.1 i).1 b)))) hs hq.symm hc).symm (by omega) _ (lv_sub hl [1, 2, 3, 4, 5, 0] rfl)
            · skip
              have hc := c5
              refine lv_iload hx hb dX2_nearestPlace_52 (lv_at hl 5 rfl) ?_
              refine lv_istore (lv' := [(4, .int (nI k)), (0, .ref (ad (3 * i))), (1, .ref (ad (24 + 5 * j))), (2, .int (nI x)), (3, .int (nI h)), (5, .int (nI k))]) hx hb dX2_nearestPlace_54 hl (by decide) rfl (fun ls hl => ?_)
              refine lv_iinc (v := nI (k + 1)) (lv' := [(5, .int (nI (k + 1))), (4, .int (nI k)), (0, .ref (ad (3 * i))), (1, .ref (ad (24 + 5 * j))), (2, .int (nI x)), (3, .int (nI h))]) hx hb dX2_nearestPlace_56 hl (k := 5) rfl (nI_1 k) (by decide) rfl (fun ls hl => ?_)
              refine lv_goto (tgt := 6) hx hb dX2_nearestPlace_59 (by decide) ?_
              exact ih6  (some k) (k + 1) (by omega) (bestB_new (p := (fun k => sideB h ((S.2.1 j).2.2.1 ((S.1 i).1 k)) ((S.2.1 j).2.2.1 x))) (lt := (fun a b => nearB h ((S.2.1 j).2.2.1 ((S.1 i).1 a)) ((S.2.1 j).2.2.1 ((S.1 i).1 b)))) hs hq.symm hc).symm (by omega) _ (lv_sub hl [2, 3, 4, 5, 1, 0] rfl)
  exact loop6 ((S.1 i).2.2 - 0 + 1) none 0 (by omega) rfl (by omega) _ (lv_sub hl [2, 3, 4, 5, 1, 0] rfl)
set_option maxHeartbeats 4000000 in
set_option maxRecDepth 100000 in
theorem m_X2_reverse (l : Launch) (dC : Nat → ClassId) (dI : Nat → Nat → Nat) (ad : Nat → Nat) (S : XS) (i : Nat) (hi : i < 8) (hn : (S.1 i).2.2 ≤ 16) : Met l yX2_reverse wsX2_reverse ({ frames := 2, cells := 0, slots := 0, locals := 47 } : Room) (va_Pc [.ref (ad (3 * i))] (PX dC dI ad S)) (va_Qv (fun S' => S' = xR S i (rev (S.1 i).1 (S.1 i).2.2 ((S.1 i).2.2), rev (S.1 i).2.1 (S.1 i).2.2 ((S.1 i).2.2), (S.1 i).2.2)) (PX dC dI ad) (AX ad)) 0 0 (AX ad) := by
  refine Met.ofW (cc := cX2_reverse) (maxL := 3) (ret := none) pl_X2 rfl ?_
  intro p e s m args below meth c s₁ B hml hv
  obtain ⟨rfl, hPX⟩ := hv
  have hx := B.exec
  have hb := B.bytes
  have hr := B.returns
  have hts := atoms_spec (ws := wsX2_reverse) B.pre
  have hown : s.vm.findClass RX2 = some m.cls := findClass_of_methodNamed B.named
  have hlocks := B.notSynchronized
  have hin2 : ∀ w ∈ u_ws RX2 TX2 3, w ∈ wsX2_reverse := tu 1322 (by decide +kernel) rfl
  have hX := WX.of hPX
  have hl := lv_entry ([.ref (ad (3 * i))]) (n := 3) (Nat.le_of_ble_eq_true rfl)
  rw [lg_entry_eq]
  generalize (lg_sl ([.ref (ad (3 * i))]) ++ List.replicate (3 - (lg_sl ([.ref (ad (3 * i))])).length) Slot.unset).toArray = ls at hl ⊢
  have hl : lv_has ls 3 [(0, .ref (ad (3 * i)))] := hl
  show W p l e ({ frames := 2, cells := 0, slots := 0, locals := 47 } : Room) s m ([.ref (ad (3 * i))]).toArray below meth c s.heap [] 0 0 (MQ below (va_Qv (fun S' => S' = xR S i (rev (S.1 i).1 (S.1 i).2.2 ((S.1 i).2.2), rev (S.1 i).2.1 (S.1 i).2.2 ((S.1 i).2.2), (S.1 i).2.2)) (PX dC dI ad) (AX ad)) ([.ref (ad (3 * i))]).toArray s 0 0 (AX ad)) (F0 m 0 ls [])
  rcases Nat.eq_zero_or_pos (S.1 i).2.2 with hz | hz
  · skip
    refine lv_iconst (v := nI 0) hx hb dX2_reverse_0 (by decide) ?_
    refine lv_istore_n (lv' := [(1, .int (nI 0)), (0, .ref (ad (3 * i)))]) hx hb dX2_reverse_1 rfl hl (by decide) rfl (fun ls hl => ?_)
    refine lv_aload_n hx hb dX2_reverse_2 rfl (lv_at hl 1 rfl) ?_
    refine kr_gn (n := (S.1 i).2.2) hx hb hts hin2 hown hX hi rfl (hts (.fieldLink RX2 18 "Orderlattice$Row" "many" "I") (tm 27 (by decide +kernel) rfl)) dX2_reverse_3 ?_
    refine lv_iconst (v := nI 1) hx hb dX2_reverse_6 (by decide) ?_
    refine lv_isub hx hb dX2_reverse_7 ?_
    refine lv_istore_n (lv' := [(2, .int (nI (S.1 i).2.2 - nI 1)), (1, .int (nI 0)), (0, .ref (ad (3 * i)))]) hx hb dX2_reverse_8 rfl hl (by decide) rfl (fun ls hl => ?_)
    refine lv_iload_n hx hb dX2_reverse_9 rfl (lv_at hl 1 rfl) ?_
    refine lv_iload_n hx hb dX2_reverse_10 rfl (lv_at hl 0 rfl) ?_
    refine lv_icmp_ge (tgt := 29) hx hb dX2_reverse_11 (by decide) (fun c1 => ?_) (fun c1 => absurd (by rw [hz]; decide) c1)
    exact W.vret hx hb hr (fun t9 ht9 hW9 => ⟨⟨S, rfl, (by rw [rev_z _ hz, rev_z _ hz]; exact (xR_self S i).symm), hX.P ht9 hW9⟩, hX.2.2.2.F ht9⟩) hX.2.2.2.2.2 dX2_reverse_29
  · skip
    refine lv_iconst (v := nI 0) hx hb dX2_reverse_0 (by decide) ?_
    refine lv_istore_n (lv' := [(1, .int (nI 0)), (0, .ref (ad (3 * i)))]) hx hb dX2_reverse_1 rfl hl (by decide) rfl (fun ls hl => ?_)
    refine lv_aload_n hx hb dX2_reverse_2 rfl (lv_at hl 1 rfl) ?_
    refine kr_gn (n := (S.1 i).2.2) hx hb hts hin2 hown hX hi rfl (hts (.fieldLink RX2 18 "Orderlattice$Row" "many" "I") (tm 27 (by decide +kernel) rfl)) dX2_reverse_3 ?_
    refine lv_iconst (v := nI 1) hx hb dX2_reverse_6 (by decide) ?_
    refine kn_isub hx hb (by omega) dX2_reverse_7 ?_
    refine lv_istore_n (lv' := [(2, .int (nI (((S.1 i).2.2) - 1))), (1, .int (nI 0)), (0, .ref (ad (3 * i)))]) hx hb dX2_reverse_8 rfl hl (by decide) rfl (fun ls hl => ?_)
    have loop9 : ∀ (fuel : Nat) (a : Nat) (ha : 2 * a ≤ (S.1 i).2.2) (H : Heap) (locs : List Loc), (S.1 i).2.2 - a < fuel → WX dC dI ad (xR S i (rev (S.1 i).1 (S.1 i).2.2 a, rev (S.1 i).2.1 (S.1 i).2.2 a, (S.1 i).2.2)) (AX ad) s H locs → ∀ ls : Array Slot, lv_has ls 3 [(0, .ref (ad (3 * i))), (1, .int (nI a)), (2, .int (nI ((S.1 i).2.2 - 1 - a)))] → W p l e ({ frames := 2, cells := 0, slots := 0, locals := 47 } : Room) s m ([.ref (ad (3 * i))]).toArray below meth c H locs 0 0 (MQ below (va_Qv (fun S' => S' = xR S i (rev (S.1 i).1 (S.1 i).2.2 ((S.1 i).2.2), rev (S.1 i).2.1 (S.1 i).2.2 ((S.1 i).2.2), (S.1 i).2.2)) (PX dC dI ad) (AX ad)) ([.ref (ad (3 * i))]).toArray s 0 0 (AX ad)) (F0 m 9 ls []) := by
      intro fuel
      induction fuel with
      | zero => intro a ha H locs hf; exact absurd hf (Nat.not_lt_zero _)
      | succ fuel ih9 =>
        intro a ha H locs hf hX ls hl
        refine lv_iload_n hx hb dX2_reverse_9 rfl (lv_at hl 1 rfl) ?_
        refine lv_iload_n hx hb dX2_reverse_10 rfl (lv_at hl 2 rfl) ?_
        refine kn_icmp_ge (tgt := 29) hx hb (by omega) (by omega) dX2_reverse_11 (by decide) (fun c2 => ?_) (fun c2 => ?_)
        · skip
          exact W.vret hx hb hr (fun t9 ht9 hW9 => ⟨⟨(xR S i (rev (S.1 i).1 (S.1 i).2.2 a, rev (S.1 i).2.1 (S.1 i).2.2 a, (S.1 i).2.2)), rfl, (by rw [rev_end (a := a) (S.1 i).1 (by omega), rev_end (a := a) (S.1 i).2.1 (by omega)]), hX.P ht9 hW9⟩, hX.2.2.2.F ht9⟩) hX.2.2.2.2.2 dX2_reverse_29
        · skip
          refine lv_aload_n hx hb dX2_reverse_14 rfl (lv_at hl 0 rfl) ?_
          refine lv_iload_n hx hb dX2_reverse_15 rfl (lv_at hl 1 rfl) ?_
          refine lv_iload_n hx hb dX2_reverse_16 rfl (lv_at hl 2 rfl) ?_
          refine kx_cv (va_runV (As := [.int (nI a), .int (nI ((S.1 i).2.2 - 1 - a))]) (rest := []) ⟨hx, hb, hml, hown, hts⟩ (m_X2_exchange l dC dI ad (xR S i (rev (S.1 i).1 (S.1 i).2.2 a, rev (S.1 i).2.1 (S.1 i).2.2 a, (S.1 i).2.2)) i a ((S.1 i).2.2 - 1 - a) hi (by omega) (by omega)) (cwV 2 hts gX2_reverse_X2_exchange rfl rfl rfl hdX2_exchange_2 ⟨Nat.le_of_ble_eq_true rfl, Nat.le_of_ble_eq_true rfl⟩) (hX.preRow hi) rfl rfl hl.1 rfl (lv_room (Nat.le_of_ble_eq_true rfl)) dX2_reverse_17 ⟨Nat.le_of_ble_eq_true rfl, Nat.le_of_ble_eq_true rfl⟩) hX (fun _ h => h) (fun S_ H locs hw hX => ?_)
          rw [xR_row, xR_xR] at hw
          dsimp only at hw
          rw [rev_up _ (by omega), rev_up _ (by omega)] at hw
          subst hw
          refine lv_iinc (v := nI (a + 1)) (lv' := [(1, .int (nI (a + 1))), (0, .ref (ad (3 * i))), (2, .int (nI ((S.1 i).2.2 - 1 - a)))]) hx hb dX2_reverse_20 hl (k := 1) rfl (nI_1 a) (by decide) rfl (fun ls hl => ?_)
          refine lv_iinc (v := nI ((S.1 i).2.2 - 1 - (a + 1))) (lv' := [(2, .int (nI ((S.1 i).2.2 - 1 - (a + 1)))), (1, .int (nI (a + 1))), (0, .ref (ad (3 * i)))]) hx hb dX2_reverse_23 hl (k := 2) rfl ((kn_dec (by omega)).trans (congrArg nI (by omega))) (by decide) rfl (fun ls hl => ?_)
          refine lv_goto (tgt := 9) hx hb dX2_reverse_26 (by decide) ?_
          exact ih9  (a + 1) (by omega) _ _ (by omega) hX _ (lv_sub hl [2, 1, 0] rfl)
    exact loop9 ((S.1 i).2.2 + 1) 0 (by omega) _ _ (by omega) (WX.eqS (by rw [rev_a0, rev_a0]; exact (xR_self S i).symm) hX) _ (lv_sub hl [2, 1, 0] rfl)
end
section
/-! sorters -/
theorem min_nI {a b : Nat} (ha : a < 2 ^ 31) (hb : b < 2 ^ 31) : (if nI b < nI a then nI b else nI a) = nI (min a b) := by
  by_cases h : b < a
  · rw [if_pos (nI_lt h ha), Nat.min_eq_right (by omega)]
  · rw [if_neg (nI_nlt (by omega) hb), Nat.min_eq_left (by omega)]
section KMIN
variable {p : Program} {l : Launch} {e : Env} {R : Room} {s : State} {m : MethodId} {args : Array Value} {below : List Frame} {meth : Method} {c : Code} {H : Heap} {locs : List Loc} {cells slots : Nat} {Q : State → Prop}
theorem kn_min {cc : ByteArray} {pc : Nat} {ls : Array Slot} {rest : List Value} {a b : Nat} (hx : p.tables.exec = Jvm.exec) (hb : c.code = cc) (hml : c.maxLocals = ls.size) {own : String} {index : Nat} (hown : s.vm.findClass own = some m.cls) (hlink : (Cond.methodLink own index Lib.Math.min.name).before args s = true) (hstat : (Cond.static Lib.Math.min.name).before args s = true) (hini : (Cond.initialized "java/lang/Math").before args s = true) (hcode : (Cond.code Lib.Math.min.name Lib.Math.min.code 2 (some .int)).before args s = true)
    (hframes : 1 ≤ R.frames) (hlocals : (rest.map fun v => v.category).sum + 13 ≤ R.locals) (hc : cells ≤ R.cells) (hs : slots ≤ R.slots) (ha : a < 2 ^ 31) (hb2 : b < 2 ^ 31) (hdg : decode cc pc = .ok (.invokestatic index, 3))
    (kk : W p l e R s m args below meth c H locs cells slots Q (F0 m (pc + 3) ls (.int (nI (min a b)) :: rest))) : W p l e R s m args below meth c H locs cells slots Q (F0 m pc ls (.int (nI b) :: .int (nI a) :: rest)) :=
  va_mmin hx hb hml hown hlink hstat hini hcode hframes hlocals hc hs hdg (by rw [min_nI ha hb2]; exact kk)
end KMIN
theorem xch_lt {f : Nat → Nat} {a b k N : Nat} (h : ∀ q, q < 16 → f q < N) (ha : a < 16) (hb : b < 16) (hk : k < 16) : xch f a b k < N := by
  unfold xch va_up
  split
  · exact h a ha
  · split
    · exact h b hb
    · exact h k hk
theorem up_lt {f : Nat → Nat} {a v k N : Nat} (h : ∀ q, q < 16 → f q < N) (hv : v < N) (hk : k < 16) : va_up f a v k < N := by
  unfold va_up
  split
  · exact hv
  · exact h k hk
theorem rowOK_xch {r : RowS} (h : rowOK r) {a b : Nat} (ha : a < 16) (hb : b < 16) : rowOK (xch r.1 a b, xch r.2.1 a b, r.2.2) :=
  ⟨h.1, fun _ hk => ⟨xch_lt (fun q hq => (h.2 q hq).1) ha hb hk, xch_lt (fun q hq => (h.2 q hq).2) ha hb hk⟩⟩
theorem rowOK_app {r : RowS} (h : rowOK r) (hn : r.2.2 < 16) {v u : Nat} (hv : v < 16) (hu : u < 1000000) : rowOK (va_up r.1 r.2.2 v, va_up r.2.1 r.2.2 u, r.2.2 + 1) :=
  ⟨hn, fun _ hk => ⟨up_lt (fun q hq => (h.2 q hq).1) hv hk, up_lt (fun q hq => (h.2 q hq).2) hu hk⟩⟩
theorem rowOK_ovl {r t : RowS} (h : rowOK r) (h2 : rowOK t) : rowOK (ovl t.1 r.1 t.2.2, ovl t.2.1 r.2.1 t.2.2, t.2.2) :=
  ⟨h2.1, fun k hk => by
    dsimp only
    unfold ovl
    split
    · exact h2.2 k hk
    · exact h.2 k hk⟩
theorem rowOK_0 {r : RowS} (h : rowOK r) : rowOK (r.1, r.2.1, 0) := ⟨Nat.zero_le _, h.2⟩
end
section
/-- what sorting row i by way of row g leaves as it was -/
def keepR (S S1 : XS) (i g : Nat) : Prop := S1.2 = S.2 ∧ (∀ k, k ≠ i → k ≠ g → S1.1 k = S.1 k) ∧ rowOK (S1.1 g) ∧ rowOK (S1.1 i) ∧ (S1.1 i).2.2 = (S.1 i).2.2
theorem keepR_refl {S : XS} {i g : Nat} (hi : rowOK (S.1 i)) (hg : rowOK (S.1 g)) : keepR S S i g := ⟨rfl, fun _ _ _ => rfl, hg, hi, rfl⟩
theorem keepR_g {S S1 : XS} {i g : Nat} (h : keepR S S1 i g) (hig : i ≠ g) {r : RowS} (hr : rowOK r) : keepR S (xR S1 g r) i g :=
  ⟨h.1, fun k h1 h2 => by rw [xR_ne _ _ h2]; exact h.2.1 k h1 h2, by rw [xR_row]; exact hr, by rw [xR_ne _ _ hig]; exact h.2.2.2.1, by rw [xR_ne _ _ hig]; exact h.2.2.2.2⟩
theorem keepR_i {S S1 : XS} {i g : Nat} (h : keepR S S1 i g) (hig : i ≠ g) {r : RowS} (hr : rowOK r) (hn : r.2.2 = (S.1 i).2.2) : keepR S (xR S1 i r) i g :=
  ⟨h.1, fun k h1 h2 => by rw [xR_ne _ _ h1]; exact h.2.1 k h1 h2, by rw [xR_ne _ _ (Ne.symm hig)]; exact h.2.2.1, by rw [xR_row]; exact hr, by rw [xR_row]; exact hn⟩
theorem cntB_all {p : Nat → Bool} : ∀ {n : Nat}, (∀ k, k < n → p k = true) → cntB p n = n
  | 0, _ => rfl
  | n + 1, h => by rw [cntB_t (h n (by omega)), cntB_all (fun k hk => h k (by omega))]
theorem cntB_none {p : Nat → Bool} : ∀ {n : Nat}, (∀ k, k < n → p k = false) → cntB p n = 0
  | 0, _ => rfl
  | n + 1, h => by rw [cntB_f (h n (by omega)), cntB_none (fun k hk => h k (by omega))]
theorem cntB_mono {p q : Nat → Bool} : ∀ {n : Nat}, (∀ k, k < n → p k = true → q k = true) → cntB p n ≤ cntB q n
  | 0, _ => Nat.le_refl _
  | n + 1, h => by
    have ih := cntB_mono (p := p) (q := q) (n := n) (fun k hk => h k (by omega))
    rw [cntB, cntB]
    cases hp : p n with
    | false => simp; split <;> omega
    | true => rw [h n (by omega) hp]; simp; omega
theorem cntB_grow (p : Nat → Bool) {a b : Nat} (h : a ≤ b) : cntB p a ≤ cntB p b := by
  induction b with
  | zero => rw [show a = 0 by omega]; exact Nat.le_refl _
  | succ b ih =>
    by_cases e : a = b + 1
    · rw [e]; exact Nat.le_refl _
    · have := ih (by omega)
      rw [cntB]
      split <;> omega
theorem cntB_two {p p2 : Nat → Bool} (h : ∀ k, p k = true → p2 k = true → False) : ∀ n, cntB p n + cntB p2 n ≤ n
  | 0 => Nat.le_refl _
  | n + 1 => by
    have ih := cntB_two h n
    rw [cntB, cntB]
    cases h1 : p n with
    | false => cases h2 : p2 n <;> simp <;> omega
    | true =>
      cases h2 : p2 n with
      | true => exact absurd h2 (fun z => h n h1 z)
      | false => simp; omega
theorem cnt_room {p p2 : Nat → Bool} (h : ∀ k, p k = true → p2 k = true → False) {q n : Nat} (hq : q < n) (hp : p2 q = true) : cntB p n + cntB p2 q < n := by
  have h1 := cntB_two h n
  have h2 := cntB_grow p2 (show q + 1 ≤ n from hq)
  rw [cntB_t hp] at h2
  omega
theorem cnt_lt_s (f : Nat → Nat) (rk : Nat) : ∀ n, cntB (fun k => decide (f k < rk)) n + cntB (fun k => decide (f k = rk)) n = cntB (fun k => decide (f k < rk + 1)) n
  | 0 => rfl
  | n + 1 => by
    have ih := cnt_lt_s f rk n
    rw [cntB, cntB, cntB, ← ih]
    rcases Nat.lt_trichotomy (f n) rk with h | h | h
    · rw [if_pos (decide_eq_true h), if_neg (by rw [decide_eq_false (by omega)]; decide), if_pos (decide_eq_true (by omega))]; omega
    · rw [if_neg (by rw [decide_eq_false (by omega)]; decide), if_pos (decide_eq_true h), if_pos (decide_eq_true (by omega))]; omega
    · rw [if_neg (by rw [decide_eq_false (by omega)]; decide), if_neg (by rw [decide_eq_false (by omega)]; decide), if_neg (by rw [decide_eq_false (by omega)]; decide)]; omega
theorem head_ex (c : Nat → Nat) : ∀ (n v : Nat), v < n → ∃ h, h ≤ v ∧ c h = c v ∧ headB c h = true
  | 0, v, hv => absurd hv (Nat.not_lt_zero _)
  | n + 1, v, hv => by
    by_cases hh : headB c v = true
    · exact ⟨v, Nat.le_refl _, rfl, hh⟩
    · have : ¬ ∀ k, k < v → c k ≠ c v := fun q => hh (decide_eq_true q)
      have h2 : ∃ k, k < v ∧ c k = c v := Classical.byContradiction (fun z => this (fun k hk e => z ⟨k, hk, e⟩))
      obtain ⟨k, hk, e⟩ := h2
      obtain ⟨h, h3, h4, h5⟩ := head_ex c n k (by omega)
      exact ⟨h, by omega, h4.trans e, h5⟩
theorem cntB_lt {p q : Nat → Bool} {n a : Nat} (h : ∀ k, k < n → p k = true → q k = true) (ha : a < n) (h1 : p a = false) (h2 : q a = true) : cntB p n < cntB q n := by
  induction n with
  | zero => exact absurd ha (Nat.not_lt_zero _)
  | succ n ih =>
    by_cases e : a = n
    · subst e
      rw [cntB_f h1, cntB_t h2]
      exact Nat.lt_succ_of_le (cntB_mono (fun k hk => h k (by omega)))
    · have := ih (fun k hk => h k (by omega)) (by omega)
      rw [cntB, cntB]
      cases hp : p n with
      | false => simp; split <;> omega
      | true => rw [h n (by omega) hp]; simp; omega
theorem rank_class (c : Nat → Nat) {v : Nat} (hv : v < 16) : rankC c v < classC c := by
  obtain ⟨h, h1, h2, h3⟩ := head_ex c 16 v hv
  refine cntB_lt (a := h) (fun k _ hk => ?_) (by omega) ?_ h3
  · rw [Bool.and_eq_true] at hk; exact hk.1
  · rw [h3, decide_eq_false (by omega)]; rfl
end
section
/-! two orders beside one another -/
def finerN (c d : Nat → Nat) (n : Nat) : Bool := decide (∀ a, a < n → ∀ b, b < n → d a < d b → c a < c b)
def finerB (c d : Nat → Nat) : Bool := finerN c d 16
def likeN (c d : Nat → Nat) (n : Nat) : Bool := decide (∀ a, a < n → ∀ b, b < n → a < b → cmpI (c a) (c b) = cmpI (d a) (d b))
def likeB (c d : Nat → Nat) : Bool := likeN c d 16
def alikeN (c d : Nat → Nat) (n : Nat) : Bool := decide (∀ a, a < n → ∀ b, b < n → a < b → c a = c b → d a = d b)
def alikeB (c d : Nat → Nat) : Bool := alikeN c d 16
def rankSomeN (r : Nat → Nat) (k n : Nat) : Bool := decide (∃ v, v < n ∧ r v = k)
def rankSome (r : Nat → Nat) (k : Nat) : Bool := rankSomeN r k 16
set_option maxHeartbeats 4000000 in
set_option maxRecDepth 100000 in
theorem m_X1_isFinerThan (l : Launch) (dC : Nat → ClassId) (dI : Nat → Nat → Nat) (ad : Nat → Nat) (S : XS) (j t : Nat) (hj : j < 6) (ht : t < 6) (ho : ordOK (S.2.1 j)) (ho2 : ordOK (S.2.1 t)) : Met l yX1_isFinerThan wsX1_isFinerThan ({ frames := 1, cells := 0, slots := 0, locals := 26 } : Room) (va_Pc [.ref (ad (24 + 5 * j)), .ref (ad (24 + 5 * t))] (PX dC dI ad S)) (vp_Si (fun r => r = bI (finerB (S.2.1 j).2.2.1 (S.2.1 t).2.2.1))) 0 0 (fun _ => False) := by
  refine Met.ofW (cc := cX1_isFinerThan) (maxL := 4) (ret := (some .boolean)) pl_X1 rfl ?_
  intro p e s m args below meth c s₁ B hml hv
  obtain ⟨rfl, hPX⟩ := hv
  have hx := B.exec
  have hb := B.bytes
  have hr := B.returns
  have hts := atoms_spec (ws := wsX1_isFinerThan) B.pre
  have hown : s.vm.findClass RX1 = some m.cls := findClass_of_methodNamed B.named
  have hlocks := B.notSynchronized
  have hX := WX.of hPX
  have hl := lv_entry ([.ref (ad (24 + 5 * j)), .ref (ad (24 + 5 * t))]) (n := 4) (Nat.le_of_ble_eq_true rfl)
  rw [lg_entry_eq]
  generalize (lg_sl ([.ref (ad (24 + 5 * j)), .ref (ad (24 + 5 * t))]) ++ List.replicate (4 - (lg_sl ([.ref (ad (24 + 5 * j)), .ref (ad (24 + 5 * t))])).length) Slot.unset).toArray = ls at hl ⊢
  have hl : lv_has ls 4 [(0, .ref (ad (24 + 5 * j))), (1, .ref (ad (24 + 5 * t)))] := hl
  show W p l e ({ frames := 1, cells := 0, slots := 0, locals := 26 } : Room) s m ([.ref (ad (24 + 5 * j)), .ref (ad (24 + 5 * t))]).toArray below meth c s.heap [] 0 0 (MQ below (vp_Si (fun r => r = bI (finerB (S.2.1 j).2.2.1 (S.2.1 t).2.2.1))) ([.ref (ad (24 + 5 * j)), .ref (ad (24 + 5 * t))]).toArray s 0 0 (fun _ => False)) (F0 m 0 ls [])
  refine lv_iconst (v := nI 0) hx hb dX1_isFinerThan_0 (by decide) ?_
  refine lv_istore_n (lv' := [(2, .int (nI 0)), (0, .ref (ad (24 + 5 * j))), (1, .ref (ad (24 + 5 * t)))]) hx hb dX1_isFinerThan_1 rfl hl (by decide) rfl (fun ls hl => ?_)
  have loop2 : ∀ (fuel : Nat) (a : Nat) (ha : a ≤ 16) (hq : ∀ x, x < a → ∀ y, y < 16 → (S.2.1 t).2.2.1 x < (S.2.1 t).2.2.1 y → (S.2.1 j).2.2.1 x < (S.2.1 j).2.2.1 y), 16 - a < fuel → ∀ ls : Array Slot, lv_has ls 4 [(0, .ref (ad (24 + 5 * j))), (1, .ref (ad (24 + 5 * t))), (2, .int (nI a))] → W p l e ({ frames := 1, cells := 0, slots := 0, locals := 26 } : Room) s m ([.ref (ad (24 + 5 * j)), .ref (ad (24 + 5 * t))]).toArray below meth c s.heap [] 0 0 (MQ below (vp_Si (fun r => r = bI (finerB (S.2.1 j).2.2.1 (S.2.1 t).2.2.1))) ([.ref (ad (24 + 5 * j)), .ref (ad (24 + 5 * t))]).toArray s 0 0 (fun _ => False)) (F0 m 2 ls []) := by
    intro fuel
    induction fuel with
    | zero => intro a ha hq hf; exact absurd hf (Nat.not_lt_zero _)
    | succ fuel ih2 =>
      intro a ha hq hf ls hl
      refine lv_iload_n hx hb dX1_isFinerThan_2 rfl (lv_at hl 2 rfl) ?_
      refine lv_bipush (v := nI 16) hx hb dX1_isFinerThan_3 (by decide) ?_
      refine kn_icmp_ge (tgt := 48) hx hb (by omega) (by omega) dX1_isFinerThan_5 (by decide) (fun k_1 => ?_) (fun k_1 => ?_)
      · skip
        refine lv_iconst (v := nI 1) hx hb dX1_isFinerThan_48 (by decide) ?_
        exact W.zret (v := bI true) hx hb hr (bI_narrow _) (fun t9 ht9 hW9 => ⟨_, rfl, (kd_t (fun x hx9 y hy9 => hq x (by omega) y hy9)), ht9⟩) (fun _ h => nomatch h) dX1_isFinerThan_49
      · skip
        refine lv_iconst (v := nI 0) hx hb dX1_isFinerThan_8 (by decide) ?_
        refine lv_istore_n (lv' := [(3, .int (nI 0)), (0, .ref (ad (24 + 5 * j))), (1, .ref (ad (24 + 5 * t))), (2, .int (nI a))]) hx hb dX1_isFinerThan_9 rfl hl (by decide) rfl (fun ls hl => ?_)
        have loop10 : ∀ (fuel : Nat) (b : Nat) (hb3 : b ≤ 17) (hp : ∀ y, y < b → (S.2.1 t).2.2.1 a < (S.2.1 t).2.2.1 y → (S.2.1 j).2.2.1 a < (S.2.1 j).2.2.1 y), 17 - b < fuel → ∀ ls : Array Slot, lv_has ls 4 [(0, .ref (ad (24 + 5 * j))), (1, .ref (ad (24 + 5 * t))), (2, .int (nI a)), (3, .int (nI b))] → W p l e ({ frames := 1, cells := 0, slots := 0, locals := 26 } : Room) s m ([.ref (ad (24 + 5 * j)), .ref (ad (24 + 5 * t))]).toArray below meth c s.heap [] 0 0 (MQ below (vp_Si (fun r => r = bI (finerB (S.2.1 j).2.2.1 (S.2.1 t).2.2.1))) ([.ref (ad (24 + 5 * j)), .ref (ad (24 + 5 * t))]).toArray s 0 0 (fun _ => False)) (F0 m 10 ls []) := by
          intro fuel
          induction fuel with
          | zero => intro b hb3 hp hf; exact absurd hf (Nat.not_lt_zero _)
          | succ fuel ih10 =>
            intro b hb3 hp hf ls hl
            refine lv_iload_n hx hb dX1_isFinerThan_10 rfl (lv_at hl 3 rfl) ?_
            refine lv_bipush (v := nI 16) hx hb dX1_isFinerThan_11 (by decide) ?_
            refine kn_icmp_ge (tgt := 42) hx hb (by omega) (by omega) dX1_isFinerThan_13 (by decide) (fun k_2 => ?_) (fun k_2 => ?_)
            · skip
              refine lv_iinc (v := nI (a + 1)) (lv' := [(2, .int (nI (a + 1))), (0, .ref (ad (24 + 5 * j))), (1, .ref (ad (24 + 5 * t))), (3, .int (nI b))]) hx hb dX1_isFinerThan_42 hl (k := 2) rfl (nI_1 a) (by decide) rfl (fun ls hl => ?_)
              refine lv_goto (tgt := 2) hx hb dX1_isFinerThan_45 (by decide) ?_
              exact ih2  (a + 1) (by omega) (lt_s hq (fun y hy => hp y (by omega))) (by omega) _ (lv_sub hl [1, 2, 0] rfl)
            · skip
              refine lv_aload_n hx hb dX1_isFinerThan_16 rfl (lv_at hl 1 rfl) ?_
              refine lv_iload_n hx hb dX1_isFinerThan_17 rfl (lv_at hl 2 rfl) ?_
              refine lv_iload_n hx hb dX1_isFinerThan_18 rfl (lv_at hl 3 rfl) ?_
              refine kx_cr (v := cmpI (((S.2.1 t).2.2.1) a) (((S.2.1 t).2.2.1) b)) (va_runV (As := [.int (nI a), .int (nI b)]) (rest := []) ⟨hx, hb, hml, hown, hts⟩ (m_X1_compared l dC dI ad S t a b ht ho2 (by omega) (by omega)) (cwV 2 hts gX1_isFinerThan_X1_compared rfl rfl rfl hdX1_compared_2 ⟨Nat.le_of_ble_eq_true rfl, Nat.le_of_ble_eq_true rfl⟩) (hX.preOrd ht) rfl rfl hl.1 rfl (lv_room (Nat.le_of_ble_eq_true rfl)) dX1_isFinerThan_19 ⟨Nat.le_of_ble_eq_true rfl, Nat.le_of_ble_eq_true rfl⟩) (fun _ h => h) ?_
              refine kc_if_ge (tgt := 36) hx hb dX1_isFinerThan_22 (by decide) (fun k_3 => ?_) (fun k_3 => ?_)
              · skip
                have h1 := k_3
                refine lv_iinc (v := nI (b + 1)) (lv' := [(3, .int (nI (b + 1))), (0, .ref (ad (24 + 5 * j))), (1, .ref (ad (24 + 5 * t))), (2, .int (nI a))]) hx hb dX1_isFinerThan_36 hl (k := 3) rfl (nI_1 b) (by decide) rfl (fun ls hl => ?_)
                refine lv_goto (tgt := 10) hx hb dX1_isFinerThan_39 (by decide) ?_
                exact ih10  (b + 1) (by omega) (lt_s hp (fun h => absurd h (by omega))) (by omega) _ (lv_sub hl [1, 2, 3, 0] rfl)
              · skip
                have h1 := k_3
                refine lv_aload_n hx hb dX1_isFinerThan_25 rfl (lv_at hl 0 rfl) ?_
                refine lv_iload_n hx hb dX1_isFinerThan_26 rfl (lv_at hl 2 rfl) ?_
                refine lv_iload_n hx hb dX1_isFinerThan_27 rfl (lv_at hl 3 rfl) ?_
                refine kx_cr (v := cmpI (((S.2.1 j).2.2.1) a) (((S.2.1 j).2.2.1) b)) (va_runV (As := [.int (nI a), .int (nI b)]) (rest := []) ⟨hx, hb, hml, hown, hts⟩ (m_X1_compared l dC dI ad S j a b hj ho (by omega) (by omega)) (cwV 2 hts gX1_isFinerThan_X1_compared rfl rfl rfl hdX1_compared_2 ⟨Nat.le_of_ble_eq_true rfl, Nat.le_of_ble_eq_true rfl⟩) (hX.preOrd hj) rfl rfl hl.1 rfl (lv_room (Nat.le_of_ble_eq_true rfl)) dX1_isFinerThan_28 ⟨Nat.le_of_ble_eq_true rfl, Nat.le_of_ble_eq_true rfl⟩) (fun _ h => h) ?_
                refine kc_if_lt (tgt := 36) hx hb dX1_isFinerThan_31 (by decide) (fun k_4 => ?_) (fun k_4 => ?_)
                · skip
                  have h2 := k_4
                  refine lv_iinc (v := nI (b + 1)) (lv' := [(3, .int (nI (b + 1))), (0, .ref (ad (24 + 5 * j))), (1, .ref (ad (24 + 5 * t))), (2, .int (nI a))]) hx hb dX1_isFinerThan_36 hl (k := 3) rfl (nI_1 b) (by decide) rfl (fun ls hl => ?_)
                  refine lv_goto (tgt := 10) hx hb dX1_isFinerThan_39 (by decide) ?_
                  exact ih10  (b + 1) (by omega) (lt_s hp (fun _ => h2)) (by omega) _ (lv_sub hl [1, 2, 3, 0] rfl)
                · skip
                  have h2 := k_4
                  refine lv_iconst (v := nI 0) hx hb dX1_isFinerThan_34 (by decide) ?_
                  exact W.zret (v := bI false) hx hb hr (bI_narrow _) (fun t9 ht9 hW9 => ⟨_, rfl, (kd_f (fun z => absurd (z a (by omega) b (by omega) h1) (by omega))), ht9⟩) (fun _ h => nomatch h) dX1_isFinerThan_35
        exact loop10 (17 + 1) 0 (by omega) (fun y h => absurd h (Nat.not_lt_zero y)) (by omega) _ (lv_sub hl [1, 2, 3, 0] rfl)
  exact loop2 (16 + 1) 0 (by omega) (fun x h => absurd h (Nat.not_lt_zero x)) (by omega) _ (lv_sub hl [1, 2, 0] rfl)
set_option maxHeartbeats 4000000 in
set_option maxRecDepth 100000 in
theorem m_X1_comparesLike (l : Launch) (dC : Nat → ClassId) (dI : Nat → Nat → Nat) (ad : Nat → Nat) (S : XS) (j t : Nat) (hj : j < 6) (ht : t < 6) (ho : ordOK (S.2.1 j)) (ho2 : ordOK (S.2.1 t)) : Met l yX1_comparesLike wsX1_comparesLike ({ frames := 1, cells := 0, slots := 0, locals := 26 } : Room) (va_Pc [.ref (ad (24 + 5 * j)), .ref (ad (24 + 5 * t))] (PX dC dI ad S)) (vp_Si (fun r => r = bI (likeB (S.2.1 j).2.2.1 (S.2.1 t).2.2.1))) 0 0 (fun _ => False) := by
  refine Met.ofW (cc := cX1_comparesLike) (maxL := 4) (ret := (some .boolean)) pl_X1 rfl ?_
  intro p e s m args below meth c s₁ B hml hv
  obtain ⟨rfl, hPX⟩ := hv
  have hx := B.exec
  have hb := B.bytes
  have hr := B.returns
  have hts := atoms_spec (ws := wsX1_comparesLike) B.pre
  have hown : s.vm.findClass RX1 = some m.cls := findClass_of_methodNamed B.named
  have hlocks := B.notSynchronized
  have hX := WX.of hPX
  have hl := lv_entry ([.ref (ad (24 + 5 * j)), .ref (ad (24 + 5 * t))]) (n := 4) (Nat.le_of_ble_eq_true rfl)
  rw [lg_entry_eq]
  generalize (lg_sl ([.ref (ad (24 + 5 * j)), .ref (ad (24 + 5 * t))]) ++ List.replicate (4 - (lg_sl ([.ref (ad (24 + 5 * j)), .ref (ad (24 + 5 * t))])).length) Slot.unset).toArray = ls at hl ⊢
  have hl : lv_has ls 4 [(0, .ref (ad (24 + 5 * j))), (1, .ref (ad (24 + 5 * t)))] := hl
  show W p l e ({ frames := 1, cells := 0, slots := 0, locals := 26 } : Room) s m ([.ref (ad (24 + 5 * j)), .ref (ad (24 + 5 * t))]).toArray below meth c s.heap [] 0 0 (MQ below (vp_Si (fun r => r = bI (likeB (S.2.1 j).2.2.1 (S.2.1 t).2.2.1))) ([.ref (ad (24 + 5 * j)), .ref (ad (24 + 5 * t))]).toArray s 0 0 (fun _ => False)) (F0 m 0 ls [])
  refine lv_iconst (v := nI 0) hx hb dX1_comparesLike_0 (by decide) ?_
  refine lv_istore_n (lv' := [(2, .int (nI 0)), (0, .ref (ad (24 + 5 * j))), (1, .ref (ad (24 + 5 * t)))]) hx hb dX1_comparesLike_1 rfl hl (by decide) rfl (fun ls hl => ?_)
  have loop2 : ∀ (fuel : Nat) (a : Nat) (ha : a ≤ 16) (hq : ∀ x, x < a → ∀ y, y < 16 → x < y → cmpI ((S.2.1 j).2.2.1 x) ((S.2.1 j).2.2.1 y) = cmpI ((S.2.1 t).2.2.1 x) ((S.2.1 t).2.2.1 y)), 16 - a < fuel → ∀ ls : Array Slot, lv_has ls 4 [(0, .ref (ad (24 + 5 * j))), (1, .ref (ad (24 + 5 * t))), (2, .int (nI a))] → W p l e ({ frames := 1, cells := 0, slots := 0, locals := 26 } : Room) s m ([.ref (ad (24 + 5 * j)), .ref (ad (24 + 5 * t))]).toArray below meth c s.heap [] 0 0 (MQ below (vp_Si (fun r => r = bI (likeB (S.2.1 j).2.2.1 (S.2.1 t).2.2.1))) ([.ref (ad (24 + 5 * j)), .ref (ad (24 + 5 * t))]).toArray s 0 0 (fun _ => False)) (F0 m 2 ls []) := by
    intro fuel
    induction fuel with
    | zero => intro a ha hq hf; exact absurd hf (Nat.not_lt_zero _)
    | succ fuel ih2 =>
      intro a ha hq hf ls hl
      refine lv_iload_n hx hb dX1_comparesLike_2 rfl (lv_at hl 2 rfl) ?_
      refine lv_bipush (v := nI 16) hx hb dX1_comparesLike_3 (by decide) ?_
      refine kn_icmp_ge (tgt := 47) hx hb (by omega) (by omega) dX1_comparesLike_5 (by decide) (fun k_1 => ?_) (fun k_1 => ?_)
      · skip
        refine lv_iconst (v := nI 1) hx hb dX1_comparesLike_47 (by decide) ?_
        exact W.zret (v := bI true) hx hb hr (bI_narrow _) (fun t9 ht9 hW9 => ⟨_, rfl, (kd_t (fun x hx9 y hy9 => hq x (by omega) y hy9)), ht9⟩) (fun _ h => nomatch h) dX1_comparesLike_48
      · skip
        refine lv_iload_n hx hb dX1_comparesLike_8 rfl (lv_at hl 2 rfl) ?_
        refine lv_iconst (v := nI 1) hx hb dX1_comparesLike_9 (by decide) ?_
        refine kn_iadd hx hb dX1_comparesLike_10 ?_
        refine lv_istore_n (lv' := [(3, .int (nI (a + 1))), (0, .ref (ad (24 + 5 * j))), (1, .ref (ad (24 + 5 * t))), (2, .int (nI a))]) hx hb dX1_comparesLike_11 rfl hl (by decide) rfl (fun ls hl => ?_)
        have loop12 : ∀ (fuel : Nat) (b : Nat) (hb3 : a < b ∧ b ≤ 17) (hp : ∀ y, y < b → a < y → cmpI ((S.2.1 j).2.2.1 a) ((S.2.1 j).2.2.1 y) = cmpI ((S.2.1 t).2.2.1 a) ((S.2.1 t).2.2.1 y)), 17 - b < fuel → ∀ ls : Array Slot, lv_has ls 4 [(0, .ref (ad (24 + 5 * j))), (1, .ref (ad (24 + 5 * t))), (2, .int (nI a)), (3, .int (nI b))] → W p l e ({ frames := 1, cells := 0, slots := 0, locals := 26 } : Room) s m ([.ref (ad (24 + 5 * j)), .ref (ad (24 + 5 * t))]).toArray below meth c s.heap [] 0 0 (MQ below (vp_Si (fun r => r = bI (likeB (S.2.1 j).2.2.1 (S.2.1 t).2.2.1))) ([.ref (ad (24 + 5 * j)), .ref (ad (24 + 5 * t))]).toArray s 0 0 (fun _ => False)) (F0 m 12 ls []) := by
          intro fuel
          induction fuel with
          | zero => intro b hb3 hp hf; exact absurd hf (Nat.not_lt_zero _)
          | succ fuel ih12 =>
            intro b hb3 hp hf ls hl
            refine lv_iload_n hx hb dX1_comparesLike_12 rfl (lv_at hl 3 rfl) ?_
            refine lv_bipush (v := nI 16) hx hb dX1_comparesLike_13 (by decide) ?_
            refine kn_icmp_ge (tgt := 41) hx hb (by omega) (by omega) dX1_comparesLike_15 (by decide) (fun k_2 => ?_) (fun k_2 => ?_)
            · skip
              refine lv_iinc (v := nI (a + 1)) (lv' := [(2, .int (nI (a + 1))), (0, .ref (ad (24 + 5 * j))), (1, .ref (ad (24 + 5 * t))), (3, .int (nI b))]) hx hb dX1_comparesLike_41 hl (k := 2) rfl (nI_1 a) (by decide) rfl (fun ls hl => ?_)
              refine lv_goto (tgt := 2) hx hb dX1_comparesLike_44 (by decide) ?_
              exact ih2  (a + 1) (by omega) (lt_s hq (fun y hy => hp y (by omega))) (by omega) _ (lv_sub hl [1, 2, 0] rfl)
            · skip
              refine lv_aload_n hx hb dX1_comparesLike_18 rfl (lv_at hl 0 rfl) ?_
              refine lv_iload_n hx hb dX1_comparesLike_19 rfl (lv_at hl 2 rfl) ?_
              refine lv_iload_n hx hb dX1_comparesLike_20 rfl (lv_at hl 3 rfl) ?_
              refine kx_cr (v := cmpI (((S.2.1 j).2.2.1) a) (((S.2.1 j).2.2.1) b)) (va_runV (As := [.int (nI a), .int (nI b)]) (rest := []) ⟨hx, hb, hml, hown, hts⟩ (m_X1_compared l dC dI ad S j a b hj ho (by omega) (by omega)) (cwV 2 hts gX1_comparesLike_X1_compared rfl rfl rfl hdX1_compared_2 ⟨Nat.le_of_ble_eq_true rfl, Nat.le_of_ble_eq_true rfl⟩) (hX.preOrd hj) rfl rfl hl.1 rfl (lv_room (Nat.le_of_ble_eq_true rfl)) dX1_comparesLike_21 ⟨Nat.le_of_ble_eq_true rfl, Nat.le_of_ble_eq_true rfl⟩) (fun _ h => h) ?_
              refine lv_aload_n hx hb dX1_comparesLike_24 rfl (lv_at hl 1 rfl) ?_
              refine lv_iload_n hx hb dX1_comparesLike_25 rfl (lv_at hl 2 rfl) ?_
              refine lv_iload_n hx hb dX1_comparesLike_26 rfl (lv_at hl 3 rfl) ?_
              refine kx_cr (v := cmpI (((S.2.1 t).2.2.1) a) (((S.2.1 t).2.2.1) b)) (va_runV (As := [.int (nI a), .int (nI b)]) (rest := [.int (cmpI (((S.2.1 j).2.2.1) a) (((S.2.1 j).2.2.1) b))]) ⟨hx, hb, hml, hown, hts⟩ (m_X1_compared l dC dI ad S t a b ht ho2 (by omega) (by omega)) (cwV 2 hts gX1_comparesLike_X1_compared rfl rfl rfl hdX1_compared_2 ⟨Nat.le_of_ble_eq_true rfl, Nat.le_of_ble_eq_true rfl⟩) (hX.preOrd ht) rfl rfl hl.1 rfl (lv_room (Nat.le_of_ble_eq_true rfl)) dX1_comparesLike_27 ⟨Nat.le_of_ble_eq_true rfl, Nat.le_of_ble_eq_true rfl⟩) (fun _ h => h) ?_
              refine lv_icmp_eq (tgt := 35) hx hb dX1_comparesLike_30 (by decide) (fun k_3 => ?_) (fun k_3 => ?_)
              · skip
                have h1 := k_3
                refine lv_iinc (v := nI (b + 1)) (lv' := [(3, .int (nI (b + 1))), (0, .ref (ad (24 + 5 * j))), (1, .ref (ad (24 + 5 * t))), (2, .int (nI a))]) hx hb dX1_comparesLike_35 hl (k := 3) rfl (nI_1 b) (by decide) rfl (fun ls hl => ?_)
                refine lv_goto (tgt := 12) hx hb dX1_comparesLike_38 (by decide) ?_
                exact ih12  (b + 1) (by omega) (lt_s hp (fun _ => h1)) (by omega) _ (lv_sub hl [1, 2, 3, 0] rfl)
              · skip
                have h1 := k_3
                refine lv_iconst (v := nI 0) hx hb dX1_comparesLike_33 (by decide) ?_
                exact W.zret (v := bI false) hx hb hr (bI_narrow _) (fun t9 ht9 hW9 => ⟨_, rfl, (kd_f (fun z => h1 (z a (by omega) b (by omega) (by omega)))), ht9⟩) (fun _ h => nomatch h) dX1_comparesLike_34
        exact loop12 (17 + 1) (a + 1) (by omega) (fun y h h2 => absurd h2 (by omega)) (by omega) _ (lv_sub hl [1, 2, 3, 0] rfl)
  exact loop2 (16 + 1) 0 (by omega) (fun x h => absurd h (Nat.not_lt_zero x)) (by omega) _ (lv_sub hl [1, 2, 0] rfl)
set_option maxHeartbeats 4000000 in
set_option maxRecDepth 100000 in
theorem m_X0_areAlikeAlike (l : Launch) (dC : Nat → ClassId) (dI : Nat → Nat → Nat) (ad : Nat → Nat) (S : XS) (j t : Nat) (hj : j < 6) (ht : t < 6) (ho : ordOK (S.2.1 j)) (ho2 : ordOK (S.2.1 t)) : Met l yX0_areAlikeAlike wsX0_areAlikeAlike ({ frames := 1, cells := 0, slots := 0, locals := 26 } : Room) (va_Pc [.ref (ad (24 + 5 * j)), .ref (ad (24 + 5 * t))] (PX dC dI ad S)) (vp_Si (fun r => r = bI (alikeB (S.2.1 j).2.2.1 (S.2.1 t).2.2.1))) 0 0 (fun _ => False) := by
  refine Met.ofW (cc := cX0_areAlikeAlike) (maxL := 4) (ret := (some .boolean)) pl_X0 rfl ?_
  intro p e s m args below meth c s₁ B hml hv
  obtain ⟨rfl, hPX⟩ := hv
  have hx := B.exec
  have hb := B.bytes
  have hr := B.returns
  have hts := atoms_spec (ws := wsX0_areAlikeAlike) B.pre
  have hown : s.vm.findClass RX0 = some m.cls := findClass_of_methodNamed B.named
  have hlocks := B.notSynchronized
  have hX := WX.of hPX
  have hl := lv_entry ([.ref (ad (24 + 5 * j)), .ref (ad (24 + 5 * t))]) (n := 4) (Nat.le_of_ble_eq_true rfl)
  rw [lg_entry_eq]
  generalize (lg_sl ([.ref (ad (24 + 5 * j)), .ref (ad (24 + 5 * t))]) ++ List.replicate (4 - (lg_sl ([.ref (ad (24 + 5 * j)), .ref (ad (24 + 5 * t))])).length) Slot.unset).toArray = ls at hl ⊢
  have hl : lv_has ls 4 [(0, .ref (ad (24 + 5 * j))), (1, .ref (ad (24 + 5 * t)))] := hl
  show W p l e ({ frames := 1, cells := 0, slots := 0, locals := 26 } : Room) s m ([.ref (ad (24 + 5 * j)), .ref (ad (24 + 5 * t))]).toArray below meth c s.heap [] 0 0 (MQ below (vp_Si (fun r => r = bI (alikeB (S.2.1 j).2.2.1 (S.2.1 t).2.2.1))) ([.ref (ad (24 + 5 * j)), .ref (ad (24 + 5 * t))]).toArray s 0 0 (fun _ => False)) (F0 m 0 ls [])
  refine lv_iconst (v := nI 0) hx hb dX0_areAlikeAlike_0 (by decide) ?_
  refine lv_istore_n (lv' := [(2, .int (nI 0)), (0, .ref (ad (24 + 5 * j))), (1, .ref (ad (24 + 5 * t)))]) hx hb dX0_areAlikeAlike_1 rfl hl (by decide) rfl (fun ls hl => ?_)
  have loop2 : ∀ (fuel : Nat) (a : Nat) (ha : a ≤ 16) (hq : ∀ x, x < a → ∀ y, y < 16 → x < y → (S.2.1 j).2.2.1 x = (S.2.1 j).2.2.1 y → (S.2.1 t).2.2.1 x = (S.2.1 t).2.2.1 y), 16 - a < fuel → ∀ ls : Array Slot, lv_has ls 4 [(0, .ref (ad (24 + 5 * j))), (1, .ref (ad (24 + 5 * t))), (2, .int (nI a))] → W p l e ({ frames := 1, cells := 0, slots := 0, locals := 26 } : Room) s m ([.ref (ad (24 + 5 * j)), .ref (ad (24 + 5 * t))]).toArray below meth c s.heap [] 0 0 (MQ below (vp_Si (fun r => r = bI (alikeB (S.2.1 j).2.2.1 (S.2.1 t).2.2.1))) ([.ref (ad (24 + 5 * j)), .ref (ad (24 + 5 * t))]).toArray s 0 0 (fun _ => False)) (F0 m 2 ls []) := by
    intro fuel
    induction fuel with
    | zero => intro a ha hq hf; exact absurd hf (Nat.not_lt_zero _)
    | succ fuel ih2 =>
      intro a ha hq hf ls hl
      refine lv_iload_n hx hb dX0_areAlikeAlike_2 rfl (lv_at hl 2 rfl) ?_
      refine lv_bipush (v := nI 16) hx hb dX0_areAlikeAlike_3 (by decide) ?_
      refine kn_icmp_ge (tgt := 50) hx hb (by omega) (by omega) dX0_areAlikeAlike_5 (by decide) (fun k_1 => ?_) (fun k_1 => ?_)
      · skip
        refine lv_iconst (v := nI 1) hx hb dX0_areAlikeAlike_50 (by decide) ?_
        exact W.zret (v := bI true) hx hb hr (bI_narrow _) (fun t9 ht9 hW9 => ⟨_, rfl, (kd_t (fun x hx9 y hy9 => hq x (by omega) y hy9)), ht9⟩) (fun _ h => nomatch h) dX0_areAlikeAlike_51
      · skip
        refine lv_iload_n hx hb dX0_areAlikeAlike_8 rfl (lv_at hl 2 rfl) ?_
        refine lv_iconst (v := nI 1) hx hb dX0_areAlikeAlike_9 (by decide) ?_
        refine kn_iadd hx hb dX0_areAlikeAlike_10 ?_
        refine lv_istore_n (lv' := [(3, .int (nI (a + 1))), (0, .ref (ad (24 + 5 * j))), (1, .ref (ad (24 + 5 * t))), (2, .int (nI a))]) hx hb dX0_areAlikeAlike_11 rfl hl (by decide) rfl (fun ls hl => ?_)
        have loop12 : ∀ (fuel : Nat) (b : Nat) (hb3 : a < b ∧ b ≤ 17) (hp : ∀ y, y < b → a < y → (S.2.1 j).2.2.1 a = (S.2.1 j).2.2.1 y → (S.2.1 t).2.2.1 a = (S.2.1 t).2.2.1 y), 17 - b < fuel → ∀ ls : Array Slot, lv_has ls 4 [(0, .ref (ad (24 + 5 * j))), (1, .ref (ad (24 + 5 * t))), (2, .int (nI a)), (3, .int (nI b))] → W p l e ({ frames := 1, cells := 0, slots := 0, locals := 26 } : Room) s m ([.ref (ad (24 + 5 * j)), .ref (ad (24 + 5 * t))]).toArray below meth c s.heap [] 0 0 (MQ below (vp_Si (fun r => r = bI (alikeB (S.2.1 j).2.2.1 (S.2.1 t).2.2.1))) ([.ref (ad (24 + 5 * j)), .ref (ad (24 + 5 * t))]).toArray s 0 0 (fun _ => False)) (F0 m 12 ls []) := by
          intro fuel
          induction fuel with
          | zero => intro b hb3 hp hf; exact absurd hf (Nat.not_lt_zero _)
          | succ fuel ih12 =>
            intro b hb3 hp hf ls hl
            refine lv_iload_n hx hb dX0_areAlikeAlike_12 rfl (lv_at hl 3 rfl) ?_
            refine lv_bipush (v := nI 16) hx hb dX0_areAlikeAlike_13 (by decide) ?_
            refine kn_icmp_ge (tgt := 44) hx hb (by omega) (by omega) dX0_areAlikeAlike_15 (by decide) (fun k_2 => ?_) (fun k_2 => ?_)
            · skip
              refine lv_iinc (v := nI (a + 1)) (lv' := [(2, .int (nI (a + 1))), (0, .ref (ad (24 + 5 * j))), (1, .ref (ad (24 + 5 * t))), (3, .int (nI b))]) hx hb dX0_areAlikeAlike_44 hl (k := 2) rfl (nI_1 a) (by decide) rfl (fun ls hl => ?_)
              refine lv_goto (tgt := 2) hx hb dX0_areAlikeAlike_47 (by decide) ?_
              exact ih2  (a + 1) (by omega) (lt_s hq (fun y hy => hp y (by omega))) (by omega) _ (lv_sub hl [1, 2, 0] rfl)
            · skip
              refine lv_aload_n hx hb dX0_areAlikeAlike_18 rfl (lv_at hl 0 rfl) ?_
              refine lv_iload_n hx hb dX0_areAlikeAlike_19 rfl (lv_at hl 2 rfl) ?_
              refine lv_iload_n hx hb dX0_areAlikeAlike_20 rfl (lv_at hl 3 rfl) ?_
              refine kx_cr (v := cmpI (((S.2.1 j).2.2.1) a) (((S.2.1 j).2.2.1) b)) (va_runV (As := [.int (nI a), .int (nI b)]) (rest := []) ⟨hx, hb, hml, hown, hts⟩ (m_X1_compared l dC dI ad S j a b hj ho (by omega) (by omega)) (cwV 2 hts gX0_areAlikeAlike_X1_compared rfl rfl rfl hdX1_compared_2 ⟨Nat.le_of_ble_eq_true rfl, Nat.le_of_ble_eq_true rfl⟩) (hX.preOrd hj) rfl rfl hl.1 rfl (lv_room (Nat.le_of_ble_eq_true rfl)) dX0_areAlikeAlike_21 ⟨Nat.le_of_ble_eq_true rfl, Nat.le_of_ble_eq_true rfl⟩) (fun _ h => h) ?_
              refine kc_if_ne (tgt := 38) hx hb dX0_areAlikeAlike_24 (by decide) (fun k_3 => ?_) (fun k_3 => ?_)
              · skip
                have h1 := k_3
                refine lv_iinc (v := nI (b + 1)) (lv' := [(3, .int (nI (b + 1))), (0, .ref (ad (24 + 5 * j))), (1, .ref (ad (24 + 5 * t))), (2, .int (nI a))]) hx hb dX0_areAlikeAlike_38 hl (k := 3) rfl (nI_1 b) (by decide) rfl (fun ls hl => ?_)
                refine lv_goto (tgt := 12) hx hb dX0_areAlikeAlike_41 (by decide) ?_
                exact ih12  (b + 1) (by omega) (lt_s hp (fun _ h => absurd h h1)) (by omega) _ (lv_sub hl [1, 2, 3, 0] rfl)
              · skip
                have h1 := k_3
                refine lv_aload_n hx hb dX0_areAlikeAlike_27 rfl (lv_at hl 1 rfl) ?_
                refine lv_iload_n hx hb dX0_areAlikeAlike_28 rfl (lv_at hl 2 rfl) ?_
                refine lv_iload_n hx hb dX0_areAlikeAlike_29 rfl (lv_at hl 3 rfl) ?_
                refine kx_cr (v := cmpI (((S.2.1 t).2.2.1) a) (((S.2.1 t).2.2.1) b)) (va_runV (As := [.int (nI a), .int (nI b)]) (rest := []) ⟨hx, hb, hml, hown, hts⟩ (m_X1_compared l dC dI ad S t a b ht ho2 (by omega) (by omega)) (cwV 2 hts gX0_areAlikeAlike_X1_compared rfl rfl rfl hdX1_compared_2 ⟨Nat.le_of_ble_eq_true rfl, Nat.le_of_ble_eq_true rfl⟩) (hX.preOrd ht) rfl rfl hl.1 rfl (lv_room (Nat.le_of_ble_eq_true rfl)) dX0_areAlikeAlike_30 ⟨Nat.le_of_ble_eq_true rfl, Nat.le_of_ble_eq_true rfl⟩) (fun _ h => h) ?_
                refine kc_if_eq (tgt := 38) hx hb dX0_areAlikeAlike_33 (by decide) (fun k_4 => ?_) (fun k_4 => ?_)
                · skip
                  have h2 := k_4
                  refine lv_iinc (v := nI (b + 1)) (lv' := [(3, .int (nI (b + 1))), (0, .ref (ad (24 + 5 * j))), (1, .ref (ad (24 + 5 * t))), (2, .int (nI a))]) hx hb dX0_areAlikeAlike_38 hl (k := 3) rfl (nI_1 b) (by decide) rfl (fun ls hl => ?_)
                  refine lv_goto (tgt := 12) hx hb dX0_areAlikeAlike_41 (by decide) ?_
                  exact ih12  (b + 1) (by omega) (lt_s hp (fun _ _ => h2)) (by omega) _ (lv_sub hl [1, 2, 3, 0] rfl)
                · skip
                  have h2 := k_4
                  refine lv_iconst (v := nI 0) hx hb dX0_areAlikeAlike_36 (by decide) ?_
                  exact W.zret (v := bI false) hx hb hr (bI_narrow _) (fun t9 ht9 hW9 => ⟨_, rfl, (kd_f (fun z => h2 (z a (by omega) b (by omega) (by omega) h1))), ht9⟩) (fun _ h => nomatch h) dX0_areAlikeAlike_37
        exact loop12 (17 + 1) (a + 1) (by omega) (fun y h h2 => absurd h2 (by omega)) (by omega) _ (lv_sub hl [1, 2, 3, 0] rfl)
  exact loop2 (16 + 1) 0 (by omega) (fun x h => absurd h (Nat.not_lt_zero x)) (by omega) _ (lv_sub hl [1, 2, 0] rfl)
set_option maxHeartbeats 4000000 in
set_option maxRecDepth 100000 in
theorem m_X0_isRankOfSome (l : Launch) (dC : Nat → ClassId) (dI : Nat → Nat → Nat) (ad : Nat → Nat) (S : XS) (j k : Nat) (hj : j < 6) (ho : ordOK (S.2.1 j)) (hk : k < 16) : Met l yX0_isRankOfSome wsX0_isRankOfSome ({ frames := 1, cells := 0, slots := 0, locals := 21 } : Room) (va_Pc [.ref (ad (24 + 5 * j)), .int (nI k)] (PX dC dI ad S)) (vp_Si (fun r => r = bI (rankSome (S.2.1 j).2.2.2.1 k))) 0 0 (fun _ => False) := by
  refine Met.ofW (cc := cX0_isRankOfSome) (maxL := 3) (ret := (some .boolean)) pl_X0 rfl ?_
  intro p e s m args below meth c s₁ B hml hv
  obtain ⟨rfl, hPX⟩ := hv
  have hx := B.exec
  have hb := B.bytes
  have hr := B.returns
  have hts := atoms_spec (ws := wsX0_isRankOfSome) B.pre
  have hown : s.vm.findClass RX0 = some m.cls := findClass_of_methodNamed B.named
  have hlocks := B.notSynchronized
  have hX := WX.of hPX
  have hl := lv_entry ([.ref (ad (24 + 5 * j)), .int (nI k)]) (n := 3) (Nat.le_of_ble_eq_true rfl)
  rw [lg_entry_eq]
  generalize (lg_sl ([.ref (ad (24 + 5 * j)), .int (nI k)]) ++ List.replicate (3 - (lg_sl ([.ref (ad (24 + 5 * j)), .int (nI k)])).length) Slot.unset).toArray = ls at hl ⊢
  have hl : lv_has ls 3 [(0, .ref (ad (24 + 5 * j))), (1, .int (nI k))] := hl
  show W p l e ({ frames := 1, cells := 0, slots := 0, locals := 21 } : Room) s m ([.ref (ad (24 + 5 * j)), .int (nI k)]).toArray below meth c s.heap [] 0 0 (MQ below (vp_Si (fun r => r = bI (rankSome (S.2.1 j).2.2.2.1 k))) ([.ref (ad (24 + 5 * j)), .int (nI k)]).toArray s 0 0 (fun _ => False)) (F0 m 0 ls [])
  refine lv_iconst (v := nI 0) hx hb dX0_isRankOfSome_0 (by decide) ?_
  refine lv_istore_n (lv' := [(2, .int (nI 0)), (0, .ref (ad (24 + 5 * j))), (1, .int (nI k))]) hx hb dX0_isRankOfSome_1 rfl hl (by decide) rfl (fun ls hl => ?_)
  have loop2 : ∀ (fuel : Nat) (a : Nat) (ha : a ≤ 16) (hq : ∀ v, v < a → (S.2.1 j).2.2.2.1 v ≠ k), 16 - a < fuel → ∀ ls : Array Slot, lv_has ls 3 [(0, .ref (ad (24 + 5 * j))), (1, .int (nI k)), (2, .int (nI a))] → W p l e ({ frames := 1, cells := 0, slots := 0, locals := 21 } : Room) s m ([.ref (ad (24 + 5 * j)), .int (nI k)]).toArray below meth c s.heap [] 0 0 (MQ below (vp_Si (fun r => r = bI (rankSome (S.2.1 j).2.2.2.1 k))) ([.ref (ad (24 + 5 * j)), .int (nI k)]).toArray s 0 0 (fun _ => False)) (F0 m 2 ls []) := by
    intro fuel
    induction fuel with
    | zero => intro a ha hq hf; exact absurd hf (Nat.not_lt_zero _)
    | succ fuel ih2 =>
      intro a ha hq hf ls hl
      refine lv_iload_n hx hb dX0_isRankOfSome_2 rfl (lv_at hl 2 rfl) ?_
      refine lv_bipush (v := nI 16) hx hb dX0_isRankOfSome_3 (by decide) ?_
      refine kn_icmp_ge (tgt := 25) hx hb (by omega) (by omega) dX0_isRankOfSome_5 (by decide) (fun k_1 => ?_) (fun k_1 => ?_)
      · skip
        refine lv_iconst (v := nI 0) hx hb dX0_isRankOfSome_25 (by decide) ?_
        exact W.zret (v := bI false) hx hb hr (bI_narrow _) (fun t9 ht9 hW9 => ⟨_, rfl, (kd_f (fun ⟨q, h1, h2⟩ => hq q (by omega) h2)), ht9⟩) (fun _ h => nomatch h) dX0_isRankOfSome_26
      · skip
        refine lv_aload_n hx hb dX0_isRankOfSome_8 rfl (lv_at hl 0 rfl) ?_
        refine lv_iload_n hx hb dX0_isRankOfSome_9 rfl (lv_at hl 2 rfl) ?_
        refine kx_cr (v := nI (((S.2.1 j).2.2.2.1) a)) (va_runV (As := [.int (nI a)]) (rest := []) ⟨hx, hb, hml, hown, hts⟩ (m_X1_rankOf l dC dI ad S j a hj (by omega)) (cwV 1 hts gX0_isRankOfSome_X1_rankOf rfl rfl rfl hdX1_rankOf_1 ⟨Nat.le_of_ble_eq_true rfl, Nat.le_of_ble_eq_true rfl⟩) (hX.preOrd hj) rfl rfl hl.1 rfl (lv_room (Nat.le_of_ble_eq_true rfl)) dX0_isRankOfSome_10 ⟨Nat.le_of_ble_eq_true rfl, Nat.le_of_ble_eq_true rfl⟩) (fun _ h => h) ?_
        refine lv_iload_n hx hb dX0_isRankOfSome_13 rfl (lv_at hl 1 rfl) ?_
        have h1 := ho.2.2.1 a (by omega)
        have h2 := rankC_le (codeOf (S.2.1 j).1 (S.2.1 j).2.1 (S.2.1 j).2.2.2.2.1) a
        refine kn_icmp_ne (tgt := 19) hx hb (by omega) (by omega) dX0_isRankOfSome_14 (by decide) (fun k_2 => ?_) (fun k_2 => ?_)
        · skip
          have hc := k_2
          refine lv_iinc (v := nI (a + 1)) (lv' := [(2, .int (nI (a + 1))), (0, .ref (ad (24 + 5 * j))), (1, .int (nI k))]) hx hb dX0_isRankOfSome_19 hl (k := 2) rfl (nI_1 a) (by decide) rfl (fun ls hl => ?_)
          refine lv_goto (tgt := 2) hx hb dX0_isRankOfSome_22 (by decide) ?_
          exact ih2  (a + 1) (by omega) (lt_s hq hc) (by omega) _ (lv_sub hl [1, 2, 0] rfl)
        · skip
          have hc := k_2
          refine lv_iconst (v := nI 1) hx hb dX0_isRankOfSome_17 (by decide) ?_
          exact W.zret (v := bI true) hx hb hr (bI_narrow _) (fun t9 ht9 hW9 => ⟨_, rfl, (kd_t ⟨a, by omega, hc⟩), ht9⟩) (fun _ h => nomatch h) dX0_isRankOfSome_18
  exact loop2 (16 + 1) 0 (by omega) (fun q h => absurd h (Nat.not_lt_zero q)) (by omega) _ (lv_sub hl [1, 2, 0] rfl)
set_option maxHeartbeats 4000000 in
set_option maxRecDepth 100000 in
theorem m_X0_areRanksAsClasses (l : Launch) (dC : Nat → ClassId) (dI : Nat → Nat → Nat) (ad : Nat → Nat) (S : XS) (j : Nat) (hj : j < 6) (ho : ordOK (S.2.1 j)) : Met l yX0_areRanksAsClasses wsX0_areRanksAsClasses ({ frames := 2, cells := 0, slots := 0, locals := 43 } : Room) (va_Pc [.ref (ad 56), .ref (ad (24 + 5 * j))] (PX dC dI ad S)) (vp_Si (fun r => r = bI (decide (cntB (rankSome (S.2.1 j).2.2.2.1) 16 = (S.2.1 j).2.2.2.2.2)))) 0 0 (fun _ => False) := by
  refine Met.ofW (cc := cX0_areRanksAsClasses) (maxL := 4) (ret := (some .boolean)) pl_X0 rfl ?_
  intro p e s m args below meth c s₁ B hml hv
  obtain ⟨rfl, hPX⟩ := hv
  have hx := B.exec
  have hb := B.bytes
  have hr := B.returns
  have hts := atoms_spec (ws := wsX0_areRanksAsClasses) B.pre
  have hown : s.vm.findClass RX0 = some m.cls := findClass_of_methodNamed B.named
  have hlocks := B.notSynchronized
  have hX := WX.of hPX
  have hl := lv_entry ([.ref (ad 56), .ref (ad (24 + 5 * j))]) (n := 4) (Nat.le_of_ble_eq_true rfl)
  rw [lg_entry_eq]
  generalize (lg_sl ([.ref (ad 56), .ref (ad (24 + 5 * j))]) ++ List.replicate (4 - (lg_sl ([.ref (ad 56), .ref (ad (24 + 5 * j))])).length) Slot.unset).toArray = ls at hl ⊢
  have hl : lv_has ls 4 [(0, .ref (ad 56)), (1, .ref (ad (24 + 5 * j)))] := hl
  show W p l e ({ frames := 2, cells := 0, slots := 0, locals := 43 } : Room) s m ([.ref (ad 56), .ref (ad (24 + 5 * j))]).toArray below meth c s.heap [] 0 0 (MQ below (vp_Si (fun r => r = bI (decide (cntB (rankSome (S.2.1 j).2.2.2.1) 16 = (S.2.1 j).2.2.2.2.2)))) ([.ref (ad 56), .ref (ad (24 + 5 * j))]).toArray s 0 0 (fun _ => False)) (F0 m 0 ls [])
  have hcl : (S.2.1 j).2.2.2.2.2 ≤ 16 := by rw [ho.2.2.2]; exact classC_le _
  refine lv_iconst (v := nI 0) hx hb dX0_areRanksAsClasses_0 (by decide) ?_
  refine lv_istore_n (lv' := [(2, .int (nI 0)), (0, .ref (ad 56)), (1, .ref (ad (24 + 5 * j)))]) hx hb dX0_areRanksAsClasses_1 rfl hl (by decide) rfl (fun ls hl => ?_)
  refine lv_iconst (v := nI 0) hx hb dX0_areRanksAsClasses_2 (by decide) ?_
  refine lv_istore_n (lv' := [(3, .int (nI 0)), (2, .int (nI 0)), (0, .ref (ad 56)), (1, .ref (ad (24 + 5 * j)))]) hx hb dX0_areRanksAsClasses_3 rfl hl (by decide) rfl (fun ls hl => ?_)
  have loop4 : ∀ (fuel : Nat) (q k : Nat) (hk : k ≤ 16) (hq : q = cntB (rankSome (S.2.1 j).2.2.2.1) k), 16 - k < fuel → ∀ ls : Array Slot, lv_has ls 4 [(0, .ref (ad 56)), (1, .ref (ad (24 + 5 * j))), (2, .int (nI q)), (3, .int (nI k))] → W p l e ({ frames := 2, cells := 0, slots := 0, locals := 43 } : Room) s m ([.ref (ad 56), .ref (ad (24 + 5 * j))]).toArray below meth c s.heap [] 0 0 (MQ below (vp_Si (fun r => r = bI (decide (cntB (rankSome (S.2.1 j).2.2.2.1) 16 = (S.2.1 j).2.2.2.2.2)))) ([.ref (ad 56), .ref (ad (24 + 5 * j))]).toArray s 0 0 (fun _ => False)) (F0 m 4 ls []) := by
    intro fuel
    induction fuel with
    | zero => intro q k hk hq hf; exact absurd hf (Nat.not_lt_zero _)
    | succ fuel ih4 =>
      intro q k hk hq hf ls hl
      refine lv_iload_n hx hb dX0_areRanksAsClasses_4 rfl (lv_at hl 3 rfl) ?_
      refine lv_bipush (v := nI 16) hx hb dX0_areRanksAsClasses_5 (by decide) ?_
      refine kn_icmp_ge (tgt := 27) hx hb (by omega) (by omega) dX0_areRanksAsClasses_7 (by decide) (fun k_1 => ?_) (fun k_1 => ?_)
      · skip
        refine lv_iload_n hx hb dX0_areRanksAsClasses_27 rfl (lv_at hl 2 rfl) ?_
        refine lv_aload_n hx hb dX0_areRanksAsClasses_28 rfl (lv_at hl 1 rfl) ?_
        refine kx_cr (v := nI ((S.2.1 j).2.2.2.2.2)) (va_runV (As := []) (rest := [.int (nI q)]) ⟨hx, hb, hml, hown, hts⟩ (m_X1_classCount l dC dI ad S j  hj) (cwV 0 hts gX0_areRanksAsClasses_X1_classCount rfl rfl rfl hdX1_classCount_0 ⟨Nat.le_of_ble_eq_true rfl, Nat.le_of_ble_eq_true rfl⟩) (hX.preOrd hj) rfl rfl hl.1 rfl (lv_room (Nat.le_of_ble_eq_true rfl)) dX0_areRanksAsClasses_29 ⟨Nat.le_of_ble_eq_true rfl, Nat.le_of_ble_eq_true rfl⟩) (fun _ h => h) ?_
        have h9 := cntB_le (rankSome (S.2.1 j).2.2.2.1) k
        refine kn_icmp_ne (tgt := 39) hx hb (by omega) (by omega) dX0_areRanksAsClasses_32 (by decide) (fun k_2 => ?_) (fun k_2 => ?_)
        · skip
          have hd := k_2
          refine lv_iconst (v := bI false) hx hb dX0_areRanksAsClasses_39 (by decide) ?_
          exact W.zret (v := bI false) hx hb hr (bI_narrow _) (fun t9 ht9 hW9 => ⟨_, rfl, (kd_f (by rw [show (16 : Nat) = k by omega, ← hq]; exact hd)), ht9⟩) (fun _ h => nomatch h) dX0_areRanksAsClasses_40
        · skip
          have hd := k_2
          refine lv_iconst (v := bI true) hx hb dX0_areRanksAsClasses_35 (by decide) ?_
          refine lv_goto (tgt := 40) hx hb dX0_areRanksAsClasses_36 (by decide) ?_
          exact W.zret (v := bI true) hx hb hr (bI_narrow _) (fun t9 ht9 hW9 => ⟨_, rfl, (kd_t (by rw [show (16 : Nat) = k by omega, ← hq]; exact hd)), ht9⟩) (fun _ h => nomatch h) dX0_areRanksAsClasses_40
      · skip
        refine lv_aload_n hx hb dX0_areRanksAsClasses_10 rfl (lv_at hl 1 rfl) ?_
        refine lv_iload_n hx hb dX0_areRanksAsClasses_11 rfl (lv_at hl 3 rfl) ?_
        refine kx_cr (v := bI (rankSome (S.2.1 j).2.2.2.1 k)) (va_runS (As := [.ref (ad (24 + 5 * j)), .int (nI k)]) (rest := []) ⟨hx, hb, hml, hown, hts⟩ (m_X0_isRankOfSome l dC dI ad S j k hj ho (by omega)) (va_cwS 2 hts gX0_areRanksAsClasses_X0_isRankOfSome rfl rfl rfl hdX0_isRankOfSome_2.2 ⟨Nat.le_of_ble_eq_true rfl, Nat.le_of_ble_eq_true rfl⟩) hX.preS rfl rfl hl.1 rfl (lv_room (Nat.le_of_ble_eq_true rfl)) dX0_areRanksAsClasses_12 ⟨Nat.le_of_ble_eq_true rfl, Nat.le_of_ble_eq_true rfl⟩) (fun _ h => h) ?_
        refine kb_if_eq (tgt := 21) hx hb dX0_areRanksAsClasses_15 (by decide) (fun k_3 => ?_) (fun k_3 => ?_)
        · skip
          have hc := k_3
          refine lv_iinc (v := nI (k + 1)) (lv' := [(3, .int (nI (k + 1))), (0, .ref (ad 56)), (1, .ref (ad (24 + 5 * j))), (2, .int (nI q))]) hx hb dX0_areRanksAsClasses_21 hl (k := 3) rfl (nI_1 k) (by decide) rfl (fun ls hl => ?_)
          refine lv_goto (tgt := 4) hx hb dX0_areRanksAsClasses_24 (by decide) ?_
          exact ih4  q (k + 1) (by omega) (by rw [cntB_f hc, hq]) (by omega) _ (lv_sub hl [1, 2, 3, 0] rfl)
        · skip
          have hc := k_3
          refine lv_iinc (v := nI (q + 1)) (lv' := [(2, .int (nI (q + 1))), (0, .ref (ad 56)), (1, .ref (ad (24 + 5 * j))), (3, .int (nI k))]) hx hb dX0_areRanksAsClasses_18 hl (k := 2) rfl (nI_1 q) (by decide) rfl (fun ls hl => ?_)
          refine lv_iinc (v := nI (k + 1)) (lv' := [(3, .int (nI (k + 1))), (2, .int (nI (q + 1))), (0, .ref (ad 56)), (1, .ref (ad (24 + 5 * j)))]) hx hb dX0_areRanksAsClasses_21 hl (k := 3) rfl (nI_1 k) (by decide) rfl (fun ls hl => ?_)
          refine lv_goto (tgt := 4) hx hb dX0_areRanksAsClasses_24 (by decide) ?_
          exact ih4  (q + 1) (k + 1) (by omega) (by rw [cntB_t hc, hq]) (by omega) _ (lv_sub hl [2, 3, 1, 0] rfl)
  exact loop4 (16 + 1) 0 0 (by omega) rfl (by omega) _ (lv_sub hl [2, 3, 1, 0] rfl)
set_option maxHeartbeats 4000000 in
set_option maxRecDepth 100000 in
theorem m_X0_areSignsTurned (l : Launch) (dC : Nat → ClassId) (dI : Nat → Nat → Nat) (ad : Nat → Nat) (S : XS) (j : Nat) (hj : j < 6) (ho : ordOK (S.2.1 j)) : Met l yX0_areSignsTurned wsX0_areSignsTurned ({ frames := 1, cells := 0, slots := 0, locals := 26 } : Room) (va_Pc [.ref (ad 56), .ref (ad (24 + 5 * j))] (PX dC dI ad S)) (vp_Si (fun r => r = bI true)) 0 0 (fun _ => False) := by
  refine Met.ofW (cc := cX0_areSignsTurned) (maxL := 4) (ret := (some .boolean)) pl_X0 rfl ?_
  intro p e s m args below meth c s₁ B hml hv
  obtain ⟨rfl, hPX⟩ := hv
  have hx := B.exec
  have hb := B.bytes
  have hr := B.returns
  have hts := atoms_spec (ws := wsX0_areSignsTurned) B.pre
  have hown : s.vm.findClass RX0 = some m.cls := findClass_of_methodNamed B.named
  have hlocks := B.notSynchronized
  have hX := WX.of hPX
  have hl := lv_entry ([.ref (ad 56), .ref (ad (24 + 5 * j))]) (n := 4) (Nat.le_of_ble_eq_true rfl)
  rw [lg_entry_eq]
  generalize (lg_sl ([.ref (ad 56), .ref (ad (24 + 5 * j))]) ++ List.replicate (4 - (lg_sl ([.ref (ad 56), .ref (ad (24 + 5 * j))])).length) Slot.unset).toArray = ls at hl ⊢
  have hl : lv_has ls 4 [(0, .ref (ad 56)), (1, .ref (ad (24 + 5 * j)))] := hl
  show W p l e ({ frames := 1, cells := 0, slots := 0, locals := 26 } : Room) s m ([.ref (ad 56), .ref (ad (24 + 5 * j))]).toArray below meth c s.heap [] 0 0 (MQ below (vp_Si (fun r => r = bI true)) ([.ref (ad 56), .ref (ad (24 + 5 * j))]).toArray s 0 0 (fun _ => False)) (F0 m 0 ls [])
  refine lv_iconst (v := nI 0) hx hb dX0_areSignsTurned_0 (by decide) ?_
  refine lv_istore_n (lv' := [(2, .int (nI 0)), (0, .ref (ad 56)), (1, .ref (ad (24 + 5 * j)))]) hx hb dX0_areSignsTurned_1 rfl hl (by decide) rfl (fun ls hl => ?_)
  have loop2 : ∀ (fuel : Nat) (a : Nat) (ha : a ≤ 16), 16 - a < fuel → ∀ ls : Array Slot, lv_has ls 4 [(0, .ref (ad 56)), (1, .ref (ad (24 + 5 * j))), (2, .int (nI a))] → W p l e ({ frames := 1, cells := 0, slots := 0, locals := 26 } : Room) s m ([.ref (ad 56), .ref (ad (24 + 5 * j))]).toArray below meth c s.heap [] 0 0 (MQ below (vp_Si (fun r => r = bI true)) ([.ref (ad 56), .ref (ad (24 + 5 * j))]).toArray s 0 0 (fun _ => False)) (F0 m 2 ls []) := by
    intro fuel
    induction fuel with
    | zero => intro a ha hf; exact absurd hf (Nat.not_lt_zero _)
    | succ fuel ih2 =>
      intro a ha hf ls hl
      refine lv_iload_n hx hb dX0_areSignsTurned_2 rfl (lv_at hl 2 rfl) ?_
      refine lv_bipush (v := nI 16) hx hb dX0_areSignsTurned_3 (by decide) ?_
      refine kn_icmp_ge (tgt := 46) hx hb (by omega) (by omega) dX0_areSignsTurned_5 (by decide) (fun k_1 => ?_) (fun k_1 => ?_)
      · skip
        refine lv_iconst (v := nI 1) hx hb dX0_areSignsTurned_46 (by decide) ?_
        exact W.zret (v := bI true) hx hb hr (bI_narrow _) (fun t9 ht9 hW9 => ⟨_, rfl, rfl, ht9⟩) (fun _ h => nomatch h) dX0_areSignsTurned_47
      · skip
        refine lv_iconst (v := nI 0) hx hb dX0_areSignsTurned_8 (by decide) ?_
        refine lv_istore_n (lv' := [(3, .int (nI 0)), (0, .ref (ad 56)), (1, .ref (ad (24 + 5 * j))), (2, .int (nI a))]) hx hb dX0_areSignsTurned_9 rfl hl (by decide) rfl (fun ls hl => ?_)
        have loop10 : ∀ (fuel : Nat) (b : Nat) (hb3 : b ≤ 16), 16 - b < fuel → ∀ ls : Array Slot, lv_has ls 4 [(0, .ref (ad 56)), (1, .ref (ad (24 + 5 * j))), (2, .int (nI a)), (3, .int (nI b))] → W p l e ({ frames := 1, cells := 0, slots := 0, locals := 26 } : Room) s m ([.ref (ad 56), .ref (ad (24 + 5 * j))]).toArray below meth c s.heap [] 0 0 (MQ below (vp_Si (fun r => r = bI true)) ([.ref (ad 56), .ref (ad (24 + 5 * j))]).toArray s 0 0 (fun _ => False)) (F0 m 10 ls []) := by
          intro fuel
          induction fuel with
          | zero => intro b hb3 hf; exact absurd hf (Nat.not_lt_zero _)
          | succ fuel ih10 =>
            intro b hb3 hf ls hl
            refine lv_iload_n hx hb dX0_areSignsTurned_10 rfl (lv_at hl 3 rfl) ?_
            refine lv_bipush (v := nI 16) hx hb dX0_areSignsTurned_11 (by decide) ?_
            refine kn_icmp_ge (tgt := 40) hx hb (by omega) (by omega) dX0_areSignsTurned_13 (by decide) (fun k_2 => ?_) (fun k_2 => ?_)
            · skip
              refine lv_iinc (v := nI (a + 1)) (lv' := [(2, .int (nI (a + 1))), (0, .ref (ad 56)), (1, .ref (ad (24 + 5 * j))), (3, .int (nI b))]) hx hb dX0_areSignsTurned_40 hl (k := 2) rfl (nI_1 a) (by decide) rfl (fun ls hl => ?_)
              refine lv_goto (tgt := 2) hx hb dX0_areSignsTurned_43 (by decide) ?_
              exact ih2  (a + 1) (by omega) (by omega) _ (lv_sub hl [1, 2, 0] rfl)
            · skip
              refine lv_aload_n hx hb dX0_areSignsTurned_16 rfl (lv_at hl 1 rfl) ?_
              refine lv_iload_n hx hb dX0_areSignsTurned_17 rfl (lv_at hl 2 rfl) ?_
              refine lv_iload_n hx hb dX0_areSignsTurned_18 rfl (lv_at hl 3 rfl) ?_
              refine kx_cr (v := cmpI (((S.2.1 j).2.2.1) a) (((S.2.1 j).2.2.1) b)) (va_runV (As := [.int (nI a), .int (nI b)]) (rest := []) ⟨hx, hb, hml, hown, hts⟩ (m_X1_compared l dC dI ad S j a b hj ho (by omega) (by omega)) (cwV 2 hts gX0_areSignsTurned_X1_compared rfl rfl rfl hdX1_compared_2 ⟨Nat.le_of_ble_eq_true rfl, Nat.le_of_ble_eq_true rfl⟩) (hX.preOrd hj) rfl rfl hl.1 rfl (lv_room (Nat.le_of_ble_eq_true rfl)) dX0_areSignsTurned_19 ⟨Nat.le_of_ble_eq_true rfl, Nat.le_of_ble_eq_true rfl⟩) (fun _ h => h) ?_
              refine lv_aload_n hx hb dX0_areSignsTurned_22 rfl (lv_at hl 1 rfl) ?_
              refine lv_iload_n hx hb dX0_areSignsTurned_23 rfl (lv_at hl 3 rfl) ?_
              refine lv_iload_n hx hb dX0_areSignsTurned_24 rfl (lv_at hl 2 rfl) ?_
              refine kx_cr (v := cmpI (((S.2.1 j).2.2.1) b) (((S.2.1 j).2.2.1) a)) (va_runV (As := [.int (nI b), .int (nI a)]) (rest := [.int (cmpI (((S.2.1 j).2.2.1) a) (((S.2.1 j).2.2.1) b))]) ⟨hx, hb, hml, hown, hts⟩ (m_X1_compared l dC dI ad S j b a hj ho (by omega) (by omega)) (cwV 2 hts gX0_areSignsTurned_X1_compared rfl rfl rfl hdX1_compared_2 ⟨Nat.le_of_ble_eq_true rfl, Nat.le_of_ble_eq_true rfl⟩) (hX.preOrd hj) rfl rfl hl.1 rfl (lv_room (Nat.le_of_ble_eq_true rfl)) dX0_areSignsTurned_25 ⟨Nat.le_of_ble_eq_true rfl, Nat.le_of_ble_eq_true rfl⟩) (fun _ h => h) ?_
              refine lv_ineg hx hb dX0_areSignsTurned_28 ?_
              refine lv_icmp_eq (tgt := 34) hx hb dX0_areSignsTurned_29 (by decide) (fun k_3 => ?_) (fun k_3 => absurd (cmpI_neg _ _).symm k_3)
              refine lv_iinc (v := nI (b + 1)) (lv' := [(3, .int (nI (b + 1))), (0, .ref (ad 56)), (1, .ref (ad (24 + 5 * j))), (2, .int (nI a))]) hx hb dX0_areSignsTurned_34 hl (k := 3) rfl (nI_1 b) (by decide) rfl (fun ls hl => ?_)
              refine lv_goto (tgt := 10) hx hb dX0_areSignsTurned_37 (by decide) ?_
              exact ih10  (b + 1) (by omega) (by omega) _ (lv_sub hl [1, 2, 3, 0] rfl)
        exact loop10 (16 + 1) 0 (by omega) (by omega) _ (lv_sub hl [1, 2, 3, 0] rfl)
  exact loop2 (16 + 1) 0 (by omega) (by omega) _ (lv_sub hl [1, 2, 0] rfl)
end
section
/-! what the auditor leaves as it was -/
def InvX (S : XS) : Prop := (∀ i, i < 8 → rowOK (S.1 i)) ∧ ∀ j, j < 6 → ordOK (S.2.1 j)
def KA (S S1 : XS) : Prop := InvX S1 ∧ S1.2.2 = S.2.2 ∧ (∀ k, k < 5 → S1.1 k = S.1 k) ∧ ∀ k, k < 5 → S1.2.1 k = S.2.1 k
theorem KA_refl {S : XS} (h : InvX S) : KA S S := ⟨h, rfl, fun _ _ => rfl, fun _ _ => rfl⟩
theorem KA_trans {S S1 S2 : XS} (h : KA S S1) (h2 : KA S1 S2) : KA S S2 := ⟨h2.1, h2.2.1.trans h.2.1, fun k hk => (h2.2.2.1 k hk).trans (h.2.2.1 k hk), fun k hk => (h2.2.2.2 k hk).trans (h.2.2.2 k hk)⟩
theorem InvX_row {S : XS} (h : InvX S) {i : Nat} {r : RowS} (hr : rowOK r) : InvX (xR S i r) :=
  ⟨fun k hk => by
    by_cases e : k = i
    · subst e; rw [xR_row]; exact hr
    · rw [xR_ne _ _ e]; exact h.1 k hk, h.2⟩
theorem InvX_ord {S : XS} (h : InvX S) {j : Nat} {o : OrdS} (ho : ordOK o) : InvX (xO S j o) :=
  ⟨h.1, fun k hk => by
    by_cases e : k = j
    · subst e; rw [xO_ord]; exact ho
    · rw [xO_ne _ _ e]; exact h.2 k hk⟩
theorem KA_row {S S1 : XS} (h : KA S S1) {i : Nat} (h1 : 5 ≤ i) (h2 : i < 8) {r : RowS} (hr : rowOK r) : KA S (xR S1 i r) :=
  ⟨InvX_row h.1 hr, h.2.1, fun k hk => by rw [xR_ne _ _ (by omega)]; exact h.2.2.1 k hk, h.2.2.2⟩
theorem KA_ord {S S1 : XS} (h : KA S S1) {o : OrdS} (ho : ordOK o) : KA S (xO S1 5 o) :=
  ⟨InvX_ord h.1 ho, h.2.1, h.2.2.1, fun k hk => by rw [xO_ne _ _ (by omega)]; exact h.2.2.2 k hk⟩
theorem KA_arr {S S1 S2 : XS} (h : KA S S1) {i : Nat} (hk : keepR S1 S2 i (3 + 2 * 1)) (h1 : 5 < i) (h2 : i < 8) : KA S S2 :=
  ⟨⟨fun k hk8 => by
      by_cases e : k = i
      · subst e; exact hk.2.2.2.1
      · by_cases e2 : k = 5
        · subst e2; exact hk.2.2.1
        · rw [hk.2.1 k e e2]; exact h.1.1 k hk8, fun k hk6 => by rw [hk.1]; exact h.1.2 k hk6⟩,
    by rw [hk.1]; exact h.2.1, fun k hk5 => by rw [hk.2.1 k (by omega) (by omega)]; exact h.2.2.1 k hk5, fun k hk5 => by rw [hk.1]; exact h.2.2.2 k hk5⟩
theorem rowOK_rev {r : RowS} (h : rowOK r) : rowOK (rev r.1 r.2.2 r.2.2, rev r.2.1 r.2.2 r.2.2, r.2.2) :=
  ⟨h.1, fun k hk => by
    have hn := h.1
    dsimp only
    unfold rev
    split
    · exact h.2 _ (by omega)
    · exact h.2 k hk⟩
theorem rowOK_all {r : RowS} (h : rowOK r) : rowOK (ovl (fun k => k) r.1 16, ovl (fun k => k) r.2.1 16, 16) :=
  ⟨Nat.le_refl _, fun k hk => by
    dsimp only
    rw [ovl_in hk, ovl_in hk]
    omega⟩
theorem rowOK_rem {r : RowS} (h : rowOK r) {q : Nat} (hq : q < r.2.2) : rowOK (shl r.1 q (r.2.2 - 1), shl r.2.1 q (r.2.2 - 1), r.2.2 - 1) := by
  have hn := h.1
  refine ⟨Nat.le_trans (Nat.sub_le _ _) hn, fun k hk => ?_⟩
  dsimp only
  unfold shl
  split
  · exact h.2 _ (by omega)
  · exact h.2 k hk
theorem ordOK.cls {o : OrdS} (h : ordOK o) : o.2.2.2.2.2 ≤ 16 := by rw [h.2.2.2]; exact classC_le _
theorem ordOK.rnk {o : OrdS} (h : ordOK o) {v : Nat} (hv : v < 16) : o.2.2.2.1 v ≤ 16 := by rw [h.2.2.1 v hv]; exact rankC_le _ _
end
section
/-! throwing: what a thrown end rests on, and how it goes on to the caller -/
def IX : String := "java/lang/IndexOutOfBoundsException"
def IA : String := "java/lang/IllegalArgumentException"
def xNames : List String := ["java/lang/RuntimeException", "java/lang/Exception"]
def xDecl : List MethodName := [Bundle.initS "java/lang/RuntimeException", Bundle.initS "java/lang/Exception", Bundle.initS Bundle.tN]
def xBad (cls : String) : List Cond := xDecl.map .declares ++ [.castable cls cls]
def xStr : List (Nat × String) := [(304, "no such row"), (307, "no such order"), (309, "no such place"), (311, "a number is out of its bounds"), (138, "from is above to")]
def ZS (U : State) : Prop := (∀ x ∈ xDecl, va_Nw (.declares x) U) ∧ (va_Nw (.castable IX IX) U ∧ va_Nw (.castable IA IA) U) ∧ ∀ q ∈ xStr, ∃ a, vk_R RX4 q.1 q.2 a U
def ZT (U : State) (H : Heap) : Prop := vx_Zq Bundle.tN "UNASSIGNED_STACK" Bundle.steD (fun _ => False) U H ∧ vx_Zq Bundle.tN "SUPPRESSED_SENTINEL" Bundle.listD (fun _ => False) U H
theorem ZS.warm {s U : State} (hW : s.WarmedH U.vm) (h : ZS s) : ZS U := ⟨fun x hx => va_Nw.warmD hW (h.1 x hx), ⟨va_Nw.warmC hW h.2.1.1, va_Nw.warmC hW h.2.1.2⟩, fun q hq => (h.2.2 q hq).elim (fun a ha => ⟨a, vk_R.warm hW ha⟩)⟩
theorem ZS.same {u U : State} (hv : U.vm = u.vm) (h : ZS u) : ZS U := ⟨fun x hx => va_Nw.same rfl hv.symm (h.1 x hx), ⟨va_Nw.same rfl hv.symm h.2.1.1, va_Nw.same rfl hv.symm h.2.1.2⟩, fun q hq => (h.2.2 q hq).elim (fun a ha => ⟨a, vk_R.same hv ha⟩)⟩
theorem ZT.moved {u U : State} {H : Heap} (hvm : u.vm.Alike U.vm) (h : ZT u H) : ZT U H := ⟨vx_Zq.moved hvm h.1, vx_Zq.moved hvm h.2⟩
theorem ZS.badX {s : State} {args : Array Value} (h : ZS s) : ∀ w ∈ xBad IX, w.before args s = true := by
  intro w hw
  rcases List.mem_append.mp hw with hw | hw
  · obtain ⟨x, hx, rfl⟩ := List.mem_map.mp hw
    exact va_Nw.use rfl (h.1 x hx)
  · rw [List.mem_singleton.mp hw]
    exact va_Nw.use rfl h.2.1.1
theorem ZS.badA {s : State} {args : Array Value} (h : ZS s) : ∀ w ∈ xBad IA, w.before args s = true := by
  intro w hw
  rcases List.mem_append.mp hw with hw | hw
  · obtain ⟨x, hx, rfl⟩ := List.mem_map.mp hw
    exact va_Nw.use rfl (h.1 x hx)
  · rw [List.mem_singleton.mp hw]
    exact va_Nw.use rfl h.2.1.2
theorem xBadX_ok : ∀ w ∈ (vx_atS RX4 306 IX xNames).filter (fun w => !goodWord w), w ∈ xBad IX := by decide +kernel
theorem xBadA_ok : ∀ w ∈ (vx_atS RX4 140 IA xNames).filter (fun w => !goodWord w), w ∈ xBad IA := by decide +kernel
theorem xGoodX : ∀ w ∈ Cond.classLink RX4 302 IX :: Cond.initialized IX :: vx_atS RX4 306 IX xNames, vx_ot w = true := by decide +kernel
theorem xGoodA : ∀ w ∈ Cond.classLink RX4 136 IA :: Cond.initialized IA :: vx_atS RX4 140 IA xNames, vx_ot w = true := by decide +kernel
theorem xFitX : Bundle.fit IX = true := by decide +kernel
theorem xFitA : Bundle.fit IA = true := by decide +kernel
theorem xFitN : ∀ n ∈ xNames, Bundle.fit n = true := by decide +kernel
/-- the world and what a throw rests on -/
def PXZ (dC : Nat → ClassId) (dI : Nat → Nat → Nat) (ad : Nat → Nat) (S : XS) (U : State) : Prop := PX dC dI ad S U ∧ ZS U ∧ ZT U U.heap
theorem PXZ.blind {dC : Nat → ClassId} {dI : Nat → Nat → Nat} {ad : Nat → Nat} {S : XS} {av : List Value} : FrameBlind (va_Pc av (PXZ dC dI ad S)) := fun a U g mk h => ⟨h.1, h.2.1.call, ZS.same (u := U) rfl h.2.2.1, ZT.moved (u := U) (U := U.calling g mk a) (Vm.Alike.refl U.vm) h.2.2.2⟩
theorem PXZ.at {dC : Nat → ClassId} {dI : Nat → Nat → Nat} {ad : Nat → Nat} {S : XS} {s : State} (h : PXZ dC dI ad S s) {U : State} (hU : U.heap = s.heap) (hW : s.WarmedH U.vm) : PXZ dC dI ad S U :=
  ⟨(WX.of h.1).P hU hW, ZS.warm hW h.2.1, by rw [hU]; exact ZT.moved hW.alike h.2.2⟩
theorem PXZ.preX {dC : Nat → ClassId} {dI : Nat → Nat → Nat} {ad : Nat → Nat} {S : XS} {s : State} (h : PXZ dC dI ad S s) {As : List Value} : PreV s s.heap RX4 (ad 57) (va_Pc (Value.ref (ad 57) :: As) (PXZ dC dI ad S)) As :=
  ⟨PXZ.blind, ((WX.of h.1).preTop 57 6 (by decide) (by decide) rfl rfl (As := As)).2.1, fun _ hU hW => ⟨rfl, h.at hU hW⟩⟩
theorem PXZ.preS {dC : Nat → ClassId} {dI : Nat → Nat → Nat} {ad : Nat → Nat} {S : XS} {s : State} (h : PXZ dC dI ad S s) {As : List Value} : PreS s s.heap (va_Pc As (PXZ dC dI ad S)) As :=
  ⟨PXZ.blind, fun _ hU hW => ⟨rfl, h.at hU hW⟩⟩
/-- a thrown end: nothing that was there has changed -/
def XQ (dC : Nat → ClassId) (dI : Nat → Nat → Nat) (ad : Nat → Nat) (S : XS) (cls : String) : String → State → State → Prop := fun E st t => E = cls ∧ PX dC dI ad S t ∧ va_F (fun _ => False) st t
theorem PX.kept {dC : Nat → ClassId} {dI : Nat → Nat → Nat} {ad : Nat → Nat} {S : XS} {s t : State} (h : PX dC dI ad S s) (hvm : s.vm.Alike t.vm) (hk : ∀ q : Nat, q < s.heap.size → t.heap[q]? = s.heap[q]?) : PX dC dI ad S t :=
  ⟨h.1.kept (fun k q hq => hk q.1 (h.1 k q hq).lt), va_K.moved hvm h.2.1, h.2.2⟩
section KXC
variable {p : Program} {l : Launch} {e : Env} {R : Room} {s : State} {m : MethodId} {args : Array Value} {below : List Frame} {meth : Method} {c : Code}
variable {cc : ByteArray} {pc : Nat} {ls : Array Slot} {rest st0 : List Value} {dC : Nat → ClassId} {dI : Nat → Nat → Nat} {ad : Nat → Nat} {S : XS} {Qc : Array Value → State → Outcome → State → Prop}
theorem kx_throw {own cls text : String} {names : List String} {ik is ic : Nat} (hx : p.tables.exec = Jvm.exec) (hb : c.code = cc) (hl : l.stackTraces = false) (hown : s.vm.findClass own = some m.cls) (hcls : Bundle.fit cls = true) (hnames : ∀ n ∈ names, Bundle.fit n = true)
    (hk : (Cond.classLink own ik cls).before args s = true) (hini : (Cond.initialized cls).before args s = true) (hstr : ∃ a, vk_R own is text a s) (hat : ∀ w ∈ vx_atS own ic cls names, w.before args s = true)
    (hgood : ∀ w ∈ Cond.classLink own ik cls :: Cond.initialized cls :: vx_atS own ic cls names, vx_ot w = true) (hZ : ZT s s.heap) (hX : PX dC dI ad S s) (hsize : ls.size = c.maxLocals)
    (d0 : decode cc pc = .ok (.new ik, 3)) (d3 : decode cc (pc + 3) = .ok (.dup, 1)) (d4 : decode cc (pc + 4) = .ok (.ldc_w is, 3)) (d7 : decode cc (pc + 7) = .ok (.invokespecial ic, 3)) (d10 : decode cc (pc + 10) = .ok (.athrow, 1))
    (hex : ∀ x ∈ c.exceptionTable.toList, False) (hRframes : names.length + 3 < R.frames) (hRlocals : (rest.map fun v => v.category).sum + (13 * (names.length + 1) + 43) ≤ R.locals) (hRcells : 0 + 1 ≤ R.cells) (hRslots : 0 + 6 ≤ R.slots) (hlocks : meth.locks = false) :
    W p l e R s m args below meth c s.heap [] 0 0 (vx_MQ below Qc (XQ dC dI ad S cls) args s 1 6 (fun _ => False)) (F0 m pc ls rest) := by
  obtain ⟨a, hstr⟩ := hstr
  exact vx_throwSW hx hb hl hown hcls hnames hk hini hstr hat hgood hZ.1 hZ.2 va_S.rf hsize d0 d3 d4 d7 d10 (fun x h => (hex x h).elim) hRframes hRlocals hRcells hRslots hlocks (fun t hvm hz hk => ⟨rfl, hX.kept hvm hk, hz, fun q h _ => hk q h⟩) (fun _ h => nomatch h) (Nat.le_refl _) (Nat.le_refl _)
theorem kx_throw1 {own cls text : String} {names : List String} {ik is ic : Nat} (hx : p.tables.exec = Jvm.exec) (hb : c.code = cc) (hl : l.stackTraces = false) (hown : s.vm.findClass own = some m.cls) (hcls : Bundle.fit cls = true) (hnames : ∀ n ∈ names, Bundle.fit n = true)
    (hk : (Cond.classLink own ik cls).before args s = true) (hini : (Cond.initialized cls).before args s = true) (hstr : ∃ a, vk_R own is text a s) (hat : ∀ w ∈ vx_atS own ic cls names, w.before args s = true)
    (hgood : ∀ w ∈ Cond.classLink own ik cls :: Cond.initialized cls :: vx_atS own ic cls names, vx_ot w = true) (hZ : ZT s s.heap) (hX : PX dC dI ad S s) (hsize : ls.size = c.maxLocals)
    (d0 : decode cc pc = .ok (.new ik, 3)) (d3 : decode cc (pc + 3) = .ok (.dup, 1)) (d4 : decode cc (pc + 4) = .ok (.ldc is, 2)) (d7 : decode cc (pc + 6) = .ok (.invokespecial ic, 3)) (d10 : decode cc (pc + 9) = .ok (.athrow, 1))
    (hex : ∀ x ∈ c.exceptionTable.toList, False) (hRframes : names.length + 3 < R.frames) (hRlocals : (rest.map fun v => v.category).sum + (13 * (names.length + 1) + 43) ≤ R.locals) (hRcells : 0 + 1 ≤ R.cells) (hRslots : 0 + 6 ≤ R.slots) (hlocks : meth.locks = false) :
    W p l e R s m args below meth c s.heap [] 0 0 (vx_MQ below Qc (XQ dC dI ad S cls) args s 1 6 (fun _ => False)) (F0 m pc ls rest) := by
  obtain ⟨a, hstr⟩ := hstr
  exact vx_throwS hx hb hl hown hcls hnames hk hini hstr hat hgood hZ.1 hZ.2 va_S.rf hsize d0 d3 d4 d7 d10 (fun x h => (hex x h).elim) hRframes hRlocals hRcells hRslots hlocks (fun t hvm hz hk => ⟨rfl, hX.kept hvm hk, hz, fun q h _ => hk q h⟩) (fun _ h => nomatch h) (Nat.le_refl _) (Nat.le_refl _)
/-- a callee's throw that goes on -/
theorem kx_pass {cls : String} (hr : vx_Run p l e R s m args below meth c s.heap [] 0 0 1 6 (F0 m pc ls st0) rest (fun _ _ _ => False) (XQ dC dI ad S cls) (fun _ => False)) (hX : PX dC dI ad S s) (hex : ∀ x ∈ c.exceptionTable.toList, False) (hlocks : meth.locks = false) :
    W p l e R s m args below meth c s.heap [] 0 0 (vx_MQ below Qc (XQ dC dI ad S cls) args s 1 6 (fun _ => False)) (F0 m pc ls st0) := by
  intro T hT X
  rcases hr T hT X with ⟨v, st₀, t, T', L, h0, X', hL, e1, e2, h, st⟩ | ⟨q, st₀, t, T', L, E, ce, h0, X', hL, e1, e2, ⟨hE, hP, hF⟩, hce, hcv, hcl, st⟩
  · exact h.elim
  · subst hE
    obtain ⟨hz, hk⟩ := hF
    rw [h0] at hz hk
    have hk' : ∀ q : Nat, q < s.heap.size → T'.heap[q]? = s.heap[q]? := fun q hq => by rw [e1]; exact hk q hq (fun z => z)
    have K : vx_W p l e R s m args below meth c T'.heap ([] ++ L) (0 + 1) (0 + 6) (vx_MQ below Qc (XQ dC dI ad S E) args s 1 6 (fun _ => False)) (F0 m pc ls rest) q :=
      vx_out (fun x h => (hex x h).elim) hlocks (by rw [e1]; exact hce) hcv hcl (fun t2 ht2 hvm => ⟨rfl, hX.kept hvm (fun q hq => by rw [ht2]; exact hk' q hq), by rw [ht2, e1]; exact hz, fun q hq _ => by rw [ht2]; exact hk' q hq⟩) (fun z hz => by
        rcases List.mem_append.mp hz with h | h
        · cases h
        · exact hL z h) (Nat.le_refl _) (Nat.le_refl _)
    obtain ⟨t2, a1, b1⟩ := K T' rfl X'
    exact ⟨t2, st.trans a1, b1⟩
end KXC
end
section
theorem ix_no {x9 : Int32} {n : Int32} (h : x9 < 0 ∨ n ≤ x9) (h1 : ¬ x9 < 0) : ¬ x9 < n := fun h2 => h.elim h1 (fun h3 => by
  rw [Int32.lt_iff_toInt_lt] at h2
  rw [Int32.le_iff_toInt_le] at h3
  omega)
theorem ix_no2 {x9 : Int32} {n : Int32} (h : x9 < 0 ∨ n < x9) (h1 : ¬ x9 < 0) : ¬ x9 ≤ n := fun h2 => h.elim h1 (fun h3 => by
  rw [Int32.le_iff_toInt_le] at h2
  rw [Int32.lt_iff_toInt_lt] at h3
  omega)
set_option maxHeartbeats 4000000 in
set_option maxRecDepth 100000 in
theorem m_X4_rowAt (l : Launch) (dC : Nat → ClassId) (dI : Nat → Nat → Nat) (ad : Nat → Nat) (S : XS) (i : Nat) (hi : i < 3) : Met l yX4_rowAt wsX4_rowAt ({ frames := 0, cells := 0, slots := 0, locals := 0 } : Room) (va_Pc [.ref (ad 57), .int (nI i)] (PX dC dI ad S)) (va_Sr (fun k => k = i) (fun k => .ref (ad (3 * k)))) 0 0 (fun _ => False) := by
  refine Met.ofW (cc := cX4_rowAt) (maxL := 3) (ret := (some (.object "Orderlattice$Row"))) pl_X4 rfl ?_
  intro p e s m args below meth c s₁ B hml hv
  obtain ⟨rfl, hPX⟩ := hv
  have hx := B.exec
  have hb := B.bytes
  have hr := B.returns
  have hts := atoms_spec (ws := wsX4_rowAt) B.pre
  have hown : s.vm.findClass RX4 = some m.cls := findClass_of_methodNamed B.named
  have hlocks := B.notSynchronized
  have hin4 : ∀ w ∈ u_ws RX4 TX4 9, w ∈ wsX4_rowAt := tu 1328 (by decide +kernel) rfl
  have hX := WX.of hPX
  have hl := lv_entry ([.ref (ad 57), .int (nI i)]) (n := 3) (Nat.le_of_ble_eq_true rfl)
  rw [lg_entry_eq]
  generalize (lg_sl ([.ref (ad 57), .int (nI i)]) ++ List.replicate (3 - (lg_sl ([.ref (ad 57), .int (nI i)])).length) Slot.unset).toArray = ls at hl ⊢
  have hl : lv_has ls 3 [(0, .ref (ad 57)), (1, .int (nI i))] := hl
  show W p l e ({ frames := 0, cells := 0, slots := 0, locals := 0 } : Room) s m ([.ref (ad 57), .int (nI i)]).toArray below meth c s.heap [] 0 0 (MQ below (va_Sr (fun k => k = i) (fun k => .ref (ad (3 * k)))) ([.ref (ad 57), .int (nI i)]).toArray s 0 0 (fun _ => False)) (F0 m 0 ls [])
  refine lv_iload_n hx hb dX4_rowAt_0 rfl (lv_at hl 1 rfl) ?_
  refine kn_if_lt (tgt := 13) hx hb (by omega) dX4_rowAt_1 (by decide) ?_
  refine lv_iload_n hx hb dX4_rowAt_4 rfl (lv_at hl 1 rfl) ?_
  refine lv_aload_n hx hb dX4_rowAt_5 rfl (lv_at hl 0 rfl) ?_
  refine kx_grows hx hb hts hin4 hown hX (hts (.fieldLink RX4 11 "Orderlattice" "rows" "[LOrderlattice$Row;") (tm 445 (by decide +kernel) rfl)) dX4_rowAt_6 ?_
  refine kx_nrows hx hb hX  dX4_rowAt_9 ?_
  refine kn_icmp_lt (tgt := 17) hx hb (by omega) (by omega) dX4_rowAt_10 (by decide) (fun k_2 => ?_) (fun k_2 => absurd k_2 (by omega))
  refine lv_aload_n hx hb dX4_rowAt_17 rfl (lv_at hl 0 rfl) ?_
  refine kx_grows hx hb hts hin4 hown hX (hts (.fieldLink RX4 11 "Orderlattice" "rows" "[LOrderlattice$Row;") (tm 445 (by decide +kernel) rfl)) dX4_rowAt_18 ?_
  refine lv_iload_n hx hb dX4_rowAt_21 rfl (lv_at hl 1 rfl) ?_
  refine kx_lrow hx hb hX (by omega) dX4_rowAt_22 ?_
  refine lv_astore_n (lv' := [(2, .ref (ad (3 * i))), (0, .ref (ad 57)), (1, .int (nI i))]) hx hb dX4_rowAt_23 rfl hl (by decide) rfl (fun ls hl => ?_)
  refine lv_aload_n hx hb dX4_rowAt_24 rfl (lv_at hl 0 rfl) ?_
  refine lv_ifnonnull (tgt := 39) hx hb dX4_rowAt_25 (by decide) ?_
  refine lv_aload_n hx hb dX4_rowAt_39 rfl (lv_at hl 0 rfl) ?_
  exact W.aret (v := .ref (ad (3 * i))) hx hb hr (Or.inl ⟨_, rfl⟩) (Or.inr ⟨_, rfl⟩) (fun t9 ht9 hW9 => ⟨_, rfl, rfl, ht9⟩) (fun _ h => nomatch h) dX4_rowAt_40
set_option maxHeartbeats 4000000 in
set_option maxRecDepth 100000 in
theorem m_X4_orderAt (l : Launch) (dC : Nat → ClassId) (dI : Nat → Nat → Nat) (ad : Nat → Nat) (S : XS) (i : Nat) (hi : i < 4) : Met l yX4_orderAt wsX4_orderAt ({ frames := 0, cells := 0, slots := 0, locals := 0 } : Room) (va_Pc [.ref (ad 57), .int (nI i)] (PX dC dI ad S)) (va_Sr (fun k => k = i) (fun k => .ref (ad (24 + 5 * k)))) 0 0 (fun _ => False) := by
  refine Met.ofW (cc := cX4_orderAt) (maxL := 3) (ret := (some (.object "Orderlattice$Order"))) pl_X4 rfl ?_
  intro p e s m args below meth c s₁ B hml hv
  obtain ⟨rfl, hPX⟩ := hv
  have hx := B.exec
  have hb := B.bytes
  have hr := B.returns
  have hts := atoms_spec (ws := wsX4_orderAt) B.pre
  have hown : s.vm.findClass RX4 = some m.cls := findClass_of_methodNamed B.named
  have hlocks := B.notSynchronized
  have hin4 : ∀ w ∈ u_ws RX4 TX4 9, w ∈ wsX4_orderAt := tu 1328 (by decide +kernel) rfl
  have hX := WX.of hPX
  have hl := lv_entry ([.ref (ad 57), .int (nI i)]) (n := 3) (Nat.le_of_ble_eq_true rfl)
  rw [lg_entry_eq]
  generalize (lg_sl ([.ref (ad 57), .int (nI i)]) ++ List.replicate (3 - (lg_sl ([.ref (ad 57), .int (nI i)])).length) Slot.unset).toArray = ls at hl ⊢
  have hl : lv_has ls 3 [(0, .ref (ad 57)), (1, .int (nI i))] := hl
  show W p l e ({ frames := 0, cells := 0, slots := 0, locals := 0 } : Room) s m ([.ref (ad 57), .int (nI i)]).toArray below meth c s.heap [] 0 0 (MQ below (va_Sr (fun k => k = i) (fun k => .ref (ad (24 + 5 * k)))) ([.ref (ad 57), .int (nI i)]).toArray s 0 0 (fun _ => False)) (F0 m 0 ls [])
  refine lv_iload_n hx hb dX4_orderAt_0 rfl (lv_at hl 1 rfl) ?_
  refine kn_if_lt (tgt := 13) hx hb (by omega) dX4_orderAt_1 (by decide) ?_
  refine lv_iload_n hx hb dX4_orderAt_4 rfl (lv_at hl 1 rfl) ?_
  refine lv_aload_n hx hb dX4_orderAt_5 rfl (lv_at hl 0 rfl) ?_
  refine kx_gorders hx hb hts hin4 hown hX (hts (.fieldLink RX4 17 "Orderlattice" "orders" "[LOrderlattice$Order;") (tm 447 (by decide +kernel) rfl)) dX4_orderAt_6 ?_
  refine kx_norders hx hb hX  dX4_orderAt_9 ?_
  refine kn_icmp_lt (tgt := 17) hx hb (by omega) (by omega) dX4_orderAt_10 (by decide) (fun k_2 => ?_) (fun k_2 => absurd k_2 (by omega))
  refine lv_aload_n hx hb dX4_orderAt_17 rfl (lv_at hl 0 rfl) ?_
  refine kx_gorders hx hb hts hin4 hown hX (hts (.fieldLink RX4 17 "Orderlattice" "orders" "[LOrderlattice$Order;") (tm 447 (by decide +kernel) rfl)) dX4_orderAt_18 ?_
  refine lv_iload_n hx hb dX4_orderAt_21 rfl (lv_at hl 1 rfl) ?_
  refine kx_lord hx hb hX (by omega) dX4_orderAt_22 ?_
  refine lv_astore_n (lv' := [(2, .ref (ad (24 + 5 * i))), (0, .ref (ad 57)), (1, .int (nI i))]) hx hb dX4_orderAt_23 rfl hl (by decide) rfl (fun ls hl => ?_)
  refine lv_aload_n hx hb dX4_orderAt_24 rfl (lv_at hl 0 rfl) ?_
  refine lv_ifnonnull (tgt := 39) hx hb dX4_orderAt_25 (by decide) ?_
  refine lv_aload_n hx hb dX4_orderAt_39 rfl (lv_at hl 0 rfl) ?_
  exact W.aret (v := .ref (ad (24 + 5 * i))) hx hb hr (Or.inl ⟨_, rfl⟩) (Or.inr ⟨_, rfl⟩) (fun t9 ht9 hW9 => ⟨_, rfl, rfl, ht9⟩) (fun _ h => nomatch h) dX4_orderAt_40
set_option maxHeartbeats 4000000 in
set_option maxRecDepth 100000 in
theorem t_X4_rowAt (l : Launch) (hst : l.stackTraces = false) (dC : Nat → ClassId) (dI : Nat → Nat → Nat) (ad : Nat → Nat) (S : XS) (x9 : Int32) (hb9 : x9 < 0 ∨ nI 3 ≤ x9) : vx_Met l yX4_rowAt wsX4_rowAt ({ frames := 6, cells := 1, slots := 6, locals := 82 } : Room) (va_Pc [.ref (ad 57), .int x9] (PXZ dC dI ad S)) (fun _ _ _ _ => False) (XQ dC dI ad S IX) 1 6 (fun _ => False) := by
  refine vx_ofW (cc := cX4_rowAt) (maxL := 3) (ret := (some (.object "Orderlattice$Row"))) (by decide) rfl ?_
  intro p e s m args below meth c s₁ B hml hex hv
  obtain ⟨rfl, hPZ⟩ := hv
  have hPX := hPZ.1
  have hx := B.exec
  have hb := B.bytes
  have hr := B.returns
  have hts := atoms_spec (ws := wsX4_rowAt) B.pre
  have hown : s.vm.findClass RX4 = some m.cls := findClass_of_methodNamed B.named
  have hlocks := B.notSynchronized
  have hin4 : ∀ w ∈ u_ws RX4 TX4 9, w ∈ wsX4_rowAt := tu 1328 (by decide +kernel) rfl
  have hat_in : ∀ w ∈ (vx_atS RX4 306 IX xNames).filter goodWord, w ∈ wsX4_rowAt := by decide +kernel
  have hX := WX.of hPX
  have hl := lv_entry ([.ref (ad 57), .int x9]) (n := 3) (Nat.le_of_ble_eq_true rfl)
  rw [lg_entry_eq]
  generalize (lg_sl ([.ref (ad 57), .int x9]) ++ List.replicate (3 - (lg_sl ([.ref (ad 57), .int x9])).length) Slot.unset).toArray = ls at hl ⊢
  have hl : lv_has ls 3 [(0, .ref (ad 57)), (1, .int x9)] := hl
  show W p l e ({ frames := 6, cells := 1, slots := 6, locals := 82 } : Room) s m ([.ref (ad 57), .int x9]).toArray below meth c s.heap [] 0 0 (vx_MQ below (fun _ _ _ _ => False) (XQ dC dI ad S IX) ([.ref (ad 57), .int x9]).toArray s 1 6 (fun _ => False)) (F0 m 0 ls [])
  refine lv_iload_n hx hb dX4_rowAt_0 rfl (lv_at hl 1 rfl) ?_
  refine lv_if_lt (tgt := 13) hx hb dX4_rowAt_1 (by decide) (fun k_1 => ?_) (fun k_1 => ?_)
  · skip
    refine lv_null hx hb dX4_rowAt_13 ?_
    refine lv_goto (tgt := 23) hx hb dX4_rowAt_14 (by decide) ?_
    refine lv_astore_nN (lv' := [(2, .null), (0, .ref (ad 57)), (1, .int x9)]) hx hb dX4_rowAt_23 rfl hl (by decide) rfl (fun ls hl => ?_)
    refine lv_aload_nN hx hb dX4_rowAt_24 rfl (lv_at hl 0 rfl) ?_
    refine lv_ifnonnullN hx hb dX4_rowAt_25 ?_
    exact kx_throw hx hb hst hown xFitX xFitN (hts (.classLink RX4 302 IX) (tm 477 (by decide +kernel) rfl)) (hts (.initialized IX) (tm 478 (by decide +kernel) rfl)) (hPZ.2.1.2.2 (304, "no such row") (by decide)) (vx_hat (fun w hw => hts w (hat_in w hw)) xBadX_ok hPZ.2.1.badX) xGoodX hPZ.2.2 hPX (by rw [hml]; exact hl.1) dX4_rowAt_28 dX4_rowAt_31 dX4_rowAt_32 dX4_rowAt_35 dX4_rowAt_38 hex (by decide) (by decide) (by decide) (by decide) hlocks
  · skip
    refine lv_iload_n hx hb dX4_rowAt_4 rfl (lv_at hl 1 rfl) ?_
    refine lv_aload_n hx hb dX4_rowAt_5 rfl (lv_at hl 0 rfl) ?_
    refine kx_grows hx hb hts hin4 hown hX (hts (.fieldLink RX4 11 "Orderlattice" "rows" "[LOrderlattice$Row;") (tm 445 (by decide +kernel) rfl)) dX4_rowAt_6 ?_
    refine kx_nrows hx hb hX  dX4_rowAt_9 ?_
    refine lv_icmp_lt (tgt := 17) hx hb dX4_rowAt_10 (by decide) (fun k_2 => absurd k_2 (ix_no hb9 k_1)) (fun k_2 => ?_)
    refine lv_null hx hb dX4_rowAt_13 ?_
    refine lv_goto (tgt := 23) hx hb dX4_rowAt_14 (by decide) ?_
    refine lv_astore_nN (lv' := [(2, .null), (0, .ref (ad 57)), (1, .int x9)]) hx hb dX4_rowAt_23 rfl hl (by decide) rfl (fun ls hl => ?_)
    refine lv_aload_nN hx hb dX4_rowAt_24 rfl (lv_at hl 0 rfl) ?_
    refine lv_ifnonnullN hx hb dX4_rowAt_25 ?_
    exact kx_throw hx hb hst hown xFitX xFitN (hts (.classLink RX4 302 IX) (tm 477 (by decide +kernel) rfl)) (hts (.initialized IX) (tm 478 (by decide +kernel) rfl)) (hPZ.2.1.2.2 (304, "no such row") (by decide)) (vx_hat (fun w hw => hts w (hat_in w hw)) xBadX_ok hPZ.2.1.badX) xGoodX hPZ.2.2 hPX (by rw [hml]; exact hl.1) dX4_rowAt_28 dX4_rowAt_31 dX4_rowAt_32 dX4_rowAt_35 dX4_rowAt_38 hex (by decide) (by decide) (by decide) (by decide) hlocks
set_option maxHeartbeats 4000000 in
set_option maxRecDepth 100000 in
theorem t_X4_orderAt (l : Launch) (hst : l.stackTraces = false) (dC : Nat → ClassId) (dI : Nat → Nat → Nat) (ad : Nat → Nat) (S : XS) (x9 : Int32) (hb9 : x9 < 0 ∨ nI 4 ≤ x9) : vx_Met l yX4_orderAt wsX4_orderAt ({ frames := 6, cells := 1, slots := 6, locals := 82 } : Room) (va_Pc [.ref (ad 57), .int x9] (PXZ dC dI ad S)) (fun _ _ _ _ => False) (XQ dC dI ad S IX) 1 6 (fun _ => False) := by
  refine vx_ofW (cc := cX4_orderAt) (maxL := 3) (ret := (some (.object "Orderlattice$Order"))) (by decide) rfl ?_
  intro p e s m args below meth c s₁ B hml hex hv
  obtain ⟨rfl, hPZ⟩ := hv
  have hPX := hPZ.1
  have hx := B.exec
  have hb := B.bytes
  have hr := B.returns
  have hts := atoms_spec (ws := wsX4_orderAt) B.pre
  have hown : s.vm.findClass RX4 = some m.cls := findClass_of_methodNamed B.named
  have hlocks := B.notSynchronized
  have hin4 : ∀ w ∈ u_ws RX4 TX4 9, w ∈ wsX4_orderAt := tu 1328 (by decide +kernel) rfl
  have hat_in : ∀ w ∈ (vx_atS RX4 306 IX xNames).filter goodWord, w ∈ wsX4_orderAt := by decide +kernel
  have hX := WX.of hPX
  have hl := lv_entry ([.ref (ad 57), .int x9]) (n := 3) (Nat.le_of_ble_eq_true rfl)
  rw [lg_entry_eq]
  generalize (lg_sl ([.ref (ad 57), .int x9]) ++ List.replicate (3 - (lg_sl ([.ref (ad 57), .int x9])).length) Slot.unset).toArray = ls at hl ⊢
  have hl : lv_has ls 3 [(0, .ref (ad 57)), (1, .int x9)] := hl
  show W p l e ({ frames := 6, cells := 1, slots := 6, locals := 82 } : Room) s m ([.ref (ad 57), .int x9]).toArray below meth c s.heap [] 0 0 (vx_MQ below (fun _ _ _ _ => False) (XQ dC dI ad S IX) ([.ref (ad 57), .int x9]).toArray s 1 6 (fun _ => False)) (F0 m 0 ls [])
  refine lv_iload_n hx hb dX4_orderAt_0 rfl (lv_at hl 1 rfl) ?_
  refine lv_if_lt (tgt := 13) hx hb dX4_orderAt_1 (by decide) (fun k_1 => ?_) (fun k_1 => ?_)
  · skip
    refine lv_null hx hb dX4_orderAt_13 ?_
    refine lv_goto (tgt := 23) hx hb dX4_orderAt_14 (by decide) ?_
    refine lv_astore_nN (lv' := [(2, .null), (0, .ref (ad 57)), (1, .int x9)]) hx hb dX4_orderAt_23 rfl hl (by decide) rfl (fun ls hl => ?_)
    refine lv_aload_nN hx hb dX4_orderAt_24 rfl (lv_at hl 0 rfl) ?_
    refine lv_ifnonnullN hx hb dX4_orderAt_25 ?_
    exact kx_throw hx hb hst hown xFitX xFitN (hts (.classLink RX4 302 IX) (tm 477 (by decide +kernel) rfl)) (hts (.initialized IX) (tm 478 (by decide +kernel) rfl)) (hPZ.2.1.2.2 (307, "no such order") (by decide)) (vx_hat (fun w hw => hts w (hat_in w hw)) xBadX_ok hPZ.2.1.badX) xGoodX hPZ.2.2 hPX (by rw [hml]; exact hl.1) dX4_orderAt_28 dX4_orderAt_31 dX4_orderAt_32 dX4_orderAt_35 dX4_orderAt_38 hex (by decide) (by decide) (by decide) (by decide) hlocks
  · skip
    refine lv_iload_n hx hb dX4_orderAt_4 rfl (lv_at hl 1 rfl) ?_
    refine lv_aload_n hx hb dX4_orderAt_5 rfl (lv_at hl 0 rfl) ?_
    refine kx_gorders hx hb hts hin4 hown hX (hts (.fieldLink RX4 17 "Orderlattice" "orders" "[LOrderlattice$Order;") (tm 447 (by decide +kernel) rfl)) dX4_orderAt_6 ?_
    refine kx_norders hx hb hX  dX4_orderAt_9 ?_
    refine lv_icmp_lt (tgt := 17) hx hb dX4_orderAt_10 (by decide) (fun k_2 => absurd k_2 (ix_no hb9 k_1)) (fun k_2 => ?_)
    refine lv_null hx hb dX4_orderAt_13 ?_
    refine lv_goto (tgt := 23) hx hb dX4_orderAt_14 (by decide) ?_
    refine lv_astore_nN (lv' := [(2, .null), (0, .ref (ad 57)), (1, .int x9)]) hx hb dX4_orderAt_23 rfl hl (by decide) rfl (fun ls hl => ?_)
    refine lv_aload_nN hx hb dX4_orderAt_24 rfl (lv_at hl 0 rfl) ?_
    refine lv_ifnonnullN hx hb dX4_orderAt_25 ?_
    exact kx_throw hx hb hst hown xFitX xFitN (hts (.classLink RX4 302 IX) (tm 477 (by decide +kernel) rfl)) (hts (.initialized IX) (tm 478 (by decide +kernel) rfl)) (hPZ.2.1.2.2 (307, "no such order") (by decide)) (vx_hat (fun w hw => hts w (hat_in w hw)) xBadX_ok hPZ.2.1.badX) xGoodX hPZ.2.2 hPX (by rw [hml]; exact hl.1) dX4_orderAt_28 dX4_orderAt_31 dX4_orderAt_32 dX4_orderAt_35 dX4_orderAt_38 hex (by decide) (by decide) (by decide) (by decide) hlocks
set_option maxHeartbeats 4000000 in
set_option maxRecDepth 100000 in
theorem m_X4_demandPlace (l : Launch) (dC : Nat → ClassId) (dI : Nat → Nat → Nat) (ad : Nat → Nat) (S : XS) (i q : Nat) (hi : i < 8) (hn : (S.1 i).2.2 ≤ 16) (hq : q < (S.1 i).2.2) : Met l yX4_demandPlace wsX4_demandPlace ({ frames := 1, cells := 0, slots := 0, locals := 20 } : Room) (va_Pc [.ref (ad (3 * i)), .int (nI q)] (PX dC dI ad S)) (va_Sv (fun _ => True)) 0 0 (fun _ => False) := by
  refine Met.ofW (cc := cX4_demandPlace) (maxL := 2) (ret := none) pl_X4 rfl ?_
  intro p e s m args below meth c s₁ B hml hv
  obtain ⟨rfl, hPX⟩ := hv
  have hx := B.exec
  have hb := B.bytes
  have hr := B.returns
  have hts := atoms_spec (ws := wsX4_demandPlace) B.pre
  have hown : s.vm.findClass RX4 = some m.cls := findClass_of_methodNamed B.named
  have hlocks := B.notSynchronized
  have hX := WX.of hPX
  have hl := lv_entry ([.ref (ad (3 * i)), .int (nI q)]) (n := 2) (Nat.le_of_ble_eq_true rfl)
  rw [lg_entry_eq]
  generalize (lg_sl ([.ref (ad (3 * i)), .int (nI q)]) ++ List.replicate (2 - (lg_sl ([.ref (ad (3 * i)), .int (nI q)])).length) Slot.unset).toArray = ls at hl ⊢
  have hl : lv_has ls 2 [(0, .ref (ad (3 * i))), (1, .int (nI q))] := hl
  show W p l e ({ frames := 1, cells := 0, slots := 0, locals := 20 } : Room) s m ([.ref (ad (3 * i)), .int (nI q)]).toArray below meth c s.heap [] 0 0 (MQ below (va_Sv (fun _ => True)) ([.ref (ad (3 * i)), .int (nI q)]).toArray s 0 0 (fun _ => False)) (F0 m 0 ls [])
  refine lv_iload_n hx hb dX4_demandPlace_0 rfl (lv_at hl 1 rfl) ?_
  refine kn_if_lt (tgt := 12) hx hb (by omega) dX4_demandPlace_1 (by decide) ?_
  refine lv_iload_n hx hb dX4_demandPlace_4 rfl (lv_at hl 1 rfl) ?_
  refine lv_aload_n hx hb dX4_demandPlace_5 rfl (lv_at hl 0 rfl) ?_
  refine kx_cr (v := nI ((S.1 i).2.2)) (va_runV (As := []) (rest := [.int (nI q)]) ⟨hx, hb, hml, hown, hts⟩ (m_X2_length l dC dI ad S i (by omega)) (cwV 0 hts gX4_demandPlace_X2_length rfl rfl rfl hdX2_length_0 ⟨Nat.le_of_ble_eq_true rfl, Nat.le_of_ble_eq_true rfl⟩) (hX.preRow (by omega)) rfl rfl hl.1 rfl (lv_room (Nat.le_of_ble_eq_true rfl)) dX4_demandPlace_6 ⟨Nat.le_of_ble_eq_true rfl, Nat.le_of_ble_eq_true rfl⟩) (fun _ h => h) ?_
  refine kn_icmp_lt (tgt := 23) hx hb (by omega) (by omega) dX4_demandPlace_9 (by decide) (fun k_2 => ?_) (fun k_2 => absurd k_2 (by omega))
  exact W.vret hx hb hr (fun t9 ht9 hW9 => ⟨rfl, trivial, ht9⟩) (fun _ h => nomatch h) dX4_demandPlace_23
set_option maxHeartbeats 4000000 in
set_option maxRecDepth 100000 in
theorem m_X4_demandGap (l : Launch) (dC : Nat → ClassId) (dI : Nat → Nat → Nat) (ad : Nat → Nat) (S : XS) (i q : Nat) (hi : i < 8) (hn : (S.1 i).2.2 ≤ 16) (hq : q ≤ (S.1 i).2.2) : Met l yX4_demandGap wsX4_demandGap ({ frames := 1, cells := 0, slots := 0, locals := 20 } : Room) (va_Pc [.ref (ad (3 * i)), .int (nI q)] (PX dC dI ad S)) (va_Sv (fun _ => True)) 0 0 (fun _ => False) := by
  refine Met.ofW (cc := cX4_demandGap) (maxL := 2) (ret := none) pl_X4 rfl ?_
  intro p e s m args below meth c s₁ B hml hv
  obtain ⟨rfl, hPX⟩ := hv
  have hx := B.exec
  have hb := B.bytes
  have hr := B.returns
  have hts := atoms_spec (ws := wsX4_demandGap) B.pre
  have hown : s.vm.findClass RX4 = some m.cls := findClass_of_methodNamed B.named
  have hlocks := B.notSynchronized
  have hX := WX.of hPX
  have hl := lv_entry ([.ref (ad (3 * i)), .int (nI q)]) (n := 2) (Nat.le_of_ble_eq_true rfl)
  rw [lg_entry_eq]
  generalize (lg_sl ([.ref (ad (3 * i)), .int (nI q)]) ++ List.replicate (2 - (lg_sl ([.ref (ad (3 * i)), .int (nI q)])).length) Slot.unset).toArray = ls at hl ⊢
  have hl : lv_has ls 2 [(0, .ref (ad (3 * i))), (1, .int (nI q))] := hl
  show W p l e ({ frames := 1, cells := 0, slots := 0, locals := 20 } : Room) s m ([.ref (ad (3 * i)), .int (nI q)]).toArray below meth c s.heap [] 0 0 (MQ below (va_Sv (fun _ => True)) ([.ref (ad (3 * i)), .int (nI q)]).toArray s 0 0 (fun _ => False)) (F0 m 0 ls [])
  refine lv_iload_n hx hb dX4_demandGap_0 rfl (lv_at hl 1 rfl) ?_
  refine kn_if_lt (tgt := 12) hx hb (by omega) dX4_demandGap_1 (by decide) ?_
  refine lv_iload_n hx hb dX4_demandGap_4 rfl (lv_at hl 1 rfl) ?_
  refine lv_aload_n hx hb dX4_demandGap_5 rfl (lv_at hl 0 rfl) ?_
  refine kx_cr (v := nI ((S.1 i).2.2)) (va_runV (As := []) (rest := [.int (nI q)]) ⟨hx, hb, hml, hown, hts⟩ (m_X2_length l dC dI ad S i (by omega)) (cwV 0 hts gX4_demandGap_X2_length rfl rfl rfl hdX2_length_0 ⟨Nat.le_of_ble_eq_true rfl, Nat.le_of_ble_eq_true rfl⟩) (hX.preRow (by omega)) rfl rfl hl.1 rfl (lv_room (Nat.le_of_ble_eq_true rfl)) dX4_demandGap_6 ⟨Nat.le_of_ble_eq_true rfl, Nat.le_of_ble_eq_true rfl⟩) (fun _ h => h) ?_
  refine kn_icmp_le (tgt := 23) hx hb (by omega) (by omega) dX4_demandGap_9 (by decide) (fun k_2 => ?_) (fun k_2 => absurd k_2 (by omega))
  exact W.vret hx hb hr (fun t9 ht9 hW9 => ⟨rfl, trivial, ht9⟩) (fun _ h => nomatch h) dX4_demandGap_23
set_option maxHeartbeats 4000000 in
set_option maxRecDepth 100000 in
theorem t_X4_demandPlace (l : Launch) (hst : l.stackTraces = false) (dC : Nat → ClassId) (dI : Nat → Nat → Nat) (ad : Nat → Nat) (S : XS) (i : Nat) (x9 : Int32) (hi : i < 8) (hn : (S.1 i).2.2 ≤ 16) (hb9 : x9 < 0 ∨ nI (S.1 i).2.2 ≤ x9) : vx_Met l yX4_demandPlace wsX4_demandPlace ({ frames := 6, cells := 1, slots := 6, locals := 82 } : Room) (va_Pc [.ref (ad (3 * i)), .int x9] (PXZ dC dI ad S)) (fun _ _ _ _ => False) (XQ dC dI ad S IX) 1 6 (fun _ => False) := by
  refine vx_ofW (cc := cX4_demandPlace) (maxL := 2) (ret := none) (by decide) rfl ?_
  intro p e s m args below meth c s₁ B hml hex hv
  obtain ⟨rfl, hPZ⟩ := hv
  have hPX := hPZ.1
  have hx := B.exec
  have hb := B.bytes
  have hr := B.returns
  have hts := atoms_spec (ws := wsX4_demandPlace) B.pre
  have hown : s.vm.findClass RX4 = some m.cls := findClass_of_methodNamed B.named
  have hlocks := B.notSynchronized
  have hat_in : ∀ w ∈ (vx_atS RX4 306 IX xNames).filter goodWord, w ∈ wsX4_demandPlace := by decide +kernel
  have hX := WX.of hPX
  have hl := lv_entry ([.ref (ad (3 * i)), .int x9]) (n := 2) (Nat.le_of_ble_eq_true rfl)
  rw [lg_entry_eq]
  generalize (lg_sl ([.ref (ad (3 * i)), .int x9]) ++ List.replicate (2 - (lg_sl ([.ref (ad (3 * i)), .int x9])).length) Slot.unset).toArray = ls at hl ⊢
  have hl : lv_has ls 2 [(0, .ref (ad (3 * i))), (1, .int x9)] := hl
  show W p l e ({ frames := 6, cells := 1, slots := 6, locals := 82 } : Room) s m ([.ref (ad (3 * i)), .int x9]).toArray below meth c s.heap [] 0 0 (vx_MQ below (fun _ _ _ _ => False) (XQ dC dI ad S IX) ([.ref (ad (3 * i)), .int x9]).toArray s 1 6 (fun _ => False)) (F0 m 0 ls [])
  refine lv_iload_n hx hb dX4_demandPlace_0 rfl (lv_at hl 1 rfl) ?_
  refine lv_if_lt (tgt := 12) hx hb dX4_demandPlace_1 (by decide) (fun k_1 => ?_) (fun k_1 => ?_)
  · skip
    exact kx_throw hx hb hst hown xFitX xFitN (hts (.classLink RX4 302 IX) (tm 477 (by decide +kernel) rfl)) (hts (.initialized IX) (tm 478 (by decide +kernel) rfl)) (hPZ.2.1.2.2 (309, "no such place") (by decide)) (vx_hat (fun w hw => hts w (hat_in w hw)) xBadX_ok hPZ.2.1.badX) xGoodX hPZ.2.2 hPX (by rw [hml]; exact hl.1) dX4_demandPlace_12 dX4_demandPlace_15 dX4_demandPlace_16 dX4_demandPlace_19 dX4_demandPlace_22 hex (by decide) (by decide) (by decide) (by decide) hlocks
  · skip
    refine lv_iload_n hx hb dX4_demandPlace_4 rfl (lv_at hl 1 rfl) ?_
    refine lv_aload_n hx hb dX4_demandPlace_5 rfl (lv_at hl 0 rfl) ?_
    refine kx_cr (v := nI ((S.1 i).2.2)) (va_runV (As := []) (rest := [.int x9]) ⟨hx, hb, hml, hown, hts⟩ (m_X2_length l dC dI ad S i (by omega)) (cwV 0 hts gX4_demandPlace_X2_length rfl rfl rfl hdX2_length_0 ⟨Nat.le_of_ble_eq_true rfl, Nat.le_of_ble_eq_true rfl⟩) (hX.preRow (by omega)) rfl rfl hl.1 rfl (lv_room (Nat.le_of_ble_eq_true rfl)) dX4_demandPlace_6 ⟨Nat.le_of_ble_eq_true rfl, Nat.le_of_ble_eq_true rfl⟩) (fun _ h => h) ?_
    refine lv_icmp_lt (tgt := 23) hx hb dX4_demandPlace_9 (by decide) (fun k_2 => absurd k_2 (ix_no hb9 k_1)) (fun k_2 => ?_)
    exact kx_throw hx hb hst hown xFitX xFitN (hts (.classLink RX4 302 IX) (tm 477 (by decide +kernel) rfl)) (hts (.initialized IX) (tm 478 (by decide +kernel) rfl)) (hPZ.2.1.2.2 (309, "no such place") (by decide)) (vx_hat (fun w hw => hts w (hat_in w hw)) xBadX_ok hPZ.2.1.badX) xGoodX hPZ.2.2 hPX (by rw [hml]; exact hl.1) dX4_demandPlace_12 dX4_demandPlace_15 dX4_demandPlace_16 dX4_demandPlace_19 dX4_demandPlace_22 hex (by decide) (by decide) (by decide) (by decide) hlocks
set_option maxHeartbeats 4000000 in
set_option maxRecDepth 100000 in
theorem t_X4_demandGap (l : Launch) (hst : l.stackTraces = false) (dC : Nat → ClassId) (dI : Nat → Nat → Nat) (ad : Nat → Nat) (S : XS) (i : Nat) (x9 : Int32) (hi : i < 8) (hn : (S.1 i).2.2 ≤ 16) (hb9 : x9 < 0 ∨ nI (S.1 i).2.2 < x9) : vx_Met l yX4_demandGap wsX4_demandGap ({ frames := 6, cells := 1, slots := 6, locals := 82 } : Room) (va_Pc [.ref (ad (3 * i)), .int x9] (PXZ dC dI ad S)) (fun _ _ _ _ => False) (XQ dC dI ad S IX) 1 6 (fun _ => False) := by
  refine vx_ofW (cc := cX4_demandGap) (maxL := 2) (ret := none) (by decide) rfl ?_
  intro p e s m args below meth c s₁ B hml hex hv
  obtain ⟨rfl, hPZ⟩ := hv
  have hPX := hPZ.1
  have hx := B.exec
  have hb := B.bytes
  have hr := B.returns
  have hts := atoms_spec (ws := wsX4_demandGap) B.pre
  have hown : s.vm.findClass RX4 = some m.cls := findClass_of_methodNamed B.named
  have hlocks := B.notSynchronized
  have hat_in : ∀ w ∈ (vx_atS RX4 306 IX xNames).filter goodWord, w ∈ wsX4_demandGap := by decide +kernel
  have hX := WX.of hPX
  have hl := lv_entry ([.ref (ad (3 * i)), .int x9]) (n := 2) (Nat.le_of_ble_eq_true rfl)
  rw [lg_entry_eq]
  generalize (lg_sl ([.ref (ad (3 * i)), .int x9]) ++ List.replicate (2 - (lg_sl ([.ref (ad (3 * i)), .int x9])).length) Slot.unset).toArray = ls at hl ⊢
  have hl : lv_has ls 2 [(0, .ref (ad (3 * i))), (1, .int x9)] := hl
  show W p l e ({ frames := 6, cells := 1, slots := 6, locals := 82 } : Room) s m ([.ref (ad (3 * i)), .int x9]).toArray below meth c s.heap [] 0 0 (vx_MQ below (fun _ _ _ _ => False) (XQ dC dI ad S IX) ([.ref (ad (3 * i)), .int x9]).toArray s 1 6 (fun _ => False)) (F0 m 0 ls [])
  refine lv_iload_n hx hb dX4_demandGap_0 rfl (lv_at hl 1 rfl) ?_
  refine lv_if_lt (tgt := 12) hx hb dX4_demandGap_1 (by decide) (fun k_1 => ?_) (fun k_1 => ?_)
  · skip
    exact kx_throw hx hb hst hown xFitX xFitN (hts (.classLink RX4 302 IX) (tm 477 (by decide +kernel) rfl)) (hts (.initialized IX) (tm 478 (by decide +kernel) rfl)) (hPZ.2.1.2.2 (309, "no such place") (by decide)) (vx_hat (fun w hw => hts w (hat_in w hw)) xBadX_ok hPZ.2.1.badX) xGoodX hPZ.2.2 hPX (by rw [hml]; exact hl.1) dX4_demandGap_12 dX4_demandGap_15 dX4_demandGap_16 dX4_demandGap_19 dX4_demandGap_22 hex (by decide) (by decide) (by decide) (by decide) hlocks
  · skip
    refine lv_iload_n hx hb dX4_demandGap_4 rfl (lv_at hl 1 rfl) ?_
    refine lv_aload_n hx hb dX4_demandGap_5 rfl (lv_at hl 0 rfl) ?_
    refine kx_cr (v := nI ((S.1 i).2.2)) (va_runV (As := []) (rest := [.int x9]) ⟨hx, hb, hml, hown, hts⟩ (m_X2_length l dC dI ad S i (by omega)) (cwV 0 hts gX4_demandGap_X2_length rfl rfl rfl hdX2_length_0 ⟨Nat.le_of_ble_eq_true rfl, Nat.le_of_ble_eq_true rfl⟩) (hX.preRow (by omega)) rfl rfl hl.1 rfl (lv_room (Nat.le_of_ble_eq_true rfl)) dX4_demandGap_6 ⟨Nat.le_of_ble_eq_true rfl, Nat.le_of_ble_eq_true rfl⟩) (fun _ h => h) ?_
    refine lv_icmp_le (tgt := 23) hx hb dX4_demandGap_9 (by decide) (fun k_2 => absurd k_2 (ix_no2 hb9 k_1)) (fun k_2 => ?_)
    exact kx_throw hx hb hst hown xFitX xFitN (hts (.classLink RX4 302 IX) (tm 477 (by decide +kernel) rfl)) (hts (.initialized IX) (tm 478 (by decide +kernel) rfl)) (hPZ.2.1.2.2 (309, "no such place") (by decide)) (vx_hat (fun w hw => hts w (hat_in w hw)) xBadX_ok hPZ.2.1.badX) xGoodX hPZ.2.2 hPX (by rw [hml]; exact hl.1) dX4_demandGap_12 dX4_demandGap_15 dX4_demandGap_16 dX4_demandGap_19 dX4_demandGap_22 hex (by decide) (by decide) (by decide) (by decide) hlocks
set_option maxHeartbeats 4000000 in
set_option maxRecDepth 100000 in
theorem m_X4_demandWithin (l : Launch) (dC : Nat → ClassId) (dI : Nat → Nat → Nat) (ad : Nat → Nat) (S : XS) (k g : Nat) (hg : g < 1000) (hk : k ≤ g) : Met l yX4_demandWithin wsX4_demandWithin ({ frames := 0, cells := 0, slots := 0, locals := 0 } : Room) (va_Pc [.int (nI k), .int (nI g)] (PX dC dI ad S)) (va_Sv (fun _ => True)) 0 0 (fun _ => False) := by
  refine Met.ofW (cc := cX4_demandWithin) (maxL := 2) (ret := none) pl_X4 rfl ?_
  intro p e s m args below meth c s₁ B hml hv
  obtain ⟨rfl, hPX⟩ := hv
  have hx := B.exec
  have hb := B.bytes
  have hr := B.returns
  have hts := atoms_spec (ws := wsX4_demandWithin) B.pre
  have hown : s.vm.findClass RX4 = some m.cls := findClass_of_methodNamed B.named
  have hlocks := B.notSynchronized
  have hX := WX.of hPX
  have hl := lv_entry ([.int (nI k), .int (nI g)]) (n := 2) (Nat.le_of_ble_eq_true rfl)
  rw [lg_entry_eq]
  generalize (lg_sl ([.int (nI k), .int (nI g)]) ++ List.replicate (2 - (lg_sl ([.int (nI k), .int (nI g)])).length) Slot.unset).toArray = ls at hl ⊢
  have hl : lv_has ls 2 [(0, .int (nI k)), (1, .int (nI g))] := hl
  show W p l e ({ frames := 0, cells := 0, slots := 0, locals := 0 } : Room) s m ([.int (nI k), .int (nI g)]).toArray below meth c s.heap [] 0 0 (MQ below (va_Sv (fun _ => True)) ([.int (nI k), .int (nI g)]).toArray s 0 0 (fun _ => False)) (F0 m 0 ls [])
  refine lv_iload_n hx hb dX4_demandWithin_0 rfl (lv_at hl 0 rfl) ?_
  refine kn_if_lt (tgt := 9) hx hb (by omega) dX4_demandWithin_1 (by decide) ?_
  refine lv_iload_n hx hb dX4_demandWithin_4 rfl (lv_at hl 0 rfl) ?_
  refine lv_iload_n hx hb dX4_demandWithin_5 rfl (lv_at hl 1 rfl) ?_
  refine kn_icmp_le (tgt := 20) hx hb (by omega) (by omega) dX4_demandWithin_6 (by decide) (fun k_2 => ?_) (fun k_2 => absurd k_2 (by omega))
  exact W.vret hx hb hr (fun t9 ht9 hW9 => ⟨rfl, trivial, ht9⟩) (fun _ h => nomatch h) dX4_demandWithin_20
set_option maxHeartbeats 4000000 in
set_option maxRecDepth 100000 in
theorem t_X4_demandWithin (l : Launch) (hst : l.stackTraces = false) (dC : Nat → ClassId) (dI : Nat → Nat → Nat) (ad : Nat → Nat) (S : XS) (x9 : Int32) (g : Nat) (hg : g < 1000) (hb9 : x9 < 0 ∨ nI g < x9) : vx_Met l yX4_demandWithin wsX4_demandWithin ({ frames := 6, cells := 1, slots := 6, locals := 82 } : Room) (va_Pc [.int x9, .int (nI g)] (PXZ dC dI ad S)) (fun _ _ _ _ => False) (XQ dC dI ad S IA) 1 6 (fun _ => False) := by
  refine vx_ofW (cc := cX4_demandWithin) (maxL := 2) (ret := none) (by decide) rfl ?_
  intro p e s m args below meth c s₁ B hml hex hv
  obtain ⟨rfl, hPZ⟩ := hv
  have hPX := hPZ.1
  have hx := B.exec
  have hb := B.bytes
  have hr := B.returns
  have hts := atoms_spec (ws := wsX4_demandWithin) B.pre
  have hown : s.vm.findClass RX4 = some m.cls := findClass_of_methodNamed B.named
  have hlocks := B.notSynchronized
  have hat_in : ∀ w ∈ (vx_atS RX4 140 IA xNames).filter goodWord, w ∈ wsX4_demandWithin := by decide +kernel
  have hX := WX.of hPX
  have hl := lv_entry ([.int x9, .int (nI g)]) (n := 2) (Nat.le_of_ble_eq_true rfl)
  rw [lg_entry_eq]
  generalize (lg_sl ([.int x9, .int (nI g)]) ++ List.replicate (2 - (lg_sl ([.int x9, .int (nI g)])).length) Slot.unset).toArray = ls at hl ⊢
  have hl : lv_has ls 2 [(0, .int x9), (1, .int (nI g))] := hl
  show W p l e ({ frames := 6, cells := 1, slots := 6, locals := 82 } : Room) s m ([.int x9, .int (nI g)]).toArray below meth c s.heap [] 0 0 (vx_MQ below (fun _ _ _ _ => False) (XQ dC dI ad S IA) ([.int x9, .int (nI g)]).toArray s 1 6 (fun _ => False)) (F0 m 0 ls [])
  refine lv_iload_n hx hb dX4_demandWithin_0 rfl (lv_at hl 0 rfl) ?_
  refine lv_if_lt (tgt := 9) hx hb dX4_demandWithin_1 (by decide) (fun k_1 => ?_) (fun k_1 => ?_)
  · skip
    exact kx_throw hx hb hst hown xFitA xFitN (hts (.classLink RX4 136 IA) (tm 485 (by decide +kernel) rfl)) (hts (.initialized IA) (tm 486 (by decide +kernel) rfl)) (hPZ.2.1.2.2 (311, "a number is out of its bounds") (by decide)) (vx_hat (fun w hw => hts w (hat_in w hw)) xBadA_ok hPZ.2.1.badA) xGoodA hPZ.2.2 hPX (by rw [hml]; exact hl.1) dX4_demandWithin_9 dX4_demandWithin_12 dX4_demandWithin_13 dX4_demandWithin_16 dX4_demandWithin_19 hex (by decide) (by decide) (by decide) (by decide) hlocks
  · skip
    refine lv_iload_n hx hb dX4_demandWithin_4 rfl (lv_at hl 0 rfl) ?_
    refine lv_iload_n hx hb dX4_demandWithin_5 rfl (lv_at hl 1 rfl) ?_
    refine lv_icmp_le (tgt := 20) hx hb dX4_demandWithin_6 (by decide) (fun k_2 => absurd k_2 (ix_no2 hb9 k_1)) (fun k_2 => ?_)
    exact kx_throw hx hb hst hown xFitA xFitN (hts (.classLink RX4 136 IA) (tm 485 (by decide +kernel) rfl)) (hts (.initialized IA) (tm 486 (by decide +kernel) rfl)) (hPZ.2.1.2.2 (311, "a number is out of its bounds") (by decide)) (vx_hat (fun w hw => hts w (hat_in w hw)) xBadA_ok hPZ.2.1.badA) xGoodA hPZ.2.2 hPX (by rw [hml]; exact hl.1) dX4_demandWithin_9 dX4_demandWithin_12 dX4_demandWithin_13 dX4_demandWithin_16 dX4_demandWithin_19 hex (by decide) (by decide) (by decide) (by decide) hlocks
set_option maxHeartbeats 4000000 in
set_option maxRecDepth 100000 in
theorem m_X4_demandValue (l : Launch) (dC : Nat → ClassId) (dI : Nat → Nat → Nat) (ad : Nat → Nat) (S : XS) (k : Nat) (hk : k < 16) : Met l yX4_demandValue wsX4_demandValue ({ frames := 1, cells := 0, slots := 0, locals := 21 } : Room) (va_Pc [.int (nI k)] (PX dC dI ad S)) (va_Sv (fun _ => True)) 0 0 (fun _ => False) := by
  refine Met.ofW (cc := cX4_demandValue) (maxL := 1) (ret := none) pl_X4 rfl ?_
  intro p e s m args below meth c s₁ B hml hv
  obtain ⟨rfl, hPX⟩ := hv
  have hx := B.exec
  have hb := B.bytes
  have hr := B.returns
  have hts := atoms_spec (ws := wsX4_demandValue) B.pre
  have hown : s.vm.findClass RX4 = some m.cls := findClass_of_methodNamed B.named
  have hlocks := B.notSynchronized
  have hX := WX.of hPX
  have hl := lv_entry ([.int (nI k)]) (n := 1) (Nat.le_of_ble_eq_true rfl)
  rw [lg_entry_eq]
  generalize (lg_sl ([.int (nI k)]) ++ List.replicate (1 - (lg_sl ([.int (nI k)])).length) Slot.unset).toArray = ls at hl ⊢
  have hl : lv_has ls 1 [(0, .int (nI k))] := hl
  show W p l e ({ frames := 1, cells := 0, slots := 0, locals := 21 } : Room) s m ([.int (nI k)]).toArray below meth c s.heap [] 0 0 (MQ below (va_Sv (fun _ => True)) ([.int (nI k)]).toArray s 0 0 (fun _ => False)) (F0 m 0 ls [])
  refine lv_iload_n hx hb dX4_demandValue_0 rfl (lv_at hl 0 rfl) ?_
  refine lv_bipush (v := nI 15) hx hb dX4_demandValue_1 (by decide) ?_
  refine va_csv (va_Run.run (va_runS (As := [.int (nI k), .int (nI 15)]) (rest := []) ⟨hx, hb, hml, hown, hts⟩ (m_X4_demandWithin l dC dI ad S k 15 (by omega) (by omega)) (va_cwS 2 hts gX4_demandValue_X4_demandWithin rfl rfl rfl hdX4_demandWithin_2.2 ⟨Nat.le_of_ble_eq_true rfl, Nat.le_of_ble_eq_true rfl⟩) hX.preS rfl rfl hl.1 rfl (lv_room (Nat.le_of_ble_eq_true rfl)) dX4_demandValue_3 ⟨Nat.le_of_ble_eq_true rfl, Nat.le_of_ble_eq_true rfl⟩)) (fun _ => ?_)
  exact W.vret hx hb hr (fun t9 ht9 hW9 => ⟨rfl, trivial, ht9⟩) (fun _ h => nomatch h) dX4_demandValue_6
set_option maxHeartbeats 4000000 in
set_option maxRecDepth 100000 in
theorem t_X4_demandValue (l : Launch) (hst : l.stackTraces = false) (dC : Nat → ClassId) (dI : Nat → Nat → Nat) (ad : Nat → Nat) (S : XS) (x9 : Int32) (hb9 : x9 < 0 ∨ nI 15 < x9) : vx_Met l yX4_demandValue wsX4_demandValue ({ frames := 7, cells := 1, slots := 6, locals := 103 } : Room) (va_Pc [.int x9] (PXZ dC dI ad S)) (fun _ _ _ _ => False) (XQ dC dI ad S IA) 1 6 (fun _ => False) := by
  refine vx_ofW (cc := cX4_demandValue) (maxL := 1) (ret := none) (by decide) rfl ?_
  intro p e s m args below meth c s₁ B hml hex hv
  obtain ⟨rfl, hPZ⟩ := hv
  have hPX := hPZ.1
  have hx := B.exec
  have hb := B.bytes
  have hr := B.returns
  have hts := atoms_spec (ws := wsX4_demandValue) B.pre
  have hown : s.vm.findClass RX4 = some m.cls := findClass_of_methodNamed B.named
  have hlocks := B.notSynchronized
  have hX := WX.of hPX
  have hl := lv_entry ([.int x9]) (n := 1) (Nat.le_of_ble_eq_true rfl)
  rw [lg_entry_eq]
  generalize (lg_sl ([.int x9]) ++ List.replicate (1 - (lg_sl ([.int x9])).length) Slot.unset).toArray = ls at hl ⊢
  have hl : lv_has ls 1 [(0, .int x9)] := hl
  show W p l e ({ frames := 7, cells := 1, slots := 6, locals := 103 } : Room) s m ([.int x9]).toArray below meth c s.heap [] 0 0 (vx_MQ below (fun _ _ _ _ => False) (XQ dC dI ad S IA) ([.int x9]).toArray s 1 6 (fun _ => False)) (F0 m 0 ls [])
  refine lv_iload_n hx hb dX4_demandValue_0 rfl (lv_at hl 0 rfl) ?_
  refine lv_bipush (v := nI 15) hx hb dX4_demandValue_1 (by decide) ?_
  exact kx_pass (vx_runS (As := [.int x9, .int (nI 15)]) (rest := []) ⟨hx, hb, hml, hown, hts⟩ (t_X4_demandWithin l hst dC dI ad S x9 15 (by omega) hb9) (va_cwS 2 hts gX4_demandValue_X4_demandWithin rfl rfl rfl hdX4_demandWithin_2.2 ⟨Nat.le_of_ble_eq_true rfl, Nat.le_of_ble_eq_true rfl⟩) hPZ.preS rfl rfl hl.1 rfl (lv_room (Nat.le_of_ble_eq_true rfl)) dX4_demandValue_3 ⟨Nat.le_of_ble_eq_true rfl, Nat.le_of_ble_eq_true rfl⟩) hPX hex hlocks
set_option maxHeartbeats 4000000 in
set_option maxRecDepth 100000 in
theorem m_X4_refuse (l : Launch) (dC : Nat → ClassId) (dI : Nat → Nat → Nat) (ad : Nat → Nat) (S : XS) : Met l yX4_refuse wsX4_refuse ({ frames := 0, cells := 0, slots := 0, locals := 0 } : Room) (va_Pc [.ref (ad 57)] (PX dC dI ad S)) (va_Qi (fun r S' => r = -9 ∧ S' = xN S (S.2.2.1, S.2.2.2.1 + 1, S.2.2.2.2)) (PX dC dI ad) (AX ad)) 0 0 (AX ad) := by
  refine Met.ofW (cc := cX4_refuse) (maxL := 1) (ret := (some .int)) pl_X4 rfl ?_
  intro p e s m args below meth c s₁ B hml hv
  obtain ⟨rfl, hPX⟩ := hv
  have hx := B.exec
  have hb := B.bytes
  have hr := B.returns
  have hts := atoms_spec (ws := wsX4_refuse) B.pre
  have hown : s.vm.findClass RX4 = some m.cls := findClass_of_methodNamed B.named
  have hlocks := B.notSynchronized
  have hin4 : ∀ w ∈ u_ws RX4 TX4 9, w ∈ wsX4_refuse := tu 1328 (by decide +kernel) rfl
  have hX := WX.of hPX
  have hl := lv_entry ([.ref (ad 57)]) (n := 1) (Nat.le_of_ble_eq_true rfl)
  rw [lg_entry_eq]
  generalize (lg_sl ([.ref (ad 57)]) ++ List.replicate (1 - (lg_sl ([.ref (ad 57)])).length) Slot.unset).toArray = ls at hl ⊢
  have hl : lv_has ls 1 [(0, .ref (ad 57))] := hl
  show W p l e ({ frames := 0, cells := 0, slots := 0, locals := 0 } : Room) s m ([.ref (ad 57)]).toArray below meth c s.heap [] 0 0 (MQ below (va_Qi (fun r S' => r = -9 ∧ S' = xN S (S.2.2.1, S.2.2.2.1 + 1, S.2.2.2.2)) (PX dC dI ad) (AX ad)) ([.ref (ad 57)]).toArray s 0 0 (AX ad)) (F0 m 0 ls [])
  refine lv_aload_n hx hb dX4_refuse_0 rfl (lv_at hl 0 rfl) ?_
  refine lv_dup hx hb dX4_refuse_1 rfl ?_
  refine kx_gref (n := S.2.2.2.1) hx hb hts hin4 hown hX rfl (hts (.fieldLink RX4 49 "Orderlattice" "refusals" "I") (tm 456 (by decide +kernel) rfl)) dX4_refuse_2 ?_
  refine lv_iconst (v := nI 1) hx hb dX4_refuse_5 (by decide) ?_
  refine kn_iadd hx hb dX4_refuse_6 ?_
  refine kx_pref (S' := (xN S (S.2.2.1, S.2.2.2.1 + 1, S.2.2.2.2))) hx hb hts hin4 hown hX rfl (hts (.fieldLink RX4 49 "Orderlattice" "refusals" "I") (tm 456 (by decide +kernel) rfl)) dX4_refuse_7 (fun H locs hX => ?_)
  refine lv_bipush (v := (-9)) hx hb dX4_refuse_10 (by decide) ?_
  exact W.iret (v := (-9)) hx hb hr (fun t9 ht9 hW9 => ⟨⟨_, (xN S (S.2.2.1, S.2.2.2.1 + 1, S.2.2.2.2)), rfl, ⟨rfl, rfl⟩, hX.P ht9 hW9⟩, hX.2.2.2.F ht9⟩) hX.2.2.2.2.2 dX4_refuse_12
set_option maxHeartbeats 4000000 in
set_option maxRecDepth 100000 in
theorem m_X4_nextMark (l : Launch) (dC : Nat → ClassId) (dI : Nat → Nat → Nat) (ad : Nat → Nat) (S : XS) : Met l yX4_nextMark wsX4_nextMark ({ frames := 0, cells := 0, slots := 0, locals := 0 } : Room) (va_Pc [.ref (ad 57)] (PX dC dI ad S)) (va_Qi (fun r S' => r = nI S.2.2.1 ∧ S' = xN S (S.2.2.1 + 1, S.2.2.2.1, S.2.2.2.2)) (PX dC dI ad) (AX ad)) 0 0 (AX ad) := by
  refine Met.ofW (cc := cX4_nextMark) (maxL := 2) (ret := (some .int)) pl_X4 rfl ?_
  intro p e s m args below meth c s₁ B hml hv
  obtain ⟨rfl, hPX⟩ := hv
  have hx := B.exec
  have hb := B.bytes
  have hr := B.returns
  have hts := atoms_spec (ws := wsX4_nextMark) B.pre
  have hown : s.vm.findClass RX4 = some m.cls := findClass_of_methodNamed B.named
  have hlocks := B.notSynchronized
  have hin4 : ∀ w ∈ u_ws RX4 TX4 9, w ∈ wsX4_nextMark := tu 1328 (by decide +kernel) rfl
  have hX := WX.of hPX
  have hl := lv_entry ([.ref (ad 57)]) (n := 2) (Nat.le_of_ble_eq_true rfl)
  rw [lg_entry_eq]
  generalize (lg_sl ([.ref (ad 57)]) ++ List.replicate (2 - (lg_sl ([.ref (ad 57)])).length) Slot.unset).toArray = ls at hl ⊢
  have hl : lv_has ls 2 [(0, .ref (ad 57))] := hl
  show W p l e ({ frames := 0, cells := 0, slots := 0, locals := 0 } : Room) s m ([.ref (ad 57)]).toArray below meth c s.heap [] 0 0 (MQ below (va_Qi (fun r S' => r = nI S.2.2.1 ∧ S' = xN S (S.2.2.1 + 1, S.2.2.2.1, S.2.2.2.2)) (PX dC dI ad) (AX ad)) ([.ref (ad 57)]).toArray s 0 0 (AX ad)) (F0 m 0 ls [])
  refine lv_aload_n hx hb dX4_nextMark_0 rfl (lv_at hl 0 rfl) ?_
  refine kx_gput (n := S.2.2.1) hx hb hts hin4 hown hX rfl (hts (.fieldLink RX4 45 "Orderlattice" "marksGiven" "I") (tm 455 (by decide +kernel) rfl)) dX4_nextMark_1 ?_
  refine lv_istore_n (lv' := [(1, .int (nI S.2.2.1)), (0, .ref (ad 57))]) hx hb dX4_nextMark_4 rfl hl (by decide) rfl (fun ls hl => ?_)
  refine lv_aload_n hx hb dX4_nextMark_5 rfl (lv_at hl 1 rfl) ?_
  refine lv_dup hx hb dX4_nextMark_6 rfl ?_
  refine kx_gput (n := S.2.2.1) hx hb hts hin4 hown hX rfl (hts (.fieldLink RX4 45 "Orderlattice" "marksGiven" "I") (tm 455 (by decide +kernel) rfl)) dX4_nextMark_7 ?_
  refine lv_iconst (v := nI 1) hx hb dX4_nextMark_10 (by decide) ?_
  refine kn_iadd hx hb dX4_nextMark_11 ?_
  refine kx_pput (S' := (xN S (S.2.2.1 + 1, S.2.2.2.1, S.2.2.2.2))) hx hb hts hin4 hown hX rfl (hts (.fieldLink RX4 45 "Orderlattice" "marksGiven" "I") (tm 455 (by decide +kernel) rfl)) dX4_nextMark_12 (fun H locs hX => ?_)
  refine lv_iload_n hx hb dX4_nextMark_15 rfl (lv_at hl 0 rfl) ?_
  exact W.iret (v := nI S.2.2.1) hx hb hr (fun t9 ht9 hW9 => ⟨⟨_, (xN S (S.2.2.1 + 1, S.2.2.2.1, S.2.2.2.2)), rfl, ⟨rfl, rfl⟩, hX.P ht9 hW9⟩, hX.2.2.2.F ht9⟩) hX.2.2.2.2.2 dX4_nextMark_16
set_option maxHeartbeats 4000000 in
set_option maxRecDepth 100000 in
theorem m_X4_knock (l : Launch) (dC : Nat → ClassId) (dI : Nat → Nat → Nat) (ad : Nat → Nat) (S : XS) : Met l yX4_knock wsX4_knock ({ frames := 0, cells := 0, slots := 0, locals := 0 } : Room) (va_Pc [.ref (ad 57)] (PX dC dI ad S)) (va_Qi (fun r S' => r = nI (S.2.2.2.2 + 1) ∧ S' = xN S (S.2.2.1, S.2.2.2.1, S.2.2.2.2 + 1)) (PX dC dI ad) (AX ad)) 0 0 (AX ad) := by
  refine Met.ofW (cc := cX4_knock) (maxL := 1) (ret := (some .int)) pl_X4 rfl ?_
  intro p e s m args below meth c s₁ B hml hv
  obtain ⟨rfl, hPX⟩ := hv
  have hx := B.exec
  have hb := B.bytes
  have hr := B.returns
  have hts := atoms_spec (ws := wsX4_knock) B.pre
  have hown : s.vm.findClass RX4 = some m.cls := findClass_of_methodNamed B.named
  have hlocks := B.notSynchronized
  have hin4 : ∀ w ∈ u_ws RX4 TX4 9, w ∈ wsX4_knock := tu 1328 (by decide +kernel) rfl
  have hX := WX.of hPX
  have hl := lv_entry ([.ref (ad 57)]) (n := 1) (Nat.le_of_ble_eq_true rfl)
  rw [lg_entry_eq]
  generalize (lg_sl ([.ref (ad 57)]) ++ List.replicate (1 - (lg_sl ([.ref (ad 57)])).length) Slot.unset).toArray = ls at hl ⊢
  have hl : lv_has ls 1 [(0, .ref (ad 57))] := hl
  show W p l e ({ frames := 0, cells := 0, slots := 0, locals := 0 } : Room) s m ([.ref (ad 57)]).toArray below meth c s.heap [] 0 0 (MQ below (va_Qi (fun r S' => r = nI (S.2.2.2.2 + 1) ∧ S' = xN S (S.2.2.1, S.2.2.2.1, S.2.2.2.2 + 1)) (PX dC dI ad) (AX ad)) ([.ref (ad 57)]).toArray s 0 0 (AX ad)) (F0 m 0 ls [])
  refine lv_aload_n hx hb dX4_knock_0 rfl (lv_at hl 0 rfl) ?_
  refine lv_dup hx hb dX4_knock_1 rfl ?_
  refine kx_gkno (n := S.2.2.2.2) hx hb hts hin4 hown hX rfl (hts (.fieldLink RX4 52 "Orderlattice" "knocks" "I") (tm 457 (by decide +kernel) rfl)) dX4_knock_2 ?_
  refine lv_iconst (v := nI 1) hx hb dX4_knock_5 (by decide) ?_
  refine kn_iadd hx hb dX4_knock_6 ?_
  refine kx_pkno (S' := (xN S (S.2.2.1, S.2.2.2.1, S.2.2.2.2 + 1))) hx hb hts hin4 hown hX rfl (hts (.fieldLink RX4 52 "Orderlattice" "knocks" "I") (tm 457 (by decide +kernel) rfl)) dX4_knock_7 (fun H locs hX => ?_)
  refine lv_aload_n hx hb dX4_knock_10 rfl (lv_at hl 0 rfl) ?_
  refine kx_gkno (n := S.2.2.2.2 + 1) hx hb hts hin4 hown hX rfl (hts (.fieldLink RX4 52 "Orderlattice" "knocks" "I") (tm 457 (by decide +kernel) rfl)) dX4_knock_11 ?_
  exact W.iret (v := nI (S.2.2.2.2 + 1)) hx hb hr (fun t9 ht9 hW9 => ⟨⟨_, (xN S (S.2.2.1, S.2.2.2.1, S.2.2.2.2 + 1)), rfl, ⟨rfl, rfl⟩, hX.P ht9 hW9⟩, hX.2.2.2.F ht9⟩) hX.2.2.2.2.2 dX4_knock_14
end
