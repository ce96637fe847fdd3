section
/-! what is asked of rows -/
def seqB (c v : Nat → Nat) (n : Nat) : Bool := decide (∀ q, q < n - 1 → c (v q) ≤ c (v (q + 1)))
def firstB (c v : Nat → Nat) (k : Nat) : Bool := decide (∀ q, q < k → c (v q) ≠ c (v k))
theorem seq_s {f : Nat → Nat} {k : Nat} (h1 : 1 ≤ k) (h : ∀ q, q + 1 < k → f q ≤ f (q + 1)) (hk : f (k - 1) ≤ f k) : ∀ q, q + 1 < k + 1 → f q ≤ f (q + 1) := by
  intro q hq
  by_cases e : q + 1 = k
  · subst e
    rw [Nat.add_sub_cancel] at hk
    exact hk
  · exact h q (by omega)
def sideB (h a b : Nat) : Bool := match h with
  | 0 => decide (a < b)
  | 1 => decide (a ≤ b)
  | 2 => decide (b ≤ a)
  | _ => decide (b < a)
def nearB (h a b : Nat) : Bool := if h ≤ 1 then decide (b < a) else decide (a < b)
theorem near_lot {h a b : Nat} (hh : h ≤ 1) (h2 : b < a) : bI true = bI (nearB h a b) := by rw [nearB, if_pos hh, decide_eq_true h2]
theorem near_lof {h a b : Nat} (hh : h ≤ 1) (h2 : ¬ b < a) : bI false = bI (nearB h a b) := by rw [nearB, if_pos hh, decide_eq_false h2]
theorem near_hit {h a b : Nat} (hh : 1 < h) (h2 : a < b) : bI true = bI (nearB h a b) := by rw [nearB, if_neg (by omega), decide_eq_true h2]
theorem near_hif {h a b : Nat} (hh : 1 < h) (h2 : ¬ a < b) : bI false = bI (nearB h a b) := by rw [nearB, if_neg (by omega), decide_eq_false h2]
def rev (f : Nat → Nat) (n a : Nat) : Nat → Nat := fun k => if k < n ∧ (k < a ∨ n - 1 - k < a) then f (n - 1 - k) else f k
theorem rev_a0 (f : Nat → Nat) (n : Nat) : rev f n 0 = f := by
  funext k
  unfold rev
  rw [if_neg (by omega)]
theorem rev_z (f : Nat → Nat) {n : Nat} (h : n = 0) : rev f n n = f := by
  funext k
  unfold rev
  rw [if_neg (by omega)]
theorem rev_end (f : Nat → Nat) {n a : Nat} (h : n - 1 - a ≤ a) : rev f n a = rev f n n := by
  funext k
  unfold rev
  by_cases hk : k < n
  · rw [if_pos (show k < n ∧ (k < n ∨ n - 1 - k < n) by omega)]
    by_cases h2 : k < n ∧ (k < a ∨ n - 1 - k < a)
    · rw [if_pos h2]
    · rw [if_neg h2, show n - 1 - k = k by omega]
  · rw [if_neg (by omega), if_neg (by omega)]
theorem rev_up (f : Nat → Nat) {n a : Nat} (h : a < n - 1 - a) : xch (rev f n a) a (n - 1 - a) = rev f n (a + 1) := by
  funext k
  unfold xch va_up
  by_cases h1 : k = n - 1 - a
  · subst h1
    rw [if_pos rfl]
    unfold rev
    rw [if_neg (by omega), if_pos (by omega), show n - 1 - (n - 1 - a) = a by omega]
  · rw [if_neg h1]
    by_cases h2 : k = a
    · subst h2
      rw [if_pos rfl]
      unfold rev
      rw [if_neg (by omega), if_pos (by omega)]
    · rw [if_neg h2]
      unfold rev
      by_cases h3 : k < n ∧ (k < a ∨ n - 1 - k < a)
      · rw [if_pos h3, if_pos (by omega)]
      · rw [if_neg h3, if_neg (by omega)]
theorem nI_nm1 {k : Nat} (h : k < 2 ^ 31) : ¬ nI k = (-1) := fun e => absurd (show nI k < 0 by rw [e]; decide) (nI_pos h)
set_option maxHeartbeats 4000000 in
set_option maxRecDepth 100000 in
theorem m_X2_placesUnlike (l : Launch) (dC : Nat → ClassId) (dI : Nat → Nat → Nat) (ad : Nat → Nat) (S : XS) (i t : Nat) (hi : i < 8) (ht : t < 8) (hro : rowOK (S.1 i)) (hro2 : rowOK (S.1 t)) : Met l yX2_placesUnlike wsX2_placesUnlike ({ frames := 1, cells := 0, slots := 0, locals := 21 } : Room) (va_Pc [.ref (ad (3 * i)), .ref (ad (3 * t))] (PX dC dI ad S)) (vp_Si (fun r => r = nI (cntB (fun k => decide ((S.1 i).2.1 k ≠ (S.1 t).2.1 k)) (S.1 i).2.2))) 0 0 (fun _ => False) := by
  refine Met.ofW (cc := cX2_placesUnlike) (maxL := 4) (ret := (some .int)) pl_X2 rfl ?_
  intro p e s m args below meth c s₁ B hml hv
  obtain ⟨rfl, hPX⟩ := hv
  have hx := B.exec
  have hb := B.bytes
  have hr := B.returns
  have hts := atoms_spec (ws := wsX2_placesUnlike) B.pre
  have hown : s.vm.findClass RX2 = some m.cls := findClass_of_methodNamed B.named
  have hlocks := B.notSynchronized
  have hin2 : ∀ w ∈ u_ws RX2 TX2 3, w ∈ wsX2_placesUnlike := tu 1322 (by decide +kernel) rfl
  have hX := WX.of hPX
  have hl := lv_entry ([.ref (ad (3 * i)), .ref (ad (3 * t))]) (n := 4) (Nat.le_of_ble_eq_true rfl)
  rw [lg_entry_eq]
  generalize (lg_sl ([.ref (ad (3 * i)), .ref (ad (3 * t))]) ++ List.replicate (4 - (lg_sl ([.ref (ad (3 * i)), .ref (ad (3 * t))])).length) Slot.unset).toArray = ls at hl ⊢
  have hl : lv_has ls 4 [(0, .ref (ad (3 * i))), (1, .ref (ad (3 * t)))] := hl
  show W p l e ({ frames := 1, cells := 0, slots := 0, locals := 21 } : Room) s m ([.ref (ad (3 * i)), .ref (ad (3 * t))]).toArray below meth c s.heap [] 0 0 (MQ below (vp_Si (fun r => r = nI (cntB (fun k => decide ((S.1 i).2.1 k ≠ (S.1 t).2.1 k)) (S.1 i).2.2))) ([.ref (ad (3 * i)), .ref (ad (3 * t))]).toArray s 0 0 (fun _ => False)) (F0 m 0 ls [])
  have hn := hro.1
  have hm := fun k hk => (hro.2 k hk).2
  have hm2 := fun k hk => (hro2.2 k hk).2
  refine lv_iconst (v := nI 0) hx hb dX2_placesUnlike_0 (by decide) ?_
  refine lv_istore_n (lv' := [(2, .int (nI 0)), (0, .ref (ad (3 * i))), (1, .ref (ad (3 * t)))]) hx hb dX2_placesUnlike_1 rfl hl (by decide) rfl (fun ls hl => ?_)
  refine lv_iconst (v := nI 0) hx hb dX2_placesUnlike_2 (by decide) ?_
  refine lv_istore_n (lv' := [(3, .int (nI 0)), (2, .int (nI 0)), (0, .ref (ad (3 * i))), (1, .ref (ad (3 * t)))]) hx hb dX2_placesUnlike_3 rfl hl (by decide) rfl (fun ls hl => ?_)
  have loop4 : ∀ (fuel : Nat) (q k : Nat) (hk : k ≤ (S.1 i).2.2) (hq : q = cntB (fun k => decide ((S.1 i).2.1 k ≠ (S.1 t).2.1 k)) k), (S.1 i).2.2 - k < fuel → ∀ ls : Array Slot, lv_has ls 4 [(0, .ref (ad (3 * i))), (1, .ref (ad (3 * t))), (2, .int (nI q)), (3, .int (nI k))] → W p l e ({ frames := 1, cells := 0, slots := 0, locals := 21 } : Room) s m ([.ref (ad (3 * i)), .ref (ad (3 * t))]).toArray below meth c s.heap [] 0 0 (MQ below (vp_Si (fun r => r = nI (cntB (fun k => decide ((S.1 i).2.1 k ≠ (S.1 t).2.1 k)) (S.1 i).2.2))) ([.ref (ad (3 * i)), .ref (ad (3 * t))]).toArray s 0 0 (fun _ => False)) (F0 m 4 ls []) := by
    intro fuel
    induction fuel with
    | zero => intro q k hk hq hf; exact absurd hf (Nat.not_lt_zero _)
    | succ fuel ih4 =>
      intro q k hk hq hf ls hl
      refine lv_iload_n hx hb dX2_placesUnlike_4 rfl (lv_at hl 3 rfl) ?_
      refine lv_aload_n hx hb dX2_placesUnlike_5 rfl (lv_at hl 0 rfl) ?_
      refine kr_gn (n := (S.1 i).2.2) hx hb hts hin2 hown hX hi rfl (hts (.fieldLink RX2 18 "Orderlattice$Row" "many" "I") (tm 27 (by decide +kernel) rfl)) dX2_placesUnlike_6 ?_
      refine kn_icmp_ge (tgt := 34) hx hb (by omega) (by omega) dX2_placesUnlike_9 (by decide) (fun c1 => ?_) (fun c1 => ?_)
      · skip
        refine lv_iload_n hx hb dX2_placesUnlike_34 rfl (lv_at hl 2 rfl) ?_
        exact W.iret (v := nI q) hx hb hr (fun t9 ht9 hW9 => ⟨_, rfl, (by rw [hq, show k = (S.1 i).2.2 by omega]), ht9⟩) (fun _ h => nomatch h) dX2_placesUnlike_35
      · skip
        refine lv_aload_n hx hb dX2_placesUnlike_12 rfl (lv_at hl 0 rfl) ?_
        refine lv_iload_n hx hb dX2_placesUnlike_13 rfl (lv_at hl 3 rfl) ?_
        refine kx_cr (v := nI (((S.1 i).2.1) k)) (va_runV (As := [.int (nI k)]) (rest := []) ⟨hx, hb, hml, hown, hts⟩ (m_X2_markOn l dC dI ad S i k hi (by omega)) (cwV 1 hts gX2_placesUnlike_X2_markOn rfl rfl rfl hdX2_markOn_1 ⟨Nat.le_of_ble_eq_true rfl, Nat.le_of_ble_eq_true rfl⟩) (hX.preRow hi) rfl rfl hl.1 rfl (lv_room (Nat.le_of_ble_eq_true rfl)) dX2_placesUnlike_14 ⟨Nat.le_of_ble_eq_true rfl, Nat.le_of_ble_eq_true rfl⟩) (fun _ h => h) ?_
        refine lv_aload_n hx hb dX2_placesUnlike_17 rfl (lv_at hl 1 rfl) ?_
        refine lv_iload_n hx hb dX2_placesUnlike_18 rfl (lv_at hl 3 rfl) ?_
        refine kx_cr (v := nI (((S.1 t).2.1) k)) (va_runV (As := [.int (nI k)]) (rest := [.int (nI (((S.1 i).2.1) k))]) ⟨hx, hb, hml, hown, hts⟩ (m_X2_markOn l dC dI ad S t k ht (by omega)) (cwV 1 hts gX2_placesUnlike_X2_markOn rfl rfl rfl hdX2_markOn_1 ⟨Nat.le_of_ble_eq_true rfl, Nat.le_of_ble_eq_true rfl⟩) (hX.preRow ht) rfl rfl hl.1 rfl (lv_room (Nat.le_of_ble_eq_true rfl)) dX2_placesUnlike_19 ⟨Nat.le_of_ble_eq_true rfl, Nat.le_of_ble_eq_true rfl⟩) (fun _ h => h) ?_
        have h1 := hm k (by omega)
        have h2 := hm2 k (by omega)
        refine kn_icmp_eq (tgt := 28) hx hb (by omega) (by omega) dX2_placesUnlike_22 (by decide) (fun c2 => ?_) (fun c2 => ?_)
        · skip
          have hc := c2
          refine lv_iinc (v := nI (k + 1)) (lv' := [(3, .int (nI (k + 1))), (0, .ref (ad (3 * i))), (1, .ref (ad (3 * t))), (2, .int (nI q))]) hx hb dX2_placesUnlike_28 hl (k := 3) rfl (nI_1 k) (by decide) rfl (fun ls hl => ?_)
          refine lv_goto (tgt := 4) hx hb dX2_placesUnlike_31 (by decide) ?_
          exact ih4  q (k + 1) (by omega) (by rw [cntB_f (decide_eq_false (fun z => z hc)), hq]) (by omega) _ (lv_sub hl [1, 2, 3, 0] rfl)
        · skip
          have hc := c2
          refine lv_iinc (v := nI (q + 1)) (lv' := [(2, .int (nI (q + 1))), (0, .ref (ad (3 * i))), (1, .ref (ad (3 * t))), (3, .int (nI k))]) hx hb dX2_placesUnlike_25 hl (k := 2) rfl (nI_1 q) (by decide) rfl (fun ls hl => ?_)
          refine lv_iinc (v := nI (k + 1)) (lv' := [(3, .int (nI (k + 1))), (2, .int (nI (q + 1))), (0, .ref (ad (3 * i))), (1, .ref (ad (3 * t)))]) hx hb dX2_placesUnlike_28 hl (k := 3) rfl (nI_1 k) (by decide) rfl (fun ls hl => ?_)
          refine lv_goto (tgt := 4) hx hb dX2_placesUnlike_31 (by decide) ?_
          exact ih4  (q + 1) (k + 1) (by omega) (by rw [cntB_t (decide_eq_true hc), hq]) (by omega) _ (lv_sub hl [2, 3, 1, 0] rfl)
  exact loop4 ((S.1 i).2.2 - 0 + 1) 0 0 (by omega) rfl (by omega) _ (lv_sub hl [2, 3, 1, 0] rfl)
set_option maxHeartbeats 4000000 in
set_option maxRecDepth 100000 in
theorem m_X2_isLike (l : Launch) (dC : Nat → ClassId) (dI : Nat → Nat → Nat) (ad : Nat → Nat) (S : XS) (i t : Nat) (hi : i < 8) (ht : t < 8) (hro : rowOK (S.1 i)) (hro2 : rowOK (S.1 t)) : Met l yX2_isLike wsX2_isLike ({ frames := 1, cells := 0, slots := 0, locals := 21 } : Room) (va_Pc [.ref (ad (3 * i)), .ref (ad (3 * t))] (PX dC dI ad S)) (vp_Si (fun r => r = bI (decide ((S.1 i).2.2 = (S.1 t).2.2 ∧ ∀ k, k < (S.1 i).2.2 → (S.1 i).2.1 k = (S.1 t).2.1 k ∧ (S.1 i).1 k = (S.1 t).1 k)))) 0 0 (fun _ => False) := by
  refine Met.ofW (cc := cX2_isLike) (maxL := 3) (ret := (some .boolean)) pl_X2 rfl ?_
  intro p e s m args below meth c s₁ B hml hv
  obtain ⟨rfl, hPX⟩ := hv
  have hx := B.exec
  have hb := B.bytes
  have hr := B.returns
  have hts := atoms_spec (ws := wsX2_isLike) B.pre
  have hown : s.vm.findClass RX2 = some m.cls := findClass_of_methodNamed B.named
  have hlocks := B.notSynchronized
  have hin2 : ∀ w ∈ u_ws RX2 TX2 3, w ∈ wsX2_isLike := tu 1322 (by decide +kernel) rfl
  have hX := WX.of hPX
  have hl := lv_entry ([.ref (ad (3 * i)), .ref (ad (3 * t))]) (n := 3) (Nat.le_of_ble_eq_true rfl)
  rw [lg_entry_eq]
  generalize (lg_sl ([.ref (ad (3 * i)), .ref (ad (3 * t))]) ++ List.replicate (3 - (lg_sl ([.ref (ad (3 * i)), .ref (ad (3 * t))])).length) Slot.unset).toArray = ls at hl ⊢
  have hl : lv_has ls 3 [(0, .ref (ad (3 * i))), (1, .ref (ad (3 * t)))] := hl
  show W p l e ({ frames := 1, cells := 0, slots := 0, locals := 21 } : Room) s m ([.ref (ad (3 * i)), .ref (ad (3 * t))]).toArray below meth c s.heap [] 0 0 (MQ below (vp_Si (fun r => r = bI (decide ((S.1 i).2.2 = (S.1 t).2.2 ∧ ∀ k, k < (S.1 i).2.2 → (S.1 i).2.1 k = (S.1 t).2.1 k ∧ (S.1 i).1 k = (S.1 t).1 k)))) ([.ref (ad (3 * i)), .ref (ad (3 * t))]).toArray s 0 0 (fun _ => False)) (F0 m 0 ls [])
  have hn := hro.1
  have hn2 := hro2.1
  have hm := fun k hk => (hro.2 k hk)
  have hm2 := fun k hk => (hro2.2 k hk)
  refine lv_aload_n hx hb dX2_isLike_0 rfl (lv_at hl 0 rfl) ?_
  refine kr_gn (n := (S.1 i).2.2) hx hb hts hin2 hown hX hi rfl (hts (.fieldLink RX2 18 "Orderlattice$Row" "many" "I") (tm 27 (by decide +kernel) rfl)) dX2_isLike_1 ?_
  refine lv_aload_n hx hb dX2_isLike_4 rfl (lv_at hl 1 rfl) ?_
  refine kx_cr (v := nI ((S.1 t).2.2)) (va_runV (As := []) (rest := [.int (nI ((S.1 i).2.2))]) ⟨hx, hb, hml, hown, hts⟩ (m_X2_length l dC dI ad S t ht) (cwV 0 hts gX2_isLike_X2_length rfl rfl rfl hdX2_length_0 ⟨Nat.le_of_ble_eq_true rfl, Nat.le_of_ble_eq_true rfl⟩) (hX.preRow ht) rfl rfl hl.1 rfl (lv_room (Nat.le_of_ble_eq_true rfl)) dX2_isLike_5 ⟨Nat.le_of_ble_eq_true rfl, Nat.le_of_ble_eq_true rfl⟩) (fun _ h => h) ?_
  refine kn_icmp_eq (tgt := 13) hx hb (by omega) (by omega) dX2_isLike_8 (by decide) (fun c1 => ?_) (fun c1 => ?_)
  · skip
    have he := c1
    refine lv_iconst (v := nI 0) hx hb dX2_isLike_13 (by decide) ?_
    refine lv_istore_n (lv' := [(2, .int (nI 0)), (0, .ref (ad (3 * i))), (1, .ref (ad (3 * t)))]) hx hb dX2_isLike_14 rfl hl (by decide) rfl (fun ls hl => ?_)
    have loop15 : ∀ (fuel : Nat) (k : Nat) (hk : k ≤ (S.1 i).2.2) (hq : ∀ q, q < k → (S.1 i).2.1 q = (S.1 t).2.1 q ∧ (S.1 i).1 q = (S.1 t).1 q), (S.1 i).2.2 - k < fuel → ∀ ls : Array Slot, lv_has ls 3 [(0, .ref (ad (3 * i))), (1, .ref (ad (3 * t))), (2, .int (nI k))] → W p l e ({ frames := 1, cells := 0, slots := 0, locals := 21 } : Room) s m ([.ref (ad (3 * i)), .ref (ad (3 * t))]).toArray below meth c s.heap [] 0 0 (MQ below (vp_Si (fun r => r = bI (decide ((S.1 i).2.2 = (S.1 t).2.2 ∧ ∀ k, k < (S.1 i).2.2 → (S.1 i).2.1 k = (S.1 t).2.1 k ∧ (S.1 i).1 k = (S.1 t).1 k)))) ([.ref (ad (3 * i)), .ref (ad (3 * t))]).toArray s 0 0 (fun _ => False)) (F0 m 15 ls []) := by
      intro fuel
      induction fuel with
      | zero => intro k hk hq hf; exact absurd hf (Nat.not_lt_zero _)
      | succ fuel ih15 =>
        intro k hk hq hf ls hl
        refine lv_iload_n hx hb dX2_isLike_15 rfl (lv_at hl 2 rfl) ?_
        refine lv_aload_n hx hb dX2_isLike_16 rfl (lv_at hl 0 rfl) ?_
        refine kr_gn (n := (S.1 i).2.2) hx hb hts hin2 hown hX hi rfl (hts (.fieldLink RX2 18 "Orderlattice$Row" "many" "I") (tm 27 (by decide +kernel) rfl)) dX2_isLike_17 ?_
        refine kn_icmp_ge (tgt := 57) hx hb (by omega) (by omega) dX2_isLike_20 (by decide) (fun c2 => ?_) (fun c2 => ?_)
        · skip
          refine lv_iconst (v := nI 1) hx hb dX2_isLike_57 (by decide) ?_
          exact W.zret (v := bI true) hx hb hr (bI_narrow _) (fun t9 ht9 hW9 => ⟨_, rfl, (kd_t ⟨he, fun q h => hq q (by omega)⟩), ht9⟩) (fun _ h => nomatch h) dX2_isLike_58
        · skip
          refine lv_aload_n hx hb dX2_isLike_23 rfl (lv_at hl 0 rfl) ?_
          refine lv_iload_n hx hb dX2_isLike_24 rfl (lv_at hl 2 rfl) ?_
          refine kx_cr (v := nI (((S.1 i).2.1) k)) (va_runV (As := [.int (nI k)]) (rest := []) ⟨hx, hb, hml, hown, hts⟩ (m_X2_markOn l dC dI ad S i k hi (by omega)) (cwV 1 hts gX2_isLike_X2_markOn rfl rfl rfl hdX2_markOn_1 ⟨Nat.le_of_ble_eq_true rfl, Nat.le_of_ble_eq_true rfl⟩) (hX.preRow hi) rfl rfl hl.1 rfl (lv_room (Nat.le_of_ble_eq_true rfl)) dX2_isLike_25 ⟨Nat.le_of_ble_eq_true rfl, Nat.le_of_ble_eq_true rfl⟩) (fun _ h => h) ?_
          refine lv_aload_n hx hb dX2_isLike_28 rfl (lv_at hl 1 rfl) ?_
          refine lv_iload_n hx hb dX2_isLike_29 rfl (lv_at hl 2 rfl) ?_
          refine kx_cr (v := nI (((S.1 t).2.1) k)) (va_runV (As := [.int (nI k)]) (rest := [.int (nI (((S.1 i).2.1) k))]) ⟨hx, hb, hml, hown, hts⟩ (m_X2_markOn l dC dI ad S t k ht (by omega)) (cwV 1 hts gX2_isLike_X2_markOn rfl rfl rfl hdX2_markOn_1 ⟨Nat.le_of_ble_eq_true rfl, Nat.le_of_ble_eq_true rfl⟩) (hX.preRow ht) rfl rfl hl.1 rfl (lv_room (Nat.le_of_ble_eq_true rfl)) dX2_isLike_30 ⟨Nat.le_of_ble_eq_true rfl, Nat.le_of_ble_eq_true rfl⟩) (fun _ h => h) ?_
          have h1 := hm k (by omega)
          have h2 := hm2 k (by omega)
          refine kn_icmp_ne (tgt := 49) hx hb (by omega) (by omega) dX2_isLike_33 (by decide) (fun c3 => ?_) (fun c3 => ?_)
          · skip
            have hc := c3
            refine lv_iconst (v := nI 0) hx hb dX2_isLike_49 (by decide) ?_
            exact W.zret (v := bI false) hx hb hr (bI_narrow _) (fun t9 ht9 hW9 => ⟨_, rfl, (kd_f (fun z => hc (z.2 k (by omega)).1)), ht9⟩) (fun _ h => nomatch h) dX2_isLike_50
          · skip
            have hc := c3
            refine lv_aload_n hx hb dX2_isLike_36 rfl (lv_at hl 0 rfl) ?_
            refine lv_iload_n hx hb dX2_isLike_37 rfl (lv_at hl 2 rfl) ?_
            refine kx_cr (v := nI (((S.1 i).1) k)) (va_runV (As := [.int (nI k)]) (rest := []) ⟨hx, hb, hml, hown, hts⟩ (m_X2_valueOn l dC dI ad S i k hi (by omega)) (cwV 1 hts gX2_isLike_X2_valueOn rfl rfl rfl hdX2_valueOn_1 ⟨Nat.le_of_ble_eq_true rfl, Nat.le_of_ble_eq_true rfl⟩) (hX.preRow hi) rfl rfl hl.1 rfl (lv_room (Nat.le_of_ble_eq_true rfl)) dX2_isLike_38 ⟨Nat.le_of_ble_eq_true rfl, Nat.le_of_ble_eq_true rfl⟩) (fun _ h => h) ?_
            refine lv_aload_n hx hb dX2_isLike_41 rfl (lv_at hl 1 rfl) ?_
            refine lv_iload_n hx hb dX2_isLike_42 rfl (lv_at hl 2 rfl) ?_
            refine kx_cr (v := nI (((S.1 t).1) k)) (va_runV (As := [.int (nI k)]) (rest := [.int (nI (((S.1 i).1) k))]) ⟨hx, hb, hml, hown, hts⟩ (m_X2_valueOn l dC dI ad S t k ht (by omega)) (cwV 1 hts gX2_isLike_X2_valueOn rfl rfl rfl hdX2_valueOn_1 ⟨Nat.le_of_ble_eq_true rfl, Nat.le_of_ble_eq_true rfl⟩) (hX.preRow ht) rfl rfl hl.1 rfl (lv_room (Nat.le_of_ble_eq_true rfl)) dX2_isLike_43 ⟨Nat.le_of_ble_eq_true rfl, Nat.le_of_ble_eq_true rfl⟩) (fun _ h => h) ?_
            refine kn_icmp_eq (tgt := 51) hx hb (by omega) (by omega) dX2_isLike_46 (by decide) (fun c4 => ?_) (fun c4 => ?_)
            · skip
              have hd := c4
              refine lv_iinc (v := nI (k + 1)) (lv' := [(2, .int (nI (k + 1))), (0, .ref (ad (3 * i))), (1, .ref (ad (3 * t)))]) hx hb dX2_isLike_51 hl (k := 2) rfl (nI_1 k) (by decide) rfl (fun ls hl => ?_)
              refine lv_goto (tgt := 15) hx hb dX2_isLike_54 (by decide) ?_
              exact ih15  (k + 1) (by omega) (lt_s hq ⟨hc, hd⟩) (by omega) _ (lv_sub hl [1, 2, 0] rfl)
            · skip
              have hd := c4
              refine lv_iconst (v := nI 0) hx hb dX2_isLike_49 (by decide) ?_
              exact W.zret (v := bI false) hx hb hr (bI_narrow _) (fun t9 ht9 hW9 => ⟨_, rfl, (kd_f (fun z => hd (z.2 k (by omega)).2)), ht9⟩) (fun _ h => nomatch h) dX2_isLike_50
    exact loop15 ((S.1 i).2.2 - 0 + 1) 0 (by omega) (fun q h => absurd h (Nat.not_lt_zero q)) (by omega) _ (lv_sub hl [1, 2, 0] rfl)
  · skip
    have he := c1
    refine lv_iconst (v := nI 0) hx hb dX2_isLike_11 (by decide) ?_
    exact W.zret (v := bI false) hx hb hr (bI_narrow _) (fun t9 ht9 hW9 => ⟨_, rfl, (kd_f (fun z => he z.1)), ht9⟩) (fun _ h => nomatch h) dX2_isLike_12
set_option maxHeartbeats 4000000 in
set_option maxRecDepth 100000 in
theorem m_X2_isInSequenceBy (l : Launch) (dC : Nat → ClassId) (dI : Nat → Nat → Nat) (ad : Nat → Nat) (S : XS) (i j : Nat) (hi : i < 8) (hj : j < 6) (hro : rowOK (S.1 i)) (ho : ordOK (S.2.1 j)) : Met l yX2_isInSequenceBy wsX2_isInSequenceBy ({ frames := 1, cells := 0, slots := 0, locals := 26 } : Room) (va_Pc [.ref (ad (3 * i)), .ref (ad (24 + 5 * j))] (PX dC dI ad S)) (vp_Si (fun r => r = bI (seqB (S.2.1 j).2.2.1 (S.1 i).1 (S.1 i).2.2))) 0 0 (fun _ => False) := by
  refine Met.ofW (cc := cX2_isInSequenceBy) (maxL := 3) (ret := (some .boolean)) pl_X2 rfl ?_
  intro p e s m args below meth c s₁ B hml hv
  obtain ⟨rfl, hPX⟩ := hv
  have hx := B.exec
  have hb := B.bytes
  have hr := B.returns
  have hts := atoms_spec (ws := wsX2_isInSequenceBy) B.pre
  have hown : s.vm.findClass RX2 = some m.cls := findClass_of_methodNamed B.named
  have hlocks := B.notSynchronized
  have hin2 : ∀ w ∈ u_ws RX2 TX2 3, w ∈ wsX2_isInSequenceBy := tu 1322 (by decide +kernel) rfl
  have hX := WX.of hPX
  have hl := lv_entry ([.ref (ad (3 * i)), .ref (ad (24 + 5 * j))]) (n := 3) (Nat.le_of_ble_eq_true rfl)
  rw [lg_entry_eq]
  generalize (lg_sl ([.ref (ad (3 * i)), .ref (ad (24 + 5 * j))]) ++ List.replicate (3 - (lg_sl ([.ref (ad (3 * i)), .ref (ad (24 + 5 * j))])).length) Slot.unset).toArray = ls at hl ⊢
  have hl : lv_has ls 3 [(0, .ref (ad (3 * i))), (1, .ref (ad (24 + 5 * j)))] := hl
  show W p l e ({ frames := 1, cells := 0, slots := 0, locals := 26 } : Room) s m ([.ref (ad (3 * i)), .ref (ad (24 + 5 * j))]).toArray below meth c s.heap [] 0 0 (MQ below (vp_Si (fun r => r = bI (seqB (S.2.1 j).2.2.1 (S.1 i).1 (S.1 i).2.2))) ([.ref (ad (3 * i)), .ref (ad (24 + 5 * j))]).toArray s 0 0 (fun _ => False)) (F0 m 0 ls [])
  have hn := hro.1
  refine lv_iconst (v := nI 1) hx hb dX2_isInSequenceBy_0 (by decide) ?_
  refine lv_istore_n (lv' := [(2, .int (nI 1)), (0, .ref (ad (3 * i))), (1, .ref (ad (24 + 5 * j)))]) hx hb dX2_isInSequenceBy_1 rfl hl (by decide) rfl (fun ls hl => ?_)
  have loop2 : ∀ (fuel : Nat) (k : Nat) (hk : 1 ≤ k ∧ (k ≤ (S.1 i).2.2 ∨ k = 1)) (hq : ∀ q, q + 1 < k → (S.2.1 j).2.2.1 ((S.1 i).1 q) ≤ (S.2.1 j).2.2.1 ((S.1 i).1 (q + 1))), 17 - k < fuel → ∀ ls : Array Slot, lv_has ls 3 [(0, .ref (ad (3 * i))), (1, .ref (ad (24 + 5 * j))), (2, .int (nI k))] → W p l e ({ frames := 1, cells := 0, slots := 0, locals := 26 } : Room) s m ([.ref (ad (3 * i)), .ref (ad (24 + 5 * j))]).toArray below meth c s.heap [] 0 0 (MQ below (vp_Si (fun r => r = bI (seqB (S.2.1 j).2.2.1 (S.1 i).1 (S.1 i).2.2))) ([.ref (ad (3 * i)), .ref (ad (24 + 5 * j))]).toArray s 0 0 (fun _ => False)) (F0 m 2 ls []) := by
    intro fuel
    induction fuel with
    | zero => intro k hk hq hf; exact absurd hf (Nat.not_lt_zero _)
    | succ fuel ih2 =>
      intro k hk hq hf ls hl
      refine lv_iload_n hx hb dX2_isInSequenceBy_2 rfl (lv_at hl 2 rfl) ?_
      refine lv_aload_n hx hb dX2_isInSequenceBy_3 rfl (lv_at hl 0 rfl) ?_
      refine kr_gn (n := (S.1 i).2.2) hx hb hts hin2 hown hX hi rfl (hts (.fieldLink RX2 18 "Orderlattice$Row" "many" "I") (tm 27 (by decide +kernel) rfl)) dX2_isInSequenceBy_4 ?_
      refine kn_icmp_ge (tgt := 37) hx hb (by omega) (by omega) dX2_isInSequenceBy_7 (by decide) (fun c1 => ?_) (fun c1 => ?_)
      · skip
        refine lv_iconst (v := nI 1) hx hb dX2_isInSequenceBy_37 (by decide) ?_
        exact W.zret (v := bI true) hx hb hr (bI_narrow _) (fun t9 ht9 hW9 => ⟨_, rfl, (kd_t (fun q h => hq q (by omega))), ht9⟩) (fun _ h => nomatch h) dX2_isInSequenceBy_38
      · skip
        refine lv_aload_n hx hb dX2_isInSequenceBy_10 rfl (lv_at hl 1 rfl) ?_
        refine lv_aload_n hx hb dX2_isInSequenceBy_11 rfl (lv_at hl 0 rfl) ?_
        refine lv_iload_n hx hb dX2_isInSequenceBy_12 rfl (lv_at hl 2 rfl) ?_
        refine kx_cr (v := nI (((S.1 i).1) k)) (va_runV (As := [.int (nI k)]) (rest := [.ref (ad (24 + 5 * j))]) ⟨hx, hb, hml, hown, hts⟩ (m_X2_valueOn l dC dI ad S i k hi (by omega)) (cwV 1 hts gX2_isInSequenceBy_X2_valueOn rfl rfl rfl hdX2_valueOn_1 ⟨Nat.le_of_ble_eq_true rfl, Nat.le_of_ble_eq_true rfl⟩) (hX.preRow hi) rfl rfl hl.1 rfl (lv_room (Nat.le_of_ble_eq_true rfl)) dX2_isInSequenceBy_13 ⟨Nat.le_of_ble_eq_true rfl, Nat.le_of_ble_eq_true rfl⟩) (fun _ h => h) ?_
        refine lv_aload_n hx hb dX2_isInSequenceBy_16 rfl (lv_at hl 0 rfl) ?_
        refine lv_iload_n hx hb dX2_isInSequenceBy_17 rfl (lv_at hl 2 rfl) ?_
        refine lv_iconst (v := nI 1) hx hb dX2_isInSequenceBy_18 (by decide) ?_
        refine kn_isub hx hb (by omega) dX2_isInSequenceBy_19 ?_
        refine kx_cr (v := nI (((S.1 i).1) (k - 1))) (va_runV (As := [.int (nI (k - 1))]) (rest := [.int (nI (((S.1 i).1) k)), .ref (ad (24 + 5 * j))]) ⟨hx, hb, hml, hown, hts⟩ (m_X2_valueOn l dC dI ad S i (k - 1) hi (by omega)) (cwV 1 hts gX2_isInSequenceBy_X2_valueOn rfl rfl rfl hdX2_valueOn_1 ⟨Nat.le_of_ble_eq_true rfl, Nat.le_of_ble_eq_true rfl⟩) (hX.preRow hi) rfl rfl hl.1 rfl (lv_room (Nat.le_of_ble_eq_true rfl)) dX2_isInSequenceBy_20 ⟨Nat.le_of_ble_eq_true rfl, Nat.le_of_ble_eq_true rfl⟩) (fun _ h => h) ?_
        refine kx_cr (v := cmpI (((S.2.1 j).2.2.1) (((S.1 i).1) k)) (((S.2.1 j).2.2.1) (((S.1 i).1) (k - 1)))) (va_runV (As := [.int (nI (((S.1 i).1) k)), .int (nI (((S.1 i).1) (k - 1)))]) (rest := []) ⟨hx, hb, hml, hown, hts⟩ (m_X1_compared l dC dI ad S j (((S.1 i).1) k) (((S.1 i).1) (k - 1)) hj ho (hro.2 _ (by omega)).1 (hro.2 _ (by omega)).1) (cwV 2 hts gX2_isInSequenceBy_X1_compared rfl rfl rfl hdX1_compared_2 ⟨Nat.le_of_ble_eq_true rfl, Nat.le_of_ble_eq_true rfl⟩) (hX.preOrd hj) rfl rfl hl.1 rfl (lv_room (Nat.le_of_ble_eq_true rfl)) dX2_isInSequenceBy_23 ⟨Nat.le_of_ble_eq_true rfl, Nat.le_of_ble_eq_true rfl⟩) (fun _ h => h) ?_
        refine kc_if_ge (tgt := 31) hx hb dX2_isInSequenceBy_26 (by decide) (fun c2 => ?_) (fun c2 => ?_)
        · skip
          have hc := c2
          refine lv_iinc (v := nI (k + 1)) (lv' := [(2, .int (nI (k + 1))), (0, .ref (ad (3 * i))), (1, .ref (ad (24 + 5 * j)))]) hx hb dX2_isInSequenceBy_31 hl (k := 2) rfl (nI_1 k) (by decide) rfl (fun ls hl => ?_)
          refine lv_goto (tgt := 2) hx hb dX2_isInSequenceBy_34 (by decide) ?_
          exact ih2  (k + 1) (by omega) (seq_s (by omega) hq hc) (by omega) _ (lv_sub hl [1, 2, 0] rfl)
        · skip
          have hc := c2
          refine lv_iconst (v := nI 0) hx hb dX2_isInSequenceBy_29 (by decide) ?_
          exact W.zret (v := bI false) hx hb hr (bI_narrow _) (fun t9 ht9 hW9 => ⟨_, rfl, (kd_f (fun z => absurd (z (k - 1) (by omega)) (by rw [show k - 1 + 1 = k by omega]; omega))), ht9⟩) (fun _ h => nomatch h) dX2_isInSequenceBy_30
  exact loop2 (17 + 1) 1 (by omega) (fun q h => absurd h (by omega)) (by omega) _ (lv_sub hl [1, 2, 0] rfl)
set_option maxHeartbeats 4000000 in
set_option maxRecDepth 100000 in
theorem m_X2_hasAlike (l : Launch) (dC : Nat → ClassId) (dI : Nat → Nat → Nat) (ad : Nat → Nat) (S : XS) (i j x : Nat) (hi : i < 8) (hj : j < 6) (hro : rowOK (S.1 i)) (ho : ordOK (S.2.1 j)) (hx9 : x < 16) : Met l yX2_hasAlike wsX2_hasAlike ({ frames := 1, cells := 0, slots := 0, locals := 26 } : Room) (va_Pc [.ref (ad (3 * i)), .ref (ad (24 + 5 * j)), .int (nI x)] (PX dC dI ad S)) (vp_Si (fun r => r = bI (decide (∃ k, k < (S.1 i).2.2 ∧ (S.2.1 j).2.2.1 ((S.1 i).1 k) = (S.2.1 j).2.2.1 x)))) 0 0 (fun _ => False) := by
  refine Met.ofW (cc := cX2_hasAlike) (maxL := 4) (ret := (some .boolean)) pl_X2 rfl ?_
  intro p e s m args below meth c s₁ B hml hv
  obtain ⟨rfl, hPX⟩ := hv
  have hx := B.exec
  have hb := B.bytes
  have hr := B.returns
  have hts := atoms_spec (ws := wsX2_hasAlike) B.pre
  have hown : s.vm.findClass RX2 = some m.cls := findClass_of_methodNamed B.named
  have hlocks := B.notSynchronized
  have hin2 : ∀ w ∈ u_ws RX2 TX2 3, w ∈ wsX2_hasAlike := tu 1322 (by decide +kernel) rfl
  have hX := WX.of hPX
  have hl := lv_entry ([.ref (ad (3 * i)), .ref (ad (24 + 5 * j)), .int (nI x)]) (n := 4) (Nat.le_of_ble_eq_true rfl)
  rw [lg_entry_eq]
  generalize (lg_sl ([.ref (ad (3 * i)), .ref (ad (24 + 5 * j)), .int (nI x)]) ++ List.replicate (4 - (lg_sl ([.ref (ad (3 * i)), .ref (ad (24 + 5 * j)), .int (nI x)])).length) Slot.unset).toArray = ls at hl ⊢
  have hl : lv_has ls 4 [(0, .ref (ad (3 * i))), (1, .ref (ad (24 + 5 * j))), (2, .int (nI x))] := hl
  show W p l e ({ frames := 1, cells := 0, slots := 0, locals := 26 } : Room) s m ([.ref (ad (3 * i)), .ref (ad (24 + 5 * j)), .int (nI x)]).toArray below meth c s.heap [] 0 0 (MQ below (vp_Si (fun r => r = bI (decide (∃ k, k < (S.1 i).2.2 ∧ (S.2.1 j).2.2.1 ((S.1 i).1 k) = (S.2.1 j).2.2.1 x)))) ([.ref (ad (3 * i)), .ref (ad (24 + 5 * j)), .int (nI x)]).toArray s 0 0 (fun _ => False)) (F0 m 0 ls [])
  have hn := hro.1
  refine lv_iconst (v := nI 0) hx hb dX2_hasAlike_0 (by decide) ?_
  refine lv_istore_n (lv' := [(3, .int (nI 0)), (0, .ref (ad (3 * i))), (1, .ref (ad (24 + 5 * j))), (2, .int (nI x))]) hx hb dX2_hasAlike_1 rfl hl (by decide) rfl (fun ls hl => ?_)
  have loop2 : ∀ (fuel : Nat) (k : Nat) (hk : k ≤ (S.1 i).2.2) (hq : ∀ q, q < k → (S.2.1 j).2.2.1 ((S.1 i).1 q) ≠ (S.2.1 j).2.2.1 x), (S.1 i).2.2 - k < fuel → ∀ ls : Array Slot, lv_has ls 4 [(0, .ref (ad (3 * i))), (1, .ref (ad (24 + 5 * j))), (2, .int (nI x)), (3, .int (nI k))] → W p l e ({ frames := 1, cells := 0, slots := 0, locals := 26 } : Room) s m ([.ref (ad (3 * i)), .ref (ad (24 + 5 * j)), .int (nI x)]).toArray below meth c s.heap [] 0 0 (MQ below (vp_Si (fun r => r = bI (decide (∃ k, k < (S.1 i).2.2 ∧ (S.2.1 j).2.2.1 ((S.1 i).1 k) = (S.2.1 j).2.2.1 x)))) ([.ref (ad (3 * i)), .ref (ad (24 + 5 * j)), .int (nI x)]).toArray s 0 0 (fun _ => False)) (F0 m 2 ls []) := by
    intro fuel
    induction fuel with
    | zero => intro k hk hq hf; exact absurd hf (Nat.not_lt_zero _)
    | succ fuel ih2 =>
      intro k hk hq hf ls hl
      refine lv_iload_n hx hb dX2_hasAlike_2 rfl (lv_at hl 3 rfl) ?_
      refine lv_aload_n hx hb dX2_hasAlike_3 rfl (lv_at hl 0 rfl) ?_
      refine kr_gn (n := (S.1 i).2.2) hx hb hts hin2 hown hX hi rfl (hts (.fieldLink RX2 18 "Orderlattice$Row" "many" "I") (tm 27 (by decide +kernel) rfl)) dX2_hasAlike_4 ?_
      refine kn_icmp_ge (tgt := 31) hx hb (by omega) (by omega) dX2_hasAlike_7 (by decide) (fun c1 => ?_) (fun c1 => ?_)
      · skip
        refine lv_iconst (v := nI 0) hx hb dX2_hasAlike_31 (by decide) ?_
        exact W.zret (v := bI false) hx hb hr (bI_narrow _) (fun t9 ht9 hW9 => ⟨_, rfl, (kd_f (fun ⟨q, h1, h2⟩ => hq q (by omega) h2)), ht9⟩) (fun _ h => nomatch h) dX2_hasAlike_32
      · skip
        refine lv_aload_n hx hb dX2_hasAlike_10 rfl (lv_at hl 1 rfl) ?_
        refine lv_aload_n hx hb dX2_hasAlike_11 rfl (lv_at hl 0 rfl) ?_
        refine lv_iload_n hx hb dX2_hasAlike_12 rfl (lv_at hl 3 rfl) ?_
        refine kx_cr (v := nI (((S.1 i).1) k)) (va_runV (As := [.int (nI k)]) (rest := [.ref (ad (24 + 5 * j))]) ⟨hx, hb, hml, hown, hts⟩ (m_X2_valueOn l dC dI ad S i k hi (by omega)) (cwV 1 hts gX2_hasAlike_X2_valueOn rfl rfl rfl hdX2_valueOn_1 ⟨Nat.le_of_ble_eq_true rfl, Nat.le_of_ble_eq_true rfl⟩) (hX.preRow hi) rfl rfl hl.1 rfl (lv_room (Nat.le_of_ble_eq_true rfl)) dX2_hasAlike_13 ⟨Nat.le_of_ble_eq_true rfl, Nat.le_of_ble_eq_true rfl⟩) (fun _ h => h) ?_
        refine lv_iload_n hx hb dX2_hasAlike_16 rfl (lv_at hl 2 rfl) ?_
        refine kx_cr (v := cmpI (((S.2.1 j).2.2.1) (((S.1 i).1) k)) (((S.2.1 j).2.2.1) x)) (va_runV (As := [.int (nI (((S.1 i).1) k)), .int (nI x)]) (rest := []) ⟨hx, hb, hml, hown, hts⟩ (m_X1_compared l dC dI ad S j (((S.1 i).1) k) x hj ho (hro.2 _ (by omega)).1 (by omega)) (cwV 2 hts gX2_hasAlike_X1_compared rfl rfl rfl hdX1_compared_2 ⟨Nat.le_of_ble_eq_true rfl, Nat.le_of_ble_eq_true rfl⟩) (hX.preOrd hj) rfl rfl hl.1 rfl (lv_room (Nat.le_of_ble_eq_true rfl)) dX2_hasAlike_17 ⟨Nat.le_of_ble_eq_true rfl, Nat.le_of_ble_eq_true rfl⟩) (fun _ h => h) ?_
        refine kc_if_ne (tgt := 25) hx hb dX2_hasAlike_20 (by decide) (fun c2 => ?_) (fun c2 => ?_)
        · skip
          have hc := c2
          refine lv_iinc (v := nI (k + 1)) (lv' := [(3, .int (nI (k + 1))), (0, .ref (ad (3 * i))), (1, .ref (ad (24 + 5 * j))), (2, .int (nI x))]) hx hb dX2_hasAlike_25 hl (k := 3) rfl (nI_1 k) (by decide) rfl (fun ls hl => ?_)
          refine lv_goto (tgt := 2) hx hb dX2_hasAlike_28 (by decide) ?_
          exact ih2  (k + 1) (by omega) (lt_s hq hc) (by omega) _ (lv_sub hl [1, 2, 3, 0] rfl)
        · skip
          have hc := c2
          refine lv_iconst (v := nI 1) hx hb dX2_hasAlike_23 (by decide) ?_
          exact W.zret (v := bI true) hx hb hr (bI_narrow _) (fun t9 ht9 hW9 => ⟨_, rfl, (kd_t ⟨k, by omega, hc⟩), ht9⟩) (fun _ h => nomatch h) dX2_hasAlike_24
  exact loop2 ((S.1 i).2.2 - 0 + 1) 0 (by omega) (fun q h => absurd h (Nat.not_lt_zero q)) (by omega) _ (lv_sub hl [1, 2, 3, 0] rfl)
set_option maxHeartbeats 4000000 in
set_option maxRecDepth 100000 in
theorem m_X2_thingsAhead (l : Launch) (dC : Nat → ClassId) (dI : Nat → Nat → Nat) (ad : Nat → Nat) (S : XS) (i j x : Nat) (hi : i < 8) (hj : j < 6) (hro : rowOK (S.1 i)) (ho : ordOK (S.2.1 j)) (hx9 : x < 16) : Met l yX2_thingsAhead wsX2_thingsAhead ({ frames := 1, cells := 0, slots := 0, locals := 26 } : Room) (va_Pc [.ref (ad (3 * i)), .ref (ad (24 + 5 * j)), .int (nI x)] (PX dC dI ad S)) (vp_Si (fun r => r = nI (cntB (fun k => decide ((S.2.1 j).2.2.1 ((S.1 i).1 k) < (S.2.1 j).2.2.1 x)) (S.1 i).2.2))) 0 0 (fun _ => False) := by
  refine Met.ofW (cc := cX2_thingsAhead) (maxL := 5) (ret := (some .int)) pl_X2 rfl ?_
  intro p e s m args below meth c s₁ B hml hv
  obtain ⟨rfl, hPX⟩ := hv
  have hx := B.exec
  have hb := B.bytes
  have hr := B.returns
  have hts := atoms_spec (ws := wsX2_thingsAhead) B.pre
  have hown : s.vm.findClass RX2 = some m.cls := findClass_of_methodNamed B.named
  have hlocks := B.notSynchronized
  have hin2 : ∀ w ∈ u_ws RX2 TX2 3, w ∈ wsX2_thingsAhead := tu 1322 (by decide +kernel) rfl
  have hX := WX.of hPX
  have hl := lv_entry ([.ref (ad (3 * i)), .ref (ad (24 + 5 * j)), .int (nI x)]) (n := 5) (Nat.le_of_ble_eq_true rfl)
  rw [lg_entry_eq]
  generalize (lg_sl ([.ref (ad (3 * i)), .ref (ad (24 + 5 * j)), .int (nI x)]) ++ List.replicate (5 - (lg_sl ([.ref (ad (3 * i)), .ref (ad (24 + 5 * j)), .int (nI x)])).length) Slot.unset).toArray = ls at hl ⊢
  have hl : lv_has ls 5 [(0, .ref (ad (3 * i))), (1, .ref (ad (24 + 5 * j))), (2, .int (nI x))] := hl
  show W p l e ({ frames := 1, cells := 0, slots := 0, locals := 26 } : Room) s m ([.ref (ad (3 * i)), .ref (ad (24 + 5 * j)), .int (nI x)]).toArray below meth c s.heap [] 0 0 (MQ below (vp_Si (fun r => r = nI (cntB (fun k => decide ((S.2.1 j).2.2.1 ((S.1 i).1 k) < (S.2.1 j).2.2.1 x)) (S.1 i).2.2))) ([.ref (ad (3 * i)), .ref (ad (24 + 5 * j)), .int (nI x)]).toArray s 0 0 (fun _ => False)) (F0 m 0 ls [])
  have hn := hro.1
  refine lv_iconst (v := nI 0) hx hb dX2_thingsAhead_0 (by decide) ?_
  refine lv_istore_n (lv' := [(3, .int (nI 0)), (0, .ref (ad (3 * i))), (1, .ref (ad (24 + 5 * j))), (2, .int (nI x))]) hx hb dX2_thingsAhead_1 rfl hl (by decide) rfl (fun ls hl => ?_)
  refine lv_iconst (v := nI 0) hx hb dX2_thingsAhead_2 (by decide) ?_
  refine lv_istore (lv' := [(4, .int (nI 0)), (3, .int (nI 0)), (0, .ref (ad (3 * i))), (1, .ref (ad (24 + 5 * j))), (2, .int (nI x))]) hx hb dX2_thingsAhead_3 hl (by decide) rfl (fun ls hl => ?_)
  have loop5 : ∀ (fuel : Nat) (q k : Nat) (hk : k ≤ (S.1 i).2.2) (hq : q = cntB (fun k => decide ((S.2.1 j).2.2.1 ((S.1 i).1 k) < (S.2.1 j).2.2.1 x)) k), (S.1 i).2.2 - k < fuel → ∀ ls : Array Slot, lv_has ls 5 [(0, .ref (ad (3 * i))), (1, .ref (ad (24 + 5 * j))), (2, .int (nI x)), (3, .int (nI q)), (4, .int (nI k))] → W p l e ({ frames := 1, cells := 0, slots := 0, locals := 26 } : Room) s m ([.ref (ad (3 * i)), .ref (ad (24 + 5 * j)), .int (nI x)]).toArray below meth c s.heap [] 0 0 (MQ below (vp_Si (fun r => r = nI (cntB (fun k => decide ((S.2.1 j).2.2.1 ((S.1 i).1 k) < (S.2.1 j).2.2.1 x)) (S.1 i).2.2))) ([.ref (ad (3 * i)), .ref (ad (24 + 5 * j)), .int (nI x)]).toArray s 0 0 (fun _ => False)) (F0 m 5 ls []) := by
    intro fuel
    induction fuel with
    | zero => intro q k hk hq hf; exact absurd hf (Nat.not_lt_zero _)
    | succ fuel ih5 =>
      intro q k hk hq hf ls hl
      refine lv_iload hx hb dX2_thingsAhead_5 (lv_at hl 4 rfl) ?_
      refine lv_aload_n hx hb dX2_thingsAhead_7 rfl (lv_at hl 0 rfl) ?_
      refine kr_gn (n := (S.1 i).2.2) hx hb hts hin2 hown hX hi rfl (hts (.fieldLink RX2 18 "Orderlattice$Row" "many" "I") (tm 27 (by decide +kernel) rfl)) dX2_thingsAhead_8 ?_
      refine kn_icmp_ge (tgt := 37) hx hb (by omega) (by omega) dX2_thingsAhead_11 (by decide) (fun c1 => ?_) (fun c1 => ?_)
      · skip
        refine lv_iload_n hx hb dX2_thingsAhead_37 rfl (lv_at hl 3 rfl) ?_
        exact W.iret (v := nI q) hx hb hr (fun t9 ht9 hW9 => ⟨_, rfl, (by rw [hq, show k = (S.1 i).2.2 by omega]), ht9⟩) (fun _ h => nomatch h) dX2_thingsAhead_38
      · skip
        refine lv_aload_n hx hb dX2_thingsAhead_14 rfl (lv_at hl 1 rfl) ?_
        refine lv_aload_n hx hb dX2_thingsAhead_15 rfl (lv_at hl 0 rfl) ?_
        refine lv_iload hx hb dX2_thingsAhead_16 (lv_at hl 4 rfl) ?_
        refine kx_cr (v := nI (((S.1 i).1) k)) (va_runV (As := [.int (nI k)]) (rest := [.ref (ad (24 + 5 * j))]) ⟨hx, hb, hml, hown, hts⟩ (m_X2_valueOn l dC dI ad S i k hi (by omega)) (cwV 1 hts gX2_thingsAhead_X2_valueOn rfl rfl rfl hdX2_valueOn_1 ⟨Nat.le_of_ble_eq_true rfl, Nat.le_of_ble_eq_true rfl⟩) (hX.preRow hi) rfl rfl hl.1 rfl (lv_room (Nat.le_of_ble_eq_true rfl)) dX2_thingsAhead_18 ⟨Nat.le_of_ble_eq_true rfl, Nat.le_of_ble_eq_true rfl⟩) (fun _ h => h) ?_
        refine lv_iload_n hx hb dX2_thingsAhead_21 rfl (lv_at hl 2 rfl) ?_
        refine kx_cr (v := cmpI (((S.2.1 j).2.2.1) (((S.1 i).1) k)) (((S.2.1 j).2.2.1) x)) (va_runV (As := [.int (nI (((S.1 i).1) k)), .int (nI x)]) (rest := []) ⟨hx, hb, hml, hown, hts⟩ (m_X1_compared l dC dI ad S j (((S.1 i).1) k) x hj ho (hro.2 _ (by omega)).1 (by omega)) (cwV 2 hts gX2_thingsAhead_X1_compared rfl rfl rfl hdX1_compared_2 ⟨Nat.le_of_ble_eq_true rfl, Nat.le_of_ble_eq_true rfl⟩) (hX.preOrd hj) rfl rfl hl.1 rfl (lv_room (Nat.le_of_ble_eq_true rfl)) dX2_thingsAhead_22 ⟨Nat.le_of_ble_eq_true rfl, Nat.le_of_ble_eq_true rfl⟩) (fun _ h => h) ?_
        refine kc_if_ge (tgt := 31) hx hb dX2_thingsAhead_25 (by decide) (fun c2 => ?_) (fun c2 => ?_)
        · skip
          have hc := c2
          refine lv_iinc (v := nI (k + 1)) (lv' := [(4, .int (nI (k + 1))), (0, .ref (ad (3 * i))), (1, .ref (ad (24 + 5 * j))), (2, .int (nI x)), (3, .int (nI q))]) hx hb dX2_thingsAhead_31 hl (k := 4) rfl (nI_1 k) (by decide) rfl (fun ls hl => ?_)
          refine lv_goto (tgt := 5) hx hb dX2_thingsAhead_34 (by decide) ?_
          exact ih5  q (k + 1) (by omega) (by rw [cntB_f (decide_eq_false (by omega)), hq]) (by omega) _ (lv_sub hl [1, 2, 3, 4, 0] rfl)
        · skip
          have hc := c2
          refine lv_iinc (v := nI (q + 1)) (lv' := [(3, .int (nI (q + 1))), (0, .ref (ad (3 * i))), (1, .ref (ad (24 + 5 * j))), (2, .int (nI x)), (4, .int (nI k))]) hx hb dX2_thingsAhead_28 hl (k := 3) rfl (nI_1 q) (by decide) rfl (fun ls hl => ?_)
          refine lv_iinc (v := nI (k + 1)) (lv' := [(4, .int (nI (k + 1))), (3, .int (nI (q + 1))), (0, .ref (ad (3 * i))), (1, .ref (ad (24 + 5 * j))), (2, .int (nI x))]) hx hb dX2_thingsAhead_31 hl (k := 4) rfl (nI_1 k) (by decide) rfl (fun ls hl => ?_)
          refine lv_goto (tgt := 5) hx hb dX2_thingsAhead_34 (by decide) ?_
          exact ih5  (q + 1) (k + 1) (by omega) (by rw [cntB_t (decide_eq_true hc), hq]) (by omega) _ (lv_sub hl [2, 3, 4, 1, 0] rfl)
  exact loop5 ((S.1 i).2.2 - 0 + 1) 0 0 (by omega) rfl (by omega) _ (lv_sub hl [2, 3, 4, 1, 0] rfl)
set_option maxHeartbeats 4000000 in
set_option maxRecDepth 100000 in
theorem m_X2_isFirstOfLot (l : Launch) (dC : Nat → ClassId) (dI : Nat → Nat → Nat) (ad : Nat → Nat) (S : XS) (i j x : Nat) (hi : i < 8) (hj : j < 6) (hro : rowOK (S.1 i)) (ho : ordOK (S.2.1 j)) (hx9 : x < 16) : Met l yX2_isFirstOfLot wsX2_isFirstOfLot ({ frames := 1, cells := 0, slots := 0, locals := 26 } : Room) (va_Pc [.ref (ad (3 * i)), .ref (ad (24 + 5 * j)), .int (nI x)] (PX dC dI ad S)) (vp_Si (fun r => r = bI (firstB (S.2.1 j).2.2.1 (S.1 i).1 x))) 0 0 (fun _ => False) := by
  refine Met.ofW (cc := cX2_isFirstOfLot) (maxL := 4) (ret := (some .boolean)) pl_X2 rfl ?_
  intro p e s m args below meth c s₁ B hml hv
  obtain ⟨rfl, hPX⟩ := hv
  have hx := B.exec
  have hb := B.bytes
  have hr := B.returns
  have hts := atoms_spec (ws := wsX2_isFirstOfLot) B.pre
  have hown : s.vm.findClass RX2 = some m.cls := findClass_of_methodNamed B.named
  have hlocks := B.notSynchronized
  have hX := WX.of hPX
  have hl := lv_entry ([.ref (ad (3 * i)), .ref (ad (24 + 5 * j)), .int (nI x)]) (n := 4) (Nat.le_of_ble_eq_true rfl)
  rw [lg_entry_eq]
  generalize (lg_sl ([.ref (ad (3 * i)), .ref (ad (24 + 5 * j)), .int (nI x)]) ++ List.replicate (4 - (lg_sl ([.ref (ad (3 * i)), .ref (ad (24 + 5 * j)), .int (nI x)])).length) Slot.unset).toArray = ls at hl ⊢
  have hl : lv_has ls 4 [(0, .ref (ad (3 * i))), (1, .ref (ad (24 + 5 * j))), (2, .int (nI x))] := hl
  show W p l e ({ frames := 1, cells := 0, slots := 0, locals := 26 } : Room) s m ([.ref (ad (3 * i)), .ref (ad (24 + 5 * j)), .int (nI x)]).toArray below meth c s.heap [] 0 0 (MQ below (vp_Si (fun r => r = bI (firstB (S.2.1 j).2.2.1 (S.1 i).1 x))) ([.ref (ad (3 * i)), .ref (ad (24 + 5 * j)), .int (nI x)]).toArray s 0 0 (fun _ => False)) (F0 m 0 ls [])
  have hn := hro.1
  refine lv_iconst (v := nI 0) hx hb dX2_isFirstOfLot_0 (by decide) ?_
  refine lv_istore_n (lv' := [(3, .int (nI 0)), (0, .ref (ad (3 * i))), (1, .ref (ad (24 + 5 * j))), (2, .int (nI x))]) hx hb dX2_isFirstOfLot_1 rfl hl (by decide) rfl (fun ls hl => ?_)
  have loop2 : ∀ (fuel : Nat) (k : Nat) (hk : k ≤ x) (hq : ∀ q, q < k → (S.2.1 j).2.2.1 ((S.1 i).1 q) ≠ (S.2.1 j).2.2.1 ((S.1 i).1 x)), x - k < fuel → ∀ ls : Array Slot, lv_has ls 4 [(0, .ref (ad (3 * i))), (1, .ref (ad (24 + 5 * j))), (2, .int (nI x)), (3, .int (nI k))] → W p l e ({ frames := 1, cells := 0, slots := 0, locals := 26 } : Room) s m ([.ref (ad (3 * i)), .ref (ad (24 + 5 * j)), .int (nI x)]).toArray below meth c s.heap [] 0 0 (MQ below (vp_Si (fun r => r = bI (firstB (S.2.1 j).2.2.1 (S.1 i).1 x))) ([.ref (ad (3 * i)), .ref (ad (24 + 5 * j)), .int (nI x)]).toArray s 0 0 (fun _ => False)) (F0 m 2 ls []) := by
    intro fuel
    induction fuel with
    | zero => intro k hk hq hf; exact absurd hf (Nat.not_lt_zero _)
    | succ fuel ih2 =>
      intro k hk hq hf ls hl
      refine lv_iload_n hx hb dX2_isFirstOfLot_2 rfl (lv_at hl 3 rfl) ?_
      refine lv_iload_n hx hb dX2_isFirstOfLot_3 rfl (lv_at hl 2 rfl) ?_
      refine kn_icmp_ge (tgt := 32) hx hb (by omega) (by omega) dX2_isFirstOfLot_4 (by decide) (fun c1 => ?_) (fun c1 => ?_)
      · skip
        refine lv_iconst (v := nI 1) hx hb dX2_isFirstOfLot_32 (by decide) ?_
        exact W.zret (v := bI true) hx hb hr (bI_narrow _) (fun t9 ht9 hW9 => ⟨_, rfl, (kd_t (fun q h => hq q (by omega))), ht9⟩) (fun _ h => nomatch h) dX2_isFirstOfLot_33
      · skip
        refine lv_aload_n hx hb dX2_isFirstOfLot_7 rfl (lv_at hl 1 rfl) ?_
        refine lv_aload_n hx hb dX2_isFirstOfLot_8 rfl (lv_at hl 0 rfl) ?_
        refine lv_iload_n hx hb dX2_isFirstOfLot_9 rfl (lv_at hl 3 rfl) ?_
        refine kx_cr (v := nI (((S.1 i).1) k)) (va_runV (As := [.int (nI k)]) (rest := [.ref (ad (24 + 5 * j))]) ⟨hx, hb, hml, hown, hts⟩ (m_X2_valueOn l dC dI ad S i k hi (by omega)) (cwV 1 hts gX2_isFirstOfLot_X2_valueOn rfl rfl rfl hdX2_valueOn_1 ⟨Nat.le_of_ble_eq_true rfl, Nat.le_of_ble_eq_true rfl⟩) (hX.preRow hi) rfl rfl hl.1 rfl (lv_room (Nat.le_of_ble_eq_true rfl)) dX2_isFirstOfLot_10 ⟨Nat.le_of_ble_eq_true rfl, Nat.le_of_ble_eq_true rfl⟩) (fun _ h => h) ?_
        refine lv_aload_n hx hb dX2_isFirstOfLot_13 rfl (lv_at hl 0 rfl) ?_
        refine lv_iload_n hx hb dX2_isFirstOfLot_14 rfl (lv_at hl 2 rfl) ?_
        refine kx_cr (v := nI (((S.1 i).1) x)) (va_runV (As := [.int (nI x)]) (rest := [.int (nI (((S.1 i).1) k)), .ref (ad (24 + 5 * j))]) ⟨hx, hb, hml, hown, hts⟩ (m_X2_valueOn l dC dI ad S i x hi (by omega)) (cwV 1 hts gX2_isFirstOfLot_X2_valueOn rfl rfl rfl hdX2_valueOn_1 ⟨Nat.le_of_ble_eq_true rfl, Nat.le_of_ble_eq_true rfl⟩) (hX.preRow hi) rfl rfl hl.1 rfl (lv_room (Nat.le_of_ble_eq_true rfl)) dX2_isFirstOfLot_15 ⟨Nat.le_of_ble_eq_true rfl, Nat.le_of_ble_eq_true rfl⟩) (fun _ h => h) ?_
        refine kx_cr (v := cmpI (((S.2.1 j).2.2.1) (((S.1 i).1) k)) (((S.2.1 j).2.2.1) (((S.1 i).1) x))) (va_runV (As := [.int (nI (((S.1 i).1) k)), .int (nI (((S.1 i).1) x))]) (rest := []) ⟨hx, hb, hml, hown, hts⟩ (m_X1_compared l dC dI ad S j (((S.1 i).1) k) (((S.1 i).1) x) hj ho (hro.2 _ (by omega)).1 (hro.2 _ (by omega)).1) (cwV 2 hts gX2_isFirstOfLot_X1_compared rfl rfl rfl hdX1_compared_2 ⟨Nat.le_of_ble_eq_true rfl, Nat.le_of_ble_eq_true rfl⟩) (hX.preOrd hj) rfl rfl hl.1 rfl (lv_room (Nat.le_of_ble_eq_true rfl)) dX2_isFirstOfLot_18 ⟨Nat.le_of_ble_eq_true rfl, Nat.le_of_ble_eq_true rfl⟩) (fun _ h => h) ?_
        refine kc_if_ne (tgt := 26) hx hb dX2_isFirstOfLot_21 (by decide) (fun c2 => ?_) (fun c2 => ?_)
        · skip
          have hc := c2
          refine lv_iinc (v := nI (k + 1)) (lv' := [(3, .int (nI (k + 1))), (0, .ref (ad (3 * i))), (1, .ref (ad (24 + 5 * j))), (2, .int (nI x))]) hx hb dX2_isFirstOfLot_26 hl (k := 3) rfl (nI_1 k) (by decide) rfl (fun ls hl => ?_)
          refine lv_goto (tgt := 2) hx hb dX2_isFirstOfLot_29 (by decide) ?_
          exact ih2  (k + 1) (by omega) (lt_s hq hc) (by omega) _ (lv_sub hl [1, 2, 3, 0] rfl)
        · skip
          have hc := c2
          refine lv_iconst (v := nI 0) hx hb dX2_isFirstOfLot_24 (by decide) ?_
          exact W.zret (v := bI false) hx hb hr (bI_narrow _) (fun t9 ht9 hW9 => ⟨_, rfl, (kd_f (fun z => z k (by omega) hc)), ht9⟩) (fun _ h => nomatch h) dX2_isFirstOfLot_25
  exact loop2 (x - 0 + 1) 0 (by omega) (fun q h => absurd h (Nat.not_lt_zero q)) (by omega) _ (lv_sub hl [1, 2, 3, 0] rfl)
set_option maxHeartbeats 4000000 in
set_option maxRecDepth 100000 in
theorem m_X2_lots (l : Launch) (dC : Nat → ClassId) (dI : Nat → Nat → Nat) (ad : Nat → Nat) (S : XS) (i j : Nat) (hi : i < 8) (hj : j < 6) (hro : rowOK (S.1 i)) (ho : ordOK (S.2.1 j)) : Met l yX2_lots wsX2_lots ({ frames := 2, cells := 0, slots := 0, locals := 49 } : Room) (va_Pc [.ref (ad (3 * i)), .ref (ad (24 + 5 * j))] (PX dC dI ad S)) (vp_Si (fun r => r = nI (cntB (firstB (S.2.1 j).2.2.1 (S.1 i).1) (S.1 i).2.2))) 0 0 (fun _ => False) := by
  refine Met.ofW (cc := cX2_lots) (maxL := 4) (ret := (some .int)) pl_X2 rfl ?_
  intro p e s m args below meth c s₁ B hml hv
  obtain ⟨rfl, hPX⟩ := hv
  have hx := B.exec
  have hb := B.bytes
  have hr := B.returns
  have hts := atoms_spec (ws := wsX2_lots) B.pre
  have hown : s.vm.findClass RX2 = some m.cls := findClass_of_methodNamed B.named
  have hlocks := B.notSynchronized
  have hin2 : ∀ w ∈ u_ws RX2 TX2 3, w ∈ wsX2_lots := tu 1322 (by decide +kernel) rfl
  have hX := WX.of hPX
  have hl := lv_entry ([.ref (ad (3 * i)), .ref (ad (24 + 5 * j))]) (n := 4) (Nat.le_of_ble_eq_true rfl)
  rw [lg_entry_eq]
  generalize (lg_sl ([.ref (ad (3 * i)), .ref (ad (24 + 5 * j))]) ++ List.replicate (4 - (lg_sl ([.ref (ad (3 * i)), .ref (ad (24 + 5 * j))])).length) Slot.unset).toArray = ls at hl ⊢
  have hl : lv_has ls 4 [(0, .ref (ad (3 * i))), (1, .ref (ad (24 + 5 * j)))] := hl
  show W p l e ({ frames := 2, cells := 0, slots := 0, locals := 49 } : Room) s m ([.ref (ad (3 * i)), .ref (ad (24 + 5 * j))]).toArray below meth c s.heap [] 0 0 (MQ below (vp_Si (fun r => r = nI (cntB (firstB (S.2.1 j).2.2.1 (S.1 i).1) (S.1 i).2.2))) ([.ref (ad (3 * i)), .ref (ad (24 + 5 * j))]).toArray s 0 0 (fun _ => False)) (F0 m 0 ls [])
  have hn := hro.1
  refine lv_iconst (v := nI 0) hx hb dX2_lots_0 (by decide) ?_
  refine lv_istore_n (lv' := [(2, .int (nI 0)), (0, .ref (ad (3 * i))), (1, .ref (ad (24 + 5 * j)))]) hx hb dX2_lots_1 rfl hl (by decide) rfl (fun ls hl => ?_)
  refine lv_iconst (v := nI 0) hx hb dX2_lots_2 (by decide) ?_
  refine lv_istore_n (lv' := [(3, .int (nI 0)), (2, .int (nI 0)), (0, .ref (ad (3 * i))), (1, .ref (ad (24 + 5 * j)))]) hx hb dX2_lots_3 rfl hl (by decide) rfl (fun ls hl => ?_)
  have loop4 : ∀ (fuel : Nat) (q k : Nat) (hk : k ≤ (S.1 i).2.2) (hq : q = cntB (firstB (S.2.1 j).2.2.1 (S.1 i).1) k), (S.1 i).2.2 - k < fuel → ∀ ls : Array Slot, lv_has ls 4 [(0, .ref (ad (3 * i))), (1, .ref (ad (24 + 5 * j))), (2, .int (nI q)), (3, .int (nI k))] → W p l e ({ frames := 2, cells := 0, slots := 0, locals := 49 } : Room) s m ([.ref (ad (3 * i)), .ref (ad (24 + 5 * j))]).toArray below meth c s.heap [] 0 0 (MQ below (vp_Si (fun r => r = nI (cntB (firstB (S.2.1 j).2.2.1 (S.1 i).1) (S.1 i).2.2))) ([.ref (ad (3 * i)), .ref (ad (24 + 5 * j))]).toArray s 0 0 (fun _ => False)) (F0 m 4 ls []) := by
    intro fuel
    induction fuel with
    | zero => intro q k hk hq hf; exact absurd hf (Nat.not_lt_zero _)
    | succ fuel ih4 =>
      intro q k hk hq hf ls hl
      refine lv_iload_n hx hb dX2_lots_4 rfl (lv_at hl 3 rfl) ?_
      refine lv_aload_n hx hb dX2_lots_5 rfl (lv_at hl 0 rfl) ?_
      refine kr_gn (n := (S.1 i).2.2) hx hb hts hin2 hown hX hi rfl (hts (.fieldLink RX2 18 "Orderlattice$Row" "many" "I") (tm 27 (by decide +kernel) rfl)) dX2_lots_6 ?_
      refine kn_icmp_ge (tgt := 30) hx hb (by omega) (by omega) dX2_lots_9 (by decide) (fun c1 => ?_) (fun c1 => ?_)
      · skip
        refine lv_iload_n hx hb dX2_lots_30 rfl (lv_at hl 2 rfl) ?_
        exact W.iret (v := nI q) hx hb hr (fun t9 ht9 hW9 => ⟨_, rfl, (by rw [hq, show k = (S.1 i).2.2 by omega]), ht9⟩) (fun _ h => nomatch h) dX2_lots_31
      · skip
        refine lv_aload_n hx hb dX2_lots_12 rfl (lv_at hl 0 rfl) ?_
        refine lv_aload_n hx hb dX2_lots_13 rfl (lv_at hl 1 rfl) ?_
        refine lv_iload_n hx hb dX2_lots_14 rfl (lv_at hl 3 rfl) ?_
        refine kx_cr (v := bI (firstB (S.2.1 j).2.2.1 (S.1 i).1 k)) (va_runV (As := [.ref (ad (24 + 5 * j)), .int (nI k)]) (rest := []) ⟨hx, hb, hml, hown, hts⟩ (m_X2_isFirstOfLot l dC dI ad S i j k hi hj hro ho (by omega)) (cwV 2 hts gX2_lots_X2_isFirstOfLot rfl rfl rfl hdX2_isFirstOfLot_2 ⟨Nat.le_of_ble_eq_true rfl, Nat.le_of_ble_eq_true rfl⟩) (hX.preRow hi) rfl rfl hl.1 rfl (lv_room (Nat.le_of_ble_eq_true rfl)) dX2_lots_15 ⟨Nat.le_of_ble_eq_true rfl, Nat.le_of_ble_eq_true rfl⟩) (fun _ h => h) ?_
        refine kb_if_eq (tgt := 24) hx hb dX2_lots_18 (by decide) (fun c2 => ?_) (fun c2 => ?_)
        · skip
          have hc := c2
          refine lv_iinc (v := nI (k + 1)) (lv' := [(3, .int (nI (k + 1))), (0, .ref (ad (3 * i))), (1, .ref (ad (24 + 5 * j))), (2, .int (nI q))]) hx hb dX2_lots_24 hl (k := 3) rfl (nI_1 k) (by decide) rfl (fun ls hl => ?_)
          refine lv_goto (tgt := 4) hx hb dX2_lots_27 (by decide) ?_
          exact ih4  q (k + 1) (by omega) (by rw [cntB_f hc, hq]) (by omega) _ (lv_sub hl [1, 2, 3, 0] rfl)
        · skip
          have hc := c2
          refine lv_iinc (v := nI (q + 1)) (lv' := [(2, .int (nI (q + 1))), (0, .ref (ad (3 * i))), (1, .ref (ad (24 + 5 * j))), (3, .int (nI k))]) hx hb dX2_lots_21 hl (k := 2) rfl (nI_1 q) (by decide) rfl (fun ls hl => ?_)
          refine lv_iinc (v := nI (k + 1)) (lv' := [(3, .int (nI (k + 1))), (2, .int (nI (q + 1))), (0, .ref (ad (3 * i))), (1, .ref (ad (24 + 5 * j)))]) hx hb dX2_lots_24 hl (k := 3) rfl (nI_1 k) (by decide) rfl (fun ls hl => ?_)
          refine lv_goto (tgt := 4) hx hb dX2_lots_27 (by decide) ?_
          exact ih4  (q + 1) (k + 1) (by omega) (by rw [cntB_t hc, hq]) (by omega) _ (lv_sub hl [2, 3, 1, 0] rfl)
  exact loop4 ((S.1 i).2.2 - 0 + 1) 0 0 (by omega) rfl (by omega) _ (lv_sub hl [2, 3, 1, 0] rfl)
set_option maxHeartbeats 4000000 in
set_option maxRecDepth 100000 in
theorem m_X2_lotsAhead (l : Launch) (dC : Nat → ClassId) (dI : Nat → Nat → Nat) (ad : Nat → Nat) (S : XS) (i j x : Nat) (hi : i < 8) (hj : j < 6) (hro : rowOK (S.1 i)) (ho : ordOK (S.2.1 j)) (hx9 : x < 16) : Met l yX2_lotsAhead wsX2_lotsAhead ({ frames := 2, cells := 0, slots := 0, locals := 49 } : Room) (va_Pc [.ref (ad (3 * i)), .ref (ad (24 + 5 * j)), .int (nI x)] (PX dC dI ad S)) (vp_Si (fun r => r = nI (cntB (fun k => firstB (S.2.1 j).2.2.1 (S.1 i).1 k && decide ((S.2.1 j).2.2.1 ((S.1 i).1 k) < (S.2.1 j).2.2.1 x)) (S.1 i).2.2))) 0 0 (fun _ => False) := by
  refine Met.ofW (cc := cX2_lotsAhead) (maxL := 5) (ret := (some .int)) pl_X2 rfl ?_
  intro p e s m args below meth c s₁ B hml hv
  obtain ⟨rfl, hPX⟩ := hv
  have hx := B.exec
  have hb := B.bytes
  have hr := B.returns
  have hts := atoms_spec (ws := wsX2_lotsAhead) B.pre
  have hown : s.vm.findClass RX2 = some m.cls := findClass_of_methodNamed B.named
  have hlocks := B.notSynchronized
  have hin2 : ∀ w ∈ u_ws RX2 TX2 3, w ∈ wsX2_lotsAhead := tu 1322 (by decide +kernel) rfl
  have hX := WX.of hPX
  have hl := lv_entry ([.ref (ad (3 * i)), .ref (ad (24 + 5 * j)), .int (nI x)]) (n := 5) (Nat.le_of_ble_eq_true rfl)
  rw [lg_entry_eq]
  generalize (lg_sl ([.ref (ad (3 * i)), .ref (ad (24 + 5 * j)), .int (nI x)]) ++ List.replicate (5 - (lg_sl ([.ref (ad (3 * i)), .ref (ad (24 + 5 * j)), .int (nI x)])).length) Slot.unset).toArray = ls at hl ⊢
  have hl : lv_has ls 5 [(0, .ref (ad (3 * i))), (1, .ref (ad (24 + 5 * j))), (2, .int (nI x))] := hl
  show W p l e ({ frames := 2, cells := 0, slots := 0, locals := 49 } : Room) s m ([.ref (ad (3 * i)), .ref (ad (24 + 5 * j)), .int (nI x)]).toArray below meth c s.heap [] 0 0 (MQ below (vp_Si (fun r => r = nI (cntB (fun k => firstB (S.2.1 j).2.2.1 (S.1 i).1 k && decide ((S.2.1 j).2.2.1 ((S.1 i).1 k) < (S.2.1 j).2.2.1 x)) (S.1 i).2.2))) ([.ref (ad (3 * i)), .ref (ad (24 + 5 * j)), .int (nI x)]).toArray s 0 0 (fun _ => False)) (F0 m 0 ls [])
  have hn := hro.1
  refine lv_iconst (v := nI 0) hx hb dX2_lotsAhead_0 (by decide) ?_
  refine lv_istore_n (lv' := [(3, .int (nI 0)), (0, .ref (ad (3 * i))), (1, .ref (ad (24 + 5 * j))), (2, .int (nI x))]) hx hb dX2_lotsAhead_1 rfl hl (by decide) rfl (fun ls hl => ?_)
  refine lv_iconst (v := nI 0) hx hb dX2_lotsAhead_2 (by decide) ?_
  refine lv_istore (lv' := [(4, .int (nI 0)), (3, .int (nI 0)), (0, .ref (ad (3 * i))), (1, .ref (ad (24 + 5 * j))), (2, .int (nI x))]) hx hb dX2_lotsAhead_3 hl (by decide) rfl (fun ls hl => ?_)
  have loop5 : ∀ (fuel : Nat) (q k : Nat) (hk : k ≤ (S.1 i).2.2) (hq : q = cntB (fun k => firstB (S.2.1 j).2.2.1 (S.1 i).1 k && decide ((S.2.1 j).2.2.1 ((S.1 i).1 k) < (S.2.1 j).2.2.1 x)) k), (S.1 i).2.2 - k < fuel → ∀ ls : Array Slot, lv_has ls 5 [(0, .ref (ad (3 * i))), (1, .ref (ad (24 + 5 * j))), (2, .int (nI x)), (3, .int (nI q)), (4, .int (nI k))] → W p l e ({ frames := 2, cells := 0, slots := 0, locals := 49 } : Room) s m ([.ref (ad (3 * i)), .ref (ad (24 + 5 * j)), .int (nI x)]).toArray below meth c s.heap [] 0 0 (MQ below (vp_Si (fun r => r = nI (cntB (fun k => firstB (S.2.1 j).2.2.1 (S.1 i).1 k && decide ((S.2.1 j).2.2.1 ((S.1 i).1 k) < (S.2.1 j).2.2.1 x)) (S.1 i).2.2))) ([.ref (ad (3 * i)), .ref (ad (24 + 5 * j)), .int (nI x)]).toArray s 0 0 (fun _ => False)) (F0 m 5 ls []) := by
    intro fuel
    induction fuel with
    | zero => intro q k hk hq hf; exact absurd hf (Nat.not_lt_zero _)
    | succ fuel ih5 =>
      intro q k hk hq hf ls hl
      refine lv_iload hx hb dX2_lotsAhead_5 (lv_at hl 4 rfl) ?_
      refine lv_aload_n hx hb dX2_lotsAhead_7 rfl (lv_at hl 0 rfl) ?_
      refine kr_gn (n := (S.1 i).2.2) hx hb hts hin2 hown hX hi rfl (hts (.fieldLink RX2 18 "Orderlattice$Row" "many" "I") (tm 27 (by decide +kernel) rfl)) dX2_lotsAhead_8 ?_
      refine kn_icmp_ge (tgt := 47) hx hb (by omega) (by omega) dX2_lotsAhead_11 (by decide) (fun c1 => ?_) (fun c1 => ?_)
      · skip
        refine lv_iload_n hx hb dX2_lotsAhead_47 rfl (lv_at hl 3 rfl) ?_
        exact W.iret (v := nI q) hx hb hr (fun t9 ht9 hW9 => ⟨_, rfl, (by rw [hq, show k = (S.1 i).2.2 by omega]), ht9⟩) (fun _ h => nomatch h) dX2_lotsAhead_48
      · skip
        refine lv_aload_n hx hb dX2_lotsAhead_14 rfl (lv_at hl 1 rfl) ?_
        refine lv_aload_n hx hb dX2_lotsAhead_15 rfl (lv_at hl 0 rfl) ?_
        refine lv_iload hx hb dX2_lotsAhead_16 (lv_at hl 4 rfl) ?_
        refine kx_cr (v := nI (((S.1 i).1) k)) (va_runV (As := [.int (nI k)]) (rest := [.ref (ad (24 + 5 * j))]) ⟨hx, hb, hml, hown, hts⟩ (m_X2_valueOn l dC dI ad S i k hi (by omega)) (cwV 1 hts gX2_lotsAhead_X2_valueOn rfl rfl rfl hdX2_valueOn_1 ⟨Nat.le_of_ble_eq_true rfl, Nat.le_of_ble_eq_true rfl⟩) (hX.preRow hi) rfl rfl hl.1 rfl (lv_room (Nat.le_of_ble_eq_true rfl)) dX2_lotsAhead_18 ⟨Nat.le_of_ble_eq_true rfl, Nat.le_of_ble_eq_true rfl⟩) (fun _ h => h) ?_
        refine lv_iload_n hx hb dX2_lotsAhead_21 rfl (lv_at hl 2 rfl) ?_
        refine kx_cr (v := cmpI (((S.2.1 j).2.2.1) (((S.1 i).1) k)) (((S.2.1 j).2.2.1) x)) (va_runV (As := [.int (nI (((S.1 i).1) k)), .int (nI x)]) (rest := []) ⟨hx, hb, hml, hown, hts⟩ (m_X1_compared l dC dI ad S j (((S.1 i).1) k) x hj ho (hro.2 _ (by omega)).1 (by omega)) (cwV 2 hts gX2_lotsAhead_X1_compared rfl rfl rfl hdX1_compared_2 ⟨Nat.le_of_ble_eq_true rfl, Nat.le_of_ble_eq_true rfl⟩) (hX.preOrd hj) rfl rfl hl.1 rfl (lv_room (Nat.le_of_ble_eq_true rfl)) dX2_lotsAhead_22 ⟨Nat.le_of_ble_eq_true rfl, Nat.le_of_ble_eq_true rfl⟩) (fun _ h => h) ?_
        refine kc_if_ge (tgt := 41) hx hb dX2_lotsAhead_25 (by decide) (fun c2 => ?_) (fun c2 => ?_)
        · skip
          have hc := c2
          refine lv_iinc (v := nI (k + 1)) (lv' := [(4, .int (nI (k + 1))), (0, .ref (ad (3 * i))), (1, .ref (ad (24 + 5 * j))), (2, .int (nI x)), (3, .int (nI q))]) hx hb dX2_lotsAhead_41 hl (k := 4) rfl (nI_1 k) (by decide) rfl (fun ls hl => ?_)
          refine lv_goto (tgt := 5) hx hb dX2_lotsAhead_44 (by decide) ?_
          exact ih5  q (k + 1) (by omega) (by rw [cntB_f (by rw [decide_eq_false (by omega), Bool.and_false]), hq]) (by omega) _ (lv_sub hl [1, 2, 3, 4, 0] rfl)
        · skip
          have hc := c2
          refine lv_aload_n hx hb dX2_lotsAhead_28 rfl (lv_at hl 0 rfl) ?_
          refine lv_aload_n hx hb dX2_lotsAhead_29 rfl (lv_at hl 1 rfl) ?_
          refine lv_iload hx hb dX2_lotsAhead_30 (lv_at hl 4 rfl) ?_
          refine kx_cr (v := bI (firstB (S.2.1 j).2.2.1 (S.1 i).1 k)) (va_runV (As := [.ref (ad (24 + 5 * j)), .int (nI k)]) (rest := []) ⟨hx, hb, hml, hown, hts⟩ (m_X2_isFirstOfLot l dC dI ad S i j k hi hj hro ho (by omega)) (cwV 2 hts gX2_lotsAhead_X2_isFirstOfLot rfl rfl rfl hdX2_isFirstOfLot_2 ⟨Nat.le_of_ble_eq_true rfl, Nat.le_of_ble_eq_true rfl⟩) (hX.preRow hi) rfl rfl hl.1 rfl (lv_room (Nat.le_of_ble_eq_true rfl)) dX2_lotsAhead_32 ⟨Nat.le_of_ble_eq_true rfl, Nat.le_of_ble_eq_true rfl⟩) (fun _ h => h) ?_
          refine kb_if_eq (tgt := 41) hx hb dX2_lotsAhead_35 (by decide) (fun c3 => ?_) (fun c3 => ?_)
          · skip
            have hd := c3
            refine lv_iinc (v := nI (k + 1)) (lv' := [(4, .int (nI (k + 1))), (0, .ref (ad (3 * i))), (1, .ref (ad (24 + 5 * j))), (2, .int (nI x)), (3, .int (nI q))]) hx hb dX2_lotsAhead_41 hl (k := 4) rfl (nI_1 k) (by decide) rfl (fun ls hl => ?_)
            refine lv_goto (tgt := 5) hx hb dX2_lotsAhead_44 (by decide) ?_
            exact ih5  q (k + 1) (by omega) (by rw [cntB_f (by rw [hd, Bool.false_and]), hq]) (by omega) _ (lv_sub hl [1, 2, 3, 4, 0] rfl)
          · skip
            have hd := c3
            refine lv_iinc (v := nI (q + 1)) (lv' := [(3, .int (nI (q + 1))), (0, .ref (ad (3 * i))), (1, .ref (ad (24 + 5 * j))), (2, .int (nI x)), (4, .int (nI k))]) hx hb dX2_lotsAhead_38 hl (k := 3) rfl (nI_1 q) (by decide) rfl (fun ls hl => ?_)
            refine lv_iinc (v := nI (k + 1)) (lv' := [(4, .int (nI (k + 1))), (3, .int (nI (q + 1))), (0, .ref (ad (3 * i))), (1, .ref (ad (24 + 5 * j))), (2, .int (nI x))]) hx hb dX2_lotsAhead_41 hl (k := 4) rfl (nI_1 k) (by decide) rfl (fun ls hl => ?_)
            refine lv_goto (tgt := 5) hx hb dX2_lotsAhead_44 (by decide) ?_
            exact ih5  (q + 1) (k + 1) (by omega) (by rw [cntB_t (by rw [hd, decide_eq_true hc, Bool.true_and]), hq]) (by omega) _ (lv_sub hl [2, 3, 4, 1, 0] rfl)
  exact loop5 ((S.1 i).2.2 - 0 + 1) 0 0 (by omega) rfl (by omega) _ (lv_sub hl [2, 3, 4, 1, 0] rfl)
set_option maxHeartbeats 4000000 in
set_option maxRecDepth 100000 in
theorem m_X2_firstPlaceBy (l : Launch) (dC : Nat → ClassId) (dI : Nat → Nat → Nat) (ad : Nat → Nat) (S : XS) (i j : Nat) (hi : i < 8) (hj : j < 6) (hro : rowOK (S.1 i)) (ho : ordOK (S.2.1 j)) : Met l yX2_firstPlaceBy wsX2_firstPlaceBy ({ frames := 1, cells := 0, slots := 0, locals := 26 } : Room) (va_Pc [.ref (ad (3 * i)), .ref (ad (24 + 5 * j))] (PX dC dI ad S)) (vp_Si (fun r => r = oI (bestB (fun _ => true) (fun a b => decide ((S.2.1 j).2.2.1 ((S.1 i).1 a) < (S.2.1 j).2.2.1 ((S.1 i).1 b))) (S.1 i).2.2))) 0 0 (fun _ => False) := by
  refine Met.ofW (cc := cX2_firstPlaceBy) (maxL := 4) (ret := (some .int)) pl_X2 rfl ?_
  intro p e s m args below meth c s₁ B hml hv
  obtain ⟨rfl, hPX⟩ := hv
  have hx := B.exec
  have hb := B.bytes
  have hr := B.returns
  have hts := atoms_spec (ws := wsX2_firstPlaceBy) B.pre
  have hown : s.vm.findClass RX2 = some m.cls := findClass_of_methodNamed B.named
  have hlocks := B.notSynchronized
  have hin2 : ∀ w ∈ u_ws RX2 TX2 3, w ∈ wsX2_firstPlaceBy := tu 1322 (by decide +kernel) rfl
  have hX := WX.of hPX
  have hl := lv_entry ([.ref (ad (3 * i)), .ref (ad (24 + 5 * j))]) (n := 4) (Nat.le_of_ble_eq_true rfl)
  rw [lg_entry_eq]
  generalize (lg_sl ([.ref (ad (3 * i)), .ref (ad (24 + 5 * j))]) ++ List.replicate (4 - (lg_sl ([.ref (ad (3 * i)), .ref (ad (24 + 5 * j))])).length) Slot.unset).toArray = ls at hl ⊢
  have hl : lv_has ls 4 [(0, .ref (ad (3 * i))), (1, .ref (ad (24 + 5 * j)))] := hl
  show W p l e ({ frames := 1, cells := 0, slots := 0, locals := 26 } : Room) s m ([.ref (ad (3 * i)), .ref (ad (24 + 5 * j))]).toArray below meth c s.heap [] 0 0 (MQ below (vp_Si (fun r => r = oI (bestB (fun _ => true) (fun a b => decide ((S.2.1 j).2.2.1 ((S.1 i).1 a) < (S.2.1 j).2.2.1 ((S.1 i).1 b))) (S.1 i).2.2))) ([.ref (ad (3 * i)), .ref (ad (24 + 5 * j))]).toArray s 0 0 (fun _ => False)) (F0 m 0 ls [])
  have hn := hro.1
  refine lv_iconst (v := (-1)) hx hb dX2_firstPlaceBy_0 (by decide) ?_
  refine lv_istore_n (lv' := [(2, .int (-1)), (0, .ref (ad (3 * i))), (1, .ref (ad (24 + 5 * j)))]) hx hb dX2_firstPlaceBy_1 rfl hl (by decide) rfl (fun ls hl => ?_)
  refine lv_iconst (v := nI 0) hx hb dX2_firstPlaceBy_2 (by decide) ?_
  refine lv_istore_n (lv' := [(3, .int (nI 0)), (2, .int (-1)), (0, .ref (ad (3 * i))), (1, .ref (ad (24 + 5 * j)))]) hx hb dX2_firstPlaceBy_3 rfl hl (by decide) rfl (fun ls hl => ?_)
  have loop4 : ∀ (fuel : Nat) (o : Option Nat) (k : Nat) (hk : k ≤ (S.1 i).2.2) (hq : o = bestB (fun _ => true) (fun a b => decide ((S.2.1 j).2.2.1 ((S.1 i).1 a) < (S.2.1 j).2.2.1 ((S.1 i).1 b))) k), (S.1 i).2.2 - k < fuel → ∀ ls : Array Slot, lv_has ls 4 [(0, .ref (ad (3 * i))), (1, .ref (ad (24 + 5 * j))), (2, .int (oI o)), (3, .int (nI k))] → W p l e ({ frames := 1, cells := 0, slots := 0, locals := 26 } : Room) s m ([.ref (ad (3 * i)), .ref (ad (24 + 5 * j))]).toArray below meth c s.heap [] 0 0 (MQ below (vp_Si (fun r => r = oI (bestB (fun _ => true) (fun a b => decide ((S.2.1 j).2.2.1 ((S.1 i).1 a) < (S.2.1 j).2.2.1 ((S.1 i).1 b))) (S.1 i).2.2))) ([.ref (ad (3 * i)), .ref (ad (24 + 5 * j))]).toArray s 0 0 (fun _ => False)) (F0 m 4 ls []) := by
    intro fuel
    induction fuel with
    | zero => intro o k hk hq hf; exact absurd hf (Nat.not_lt_zero _)
    | succ fuel ih4 =>
      intro o k hk hq hf ls hl
      refine lv_iload_n hx hb dX2_firstPlaceBy_4 rfl (lv_at hl 3 rfl) ?_
      refine lv_aload_n hx hb dX2_firstPlaceBy_5 rfl (lv_at hl 0 rfl) ?_
      refine kr_gn (n := (S.1 i).2.2) hx hb hts hin2 hown hX hi rfl (hts (.fieldLink RX2 18 "Orderlattice$Row" "many" "I") (tm 27 (by decide +kernel) rfl)) dX2_firstPlaceBy_6 ?_
      refine kn_icmp_ge (tgt := 42) hx hb (by omega) (by omega) dX2_firstPlaceBy_9 (by decide) (fun c1 => ?_) (fun c1 => ?_)
      · skip
        refine lv_iload_n hx hb dX2_firstPlaceBy_42 rfl (lv_at hl 2 rfl) ?_
        exact W.iret (v := (oI o)) hx hb hr (fun t9 ht9 hW9 => ⟨_, rfl, (by rw [hq, show k = (S.1 i).2.2 by omega]), ht9⟩) (fun _ h => nomatch h) dX2_firstPlaceBy_43
      · skip
        rcases o with _ | bb
        · skip
          refine lv_iload_n hx hb dX2_firstPlaceBy_12 rfl (lv_at hl 2 rfl) ?_
          refine lv_iconst (v := (-1)) hx hb dX2_firstPlaceBy_13 (by decide) ?_
          refine lv_icmp_eq (tgt := 34) hx hb dX2_firstPlaceBy_14 (by decide) (fun c2 => ?_) (fun c2 => absurd rfl c2)
          refine lv_iload_n hx hb dX2_firstPlaceBy_34 rfl (lv_at hl 3 rfl) ?_
          refine lv_istore_n (lv' := [(2, .int (nI k)), (0, .ref (ad (3 * i))), (1, .ref (ad (24 + 5 * j))), (3, .int (nI k))]) hx hb dX2_firstPlaceBy_35 rfl hl (by decide) rfl (fun ls hl => ?_)
          refine lv_iinc (v := nI (k + 1)) (lv' := [(3, .int (nI (k + 1))), (2, .int (nI k)), (0, .ref (ad (3 * i))), (1, .ref (ad (24 + 5 * j)))]) hx hb dX2_firstPlaceBy_36 hl (k := 3) rfl (nI_1 k) (by decide) rfl (fun ls hl => ?_)
          refine lv_goto (tgt := 4) hx hb dX2_firstPlaceBy_39 (by decide) ?_
          exact ih4  (some k) (k + 1) (by omega) (bestB_first rfl hq.symm).symm (by omega) _ (lv_sub hl [2, 3, 1, 0] rfl)
        · skip
          have hbb := (bestB_lt hq.symm).1
          have hl : lv_has ls 4 [(0, .ref (ad (3 * i))), (1, .ref (ad (24 + 5 * j))), (2, .int (nI bb)), (3, .int (nI k))] := hl
          refine lv_iload_n hx hb dX2_firstPlaceBy_12 rfl (lv_at hl 2 rfl) ?_
          refine lv_iconst (v := (-1)) hx hb dX2_firstPlaceBy_13 (by decide) ?_
          refine lv_icmp_eq (tgt := 34) hx hb dX2_firstPlaceBy_14 (by decide) (fun c3 => absurd c3 (nI_nm1 (by omega))) (fun c3 => ?_)
          refine lv_aload_n hx hb dX2_firstPlaceBy_17 rfl (lv_at hl 1 rfl) ?_
          refine lv_aload_n hx hb dX2_firstPlaceBy_18 rfl (lv_at hl 0 rfl) ?_
          refine lv_iload_n hx hb dX2_firstPlaceBy_19 rfl (lv_at hl 3 rfl) ?_
          refine kx_cr (v := nI (((S.1 i).1) k)) (va_runV (As := [.int (nI k)]) (rest := [.ref (ad (24 + 5 * j))]) ⟨hx, hb, hml, hown, hts⟩ (m_X2_valueOn l dC dI ad S i k hi (by omega)) (cwV 1 hts gX2_firstPlaceBy_X2_valueOn rfl rfl rfl hdX2_valueOn_1 ⟨Nat.le_of_ble_eq_true rfl, Nat.le_of_ble_eq_true rfl⟩) (hX.preRow hi) rfl rfl hl.1 rfl (lv_room (Nat.le_of_ble_eq_true rfl)) dX2_firstPlaceBy_20 ⟨Nat.le_of_ble_eq_true rfl, Nat.le_of_ble_eq_true rfl⟩) (fun _ h => h) ?_
          refine lv_aload_n hx hb dX2_firstPlaceBy_23 rfl (lv_at hl 0 rfl) ?_
          refine lv_iload_n hx hb dX2_firstPlaceBy_24 rfl (lv_at hl 2 rfl) ?_
          refine kx_cr (v := nI (((S.1 i).1) bb)) (va_runV (As := [.int (nI bb)]) (rest := [.int (nI (((S.1 i).1) k)), .ref (ad (24 + 5 * j))]) ⟨hx, hb, hml, hown, hts⟩ (m_X2_valueOn l dC dI ad S i bb hi (by omega)) (cwV 1 hts gX2_firstPlaceBy_X2_valueOn rfl rfl rfl hdX2_valueOn_1 ⟨Nat.le_of_ble_eq_true rfl, Nat.le_of_ble_eq_true rfl⟩) (hX.preRow hi) rfl rfl hl.1 rfl (lv_room (Nat.le_of_ble_eq_true rfl)) dX2_firstPlaceBy_25 ⟨Nat.le_of_ble_eq_true rfl, Nat.le_of_ble_eq_true rfl⟩) (fun _ h => h) ?_
          refine kx_cr (v := cmpI (((S.2.1 j).2.2.1) (((S.1 i).1) k)) (((S.2.1 j).2.2.1) (((S.1 i).1) bb))) (va_runV (As := [.int (nI (((S.1 i).1) k)), .int (nI (((S.1 i).1) bb))]) (rest := []) ⟨hx, hb, hml, hown, hts⟩ (m_X1_compared l dC dI ad S j (((S.1 i).1) k) (((S.1 i).1) bb) hj ho (hro.2 _ (by omega)).1 (hro.2 _ (by omega)).1) (cwV 2 hts gX2_firstPlaceBy_X1_compared rfl rfl rfl hdX1_compared_2 ⟨Nat.le_of_ble_eq_true rfl, Nat.le_of_ble_eq_true rfl⟩) (hX.preOrd hj) rfl rfl hl.1 rfl (lv_room (Nat.le_of_ble_eq_true rfl)) dX2_firstPlaceBy_28 ⟨Nat.le_of_ble_eq_true rfl, Nat.le_of_ble_eq_true rfl⟩) (fun _ h => h) ?_
          refine kc_if_ge (tgt := 36) hx hb dX2_firstPlaceBy_31 (by decide) (fun c4 => ?_) (fun c4 => ?_)
          · skip
            have hc := c4
            refine lv_iinc (v := nI (k + 1)) (lv' := [(3, .int (nI (k + 1))), (0, .ref (ad (3 * i))), (1, .ref (ad (24 + 5 * j))), (2, .int (nI bb))]) hx hb dX2_firstPlaceBy_36 hl (k := 3) rfl (nI_1 k) (by decide) rfl (fun ls hl => ?_)
            refine lv_goto (tgt := 4) hx hb dX2_firstPlaceBy_39 (by decide) ?_
            exact ih4  (some bb) (k + 1) (by omega) (bestB_old rfl hq.symm (decide_eq_false (by omega))).symm (by omega) _ (lv_sub hl [1, 2, 3, 0] rfl)
          · skip
            have hc := c4
            refine lv_iload_n hx hb dX2_firstPlaceBy_34 rfl (lv_at hl 3 rfl) ?_
            refine lv_istore_n (lv' := [(2, .int (nI k)), (0, .ref (ad (3 * i))), (1, .ref (ad (24 + 5 * j))), (3, .int (nI k))]) hx hb dX2_firstPlaceBy_35 rfl hl (by decide) rfl (fun ls hl => ?_)
            refine lv_iinc (v := nI (k + 1)) (lv' := [(3, .int (nI (k + 1))), (2, .int (nI k)), (0, .ref (ad (3 * i))), (1, .ref (ad (24 + 5 * j)))]) hx hb dX2_firstPlaceBy_36 hl (k := 3) rfl (nI_1 k) (by decide) rfl (fun ls hl => ?_)
            refine lv_goto (tgt := 4) hx hb dX2_firstPlaceBy_39 (by decide) ?_
            exact ih4  (some k) (k + 1) (by omega) (bestB_new rfl hq.symm (decide_eq_true hc)).symm (by omega) _ (lv_sub hl [2, 3, 1, 0] rfl)
  exact loop4 ((S.1 i).2.2 - 0 + 1) none 0 (by omega) rfl (by omega) _ (lv_sub hl [2, 3, 1, 0] rfl)
set_option maxHeartbeats 4000000 in
set_option maxRecDepth 100000 in
theorem m_X2_lastPlaceBy (l : Launch) (dC : Nat → ClassId) (dI : Nat → Nat → Nat) (ad : Nat → Nat) (S : XS) (i j : Nat) (hi : i < 8) (hj : j < 6) (hro : rowOK (S.1 i)) (ho : ordOK (S.2.1 j)) : Met l yX2_lastPlaceBy wsX2_lastPlaceBy ({ frames := 1, cells := 0, slots := 0, locals := 26 } : Room) (va_Pc [.ref (ad (3 * i)), .ref (ad (24 + 5 * j))] (PX dC dI ad S)) (vp_Si (fun r => r = oI (bestB (fun _ => true) (fun a b => decide ((S.2.1 j).2.2.1 ((S.1 i).1 b) < (S.2.1 j).2.2.1 ((S.1 i).1 a))) (S.1 i).2.2))) 0 0 (fun _ => False) := by
  refine Met.ofW (cc := cX2_lastPlaceBy) (maxL := 4) (ret := (some .int)) pl_X2 rfl ?_
  intro p e s m args below meth c s₁ B hml hv
  obtain ⟨rfl, hPX⟩ := hv
  have hx := B.exec
  have hb := B.bytes
  have hr := B.returns
  have hts := atoms_spec (ws := wsX2_lastPlaceBy) B.pre
  have hown : s.vm.findClass RX2 = some m.cls := findClass_of_methodNamed B.named
  have hlocks := B.notSynchronized
  have hin2 : ∀ w ∈ u_ws RX2 TX2 3, w ∈ wsX2_lastPlaceBy := tu 1322 (by decide +kernel) rfl
  have hX := WX.of hPX
  have hl := lv_entry ([.ref (ad (3 * i)), .ref (ad (24 + 5 * j))]) (n := 4) (Nat.le_of_ble_eq_true rfl)
  rw [lg_entry_eq]
  generalize (lg_sl ([.ref (ad (3 * i)), .ref (ad (24 + 5 * j))]) ++ List.replicate (4 - (lg_sl ([.ref (ad (3 * i)), .ref (ad (24 + 5 * j))])).length) Slot.unset).toArray = ls at hl ⊢
  have hl : lv_has ls 4 [(0, .ref (ad (3 * i))), (1, .ref (ad (24 + 5 * j)))] := hl
  show W p l e ({ frames := 1, cells := 0, slots := 0, locals := 26 } : Room) s m ([.ref (ad (3 * i)), .ref (ad (24 + 5 * j))]).toArray below meth c s.heap [] 0 0 (MQ below (vp_Si (fun r => r = oI (bestB (fun _ => true) (fun a b => decide ((S.2.1 j).2.2.1 ((S.1 i).1 b) < (S.2.1 j).2.2.1 ((S.1 i).1 a))) (S.1 i).2.2))) ([.ref (ad (3 * i)), .ref (ad (24 + 5 * j))]).toArray s 0 0 (fun _ => False)) (F0 m 0 ls [])
  have hn := hro.1
  refine lv_iconst (v := (-1)) hx hb dX2_lastPlaceBy_0 (by decide) ?_
  refine lv_istore_n (lv' := [(2, .int (-1)), (0, .ref (ad (3 * i))), (1, .ref (ad (24 + 5 * j)))]) hx hb dX2_lastPlaceBy_1 rfl hl (by decide) rfl (fun ls hl => ?_)
  refine lv_iconst (v := nI 0) hx hb dX2_lastPlaceBy_2 (by decide) ?_
  refine lv_istore_n (lv' := [(3, .int (nI 0)), (2, .int (-1)), (0, .ref (ad (3 * i))), (1, .ref (ad (24 + 5 * j)))]) hx hb dX2_lastPlaceBy_3 rfl hl (by decide) rfl (fun ls hl => ?_)
  have loop4 : ∀ (fuel : Nat) (o : Option Nat) (k : Nat) (hk : k ≤ (S.1 i).2.2) (hq : o = bestB (fun _ => true) (fun a b => decide ((S.2.1 j).2.2.1 ((S.1 i).1 b) < (S.2.1 j).2.2.1 ((S.1 i).1 a))) k), (S.1 i).2.2 - k < fuel → ∀ ls : Array Slot, lv_has ls 4 [(0, .ref (ad (3 * i))), (1, .ref (ad (24 + 5 * j))), (2, .int (oI o)), (3, .int (nI k))] → W p l e ({ frames := 1, cells := 0, slots := 0, locals := 26 } : Room) s m ([.ref (ad (3 * i)), .ref (ad (24 + 5 * j))]).toArray below meth c s.heap [] 0 0 (MQ below (vp_Si (fun r => r = oI (bestB (fun _ => true) (fun a b => decide ((S.2.1 j).2.2.1 ((S.1 i).1 b) < (S.2.1 j).2.2.1 ((S.1 i).1 a))) (S.1 i).2.2))) ([.ref (ad (3 * i)), .ref (ad (24 + 5 * j))]).toArray s 0 0 (fun _ => False)) (F0 m 4 ls []) := by
    intro fuel
    induction fuel with
    | zero => intro o k hk hq hf; exact absurd hf (Nat.not_lt_zero _)
    | succ fuel ih4 =>
      intro o k hk hq hf ls hl
      refine lv_iload_n hx hb dX2_lastPlaceBy_4 rfl (lv_at hl 3 rfl) ?_
      refine lv_aload_n hx hb dX2_lastPlaceBy_5 rfl (lv_at hl 0 rfl) ?_
      refine kr_gn (n := (S.1 i).2.2) hx hb hts hin2 hown hX hi rfl (hts (.fieldLink RX2 18 "Orderlattice$Row" "many" "I") (tm 27 (by decide +kernel) rfl)) dX2_lastPlaceBy_6 ?_
      refine kn_icmp_ge (tgt := 42) hx hb (by omega) (by omega) dX2_lastPlaceBy_9 (by decide) (fun c1 => ?_) (fun c1 => ?_)
      · skip
        refine lv_iload_n hx hb dX2_lastPlaceBy_42 rfl (lv_at hl 2 rfl) ?_
        exact W.iret (v := (oI o)) hx hb hr (fun t9 ht9 hW9 => ⟨_, rfl, (by rw [hq, show k = (S.1 i).2.2 by omega]), ht9⟩) (fun _ h => nomatch h) dX2_lastPlaceBy_43
      · skip
        rcases o with _ | bb
        · skip
          refine lv_iload_n hx hb dX2_lastPlaceBy_12 rfl (lv_at hl 2 rfl) ?_
          refine lv_iconst (v := (-1)) hx hb dX2_lastPlaceBy_13 (by decide) ?_
          refine lv_icmp_eq (tgt := 34) hx hb dX2_lastPlaceBy_14 (by decide) (fun c2 => ?_) (fun c2 => absurd rfl c2)
          refine lv_iload_n hx hb dX2_lastPlaceBy_34 rfl (lv_at hl 3 rfl) ?_
          refine lv_istore_n (lv' := [(2, .int (nI k)), (0, .ref (ad (3 * i))), (1, .ref (ad (24 + 5 * j))), (3, .int (nI k))]) hx hb dX2_lastPlaceBy_35 rfl hl (by decide) rfl (fun ls hl => ?_)
          refine lv_iinc (v := nI (k + 1)) (lv' := [(3, .int (nI (k + 1))), (2, .int (nI k)), (0, .ref (ad (3 * i))), (1, .ref (ad (24 + 5 * j)))]) hx hb dX2_lastPlaceBy_36 hl (k := 3) rfl (nI_1 k) (by decide) rfl (fun ls hl => ?_)
          refine lv_goto (tgt := 4) hx hb dX2_lastPlaceBy_39 (by decide) ?_
          exact ih4  (some k) (k + 1) (by omega) (bestB_first rfl hq.symm).symm (by omega) _ (lv_sub hl [2, 3, 1, 0] rfl)
        · skip
          have hbb := (bestB_lt hq.symm).1
          have hl : lv_has ls 4 [(0, .ref (ad (3 * i))), (1, .ref (ad (24 + 5 * j))), (2, .int (nI bb)), (3, .int (nI k))] := hl
          refine lv_iload_n hx hb dX2_lastPlaceBy_12 rfl (lv_at hl 2 rfl) ?_
          refine lv_iconst (v := (-1)) hx hb dX2_lastPlaceBy_13 (by decide) ?_
          refine lv_icmp_eq (tgt := 34) hx hb dX2_lastPlaceBy_14 (by decide) (fun c3 => absurd c3 (nI_nm1 (by omega))) (fun c3 => ?_)
          refine lv_aload_n hx hb dX2_lastPlaceBy_17 rfl (lv_at hl 1 rfl) ?_
          refine lv_aload_n hx hb dX2_lastPlaceBy_18 rfl (lv_at hl 0 rfl) ?_
          refine lv_iload_n hx hb dX2_lastPlaceBy_19 rfl (lv_at hl 3 rfl) ?_
          refine kx_cr (v := nI (((S.1 i).1) k)) (va_runV (As := [.int (nI k)]) (rest := [.ref (ad (24 + 5 * j))]) ⟨hx, hb, hml, hown, hts⟩ (m_X2_valueOn l dC dI ad S i k hi (by omega)) (cwV 1 hts gX2_lastPlaceBy_X2_valueOn rfl rfl rfl hdX2_valueOn_1 ⟨Nat.le_of_ble_eq_true rfl, Nat.le_of_ble_eq_true rfl⟩) (hX.preRow hi) rfl rfl hl.1 rfl (lv_room (Nat.le_of_ble_eq_true rfl)) dX2_lastPlaceBy_20 ⟨Nat.le_of_ble_eq_true rfl, Nat.le_of_ble_eq_true rfl⟩) (fun _ h => h) ?_
          refine lv_aload_n hx hb dX2_lastPlaceBy_23 rfl (lv_at hl 0 rfl) ?_
          refine lv_iload_n hx hb dX2_lastPlaceBy_24 rfl (lv_at hl 2 rfl) ?_
          refine kx_cr (v := nI (((S.1 i).1) bb)) (va_runV (As := [.int (nI bb)]) (rest := [.int (nI (((S.1 i).1) k)), .ref (ad (24 + 5 * j))]) ⟨hx, hb, hml, hown, hts⟩ (m_X2_valueOn l dC dI ad S i bb hi (by omega)) (cwV 1 hts gX2_lastPlaceBy_X2_valueOn rfl rfl rfl hdX2_valueOn_1 ⟨Nat.le_of_ble_eq_true rfl, Nat.le_of_ble_eq_true rfl⟩) (hX.preRow hi) rfl rfl hl.1 rfl (lv_room (Nat.le_of_ble_eq_true rfl)) dX2_lastPlaceBy_25 ⟨Nat.le_of_ble_eq_true rfl, Nat.le_of_ble_eq_true rfl⟩) (fun _ h => h) ?_
          refine kx_cr (v := cmpI (((S.2.1 j).2.2.1) (((S.1 i).1) k)) (((S.2.1 j).2.2.1) (((S.1 i).1) bb))) (va_runV (As := [.int (nI (((S.1 i).1) k)), .int (nI (((S.1 i).1) bb))]) (rest := []) ⟨hx, hb, hml, hown, hts⟩ (m_X1_compared l dC dI ad S j (((S.1 i).1) k) (((S.1 i).1) bb) hj ho (hro.2 _ (by omega)).1 (hro.2 _ (by omega)).1) (cwV 2 hts gX2_lastPlaceBy_X1_compared rfl rfl rfl hdX1_compared_2 ⟨Nat.le_of_ble_eq_true rfl, Nat.le_of_ble_eq_true rfl⟩) (hX.preOrd hj) rfl rfl hl.1 rfl (lv_room (Nat.le_of_ble_eq_true rfl)) dX2_lastPlaceBy_28 ⟨Nat.le_of_ble_eq_true rfl, Nat.le_of_ble_eq_true rfl⟩) (fun _ h => h) ?_
          refine kc_if_le (tgt := 36) hx hb dX2_lastPlaceBy_31 (by decide) (fun c4 => ?_) (fun c4 => ?_)
          · skip
            have hc := c4
            refine lv_iinc (v := nI (k + 1)) (lv' := [(3, .int (nI (k + 1))), (0, .ref (ad (3 * i))), (1, .ref (ad (24 + 5 * j))), (2, .int (nI bb))]) hx hb dX2_lastPlaceBy_36 hl (k := 3) rfl (nI_1 k) (by decide) rfl (fun ls hl => ?_)
            refine lv_goto (tgt := 4) hx hb dX2_lastPlaceBy_39 (by decide) ?_
            exact ih4  (some bb) (k + 1) (by omega) (bestB_old rfl hq.symm (decide_eq_false (by omega))).symm (by omega) _ (lv_sub hl [1, 2, 3, 0] rfl)
          · skip
            have hc := c4
            refine lv_iload_n hx hb dX2_lastPlaceBy_34 rfl (lv_at hl 3 rfl) ?_
            refine lv_istore_n (lv' := [(2, .int (nI k)), (0, .ref (ad (3 * i))), (1, .ref (ad (24 + 5 * j))), (3, .int (nI k))]) hx hb dX2_lastPlaceBy_35 rfl hl (by decide) rfl (fun ls hl => ?_)
            refine lv_iinc (v := nI (k + 1)) (lv' := [(3, .int (nI (k + 1))), (2, .int (nI k)), (0, .ref (ad (3 * i))), (1, .ref (ad (24 + 5 * j)))]) hx hb dX2_lastPlaceBy_36 hl (k := 3) rfl (nI_1 k) (by decide) rfl (fun ls hl => ?_)
            refine lv_goto (tgt := 4) hx hb dX2_lastPlaceBy_39 (by decide) ?_
            exact ih4  (some k) (k + 1) (by omega) (bestB_new rfl hq.symm (decide_eq_true hc)).symm (by omega) _ (lv_sub hl [2, 3, 1, 0] rfl)
  exact loop4 ((S.1 i).2.2 - 0 + 1) none 0 (by omega) rfl (by omega) _ (lv_sub hl [2, 3, 1, 0] rfl)
set_option maxHeartbeats 4000000 in
set_option maxRecDepth 100000 in
theorem m_X2_isOnSide (l : Launch) (dC : Nat → ClassId) (dI : Nat → Nat → Nat) (ad : Nat → Nat) (S : XS) (a b h : Nat) (hh : h < 4) : Met l yX2_isOnSide wsX2_isOnSide ({ frames := 0, cells := 0, slots := 0, locals := 0 } : Room) (va_Pc [.int (cmpI a b), .int (nI h)] (PX dC dI ad S)) (vp_Si (fun r => r = bI (sideB h a b))) 0 0 (fun _ => False) := by
  refine Met.ofW (cc := cX2_isOnSide) (maxL := 2) (ret := (some .boolean)) pl_X2 rfl ?_
  intro p e s m args below meth c s₁ B hml hv
  obtain ⟨rfl, hPX⟩ := hv
  have hx := B.exec
  have hb := B.bytes
  have hr := B.returns
  have hts := atoms_spec (ws := wsX2_isOnSide) B.pre
  have hown : s.vm.findClass RX2 = some m.cls := findClass_of_methodNamed B.named
  have hlocks := B.notSynchronized
  have hX := WX.of hPX
  have hl := lv_entry ([.int (cmpI a b), .int (nI h)]) (n := 2) (Nat.le_of_ble_eq_true rfl)
  rw [lg_entry_eq]
  generalize (lg_sl ([.int (cmpI a b), .int (nI h)]) ++ List.replicate (2 - (lg_sl ([.int (cmpI a b), .int (nI h)])).length) Slot.unset).toArray = ls at hl ⊢
  have hl : lv_has ls 2 [(0, .int (cmpI a b)), (1, .int (nI h))] := hl
  show W p l e ({ frames := 0, cells := 0, slots := 0, locals := 0 } : Room) s m ([.int (cmpI a b), .int (nI h)]).toArray below meth c s.heap [] 0 0 (MQ below (vp_Si (fun r => r = bI (sideB h a b))) ([.int (cmpI a b), .int (nI h)]).toArray s 0 0 (fun _ => False)) (F0 m 0 ls [])
  rcases (show h = 0 ∨ h = 1 ∨ h = 2 ∨ h = 3 by omega) with rfl | rfl | rfl | rfl
  · skip
    have hl : lv_has ls 2 [(0, .int (cmpI a b)), (1, .int (nI 0))] := hl
    refine lv_iload_n hx hb dX2_isOnSide_0 rfl (lv_at hl 1 rfl) ?_
    refine lv_tableIn (x := nI 0) (off := 27) (tgt := 28) hx hb dX2_isOnSide_1 (by decide) (by decide) (by decide) (by decide) ?_
    refine lv_iload_n hx hb dX2_isOnSide_28 rfl (lv_at hl 0 rfl) ?_
    refine kc_if_ge (tgt := 36) hx hb dX2_isOnSide_29 (by decide) (fun c1 => ?_) (fun c1 => ?_)
    · skip
      refine lv_iconst (v := nI 0) hx hb dX2_isOnSide_36 (by decide) ?_
      exact W.zret (v := bI false) hx hb hr (bI_narrow _) (fun t9 ht9 hW9 => ⟨_, rfl, (kd_f (by omega)), ht9⟩) (fun _ h => nomatch h) dX2_isOnSide_37
    · skip
      refine lv_iconst (v := nI 1) hx hb dX2_isOnSide_32 (by decide) ?_
      refine lv_goto (tgt := 37) hx hb dX2_isOnSide_33 (by decide) ?_
      exact W.zret (v := bI true) hx hb hr (bI_narrow _) (fun t9 ht9 hW9 => ⟨_, rfl, (kd_t (by omega)), ht9⟩) (fun _ h => nomatch h) dX2_isOnSide_37
  · skip
    have hl : lv_has ls 2 [(0, .int (cmpI a b)), (1, .int (nI 1))] := hl
    refine lv_iload_n hx hb dX2_isOnSide_0 rfl (lv_at hl 1 rfl) ?_
    refine lv_tableIn (x := nI 1) (off := 37) (tgt := 38) hx hb dX2_isOnSide_1 (by decide) (by decide) (by decide) (by decide) ?_
    refine lv_iload_n hx hb dX2_isOnSide_38 rfl (lv_at hl 0 rfl) ?_
    refine kc_if_gt (tgt := 46) hx hb dX2_isOnSide_39 (by decide) (fun c2 => ?_) (fun c2 => ?_)
    · skip
      refine lv_iconst (v := nI 0) hx hb dX2_isOnSide_46 (by decide) ?_
      exact W.zret (v := bI false) hx hb hr (bI_narrow _) (fun t9 ht9 hW9 => ⟨_, rfl, (kd_f (by omega)), ht9⟩) (fun _ h => nomatch h) dX2_isOnSide_47
    · skip
      refine lv_iconst (v := nI 1) hx hb dX2_isOnSide_42 (by decide) ?_
      refine lv_goto (tgt := 47) hx hb dX2_isOnSide_43 (by decide) ?_
      exact W.zret (v := bI true) hx hb hr (bI_narrow _) (fun t9 ht9 hW9 => ⟨_, rfl, (kd_t (by omega)), ht9⟩) (fun _ h => nomatch h) dX2_isOnSide_47
  · skip
    have hl : lv_has ls 2 [(0, .int (cmpI a b)), (1, .int (nI 2))] := hl
    refine lv_iload_n hx hb dX2_isOnSide_0 rfl (lv_at hl 1 rfl) ?_
    refine lv_tableIn (x := nI 2) (off := 47) (tgt := 48) hx hb dX2_isOnSide_1 (by decide) (by decide) (by decide) (by decide) ?_
    refine lv_iload_n hx hb dX2_isOnSide_48 rfl (lv_at hl 0 rfl) ?_
    refine kc_if_lt (tgt := 56) hx hb dX2_isOnSide_49 (by decide) (fun c3 => ?_) (fun c3 => ?_)
    · skip
      refine lv_iconst (v := nI 0) hx hb dX2_isOnSide_56 (by decide) ?_
      exact W.zret (v := bI false) hx hb hr (bI_narrow _) (fun t9 ht9 hW9 => ⟨_, rfl, (kd_f (by omega)), ht9⟩) (fun _ h => nomatch h) dX2_isOnSide_57
    · skip
      refine lv_iconst (v := nI 1) hx hb dX2_isOnSide_52 (by decide) ?_
      refine lv_goto (tgt := 57) hx hb dX2_isOnSide_53 (by decide) ?_
      exact W.zret (v := bI true) hx hb hr (bI_narrow _) (fun t9 ht9 hW9 => ⟨_, rfl, (kd_t (by omega)), ht9⟩) (fun _ h => nomatch h) dX2_isOnSide_57
  · skip
    have hl : lv_has ls 2 [(0, .int (cmpI a b)), (1, .int (nI 3))] := hl
    refine lv_iload_n hx hb dX2_isOnSide_0 rfl (lv_at hl 1 rfl) ?_
    refine lv_tableOut (x := nI 3) (tgt := 58) hx hb dX2_isOnSide_1 (by decide) (by decide) ?_
    refine lv_iload_n hx hb dX2_isOnSide_58 rfl (lv_at hl 0 rfl) ?_
    refine kc_if_le (tgt := 66) hx hb dX2_isOnSide_59 (by decide) (fun c4 => ?_) (fun c4 => ?_)
    · skip
      refine lv_iconst (v := nI 0) hx hb dX2_isOnSide_66 (by decide) ?_
      exact W.zret (v := bI false) hx hb hr (bI_narrow _) (fun t9 ht9 hW9 => ⟨_, rfl, (kd_f (by omega)), ht9⟩) (fun _ h => nomatch h) dX2_isOnSide_67
    · skip
      refine lv_iconst (v := nI 1) hx hb dX2_isOnSide_62 (by decide) ?_
      refine lv_goto (tgt := 67) hx hb dX2_isOnSide_63 (by decide) ?_
      exact W.zret (v := bI true) hx hb hr (bI_narrow _) (fun t9 ht9 hW9 => ⟨_, rfl, (kd_t (by omega)), ht9⟩) (fun _ h => nomatch h) dX2_isOnSide_67
set_option maxHeartbeats 4000000 in
set_option maxRecDepth 100000 in
theorem m_X2_isNearer (l : Launch) (dC : Nat → ClassId) (dI : Nat → Nat → Nat) (ad : Nat → Nat) (S : XS) (i j p9 b9 h : Nat) (hi : i < 8) (hj : j < 6) (hro : rowOK (S.1 i)) (ho : ordOK (S.2.1 j)) (hp9 : p9 < 16) (hb9 : b9 < 16) (hh : h < 4) : Met l yX2_isNearer wsX2_isNearer ({ frames := 1, cells := 0, slots := 0, locals := 26 } : Room) (va_Pc [.ref (ad (3 * i)), .ref (ad (24 + 5 * j)), .int (nI p9), .int (nI b9), .int (nI h)] (PX dC dI ad S)) (vp_Si (fun r => r = bI (nearB h ((S.2.1 j).2.2.1 ((S.1 i).1 p9)) ((S.2.1 j).2.2.1 ((S.1 i).1 b9))))) 0 0 (fun _ => False) := by
  refine Met.ofW (cc := cX2_isNearer) (maxL := 6) (ret := (some .boolean)) pl_X2 rfl ?_
  intro p e s m args below meth c s₁ B hml hv
  obtain ⟨rfl, hPX⟩ := hv
  have hx := B.exec
  have hb := B.bytes
  have hr := B.returns
  have hts := atoms_spec (ws := wsX2_isNearer) B.pre
  have hown : s.vm.findClass RX2 = some m.cls := findClass_of_methodNamed B.named
  have hlocks := B.notSynchronized
  have hX := WX.of hPX
  have hl := lv_entry ([.ref (ad (3 * i)), .ref (ad (24 + 5 * j)), .int (nI p9), .int (nI b9), .int (nI h)]) (n := 6) (Nat.le_of_ble_eq_true rfl)
  rw [lg_entry_eq]
  generalize (lg_sl ([.ref (ad (3 * i)), .ref (ad (24 + 5 * j)), .int (nI p9), .int (nI b9), .int (nI h)]) ++ List.replicate (6 - (lg_sl ([.ref (ad (3 * i)), .ref (ad (24 + 5 * j)), .int (nI p9), .int (nI b9), .int (nI h)])).length) Slot.unset).toArray = ls at hl ⊢
  have hl : lv_has ls 6 [(0, .ref (ad (3 * i))), (1, .ref (ad (24 + 5 * j))), (2, .int (nI p9)), (3, .int (nI b9)), (4, .int (nI h))] := hl
  show W p l e ({ frames := 1, cells := 0, slots := 0, locals := 26 } : Room) s m ([.ref (ad (3 * i)), .ref (ad (24 + 5 * j)), .int (nI p9), .int (nI b9), .int (nI h)]).toArray below meth c s.heap [] 0 0 (MQ below (vp_Si (fun r => r = bI (nearB h ((S.2.1 j).2.2.1 ((S.1 i).1 p9)) ((S.2.1 j).2.2.1 ((S.1 i).1 b9))))) ([.ref (ad (3 * i)), .ref (ad (24 + 5 * j)), .int (nI p9), .int (nI b9), .int (nI h)]).toArray s 0 0 (fun _ => False)) (F0 m 0 ls [])
  have hn := hro.1
  refine lv_aload_n hx hb dX2_isNearer_0 rfl (lv_at hl 1 rfl) ?_
  refine lv_aload_n hx hb dX2_isNearer_1 rfl (lv_at hl 0 rfl) ?_
  refine lv_iload_n hx hb dX2_isNearer_2 rfl (lv_at hl 2 rfl) ?_
  refine kx_cr (v := nI (((S.1 i).1) p9)) (va_runV (As := [.int (nI p9)]) (rest := [.ref (ad (24 + 5 * j))]) ⟨hx, hb, hml, hown, hts⟩ (m_X2_valueOn l dC dI ad S i p9 hi (by omega)) (cwV 1 hts gX2_isNearer_X2_valueOn rfl rfl rfl hdX2_valueOn_1 ⟨Nat.le_of_ble_eq_true rfl, Nat.le_of_ble_eq_true rfl⟩) (hX.preRow hi) rfl rfl hl.1 rfl (lv_room (Nat.le_of_ble_eq_true rfl)) dX2_isNearer_3 ⟨Nat.le_of_ble_eq_true rfl, Nat.le_of_ble_eq_true rfl⟩) (fun _ h => h) ?_
  refine lv_aload_n hx hb dX2_isNearer_6 rfl (lv_at hl 0 rfl) ?_
  refine lv_iload_n hx hb dX2_isNearer_7 rfl (lv_at hl 3 rfl) ?_
  refine kx_cr (v := nI (((S.1 i).1) b9)) (va_runV (As := [.int (nI b9)]) (rest := [.int (nI (((S.1 i).1) p9)), .ref (ad (24 + 5 * j))]) ⟨hx, hb, hml, hown, hts⟩ (m_X2_valueOn l dC dI ad S i b9 hi (by omega)) (cwV 1 hts gX2_isNearer_X2_valueOn rfl rfl rfl hdX2_valueOn_1 ⟨Nat.le_of_ble_eq_true rfl, Nat.le_of_ble_eq_true rfl⟩) (hX.preRow hi) rfl rfl hl.1 rfl (lv_room (Nat.le_of_ble_eq_true rfl)) dX2_isNearer_8 ⟨Nat.le_of_ble_eq_true rfl, Nat.le_of_ble_eq_true rfl⟩) (fun _ h => h) ?_
  refine kx_cr (v := cmpI (((S.2.1 j).2.2.1) (((S.1 i).1) p9)) (((S.2.1 j).2.2.1) (((S.1 i).1) b9))) (va_runV (As := [.int (nI (((S.1 i).1) p9)), .int (nI (((S.1 i).1) b9))]) (rest := []) ⟨hx, hb, hml, hown, hts⟩ (m_X1_compared l dC dI ad S j (((S.1 i).1) p9) (((S.1 i).1) b9) hj ho (hro.2 _ (by omega)).1 (hro.2 _ (by omega)).1) (cwV 2 hts gX2_isNearer_X1_compared rfl rfl rfl hdX1_compared_2 ⟨Nat.le_of_ble_eq_true rfl, Nat.le_of_ble_eq_true rfl⟩) (hX.preOrd hj) rfl rfl hl.1 rfl (lv_room (Nat.le_of_ble_eq_true rfl)) dX2_isNearer_11 ⟨Nat.le_of_ble_eq_true rfl, Nat.le_of_ble_eq_true rfl⟩) (fun _ h => h) ?_
  refine lv_istore (lv' := [(5, .int (cmpI (((S.2.1 j).2.2.1) (((S.1 i).1) p9)) (((S.2.1 j).2.2.1) (((S.1 i).1) b9)))), (0, .ref (ad (3 * i))), (1, .ref (ad (24 + 5 * j))), (2, .int (nI p9)), (3, .int (nI b9)), (4, .int (nI h))]) hx hb dX2_isNearer_14 hl (by decide) rfl (fun ls hl => ?_)
  refine lv_iload hx hb dX2_isNearer_16 (lv_at hl 5 rfl) ?_
  refine lv_iconst (v := nI 1) hx hb dX2_isNearer_18 (by decide) ?_
  refine kn_icmp_gt (tgt := 35) hx hb (by omega) (by omega) dX2_isNearer_19 (by decide) (fun c1 => ?_) (fun c1 => ?_)
  · skip
    have hh1 := c1
    refine lv_iload hx hb dX2_isNearer_35 (lv_at hl 0 rfl) ?_
    refine kc_if_ge (tgt := 44) hx hb dX2_isNearer_37 (by decide) (fun c2 => ?_) (fun c2 => ?_)
    · skip
      refine lv_iconst (v := bI false) hx hb dX2_isNearer_44 (by decide) ?_
      exact W.zret (v := bI false) hx hb hr (bI_narrow _) (fun t9 ht9 hW9 => ⟨_, rfl, (near_hif (by omega) (by omega)), ht9⟩) (fun _ h => nomatch h) dX2_isNearer_45
    · skip
      refine lv_iconst (v := bI true) hx hb dX2_isNearer_40 (by decide) ?_
      refine lv_goto (tgt := 45) hx hb dX2_isNearer_41 (by decide) ?_
      exact W.zret (v := bI true) hx hb hr (bI_narrow _) (fun t9 ht9 hW9 => ⟨_, rfl, (near_hit (by omega) (by omega)), ht9⟩) (fun _ h => nomatch h) dX2_isNearer_45
  · skip
    have hh1 := c1
    refine lv_iload hx hb dX2_isNearer_22 (lv_at hl 0 rfl) ?_
    refine kc_if_le (tgt := 31) hx hb dX2_isNearer_24 (by decide) (fun c3 => ?_) (fun c3 => ?_)
    · skip
      refine lv_iconst (v := bI false) hx hb dX2_isNearer_31 (by decide) ?_
      refine lv_goto (tgt := 45) hx hb dX2_isNearer_32 (by decide) ?_
      exact W.zret (v := bI false) hx hb hr (bI_narrow _) (fun t9 ht9 hW9 => ⟨_, rfl, (near_lof (by omega) (by omega)), ht9⟩) (fun _ h => nomatch h) dX2_isNearer_45
    · skip
      refine lv_iconst (v := bI true) hx hb dX2_isNearer_27 (by decide) ?_
      refine lv_goto (tgt := 45) hx hb dX2_isNearer_28 (by decide) ?_
      exact W.zret (v := bI true) hx hb hr (bI_narrow _) (fun t9 ht9 hW9 => ⟨_, rfl, (near_lot (by omega) (by omega)), ht9⟩) (fun _ h => nomatch h) dX2_isNearer_45
set_option maxHeartbeats 4000000 in
set_option maxRecDepth 100000 in
theorem m_X2_nearestPlace (l : Launch) (dC : Nat → ClassId) (dI : Nat → Nat → Nat) (ad : Nat → Nat) (S : XS) (i j x h : Nat) (hi : i < 8) (hj : j < 6) (hro : rowOK (S.1 i)) (ho : ordOK (S.2.1 j)) (hx9 : x < 16) (hh : h < 4) : Met l yX2_nearestPlace wsX2_nearestPlace ({ frames := 2, cells := 0, slots := 0, locals := 51 } : Room) (va_Pc [.ref (ad (3 * i)), .ref (ad (24 + 5 * j)), .int (nI x), .int (nI h)] (PX dC dI ad S)) (vp_Si (fun r => r = oI (bestB (fun k => sideB h ((S.2.1 j).2.2.1 ((S.1 i).1 k)) ((S.2.1 j).2.2.1 x)) (fun a b => nearB h ((S.2.1 j).2.2.1 ((S.1 i).1 a)) ((S.2.1 j).2.2.1 ((S.1 i).1 b))) (S.1 i).2.2))) 0 0 (fun _ => False) := by
  refine Met.ofW (cc := cX2_nearestPlace) (maxL := 6) (ret := (some .int)) pl_X2 rfl ?_
  intro p e s m args below meth c s₁ B hml hv
  obtain ⟨rfl, hPX⟩ := hv
  have hx := B.exec
  have hb := B.bytes
  have hr := B.returns
  have hts := atoms_spec (ws := wsX2_nearestPlace) B.pre
  have hown : s.vm.findClass RX2 = some m.cls := findClass_of_methodNamed B.named
  have hlocks := B.notSynchronized
  have hin2 : ∀ w ∈ u_ws RX2 TX2 3, w ∈ wsX2_nearestPlace := tu 1322 (by decide +kernel) rfl
  have hX := WX.of hPX
  have hl := lv_entry ([.ref (ad (3 * i)), .ref (ad (24 + 5 * j)), .int (nI x), .int (nI h)]) (n := 6) (Nat.le_of_ble_eq_true rfl)
  rw [lg_entry_eq]
  generalize (lg_sl ([.ref (ad (3 * i)), .ref (ad (24 + 5 * j)), .int (nI x), .int (nI h)]) ++ List.replicate (6 - (lg_sl ([.ref (ad (3 * i)), .ref (ad (24 + 5 * j)), .int (nI x), .int (nI h)])).length) Slot.unset).toArray = ls at hl ⊢
  have hl : lv_has ls 6 [(0, .ref (ad (3 * i))), (1, .ref (ad (24 + 5 * j))), (2, .int (nI x)), (3, .int (nI h))] := hl
  show W p l e ({ frames := 2, cells := 0, slots := 0, locals := 51 } : Room) s m ([.ref (ad (3 * i)), .ref (ad (24 + 5 * j)), .int (nI x), .int (nI h)]).toArray below meth c s.heap [] 0 0 (MQ below (vp_Si (fun r => r = oI (bestB (fun k => sideB h ((S.2.1 j).2.2.1 ((S.1 i).1 k)) ((S.2.1 j).2.2.1 x)) (fun a b => nearB h ((S.2.1 j).2.2.1 ((S.1 i).1 a)) ((S.2.1 j).2.2.1 ((S.1 i).1 b))) (S.1 i).2.2))) ([.ref (ad (3 * i)), .ref (ad (24 + 5 * j)), .int (nI x), .int (nI h)]).toArray s 0 0 (fun _ => False)) (F0 m 0 ls [])
  have hn := hro.1
  refine lv_iconst (v := (-1)) hx hb dX2_nearestPlace_0 (by decide) ?_
  refine lv_istore (lv' := [(4, .int (-1)), (0, .ref (ad (3 * i))), (1, .ref (ad (24 + 5 * j))), (2, .int (nI x)), (3, .int (nI h))]) hx hb dX2_nearestPlace_1 hl (by decide) rfl (fun ls hl => ?_)
  refine lv_iconst (v := nI 0) hx hb dX2_nearestPlace_3 (by decide) ?_
  refine lv_istore (lv' := [(5, .int (nI 0)), (4, .int (-1)), (0, .ref (ad (3 * i))), (1, .ref (ad (24 + 5 * j))), (2, .int (nI x)), (3, .int (nI h))]) hx hb dX2_nearestPlace_4 hl (by decide) rfl (fun ls hl => ?_)
  have loop6 : ∀ (fuel : Nat) (o : Option Nat) (k : Nat) (hk : k ≤ (S.1 i).2.2) (hq : o = bestB (fun k => sideB h ((S.2.1 j).2.2.1 ((S.1 i).1 k)) ((S.2.1 j).2.2.1 x)) (fun a b => nearB h ((S.2.1 j).2.2.1 ((S.1 i).1 a)) ((S.2.1 j).2.2.1 ((S.1 i).1 b))) k), (S.1 i).2.2 - k < fuel → ∀ ls : Array Slot, lv_has ls 6 [(0, .ref (ad (3 * i))), (1, .ref (ad (24 + 5 * j))), (2, .int (nI x)), (3, .int (nI h)), (4, .int (oI o)), (5, .int (nI k))] → W p l e ({ frames := 2, cells := 0, slots := 0, locals := 51 } : Room) s m ([.ref (ad (3 * i)), .ref (ad (24 + 5 * j)), .int (nI x), .int (nI h)]).toArray below meth c s.heap [] 0 0 (MQ below (vp_Si (fun r => r = oI (bestB (fun k => sideB h ((S.2.1 j).2.2.1 ((S.1 i).1 k)) ((S.2.1 j).2.2.1 x)) (fun a b => nearB h ((S.2.1 j).2.2.1 ((S.1 i).1 a)) ((S.2.1 j).2.2.1 ((S.1 i).1 b))) (S.1 i).2.2))) ([.ref (ad (3 * i)), .ref (ad (24 + 5 * j)), .int (nI x), .int (nI h)]).toArray s 0 0 (fun _ => False)) (F0 m 6 ls []) := by
    intro fuel
    induction fuel with
    | zero => intro o k hk hq hf; exact absurd hf (Nat.not_lt_zero _)
    | succ fuel ih6 =>
      intro o k hk hq hf ls hl
      refine lv_iload hx hb dX2_nearestPlace_6 (lv_at hl 5 rfl) ?_
      refine lv_aload_n hx hb dX2_nearestPlace_8 rfl (lv_at hl 0 rfl) ?_
      refine kr_gn (n := (S.1 i).2.2) hx hb hts hin2 hown hX hi rfl (hts (.fieldLink RX2 18 "Orderlattice$Row" "many" "I") (tm 27 (by decide +kernel) rfl)) dX2_nearestPlace_9 ?_
      refine kn_icmp_ge (tgt := 62) hx hb (by omega) (by omega) dX2_nearestPlace_12 (by decide) (fun c1 => ?_) (fun c1 => ?_)
      · skip
        refine lv_iload hx hb dX2_nearestPlace_62 (lv_at hl 4 rfl) ?_
        exact W.iret (v := (oI o)) hx hb hr (fun t9 ht9 hW9 => ⟨_, rfl, (by rw [hq, show k = (S.1 i).2.2 by omega]), ht9⟩) (fun _ h => nomatch h) dX2_nearestPlace_64
      · skip
        refine lv_aload_n hx hb dX2_nearestPlace_15 rfl (lv_at hl 1 rfl) ?_
        refine lv_aload_n hx hb dX2_nearestPlace_16 rfl (lv_at hl 0 rfl) ?_
        refine lv_iload hx hb dX2_nearestPlace_17 (lv_at hl 5 rfl) ?_
        refine kx_cr (v := nI (((S.1 i).1) k)) (va_runV (As := [.int (nI k)]) (rest := [.ref (ad (24 + 5 * j))]) ⟨hx, hb, hml, hown, hts⟩ (m_X2_valueOn l dC dI ad S i k hi (by omega)) (cwV 1 hts gX2_nearestPlace_X2_valueOn rfl rfl rfl hdX2_valueOn_1 ⟨Nat.le_of_ble_eq_true rfl, Nat.le_of_ble_eq_true rfl⟩) (hX.preRow hi) rfl rfl hl.1 rfl (lv_room (Nat.le_of_ble_eq_true rfl)) dX2_nearestPlace_19 ⟨Nat.le_of_ble_eq_true rfl, Nat.le_of_ble_eq_true rfl⟩) (fun _ h => h) ?_
        refine lv_iload_n hx hb dX2_nearestPlace_22 rfl (lv_at hl 2 rfl) ?_
        refine kx_cr (v := cmpI (((S.2.1 j).2.2.1) (((S.1 i).1) k)) (((S.2.1 j).2.2.1) x)) (va_runV (As := [.int (nI (((S.1 i).1) k)), .int (nI x)]) (rest := []) ⟨hx, hb, hml, hown, hts⟩ (m_X1_compared l dC dI ad S j (((S.1 i).1) k) x hj ho (hro.2 _ (by omega)).1 (by omega)) (cwV 2 hts gX2_nearestPlace_X1_compared rfl rfl rfl hdX1_compared_2 ⟨Nat.le_of_ble_eq_true rfl, Nat.le_of_ble_eq_true rfl⟩) (hX.preOrd hj) rfl rfl hl.1 rfl (lv_room (Nat.le_of_ble_eq_true rfl)) dX2_nearestPlace_23 ⟨Nat.le_of_ble_eq_true rfl, Nat.le_of_ble_eq_true rfl⟩) (fun _ h => h) ?_
        refine lv_iload_n hx hb dX2_nearestPlace_26 rfl (lv_at hl 3 rfl) ?_
        refine kx_cr (v := bI (sideB h (((S.2.1 j).2.2.1) (((S.1 i).1) k)) (((S.2.1 j).2.2.1) x))) (va_runS (As := [.int (cmpI (((S.2.1 j).2.2.1) (((S.1 i).1) k)) (((S.2.1 j).2.2.1) x)), .int (nI h)]) (rest := []) ⟨hx, hb, hml, hown, hts⟩ (m_X2_isOnSide l dC dI ad S (((S.2.1 j).2.2.1) (((S.1 i).1) k)) (((S.2.1 j).2.2.1) x) h (by omega)) (va_cwS 2 hts gX2_nearestPlace_X2_isOnSide rfl rfl rfl hdX2_isOnSide_2.2 ⟨Nat.le_of_ble_eq_true rfl, Nat.le_of_ble_eq_true rfl⟩) hX.preS rfl rfl hl.1 rfl (lv_room (Nat.le_of_ble_eq_true rfl)) dX2_nearestPlace_27 ⟨Nat.le_of_ble_eq_true rfl, Nat.le_of_ble_eq_true rfl⟩) (fun _ h => h) ?_
        refine kb_if_eq (tgt := 56) hx hb dX2_nearestPlace_30 (by decide) (fun c2 => ?_) (fun c2 => ?_)
        · skip
          have hs := c2
          refine lv_iinc (v := nI (k + 1)) (lv' := [(5, .int (nI (k + 1))), (0, .ref (ad (3 * i))), (1, .ref (ad (24 + 5 * j))), (2, .int (nI x)), (3, .int (nI h)), (4, .int (oI o))]) hx hb dX2_nearestPlace_56 hl (k := 5) rfl (nI_1 k) (by decide) rfl (fun ls hl => ?_)
          refine lv_goto (tgt := 6) hx hb dX2_nearestPlace_59 (by decide) ?_
          exact ih6  o (k + 1) (by omega) (hq.trans (bestB_no (p := (fun k => sideB h ((S.2.1 j).2.2.1 ((S.1 i).1 k)) ((S.2.1 j).2.2.1 x))) (lt := (fun a b => nearB h ((S.2.1 j).2.2.1 ((S.1 i).1 a)) ((S.2.1 j).2.2.1 ((S.1 i).1 b)))) hs).symm) (by omega) _ (lv_sub hl [1, 2, 3, 4, 5, 0] rfl)
        · skip
          have hs := c2
          rcases o with _ | bb
          · skip
            refine lv_iload hx hb dX2_nearestPlace_33 (lv_at hl 4 rfl) ?_
            refine lv_iconst (v := (-1)) hx hb dX2_nearestPlace_35 (by decide) ?_
            refine lv_icmp_eq (tgt := 52) hx hb dX2_nearestPlace_36 (by decide) (fun c3 => ?_) (fun c3 => absurd rfl c3)
            refine lv_iload hx hb dX2_nearestPlace_52 (lv_at hl 5 rfl) ?_
            refine lv_istore (lv' := [(4, .int (nI k)), (0, .ref (ad (3 * i))), (1, .ref (ad (24 + 5 * j))), (2, .int (nI x)), (3, .int (nI h)), (5, .int (nI k))]) hx hb dX2_nearestPlace_54 hl (by decide) rfl (fun ls hl => ?_)
            refine lv_iinc (v := nI (k + 1)) (lv' := [(5, .int (nI (k + 1))), (4, .int (nI k)), (0, .ref (ad (3 * i))), (1, .ref (ad (24 + 5 * j))), (2, .int (nI x)), (3, .int (nI h))]) hx hb dX2_nearestPlace_56 hl (k := 5) rfl (nI_1 k) (by decide) rfl (fun ls hl => ?_)
            refine lv_goto (tgt := 6) hx hb dX2_nearestPlace_59 (by decide) ?_
            exact ih6  (some k) (k + 1) (by omega) (bestB_first (p := (fun k => sideB h ((S.2.1 j).2.2.1 ((S.1 i).1 k)) ((S.2.1 j).2.2.1 x))) (lt := (fun a b => nearB h ((S.2.1 j).2.2.1 ((S.1 i).1 a)) ((S.2.1 j).2.2.1 ((S.1 i).1 b)))) hs hq.symm).symm (by omega) _ (lv_sub hl [2, 3, 4, 5, 1, 0] rfl)
          · skip
            have hbb := (bestB_lt hq.symm).1
            have hl : lv_has ls 6 [(0, .ref (ad (3 * i))), (1, .ref (ad (24 + 5 * j))), (2, .int (nI x)), (3, .int (nI h)), (4, .int (nI bb)), (5, .int (nI k))] := hl
            refine lv_iload hx hb dX2_nearestPlace_33 (lv_at hl 4 rfl) ?_
            refine lv_iconst (v := (-1)) hx hb dX2_nearestPlace_35 (by decide) ?_
            refine lv_icmp_eq (tgt := 52) hx hb dX2_nearestPlace_36 (by decide) (fun c4 => absurd c4 (nI_nm1 (by omega))) (fun c4 => ?_)
            refine lv_aload_n hx hb dX2_nearestPlace_39 rfl (lv_at hl 0 rfl) ?_
            refine lv_aload_n hx hb dX2_nearestPlace_40 rfl (lv_at hl 1 rfl) ?_
            refine lv_iload hx hb dX2_nearestPlace_41 (lv_at hl 5 rfl) ?_
            refine lv_iload hx hb dX2_nearestPlace_43 (lv_at hl 4 rfl) ?_
            refine lv_iload_n hx hb dX2_nearestPlace_45 rfl (lv_at hl 3 rfl) ?_
            refine kx_cr (v := bI (nearB h ((S.2.1 j).2.2.1 ((S.1 i).1 k)) ((S.2.1 j).2.2.1 ((S.1 i).1 bb)))) (va_runV (As := [.ref (ad (24 + 5 * j)), .int (nI k), .int (nI bb), .int (nI h)]) (rest := []) ⟨hx, hb, hml, hown, hts⟩ (m_X2_isNearer l dC dI ad S i j k bb h hi hj hro ho (by omega) (by omega) (by omega)) (cwV 4 hts gX2_nearestPlace_X2_isNearer rfl rfl rfl hdX2_isNearer_4 ⟨Nat.le_of_ble_eq_true rfl, Nat.le_of_ble_eq_true rfl⟩) (hX.preRow hi) rfl rfl hl.1 rfl (lv_room (Nat.le_of_ble_eq_true rfl)) dX2_nearestPlace_46 ⟨Nat.le_of_ble_eq_true rfl, Nat.le_of_ble_eq_true rfl⟩) (fun _ h => h) ?_
            refine kb_if_eq (tgt := 56) hx hb dX2_nearestPlace_49 (by decide) (fun c5 => ?_) (fun c5 => ?_)
            · skip
              have hc := c5
              refine lv_iinc (v := nI (k + 1)) (lv' := [(5, .int (nI (k + 1))), (0, .ref (ad (3 * i))), (1, .ref (ad (24 + 5 * j))), (2, .int (nI x)), (3, .int (nI h)), (4, .int (nI bb))]) hx hb dX2_nearestPlace_56 hl (k := 5) rfl (nI_1 k) (by decide) rfl (fun ls hl => ?_)
              refine lv_goto (tgt := 6) hx hb dX2_nearestPlace_59 (by decide) ?_
              exact ih6  (some bb) (k + 1) (by omega) (bestB_old (p := (fun k => sideB h ((S.2.1 j).2.2.1 ((S.1 i).1 k)) ((S.2.1 j).2.2.1 x))) (lt := (fun a b => nearB h ((S.2.1 j).2.2.1 ((S.1 i).1 a)) ((S.2.1 j).2.2.1 ((S.1 i).1 b)))) hs hq.symm hc).symm (by omega) _ (lv_sub hl [1, 2, 3, 4, 5, 0] rfl)
            · skip
              have hc := c5
              refine lv_iload hx hb dX2_nearestPlace_52 (lv_at hl 5 rfl) ?_
              refine lv_istore (lv' := [(4, .int (nI k)), (0, .ref (ad (3 * i))), (1, .ref (ad (24 + 5 * j))), (2, .int (nI x)), (3, .int (nI h)), (5, .int (nI k))]) hx hb dX2_nearestPlace_54 hl (by decide) rfl (fun ls hl => ?_)
              refine lv_iinc (v := nI (k + 1)) (lv' := [(5, .int (nI (k + 1))), (4, .int (nI k)), (0, .ref (ad (3 * i))), (1, .ref (ad (24 + 5 * j))), (2, .int (nI x)), (3, .int (nI h))]) hx hb dX2_nearestPlace_56 hl (k := 5) rfl (nI_1 k) (by decide) rfl (fun ls hl => ?_)
              refine lv_goto (tgt := 6) hx hb dX2_nearestPlace_59 (by decide) ?_
              exact ih6  (some k) (k + 1) (by omega) (bestB_new (p := (fun k => sideB h ((S.2.1 j).2.2.1 ((S.1 i).1 k)) ((S.2.1 j).2.2.1 x))) (lt := (fun a b => nearB h ((S.2.1 j).2.2.1 ((S.1 i).1 a)) ((S.2.1 j).2.2.1 ((S.1 i).1 b)))) hs hq.symm hc).symm (by omega) _ (lv_sub hl [2, 3, 4, 5, 1, 0] rfl)
  exact loop6 ((S.1 i).2.2 - 0 + 1) none 0 (by omega) rfl (by omega) _ (lv_sub hl [2, 3, 4, 5, 1, 0] rfl)
set_option maxHeartbeats 4000000 in
set_option maxRecDepth 100000 in
theorem m_X2_reverse (l : Launch) (dC : Nat → ClassId) (dI : Nat → Nat → Nat) (ad : Nat → Nat) (S : XS) (i : Nat) (hi : i < 8) (hn : (S.1 i).2.2 ≤ 16) : Met l yX2_reverse wsX2_reverse ({ frames := 2, cells := 0, slots := 0, locals := 47 } : Room) (va_Pc [.ref (ad (3 * i))] (PX dC dI ad S)) (va_Qv (fun S' => S' = xR S i (rev (S.1 i).1 (S.1 i).2.2 ((S.1 i).2.2), rev (S.1 i).2.1 (S.1 i).2.2 ((S.1 i).2.2), (S.1 i).2.2)) (PX dC dI ad) (AX ad)) 0 0 (AX ad) := by
  refine Met.ofW (cc := cX2_reverse) (maxL := 3) (ret := none) pl_X2 rfl ?_
  intro p e s m args below meth c s₁ B hml hv
  obtain ⟨rfl, hPX⟩ := hv
  have hx := B.exec
  have hb := B.bytes
  have hr := B.returns
  have hts := atoms_spec (ws := wsX2_reverse) B.pre
  have hown : s.vm.findClass RX2 = some m.cls := findClass_of_methodNamed B.named
  have hlocks := B.notSynchronized
  have hin2 : ∀ w ∈ u_ws RX2 TX2 3, w ∈ wsX2_reverse := tu 1322 (by decide +kernel) rfl
  have hX := WX.of hPX
  have hl := lv_entry ([.ref (ad (3 * i))]) (n := 3) (Nat.le_of_ble_eq_true rfl)
  rw [lg_entry_eq]
  generalize (lg_sl ([.ref (ad (3 * i))]) ++ List.replicate (3 - (lg_sl ([.ref (ad (3 * i))])).length) Slot.unset).toArray = ls at hl ⊢
  have hl : lv_has ls 3 [(0, .ref (ad (3 * i)))] := hl
  show W p l e ({ frames := 2, cells := 0, slots := 0, locals := 47 } : Room) s m ([.ref (ad (3 * i))]).toArray below meth c s.heap [] 0 0 (MQ below (va_Qv (fun S' => S' = xR S i (rev (S.1 i).1 (S.1 i).2.2 ((S.1 i).2.2), rev (S.1 i).2.1 (S.1 i).2.2 ((S.1 i).2.2), (S.1 i).2.2)) (PX dC dI ad) (AX ad)) ([.ref (ad (3 * i))]).toArray s 0 0 (AX ad)) (F0 m 0 ls [])
  rcases Nat.eq_zero_or_pos (S.1 i).2.2 with hz | hz
  · skip
    refine lv_iconst (v := nI 0) hx hb dX2_reverse_0 (by decide) ?_
    refine lv_istore_n (lv' := [(1, .int (nI 0)), (0, .ref (ad (3 * i)))]) hx hb dX2_reverse_1 rfl hl (by decide) rfl (fun ls hl => ?_)
    refine lv_aload_n hx hb dX2_reverse_2 rfl (lv_at hl 1 rfl) ?_
    refine kr_gn (n := (S.1 i).2.2) hx hb hts hin2 hown hX hi rfl (hts (.fieldLink RX2 18 "Orderlattice$Row" "many" "I") (tm 27 (by decide +kernel) rfl)) dX2_reverse_3 ?_
    refine lv_iconst (v := nI 1) hx hb dX2_reverse_6 (by decide) ?_
    refine lv_isub hx hb dX2_reverse_7 ?_
    refine lv_istore_n (lv' := [(2, .int (nI (S.1 i).2.2 - nI 1)), (1, .int (nI 0)), (0, .ref (ad (3 * i)))]) hx hb dX2_reverse_8 rfl hl (by decide) rfl (fun ls hl => ?_)
    refine lv_iload_n hx hb dX2_reverse_9 rfl (lv_at hl 1 rfl) ?_
    refine lv_iload_n hx hb dX2_reverse_10 rfl (lv_at hl 0 rfl) ?_
    refine lv_icmp_ge (tgt := 29) hx hb dX2_reverse_11 (by decide) (fun c1 => ?_) (fun c1 => absurd (by rw [hz]; decide) c1)
    exact W.vret hx hb hr (fun t9 ht9 hW9 => ⟨⟨S, rfl, (by rw [rev_z _ hz, rev_z _ hz]; exact (xR_self S i).symm), hX.P ht9 hW9⟩, hX.2.2.2.F ht9⟩) hX.2.2.2.2.2 dX2_reverse_29
  · skip
    refine lv_iconst (v := nI 0) hx hb dX2_reverse_0 (by decide) ?_
    refine lv_istore_n (lv' := [(1, .int (nI 0)), (0, .ref (ad (3 * i)))]) hx hb dX2_reverse_1 rfl hl (by decide) rfl (fun ls hl => ?_)
    refine lv_aload_n hx hb dX2_reverse_2 rfl (lv_at hl 1 rfl) ?_
    refine kr_gn (n := (S.1 i).2.2) hx hb hts hin2 hown hX hi rfl (hts (.fieldLink RX2 18 "Orderlattice$Row" "many" "I") (tm 27 (by decide +kernel) rfl)) dX2_reverse_3 ?_
    refine lv_iconst (v := nI 1) hx hb dX2_reverse_6 (by decide) ?_
    refine kn_isub hx hb (by omega) dX2_reverse_7 ?_
    refine lv_istore_n (lv' := [(2, .int (nI (((S.1 i).2.2) - 1))), (1, .int (nI 0)), (0, .ref (ad (3 * i)))]) hx hb dX2_reverse_8 rfl hl (by decide) rfl (fun ls hl => ?_)
    have loop9 : ∀ (fuel : Nat) (a : Nat) (ha : 2 * a ≤ (S.1 i).2.2) (H : Heap) (locs : List Loc), (S.1 i).2.2 - a < fuel → WX dC dI ad (xR S i (rev (S.1 i).1 (S.1 i).2.2 a, rev (S.1 i).2.1 (S.1 i).2.2 a, (S.1 i).2.2)) (AX ad) s H locs → ∀ ls : Array Slot, lv_has ls 3 [(0, .ref (ad (3 * i))), (1, .int (nI a)), (2, .int (nI ((S.1 i).2.2 - 1 - a)))] → W p l e ({ frames := 2, cells := 0, slots := 0, locals := 47 } : Room) s m ([.ref (ad (3 * i))]).toArray below meth c H locs 0 0 (MQ below (va_Qv (fun S' => S' = xR S i (rev (S.1 i).1 (S.1 i).2.2 ((S.1 i).2.2), rev (S.1 i).2.1 (S.1 i).2.2 ((S.1 i).2.2), (S.1 i).2.2)) (PX dC dI ad) (AX ad)) ([.ref (ad (3 * i))]).toArray s 0 0 (AX ad)) (F0 m 9 ls []) := by
      intro fuel
      induction fuel with
      | zero => intro a ha H locs hf; exact absurd hf (Nat.not_lt_zero _)
      | succ fuel ih9 =>
        intro a ha H locs hf hX ls hl
        refine lv_iload_n hx hb dX2_reverse_9 rfl (lv_at hl 1 rfl) ?_
        refine lv_iload_n hx hb dX2_reverse_10 rfl (lv_at hl 2 rfl) ?_
        refine kn_icmp_ge (tgt := 29) hx hb (by omega) (by omega) dX2_reverse_11 (by decide) (fun c2 => ?_) (fun c2 => ?_)
        · skip
          exact W.vret hx hb hr (fun t9 ht9 hW9 => ⟨⟨(xR S i (rev (S.1 i).1 (S.1 i).2.2 a, rev (S.1 i).2.1 (S.1 i).2.2 a, (S.1 i).2.2)), rfl, (by rw [rev_end (a := a) (S.1 i).1 (by omega), rev_end (a := a) (S.1 i).2.1 (by omega)]), hX.P ht9 hW9⟩, hX.2.2.2.F ht9⟩) hX.2.2.2.2.2 dX2_reverse_29
        · skip
          refine lv_aload_n hx hb dX2_reverse_14 rfl (lv_at hl 0 rfl) ?_
          refine lv_iload_n hx hb dX2_reverse_15 rfl (lv_at hl 1 rfl) ?_
          refine lv_iload_n hx hb dX2_reverse_16 rfl (lv_at hl 2 rfl) ?_
          refine kx_cv (va_runV (As := [.int (nI a), .int (nI ((S.1 i).2.2 - 1 - a))]) (rest := []) ⟨hx, hb, hml, hown, hts⟩ (m_X2_exchange l dC dI ad (xR S i (rev (S.1 i).1 (S.1 i).2.2 a, rev (S.1 i).2.1 (S.1 i).2.2 a, (S.1 i).2.2)) i a ((S.1 i).2.2 - 1 - a) hi (by omega) (by omega)) (cwV 2 hts gX2_reverse_X2_exchange rfl rfl rfl hdX2_exchange_2 ⟨Nat.le_of_ble_eq_true rfl, Nat.le_of_ble_eq_true rfl⟩) (hX.preRow hi) rfl rfl hl.1 rfl (lv_room (Nat.le_of_ble_eq_true rfl)) dX2_reverse_17 ⟨Nat.le_of_ble_eq_true rfl, Nat.le_of_ble_eq_true rfl⟩) hX (fun _ h => h) (fun S_ H locs hw hX => ?_)
          rw [xR_row, xR_xR] at hw
          dsimp only at hw
          rw [rev_up _ (by omega), rev_up _ (by omega)] at hw
          subst hw
          refine lv_iinc (v := nI (a + 1)) (lv' := [(1, .int (nI (a + 1))), (0, .ref (ad (3 * i))), (2, .int (nI ((S.1 i).2.2 - 1 - a)))]) hx hb dX2_reverse_20 hl (k := 1) rfl (nI_1 a) (by decide) rfl (fun ls hl => ?_)
          refine lv_iinc (v := nI ((S.1 i).2.2 - 1 - (a + 1))) (lv' := [(2, .int (nI ((S.1 i).2.2 - 1 - (a + 1)))), (1, .int (nI (a + 1))), (0, .ref (ad (3 * i)))]) hx hb dX2_reverse_23 hl (k := 2) rfl ((kn_dec (by omega)).trans (congrArg nI (by omega))) (by decide) rfl (fun ls hl => ?_)
          refine lv_goto (tgt := 9) hx hb dX2_reverse_26 (by decide) ?_
          exact ih9  (a + 1) (by omega) _ _ (by omega) hX _ (lv_sub hl [2, 1, 0] rfl)
    exact loop9 ((S.1 i).2.2 + 1) 0 (by omega) _ _ (by omega) (WX.eqS (by rw [rev_a0, rev_a0]; exact (xR_self S i).symm) hX) _ (lv_sub hl [2, 1, 0] rfl)
end
section
/-! sorters -/
theorem min_nI {a b : Nat} (ha : a < 2 ^ 31) (hb : b < 2 ^ 31) : (if nI b < nI a then nI b else nI a) = nI (min a b) := by
  by_cases h : b < a
  · rw [if_pos (nI_lt h ha), Nat.min_eq_right (by omega)]
  · rw [if_neg (nI_nlt (by omega) hb), Nat.min_eq_left (by omega)]
section KMIN
variable {p : Program} {l : Launch} {e : Env} {R : Room} {s : State} {m : MethodId} {args : Array Value} {below : List Frame} {meth : Method} {c : Code} {H : Heap} {locs : List Loc} {cells slots : Nat} {Q : State → Prop}
theorem kn_min {cc : ByteArray} {pc : Nat} {ls : Array Slot} {rest : List Value} {a b : Nat} (hx : p.tables.exec = Jvm.exec) (hb : c.code = cc) (hml : c.maxLocals = ls.size) {own : String} {index : Nat} (hown : s.vm.findClass own = some m.cls) (hlink : (Cond.methodLink own index Lib.Math.min.name).before args s = true) (hstat : (Cond.static Lib.Math.min.name).before args s = true) (hini : (Cond.initialized "java/lang/Math").before args s = true) (hcode : (Cond.code Lib.Math.min.name Lib.Math.min.code 2 (some .int)).before args s = true)
    (hframes : 1 ≤ R.frames) (hlocals : (rest.map fun v => v.category).sum + 13 ≤ R.locals) (hc : cells ≤ R.cells) (hs : slots ≤ R.slots) (ha : a < 2 ^ 31) (hb2 : b < 2 ^ 31) (hdg : decode cc pc = .ok (.invokestatic index, 3))
    (kk : W p l e R s m args below meth c H locs cells slots Q (F0 m (pc + 3) ls (.int (nI (min a b)) :: rest))) : W p l e R s m args below meth c H locs cells slots Q (F0 m pc ls (.int (nI b) :: .int (nI a) :: rest)) :=
  va_mmin hx hb hml hown hlink hstat hini hcode hframes hlocals hc hs hdg (by rw [min_nI ha hb2]; exact kk)
end KMIN
theorem xch_lt {f : Nat → Nat} {a b k N : Nat} (h : ∀ q, q < 16 → f q < N) (ha : a < 16) (hb : b < 16) (hk : k < 16) : xch f a b k < N := by
  unfold xch va_up
  split
  · exact h a ha
  · split
    · exact h b hb
    · exact h k hk
theorem up_lt {f : Nat → Nat} {a v k N : Nat} (h : ∀ q, q < 16 → f q < N) (hv : v < N) (hk : k < 16) : va_up f a v k < N := by
  unfold va_up
  split
  · exact hv
  · exact h k hk
theorem rowOK_xch {r : RowS} (h : rowOK r) {a b : Nat} (ha : a < 16) (hb : b < 16) : rowOK (xch r.1 a b, xch r.2.1 a b, r.2.2) :=
  ⟨h.1, fun _ hk => ⟨xch_lt (fun q hq => (h.2 q hq).1) ha hb hk, xch_lt (fun q hq => (h.2 q hq).2) ha hb hk⟩⟩
theorem rowOK_app {r : RowS} (h : rowOK r) (hn : r.2.2 < 16) {v u : Nat} (hv : v < 16) (hu : u < 1000000) : rowOK (va_up r.1 r.2.2 v, va_up r.2.1 r.2.2 u, r.2.2 + 1) :=
  ⟨hn, fun _ hk => ⟨up_lt (fun q hq => (h.2 q hq).1) hv hk, up_lt (fun q hq => (h.2 q hq).2) hu hk⟩⟩
theorem rowOK_ovl {r t : RowS} (h : rowOK r) (h2 : rowOK t) : rowOK (ovl t.1 r.1 t.2.2, ovl t.2.1 r.2.1 t.2.2, t.2.2) :=
  ⟨h2.1, fun k hk => by
    dsimp only
    unfold ovl
    split
    · exact h2.2 k hk
    · exact h.2 k hk⟩
theorem rowOK_0 {r : RowS} (h : rowOK r) : rowOK (r.1, r.2.1, 0) := ⟨Nat.zero_le _, h.2⟩
set_option maxHeartbeats 4000000 in
set_option maxRecDepth 100000 in
theorem m_X3_insertEach (l : Launch) (dC : Nat → ClassId) (dI : Nat → Nat → Nat) (ad : Nat → Nat) (S : XS) (w i j f t9 : Nat) (hw : w < 2) (hi : i < 8) (hj : j < 6) (hro : rowOK (S.1 i)) (ho : ordOK (S.2.1 j)) (hf : f ≤ t9) (ht9 : t9 ≤ (S.1 i).2.2) : Met l yX3_insertEach wsX3_insertEach ({ frames := 2, cells := 0, slots := 0, locals := 47 } : Room) (va_Pc [.ref (ad (54 + w)), .ref (ad (3 * i)), .ref (ad (24 + 5 * j)), .int (nI f), .int (nI t9)] (PX dC dI ad S)) (va_Qv (fun S' => ∃ r' : RowS, S' = xR S i r' ∧ rowOK r' ∧ r'.2.2 = (S.1 i).2.2) (PX dC dI ad) (AX ad)) 0 0 (AX ad) := by
  refine Met.ofW (cc := cX3_insertEach) (maxL := 7) (ret := none) pl_X3 rfl ?_
  intro p e s m args below meth c s₁ B hml hv
  obtain ⟨rfl, hPX⟩ := hv
  have hx := B.exec
  have hb := B.bytes
  have hr := B.returns
  have hts := atoms_spec (ws := wsX3_insertEach) B.pre
  have hown : s.vm.findClass RX3 = some m.cls := findClass_of_methodNamed B.named
  have hlocks := B.notSynchronized
  have hX := WX.of hPX
  have hl := lv_entry ([.ref (ad (54 + w)), .ref (ad (3 * i)), .ref (ad (24 + 5 * j)), .int (nI f), .int (nI t9)]) (n := 7) (Nat.le_of_ble_eq_true rfl)
  rw [lg_entry_eq]
  generalize (lg_sl ([.ref (ad (54 + w)), .ref (ad (3 * i)), .ref (ad (24 + 5 * j)), .int (nI f), .int (nI t9)]) ++ List.replicate (7 - (lg_sl ([.ref (ad (54 + w)), .ref (ad (3 * i)), .ref (ad (24 + 5 * j)), .int (nI f), .int (nI t9)])).length) Slot.unset).toArray = ls at hl ⊢
  have hl : lv_has ls 7 [(0, .ref (ad (54 + w))), (1, .ref (ad (3 * i))), (2, .ref (ad (24 + 5 * j))), (3, .int (nI f)), (4, .int (nI t9))] := hl
  show W p l e ({ frames := 2, cells := 0, slots := 0, locals := 47 } : Room) s m ([.ref (ad (54 + w)), .ref (ad (3 * i)), .ref (ad (24 + 5 * j)), .int (nI f), .int (nI t9)]).toArray below meth c s.heap [] 0 0 (MQ below (va_Qv (fun S' => ∃ r' : RowS, S' = xR S i r' ∧ rowOK r' ∧ r'.2.2 = (S.1 i).2.2) (PX dC dI ad) (AX ad)) ([.ref (ad (54 + w)), .ref (ad (3 * i)), .ref (ad (24 + 5 * j)), .int (nI f), .int (nI t9)]).toArray s 0 0 (AX ad)) (F0 m 0 ls [])
  have hn := hro.1
  refine lv_iload_n hx hb dX3_insertEach_0 rfl (lv_at hl 3 rfl) ?_
  refine lv_iconst (v := nI 1) hx hb dX3_insertEach_1 (by decide) ?_
  refine kn_iadd hx hb dX3_insertEach_2 ?_
  refine lv_istore (lv' := [(5, .int (nI (f + 1))), (0, .ref (ad (54 + w))), (1, .ref (ad (3 * i))), (2, .ref (ad (24 + 5 * j))), (3, .int (nI f)), (4, .int (nI t9))]) hx hb dX3_insertEach_3 hl (by decide) rfl (fun ls hl => ?_)
  have loop5 : ∀ (fuel : Nat) (r : RowS) (nx : Nat) (hr9 : rowOK r ∧ r.2.2 = (S.1 i).2.2) (hnx : f + 1 ≤ nx ∧ nx ≤ 17) (H : Heap) (locs : List Loc), 18 - nx < fuel → WX dC dI ad (xR S i (r.1, r.2.1, r.2.2)) (AX ad) s H locs → ∀ ls : Array Slot, lv_has ls 7 [(0, .ref (ad (54 + w))), (1, .ref (ad (3 * i))), (2, .ref (ad (24 + 5 * j))), (3, .int (nI f)), (4, .int (nI t9)), (5, .int (nI nx))] → W p l e ({ frames := 2, cells := 0, slots := 0, locals := 47 } : Room) s m ([.ref (ad (54 + w)), .ref (ad (3 * i)), .ref (ad (24 + 5 * j)), .int (nI f), .int (nI t9)]).toArray below meth c H locs 0 0 (MQ below (va_Qv (fun S' => ∃ r' : RowS, S' = xR S i r' ∧ rowOK r' ∧ r'.2.2 = (S.1 i).2.2) (PX dC dI ad) (AX ad)) ([.ref (ad (54 + w)), .ref (ad (3 * i)), .ref (ad (24 + 5 * j)), .int (nI f), .int (nI t9)]).toArray s 0 0 (AX ad)) (F0 m 5 ls []) := by
    intro fuel
    induction fuel with
    | zero => intro r nx hr9 hnx H locs hf; exact absurd hf (Nat.not_lt_zero _)
    | succ fuel ih5 =>
      intro r nx hr9 hnx H locs hf hX ls hl
      refine lv_iload hx hb dX3_insertEach_5 (lv_at hl 5 rfl) ?_
      refine lv_iload hx hb dX3_insertEach_7 (lv_at hl 4 rfl) ?_
      refine kn_icmp_ge (tgt := 65) hx hb (by omega) (by omega) dX3_insertEach_9 (by decide) (fun k_1 => ?_) (fun k_1 => ?_)
      · skip
        exact W.vret hx hb hr (fun t9 ht9 hW9 => ⟨⟨(xR S i (r.1, r.2.1, r.2.2)), rfl, ⟨r, rfl, hr9⟩, hX.P ht9 hW9⟩, hX.2.2.2.F ht9⟩) hX.2.2.2.2.2 dX3_insertEach_65
      · skip
        refine lv_iload hx hb dX3_insertEach_12 (lv_at hl 5 rfl) ?_
        refine lv_istore (lv' := [(6, .int (nI nx)), (0, .ref (ad (54 + w))), (1, .ref (ad (3 * i))), (2, .ref (ad (24 + 5 * j))), (3, .int (nI f)), (4, .int (nI t9)), (5, .int (nI nx))]) hx hb dX3_insertEach_14 hl (by decide) rfl (fun ls hl => ?_)
        have loop16 : ∀ (fuel : Nat) (r : RowS) (a : Nat) (hr9 : rowOK r ∧ r.2.2 = (S.1 i).2.2) (ha : f ≤ a ∧ a ≤ nx) (H : Heap) (locs : List Loc), a < fuel → WX dC dI ad (xR S i (r.1, r.2.1, r.2.2)) (AX ad) s H locs → ∀ ls : Array Slot, lv_has ls 7 [(0, .ref (ad (54 + w))), (1, .ref (ad (3 * i))), (2, .ref (ad (24 + 5 * j))), (3, .int (nI f)), (4, .int (nI t9)), (5, .int (nI nx)), (6, .int (nI a))] → W p l e ({ frames := 2, cells := 0, slots := 0, locals := 47 } : Room) s m ([.ref (ad (54 + w)), .ref (ad (3 * i)), .ref (ad (24 + 5 * j)), .int (nI f), .int (nI t9)]).toArray below meth c H locs 0 0 (MQ below (va_Qv (fun S' => ∃ r' : RowS, S' = xR S i r' ∧ rowOK r' ∧ r'.2.2 = (S.1 i).2.2) (PX dC dI ad) (AX ad)) ([.ref (ad (54 + w)), .ref (ad (3 * i)), .ref (ad (24 + 5 * j)), .int (nI f), .int (nI t9)]).toArray s 0 0 (AX ad)) (F0 m 16 ls []) := by
          intro fuel
          induction fuel with
          | zero => intro r a hr9 ha H locs hf; exact absurd hf (Nat.not_lt_zero _)
          | succ fuel ih16 =>
            intro r a hr9 ha H locs hf hX ls hl
            refine lv_iload hx hb dX3_insertEach_16 (lv_at hl 6 rfl) ?_
            refine lv_iload_n hx hb dX3_insertEach_18 rfl (lv_at hl 3 rfl) ?_
            refine kn_icmp_le (tgt := 59) hx hb (by omega) (by omega) dX3_insertEach_19 (by decide) (fun k_2 => ?_) (fun k_2 => ?_)
            · skip
              refine lv_iinc (v := nI (nx + 1)) (lv' := [(5, .int (nI (nx + 1))), (0, .ref (ad (54 + w))), (1, .ref (ad (3 * i))), (2, .ref (ad (24 + 5 * j))), (3, .int (nI f)), (4, .int (nI t9)), (6, .int (nI a))]) hx hb dX3_insertEach_59 hl (k := 5) rfl (nI_1 nx) (by decide) rfl (fun ls hl => ?_)
              refine lv_goto (tgt := 5) hx hb dX3_insertEach_62 (by decide) ?_
              exact ih5  r (nx + 1) hr9 (by omega) _ _ (by omega) hX _ (lv_sub hl [1, 2, 3, 4, 5, 0] rfl)
            · skip
              refine lv_aload_n hx hb dX3_insertEach_22 rfl (lv_at hl 2 rfl) ?_
              refine lv_aload_n hx hb dX3_insertEach_23 rfl (lv_at hl 1 rfl) ?_
              refine lv_iload hx hb dX3_insertEach_24 (lv_at hl 6 rfl) ?_
              refine kx_cr (v := nI (r.1 a)) (va_runV (As := [.int (nI a)]) (rest := [.ref (ad (24 + 5 * j))]) ⟨hx, hb, hml, hown, hts⟩ (m_X2_valueOn l dC dI ad (xR S i (r.1, r.2.1, r.2.2)) i a hi (by omega)) (cwV 1 hts gX3_insertEach_X2_valueOn rfl rfl rfl hdX2_valueOn_1 ⟨Nat.le_of_ble_eq_true rfl, Nat.le_of_ble_eq_true rfl⟩) (hX.preRow hi) rfl rfl hl.1 rfl (lv_room (Nat.le_of_ble_eq_true rfl)) dX3_insertEach_26 ⟨Nat.le_of_ble_eq_true rfl, Nat.le_of_ble_eq_true rfl⟩) (fun _ h => by rw [h, xR_row]) ?_
              refine lv_aload_n hx hb dX3_insertEach_29 rfl (lv_at hl 1 rfl) ?_
              refine lv_iload hx hb dX3_insertEach_30 (lv_at hl 6 rfl) ?_
              refine lv_iconst (v := nI 1) hx hb dX3_insertEach_32 (by decide) ?_
              refine kn_isub hx hb (by omega) dX3_insertEach_33 ?_
              refine kx_cr (v := nI (r.1 (a - 1))) (va_runV (As := [.int (nI (a - 1))]) (rest := [.int (nI (r.1 a)), .ref (ad (24 + 5 * j))]) ⟨hx, hb, hml, hown, hts⟩ (m_X2_valueOn l dC dI ad (xR S i (r.1, r.2.1, r.2.2)) i (a - 1) hi (by omega)) (cwV 1 hts gX3_insertEach_X2_valueOn rfl rfl rfl hdX2_valueOn_1 ⟨Nat.le_of_ble_eq_true rfl, Nat.le_of_ble_eq_true rfl⟩) (hX.preRow hi) rfl rfl hl.1 rfl (lv_room (Nat.le_of_ble_eq_true rfl)) dX3_insertEach_34 ⟨Nat.le_of_ble_eq_true rfl, Nat.le_of_ble_eq_true rfl⟩) (fun _ h => by rw [h, xR_row]) ?_
              refine kx_cr (v := cmpI (((S.2.1 j).2.2.1) (r.1 a)) (((S.2.1 j).2.2.1) (r.1 (a - 1)))) (va_runV (As := [.int (nI (r.1 a)), .int (nI (r.1 (a - 1)))]) (rest := []) ⟨hx, hb, hml, hown, hts⟩ (m_X1_compared l dC dI ad (xR S i (r.1, r.2.1, r.2.2)) j (r.1 a) (r.1 (a - 1)) hj ho (hr9.1.2 _ (by omega)).1 (hr9.1.2 _ (by omega)).1) (cwV 2 hts gX3_insertEach_X1_compared rfl rfl rfl hdX1_compared_2 ⟨Nat.le_of_ble_eq_true rfl, Nat.le_of_ble_eq_true rfl⟩) (hX.preOrd hj) rfl rfl hl.1 rfl (lv_room (Nat.le_of_ble_eq_true rfl)) dX3_insertEach_37 ⟨Nat.le_of_ble_eq_true rfl, Nat.le_of_ble_eq_true rfl⟩) (fun _ h => h) ?_
              refine kc_if_ge (tgt := 59) hx hb dX3_insertEach_40 (by decide) (fun k_3 => ?_) (fun k_3 => ?_)
              · skip
                have hc := k_3
                refine lv_iinc (v := nI (nx + 1)) (lv' := [(5, .int (nI (nx + 1))), (0, .ref (ad (54 + w))), (1, .ref (ad (3 * i))), (2, .ref (ad (24 + 5 * j))), (3, .int (nI f)), (4, .int (nI t9)), (6, .int (nI a))]) hx hb dX3_insertEach_59 hl (k := 5) rfl (nI_1 nx) (by decide) rfl (fun ls hl => ?_)
                refine lv_goto (tgt := 5) hx hb dX3_insertEach_62 (by decide) ?_
                exact ih5  r (nx + 1) hr9 (by omega) _ _ (by omega) hX _ (lv_sub hl [1, 2, 3, 4, 5, 0] rfl)
              · skip
                have hc := k_3
                refine lv_aload_n hx hb dX3_insertEach_43 rfl (lv_at hl 1 rfl) ?_
                refine lv_iload hx hb dX3_insertEach_44 (lv_at hl 6 rfl) ?_
                refine lv_iload hx hb dX3_insertEach_46 (lv_at hl 6 rfl) ?_
                refine lv_iconst (v := nI 1) hx hb dX3_insertEach_48 (by decide) ?_
                refine kn_isub hx hb (by omega) dX3_insertEach_49 ?_
                refine kx_cv (va_runV (As := [.int (nI a), .int (nI (a - 1))]) (rest := []) ⟨hx, hb, hml, hown, hts⟩ (m_X2_exchange l dC dI ad (xR S i (r.1, r.2.1, r.2.2)) i a (a - 1) hi (by omega) (by omega)) (cwV 2 hts gX3_insertEach_X2_exchange rfl rfl rfl hdX2_exchange_2 ⟨Nat.le_of_ble_eq_true rfl, Nat.le_of_ble_eq_true rfl⟩) (hX.preRow hi) rfl rfl hl.1 rfl (lv_room (Nat.le_of_ble_eq_true rfl)) dX3_insertEach_50 ⟨Nat.le_of_ble_eq_true rfl, Nat.le_of_ble_eq_true rfl⟩) hX (fun _ h => h) (fun S_ H locs hw hX => ?_)
                rw [xR_row, xR_xR] at hw
                subst hw
                refine lv_iinc (v := nI (a - 1)) (lv' := [(6, .int (nI (a - 1))), (0, .ref (ad (54 + w))), (1, .ref (ad (3 * i))), (2, .ref (ad (24 + 5 * j))), (3, .int (nI f)), (4, .int (nI t9)), (5, .int (nI nx))]) hx hb dX3_insertEach_53 hl (k := 6) rfl (kn_dec (by omega)) (by decide) rfl (fun ls hl => ?_)
                refine lv_goto (tgt := 16) hx hb dX3_insertEach_56 (by decide) ?_
                exact ih16  (xch r.1 a (a - 1), xch r.2.1 a (a - 1), r.2.2) (a - 1) ⟨rowOK_xch hr9.1 (by omega) (by omega), hr9.2⟩ (by omega) _ _ (by omega) hX _ (lv_sub hl [1, 2, 3, 4, 5, 6, 0] rfl)
        exact loop16 (nx + 1) r nx hr9 (by omega) _ _ (by omega) (WX.eqS rfl hX) _ (lv_sub hl [1, 2, 3, 4, 5, 6, 0] rfl)
  exact loop5 (18 + 1) (S.1 i) (f + 1) ⟨hro, rfl⟩ (by omega) _ _ (by omega) (WX.eqS (xR_self S i).symm hX) _ (lv_sub hl [1, 2, 3, 4, 5, 0] rfl)
set_option maxHeartbeats 4000000 in
set_option maxRecDepth 100000 in
theorem m_X3_mergeTwo (l : Launch) (dC : Nat → ClassId) (dI : Nat → Nat → Nat) (ad : Nat → Nat) (S : XS) (w i j lo mi h9 : Nat) (hw : w < 2) (hi : i < 8) (hj : j < 6) (hro : rowOK (S.1 i)) (ho : ordOK (S.2.1 j)) (hig : i ≠ 3 + 2 * w) (hlo : lo ≤ mi) (hmi : mi ≤ h9) (hh9 : h9 ≤ (S.1 i).2.2) (hgo : rowOK (S.1 (3 + 2 * w))) (hgn : (S.1 (3 + 2 * w)).2.2 = lo) : Met l yX3_mergeTwo wsX3_mergeTwo ({ frames := 1, cells := 0, slots := 0, locals := 26 } : Room) (va_Pc [.ref (ad (54 + w)), .ref (ad (3 * i)), .ref (ad (24 + 5 * j)), .int (nI lo), .int (nI mi), .int (nI h9)] (PX dC dI ad S)) (va_Qv (fun S' => ∃ r' : RowS, S' = xR S (3 + 2 * w) r' ∧ rowOK r' ∧ r'.2.2 = h9) (PX dC dI ad) (AX ad)) 0 0 (AX ad) := by
  refine Met.ofW (cc := cX3_mergeTwo) (maxL := 11) (ret := none) pl_X3 rfl ?_
  intro p e s m args below meth c s₁ B hml hv
  obtain ⟨rfl, hPX⟩ := hv
  have hx := B.exec
  have hb := B.bytes
  have hr := B.returns
  have hts := atoms_spec (ws := wsX3_mergeTwo) B.pre
  have hown : s.vm.findClass RX3 = some m.cls := findClass_of_methodNamed B.named
  have hlocks := B.notSynchronized
  have hin3 : ∀ w ∈ u_ws RX3 TX3 1, w ∈ wsX3_mergeTwo := tu 1323 (by decide +kernel) rfl
  have hX := WX.of hPX
  have hl := lv_entry ([.ref (ad (54 + w)), .ref (ad (3 * i)), .ref (ad (24 + 5 * j)), .int (nI lo), .int (nI mi), .int (nI h9)]) (n := 11) (Nat.le_of_ble_eq_true rfl)
  rw [lg_entry_eq]
  generalize (lg_sl ([.ref (ad (54 + w)), .ref (ad (3 * i)), .ref (ad (24 + 5 * j)), .int (nI lo), .int (nI mi), .int (nI h9)]) ++ List.replicate (11 - (lg_sl ([.ref (ad (54 + w)), .ref (ad (3 * i)), .ref (ad (24 + 5 * j)), .int (nI lo), .int (nI mi), .int (nI h9)])).length) Slot.unset).toArray = ls at hl ⊢
  have hl : lv_has ls 11 [(0, .ref (ad (54 + w))), (1, .ref (ad (3 * i))), (2, .ref (ad (24 + 5 * j))), (3, .int (nI lo)), (4, .int (nI mi)), (5, .int (nI h9))] := hl
  show W p l e ({ frames := 1, cells := 0, slots := 0, locals := 26 } : Room) s m ([.ref (ad (54 + w)), .ref (ad (3 * i)), .ref (ad (24 + 5 * j)), .int (nI lo), .int (nI mi), .int (nI h9)]).toArray below meth c s.heap [] 0 0 (MQ below (va_Qv (fun S' => ∃ r' : RowS, S' = xR S (3 + 2 * w) r' ∧ rowOK r' ∧ r'.2.2 = h9) (PX dC dI ad) (AX ad)) ([.ref (ad (54 + w)), .ref (ad (3 * i)), .ref (ad (24 + 5 * j)), .int (nI lo), .int (nI mi), .int (nI h9)]).toArray s 0 0 (AX ad)) (F0 m 0 ls [])
  have hn := hro.1
  refine lv_iload_n hx hb dX3_mergeTwo_0 rfl (lv_at hl 3 rfl) ?_
  refine lv_istore (lv' := [(6, .int (nI lo)), (0, .ref (ad (54 + w))), (1, .ref (ad (3 * i))), (2, .ref (ad (24 + 5 * j))), (3, .int (nI lo)), (4, .int (nI mi)), (5, .int (nI h9))]) hx hb dX3_mergeTwo_1 hl (by decide) rfl (fun ls hl => ?_)
  refine lv_iload hx hb dX3_mergeTwo_3 (lv_at hl 5 rfl) ?_
  refine lv_istore (lv' := [(7, .int (nI mi)), (6, .int (nI lo)), (0, .ref (ad (54 + w))), (1, .ref (ad (3 * i))), (2, .ref (ad (24 + 5 * j))), (3, .int (nI lo)), (4, .int (nI mi)), (5, .int (nI h9))]) hx hb dX3_mergeTwo_5 hl (by decide) rfl (fun ls hl => ?_)
  refine lv_iload_n hx hb dX3_mergeTwo_7 rfl (lv_at hl 5 rfl) ?_
  refine lv_istore (lv' := [(8, .int (nI lo)), (7, .int (nI mi)), (6, .int (nI lo)), (0, .ref (ad (54 + w))), (1, .ref (ad (3 * i))), (2, .ref (ad (24 + 5 * j))), (3, .int (nI lo)), (4, .int (nI mi)), (5, .int (nI h9))]) hx hb dX3_mergeTwo_8 hl (by decide) rfl (fun ls hl => ?_)
  have loop10 : ∀ (fuel : Nat) (r : RowS) (a c9 q : Nat) (hr9 : rowOK r ∧ r.2.2 = q) (ha : lo ≤ a ∧ a ≤ mi ∧ mi ≤ c9 ∧ c9 ≤ h9 ∧ a + c9 = q + mi) (H : Heap) (locs : List Loc), h9 - q < fuel → WX dC dI ad (xR S (3 + 2 * w) (r.1, r.2.1, r.2.2)) (AX ad) s H locs → ∀ ls : Array Slot, lv_has ls 11 [(0, .ref (ad (54 + w))), (1, .ref (ad (3 * i))), (2, .ref (ad (24 + 5 * j))), (3, .int (nI lo)), (4, .int (nI mi)), (5, .int (nI h9)), (6, .int (nI a)), (7, .int (nI c9)), (8, .int (nI q))] → W p l e ({ frames := 1, cells := 0, slots := 0, locals := 26 } : Room) s m ([.ref (ad (54 + w)), .ref (ad (3 * i)), .ref (ad (24 + 5 * j)), .int (nI lo), .int (nI mi), .int (nI h9)]).toArray below meth c H locs 0 0 (MQ below (va_Qv (fun S' => ∃ r' : RowS, S' = xR S (3 + 2 * w) r' ∧ rowOK r' ∧ r'.2.2 = h9) (PX dC dI ad) (AX ad)) ([.ref (ad (54 + w)), .ref (ad (3 * i)), .ref (ad (24 + 5 * j)), .int (nI lo), .int (nI mi), .int (nI h9)]).toArray s 0 0 (AX ad)) (F0 m 10 ls []) := by
    intro fuel
    induction fuel with
    | zero => intro r a c9 q hr9 ha H locs hf; exact absurd hf (Nat.not_lt_zero _)
    | succ fuel ih10 =>
      intro r a c9 q hr9 ha H locs hf hX ls hl
      refine lv_iload hx hb dX3_mergeTwo_10 (lv_at hl 8 rfl) ?_
      refine lv_iload hx hb dX3_mergeTwo_12 (lv_at hl 5 rfl) ?_
      refine kn_icmp_ge (tgt := 110) hx hb (by omega) (by omega) dX3_mergeTwo_14 (by decide) (fun k_1 => ?_) (fun k_1 => ?_)
      · skip
        exact W.vret hx hb hr (fun t9 ht9 hW9 => ⟨⟨(xR S (3 + 2 * w) (r.1, r.2.1, r.2.2)), rfl, ⟨r, rfl, hr9.1, by omega⟩, hX.P ht9 hW9⟩, hX.2.2.2.F ht9⟩) hX.2.2.2.2.2 dX3_mergeTwo_110
      · skip
        refine lv_iload hx hb dX3_mergeTwo_17 (lv_at hl 6 rfl) ?_
        refine lv_iload hx hb dX3_mergeTwo_19 (lv_at hl 4 rfl) ?_
        refine kn_icmp_ge (tgt := 50) hx hb (by omega) (by omega) dX3_mergeTwo_21 (by decide) (fun k_2 => ?_) (fun k_2 => ?_)
        · skip
          refine lv_iconst (v := nI 1) hx hb dX3_mergeTwo_50 (by decide) ?_
          refine lv_goto (tgt := 55) hx hb dX3_mergeTwo_51 (by decide) ?_
          refine lv_istore (lv' := [(9, .int (nI 1)), (0, .ref (ad (54 + w))), (1, .ref (ad (3 * i))), (2, .ref (ad (24 + 5 * j))), (3, .int (nI lo)), (4, .int (nI mi)), (5, .int (nI h9)), (6, .int (nI a)), (7, .int (nI c9)), (8, .int (nI q))]) hx hb dX3_mergeTwo_55 hl (by decide) rfl (fun ls hl => ?_)
          refine lv_iload hx hb dX3_mergeTwo_57 (lv_at hl 0 rfl) ?_
          refine kn_if_eq (tgt := 67) hx hb (by omega) dX3_mergeTwo_59 (by decide) (fun k_3 => absurd k_3 (by omega)) (fun k_3 => ?_)
          refine lv_iload hx hb dX3_mergeTwo_62 (lv_at hl 8 rfl) ?_
          refine lv_goto (tgt := 69) hx hb dX3_mergeTwo_64 (by decide) ?_
          refine lv_istore (lv' := [(10, .int (nI c9)), (9, .int (nI 1)), (0, .ref (ad (54 + w))), (1, .ref (ad (3 * i))), (2, .ref (ad (24 + 5 * j))), (3, .int (nI lo)), (4, .int (nI mi)), (5, .int (nI h9)), (6, .int (nI a)), (7, .int (nI c9)), (8, .int (nI q))]) hx hb dX3_mergeTwo_69 hl (by decide) rfl (fun ls hl => ?_)
          refine lv_aload_n hx hb dX3_mergeTwo_71 rfl (lv_at hl 2 rfl) ?_
          refine ks_gg hx hb hts hin3 hown hX hw (hts (.fieldLink RX3 10 "Orderlattice$Sorter" "gathered" "LOrderlattice$Row;") (tm 20 (by decide +kernel) rfl)) dX3_mergeTwo_72 ?_
          refine lv_aload_n hx hb dX3_mergeTwo_75 rfl (lv_at hl 3 rfl) ?_
          refine lv_iload hx hb dX3_mergeTwo_76 (lv_at hl 0 rfl) ?_
          refine kx_cr (v := nI ((S.1 i).1 c9)) (va_runV (As := [.int (nI c9)]) (rest := [.ref (ad (3 * (3 + 2 * w)))]) ⟨hx, hb, hml, hown, hts⟩ (m_X2_valueOn l dC dI ad (xR S (3 + 2 * w) (r.1, r.2.1, r.2.2)) i c9 hi (by omega)) (cwV 1 hts gX3_mergeTwo_X2_valueOn rfl rfl rfl hdX2_valueOn_1 ⟨Nat.le_of_ble_eq_true rfl, Nat.le_of_ble_eq_true rfl⟩) (hX.preRow hi) rfl rfl hl.1 rfl (lv_room (Nat.le_of_ble_eq_true rfl)) dX3_mergeTwo_78 ⟨Nat.le_of_ble_eq_true rfl, Nat.le_of_ble_eq_true rfl⟩) (fun _ h => by rw [h, xR_ne _ _ hig]) ?_
          refine lv_aload_n hx hb dX3_mergeTwo_81 rfl (lv_at hl 3 rfl) ?_
          refine lv_iload hx hb dX3_mergeTwo_82 (lv_at hl 0 rfl) ?_
          refine kx_cr (v := nI ((S.1 i).2.1 c9)) (va_runV (As := [.int (nI c9)]) (rest := [.int (nI ((S.1 i).1 c9)), .ref (ad (3 * (3 + 2 * w)))]) ⟨hx, hb, hml, hown, hts⟩ (m_X2_markOn l dC dI ad (xR S (3 + 2 * w) (r.1, r.2.1, r.2.2)) i c9 hi (by omega)) (cwV 1 hts gX3_mergeTwo_X2_markOn rfl rfl rfl hdX2_markOn_1 ⟨Nat.le_of_ble_eq_true rfl, Nat.le_of_ble_eq_true rfl⟩) (hX.preRow hi) rfl rfl hl.1 rfl (lv_room (Nat.le_of_ble_eq_true rfl)) dX3_mergeTwo_84 ⟨Nat.le_of_ble_eq_true rfl, Nat.le_of_ble_eq_true rfl⟩) (fun _ h => by rw [h, xR_ne _ _ hig]) ?_
          refine kx_cv (va_runV (As := [.int (nI ((S.1 i).1 c9)), .int (nI ((S.1 i).2.1 c9))]) (rest := []) ⟨hx, hb, hml, hown, hts⟩ (m_X2_append l dC dI ad (xR S (3 + 2 * w) (r.1, r.2.1, r.2.2)) (3 + 2 * w) ((S.1 i).1 c9) ((S.1 i).2.1 c9) (by omega) (by rw [xR_row]; show r.2.2 < 16; omega)) (cwV 2 hts gX3_mergeTwo_X2_append rfl rfl rfl hdX2_append_2 ⟨Nat.le_of_ble_eq_true rfl, Nat.le_of_ble_eq_true rfl⟩) (hX.preRow (by omega)) rfl rfl hl.1 rfl (lv_room (Nat.le_of_ble_eq_true rfl)) dX3_mergeTwo_87 ⟨Nat.le_of_ble_eq_true rfl, Nat.le_of_ble_eq_true rfl⟩) hX (fun _ h => h) (fun S_ H locs hw hX => ?_)
          rw [xR_row, xR_xR] at hw
          subst hw
          refine lv_iload hx hb dX3_mergeTwo_90 (lv_at hl 1 rfl) ?_
          refine kn_if_eq (tgt := 101) hx hb (by omega) dX3_mergeTwo_92 (by decide) (fun k_4 => absurd k_4 (by omega)) (fun k_4 => ?_)
          refine lv_iinc (v := nI (c9 + 1)) (lv' := [(7, .int (nI (c9 + 1))), (10, .int (nI c9)), (9, .int (nI 1)), (0, .ref (ad (54 + w))), (1, .ref (ad (3 * i))), (2, .ref (ad (24 + 5 * j))), (3, .int (nI lo)), (4, .int (nI mi)), (5, .int (nI h9)), (6, .int (nI a)), (8, .int (nI q))]) hx hb dX3_mergeTwo_95 hl (k := 9) rfl (nI_1 c9) (by decide) rfl (fun ls hl => ?_)
          refine lv_goto (tgt := 104) hx hb dX3_mergeTwo_98 (by decide) ?_
          refine lv_iinc (v := nI (q + 1)) (lv' := [(8, .int (nI (q + 1))), (7, .int (nI (c9 + 1))), (10, .int (nI c9)), (9, .int (nI 1)), (0, .ref (ad (54 + w))), (1, .ref (ad (3 * i))), (2, .ref (ad (24 + 5 * j))), (3, .int (nI lo)), (4, .int (nI mi)), (5, .int (nI h9)), (6, .int (nI a))]) hx hb dX3_mergeTwo_104 hl (k := 10) rfl (nI_1 q) (by decide) rfl (fun ls hl => ?_)
          refine lv_goto (tgt := 10) hx hb dX3_mergeTwo_107 (by decide) ?_
          exact ih10  (va_up r.1 r.2.2 ((S.1 i).1 c9), va_up r.2.1 r.2.2 ((S.1 i).2.1 c9), r.2.2 + 1) a (c9 + 1) (q + 1) ⟨rowOK_app hr9.1 (by omega) (hro.2 _ (by omega)).1 (hro.2 _ (by omega)).2, congrArg (· + 1) hr9.2⟩ (by omega) _ _ (by omega) hX _ (lv_sub hl [4, 5, 6, 7, 8, 9, 10, 1, 0] rfl)
        · skip
          refine lv_iload hx hb dX3_mergeTwo_24 (lv_at hl 7 rfl) ?_
          refine lv_iload hx hb dX3_mergeTwo_26 (lv_at hl 5 rfl) ?_
          refine kn_icmp_ge (tgt := 54) hx hb (by omega) (by omega) dX3_mergeTwo_28 (by decide) (fun k_5 => ?_) (fun k_5 => ?_)
          · skip
            refine lv_iconst (v := nI 0) hx hb dX3_mergeTwo_54 (by decide) ?_
            refine lv_istore (lv' := [(9, .int (nI 0)), (0, .ref (ad (54 + w))), (1, .ref (ad (3 * i))), (2, .ref (ad (24 + 5 * j))), (3, .int (nI lo)), (4, .int (nI mi)), (5, .int (nI h9)), (6, .int (nI a)), (7, .int (nI c9)), (8, .int (nI q))]) hx hb dX3_mergeTwo_55 hl (by decide) rfl (fun ls hl => ?_)
            refine lv_iload hx hb dX3_mergeTwo_57 (lv_at hl 0 rfl) ?_
            refine kn_if_eq (tgt := 67) hx hb (by omega) dX3_mergeTwo_59 (by decide) (fun k_6 => ?_) (fun k_6 => absurd k_6 (by omega))
            refine lv_iload hx hb dX3_mergeTwo_67 (lv_at hl 7 rfl) ?_
            refine lv_istore (lv' := [(10, .int (nI a)), (9, .int (nI 0)), (0, .ref (ad (54 + w))), (1, .ref (ad (3 * i))), (2, .ref (ad (24 + 5 * j))), (3, .int (nI lo)), (4, .int (nI mi)), (5, .int (nI h9)), (6, .int (nI a)), (7, .int (nI c9)), (8, .int (nI q))]) hx hb dX3_mergeTwo_69 hl (by decide) rfl (fun ls hl => ?_)
            refine lv_aload_n hx hb dX3_mergeTwo_71 rfl (lv_at hl 2 rfl) ?_
            refine ks_gg hx hb hts hin3 hown hX hw (hts (.fieldLink RX3 10 "Orderlattice$Sorter" "gathered" "LOrderlattice$Row;") (tm 20 (by decide +kernel) rfl)) dX3_mergeTwo_72 ?_
            refine lv_aload_n hx hb dX3_mergeTwo_75 rfl (lv_at hl 3 rfl) ?_
            refine lv_iload hx hb dX3_mergeTwo_76 (lv_at hl 0 rfl) ?_
            refine kx_cr (v := nI ((S.1 i).1 a)) (va_runV (As := [.int (nI a)]) (rest := [.ref (ad (3 * (3 + 2 * w)))]) ⟨hx, hb, hml, hown, hts⟩ (m_X2_valueOn l dC dI ad (xR S (3 + 2 * w) (r.1, r.2.1, r.2.2)) i a hi (by omega)) (cwV 1 hts gX3_mergeTwo_X2_valueOn rfl rfl rfl hdX2_valueOn_1 ⟨Nat.le_of_ble_eq_true rfl, Nat.le_of_ble_eq_true rfl⟩) (hX.preRow hi) rfl rfl hl.1 rfl (lv_room (Nat.le_of_ble_eq_true rfl)) dX3_mergeTwo_78 ⟨Nat.le_of_ble_eq_true rfl, Nat.le_of_ble_eq_true rfl⟩) (fun _ h => by rw [h, xR_ne _ _ hig]) ?_
            refine lv_aload_n hx hb dX3_mergeTwo_81 rfl (lv_at hl 3 rfl) ?_
            refine lv_iload hx hb dX3_mergeTwo_82 (lv_at hl 0 rfl) ?_
            refine kx_cr (v := nI ((S.1 i).2.1 a)) (va_runV (As := [.int (nI a)]) (rest := [.int (nI ((S.1 i).1 a)), .ref (ad (3 * (3 + 2 * w)))]) ⟨hx, hb, hml, hown, hts⟩ (m_X2_markOn l dC dI ad (xR S (3 + 2 * w) (r.1, r.2.1, r.2.2)) i a hi (by omega)) (cwV 1 hts gX3_mergeTwo_X2_markOn rfl rfl rfl hdX2_markOn_1 ⟨Nat.le_of_ble_eq_true rfl, Nat.le_of_ble_eq_true rfl⟩) (hX.preRow hi) rfl rfl hl.1 rfl (lv_room (Nat.le_of_ble_eq_true rfl)) dX3_mergeTwo_84 ⟨Nat.le_of_ble_eq_true rfl, Nat.le_of_ble_eq_true rfl⟩) (fun _ h => by rw [h, xR_ne _ _ hig]) ?_
            refine kx_cv (va_runV (As := [.int (nI ((S.1 i).1 a)), .int (nI ((S.1 i).2.1 a))]) (rest := []) ⟨hx, hb, hml, hown, hts⟩ (m_X2_append l dC dI ad (xR S (3 + 2 * w) (r.1, r.2.1, r.2.2)) (3 + 2 * w) ((S.1 i).1 a) ((S.1 i).2.1 a) (by omega) (by rw [xR_row]; show r.2.2 < 16; omega)) (cwV 2 hts gX3_mergeTwo_X2_append rfl rfl rfl hdX2_append_2 ⟨Nat.le_of_ble_eq_true rfl, Nat.le_of_ble_eq_true rfl⟩) (hX.preRow (by omega)) rfl rfl hl.1 rfl (lv_room (Nat.le_of_ble_eq_true rfl)) dX3_mergeTwo_87 ⟨Nat.le_of_ble_eq_true rfl, Nat.le_of_ble_eq_true rfl⟩) hX (fun _ h => h) (fun S_ H locs hw hX => ?_)
            rw [xR_row, xR_xR] at hw
            subst hw
            refine lv_iload hx hb dX3_mergeTwo_90 (lv_at hl 1 rfl) ?_
            refine kn_if_eq (tgt := 101) hx hb (by omega) dX3_mergeTwo_92 (by decide) (fun k_7 => ?_) (fun k_7 => absurd k_7 (by omega))
            refine lv_iinc (v := nI (a + 1)) (lv' := [(6, .int (nI (a + 1))), (10, .int (nI a)), (9, .int (nI 0)), (0, .ref (ad (54 + w))), (1, .ref (ad (3 * i))), (2, .ref (ad (24 + 5 * j))), (3, .int (nI lo)), (4, .int (nI mi)), (5, .int (nI h9)), (7, .int (nI c9)), (8, .int (nI q))]) hx hb dX3_mergeTwo_101 hl (k := 8) rfl (nI_1 a) (by decide) rfl (fun ls hl => ?_)
            refine lv_iinc (v := nI (q + 1)) (lv' := [(8, .int (nI (q + 1))), (6, .int (nI (a + 1))), (10, .int (nI a)), (9, .int (nI 0)), (0, .ref (ad (54 + w))), (1, .ref (ad (3 * i))), (2, .ref (ad (24 + 5 * j))), (3, .int (nI lo)), (4, .int (nI mi)), (5, .int (nI h9)), (7, .int (nI c9))]) hx hb dX3_mergeTwo_104 hl (k := 10) rfl (nI_1 q) (by decide) rfl (fun ls hl => ?_)
            refine lv_goto (tgt := 10) hx hb dX3_mergeTwo_107 (by decide) ?_
            exact ih10  (va_up r.1 r.2.2 ((S.1 i).1 a), va_up r.2.1 r.2.2 ((S.1 i).2.1 a), r.2.2 + 1) (a + 1) c9 (q + 1) ⟨rowOK_app hr9.1 (by omega) (hro.2 _ (by omega)).1 (hro.2 _ (by omega)).2, congrArg (· + 1) hr9.2⟩ (by omega) _ _ (by omega) hX _ (lv_sub hl [4, 5, 6, 7, 8, 9, 1, 10, 0] rfl)
          · skip
            refine lv_aload_n hx hb dX3_mergeTwo_31 rfl (lv_at hl 2 rfl) ?_
            refine lv_aload_n hx hb dX3_mergeTwo_32 rfl (lv_at hl 1 rfl) ?_
            refine lv_iload hx hb dX3_mergeTwo_33 (lv_at hl 7 rfl) ?_
            refine kx_cr (v := nI ((S.1 i).1 c9)) (va_runV (As := [.int (nI c9)]) (rest := [.ref (ad (24 + 5 * j))]) ⟨hx, hb, hml, hown, hts⟩ (m_X2_valueOn l dC dI ad (xR S (3 + 2 * w) (r.1, r.2.1, r.2.2)) i c9 hi (by omega)) (cwV 1 hts gX3_mergeTwo_X2_valueOn rfl rfl rfl hdX2_valueOn_1 ⟨Nat.le_of_ble_eq_true rfl, Nat.le_of_ble_eq_true rfl⟩) (hX.preRow hi) rfl rfl hl.1 rfl (lv_room (Nat.le_of_ble_eq_true rfl)) dX3_mergeTwo_35 ⟨Nat.le_of_ble_eq_true rfl, Nat.le_of_ble_eq_true rfl⟩) (fun _ h => by rw [h, xR_ne _ _ hig]) ?_
            refine lv_aload_n hx hb dX3_mergeTwo_38 rfl (lv_at hl 1 rfl) ?_
            refine lv_iload hx hb dX3_mergeTwo_39 (lv_at hl 6 rfl) ?_
            refine kx_cr (v := nI ((S.1 i).1 a)) (va_runV (As := [.int (nI a)]) (rest := [.int (nI ((S.1 i).1 c9)), .ref (ad (24 + 5 * j))]) ⟨hx, hb, hml, hown, hts⟩ (m_X2_valueOn l dC dI ad (xR S (3 + 2 * w) (r.1, r.2.1, r.2.2)) i a hi (by omega)) (cwV 1 hts gX3_mergeTwo_X2_valueOn rfl rfl rfl hdX2_valueOn_1 ⟨Nat.le_of_ble_eq_true rfl, Nat.le_of_ble_eq_true rfl⟩) (hX.preRow hi) rfl rfl hl.1 rfl (lv_room (Nat.le_of_ble_eq_true rfl)) dX3_mergeTwo_41 ⟨Nat.le_of_ble_eq_true rfl, Nat.le_of_ble_eq_true rfl⟩) (fun _ h => by rw [h, xR_ne _ _ hig]) ?_
            refine kx_cr (v := cmpI (((S.2.1 j).2.2.1) ((S.1 i).1 c9)) (((S.2.1 j).2.2.1) ((S.1 i).1 a))) (va_runV (As := [.int (nI ((S.1 i).1 c9)), .int (nI ((S.1 i).1 a))]) (rest := []) ⟨hx, hb, hml, hown, hts⟩ (m_X1_compared l dC dI ad (xR S (3 + 2 * w) (r.1, r.2.1, r.2.2)) j ((S.1 i).1 c9) ((S.1 i).1 a) hj ho (hro.2 _ (by omega)).1 (hro.2 _ (by omega)).1) (cwV 2 hts gX3_mergeTwo_X1_compared rfl rfl rfl hdX1_compared_2 ⟨Nat.le_of_ble_eq_true rfl, Nat.le_of_ble_eq_true rfl⟩) (hX.preOrd hj) rfl rfl hl.1 rfl (lv_room (Nat.le_of_ble_eq_true rfl)) dX3_mergeTwo_44 ⟨Nat.le_of_ble_eq_true rfl, Nat.le_of_ble_eq_true rfl⟩) (fun _ h => h) ?_
            refine kc_if_ge (tgt := 54) hx hb dX3_mergeTwo_47 (by decide) (fun k_8 => ?_) (fun k_8 => ?_)
            · skip
              refine lv_iconst (v := nI 0) hx hb dX3_mergeTwo_54 (by decide) ?_
              refine lv_istore (lv' := [(9, .int (nI 0)), (0, .ref (ad (54 + w))), (1, .ref (ad (3 * i))), (2, .ref (ad (24 + 5 * j))), (3, .int (nI lo)), (4, .int (nI mi)), (5, .int (nI h9)), (6, .int (nI a)), (7, .int (nI c9)), (8, .int (nI q))]) hx hb dX3_mergeTwo_55 hl (by decide) rfl (fun ls hl => ?_)
              refine lv_iload hx hb dX3_mergeTwo_57 (lv_at hl 0 rfl) ?_
              refine kn_if_eq (tgt := 67) hx hb (by omega) dX3_mergeTwo_59 (by decide) (fun k_9 => ?_) (fun k_9 => absurd k_9 (by omega))
              refine lv_iload hx hb dX3_mergeTwo_67 (lv_at hl 7 rfl) ?_
              refine lv_istore (lv' := [(10, .int (nI a)), (9, .int (nI 0)), (0, .ref (ad (54 + w))), (1, .ref (ad (3 * i))), (2, .ref (ad (24 + 5 * j))), (3, .int (nI lo)), (4, .int (nI mi)), (5, .int (nI h9)), (6, .int (nI a)), (7, .int (nI c9)), (8, .int (nI q))]) hx hb dX3_mergeTwo_69 hl (by decide) rfl (fun ls hl => ?_)
              refine lv_aload_n hx hb dX3_mergeTwo_71 rfl (lv_at hl 2 rfl) ?_
              refine ks_gg hx hb hts hin3 hown hX hw (hts (.fieldLink RX3 10 "Orderlattice$Sorter" "gathered" "LOrderlattice$Row;") (tm 20 (by decide +kernel) rfl)) dX3_mergeTwo_72 ?_
              refine lv_aload_n hx hb dX3_mergeTwo_75 rfl (lv_at hl 3 rfl) ?_
              refine lv_iload hx hb dX3_mergeTwo_76 (lv_at hl 0 rfl) ?_
              refine kx_cr (v := nI ((S.1 i).1 a)) (va_runV (As := [.int (nI a)]) (rest := [.ref (ad (3 * (3 + 2 * w)))]) ⟨hx, hb, hml, hown, hts⟩ (m_X2_valueOn l dC dI ad (xR S (3 + 2 * w) (r.1, r.2.1, r.2.2)) i a hi (by omega)) (cwV 1 hts gX3_mergeTwo_X2_valueOn rfl rfl rfl hdX2_valueOn_1 ⟨Nat.le_of_ble_eq_true rfl, Nat.le_of_ble_eq_true rfl⟩) (hX.preRow hi) rfl rfl hl.1 rfl (lv_room (Nat.le_of_ble_eq_true rfl)) dX3_mergeTwo_78 ⟨Nat.le_of_ble_eq_true rfl, Nat.le_of_ble_eq_true rfl⟩) (fun _ h => by rw [h, xR_ne _ _ hig]) ?_
              refine lv_aload_n hx hb dX3_mergeTwo_81 rfl (lv_at hl 3 rfl) ?_
              refine lv_iload hx hb dX3_mergeTwo_82 (lv_at hl 0 rfl) ?_
              refine kx_cr (v := nI ((S.1 i).2.1 a)) (va_runV (As := [.int (nI a)]) (rest := [.int (nI ((S.1 i).1 a)), .ref (ad (3 * (3 + 2 * w)))]) ⟨hx, hb, hml, hown, hts⟩ (m_X2_markOn l dC dI ad (xR S (3 + 2 * w) (r.1, r.2.1, r.2.2)) i a hi (by omega)) (cwV 1 hts gX3_mergeTwo_X2_markOn rfl rfl rfl hdX2_markOn_1 ⟨Nat.le_of_ble_eq_true rfl, Nat.le_of_ble_eq_true rfl⟩) (hX.preRow hi) rfl rfl hl.1 rfl (lv_room (Nat.le_of_ble_eq_true rfl)) dX3_mergeTwo_84 ⟨Nat.le_of_ble_eq_true rfl, Nat.le_of_ble_eq_true rfl⟩) (fun _ h => by rw [h, xR_ne _ _ hig]) ?_
              refine kx_cv (va_runV (As := [.int (nI ((S.1 i).1 a)), .int (nI ((S.1 i).2.1 a))]) (rest := []) ⟨hx, hb, hml, hown, hts⟩ (m_X2_append l dC dI ad (xR S (3 + 2 * w) (r.1, r.2.1, r.2.2)) (3 + 2 * w) ((S.1 i).1 a) ((S.1 i).2.1 a) (by omega) (by rw [xR_row]; show r.2.2 < 16; omega)) (cwV 2 hts gX3_mergeTwo_X2_append rfl rfl rfl hdX2_append_2 ⟨Nat.le_of_ble_eq_true rfl, Nat.le_of_ble_eq_true rfl⟩) (hX.preRow (by omega)) rfl rfl hl.1 rfl (lv_room (Nat.le_of_ble_eq_true rfl)) dX3_mergeTwo_87 ⟨Nat.le_of_ble_eq_true rfl, Nat.le_of_ble_eq_true rfl⟩) hX (fun _ h => h) (fun S_ H locs hw hX => ?_)
              rw [xR_row, xR_xR] at hw
              subst hw
              refine lv_iload hx hb dX3_mergeTwo_90 (lv_at hl 1 rfl) ?_
              refine kn_if_eq (tgt := 101) hx hb (by omega) dX3_mergeTwo_92 (by decide) (fun k_10 => ?_) (fun k_10 => absurd k_10 (by omega))
              refine lv_iinc (v := nI (a + 1)) (lv' := [(6, .int (nI (a + 1))), (10, .int (nI a)), (9, .int (nI 0)), (0, .ref (ad (54 + w))), (1, .ref (ad (3 * i))), (2, .ref (ad (24 + 5 * j))), (3, .int (nI lo)), (4, .int (nI mi)), (5, .int (nI h9)), (7, .int (nI c9)), (8, .int (nI q))]) hx hb dX3_mergeTwo_101 hl (k := 8) rfl (nI_1 a) (by decide) rfl (fun ls hl => ?_)
              refine lv_iinc (v := nI (q + 1)) (lv' := [(8, .int (nI (q + 1))), (6, .int (nI (a + 1))), (10, .int (nI a)), (9, .int (nI 0)), (0, .ref (ad (54 + w))), (1, .ref (ad (3 * i))), (2, .ref (ad (24 + 5 * j))), (3, .int (nI lo)), (4, .int (nI mi)), (5, .int (nI h9)), (7, .int (nI c9))]) hx hb dX3_mergeTwo_104 hl (k := 10) rfl (nI_1 q) (by decide) rfl (fun ls hl => ?_)
              refine lv_goto (tgt := 10) hx hb dX3_mergeTwo_107 (by decide) ?_
              exact ih10  (va_up r.1 r.2.2 ((S.1 i).1 a), va_up r.2.1 r.2.2 ((S.1 i).2.1 a), r.2.2 + 1) (a + 1) c9 (q + 1) ⟨rowOK_app hr9.1 (by omega) (hro.2 _ (by omega)).1 (hro.2 _ (by omega)).2, congrArg (· + 1) hr9.2⟩ (by omega) _ _ (by omega) hX _ (lv_sub hl [4, 5, 6, 7, 8, 9, 1, 10, 0] rfl)
            · skip
              refine lv_iconst (v := nI 1) hx hb dX3_mergeTwo_50 (by decide) ?_
              refine lv_goto (tgt := 55) hx hb dX3_mergeTwo_51 (by decide) ?_
              refine lv_istore (lv' := [(9, .int (nI 1)), (0, .ref (ad (54 + w))), (1, .ref (ad (3 * i))), (2, .ref (ad (24 + 5 * j))), (3, .int (nI lo)), (4, .int (nI mi)), (5, .int (nI h9)), (6, .int (nI a)), (7, .int (nI c9)), (8, .int (nI q))]) hx hb dX3_mergeTwo_55 hl (by decide) rfl (fun ls hl => ?_)
              refine lv_iload hx hb dX3_mergeTwo_57 (lv_at hl 0 rfl) ?_
              refine kn_if_eq (tgt := 67) hx hb (by omega) dX3_mergeTwo_59 (by decide) (fun k_11 => absurd k_11 (by omega)) (fun k_11 => ?_)
              refine lv_iload hx hb dX3_mergeTwo_62 (lv_at hl 8 rfl) ?_
              refine lv_goto (tgt := 69) hx hb dX3_mergeTwo_64 (by decide) ?_
              refine lv_istore (lv' := [(10, .int (nI c9)), (9, .int (nI 1)), (0, .ref (ad (54 + w))), (1, .ref (ad (3 * i))), (2, .ref (ad (24 + 5 * j))), (3, .int (nI lo)), (4, .int (nI mi)), (5, .int (nI h9)), (6, .int (nI a)), (7, .int (nI c9)), (8, .int (nI q))]) hx hb dX3_mergeTwo_69 hl (by decide) rfl (fun ls hl => ?_)
              refine lv_aload_n hx hb dX3_mergeTwo_71 rfl (lv_at hl 2 rfl) ?_
              refine ks_gg hx hb hts hin3 hown hX hw (hts (.fieldLink RX3 10 "Orderlattice$Sorter" "gathered" "LOrderlattice$Row;") (tm 20 (by decide +kernel) rfl)) dX3_mergeTwo_72 ?_
              refine lv_aload_n hx hb dX3_mergeTwo_75 rfl (lv_at hl 3 rfl) ?_
              refine lv_iload hx hb dX3_mergeTwo_76 (lv_at hl 0 rfl) ?_
              refine kx_cr (v := nI ((S.1 i).1 c9)) (va_runV (As := [.int (nI c9)]) (rest := [.ref (ad (3 * (3 + 2 * w)))]) ⟨hx, hb, hml, hown, hts⟩ (m_X2_valueOn l dC dI ad (xR S (3 + 2 * w) (r.1, r.2.1, r.2.2)) i c9 hi (by omega)) (cwV 1 hts gX3_mergeTwo_X2_valueOn rfl rfl rfl hdX2_valueOn_1 ⟨Nat.le_of_ble_eq_true rfl, Nat.le_of_ble_eq_true rfl⟩) (hX.preRow hi) rfl rfl hl.1 rfl (lv_room (Nat.le_of_ble_eq_true rfl)) dX3_mergeTwo_78 ⟨Nat.le_of_ble_eq_true rfl, Nat.le_of_ble_eq_true rfl⟩) (fun _ h => by rw [h, xR_ne _ _ hig]) ?_
              refine lv_aload_n hx hb dX3_mergeTwo_81 rfl (lv_at hl 3 rfl) ?_
              refine lv_iload hx hb dX3_mergeTwo_82 (lv_at hl 0 rfl) ?_
              refine kx_cr (v := nI ((S.1 i).2.1 c9)) (va_runV (As := [.int (nI c9)]) (rest := [.int (nI ((S.1 i).1 c9)), .ref (ad (3 * (3 + 2 * w)))]) ⟨hx, hb, hml, hown, hts⟩ (m_X2_markOn l dC dI ad (xR S (3 + 2 * w) (r.1, r.2.1, r.2.2)) i c9 hi (by omega)) (cwV 1 hts gX3_mergeTwo_X2_markOn rfl rfl rfl hdX2_markOn_1 ⟨Nat.le_of_ble_eq_true rfl, Nat.le_of_ble_eq_true rfl⟩) (hX.preRow hi) rfl rfl hl.1 rfl (lv_room (Nat.le_of_ble_eq_true rfl)) dX3_mergeTwo_84 ⟨Nat.le_of_ble_eq_true rfl, Nat.le_of_ble_eq_true rfl⟩) (fun _ h => by rw [h, xR_ne _ _ hig]) ?_
              refine kx_cv (va_runV (As := [.int (nI ((S.1 i).1 c9)), .int (nI ((S.1 i).2.1 c9))]) (rest := []) ⟨hx, hb, hml, hown, hts⟩ (m_X2_append l dC dI ad (xR S (3 + 2 * w) (r.1, r.2.1, r.2.2)) (3 + 2 * w) ((S.1 i).1 c9) ((S.1 i).2.1 c9) (by omega) (by rw [xR_row]; show r.2.2 < 16; omega)) (cwV 2 hts gX3_mergeTwo_X2_append rfl rfl rfl hdX2_append_2 ⟨Nat.le_of_ble_eq_true rfl, Nat.le_of_ble_eq_true rfl⟩) (hX.preRow (by omega)) rfl rfl hl.1 rfl (lv_room (Nat.le_of_ble_eq_true rfl)) dX3_mergeTwo_87 ⟨Nat.le_of_ble_eq_true rfl, Nat.le_of_ble_eq_true rfl⟩) hX (fun _ h => h) (fun S_ H locs hw hX => ?_)
              rw [xR_row, xR_xR] at hw
              subst hw
              refine lv_iload hx hb dX3_mergeTwo_90 (lv_at hl 1 rfl) ?_
              refine kn_if_eq (tgt := 101) hx hb (by omega) dX3_mergeTwo_92 (by decide) (fun k_12 => absurd k_12 (by omega)) (fun k_12 => ?_)
              refine lv_iinc (v := nI (c9 + 1)) (lv' := [(7, .int (nI (c9 + 1))), (10, .int (nI c9)), (9, .int (nI 1)), (0, .ref (ad (54 + w))), (1, .ref (ad (3 * i))), (2, .ref (ad (24 + 5 * j))), (3, .int (nI lo)), (4, .int (nI mi)), (5, .int (nI h9)), (6, .int (nI a)), (8, .int (nI q))]) hx hb dX3_mergeTwo_95 hl (k := 9) rfl (nI_1 c9) (by decide) rfl (fun ls hl => ?_)
              refine lv_goto (tgt := 104) hx hb dX3_mergeTwo_98 (by decide) ?_
              refine lv_iinc (v := nI (q + 1)) (lv' := [(8, .int (nI (q + 1))), (7, .int (nI (c9 + 1))), (10, .int (nI c9)), (9, .int (nI 1)), (0, .ref (ad (54 + w))), (1, .ref (ad (3 * i))), (2, .ref (ad (24 + 5 * j))), (3, .int (nI lo)), (4, .int (nI mi)), (5, .int (nI h9)), (6, .int (nI a))]) hx hb dX3_mergeTwo_104 hl (k := 10) rfl (nI_1 q) (by decide) rfl (fun ls hl => ?_)
              refine lv_goto (tgt := 10) hx hb dX3_mergeTwo_107 (by decide) ?_
              exact ih10  (va_up r.1 r.2.2 ((S.1 i).1 c9), va_up r.2.1 r.2.2 ((S.1 i).2.1 c9), r.2.2 + 1) a (c9 + 1) (q + 1) ⟨rowOK_app hr9.1 (by omega) (hro.2 _ (by omega)).1 (hro.2 _ (by omega)).2, congrArg (· + 1) hr9.2⟩ (by omega) _ _ (by omega) hX _ (lv_sub hl [4, 5, 6, 7, 8, 9, 10, 1, 0] rfl)
  exact loop10 (h9 + 1) (S.1 (3 + 2 * w)) lo mi lo ⟨hgo, hgn⟩ (by omega) _ _ (by omega) (WX.eqS (xR_self S _).symm hX) _ (lv_sub hl [3, 4, 5, 6, 7, 8, 2, 1, 0] rfl)
end
section
/-- what sorting row i by way of row g leaves as it was -/
def keepR (S S1 : XS) (i g : Nat) : Prop := S1.2 = S.2 ∧ (∀ k, k ≠ i → k ≠ g → S1.1 k = S.1 k) ∧ rowOK (S1.1 g) ∧ rowOK (S1.1 i) ∧ (S1.1 i).2.2 = (S.1 i).2.2
theorem keepR_refl {S : XS} {i g : Nat} (hi : rowOK (S.1 i)) (hg : rowOK (S.1 g)) : keepR S S i g := ⟨rfl, fun _ _ _ => rfl, hg, hi, rfl⟩
theorem keepR_g {S S1 : XS} {i g : Nat} (h : keepR S S1 i g) (hig : i ≠ g) {r : RowS} (hr : rowOK r) : keepR S (xR S1 g r) i g :=
  ⟨h.1, fun k h1 h2 => by rw [xR_ne _ _ h2]; exact h.2.1 k h1 h2, by rw [xR_row]; exact hr, by rw [xR_ne _ _ hig]; exact h.2.2.2.1, by rw [xR_ne _ _ hig]; exact h.2.2.2.2⟩
theorem keepR_i {S S1 : XS} {i g : Nat} (h : keepR S S1 i g) (hig : i ≠ g) {r : RowS} (hr : rowOK r) (hn : r.2.2 = (S.1 i).2.2) : keepR S (xR S1 i r) i g :=
  ⟨h.1, fun k h1 h2 => by rw [xR_ne _ _ h1]; exact h.2.1 k h1 h2, by rw [xR_ne _ _ (Ne.symm hig)]; exact h.2.2.1, by rw [xR_row]; exact hr, by rw [xR_row]; exact hn⟩
theorem cntB_all {p : Nat → Bool} : ∀ {n : Nat}, (∀ k, k < n → p k = true) → cntB p n = n
  | 0, _ => rfl
  | n + 1, h => by rw [cntB_t (h n (by omega)), cntB_all (fun k hk => h k (by omega))]
theorem cntB_none {p : Nat → Bool} : ∀ {n : Nat}, (∀ k, k < n → p k = false) → cntB p n = 0
  | 0, _ => rfl
  | n + 1, h => by rw [cntB_f (h n (by omega)), cntB_none (fun k hk => h k (by omega))]
theorem cntB_mono {p q : Nat → Bool} : ∀ {n : Nat}, (∀ k, k < n → p k = true → q k = true) → cntB p n ≤ cntB q n
  | 0, _ => Nat.le_refl _
  | n + 1, h => by
    have ih := cntB_mono (p := p) (q := q) (n := n) (fun k hk => h k (by omega))
    rw [cntB, cntB]
    cases hp : p n with
    | false => simp; split <;> omega
    | true => rw [h n (by omega) hp]; simp; omega
theorem cntB_grow (p : Nat → Bool) {a b : Nat} (h : a ≤ b) : cntB p a ≤ cntB p b := by
  induction b with
  | zero => rw [show a = 0 by omega]; exact Nat.le_refl _
  | succ b ih =>
    by_cases e : a = b + 1
    · rw [e]; exact Nat.le_refl _
    · have := ih (by omega)
      rw [cntB]
      split <;> omega
theorem cntB_two {p p2 : Nat → Bool} (h : ∀ k, p k = true → p2 k = true → False) : ∀ n, cntB p n + cntB p2 n ≤ n
  | 0 => Nat.le_refl _
  | n + 1 => by
    have ih := cntB_two h n
    rw [cntB, cntB]
    cases h1 : p n with
    | false => cases h2 : p2 n <;> simp <;> omega
    | true =>
      cases h2 : p2 n with
      | true => exact absurd h2 (fun z => h n h1 z)
      | false => simp; omega
theorem cnt_room {p p2 : Nat → Bool} (h : ∀ k, p k = true → p2 k = true → False) {q n : Nat} (hq : q < n) (hp : p2 q = true) : cntB p n + cntB p2 q < n := by
  have h1 := cntB_two h n
  have h2 := cntB_grow p2 (show q + 1 ≤ n from hq)
  rw [cntB_t hp] at h2
  omega
theorem cnt_lt_s (f : Nat → Nat) (rk : Nat) : ∀ n, cntB (fun k => decide (f k < rk)) n + cntB (fun k => decide (f k = rk)) n = cntB (fun k => decide (f k < rk + 1)) n
  | 0 => rfl
  | n + 1 => by
    have ih := cnt_lt_s f rk n
    rw [cntB, cntB, cntB, ← ih]
    rcases Nat.lt_trichotomy (f n) rk with h | h | h
    · rw [if_pos (decide_eq_true h), if_neg (by rw [decide_eq_false (by omega)]; decide), if_pos (decide_eq_true (by omega))]; omega
    · rw [if_neg (by rw [decide_eq_false (by omega)]; decide), if_pos (decide_eq_true h), if_pos (decide_eq_true (by omega))]; omega
    · rw [if_neg (by rw [decide_eq_false (by omega)]; decide), if_neg (by rw [decide_eq_false (by omega)]; decide), if_neg (by rw [decide_eq_false (by omega)]; decide)]; omega
theorem head_ex (c : Nat → Nat) : ∀ (n v : Nat), v < n → ∃ h, h ≤ v ∧ c h = c v ∧ headB c h = true
  | 0, v, hv => absurd hv (Nat.not_lt_zero _)
  | n + 1, v, hv => by
    by_cases hh : headB c v = true
    · exact ⟨v, Nat.le_refl _, rfl, hh⟩
    · have : ¬ ∀ k, k < v → c k ≠ c v := fun q => hh (decide_eq_true q)
      have h2 : ∃ k, k < v ∧ c k = c v := Classical.byContradiction (fun z => this (fun k hk e => z ⟨k, hk, e⟩))
      obtain ⟨k, hk, e⟩ := h2
      obtain ⟨h, h3, h4, h5⟩ := head_ex c n k (by omega)
      exact ⟨h, by omega, h4.trans e, h5⟩
theorem cntB_lt {p q : Nat → Bool} {n a : Nat} (h : ∀ k, k < n → p k = true → q k = true) (ha : a < n) (h1 : p a = false) (h2 : q a = true) : cntB p n < cntB q n := by
  induction n with
  | zero => exact absurd ha (Nat.not_lt_zero _)
  | succ n ih =>
    by_cases e : a = n
    · subst e
      rw [cntB_f h1, cntB_t h2]
      exact Nat.lt_succ_of_le (cntB_mono (fun k hk => h k (by omega)))
    · have := ih (fun k hk => h k (by omega)) (by omega)
      rw [cntB, cntB]
      cases hp : p n with
      | false => simp; split <;> omega
      | true => rw [h n (by omega) hp]; simp; omega
theorem rank_class (c : Nat → Nat) {v : Nat} (hv : v < 16) : rankC c v < classC c := by
  obtain ⟨h, h1, h2, h3⟩ := head_ex c 16 v hv
  refine cntB_lt (a := h) (fun k _ hk => ?_) (by omega) ?_ h3
  · rw [Bool.and_eq_true] at hk; exact hk.1
  · rw [h3, decide_eq_false (by omega)]; rfl
set_option maxHeartbeats 4000000 in
set_option maxRecDepth 100000 in
theorem m_X3_mergeRuns (l : Launch) (dC : Nat → ClassId) (dI : Nat → Nat → Nat) (ad : Nat → Nat) (S : XS) (w i j : Nat) (hw : w < 2) (hi : i < 8) (hj : j < 6) (hro : rowOK (S.1 i)) (ho : ordOK (S.2.1 j)) (hig : i ≠ 3 + 2 * w) (hgo : rowOK (S.1 (3 + 2 * w))) : Met l yX3_mergeRuns wsX3_mergeRuns ({ frames := 2, cells := 0, slots := 0, locals := 56 } : Room) (va_Pc [.ref (ad (54 + w)), .ref (ad (3 * i)), .ref (ad (24 + 5 * j))] (PX dC dI ad S)) (va_Qv (fun S' => keepR S S' i (3 + 2 * w)) (PX dC dI ad) (AX ad)) 0 0 (AX ad) := by
  refine Met.ofW (cc := cX3_mergeRuns) (maxL := 7) (ret := none) pl_X3 rfl ?_
  intro p e s m args below meth c s₁ B hml hv
  obtain ⟨rfl, hPX⟩ := hv
  have hx := B.exec
  have hb := B.bytes
  have hr := B.returns
  have hts := atoms_spec (ws := wsX3_mergeRuns) B.pre
  have hown : s.vm.findClass RX3 = some m.cls := findClass_of_methodNamed B.named
  have hlocks := B.notSynchronized
  have hin3 : ∀ w ∈ u_ws RX3 TX3 1, w ∈ wsX3_mergeRuns := tu 1323 (by decide +kernel) rfl
  have hX := WX.of hPX
  have hl := lv_entry ([.ref (ad (54 + w)), .ref (ad (3 * i)), .ref (ad (24 + 5 * j))]) (n := 7) (Nat.le_of_ble_eq_true rfl)
  rw [lg_entry_eq]
  generalize (lg_sl ([.ref (ad (54 + w)), .ref (ad (3 * i)), .ref (ad (24 + 5 * j))]) ++ List.replicate (7 - (lg_sl ([.ref (ad (54 + w)), .ref (ad (3 * i)), .ref (ad (24 + 5 * j))])).length) Slot.unset).toArray = ls at hl ⊢
  have hl : lv_has ls 7 [(0, .ref (ad (54 + w))), (1, .ref (ad (3 * i))), (2, .ref (ad (24 + 5 * j)))] := hl
  show W p l e ({ frames := 2, cells := 0, slots := 0, locals := 56 } : Room) s m ([.ref (ad (54 + w)), .ref (ad (3 * i)), .ref (ad (24 + 5 * j))]).toArray below meth c s.heap [] 0 0 (MQ below (va_Qv (fun S' => keepR S S' i (3 + 2 * w)) (PX dC dI ad) (AX ad)) ([.ref (ad (54 + w)), .ref (ad (3 * i)), .ref (ad (24 + 5 * j))]).toArray s 0 0 (AX ad)) (F0 m 0 ls [])
  have hn := hro.1
  refine lv_aload_n hx hb dX3_mergeRuns_0 rfl (lv_at hl 1 rfl) ?_
  refine kx_cr (v := nI ((S.1 i).2.2)) (va_runV (As := []) (rest := []) ⟨hx, hb, hml, hown, hts⟩ (m_X2_length l dC dI ad S i hi) (cwV 0 hts gX3_mergeRuns_X2_length rfl rfl rfl hdX2_length_0 ⟨Nat.le_of_ble_eq_true rfl, Nat.le_of_ble_eq_true rfl⟩) (hX.preRow hi) rfl rfl hl.1 rfl (lv_room (Nat.le_of_ble_eq_true rfl)) dX3_mergeRuns_1 ⟨Nat.le_of_ble_eq_true rfl, Nat.le_of_ble_eq_true rfl⟩) (fun _ h => h) ?_
  refine lv_istore_n (lv' := [(3, .int (nI ((S.1 i).2.2))), (0, .ref (ad (54 + w))), (1, .ref (ad (3 * i))), (2, .ref (ad (24 + 5 * j)))]) hx hb dX3_mergeRuns_4 rfl hl (by decide) rfl (fun ls hl => ?_)
  refine lv_iconst (v := nI 1) hx hb dX3_mergeRuns_5 (by decide) ?_
  refine lv_istore (lv' := [(4, .int (nI 1)), (3, .int (nI ((S.1 i).2.2))), (0, .ref (ad (54 + w))), (1, .ref (ad (3 * i))), (2, .ref (ad (24 + 5 * j)))]) hx hb dX3_mergeRuns_6 hl (by decide) rfl (fun ls hl => ?_)
  have loop8 : ∀ (fuel : Nat) (S1 : XS) (w9 : Nat) (hk9 : keepR S S1 i (3 + 2 * w)) (hw9 : 1 ≤ w9 ∧ w9 ≤ 32) (H : Heap) (locs : List Loc), 33 - w9 < fuel → WX dC dI ad S1 (AX ad) s H locs → ∀ ls : Array Slot, lv_has ls 7 [(0, .ref (ad (54 + w))), (1, .ref (ad (3 * i))), (2, .ref (ad (24 + 5 * j))), (3, .int (nI ((S.1 i).2.2))), (4, .int (nI w9))] → W p l e ({ frames := 2, cells := 0, slots := 0, locals := 56 } : Room) s m ([.ref (ad (54 + w)), .ref (ad (3 * i)), .ref (ad (24 + 5 * j))]).toArray below meth c H locs 0 0 (MQ below (va_Qv (fun S' => keepR S S' i (3 + 2 * w)) (PX dC dI ad) (AX ad)) ([.ref (ad (54 + w)), .ref (ad (3 * i)), .ref (ad (24 + 5 * j))]).toArray s 0 0 (AX ad)) (F0 m 8 ls []) := by
    intro fuel
    induction fuel with
    | zero => intro S1 w9 hk9 hw9 H locs hf; exact absurd hf (Nat.not_lt_zero _)
    | succ fuel ih8 =>
      intro S1 w9 hk9 hw9 H locs hf hX ls hl
      refine lv_iload hx hb dX3_mergeRuns_8 (lv_at hl 4 rfl) ?_
      refine lv_iload_n hx hb dX3_mergeRuns_10 rfl (lv_at hl 3 rfl) ?_
      refine kn_icmp_ge (tgt := 89) hx hb (by omega) (by omega) dX3_mergeRuns_11 (by decide) (fun k_1 => ?_) (fun k_1 => ?_)
      · skip
        have hwn := k_1
        exact W.vret hx hb hr (fun t9 ht9 hW9 => ⟨⟨S1, rfl, hk9, hX.P ht9 hW9⟩, hX.2.2.2.F ht9⟩) hX.2.2.2.2.2 dX3_mergeRuns_89
      · skip
        have hwn := k_1
        refine lv_aload_n hx hb dX3_mergeRuns_14 rfl (lv_at hl 0 rfl) ?_
        refine ks_gg hx hb hts hin3 hown hX hw (hts (.fieldLink RX3 10 "Orderlattice$Sorter" "gathered" "LOrderlattice$Row;") (tm 20 (by decide +kernel) rfl)) dX3_mergeRuns_15 ?_
        refine kx_cv (va_runV (As := []) (rest := []) ⟨hx, hb, hml, hown, hts⟩ (m_X2_empty l dC dI ad S1 (3 + 2 * w)  (by omega)) (cwV 0 hts gX3_mergeRuns_X2_empty rfl rfl rfl hdX2_empty_0 ⟨Nat.le_of_ble_eq_true rfl, Nat.le_of_ble_eq_true rfl⟩) (hX.preRow (by omega)) rfl rfl hl.1 rfl (lv_room (Nat.le_of_ble_eq_true rfl)) dX3_mergeRuns_18 ⟨Nat.le_of_ble_eq_true rfl, Nat.le_of_ble_eq_true rfl⟩) hX (fun _ h => h) (fun S_ H locs hw hX => ?_)
        subst hw
        refine lv_iconst (v := nI 0) hx hb dX3_mergeRuns_21 (by decide) ?_
        refine lv_istore (lv' := [(5, .int (nI 0)), (0, .ref (ad (54 + w))), (1, .ref (ad (3 * i))), (2, .ref (ad (24 + 5 * j))), (3, .int (nI ((S.1 i).2.2))), (4, .int (nI w9))]) hx hb dX3_mergeRuns_22 hl (by decide) rfl (fun ls hl => ?_)
        have loop24 : ∀ (fuel : Nat) (r : RowS) (lo : Nat) (hr9 : rowOK r ∧ r.2.2 = min lo (S.1 i).2.2) (hlo : lo ≤ 64) (H : Heap) (locs : List Loc), (S.1 i).2.2 - lo < fuel → WX dC dI ad (xR S1 (3 + 2 * w) (r.1, r.2.1, r.2.2)) (AX ad) s H locs → ∀ ls : Array Slot, lv_has ls 7 [(0, .ref (ad (54 + w))), (1, .ref (ad (3 * i))), (2, .ref (ad (24 + 5 * j))), (3, .int (nI ((S.1 i).2.2))), (4, .int (nI w9)), (5, .int (nI lo))] → W p l e ({ frames := 2, cells := 0, slots := 0, locals := 56 } : Room) s m ([.ref (ad (54 + w)), .ref (ad (3 * i)), .ref (ad (24 + 5 * j))]).toArray below meth c H locs 0 0 (MQ below (va_Qv (fun S' => keepR S S' i (3 + 2 * w)) (PX dC dI ad) (AX ad)) ([.ref (ad (54 + w)), .ref (ad (3 * i)), .ref (ad (24 + 5 * j))]).toArray s 0 0 (AX ad)) (F0 m 24 ls []) := by
          intro fuel
          induction fuel with
          | zero => intro r lo hr9 hlo H locs hf; exact absurd hf (Nat.not_lt_zero _)
          | succ fuel ih24 =>
            intro r lo hr9 hlo H locs hf hX ls hl
            refine lv_iload hx hb dX3_mergeRuns_24 (lv_at hl 5 rfl) ?_
            refine lv_iload_n hx hb dX3_mergeRuns_26 rfl (lv_at hl 3 rfl) ?_
            refine kn_icmp_ge (tgt := 72) hx hb (by omega) (by omega) dX3_mergeRuns_27 (by decide) (fun k_2 => ?_) (fun k_2 => ?_)
            · skip
              obtain ⟨S2, e2⟩ : ∃ z, z = (xR S1 (3 + 2 * w) (r.1, r.2.1, r.2.2)) := ⟨_, rfl⟩
              replace hX := WX.eqS e2.symm hX
              have hk2 : keepR S S2 i (3 + 2 * w) := by rw [e2]; exact keepR_g hk9 hig hr9.1
              have hg2 : (S2.1 (3 + 2 * w)).2.2 = (S.1 i).2.2 := by rw [e2, xR_row]; show r.2.2 = _; first | omega | (rw [hr9.2, hrk, hall])
              refine lv_aload_n hx hb dX3_mergeRuns_72 rfl (lv_at hl 1 rfl) ?_
              refine lv_aload_n hx hb dX3_mergeRuns_73 rfl (lv_at hl 0 rfl) ?_
              refine ks_gg hx hb hts hin3 hown hX hw (hts (.fieldLink RX3 10 "Orderlattice$Sorter" "gathered" "LOrderlattice$Row;") (tm 20 (by decide +kernel) rfl)) dX3_mergeRuns_74 ?_
              refine kx_cv (va_runV (As := [.ref (ad (3 * (3 + 2 * w)))]) (rest := []) ⟨hx, hb, hml, hown, hts⟩ (m_X2_becomeCopyOf l dC dI ad S2 i (3 + 2 * w) hi (by omega) (by rw [hg2]; omega)) (cwV 1 hts gX3_mergeRuns_X2_becomeCopyOf rfl rfl rfl hdX2_becomeCopyOf_1 ⟨Nat.le_of_ble_eq_true rfl, Nat.le_of_ble_eq_true rfl⟩) (hX.preRow hi) rfl rfl hl.1 rfl (lv_room (Nat.le_of_ble_eq_true rfl)) dX3_mergeRuns_77 ⟨Nat.le_of_ble_eq_true rfl, Nat.le_of_ble_eq_true rfl⟩) hX (fun _ h => h) (fun S_ H locs hw hX => ?_)
              subst hw
              refine lv_iload hx hb dX3_mergeRuns_80 (lv_at hl 4 rfl) ?_
              refine lv_iconst (v := nI 2) hx hb dX3_mergeRuns_82 (by decide) ?_
              refine kn_imul hx hb dX3_mergeRuns_83 ?_
              refine lv_istore (lv' := [(4, .int (nI (w9 * 2))), (0, .ref (ad (54 + w))), (1, .ref (ad (3 * i))), (2, .ref (ad (24 + 5 * j))), (3, .int (nI ((S.1 i).2.2))), (5, .int (nI lo))]) hx hb dX3_mergeRuns_84 hl (by decide) rfl (fun ls hl => ?_)
              refine lv_goto (tgt := 8) hx hb dX3_mergeRuns_86 (by decide) ?_
              exact ih8  (xR S2 i (ovl ((S2.1 (3 + 2 * w)).1) ((S2.1 i).1) ((S2.1 (3 + 2 * w)).2.2), ovl ((S2.1 (3 + 2 * w)).2.1) ((S2.1 i).2.1) ((S2.1 (3 + 2 * w)).2.2), (S2.1 (3 + 2 * w)).2.2)) (w9 * 2) (keepR_i hk2 hig (rowOK_ovl hk2.2.2.2.1 hk2.2.2.1) hg2) (by omega) _ _ (by omega) hX _ (lv_sub hl [1, 2, 3, 4, 0] rfl)
            · skip
              refine lv_iload hx hb dX3_mergeRuns_30 (lv_at hl 5 rfl) ?_
              refine lv_iload hx hb dX3_mergeRuns_32 (lv_at hl 4 rfl) ?_
              refine kn_iadd hx hb dX3_mergeRuns_34 ?_
              refine lv_iload_n hx hb dX3_mergeRuns_35 rfl (lv_at hl 3 rfl) ?_
              refine kn_min hx hb (by rw [hml]; exact hl.1.symm) hown (hts (.methodLink RX3 48 Lib.Math.min.name) (tm 150 (by decide +kernel) rfl)) (hts (.static Lib.Math.min.name) (tm 151 (by decide +kernel) rfl)) (hts (.initialized "java/lang/Math") (tm 152 (by decide +kernel) rfl)) (hts (.code Lib.Math.min.name Lib.Math.min.code 2 (some .int)) (tm 153 (by decide +kernel) rfl)) (Nat.le_of_ble_eq_true rfl) (Nat.le_of_ble_eq_true rfl) (Nat.le_of_ble_eq_true rfl) (Nat.le_of_ble_eq_true rfl) (by omega) (by omega) dX3_mergeRuns_36 ?_
              refine lv_istore (lv' := [(6, .int (nI (min (lo + w9) ((S.1 i).2.2)))), (0, .ref (ad (54 + w))), (1, .ref (ad (3 * i))), (2, .ref (ad (24 + 5 * j))), (3, .int (nI ((S.1 i).2.2))), (4, .int (nI w9)), (5, .int (nI lo))]) hx hb dX3_mergeRuns_39 hl (by decide) rfl (fun ls hl => ?_)
              refine lv_aload_n hx hb dX3_mergeRuns_41 rfl (lv_at hl 1 rfl) ?_
              refine lv_aload_n hx hb dX3_mergeRuns_42 rfl (lv_at hl 2 rfl) ?_
              refine lv_aload_n hx hb dX3_mergeRuns_43 rfl (lv_at hl 3 rfl) ?_
              refine lv_iload hx hb dX3_mergeRuns_44 (lv_at hl 6 rfl) ?_
              refine lv_iload hx hb dX3_mergeRuns_46 (lv_at hl 0 rfl) ?_
              refine lv_iload hx hb dX3_mergeRuns_48 (lv_at hl 0 rfl) ?_
              refine lv_iload hx hb dX3_mergeRuns_50 (lv_at hl 5 rfl) ?_
              refine kn_iadd hx hb dX3_mergeRuns_52 ?_
              refine lv_iload_n hx hb dX3_mergeRuns_53 rfl (lv_at hl 4 rfl) ?_
              refine kn_min hx hb (by rw [hml]; exact hl.1.symm) hown (hts (.methodLink RX3 48 Lib.Math.min.name) (tm 150 (by decide +kernel) rfl)) (hts (.static Lib.Math.min.name) (tm 151 (by decide +kernel) rfl)) (hts (.initialized "java/lang/Math") (tm 152 (by decide +kernel) rfl)) (hts (.code Lib.Math.min.name Lib.Math.min.code 2 (some .int)) (tm 153 (by decide +kernel) rfl)) (Nat.le_of_ble_eq_true rfl) (Nat.le_of_ble_eq_true rfl) (Nat.le_of_ble_eq_true rfl) (Nat.le_of_ble_eq_true rfl) (by omega) (by omega) dX3_mergeRuns_54 ?_
              refine kx_cv (va_runV (As := [.ref (ad (3 * i)), .ref (ad (24 + 5 * j)), .int (nI lo), .int (nI (min (lo + w9) ((S.1 i).2.2))), .int (nI (min (min (lo + w9) ((S.1 i).2.2) + w9) ((S.1 i).2.2)))]) (rest := []) ⟨hx, hb, hml, hown, hts⟩ (m_X3_mergeTwo l dC dI ad (xR S1 (3 + 2 * w) (r.1, r.2.1, r.2.2)) w i j lo (min (lo + w9) ((S.1 i).2.2)) (min (min (lo + w9) ((S.1 i).2.2) + w9) ((S.1 i).2.2)) hw hi hj (by rw [xR_ne _ _ hig]; exact hk9.2.2.2.1) (by show ordOK (S1.2.1 j); rw [hk9.1]; exact ho) hig (by omega) (by omega) (by rw [xR_ne _ _ hig, hk9.2.2.2.2]; omega) (by rw [xR_row]; exact hr9.1) (by rw [xR_row]; show r.2.2 = lo; omega)) (cwV 5 hts gX3_mergeRuns_X3_mergeTwo rfl rfl rfl hdX3_mergeTwo_5 ⟨Nat.le_of_ble_eq_true rfl, Nat.le_of_ble_eq_true rfl⟩) (hX.preSor hw) rfl rfl hl.1 rfl (lv_room (Nat.le_of_ble_eq_true rfl)) dX3_mergeRuns_57 ⟨Nat.le_of_ble_eq_true rfl, Nat.le_of_ble_eq_true rfl⟩) hX (fun _ h => h) (fun S_ H locs hw hX => ?_)
              obtain ⟨r2, hw, hr2⟩ := hw
              rw [xR_xR] at hw
              subst hw
              refine lv_iload hx hb dX3_mergeRuns_60 (lv_at hl 6 rfl) ?_
              refine lv_iconst (v := nI 2) hx hb dX3_mergeRuns_62 (by decide) ?_
              refine lv_iload hx hb dX3_mergeRuns_63 (lv_at hl 5 rfl) ?_
              refine kn_imul hx hb dX3_mergeRuns_65 ?_
              refine kn_iadd hx hb dX3_mergeRuns_66 ?_
              refine lv_istore (lv' := [(5, .int (nI (lo + (2 * w9)))), (6, .int (nI (min (lo + w9) ((S.1 i).2.2)))), (0, .ref (ad (54 + w))), (1, .ref (ad (3 * i))), (2, .ref (ad (24 + 5 * j))), (3, .int (nI ((S.1 i).2.2))), (4, .int (nI w9))]) hx hb dX3_mergeRuns_67 hl (by decide) rfl (fun ls hl => ?_)
              refine lv_goto (tgt := 24) hx hb dX3_mergeRuns_69 (by decide) ?_
              exact ih24  (r2.1, r2.2.1, r2.2.2) (lo + (2 * w9)) ⟨hr2.1, by rw [hr2.2]; omega⟩ (by omega) _ _ (by omega) hX _ (lv_sub hl [2, 3, 4, 5, 6, 0] rfl)
        exact loop24 ((S.1 i).2.2 + 1) ((S1.1 (3 + 2 * w)).1, (S1.1 (3 + 2 * w)).2.1, 0) 0 ⟨rowOK_0 hk9.2.2.1, (Nat.zero_min _).symm⟩ (by omega) _ _ (by omega) (WX.eqS rfl hX) _ (lv_sub hl [1, 2, 3, 4, 5, 0] rfl)
  exact loop8 (33 + 1) S 1 (keepR_refl hro hgo) (by omega) _ _ (by omega) (WX.eqS rfl hX) _ (lv_sub hl [2, 3, 4, 1, 0] rfl)
set_option maxHeartbeats 4000000 in
set_option maxRecDepth 100000 in
theorem m_X3_gatherByRank (l : Launch) (dC : Nat → ClassId) (dI : Nat → Nat → Nat) (ad : Nat → Nat) (S : XS) (w i j : Nat) (hw : w < 2) (hi : i < 8) (hj : j < 6) (hro : rowOK (S.1 i)) (ho : ordOK (S.2.1 j)) (hig : i ≠ 3 + 2 * w) (hgo : rowOK (S.1 (3 + 2 * w))) : Met l yX3_gatherByRank wsX3_gatherByRank ({ frames := 2, cells := 0, slots := 0, locals := 46 } : Room) (va_Pc [.ref (ad (54 + w)), .ref (ad (3 * i)), .ref (ad (24 + 5 * j))] (PX dC dI ad S)) (va_Qv (fun S' => keepR S S' i (3 + 2 * w)) (PX dC dI ad) (AX ad)) 0 0 (AX ad) := by
  refine Met.ofW (cc := cX3_gatherByRank) (maxL := 5) (ret := none) pl_X3 rfl ?_
  intro p e s m args below meth c s₁ B hml hv
  obtain ⟨rfl, hPX⟩ := hv
  have hx := B.exec
  have hb := B.bytes
  have hr := B.returns
  have hts := atoms_spec (ws := wsX3_gatherByRank) B.pre
  have hown : s.vm.findClass RX3 = some m.cls := findClass_of_methodNamed B.named
  have hlocks := B.notSynchronized
  have hin3 : ∀ w ∈ u_ws RX3 TX3 1, w ∈ wsX3_gatherByRank := tu 1323 (by decide +kernel) rfl
  have hX := WX.of hPX
  have hl := lv_entry ([.ref (ad (54 + w)), .ref (ad (3 * i)), .ref (ad (24 + 5 * j))]) (n := 5) (Nat.le_of_ble_eq_true rfl)
  rw [lg_entry_eq]
  generalize (lg_sl ([.ref (ad (54 + w)), .ref (ad (3 * i)), .ref (ad (24 + 5 * j))]) ++ List.replicate (5 - (lg_sl ([.ref (ad (54 + w)), .ref (ad (3 * i)), .ref (ad (24 + 5 * j))])).length) Slot.unset).toArray = ls at hl ⊢
  have hl : lv_has ls 5 [(0, .ref (ad (54 + w))), (1, .ref (ad (3 * i))), (2, .ref (ad (24 + 5 * j)))] := hl
  show W p l e ({ frames := 2, cells := 0, slots := 0, locals := 46 } : Room) s m ([.ref (ad (54 + w)), .ref (ad (3 * i)), .ref (ad (24 + 5 * j))]).toArray below meth c s.heap [] 0 0 (MQ below (va_Qv (fun S' => keepR S S' i (3 + 2 * w)) (PX dC dI ad) (AX ad)) ([.ref (ad (54 + w)), .ref (ad (3 * i)), .ref (ad (24 + 5 * j))]).toArray s 0 0 (AX ad)) (F0 m 0 ls [])
  have hn := hro.1
  have hcl : (S.2.1 j).2.2.2.2.2 ≤ 16 := by rw [ho.2.2.2]; exact classC_le _
  have hrl : ∀ v, v < 16 → (S.2.1 j).2.2.2.1 v < (S.2.1 j).2.2.2.2.2 := fun v hv => by rw [ho.2.2.2, ho.2.2.1 v hv]; exact rank_class _ hv
  refine lv_aload_n hx hb dX3_gatherByRank_0 rfl (lv_at hl 0 rfl) ?_
  refine ks_gg hx hb hts hin3 hown hX hw (hts (.fieldLink RX3 10 "Orderlattice$Sorter" "gathered" "LOrderlattice$Row;") (tm 20 (by decide +kernel) rfl)) dX3_gatherByRank_1 ?_
  refine kx_cv (va_runV (As := []) (rest := []) ⟨hx, hb, hml, hown, hts⟩ (m_X2_empty l dC dI ad S (3 + 2 * w)  (by omega)) (cwV 0 hts gX3_gatherByRank_X2_empty rfl rfl rfl hdX2_empty_0 ⟨Nat.le_of_ble_eq_true rfl, Nat.le_of_ble_eq_true rfl⟩) (hX.preRow (by omega)) rfl rfl hl.1 rfl (lv_room (Nat.le_of_ble_eq_true rfl)) dX3_gatherByRank_4 ⟨Nat.le_of_ble_eq_true rfl, Nat.le_of_ble_eq_true rfl⟩) hX (fun _ h => h) (fun S_ H locs hw hX => ?_)
  subst hw
  refine lv_iconst (v := nI 0) hx hb dX3_gatherByRank_7 (by decide) ?_
  refine lv_istore_n (lv' := [(3, .int (nI 0)), (0, .ref (ad (54 + w))), (1, .ref (ad (3 * i))), (2, .ref (ad (24 + 5 * j)))]) hx hb dX3_gatherByRank_8 rfl hl (by decide) rfl (fun ls hl => ?_)
  have loop9 : ∀ (fuel : Nat) (r : RowS) (rk : Nat) (hr9 : rowOK r ∧ r.2.2 = cntB (fun k => decide ((S.2.1 j).2.2.2.1 ((S.1 i).1 k) < rk)) (S.1 i).2.2) (hrk : rk ≤ (S.2.1 j).2.2.2.2.2) (H : Heap) (locs : List Loc), (S.2.1 j).2.2.2.2.2 - rk < fuel → WX dC dI ad (xR S (3 + 2 * w) (r.1, r.2.1, r.2.2)) (AX ad) s H locs → ∀ ls : Array Slot, lv_has ls 5 [(0, .ref (ad (54 + w))), (1, .ref (ad (3 * i))), (2, .ref (ad (24 + 5 * j))), (3, .int (nI rk))] → W p l e ({ frames := 2, cells := 0, slots := 0, locals := 46 } : Room) s m ([.ref (ad (54 + w)), .ref (ad (3 * i)), .ref (ad (24 + 5 * j))]).toArray below meth c H locs 0 0 (MQ below (va_Qv (fun S' => keepR S S' i (3 + 2 * w)) (PX dC dI ad) (AX ad)) ([.ref (ad (54 + w)), .ref (ad (3 * i)), .ref (ad (24 + 5 * j))]).toArray s 0 0 (AX ad)) (F0 m 9 ls []) := by
    intro fuel
    induction fuel with
    | zero => intro r rk hr9 hrk H locs hf; exact absurd hf (Nat.not_lt_zero _)
    | succ fuel ih9 =>
      intro r rk hr9 hrk H locs hf hX ls hl
      refine lv_iload_n hx hb dX3_gatherByRank_9 rfl (lv_at hl 3 rfl) ?_
      refine lv_aload_n hx hb dX3_gatherByRank_10 rfl (lv_at hl 2 rfl) ?_
      refine kx_cr (v := nI ((S.2.1 j).2.2.2.2.2)) (va_runV (As := []) (rest := [.int (nI rk)]) ⟨hx, hb, hml, hown, hts⟩ (m_X1_classCount l dC dI ad (xR S (3 + 2 * w) (r.1, r.2.1, r.2.2)) j  hj) (cwV 0 hts gX3_gatherByRank_X1_classCount rfl rfl rfl hdX1_classCount_0 ⟨Nat.le_of_ble_eq_true rfl, Nat.le_of_ble_eq_true rfl⟩) (hX.preOrd hj) rfl rfl hl.1 rfl (lv_room (Nat.le_of_ble_eq_true rfl)) dX3_gatherByRank_11 ⟨Nat.le_of_ble_eq_true rfl, Nat.le_of_ble_eq_true rfl⟩) (fun _ h => h) ?_
      refine kn_icmp_ge (tgt := 74) hx hb (by omega) (by omega) dX3_gatherByRank_14 (by decide) (fun k_1 => ?_) (fun k_1 => ?_)
      · skip
        have hd := k_1
        have hall : cntB (fun k => decide ((S.2.1 j).2.2.2.1 ((S.1 i).1 k) < (S.2.1 j).2.2.2.2.2)) (S.1 i).2.2 = (S.1 i).2.2 := cntB_all (fun k hk => decide_eq_true (hrl _ (hro.2 k (by omega)).1))
        have hrk : rk = (S.2.1 j).2.2.2.2.2 := by omega
        subst hrk
        have hrk : True := trivial
        obtain ⟨S2, e2⟩ : ∃ z, z = (xR S (3 + 2 * w) (r.1, r.2.1, r.2.2)) := ⟨_, rfl⟩
        replace hX := WX.eqS e2.symm hX
        have hk2 : keepR S S2 i (3 + 2 * w) := by rw [e2]; exact keepR_g (keepR_refl hro hgo) hig hr9.1
        have hg2 : (S2.1 (3 + 2 * w)).2.2 = (S.1 i).2.2 := by rw [e2, xR_row]; show r.2.2 = _; first | omega | (rw [hr9.2, hrk, hall])
        refine lv_aload_n hx hb dX3_gatherByRank_74 rfl (lv_at hl 1 rfl) ?_
        refine lv_aload_n hx hb dX3_gatherByRank_75 rfl (lv_at hl 0 rfl) ?_
        refine ks_gg hx hb hts hin3 hown hX hw (hts (.fieldLink RX3 10 "Orderlattice$Sorter" "gathered" "LOrderlattice$Row;") (tm 20 (by decide +kernel) rfl)) dX3_gatherByRank_76 ?_
        refine kx_cv (va_runV (As := [.ref (ad (3 * (3 + 2 * w)))]) (rest := []) ⟨hx, hb, hml, hown, hts⟩ (m_X2_becomeCopyOf l dC dI ad S2 i (3 + 2 * w) hi (by omega) (by rw [hg2]; omega)) (cwV 1 hts gX3_gatherByRank_X2_becomeCopyOf rfl rfl rfl hdX2_becomeCopyOf_1 ⟨Nat.le_of_ble_eq_true rfl, Nat.le_of_ble_eq_true rfl⟩) (hX.preRow hi) rfl rfl hl.1 rfl (lv_room (Nat.le_of_ble_eq_true rfl)) dX3_gatherByRank_79 ⟨Nat.le_of_ble_eq_true rfl, Nat.le_of_ble_eq_true rfl⟩) hX (fun _ h => h) (fun S_ H locs hw hX => ?_)
        subst hw
        exact W.vret hx hb hr (fun t9 ht9 hW9 => ⟨⟨(xR S2 i (ovl ((S2.1 (3 + 2 * w)).1) ((S2.1 i).1) ((S2.1 (3 + 2 * w)).2.2), ovl ((S2.1 (3 + 2 * w)).2.1) ((S2.1 i).2.1) ((S2.1 (3 + 2 * w)).2.2), (S2.1 (3 + 2 * w)).2.2)), rfl, (keepR_i hk2 hig (rowOK_ovl hk2.2.2.2.1 hk2.2.2.1) hg2), hX.P ht9 hW9⟩, hX.2.2.2.F ht9⟩) hX.2.2.2.2.2 dX3_gatherByRank_82
      · skip
        have hd := k_1
        refine lv_iconst (v := nI 0) hx hb dX3_gatherByRank_17 (by decide) ?_
        refine lv_istore (lv' := [(4, .int (nI 0)), (0, .ref (ad (54 + w))), (1, .ref (ad (3 * i))), (2, .ref (ad (24 + 5 * j))), (3, .int (nI rk))]) hx hb dX3_gatherByRank_18 hl (by decide) rfl (fun ls hl => ?_)
        have loop20 : ∀ (fuel : Nat) (r : RowS) (q : Nat) (hr9 : rowOK r ∧ r.2.2 = cntB (fun k => decide ((S.2.1 j).2.2.2.1 ((S.1 i).1 k) < rk)) (S.1 i).2.2 + cntB (fun k => decide ((S.2.1 j).2.2.2.1 ((S.1 i).1 k) = rk)) q) (hq : q ≤ (S.1 i).2.2) (H : Heap) (locs : List Loc), (S.1 i).2.2 - q < fuel → WX dC dI ad (xR S (3 + 2 * w) (r.1, r.2.1, r.2.2)) (AX ad) s H locs → ∀ ls : Array Slot, lv_has ls 5 [(0, .ref (ad (54 + w))), (1, .ref (ad (3 * i))), (2, .ref (ad (24 + 5 * j))), (3, .int (nI rk)), (4, .int (nI q))] → W p l e ({ frames := 2, cells := 0, slots := 0, locals := 46 } : Room) s m ([.ref (ad (54 + w)), .ref (ad (3 * i)), .ref (ad (24 + 5 * j))]).toArray below meth c H locs 0 0 (MQ below (va_Qv (fun S' => keepR S S' i (3 + 2 * w)) (PX dC dI ad) (AX ad)) ([.ref (ad (54 + w)), .ref (ad (3 * i)), .ref (ad (24 + 5 * j))]).toArray s 0 0 (AX ad)) (F0 m 20 ls []) := by
          intro fuel
          induction fuel with
          | zero => intro r q hr9 hq H locs hf; exact absurd hf (Nat.not_lt_zero _)
          | succ fuel ih20 =>
            intro r q hr9 hq H locs hf hX ls hl
            refine lv_iload hx hb dX3_gatherByRank_20 (lv_at hl 4 rfl) ?_
            refine lv_aload_n hx hb dX3_gatherByRank_22 rfl (lv_at hl 1 rfl) ?_
            refine kx_cr (v := nI ((S.1 i).2.2)) (va_runV (As := []) (rest := [.int (nI q)]) ⟨hx, hb, hml, hown, hts⟩ (m_X2_length l dC dI ad (xR S (3 + 2 * w) (r.1, r.2.1, r.2.2)) i hi) (cwV 0 hts gX3_gatherByRank_X2_length rfl rfl rfl hdX2_length_0 ⟨Nat.le_of_ble_eq_true rfl, Nat.le_of_ble_eq_true rfl⟩) (hX.preRow hi) rfl rfl hl.1 rfl (lv_room (Nat.le_of_ble_eq_true rfl)) dX3_gatherByRank_23 ⟨Nat.le_of_ble_eq_true rfl, Nat.le_of_ble_eq_true rfl⟩) (fun _ h => by rw [h, xR_ne _ _ hig]) ?_
            refine kn_icmp_ge (tgt := 68) hx hb (by omega) (by omega) dX3_gatherByRank_26 (by decide) (fun k_2 => ?_) (fun k_2 => ?_)
            · skip
              refine lv_iinc (v := nI (rk + 1)) (lv' := [(3, .int (nI (rk + 1))), (0, .ref (ad (54 + w))), (1, .ref (ad (3 * i))), (2, .ref (ad (24 + 5 * j))), (4, .int (nI q))]) hx hb dX3_gatherByRank_68 hl (k := 3) rfl (nI_1 rk) (by decide) rfl (fun ls hl => ?_)
              refine lv_goto (tgt := 9) hx hb dX3_gatherByRank_71 (by decide) ?_
              exact ih9  r (rk + 1) ⟨hr9.1, by rw [hr9.2, show q = (S.1 i).2.2 by omega]; exact cnt_lt_s _ _ _⟩ (by omega) _ _ (by omega) hX _ (lv_sub hl [1, 2, 3, 0] rfl)
            · skip
              refine lv_aload_n hx hb dX3_gatherByRank_29 rfl (lv_at hl 2 rfl) ?_
              refine lv_aload_n hx hb dX3_gatherByRank_30 rfl (lv_at hl 1 rfl) ?_
              refine lv_iload hx hb dX3_gatherByRank_31 (lv_at hl 4 rfl) ?_
              refine kx_cr (v := nI ((S.1 i).1 q)) (va_runV (As := [.int (nI q)]) (rest := [.ref (ad (24 + 5 * j))]) ⟨hx, hb, hml, hown, hts⟩ (m_X2_valueOn l dC dI ad (xR S (3 + 2 * w) (r.1, r.2.1, r.2.2)) i q hi (by omega)) (cwV 1 hts gX3_gatherByRank_X2_valueOn rfl rfl rfl hdX2_valueOn_1 ⟨Nat.le_of_ble_eq_true rfl, Nat.le_of_ble_eq_true rfl⟩) (hX.preRow hi) rfl rfl hl.1 rfl (lv_room (Nat.le_of_ble_eq_true rfl)) dX3_gatherByRank_33 ⟨Nat.le_of_ble_eq_true rfl, Nat.le_of_ble_eq_true rfl⟩) (fun _ h => by rw [h, xR_ne _ _ hig]) ?_
              refine kx_cr (v := nI ((S.2.1 j).2.2.2.1 ((S.1 i).1 q))) (va_runV (As := [.int (nI ((S.1 i).1 q))]) (rest := []) ⟨hx, hb, hml, hown, hts⟩ (m_X1_rankOf l dC dI ad (xR S (3 + 2 * w) (r.1, r.2.1, r.2.2)) j ((S.1 i).1 q) hj (hro.2 _ (by omega)).1) (cwV 1 hts gX3_gatherByRank_X1_rankOf rfl rfl rfl hdX1_rankOf_1 ⟨Nat.le_of_ble_eq_true rfl, Nat.le_of_ble_eq_true rfl⟩) (hX.preOrd hj) rfl rfl hl.1 rfl (lv_room (Nat.le_of_ble_eq_true rfl)) dX3_gatherByRank_36 ⟨Nat.le_of_ble_eq_true rfl, Nat.le_of_ble_eq_true rfl⟩) (fun _ h => h) ?_
              refine lv_iload_n hx hb dX3_gatherByRank_39 rfl (lv_at hl 3 rfl) ?_
              have h1 := hrl ((S.1 i).1 q) (hro.2 q (by omega)).1
              refine kn_icmp_ne (tgt := 62) hx hb (by omega) (by omega) dX3_gatherByRank_40 (by decide) (fun k_3 => ?_) (fun k_3 => ?_)
              · skip
                have hc := k_3
                refine lv_iinc (v := nI (q + 1)) (lv' := [(4, .int (nI (q + 1))), (0, .ref (ad (54 + w))), (1, .ref (ad (3 * i))), (2, .ref (ad (24 + 5 * j))), (3, .int (nI rk))]) hx hb dX3_gatherByRank_62 hl (k := 4) rfl (nI_1 q) (by decide) rfl (fun ls hl => ?_)
                refine lv_goto (tgt := 20) hx hb dX3_gatherByRank_65 (by decide) ?_
                exact ih20  r (q + 1) ⟨hr9.1, by rw [hr9.2, cntB_f (p := (fun k => decide ((S.2.1 j).2.2.2.1 ((S.1 i).1 k) = rk))) (decide_eq_false hc)]⟩ (by omega) _ _ (by omega) hX _ (lv_sub hl [1, 2, 3, 4, 0] rfl)
              · skip
                have hc := k_3
                refine lv_aload_n hx hb dX3_gatherByRank_43 rfl (lv_at hl 0 rfl) ?_
                refine ks_gg hx hb hts hin3 hown hX hw (hts (.fieldLink RX3 10 "Orderlattice$Sorter" "gathered" "LOrderlattice$Row;") (tm 20 (by decide +kernel) rfl)) dX3_gatherByRank_44 ?_
                refine lv_aload_n hx hb dX3_gatherByRank_47 rfl (lv_at hl 1 rfl) ?_
                refine lv_iload hx hb dX3_gatherByRank_48 (lv_at hl 4 rfl) ?_
                refine kx_cr (v := nI ((S.1 i).1 q)) (va_runV (As := [.int (nI q)]) (rest := [.ref (ad (3 * (3 + 2 * w)))]) ⟨hx, hb, hml, hown, hts⟩ (m_X2_valueOn l dC dI ad (xR S (3 + 2 * w) (r.1, r.2.1, r.2.2)) i q hi (by omega)) (cwV 1 hts gX3_gatherByRank_X2_valueOn rfl rfl rfl hdX2_valueOn_1 ⟨Nat.le_of_ble_eq_true rfl, Nat.le_of_ble_eq_true rfl⟩) (hX.preRow hi) rfl rfl hl.1 rfl (lv_room (Nat.le_of_ble_eq_true rfl)) dX3_gatherByRank_50 ⟨Nat.le_of_ble_eq_true rfl, Nat.le_of_ble_eq_true rfl⟩) (fun _ h => by rw [h, xR_ne _ _ hig]) ?_
                refine lv_aload_n hx hb dX3_gatherByRank_53 rfl (lv_at hl 1 rfl) ?_
                refine lv_iload hx hb dX3_gatherByRank_54 (lv_at hl 4 rfl) ?_
                refine kx_cr (v := nI ((S.1 i).2.1 q)) (va_runV (As := [.int (nI q)]) (rest := [.int (nI ((S.1 i).1 q)), .ref (ad (3 * (3 + 2 * w)))]) ⟨hx, hb, hml, hown, hts⟩ (m_X2_markOn l dC dI ad (xR S (3 + 2 * w) (r.1, r.2.1, r.2.2)) i q hi (by omega)) (cwV 1 hts gX3_gatherByRank_X2_markOn rfl rfl rfl hdX2_markOn_1 ⟨Nat.le_of_ble_eq_true rfl, Nat.le_of_ble_eq_true rfl⟩) (hX.preRow hi) rfl rfl hl.1 rfl (lv_room (Nat.le_of_ble_eq_true rfl)) dX3_gatherByRank_56 ⟨Nat.le_of_ble_eq_true rfl, Nat.le_of_ble_eq_true rfl⟩) (fun _ h => by rw [h, xR_ne _ _ hig]) ?_
                refine kx_cv (va_runV (As := [.int (nI ((S.1 i).1 q)), .int (nI ((S.1 i).2.1 q))]) (rest := []) ⟨hx, hb, hml, hown, hts⟩ (m_X2_append l dC dI ad (xR S (3 + 2 * w) (r.1, r.2.1, r.2.2)) (3 + 2 * w) ((S.1 i).1 q) ((S.1 i).2.1 q) (by omega) (by rw [xR_row]; show r.2.2 < 16; have := cnt_room (p := (fun k => decide ((S.2.1 j).2.2.2.1 ((S.1 i).1 k) < rk))) (p2 := (fun k => decide ((S.2.1 j).2.2.2.1 ((S.1 i).1 k) = rk))) (fun k h1 h2 => by have := of_decide_eq_true h1; have := of_decide_eq_true h2; omega) (show q < (S.1 i).2.2 by omega) (decide_eq_true hc); omega)) (cwV 2 hts gX3_gatherByRank_X2_append rfl rfl rfl hdX2_append_2 ⟨Nat.le_of_ble_eq_true rfl, Nat.le_of_ble_eq_true rfl⟩) (hX.preRow (by omega)) rfl rfl hl.1 rfl (lv_room (Nat.le_of_ble_eq_true rfl)) dX3_gatherByRank_59 ⟨Nat.le_of_ble_eq_true rfl, Nat.le_of_ble_eq_true rfl⟩) hX (fun _ h => h) (fun S_ H locs hw hX => ?_)
                rw [xR_row, xR_xR] at hw
                subst hw
                refine lv_iinc (v := nI (q + 1)) (lv' := [(4, .int (nI (q + 1))), (0, .ref (ad (54 + w))), (1, .ref (ad (3 * i))), (2, .ref (ad (24 + 5 * j))), (3, .int (nI rk))]) hx hb dX3_gatherByRank_62 hl (k := 4) rfl (nI_1 q) (by decide) rfl (fun ls hl => ?_)
                refine lv_goto (tgt := 20) hx hb dX3_gatherByRank_65 (by decide) ?_
                exact ih20  (va_up r.1 r.2.2 ((S.1 i).1 q), va_up r.2.1 r.2.2 ((S.1 i).2.1 q), r.2.2 + 1) (q + 1) ⟨rowOK_app hr9.1 (by have := cnt_room (p := (fun k => decide ((S.2.1 j).2.2.2.1 ((S.1 i).1 k) < rk))) (p2 := (fun k => decide ((S.2.1 j).2.2.2.1 ((S.1 i).1 k) = rk))) (fun k h1 h2 => by have := of_decide_eq_true h1; have := of_decide_eq_true h2; omega) (show q < (S.1 i).2.2 by omega) (decide_eq_true hc); omega) (hro.2 _ (by omega)).1 (hro.2 _ (by omega)).2, by show r.2.2 + 1 = _; rw [hr9.2, cntB_t (p := (fun k => decide ((S.2.1 j).2.2.2.1 ((S.1 i).1 k) = rk))) (decide_eq_true hc)]; omega⟩ (by omega) _ _ (by omega) hX _ (lv_sub hl [1, 2, 3, 4, 0] rfl)
        exact loop20 ((S.1 i).2.2 + 1) r 0 ⟨hr9.1, hr9.2⟩ (by omega) _ _ (by omega) (WX.eqS rfl hX) _ (lv_sub hl [1, 2, 3, 4, 0] rfl)
  exact loop9 ((S.2.1 j).2.2.2.2.2 + 1) ((S.1 (3 + 2 * w)).1, (S.1 (3 + 2 * w)).2.1, 0) 0 ⟨rowOK_0 hgo, (cntB_none (fun k _ => decide_eq_false (by omega))).symm⟩ (by omega) _ _ (by omega) (WX.eqS rfl hX) _ (lv_sub hl [1, 2, 3, 0] rfl)
set_option maxHeartbeats 4000000 in
set_option maxRecDepth 100000 in
theorem m_X3_arrangeAll (l : Launch) (dC : Nat → ClassId) (dI : Nat → Nat → Nat) (ad : Nat → Nat) (S : XS) (w i j y9 : Nat) (hw : w < 2) (hi : i < 8) (hj : j < 6) (hro : rowOK (S.1 i)) (ho : ordOK (S.2.1 j)) (hig : i ≠ 3 + 2 * w) (hgo : rowOK (S.1 (3 + 2 * w))) (hy : y9 < 3) : Met l yX3_arrangeAll wsX3_arrangeAll ({ frames := 3, cells := 0, slots := 0, locals := 82 } : Room) (va_Pc [.ref (ad (54 + w)), .ref (ad (3 * i)), .ref (ad (24 + 5 * j)), .int (nI y9)] (PX dC dI ad S)) (va_Qv (fun S' => keepR S S' i (3 + 2 * w)) (PX dC dI ad) (AX ad)) 0 0 (AX ad) := by
  refine Met.ofW (cc := cX3_arrangeAll) (maxL := 4) (ret := none) pl_X3 rfl ?_
  intro p e s m args below meth c s₁ B hml hv
  obtain ⟨rfl, hPX⟩ := hv
  have hx := B.exec
  have hb := B.bytes
  have hr := B.returns
  have hts := atoms_spec (ws := wsX3_arrangeAll) B.pre
  have hown : s.vm.findClass RX3 = some m.cls := findClass_of_methodNamed B.named
  have hlocks := B.notSynchronized
  have hX := WX.of hPX
  have hl := lv_entry ([.ref (ad (54 + w)), .ref (ad (3 * i)), .ref (ad (24 + 5 * j)), .int (nI y9)]) (n := 4) (Nat.le_of_ble_eq_true rfl)
  rw [lg_entry_eq]
  generalize (lg_sl ([.ref (ad (54 + w)), .ref (ad (3 * i)), .ref (ad (24 + 5 * j)), .int (nI y9)]) ++ List.replicate (4 - (lg_sl ([.ref (ad (54 + w)), .ref (ad (3 * i)), .ref (ad (24 + 5 * j)), .int (nI y9)])).length) Slot.unset).toArray = ls at hl ⊢
  have hl : lv_has ls 4 [(0, .ref (ad (54 + w))), (1, .ref (ad (3 * i))), (2, .ref (ad (24 + 5 * j))), (3, .int (nI y9))] := hl
  show W p l e ({ frames := 3, cells := 0, slots := 0, locals := 82 } : Room) s m ([.ref (ad (54 + w)), .ref (ad (3 * i)), .ref (ad (24 + 5 * j)), .int (nI y9)]).toArray below meth c s.heap [] 0 0 (MQ below (va_Qv (fun S' => keepR S S' i (3 + 2 * w)) (PX dC dI ad) (AX ad)) ([.ref (ad (54 + w)), .ref (ad (3 * i)), .ref (ad (24 + 5 * j)), .int (nI y9)]).toArray s 0 0 (AX ad)) (F0 m 0 ls [])
  rcases (show y9 = 0 ∨ y9 = 1 ∨ y9 = 2 by omega) with rfl | rfl | rfl
  · skip
    have hl : lv_has ls 4 [(0, .ref (ad (54 + w))), (1, .ref (ad (3 * i))), (2, .ref (ad (24 + 5 * j))), (3, .int (nI 0))] := hl
    refine lv_iload_n hx hb dX3_arrangeAll_0 rfl (lv_at hl 3 rfl) ?_
    refine lv_lookup (x := nI 0) (off := 27) (tgt := 28) hx hb dX3_arrangeAll_1 (by decide) (by decide) (by decide) ?_
    refine lv_aload_n hx hb dX3_arrangeAll_28 rfl (lv_at hl 0 rfl) ?_
    refine lv_aload_n hx hb dX3_arrangeAll_29 rfl (lv_at hl 1 rfl) ?_
    refine lv_aload_n hx hb dX3_arrangeAll_30 rfl (lv_at hl 2 rfl) ?_
    refine lv_iconst (v := nI 0) hx hb dX3_arrangeAll_31 (by decide) ?_
    refine lv_aload_n hx hb dX3_arrangeAll_32 rfl (lv_at hl 1 rfl) ?_
    refine kx_cr (v := nI ((S.1 i).2.2)) (va_runV (As := []) (rest := [.int (nI 0), .ref (ad (24 + 5 * j)), .ref (ad (3 * i)), .ref (ad (54 + w))]) ⟨hx, hb, hml, hown, hts⟩ (m_X2_length l dC dI ad S i hi) (cwV 0 hts gX3_arrangeAll_X2_length rfl rfl rfl hdX2_length_0 ⟨Nat.le_of_ble_eq_true rfl, Nat.le_of_ble_eq_true rfl⟩) (hX.preRow hi) rfl rfl hl.1 rfl (lv_room (Nat.le_of_ble_eq_true rfl)) dX3_arrangeAll_33 ⟨Nat.le_of_ble_eq_true rfl, Nat.le_of_ble_eq_true rfl⟩) (fun _ h => h) ?_
    refine kx_cv (va_runV (As := [.ref (ad (3 * i)), .ref (ad (24 + 5 * j)), .int (nI 0), .int (nI ((S.1 i).2.2))]) (rest := []) ⟨hx, hb, hml, hown, hts⟩ (m_X3_insertEach l dC dI ad S w i j 0 ((S.1 i).2.2) hw hi hj hro ho (Nat.zero_le _) (Nat.le_refl _)) (cwV 4 hts gX3_arrangeAll_X3_insertEach rfl rfl rfl hdX3_insertEach_4 ⟨Nat.le_of_ble_eq_true rfl, Nat.le_of_ble_eq_true rfl⟩) (hX.preSor hw) rfl rfl hl.1 rfl (lv_room (Nat.le_of_ble_eq_true rfl)) dX3_arrangeAll_36 ⟨Nat.le_of_ble_eq_true rfl, Nat.le_of_ble_eq_true rfl⟩) hX (fun _ h => h) (fun S_ H locs hw hX => ?_)
    obtain ⟨r2, hw, hr2⟩ := hw
    subst hw
    refine lv_goto (tgt := 57) hx hb dX3_arrangeAll_39 (by decide) ?_
    exact W.vret hx hb hr (fun t9 ht9 hW9 => ⟨⟨(xR S i (r2.1, r2.2.1, r2.2.2)), rfl, (keepR_i (keepR_refl hro hgo) hig hr2.1 hr2.2), hX.P ht9 hW9⟩, hX.2.2.2.F ht9⟩) hX.2.2.2.2.2 dX3_arrangeAll_57
  · skip
    have hl : lv_has ls 4 [(0, .ref (ad (54 + w))), (1, .ref (ad (3 * i))), (2, .ref (ad (24 + 5 * j))), (3, .int (nI 1))] := hl
    refine lv_iload_n hx hb dX3_arrangeAll_0 rfl (lv_at hl 3 rfl) ?_
    refine lv_lookup (x := nI 1) (off := 41) (tgt := 42) hx hb dX3_arrangeAll_1 (by decide) (by decide) (by decide) ?_
    refine lv_aload_n hx hb dX3_arrangeAll_42 rfl (lv_at hl 0 rfl) ?_
    refine lv_aload_n hx hb dX3_arrangeAll_43 rfl (lv_at hl 1 rfl) ?_
    refine lv_aload_n hx hb dX3_arrangeAll_44 rfl (lv_at hl 2 rfl) ?_
    refine kx_cv (va_runV (As := [.ref (ad (3 * i)), .ref (ad (24 + 5 * j))]) (rest := []) ⟨hx, hb, hml, hown, hts⟩ (m_X3_mergeRuns l dC dI ad S w i j hw hi hj hro ho hig hgo) (cwV 2 hts gX3_arrangeAll_X3_mergeRuns rfl rfl rfl hdX3_mergeRuns_2 ⟨Nat.le_of_ble_eq_true rfl, Nat.le_of_ble_eq_true rfl⟩) (hX.preSor hw) rfl rfl hl.1 rfl (lv_room (Nat.le_of_ble_eq_true rfl)) dX3_arrangeAll_45 ⟨Nat.le_of_ble_eq_true rfl, Nat.le_of_ble_eq_true rfl⟩) hX (fun _ h => h) (fun S_ H locs hw hX => ?_)
    refine lv_goto (tgt := 57) hx hb dX3_arrangeAll_48 (by decide) ?_
    exact W.vret hx hb hr (fun t9 ht9 hW9 => ⟨⟨S_, rfl, hw, hX.P ht9 hW9⟩, hX.2.2.2.F ht9⟩) hX.2.2.2.2.2 dX3_arrangeAll_57
  · skip
    have hl : lv_has ls 4 [(0, .ref (ad (54 + w))), (1, .ref (ad (3 * i))), (2, .ref (ad (24 + 5 * j))), (3, .int (nI 2))] := hl
    refine lv_iload_n hx hb dX3_arrangeAll_0 rfl (lv_at hl 3 rfl) ?_
    refine lv_lookup (x := nI 2) (off := 50) (tgt := 51) hx hb dX3_arrangeAll_1 (by decide) (by decide) (by decide) ?_
    refine lv_aload_n hx hb dX3_arrangeAll_51 rfl (lv_at hl 0 rfl) ?_
    refine lv_aload_n hx hb dX3_arrangeAll_52 rfl (lv_at hl 1 rfl) ?_
    refine lv_aload_n hx hb dX3_arrangeAll_53 rfl (lv_at hl 2 rfl) ?_
    refine kx_cv (va_runV (As := [.ref (ad (3 * i)), .ref (ad (24 + 5 * j))]) (rest := []) ⟨hx, hb, hml, hown, hts⟩ (m_X3_gatherByRank l dC dI ad S w i j hw hi hj hro ho hig hgo) (cwV 2 hts gX3_arrangeAll_X3_gatherByRank rfl rfl rfl hdX3_gatherByRank_2 ⟨Nat.le_of_ble_eq_true rfl, Nat.le_of_ble_eq_true rfl⟩) (hX.preSor hw) rfl rfl hl.1 rfl (lv_room (Nat.le_of_ble_eq_true rfl)) dX3_arrangeAll_54 ⟨Nat.le_of_ble_eq_true rfl, Nat.le_of_ble_eq_true rfl⟩) hX (fun _ h => h) (fun S_ H locs hw hX => ?_)
    exact W.vret hx hb hr (fun t9 ht9 hW9 => ⟨⟨S_, rfl, hw, hX.P ht9 hW9⟩, hX.2.2.2.F ht9⟩) hX.2.2.2.2.2 dX3_arrangeAll_57
end
section
/-! two orders beside one another -/
def finerN (c d : Nat → Nat) (n : Nat) : Bool := decide (∀ a, a < n → ∀ b, b < n → d a < d b → c a < c b)
def finerB (c d : Nat → Nat) : Bool := finerN c d 16
def likeN (c d : Nat → Nat) (n : Nat) : Bool := decide (∀ a, a < n → ∀ b, b < n → a < b → cmpI (c a) (c b) = cmpI (d a) (d b))
def likeB (c d : Nat → Nat) : Bool := likeN c d 16
def alikeN (c d : Nat → Nat) (n : Nat) : Bool := decide (∀ a, a < n → ∀ b, b < n → a < b → c a = c b → d a = d b)
def alikeB (c d : Nat → Nat) : Bool := alikeN c d 16
def rankSomeN (r : Nat → Nat) (k n : Nat) : Bool := decide (∃ v, v < n ∧ r v = k)
def rankSome (r : Nat → Nat) (k : Nat) : Bool := rankSomeN r k 16
set_option maxHeartbeats 4000000 in
set_option maxRecDepth 100000 in
theorem m_X1_isFinerThan (l : Launch) (dC : Nat → ClassId) (dI : Nat → Nat → Nat) (ad : Nat → Nat) (S : XS) (j t : Nat) (hj : j < 6) (ht : t < 6) (ho : ordOK (S.2.1 j)) (ho2 : ordOK (S.2.1 t)) : Met l yX1_isFinerThan wsX1_isFinerThan ({ frames := 1, cells := 0, slots := 0, locals := 26 } : Room) (va_Pc [.ref (ad (24 + 5 * j)), .ref (ad (24 + 5 * t))] (PX dC dI ad S)) (vp_Si (fun r => r = bI (finerB (S.2.1 j).2.2.1 (S.2.1 t).2.2.1))) 0 0 (fun _ => False) := by
  refine Met.ofW (cc := cX1_isFinerThan) (maxL := 4) (ret := (some .boolean)) pl_X1 rfl ?_
  intro p e s m args below meth c s₁ B hml hv
  obtain ⟨rfl, hPX⟩ := hv
  have hx := B.exec
  have hb := B.bytes
  have hr := B.returns
  have hts := atoms_spec (ws := wsX1_isFinerThan) B.pre
  have hown : s.vm.findClass RX1 = some m.cls := findClass_of_methodNamed B.named
  have hlocks := B.notSynchronized
  have hX := WX.of hPX
  have hl := lv_entry ([.ref (ad (24 + 5 * j)), .ref (ad (24 + 5 * t))]) (n := 4) (Nat.le_of_ble_eq_true rfl)
  rw [lg_entry_eq]
  generalize (lg_sl ([.ref (ad (24 + 5 * j)), .ref (ad (24 + 5 * t))]) ++ List.replicate (4 - (lg_sl ([.ref (ad (24 + 5 * j)), .ref (ad (24 + 5 * t))])).length) Slot.unset).toArray = ls at hl ⊢
  have hl : lv_has ls 4 [(0, .ref (ad (24 + 5 * j))), (1, .ref (ad (24 + 5 * t)))] := hl
  show W p l e ({ frames := 1, cells := 0, slots := 0, locals := 26 } : Room) s m ([.ref (ad (24 + 5 * j)), .ref (ad (24 + 5 * t))]).toArray below meth c s.heap [] 0 0 (MQ below (vp_Si (fun r => r = bI (finerB (S.2.1 j).2.2.1 (S.2.1 t).2.2.1))) ([.ref (ad (24 + 5 * j)), .ref (ad (24 + 5 * t))]).toArray s 0 0 (fun _ => False)) (F0 m 0 ls [])
  refine lv_iconst (v := nI 0) hx hb dX1_isFinerThan_0 (by decide) ?_
  refine lv_istore_n (lv' := [(2, .int (nI 0)), (0, .ref (ad (24 + 5 * j))), (1, .ref (ad (24 + 5 * t)))]) hx hb dX1_isFinerThan_1 rfl hl (by decide) rfl (fun ls hl => ?_)
  have loop2 : ∀ (fuel : Nat) (a : Nat) (ha : a ≤ 16) (hq : ∀ x, x < a → ∀ y, y < 16 → (S.2.1 t).2.2.1 x < (S.2.1 t).2.2.1 y → (S.2.1 j).2.2.1 x < (S.2.1 j).2.2.1 y), 16 - a < fuel → ∀ ls : Array Slot, lv_has ls 4 [(0, .ref (ad (24 + 5 * j))), (1, .ref (ad (24 + 5 * t))), (2, .int (nI a))] → W p l e ({ frames := 1, cells := 0, slots := 0, locals := 26 } : Room) s m ([.ref (ad (24 + 5 * j)), .ref (ad (24 + 5 * t))]).toArray below meth c s.heap [] 0 0 (MQ below (vp_Si (fun r => r = bI (finerB (S.2.1 j).2.2.1 (S.2.1 t).2.2.1))) ([.ref (ad (24 + 5 * j)), .ref (ad (24 + 5 * t))]).toArray s 0 0 (fun _ => False)) (F0 m 2 ls []) := by
    intro fuel
    induction fuel with
    | zero => intro a ha hq hf; exact absurd hf (Nat.not_lt_zero _)
    | succ fuel ih2 =>
      intro a ha hq hf ls hl
      refine lv_iload_n hx hb dX1_isFinerThan_2 rfl (lv_at hl 2 rfl) ?_
      refine lv_bipush (v := nI 16) hx hb dX1_isFinerThan_3 (by decide) ?_
      refine kn_icmp_ge (tgt := 48) hx hb (by omega) (by omega) dX1_isFinerThan_5 (by decide) (fun k_1 => ?_) (fun k_1 => ?_)
      · skip
        refine lv_iconst (v := nI 1) hx hb dX1_isFinerThan_48 (by decide) ?_
        exact W.zret (v := bI true) hx hb hr (bI_narrow _) (fun t9 ht9 hW9 => ⟨_, rfl, (kd_t (fun x hx9 y hy9 => hq x (by omega) y hy9)), ht9⟩) (fun _ h => nomatch h) dX1_isFinerThan_49
      · skip
        refine lv_iconst (v := nI 0) hx hb dX1_isFinerThan_8 (by decide) ?_
        refine lv_istore_n (lv' := [(3, .int (nI 0)), (0, .ref (ad (24 + 5 * j))), (1, .ref (ad (24 + 5 * t))), (2, .int (nI a))]) hx hb dX1_isFinerThan_9 rfl hl (by decide) rfl (fun ls hl => ?_)
        have loop10 : ∀ (fuel : Nat) (b : Nat) (hb3 : b ≤ 17) (hp : ∀ y, y < b → (S.2.1 t).2.2.1 a < (S.2.1 t).2.2.1 y → (S.2.1 j).2.2.1 a < (S.2.1 j).2.2.1 y), 17 - b < fuel → ∀ ls : Array Slot, lv_has ls 4 [(0, .ref (ad (24 + 5 * j))), (1, .ref (ad (24 + 5 * t))), (2, .int (nI a)), (3, .int (nI b))] → W p l e ({ frames := 1, cells := 0, slots := 0, locals := 26 } : Room) s m ([.ref (ad (24 + 5 * j)), .ref (ad (24 + 5 * t))]).toArray below meth c s.heap [] 0 0 (MQ below (vp_Si (fun r => r = bI (finerB (S.2.1 j).2.2.1 (S.2.1 t).2.2.1))) ([.ref (ad (24 + 5 * j)), .ref (ad (24 + 5 * t))]).toArray s 0 0 (fun _ => False)) (F0 m 10 ls []) := by
          intro fuel
          induction fuel with
          | zero => intro b hb3 hp hf; exact absurd hf (Nat.not_lt_zero _)
          | succ fuel ih10 =>
            intro b hb3 hp hf ls hl
            refine lv_iload_n hx hb dX1_isFinerThan_10 rfl (lv_at hl 3 rfl) ?_
            refine lv_bipush (v := nI 16) hx hb dX1_isFinerThan_11 (by decide) ?_
            refine kn_icmp_ge (tgt := 42) hx hb (by omega) (by omega) dX1_isFinerThan_13 (by decide) (fun k_2 => ?_) (fun k_2 => ?_)
            · skip
              refine lv_iinc (v := nI (a + 1)) (lv' := [(2, .int (nI (a + 1))), (0, .ref (ad (24 + 5 * j))), (1, .ref (ad (24 + 5 * t))), (3, .int (nI b))]) hx hb dX1_isFinerThan_42 hl (k := 2) rfl (nI_1 a) (by decide) rfl (fun ls hl => ?_)
              refine lv_goto (tgt := 2) hx hb dX1_isFinerThan_45 (by decide) ?_
              exact ih2  (a + 1) (by omega) (lt_s hq (fun y hy => hp y (by omega))) (by omega) _ (lv_sub hl [1, 2, 0] rfl)
            · skip
              refine lv_aload_n hx hb dX1_isFinerThan_16 rfl (lv_at hl 1 rfl) ?_
              refine lv_iload_n hx hb dX1_isFinerThan_17 rfl (lv_at hl 2 rfl) ?_
              refine lv_iload_n hx hb dX1_isFinerThan_18 rfl (lv_at hl 3 rfl) ?_
              refine kx_cr (v := cmpI (((S.2.1 t).2.2.1) a) (((S.2.1 t).2.2.1) b)) (va_runV (As := [.int (nI a), .int (nI b)]) (rest := []) ⟨hx, hb, hml, hown, hts⟩ (m_X1_compared l dC dI ad S t a b ht ho2 (by omega) (by omega)) (cwV 2 hts gX1_isFinerThan_X1_compared rfl rfl rfl hdX1_compared_2 ⟨Nat.le_of_ble_eq_true rfl, Nat.le_of_ble_eq_true rfl⟩) (hX.preOrd ht) rfl rfl hl.1 rfl (lv_room (Nat.le_of_ble_eq_true rfl)) dX1_isFinerThan_19 ⟨Nat.le_of_ble_eq_true rfl, Nat.le_of_ble_eq_true rfl⟩) (fun _ h => h) ?_
              refine kc_if_ge (tgt := 36) hx hb dX1_isFinerThan_22 (by decide) (fun k_3 => ?_) (fun k_3 => ?_)
              · skip
                have h1 := k_3
                refine lv_iinc (v := nI (b + 1)) (lv' := [(3, .int (nI (b + 1))), (0, .ref (ad (24 + 5 * j))), (1, .ref (ad (24 + 5 * t))), (2, .int (nI a))]) hx hb dX1_isFinerThan_36 hl (k := 3) rfl (nI_1 b) (by decide) rfl (fun ls hl => ?_)
                refine lv_goto (tgt := 10) hx hb dX1_isFinerThan_39 (by decide) ?_
                exact ih10  (b + 1) (by omega) (lt_s hp (fun h => absurd h (by omega))) (by omega) _ (lv_sub hl [1, 2, 3, 0] rfl)
              · skip
                have h1 := k_3
                refine lv_aload_n hx hb dX1_isFinerThan_25 rfl (lv_at hl 0 rfl) ?_
                refine lv_iload_n hx hb dX1_isFinerThan_26 rfl (lv_at hl 2 rfl) ?_
                refine lv_iload_n hx hb dX1_isFinerThan_27 rfl (lv_at hl 3 rfl) ?_
                refine kx_cr (v := cmpI (((S.2.1 j).2.2.1) a) (((S.2.1 j).2.2.1) b)) (va_runV (As := [.int (nI a), .int (nI b)]) (rest := []) ⟨hx, hb, hml, hown, hts⟩ (m_X1_compared l dC dI ad S j a b hj ho (by omega) (by omega)) (cwV 2 hts gX1_isFinerThan_X1_compared rfl rfl rfl hdX1_compared_2 ⟨Nat.le_of_ble_eq_true rfl, Nat.le_of_ble_eq_true rfl⟩) (hX.preOrd hj) rfl rfl hl.1 rfl (lv_room (Nat.le_of_ble_eq_true rfl)) dX1_isFinerThan_28 ⟨Nat.le_of_ble_eq_true rfl, Nat.le_of_ble_eq_true rfl⟩) (fun _ h => h) ?_
                refine kc_if_lt (tgt := 36) hx hb dX1_isFinerThan_31 (by decide) (fun k_4 => ?_) (fun k_4 => ?_)
                · skip
                  have h2 := k_4
                  refine lv_iinc (v := nI (b + 1)) (lv' := [(3, .int (nI (b + 1))), (0, .ref (ad (24 + 5 * j))), (1, .ref (ad (24 + 5 * t))), (2, .int (nI a))]) hx hb dX1_isFinerThan_36 hl (k := 3) rfl (nI_1 b) (by decide) rfl (fun ls hl => ?_)
                  refine lv_goto (tgt := 10) hx hb dX1_isFinerThan_39 (by decide) ?_
                  exact ih10  (b + 1) (by omega) (lt_s hp (fun _ => h2)) (by omega) _ (lv_sub hl [1, 2, 3, 0] rfl)
                · skip
                  have h2 := k_4
                  refine lv_iconst (v := nI 0) hx hb dX1_isFinerThan_34 (by decide) ?_
                  exact W.zret (v := bI false) hx hb hr (bI_narrow _) (fun t9 ht9 hW9 => ⟨_, rfl, (kd_f (fun z => absurd (z a (by omega) b (by omega) h1) (by omega))), ht9⟩) (fun _ h => nomatch h) dX1_isFinerThan_35
        exact loop10 (17 + 1) 0 (by omega) (fun y h => absurd h (Nat.not_lt_zero y)) (by omega) _ (lv_sub hl [1, 2, 3, 0] rfl)
  exact loop2 (16 + 1) 0 (by omega) (fun x h => absurd h (Nat.not_lt_zero x)) (by omega) _ (lv_sub hl [1, 2, 0] rfl)
set_option maxHeartbeats 4000000 in
set_option maxRecDepth 100000 in
theorem m_X1_comparesLike (l : Launch) (dC : Nat → ClassId) (dI : Nat → Nat → Nat) (ad : Nat → Nat) (S : XS) (j t : Nat) (hj : j < 6) (ht : t < 6) (ho : ordOK (S.2.1 j)) (ho2 : ordOK (S.2.1 t)) : Met l yX1_comparesLike wsX1_comparesLike ({ frames := 1, cells := 0, slots := 0, locals := 26 } : Room) (va_Pc [.ref (ad (24 + 5 * j)), .ref (ad (24 + 5 * t))] (PX dC dI ad S)) (vp_Si (fun r => r = bI (likeB (S.2.1 j).2.2.1 (S.2.1 t).2.2.1))) 0 0 (fun _ => False) := by
  refine Met.ofW (cc := cX1_comparesLike) (maxL := 4) (ret := (some .boolean)) pl_X1 rfl ?_
  intro p e s m args below meth c s₁ B hml hv
  obtain ⟨rfl, hPX⟩ := hv
  have hx := B.exec
  have hb := B.bytes
  have hr := B.returns
  have hts := atoms_spec (ws := wsX1_comparesLike) B.pre
  have hown : s.vm.findClass RX1 = some m.cls := findClass_of_methodNamed B.named
  have hlocks := B.notSynchronized
  have hX := WX.of hPX
  have hl := lv_entry ([.ref (ad (24 + 5 * j)), .ref (ad (24 + 5 * t))]) (n := 4) (Nat.le_of_ble_eq_true rfl)
  rw [lg_entry_eq]
  generalize (lg_sl ([.ref (ad (24 + 5 * j)), .ref (ad (24 + 5 * t))]) ++ List.replicate (4 - (lg_sl ([.ref (ad (24 + 5 * j)), .ref (ad (24 + 5 * t))])).length) Slot.unset).toArray = ls at hl ⊢
  have hl : lv_has ls 4 [(0, .ref (ad (24 + 5 * j))), (1, .ref (ad (24 + 5 * t)))] := hl
  show W p l e ({ frames := 1, cells := 0, slots := 0, locals := 26 } : Room) s m ([.ref (ad (24 + 5 * j)), .ref (ad (24 + 5 * t))]).toArray below meth c s.heap [] 0 0 (MQ below (vp_Si (fun r => r = bI (likeB (S.2.1 j).2.2.1 (S.2.1 t).2.2.1))) ([.ref (ad (24 + 5 * j)), .ref (ad (24 + 5 * t))]).toArray s 0 0 (fun _ => False)) (F0 m 0 ls [])
  refine lv_iconst (v := nI 0) hx hb dX1_comparesLike_0 (by decide) ?_
  refine lv_istore_n (lv' := [(2, .int (nI 0)), (0, .ref (ad (24 + 5 * j))), (1, .ref (ad (24 + 5 * t)))]) hx hb dX1_comparesLike_1 rfl hl (by decide) rfl (fun ls hl => ?_)
  have loop2 : ∀ (fuel : Nat) (a : Nat) (ha : a ≤ 16) (hq : ∀ x, x < a → ∀ y, y < 16 → x < y → cmpI ((S.2.1 j).2.2.1 x) ((S.2.1 j).2.2.1 y) = cmpI ((S.2.1 t).2.2.1 x) ((S.2.1 t).2.2.1 y)), 16 - a < fuel → ∀ ls : Array Slot, lv_has ls 4 [(0, .ref (ad (24 + 5 * j))), (1, .ref (ad (24 + 5 * t))), (2, .int (nI a))] → W p l e ({ frames := 1, cells := 0, slots := 0, locals := 26 } : Room) s m ([.ref (ad (24 + 5 * j)), .ref (ad (24 + 5 * t))]).toArray below meth c s.heap [] 0 0 (MQ below (vp_Si (fun r => r = bI (likeB (S.2.1 j).2.2.1 (S.2.1 t).2.2.1))) ([.ref (ad (24 + 5 * j)), .ref (ad (24 + 5 * t))]).toArray s 0 0 (fun _ => False)) (F0 m 2 ls []) := by
    intro fuel
    induction fuel with
    | zero => intro a ha hq hf; exact absurd hf (Nat.not_lt_zero _)
    | succ fuel ih2 =>
      intro a ha hq hf ls hl
      refine lv_iload_n hx hb dX1_comparesLike_2 rfl (lv_at hl 2 rfl) ?_
      refine lv_bipush (v := nI 16) hx hb dX1_comparesLike_3 (by decide) ?_
      refine kn_icmp_ge (tgt := 47) hx hb (by omega) (by omega) dX1_comparesLike_5 (by decide) (fun k_1 => ?_) (fun k_1 => ?_)
      · skip
        refine lv_iconst (v := nI 1) hx hb dX1_comparesLike_47 (by decide) ?_
        exact W.zret (v := bI true) hx hb hr (bI_narrow _) (fun t9 ht9 hW9 => ⟨_, rfl, (kd_t (fun x hx9 y hy9 => hq x (by omega) y hy9)), ht9⟩) (fun _ h => nomatch h) dX1_comparesLike_48
      · skip
        refine lv_iload_n hx hb dX1_comparesLike_8 rfl (lv_at hl 2 rfl) ?_
        refine lv_iconst (v := nI 1) hx hb dX1_comparesLike_9 (by decide) ?_
        refine kn_iadd hx hb dX1_comparesLike_10 ?_
        refine lv_istore_n (lv' := [(3, .int (nI (a + 1))), (0, .ref (ad (24 + 5 * j))), (1, .ref (ad (24 + 5 * t))), (2, .int (nI a))]) hx hb dX1_comparesLike_11 rfl hl (by decide) rfl (fun ls hl => ?_)
        have loop12 : ∀ (fuel : Nat) (b : Nat) (hb3 : a < b ∧ b ≤ 17) (hp : ∀ y, y < b → a < y → cmpI ((S.2.1 j).2.2.1 a) ((S.2.1 j).2.2.1 y) = cmpI ((S.2.1 t).2.2.1 a) ((S.2.1 t).2.2.1 y)), 17 - b < fuel → ∀ ls : Array Slot, lv_has ls 4 [(0, .ref (ad (24 + 5 * j))), (1, .ref (ad (24 + 5 * t))), (2, .int (nI a)), (3, .int (nI b))] → W p l e ({ frames := 1, cells := 0, slots := 0, locals := 26 } : Room) s m ([.ref (ad (24 + 5 * j)), .ref (ad (24 + 5 * t))]).toArray below meth c s.heap [] 0 0 (MQ below (vp_Si (fun r => r = bI (likeB (S.2.1 j).2.2.1 (S.2.1 t).2.2.1))) ([.ref (ad (24 + 5 * j)), .ref (ad (24 + 5 * t))]).toArray s 0 0 (fun _ => False)) (F0 m 12 ls []) := by
          intro fuel
          induction fuel with
          | zero => intro b hb3 hp hf; exact absurd hf (Nat.not_lt_zero _)
          | succ fuel ih12 =>
            intro b hb3 hp hf ls hl
            refine lv_iload_n hx hb dX1_comparesLike_12 rfl (lv_at hl 3 rfl) ?_
            refine lv_bipush (v := nI 16) hx hb dX1_comparesLike_13 (by decide) ?_
            refine kn_icmp_ge (tgt := 41) hx hb (by omega) (by omega) dX1_comparesLike_15 (by decide) (fun k_2 => ?_) (fun k_2 => ?_)
            · skip
              refine lv_iinc (v := nI (a + 1)) (lv' := [(2, .int (nI (a + 1))), (0, .ref (ad (24 + 5 * j))), (1, .ref (ad (24 + 5 * t))), (3, .int (nI b))]) hx hb dX1_comparesLike_41 hl (k := 2) rfl (nI_1 a) (by decide) rfl (fun ls hl => ?_)
              refine lv_goto (tgt := 2) hx hb dX1_comparesLike_44 (by decide) ?_
              exact ih2  (a + 1) (by omega) (lt_s hq (fun y hy => hp y (by omega))) (by omega) _ (lv_sub hl [1, 2, 0] rfl)
            · skip
              refine lv_aload_n hx hb dX1_comparesLike_18 rfl (lv_at hl 0 rfl) ?_
              refine lv_iload_n hx hb dX1_comparesLike_19 rfl (lv_at hl 2 rfl) ?_
              refine lv_iload_n hx hb dX1_comparesLike_20 rfl (lv_at hl 3 rfl) ?_
              refine kx_cr (v := cmpI (((S.2.1 j).2.2.1) a) (((S.2.1 j).2.2.1) b)) (va_runV (As := [.int (nI a), .int (nI b)]) (rest := []) ⟨hx, hb, hml, hown, hts⟩ (m_X1_compared l dC dI ad S j a b hj ho (by omega) (by omega)) (cwV 2 hts gX1_comparesLike_X1_compared rfl rfl rfl hdX1_compared_2 ⟨Nat.le_of_ble_eq_true rfl, Nat.le_of_ble_eq_true rfl⟩) (hX.preOrd hj) rfl rfl hl.1 rfl (lv_room (Nat.le_of_ble_eq_true rfl)) dX1_comparesLike_21 ⟨Nat.le_of_ble_eq_true rfl, Nat.le_of_ble_eq_true rfl⟩) (fun _ h => h) ?_
              refine lv_aload_n hx hb dX1_comparesLike_24 rfl (lv_at hl 1 rfl) ?_
              refine lv_iload_n hx hb dX1_comparesLike_25 rfl (lv_at hl 2 rfl) ?_
              refine lv_iload_n hx hb dX1_comparesLike_26 rfl (lv_at hl 3 rfl) ?_
              refine kx_cr (v := cmpI (((S.2.1 t).2.2.1) a) (((S.2.1 t).2.2.1) b)) (va_runV (As := [.int (nI a), .int (nI b)]) (rest := [.int (cmpI (((S.2.1 j).2.2.1) a) (((S.2.1 j).2.2.1) b))]) ⟨hx, hb, hml, hown, hts⟩ (m_X1_compared l dC dI ad S t a b ht ho2 (by omega) (by omega)) (cwV 2 hts gX1_comparesLike_X1_compared rfl rfl rfl hdX1_compared_2 ⟨Nat.le_of_ble_eq_true rfl, Nat.le_of_ble_eq_true rfl⟩) (hX.preOrd ht) rfl rfl hl.1 rfl (lv_room (Nat.le_of_ble_eq_true rfl)) dX1_comparesLike_27 ⟨Nat.le_of_ble_eq_true rfl, Nat.le_of_ble_eq_true rfl⟩) (fun _ h => h) ?_
              refine lv_icmp_eq (tgt := 35) hx hb dX1_comparesLike_30 (by decide) (fun k_3 => ?_) (fun k_3 => ?_)
              · skip
                have h1 := k_3
                refine lv_iinc (v := nI (b + 1)) (lv' := [(3, .int (nI (b + 1))), (0, .ref (ad (24 + 5 * j))), (1, .ref (ad (24 + 5 * t))), (2, .int (nI a))]) hx hb dX1_comparesLike_35 hl (k := 3) rfl (nI_1 b) (by decide) rfl (fun ls hl => ?_)
                refine lv_goto (tgt := 12) hx hb dX1_comparesLike_38 (by decide) ?_
                exact ih12  (b + 1) (by omega) (lt_s hp (fun _ => h1)) (by omega) _ (lv_sub hl [1, 2, 3, 0] rfl)
              · skip
                have h1 := k_3
                refine lv_iconst (v := nI 0) hx hb dX1_comparesLike_33 (by decide) ?_
                exact W.zret (v := bI false) hx hb hr (bI_narrow _) (fun t9 ht9 hW9 => ⟨_, rfl, (kd_f (fun z => h1 (z a (by omega) b (by omega) (by omega)))), ht9⟩) (fun _ h => nomatch h) dX1_comparesLike_34
        exact loop12 (17 + 1) (a + 1) (by omega) (fun y h h2 => absurd h2 (by omega)) (by omega) _ (lv_sub hl [1, 2, 3, 0] rfl)
  exact loop2 (16 + 1) 0 (by omega) (fun x h => absurd h (Nat.not_lt_zero x)) (by omega) _ (lv_sub hl [1, 2, 0] rfl)
set_option maxHeartbeats 4000000 in
set_option maxRecDepth 100000 in
theorem m_X0_areAlikeAlike (l : Launch) (dC : Nat → ClassId) (dI : Nat → Nat → Nat) (ad : Nat → Nat) (S : XS) (j t : Nat) (hj : j < 6) (ht : t < 6) (ho : ordOK (S.2.1 j)) (ho2 : ordOK (S.2.1 t)) : Met l yX0_areAlikeAlike wsX0_areAlikeAlike ({ frames := 1, cells := 0, slots := 0, locals := 26 } : Room) (va_Pc [.ref (ad (24 + 5 * j)), .ref (ad (24 + 5 * t))] (PX dC dI ad S)) (vp_Si (fun r => r = bI (alikeB (S.2.1 j).2.2.1 (S.2.1 t).2.2.1))) 0 0 (fun _ => False) := by
  refine Met.ofW (cc := cX0_areAlikeAlike) (maxL := 4) (ret := (some .boolean)) pl_X0 rfl ?_
  intro p e s m args below meth c s₁ B hml hv
  obtain ⟨rfl, hPX⟩ := hv
  have hx := B.exec
  have hb := B.bytes
  have hr := B.returns
  have hts := atoms_spec (ws := wsX0_areAlikeAlike) B.pre
  have hown : s.vm.findClass RX0 = some m.cls := findClass_of_methodNamed B.named
  have hlocks := B.notSynchronized
  have hX := WX.of hPX
  have hl := lv_entry ([.ref (ad (24 + 5 * j)), .ref (ad (24 + 5 * t))]) (n := 4) (Nat.le_of_ble_eq_true rfl)
  rw [lg_entry_eq]
  generalize (lg_sl ([.ref (ad (24 + 5 * j)), .ref (ad (24 + 5 * t))]) ++ List.replicate (4 - (lg_sl ([.ref (ad (24 + 5 * j)), .ref (ad (24 + 5 * t))])).length) Slot.unset).toArray = ls at hl ⊢
  have hl : lv_has ls 4 [(0, .ref (ad (24 + 5 * j))), (1, .ref (ad (24 + 5 * t)))] := hl
  show W p l e ({ frames := 1, cells := 0, slots := 0, locals := 26 } : Room) s m ([.ref (ad (24 + 5 * j)), .ref (ad (24 + 5 * t))]).toArray below meth c s.heap [] 0 0 (MQ below (vp_Si (fun r => r = bI (alikeB (S.2.1 j).2.2.1 (S.2.1 t).2.2.1))) ([.ref (ad (24 + 5 * j)), .ref (ad (24 + 5 * t))]).toArray s 0 0 (fun _ => False)) (F0 m 0 ls [])
  refine lv_iconst (v := nI 0) hx hb dX0_areAlikeAlike_0 (by decide) ?_
  refine lv_istore_n (lv' := [(2, .int (nI 0)), (0, .ref (ad (24 + 5 * j))), (1, .ref (ad (24 + 5 * t)))]) hx hb dX0_areAlikeAlike_1 rfl hl (by decide) rfl (fun ls hl => ?_)
  have loop2 : ∀ (fuel : Nat) (a : Nat) (ha : a ≤ 16) (hq : ∀ x, x < a → ∀ y, y < 16 → x < y → (S.2.1 j).2.2.1 x = (S.2.1 j).2.2.1 y → (S.2.1 t).2.2.1 x = (S.2.1 t).2.2.1 y), 16 - a < fuel → ∀ ls : Array Slot, lv_has ls 4 [(0, .ref (ad (24 + 5 * j))), (1, .ref (ad (24 + 5 * t))), (2, .int (nI a))] → W p l e ({ frames := 1, cells := 0, slots := 0, locals := 26 } : Room) s m ([.ref (ad (24 + 5 * j)), .ref (ad (24 + 5 * t))]).toArray below meth c s.heap [] 0 0 (MQ below (vp_Si (fun r => r = bI (alikeB (S.2.1 j).2.2.1 (S.2.1 t).2.2.1))) ([.ref (ad (24 + 5 * j)), .ref (ad (24 + 5 * t))]).toArray s 0 0 (fun _ => False)) (F0 m 2 ls []) := by
    intro fuel
    induction fuel with
    | zero => intro a ha hq hf; exact absurd hf (Nat.not_lt_zero _)
    | succ fuel ih2 =>
      intro a ha hq hf ls hl
      refine lv_iload_n hx hb dX0_areAlikeAlike_2 rfl (lv_at hl 2 rfl) ?_
      refine lv_bipush (v := nI 16) hx hb dX0_areAlikeAlike_3 (by decide) ?_
      refine kn_icmp_ge (tgt := 50) hx hb (by omega) (by omega) dX0_areAlikeAlike_5 (by decide) (fun k_1 => ?_) (fun k_1 => ?_)
      · skip
        refine lv_iconst (v := nI 1) hx hb dX0_areAlikeAlike_50 (by decide) ?_
        exact W.zret (v := bI true) hx hb hr (bI_narrow _) (fun t9 ht9 hW9 => ⟨_, rfl, (kd_t (fun x hx9 y hy9 => hq x (by omega) y hy9)), ht9⟩) (fun _ h => nomatch h) dX0_areAlikeAlike_51
      · skip
        refine lv_iload_n hx hb dX0_areAlikeAlike_8 rfl (lv_at hl 2 rfl) ?_
        refine lv_iconst (v := nI 1) hx hb dX0_areAlikeAlike_9 (by decide) ?_
        refine kn_iadd hx hb dX0_areAlikeAlike_10 ?_
        refine lv_istore_n (lv' := [(3, .int (nI (a + 1))), (0, .ref (ad (24 + 5 * j))), (1, .ref (ad (24 + 5 * t))), (2, .int (nI a))]) hx hb dX0_areAlikeAlike_11 rfl hl (by decide) rfl (fun ls hl => ?_)
        have loop12 : ∀ (fuel : Nat) (b : Nat) (hb3 : a < b ∧ b ≤ 17) (hp : ∀ y, y < b → a < y → (S.2.1 j).2.2.1 a = (S.2.1 j).2.2.1 y → (S.2.1 t).2.2.1 a = (S.2.1 t).2.2.1 y), 17 - b < fuel → ∀ ls : Array Slot, lv_has ls 4 [(0, .ref (ad (24 + 5 * j))), (1, .ref (ad (24 + 5 * t))), (2, .int (nI a)), (3, .int (nI b))] → W p l e ({ frames := 1, cells := 0, slots := 0, locals := 26 } : Room) s m ([.ref (ad (24 + 5 * j)), .ref (ad (24 + 5 * t))]).toArray below meth c s.heap [] 0 0 (MQ below (vp_Si (fun r => r = bI (alikeB (S.2.1 j).2.2.1 (S.2.1 t).2.2.1))) ([.ref (ad (24 + 5 * j)), .ref (ad (24 + 5 * t))]).toArray s 0 0 (fun _ => False)) (F0 m 12 ls []) := by
          intro fuel
          induction fuel with
          | zero => intro b hb3 hp hf; exact absurd hf (Nat.not_lt_zero _)
          | succ fuel ih12 =>
            intro b hb3 hp hf ls hl
            refine lv_iload_n hx hb dX0_areAlikeAlike_12 rfl (lv_at hl 3 rfl) ?_
            refine lv_bipush (v := nI 16) hx hb dX0_areAlikeAlike_13 (by decide) ?_
            refine kn_icmp_ge (tgt := 44) hx hb (by omega) (by omega) dX0_areAlikeAlike_15 (by decide) (fun k_2 => ?_) (fun k_2 => ?_)
            · skip
              refine lv_iinc (v := nI (a + 1)) (lv' := [(2, .int (nI (a + 1))), (0, .ref (ad (24 + 5 * j))), (1, .ref (ad (24 + 5 * t))), (3, .int (nI b))]) hx hb dX0_areAlikeAlike_44 hl (k := 2) rfl (nI_1 a) (by decide) rfl (fun ls hl => ?_)
              refine lv_goto (tgt := 2) hx hb dX0_areAlikeAlike_47 (by decide) ?_
              exact ih2  (a + 1) (by omega) (lt_s hq (fun y hy => hp y (by omega))) (by omega) _ (lv_sub hl [1, 2, 0] rfl)
            · skip
              refine lv_aload_n hx hb dX0_areAlikeAlike_18 rfl (lv_at hl 0 rfl) ?_
              refine lv_iload_n hx hb dX0_areAlikeAlike_19 rfl (lv_at hl 2 rfl) ?_
              refine lv_iload_n hx hb dX0_areAlikeAlike_20 rfl (lv_at hl 3 rfl) ?_
              refine kx_cr (v := cmpI (((S.2.1 j).2.2.1) a) (((S.2.1 j).2.2.1) b)) (va_runV (As := [.int (nI a), .int (nI b)]) (rest := []) ⟨hx, hb, hml, hown, hts⟩ (m_X1_compared l dC dI ad S j a b hj ho (by omega) (by omega)) (cwV 2 hts gX0_areAlikeAlike_X1_compared rfl rfl rfl hdX1_compared_2 ⟨Nat.le_of_ble_eq_true rfl, Nat.le_of_ble_eq_true rfl⟩) (hX.preOrd hj) rfl rfl hl.1 rfl (lv_room (Nat.le_of_ble_eq_true rfl)) dX0_areAlikeAlike_21 ⟨Nat.le_of_ble_eq_true rfl, Nat.le_of_ble_eq_true rfl⟩) (fun _ h => h) ?_
              refine kc_if_ne (tgt := 38) hx hb dX0_areAlikeAlike_24 (by decide) (fun k_3 => ?_) (fun k_3 => ?_)
              · skip
                have h1 := k_3
                refine lv_iinc (v := nI (b + 1)) (lv' := [(3, .int (nI (b + 1))), (0, .ref (ad (24 + 5 * j))), (1, .ref (ad (24 + 5 * t))), (2, .int (nI a))]) hx hb dX0_areAlikeAlike_38 hl (k := 3) rfl (nI_1 b) (by decide) rfl (fun ls hl => ?_)
                refine lv_goto (tgt := 12) hx hb dX0_areAlikeAlike_41 (by decide) ?_
                exact ih12  (b + 1) (by omega) (lt_s hp (fun _ h => absurd h h1)) (by omega) _ (lv_sub hl [1, 2, 3, 0] rfl)
              · skip
                have h1 := k_3
                refine lv_aload_n hx hb dX0_areAlikeAlike_27 rfl (lv_at hl 1 rfl) ?_
                refine lv_iload_n hx hb dX0_areAlikeAlike_28 rfl (lv_at hl 2 rfl) ?_
                refine lv_iload_n hx hb dX0_areAlikeAlike_29 rfl (lv_at hl 3 rfl) ?_
                refine kx_cr (v := cmpI (((S.2.1 t).2.2.1) a) (((S.2.1 t).2.2.1) b)) (va_runV (As := [.int (nI a), .int (nI b)]) (rest := []) ⟨hx, hb, hml, hown, hts⟩ (m_X1_compared l dC dI ad S t a b ht ho2 (by omega) (by omega)) (cwV 2 hts gX0_areAlikeAlike_X1_compared rfl rfl rfl hdX1_compared_2 ⟨Nat.le_of_ble_eq_true rfl, Nat.le_of_ble_eq_true rfl⟩) (hX.preOrd ht) rfl rfl hl.1 rfl (lv_room (Nat.le_of_ble_eq_true rfl)) dX0_areAlikeAlike_30 ⟨Nat.le_of_ble_eq_true rfl, Nat.le_of_ble_eq_true rfl⟩) (fun _ h => h) ?_
                refine kc_if_eq (tgt := 38) hx hb dX0_areAlikeAlike_33 (by decide) (fun k_4 => ?_) (fun k_4 => ?_)
                · skip
                  have h2 := k_4
                  refine lv_iinc (v := nI (b + 1)) (lv' := [(3, .int (nI (b + 1))), (0, .ref (ad (24 + 5 * j))), (1, .ref (ad (24 + 5 * t))), (2, .int (nI a))]) hx hb dX0_areAlikeAlike_38 hl (k := 3) rfl (nI_1 b) (by decide) rfl (fun ls hl => ?_)
                  refine lv_goto (tgt := 12) hx hb dX0_areAlikeAlike_41 (by decide) ?_
                  exact ih12  (b + 1) (by omega) (lt_s hp (fun _ _ => h2)) (by omega) _ (lv_sub hl [1, 2, 3, 0] rfl)
                · skip
                  have h2 := k_4
                  refine lv_iconst (v := nI 0) hx hb dX0_areAlikeAlike_36 (by decide) ?_
                  exact W.zret (v := bI false) hx hb hr (bI_narrow _) (fun t9 ht9 hW9 => ⟨_, rfl, (kd_f (fun z => h2 (z a (by omega) b (by omega) (by omega) h1))), ht9⟩) (fun _ h => nomatch h) dX0_areAlikeAlike_37
        exact loop12 (17 + 1) (a + 1) (by omega) (fun y h h2 => absurd h2 (by omega)) (by omega) _ (lv_sub hl [1, 2, 3, 0] rfl)
  exact loop2 (16 + 1) 0 (by omega) (fun x h => absurd h (Nat.not_lt_zero x)) (by omega) _ (lv_sub hl [1, 2, 0] rfl)
set_option maxHeartbeats 4000000 in
set_option maxRecDepth 100000 in
theorem m_X0_isRankOfSome (l : Launch) (dC : Nat → ClassId) (dI : Nat → Nat → Nat) (ad : Nat → Nat) (S : XS) (j k : Nat) (hj : j < 6) (ho : ordOK (S.2.1 j)) (hk : k < 16) : Met l yX0_isRankOfSome wsX0_isRankOfSome ({ frames := 1, cells := 0, slots := 0, locals := 21 } : Room) (va_Pc [.ref (ad (24 + 5 * j)), .int (nI k)] (PX dC dI ad S)) (vp_Si (fun r => r = bI (rankSome (S.2.1 j).2.2.2.1 k))) 0 0 (fun _ => False) := by
  refine Met.ofW (cc := cX0_isRankOfSome) (maxL := 3) (ret := (some .boolean)) pl_X0 rfl ?_
  intro p e s m args below meth c s₁ B hml hv
  obtain ⟨rfl, hPX⟩ := hv
  have hx := B.exec
  have hb := B.bytes
  have hr := B.returns
  have hts := atoms_spec (ws := wsX0_isRankOfSome) B.pre
  have hown : s.vm.findClass RX0 = some m.cls := findClass_of_methodNamed B.named
  have hlocks := B.notSynchronized
  have hX := WX.of hPX
  have hl := lv_entry ([.ref (ad (24 + 5 * j)), .int (nI k)]) (n := 3) (Nat.le_of_ble_eq_true rfl)
  rw [lg_entry_eq]
  generalize (lg_sl ([.ref (ad (24 + 5 * j)), .int (nI k)]) ++ List.replicate (3 - (lg_sl ([.ref (ad (24 + 5 * j)), .int (nI k)])).length) Slot.unset).toArray = ls at hl ⊢
  have hl : lv_has ls 3 [(0, .ref (ad (24 + 5 * j))), (1, .int (nI k))] := hl
  show W p l e ({ frames := 1, cells := 0, slots := 0, locals := 21 } : Room) s m ([.ref (ad (24 + 5 * j)), .int (nI k)]).toArray below meth c s.heap [] 0 0 (MQ below (vp_Si (fun r => r = bI (rankSome (S.2.1 j).2.2.2.1 k))) ([.ref (ad (24 + 5 * j)), .int (nI k)]).toArray s 0 0 (fun _ => False)) (F0 m 0 ls [])
  refine lv_iconst (v := nI 0) hx hb dX0_isRankOfSome_0 (by decide) ?_
  refine lv_istore_n (lv' := [(2, .int (nI 0)), (0, .ref (ad (24 + 5 * j))), (1, .int (nI k))]) hx hb dX0_isRankOfSome_1 rfl hl (by decide) rfl (fun ls hl => ?_)
  have loop2 : ∀ (fuel : Nat) (a : Nat) (ha : a ≤ 16) (hq : ∀ v, v < a → (S.2.1 j).2.2.2.1 v ≠ k), 16 - a < fuel → ∀ ls : Array Slot, lv_has ls 3 [(0, .ref (ad (24 + 5 * j))), (1, .int (nI k)), (2, .int (nI a))] → W p l e ({ frames := 1, cells := 0, slots := 0, locals := 21 } : Room) s m ([.ref (ad (24 + 5 * j)), .int (nI k)]).toArray below meth c s.heap [] 0 0 (MQ below (vp_Si (fun r => r = bI (rankSome (S.2.1 j).2.2.2.1 k))) ([.ref (ad (24 + 5 * j)), .int (nI k)]).toArray s 0 0 (fun _ => False)) (F0 m 2 ls []) := by
    intro fuel
    induction fuel with
    | zero => intro a ha hq hf; exact absurd hf (Nat.not_lt_zero _)
    | succ fuel ih2 =>
      intro a ha hq hf ls hl
      refine lv_iload_n hx hb dX0_isRankOfSome_2 rfl (lv_at hl 2 rfl) ?_
      refine lv_bipush (v := nI 16) hx hb dX0_isRankOfSome_3 (by decide) ?_
      refine kn_icmp_ge (tgt := 25) hx hb (by omega) (by omega) dX0_isRankOfSome_5 (by decide) (fun k_1 => ?_) (fun k_1 => ?_)
      · skip
        refine lv_iconst (v := nI 0) hx hb dX0_isRankOfSome_25 (by decide) ?_
        exact W.zret (v := bI false) hx hb hr (bI_narrow _) (fun t9 ht9 hW9 => ⟨_, rfl, (kd_f (fun ⟨q, h1, h2⟩ => hq q (by omega) h2)), ht9⟩) (fun _ h => nomatch h) dX0_isRankOfSome_26
      · skip
        refine lv_aload_n hx hb dX0_isRankOfSome_8 rfl (lv_at hl 0 rfl) ?_
        refine lv_iload_n hx hb dX0_isRankOfSome_9 rfl (lv_at hl 2 rfl) ?_
        refine kx_cr (v := nI (((S.2.1 j).2.2.2.1) a)) (va_runV (As := [.int (nI a)]) (rest := []) ⟨hx, hb, hml, hown, hts⟩ (m_X1_rankOf l dC dI ad S j a hj (by omega)) (cwV 1 hts gX0_isRankOfSome_X1_rankOf rfl rfl rfl hdX1_rankOf_1 ⟨Nat.le_of_ble_eq_true rfl, Nat.le_of_ble_eq_true rfl⟩) (hX.preOrd hj) rfl rfl hl.1 rfl (lv_room (Nat.le_of_ble_eq_true rfl)) dX0_isRankOfSome_10 ⟨Nat.le_of_ble_eq_true rfl, Nat.le_of_ble_eq_true rfl⟩) (fun _ h => h) ?_
        refine lv_iload_n hx hb dX0_isRankOfSome_13 rfl (lv_at hl 1 rfl) ?_
        have h1 := ho.2.2.1 a (by omega)
        have h2 := rankC_le (codeOf (S.2.1 j).1 (S.2.1 j).2.1 (S.2.1 j).2.2.2.2.1) a
        refine kn_icmp_ne (tgt := 19) hx hb (by omega) (by omega) dX0_isRankOfSome_14 (by decide) (fun k_2 => ?_) (fun k_2 => ?_)
        · skip
          have hc := k_2
          refine lv_iinc (v := nI (a + 1)) (lv' := [(2, .int (nI (a + 1))), (0, .ref (ad (24 + 5 * j))), (1, .int (nI k))]) hx hb dX0_isRankOfSome_19 hl (k := 2) rfl (nI_1 a) (by decide) rfl (fun ls hl => ?_)
          refine lv_goto (tgt := 2) hx hb dX0_isRankOfSome_22 (by decide) ?_
          exact ih2  (a + 1) (by omega) (lt_s hq hc) (by omega) _ (lv_sub hl [1, 2, 0] rfl)
        · skip
          have hc := k_2
          refine lv_iconst (v := nI 1) hx hb dX0_isRankOfSome_17 (by decide) ?_
          exact W.zret (v := bI true) hx hb hr (bI_narrow _) (fun t9 ht9 hW9 => ⟨_, rfl, (kd_t ⟨a, by omega, hc⟩), ht9⟩) (fun _ h => nomatch h) dX0_isRankOfSome_18
  exact loop2 (16 + 1) 0 (by omega) (fun q h => absurd h (Nat.not_lt_zero q)) (by omega) _ (lv_sub hl [1, 2, 0] rfl)
set_option maxHeartbeats 4000000 in
set_option maxRecDepth 100000 in
theorem m_X0_areRanksAsClasses (l : Launch) (dC : Nat → ClassId) (dI : Nat → Nat → Nat) (ad : Nat → Nat) (S : XS) (j : Nat) (hj : j < 6) (ho : ordOK (S.2.1 j)) : Met l yX0_areRanksAsClasses wsX0_areRanksAsClasses ({ frames := 2, cells := 0, slots := 0, locals := 43 } : Room) (va_Pc [.ref (ad 56), .ref (ad (24 + 5 * j))] (PX dC dI ad S)) (vp_Si (fun r => r = bI (decide (cntB (rankSome (S.2.1 j).2.2.2.1) 16 = (S.2.1 j).2.2.2.2.2)))) 0 0 (fun _ => False) := by
  refine Met.ofW (cc := cX0_areRanksAsClasses) (maxL := 4) (ret := (some .boolean)) pl_X0 rfl ?_
  intro p e s m args below meth c s₁ B hml hv
  obtain ⟨rfl, hPX⟩ := hv
  have hx := B.exec
  have hb := B.bytes
  have hr := B.returns
  have hts := atoms_spec (ws := wsX0_areRanksAsClasses) B.pre
  have hown : s.vm.findClass RX0 = some m.cls := findClass_of_methodNamed B.named
  have hlocks := B.notSynchronized
  have hX := WX.of hPX
  have hl := lv_entry ([.ref (ad 56), .ref (ad (24 + 5 * j))]) (n := 4) (Nat.le_of_ble_eq_true rfl)
  rw [lg_entry_eq]
  generalize (lg_sl ([.ref (ad 56), .ref (ad (24 + 5 * j))]) ++ List.replicate (4 - (lg_sl ([.ref (ad 56), .ref (ad (24 + 5 * j))])).length) Slot.unset).toArray = ls at hl ⊢
  have hl : lv_has ls 4 [(0, .ref (ad 56)), (1, .ref (ad (24 + 5 * j)))] := hl
  show W p l e ({ frames := 2, cells := 0, slots := 0, locals := 43 } : Room) s m ([.ref (ad 56), .ref (ad (24 + 5 * j))]).toArray below meth c s.heap [] 0 0 (MQ below (vp_Si (fun r => r = bI (decide (cntB (rankSome (S.2.1 j).2.2.2.1) 16 = (S.2.1 j).2.2.2.2.2)))) ([.ref (ad 56), .ref (ad (24 + 5 * j))]).toArray s 0 0 (fun _ => False)) (F0 m 0 ls [])
  have hcl : (S.2.1 j).2.2.2.2.2 ≤ 16 := by rw [ho.2.2.2]; exact classC_le _
  refine lv_iconst (v := nI 0) hx hb dX0_areRanksAsClasses_0 (by decide) ?_
  refine lv_istore_n (lv' := [(2, .int (nI 0)), (0, .ref (ad 56)), (1, .ref (ad (24 + 5 * j)))]) hx hb dX0_areRanksAsClasses_1 rfl hl (by decide) rfl (fun ls hl => ?_)
  refine lv_iconst (v := nI 0) hx hb dX0_areRanksAsClasses_2 (by decide) ?_
  refine lv_istore_n (lv' := [(3, .int (nI 0)), (2, .int (nI 0)), (0, .ref (ad 56)), (1, .ref (ad (24 + 5 * j)))]) hx hb dX0_areRanksAsClasses_3 rfl hl (by decide) rfl (fun ls hl => ?_)
  have loop4 : ∀ (fuel : Nat) (q k : Nat) (hk : k ≤ 16) (hq : q = cntB (rankSome (S.2.1 j).2.2.2.1) k), 16 - k < fuel → ∀ ls : Array Slot, lv_has ls 4 [(0, .ref (ad 56)), (1, .ref (ad (24 + 5 * j))), (2, .int (nI q)), (3, .int (nI k))] → W p l e ({ frames := 2, cells := 0, slots := 0, locals := 43 } : Room) s m ([.ref (ad 56), .ref (ad (24 + 5 * j))]).toArray below meth c s.heap [] 0 0 (MQ below (vp_Si (fun r => r = bI (decide (cntB (rankSome (S.2.1 j).2.2.2.1) 16 = (S.2.1 j).2.2.2.2.2)))) ([.ref (ad 56), .ref (ad (24 + 5 * j))]).toArray s 0 0 (fun _ => False)) (F0 m 4 ls []) := by
    intro fuel
    induction fuel with
    | zero => intro q k hk hq hf; exact absurd hf (Nat.not_lt_zero _)
    | succ fuel ih4 =>
      intro q k hk hq hf ls hl
      refine lv_iload_n hx hb dX0_areRanksAsClasses_4 rfl (lv_at hl 3 rfl) ?_
      refine lv_bipush (v := nI 16) hx hb dX0_areRanksAsClasses_5 (by decide) ?_
      refine kn_icmp_ge (tgt := 27) hx hb (by omega) (by omega) dX0_areRanksAsClasses_7 (by decide) (fun k_1 => ?_) (fun k_1 => ?_)
      · skip
        refine lv_iload_n hx hb dX0_areRanksAsClasses_27 rfl (lv_at hl 2 rfl) ?_
        refine lv_aload_n hx hb dX0_areRanksAsClasses_28 rfl (lv_at hl 1 rfl) ?_
        refine kx_cr (v := nI ((S.2.1 j).2.2.2.2.2)) (va_runV (As := []) (rest := [.int (nI q)]) ⟨hx, hb, hml, hown, hts⟩ (m_X1_classCount l dC dI ad S j  hj) (cwV 0 hts gX0_areRanksAsClasses_X1_classCount rfl rfl rfl hdX1_classCount_0 ⟨Nat.le_of_ble_eq_true rfl, Nat.le_of_ble_eq_true rfl⟩) (hX.preOrd hj) rfl rfl hl.1 rfl (lv_room (Nat.le_of_ble_eq_true rfl)) dX0_areRanksAsClasses_29 ⟨Nat.le_of_ble_eq_true rfl, Nat.le_of_ble_eq_true rfl⟩) (fun _ h => h) ?_
        have h9 := cntB_le (rankSome (S.2.1 j).2.2.2.1) k
        refine kn_icmp_ne (tgt := 39) hx hb (by omega) (by omega) dX0_areRanksAsClasses_32 (by decide) (fun k_2 => ?_) (fun k_2 => ?_)
        · skip
          have hd := k_2
          refine lv_iconst (v := bI false) hx hb dX0_areRanksAsClasses_39 (by decide) ?_
          exact W.zret (v := bI false) hx hb hr (bI_narrow _) (fun t9 ht9 hW9 => ⟨_, rfl, (kd_f (by rw [show (16 : Nat) = k by omega, ← hq]; exact hd)), ht9⟩) (fun _ h => nomatch h) dX0_areRanksAsClasses_40
        · skip
          have hd := k_2
          refine lv_iconst (v := bI true) hx hb dX0_areRanksAsClasses_35 (by decide) ?_
          refine lv_goto (tgt := 40) hx hb dX0_areRanksAsClasses_36 (by decide) ?_
          exact W.zret (v := bI true) hx hb hr (bI_narrow _) (fun t9 ht9 hW9 => ⟨_, rfl, (kd_t (by rw [show (16 : Nat) = k by omega, ← hq]; exact hd)), ht9⟩) (fun _ h => nomatch h) dX0_areRanksAsClasses_40
      · skip
        refine lv_aload_n hx hb dX0_areRanksAsClasses_10 rfl (lv_at hl 1 rfl) ?_
        refine lv_iload_n hx hb dX0_areRanksAsClasses_11 rfl (lv_at hl 3 rfl) ?_
        refine kx_cr (v := bI (rankSome (S.2.1 j).2.2.2.1 k)) (va_runS (As := [.ref (ad (24 + 5 * j)), .int (nI k)]) (rest := []) ⟨hx, hb, hml, hown, hts⟩ (m_X0_isRankOfSome l dC dI ad S j k hj ho (by omega)) (va_cwS 2 hts gX0_areRanksAsClasses_X0_isRankOfSome rfl rfl rfl hdX0_isRankOfSome_2.2 ⟨Nat.le_of_ble_eq_true rfl, Nat.le_of_ble_eq_true rfl⟩) hX.preS rfl rfl hl.1 rfl (lv_room (Nat.le_of_ble_eq_true rfl)) dX0_areRanksAsClasses_12 ⟨Nat.le_of_ble_eq_true rfl, Nat.le_of_ble_eq_true rfl⟩) (fun _ h => h) ?_
        refine kb_if_eq (tgt := 21) hx hb dX0_areRanksAsClasses_15 (by decide) (fun k_3 => ?_) (fun k_3 => ?_)
        · skip
          have hc := k_3
          refine lv_iinc (v := nI (k + 1)) (lv' := [(3, .int (nI (k + 1))), (0, .ref (ad 56)), (1, .ref (ad (24 + 5 * j))), (2, .int (nI q))]) hx hb dX0_areRanksAsClasses_21 hl (k := 3) rfl (nI_1 k) (by decide) rfl (fun ls hl => ?_)
          refine lv_goto (tgt := 4) hx hb dX0_areRanksAsClasses_24 (by decide) ?_
          exact ih4  q (k + 1) (by omega) (by rw [cntB_f hc, hq]) (by omega) _ (lv_sub hl [1, 2, 3, 0] rfl)
        · skip
          have hc := k_3
          refine lv_iinc (v := nI (q + 1)) (lv' := [(2, .int (nI (q + 1))), (0, .ref (ad 56)), (1, .ref (ad (24 + 5 * j))), (3, .int (nI k))]) hx hb dX0_areRanksAsClasses_18 hl (k := 2) rfl (nI_1 q) (by decide) rfl (fun ls hl => ?_)
          refine lv_iinc (v := nI (k + 1)) (lv' := [(3, .int (nI (k + 1))), (2, .int (nI (q + 1))), (0, .ref (ad 56)), (1, .ref (ad (24 + 5 * j)))]) hx hb dX0_areRanksAsClasses_21 hl (k := 3) rfl (nI_1 k) (by decide) rfl (fun ls hl => ?_)
          refine lv_goto (tgt := 4) hx hb dX0_areRanksAsClasses_24 (by decide) ?_
          exact ih4  (q + 1) (k + 1) (by omega) (by rw [cntB_t hc, hq]) (by omega) _ (lv_sub hl [2, 3, 1, 0] rfl)
  exact loop4 (16 + 1) 0 0 (by omega) rfl (by omega) _ (lv_sub hl [2, 3, 1, 0] rfl)
set_option maxHeartbeats 4000000 in
set_option maxRecDepth 100000 in
theorem m_X0_areSignsTurned (l : Launch) (dC : Nat → ClassId) (dI : Nat → Nat → Nat) (ad : Nat → Nat) (S : XS) (j : Nat) (hj : j < 6) (ho : ordOK (S.2.1 j)) : Met l yX0_areSignsTurned wsX0_areSignsTurned ({ frames := 1, cells := 0, slots := 0, locals := 26 } : Room) (va_Pc [.ref (ad 56), .ref (ad (24 + 5 * j))] (PX dC dI ad S)) (vp_Si (fun r => r = bI true)) 0 0 (fun _ => False) := by
  refine Met.ofW (cc := cX0_areSignsTurned) (maxL := 4) (ret := (some .boolean)) pl_X0 rfl ?_
  intro p e s m args below meth c s₁ B hml hv
  obtain ⟨rfl, hPX⟩ := hv
  have hx := B.exec
  have hb := B.bytes
  have hr := B.returns
  have hts := atoms_spec (ws := wsX0_areSignsTurned) B.pre
  have hown : s.vm.findClass RX0 = some m.cls := findClass_of_methodNamed B.named
  have hlocks := B.notSynchronized
  have hX := WX.of hPX
  have hl := lv_entry ([.ref (ad 56), .ref (ad (24 + 5 * j))]) (n := 4) (Nat.le_of_ble_eq_true rfl)
  rw [lg_entry_eq]
  generalize (lg_sl ([.ref (ad 56), .ref (ad (24 + 5 * j))]) ++ List.replicate (4 - (lg_sl ([.ref (ad 56), .ref (ad (24 + 5 * j))])).length) Slot.unset).toArray = ls at hl ⊢
  have hl : lv_has ls 4 [(0, .ref (ad 56)), (1, .ref (ad (24 + 5 * j)))] := hl
  show W p l e ({ frames := 1, cells := 0, slots := 0, locals := 26 } : Room) s m ([.ref (ad 56), .ref (ad (24 + 5 * j))]).toArray below meth c s.heap [] 0 0 (MQ below (vp_Si (fun r => r = bI true)) ([.ref (ad 56), .ref (ad (24 + 5 * j))]).toArray s 0 0 (fun _ => False)) (F0 m 0 ls [])
  refine lv_iconst (v := nI 0) hx hb dX0_areSignsTurned_0 (by decide) ?_
  refine lv_istore_n (lv' := [(2, .int (nI 0)), (0, .ref (ad 56)), (1, .ref (ad (24 + 5 * j)))]) hx hb dX0_areSignsTurned_1 rfl hl (by decide) rfl (fun ls hl => ?_)
  have loop2 : ∀ (fuel : Nat) (a : Nat) (ha : a ≤ 16), 16 - a < fuel → ∀ ls : Array Slot, lv_has ls 4 [(0, .ref (ad 56)), (1, .ref (ad (24 + 5 * j))), (2, .int (nI a))] → W p l e ({ frames := 1, cells := 0, slots := 0, locals := 26 } : Room) s m ([.ref (ad 56), .ref (ad (24 + 5 * j))]).toArray below meth c s.heap [] 0 0 (MQ below (vp_Si (fun r => r = bI true)) ([.ref (ad 56), .ref (ad (24 + 5 * j))]).toArray s 0 0 (fun _ => False)) (F0 m 2 ls []) := by
    intro fuel
    induction fuel with
    | zero => intro a ha hf; exact absurd hf (Nat.not_lt_zero _)
    | succ fuel ih2 =>
      intro a ha hf ls hl
      refine lv_iload_n hx hb dX0_areSignsTurned_2 rfl (lv_at hl 2 rfl) ?_
      refine lv_bipush (v := nI 16) hx hb dX0_areSignsTurned_3 (by decide) ?_
      refine kn_icmp_ge (tgt := 46) hx hb (by omega) (by omega) dX0_areSignsTurned_5 (by decide) (fun k_1 => ?_) (fun k_1 => ?_)
      · skip
        refine lv_iconst (v := nI 1) hx hb dX0_areSignsTurned_46 (by decide) ?_
        exact W.zret (v := bI true) hx hb hr (bI_narrow _) (fun t9 ht9 hW9 => ⟨_, rfl, rfl, ht9⟩) (fun _ h => nomatch h) dX0_areSignsTurned_47
      · skip
        refine lv_iconst (v := nI 0) hx hb dX0_areSignsTurned_8 (by decide) ?_
        refine lv_istore_n (lv' := [(3, .int (nI 0)), (0, .ref (ad 56)), (1, .ref (ad (24 + 5 * j))), (2, .int (nI a))]) hx hb dX0_areSignsTurned_9 rfl hl (by decide) rfl (fun ls hl => ?_)
        have loop10 : ∀ (fuel : Nat) (b : Nat) (hb3 : b ≤ 16), 16 - b < fuel → ∀ ls : Array Slot, lv_has ls 4 [(0, .ref (ad 56)), (1, .ref (ad (24 + 5 * j))), (2, .int (nI a)), (3, .int (nI b))] → W p l e ({ frames := 1, cells := 0, slots := 0, locals := 26 } : Room) s m ([.ref (ad 56), .ref (ad (24 + 5 * j))]).toArray below meth c s.heap [] 0 0 (MQ below (vp_Si (fun r => r = bI true)) ([.ref (ad 56), .ref (ad (24 + 5 * j))]).toArray s 0 0 (fun _ => False)) (F0 m 10 ls []) := by
          intro fuel
          induction fuel with
          | zero => intro b hb3 hf; exact absurd hf (Nat.not_lt_zero _)
          | succ fuel ih10 =>
            intro b hb3 hf ls hl
            refine lv_iload_n hx hb dX0_areSignsTurned_10 rfl (lv_at hl 3 rfl) ?_
            refine lv_bipush (v := nI 16) hx hb dX0_areSignsTurned_11 (by decide) ?_
            refine kn_icmp_ge (tgt := 40) hx hb (by omega) (by omega) dX0_areSignsTurned_13 (by decide) (fun k_2 => ?_) (fun k_2 => ?_)
            · skip
              refine lv_iinc (v := nI (a + 1)) (lv' := [(2, .int (nI (a + 1))), (0, .ref (ad 56)), (1, .ref (ad (24 + 5 * j))), (3, .int (nI b))]) hx hb dX0_areSignsTurned_40 hl (k := 2) rfl (nI_1 a) (by decide) rfl (fun ls hl => ?_)
              refine lv_goto (tgt := 2) hx hb dX0_areSignsTurned_43 (by decide) ?_
              exact ih2  (a + 1) (by omega) (by omega) _ (lv_sub hl [1, 2, 0] rfl)
            · skip
              refine lv_aload_n hx hb dX0_areSignsTurned_16 rfl (lv_at hl 1 rfl) ?_
              refine lv_iload_n hx hb dX0_areSignsTurned_17 rfl (lv_at hl 2 rfl) ?_
              refine lv_iload_n hx hb dX0_areSignsTurned_18 rfl (lv_at hl 3 rfl) ?_
              refine kx_cr (v := cmpI (((S.2.1 j).2.2.1) a) (((S.2.1 j).2.2.1) b)) (va_runV (As := [.int (nI a), .int (nI b)]) (rest := []) ⟨hx, hb, hml, hown, hts⟩ (m_X1_compared l dC dI ad S j a b hj ho (by omega) (by omega)) (cwV 2 hts gX0_areSignsTurned_X1_compared rfl rfl rfl hdX1_compared_2 ⟨Nat.le_of_ble_eq_true rfl, Nat.le_of_ble_eq_true rfl⟩) (hX.preOrd hj) rfl rfl hl.1 rfl (lv_room (Nat.le_of_ble_eq_true rfl)) dX0_areSignsTurned_19 ⟨Nat.le_of_ble_eq_true rfl, Nat.le_of_ble_eq_true rfl⟩) (fun _ h => h) ?_
              refine lv_aload_n hx hb dX0_areSignsTurned_22 rfl (lv_at hl 1 rfl) ?_
              refine lv_iload_n hx hb dX0_areSignsTurned_23 rfl (lv_at hl 3 rfl) ?_
              refine lv_iload_n hx hb dX0_areSignsTurned_24 rfl (lv_at hl 2 rfl) ?_
              refine kx_cr (v := cmpI (((S.2.1 j).2.2.1) b) (((S.2.1 j).2.2.1) a)) (va_runV (As := [.int (nI b), .int (nI a)]) (rest := [.int (cmpI (((S.2.1 j).2.2.1) a) (((S.2.1 j).2.2.1) b))]) ⟨hx, hb, hml, hown, hts⟩ (m_X1_compared l dC dI ad S j b a hj ho (by omega) (by omega)) (cwV 2 hts gX0_areSignsTurned_X1_compared rfl rfl rfl hdX1_compared_2 ⟨Nat.le_of_ble_eq_true rfl, Nat.le_of_ble_eq_true rfl⟩) (hX.preOrd hj) rfl rfl hl.1 rfl (lv_room (Nat.le_of_ble_eq_true rfl)) dX0_areSignsTurned_25 ⟨Nat.le_of_ble_eq_true rfl, Nat.le_of_ble_eq_true rfl⟩) (fun _ h => h) ?_
              refine lv_ineg hx hb dX0_areSignsTurned_28 ?_
              refine lv_icmp_eq (tgt := 34) hx hb dX0_areSignsTurned_29 (by decide) (fun k_3 => ?_) (fun k_3 => absurd (cmpI_neg _ _).symm k_3)
              refine lv_iinc (v := nI (b + 1)) (lv' := [(3, .int (nI (b + 1))), (0, .ref (ad 56)), (1, .ref (ad (24 + 5 * j))), (2, .int (nI a))]) hx hb dX0_areSignsTurned_34 hl (k := 3) rfl (nI_1 b) (by decide) rfl (fun ls hl => ?_)
              refine lv_goto (tgt := 10) hx hb dX0_areSignsTurned_37 (by decide) ?_
              exact ih10  (b + 1) (by omega) (by omega) _ (lv_sub hl [1, 2, 3, 0] rfl)
        exact loop10 (16 + 1) 0 (by omega) (by omega) _ (lv_sub hl [1, 2, 3, 0] rfl)
  exact loop2 (16 + 1) 0 (by omega) (by omega) _ (lv_sub hl [1, 2, 0] rfl)
end
section
/-! what the auditor leaves as it was -/
def InvX (S : XS) : Prop := (∀ i, i < 8 → rowOK (S.1 i)) ∧ ∀ j, j < 6 → ordOK (S.2.1 j)
def KA (S S1 : XS) : Prop := InvX S1 ∧ S1.2.2 = S.2.2 ∧ (∀ k, k < 5 → S1.1 k = S.1 k) ∧ ∀ k, k < 5 → S1.2.1 k = S.2.1 k
theorem KA_refl {S : XS} (h : InvX S) : KA S S := ⟨h, rfl, fun _ _ => rfl, fun _ _ => rfl⟩
theorem KA_trans {S S1 S2 : XS} (h : KA S S1) (h2 : KA S1 S2) : KA S S2 := ⟨h2.1, h2.2.1.trans h.2.1, fun k hk => (h2.2.2.1 k hk).trans (h.2.2.1 k hk), fun k hk => (h2.2.2.2 k hk).trans (h.2.2.2 k hk)⟩
theorem InvX_row {S : XS} (h : InvX S) {i : Nat} {r : RowS} (hr : rowOK r) : InvX (xR S i r) :=
  ⟨fun k hk => by
    by_cases e : k = i
    · subst e; rw [xR_row]; exact hr
    · rw [xR_ne _ _ e]; exact h.1 k hk, h.2⟩
theorem InvX_ord {S : XS} (h : InvX S) {j : Nat} {o : OrdS} (ho : ordOK o) : InvX (xO S j o) :=
  ⟨h.1, fun k hk => by
    by_cases e : k = j
    · subst e; rw [xO_ord]; exact ho
    · rw [xO_ne _ _ e]; exact h.2 k hk⟩
theorem KA_row {S S1 : XS} (h : KA S S1) {i : Nat} (h1 : 5 ≤ i) (h2 : i < 8) {r : RowS} (hr : rowOK r) : KA S (xR S1 i r) :=
  ⟨InvX_row h.1 hr, h.2.1, fun k hk => by rw [xR_ne _ _ (by omega)]; exact h.2.2.1 k hk, h.2.2.2⟩
theorem KA_ord {S S1 : XS} (h : KA S S1) {o : OrdS} (ho : ordOK o) : KA S (xO S1 5 o) :=
  ⟨InvX_ord h.1 ho, h.2.1, h.2.2.1, fun k hk => by rw [xO_ne _ _ (by omega)]; exact h.2.2.2 k hk⟩
theorem KA_arr {S S1 S2 : XS} (h : KA S S1) {i : Nat} (hk : keepR S1 S2 i (3 + 2 * 1)) (h1 : 5 < i) (h2 : i < 8) : KA S S2 :=
  ⟨⟨fun k hk8 => by
      by_cases e : k = i
      · subst e; exact hk.2.2.2.1
      · by_cases e2 : k = 5
        · subst e2; exact hk.2.2.1
        · rw [hk.2.1 k e e2]; exact h.1.1 k hk8, fun k hk6 => by rw [hk.1]; exact h.1.2 k hk6⟩,
    by rw [hk.1]; exact h.2.1, fun k hk5 => by rw [hk.2.1 k (by omega) (by omega)]; exact h.2.2.1 k hk5, fun k hk5 => by rw [hk.1]; exact h.2.2.2 k hk5⟩
theorem rowOK_rev {r : RowS} (h : rowOK r) : rowOK (rev r.1 r.2.2 r.2.2, rev r.2.1 r.2.2 r.2.2, r.2.2) :=
  ⟨h.1, fun k hk => by
    have hn := h.1
    dsimp only
    unfold rev
    split
    · exact h.2 _ (by omega)
    · exact h.2 k hk⟩
theorem rowOK_all {r : RowS} (h : rowOK r) : rowOK (ovl (fun k => k) r.1 16, ovl (fun k => k) r.2.1 16, 16) :=
  ⟨Nat.le_refl _, fun k hk => by
    dsimp only
    rw [ovl_in hk, ovl_in hk]
    omega⟩
theorem rowOK_rem {r : RowS} (h : rowOK r) {q : Nat} (hq : q < r.2.2) : rowOK (shl r.1 q (r.2.2 - 1), shl r.2.1 q (r.2.2 - 1), r.2.2 - 1) := by
  have hn := h.1
  refine ⟨Nat.le_trans (Nat.sub_le _ _) hn, fun k hk => ?_⟩
  dsimp only
  unfold shl
  split
  · exact h.2 _ (by omega)
  · exact h.2 k hk
theorem ordOK.cls {o : OrdS} (h : ordOK o) : o.2.2.2.2.2 ≤ 16 := by rw [h.2.2.2]; exact classC_le _
theorem ordOK.rnk {o : OrdS} (h : ordOK o) {v : Nat} (hv : v < 16) : o.2.2.2.1 v ≤ 16 := by rw [h.2.2.1 v hv]; exact rankC_le _ _
set_option maxHeartbeats 4000000 in
set_option maxRecDepth 100000 in
theorem m_X0_isFinerBySorting (l : Launch) (dC : Nat → ClassId) (dI : Nat → Nat → Nat) (ad : Nat → Nat) (S : XS) (j t : Nat) (hj : j < 5) (ht : t < 5) (hI : InvX S) : Met l yX0_isFinerBySorting wsX0_isFinerBySorting ({ frames := 3, cells := 0, slots := 0, locals := 73 } : Room) (va_Pc [.ref (ad 56), .ref (ad (24 + 5 * j)), .ref (ad (24 + 5 * t))] (PX dC dI ad S)) (va_Qi (fun r S' => (∃ z, r = bI z) ∧ KA S S') (PX dC dI ad) (AX ad)) 0 0 (AX ad) := by
  refine Met.ofW (cc := cX0_isFinerBySorting) (maxL := 3) (ret := (some .boolean)) pl_X0 rfl ?_
  intro p e s m args below meth c s₁ B hml hv
  obtain ⟨rfl, hPX⟩ := hv
  have hx := B.exec
  have hb := B.bytes
  have hr := B.returns
  have hts := atoms_spec (ws := wsX0_isFinerBySorting) B.pre
  have hown : s.vm.findClass RX0 = some m.cls := findClass_of_methodNamed B.named
  have hlocks := B.notSynchronized
  have hin0 : ∀ w ∈ u_ws RX0 TX0 4, w ∈ wsX0_isFinerBySorting := tu 1325 (by decide +kernel) rfl
  have hX := WX.of hPX
  have hl := lv_entry ([.ref (ad 56), .ref (ad (24 + 5 * j)), .ref (ad (24 + 5 * t))]) (n := 3) (Nat.le_of_ble_eq_true rfl)
  rw [lg_entry_eq]
  generalize (lg_sl ([.ref (ad 56), .ref (ad (24 + 5 * j)), .ref (ad (24 + 5 * t))]) ++ List.replicate (3 - (lg_sl ([.ref (ad 56), .ref (ad (24 + 5 * j)), .ref (ad (24 + 5 * t))])).length) Slot.unset).toArray = ls at hl ⊢
  have hl : lv_has ls 3 [(0, .ref (ad 56)), (1, .ref (ad (24 + 5 * j))), (2, .ref (ad (24 + 5 * t)))] := hl
  show W p l e ({ frames := 3, cells := 0, slots := 0, locals := 73 } : Room) s m ([.ref (ad 56), .ref (ad (24 + 5 * j)), .ref (ad (24 + 5 * t))]).toArray below meth c s.heap [] 0 0 (MQ below (va_Qi (fun r S' => (∃ z, r = bI z) ∧ KA S S') (PX dC dI ad) (AX ad)) ([.ref (ad 56), .ref (ad (24 + 5 * j)), .ref (ad (24 + 5 * t))]).toArray s 0 0 (AX ad)) (F0 m 0 ls [])
  have hK := KA_refl hI
  have h6 : (S.1 6).2.2 = (S.1 6).2.2 := rfl
  have h7 : (S.1 7).2.2 = (S.1 7).2.2 := rfl
  refine lv_aload_n hx hb dX0_isFinerBySorting_0 rfl (lv_at hl 0 rfl) ?_
  refine ka_gl hx hb hts hin0 hown hX (hts (.fieldLink RX0 21 "Orderlattice$Auditor" "left" "LOrderlattice$Row;") (tm 10 (by decide +kernel) rfl)) dX0_isFinerBySorting_1 ?_
  refine kx_cv (va_runV (As := []) (rest := []) ⟨hx, hb, hml, hown, hts⟩ (m_X2_becomeAllValues l dC dI ad S 6 (by omega)) (cwV 0 hts gX0_isFinerBySorting_X2_becomeAllValues rfl rfl rfl hdX2_becomeAllValues_0 ⟨Nat.le_of_ble_eq_true rfl, Nat.le_of_ble_eq_true rfl⟩) (hX.preRow (by omega)) rfl rfl hl.1 rfl (lv_room (Nat.le_of_ble_eq_true rfl)) dX0_isFinerBySorting_4 ⟨Nat.le_of_ble_eq_true rfl, Nat.le_of_ble_eq_true rfl⟩) hX (fun _ h => h) (fun S_1 H locs hw hX => ?_)
  replace h6 := (show (S_1.1 6).2.2 = 16 by rw [hw, xR_row])
  replace h7 := (show (S_1.1 7).2.2 = (S.1 7).2.2 by rw [hw, xR_ne _ _ (by decide)]).trans h7
  replace hK := (show KA S S_1 by rw [hw]; exact KA_row hK (by decide) (by decide) (rowOK_all (hK.1.1 6 (by omega))))
  clear hw
  refine lv_aload_n hx hb dX0_isFinerBySorting_7 rfl (lv_at hl 0 rfl) ?_
  refine ka_gs hx hb hts hin0 hown hX (hts (.fieldLink RX0 12 "Orderlattice$Auditor" "sorter" "LOrderlattice$Sorter;") (tm 6 (by decide +kernel) rfl)) dX0_isFinerBySorting_8 ?_
  refine lv_aload_n hx hb dX0_isFinerBySorting_11 rfl (lv_at hl 0 rfl) ?_
  refine ka_gl hx hb hts hin0 hown hX (hts (.fieldLink RX0 21 "Orderlattice$Auditor" "left" "LOrderlattice$Row;") (tm 10 (by decide +kernel) rfl)) dX0_isFinerBySorting_12 ?_
  refine lv_aload_n hx hb dX0_isFinerBySorting_15 rfl (lv_at hl 1 rfl) ?_
  refine lv_iconst (v := nI 0) hx hb dX0_isFinerBySorting_16 (by decide) ?_
  refine lv_aload_n hx hb dX0_isFinerBySorting_17 rfl (lv_at hl 0 rfl) ?_
  refine ka_gl hx hb hts hin0 hown hX (hts (.fieldLink RX0 21 "Orderlattice$Auditor" "left" "LOrderlattice$Row;") (tm 10 (by decide +kernel) rfl)) dX0_isFinerBySorting_18 ?_
  refine kx_cr (v := nI 16) (va_runV (As := []) (rest := [.int (nI 0), .ref (ad (24 + 5 * j)), .ref (ad (3 * 6)), .ref (ad (54 + 1))]) ⟨hx, hb, hml, hown, hts⟩ (m_X2_length l dC dI ad S_1 6 (by omega)) (cwV 0 hts gX0_isFinerBySorting_X2_length rfl rfl rfl hdX2_length_0 ⟨Nat.le_of_ble_eq_true rfl, Nat.le_of_ble_eq_true rfl⟩) (hX.preRow (by omega)) rfl rfl hl.1 rfl (lv_room (Nat.le_of_ble_eq_true rfl)) dX0_isFinerBySorting_21 ⟨Nat.le_of_ble_eq_true rfl, Nat.le_of_ble_eq_true rfl⟩) (fun _ h => by rw [h, h6]) ?_
  refine kx_cv (va_runV (As := [.ref (ad (3 * 6)), .ref (ad (24 + 5 * j)), .int (nI 0), .int (nI 16)]) (rest := []) ⟨hx, hb, hml, hown, hts⟩ (m_X3_insertEach l dC dI ad S_1 1 6 j 0 16 (by decide) (by omega) (by omega) (hK.1.1 6 (by omega)) (hK.1.2 j (by omega)) (Nat.zero_le _) (Nat.le_of_eq h6.symm)) (cwV 4 hts gX0_isFinerBySorting_X3_insertEach rfl rfl rfl hdX3_insertEach_4 ⟨Nat.le_of_ble_eq_true rfl, Nat.le_of_ble_eq_true rfl⟩) (hX.preSor (by omega)) rfl rfl hl.1 rfl (lv_room (Nat.le_of_ble_eq_true rfl)) dX0_isFinerBySorting_24 ⟨Nat.le_of_ble_eq_true rfl, Nat.le_of_ble_eq_true rfl⟩) hX (fun _ h => h) (fun S_2 H locs hw hX => ?_)
  obtain ⟨r2, hw, hr2⟩ := hw
  replace h6 := (show (S_2.1 6).2.2 = (S_1.1 6).2.2 by rw [hw, xR_row]; exact hr2.2).trans h6
  replace h7 := (show (S_2.1 7).2.2 = (S_1.1 7).2.2 by rw [hw, xR_ne _ _ (by decide)]).trans h7
  replace hK := (show KA S S_2 by rw [hw]; exact KA_row hK (by decide) (by decide) hr2.1)
  clear hw
  refine lv_aload_n hx hb dX0_isFinerBySorting_27 rfl (lv_at hl 0 rfl) ?_
  refine ka_gl hx hb hts hin0 hown hX (hts (.fieldLink RX0 21 "Orderlattice$Auditor" "left" "LOrderlattice$Row;") (tm 10 (by decide +kernel) rfl)) dX0_isFinerBySorting_28 ?_
  refine lv_aload_n hx hb dX0_isFinerBySorting_31 rfl (lv_at hl 2 rfl) ?_
  refine kx_cr (v := bI (seqB (S_2.2.1 t).2.2.1 (S_2.1 6).1 (S_2.1 6).2.2)) (va_runV (As := [.ref (ad (24 + 5 * t))]) (rest := []) ⟨hx, hb, hml, hown, hts⟩ (m_X2_isInSequenceBy l dC dI ad S_2 6 t (by omega) (by omega) (hK.1.1 6 (by omega)) (hK.1.2 t (by omega))) (cwV 1 hts gX0_isFinerBySorting_X2_isInSequenceBy rfl rfl rfl hdX2_isInSequenceBy_1 ⟨Nat.le_of_ble_eq_true rfl, Nat.le_of_ble_eq_true rfl⟩) (hX.preRow (by omega)) rfl rfl hl.1 rfl (lv_room (Nat.le_of_ble_eq_true rfl)) dX0_isFinerBySorting_32 ⟨Nat.le_of_ble_eq_true rfl, Nat.le_of_ble_eq_true rfl⟩) (fun _ h => h) ?_
  refine kb_if_eq (tgt := 50) hx hb dX0_isFinerBySorting_35 (by decide) (fun k_3 => ?_) (fun k_3 => ?_)
  · skip
    refine lv_iconst (v := bI false) hx hb dX0_isFinerBySorting_50 (by decide) ?_
    exact W.zret (v := bI false) hx hb hr (bI_narrow _) (fun t9 ht9 hW9 => ⟨⟨_, S_2, rfl, ⟨⟨_, rfl⟩, hK⟩, hX.P ht9 hW9⟩, hX.2.2.2.F ht9⟩) hX.2.2.2.2.2 dX0_isFinerBySorting_51
  · skip
    refine lv_aload_n hx hb dX0_isFinerBySorting_38 rfl (lv_at hl 1 rfl) ?_
    refine lv_aload_n hx hb dX0_isFinerBySorting_39 rfl (lv_at hl 2 rfl) ?_
    refine kx_cr (v := bI (alikeB (S_2.2.1 j).2.2.1 (S_2.2.1 t).2.2.1)) (va_runS (As := [.ref (ad (24 + 5 * j)), .ref (ad (24 + 5 * t))]) (rest := []) ⟨hx, hb, hml, hown, hts⟩ (m_X0_areAlikeAlike l dC dI ad S_2 j t (by omega) (by omega) (hK.1.2 j (by omega)) (hK.1.2 t (by omega))) (va_cwS 2 hts gX0_isFinerBySorting_X0_areAlikeAlike rfl rfl rfl hdX0_areAlikeAlike_2.2 ⟨Nat.le_of_ble_eq_true rfl, Nat.le_of_ble_eq_true rfl⟩) hX.preS rfl rfl hl.1 rfl (lv_room (Nat.le_of_ble_eq_true rfl)) dX0_isFinerBySorting_40 ⟨Nat.le_of_ble_eq_true rfl, Nat.le_of_ble_eq_true rfl⟩) (fun _ h => h) ?_
    refine kb_if_eq (tgt := 50) hx hb dX0_isFinerBySorting_43 (by decide) (fun k_4 => ?_) (fun k_4 => ?_)
    · skip
      refine lv_iconst (v := bI false) hx hb dX0_isFinerBySorting_50 (by decide) ?_
      exact W.zret (v := bI false) hx hb hr (bI_narrow _) (fun t9 ht9 hW9 => ⟨⟨_, S_2, rfl, ⟨⟨_, rfl⟩, hK⟩, hX.P ht9 hW9⟩, hX.2.2.2.F ht9⟩) hX.2.2.2.2.2 dX0_isFinerBySorting_51
    · skip
      refine lv_iconst (v := bI true) hx hb dX0_isFinerBySorting_46 (by decide) ?_
      refine lv_goto (tgt := 51) hx hb dX0_isFinerBySorting_47 (by decide) ?_
      exact W.zret (v := bI true) hx hb hr (bI_narrow _) (fun t9 ht9 hW9 => ⟨⟨_, S_2, rfl, ⟨⟨_, rfl⟩, hK⟩, hX.P ht9 hW9⟩, hX.2.2.2.F ht9⟩) hX.2.2.2.2.2 dX0_isFinerBySorting_51
set_option maxHeartbeats 4000000 in
set_option maxRecDepth 100000 in
theorem m_X0_isRefiningSound (l : Launch) (dC : Nat → ClassId) (dI : Nat → Nat → Nat) (ad : Nat → Nat) (S : XS) (j t : Nat) (hj : j < 5) (ht : t < 5) (hI : InvX S) (h5j : (S.2.1 j).2.2.2.2.1 ≤ 5) (h5t : (S.2.1 t).2.2.2.2.1 ≤ 5) : Met l yX0_isRefiningSound wsX0_isRefiningSound ({ frames := 4, cells := 0, slots := 0, locals := 95 } : Room) (va_Pc [.ref (ad 56), .ref (ad (24 + 5 * j)), .ref (ad (24 + 5 * t))] (PX dC dI ad S)) (va_Qi (fun r S' => (∃ z, r = bI z) ∧ KA S S') (PX dC dI ad) (AX ad)) 0 0 (AX ad) := by
  refine Met.ofW (cc := cX0_isRefiningSound) (maxL := 4) (ret := (some .boolean)) pl_X0 rfl ?_
  intro p e s m args below meth c s₁ B hml hv
  obtain ⟨rfl, hPX⟩ := hv
  have hx := B.exec
  have hb := B.bytes
  have hr := B.returns
  have hts := atoms_spec (ws := wsX0_isRefiningSound) B.pre
  have hown : s.vm.findClass RX0 = some m.cls := findClass_of_methodNamed B.named
  have hlocks := B.notSynchronized
  have hin0 : ∀ w ∈ u_ws RX0 TX0 4, w ∈ wsX0_isRefiningSound := tu 1325 (by decide +kernel) rfl
  have hX := WX.of hPX
  have hl := lv_entry ([.ref (ad 56), .ref (ad (24 + 5 * j)), .ref (ad (24 + 5 * t))]) (n := 4) (Nat.le_of_ble_eq_true rfl)
  rw [lg_entry_eq]
  generalize (lg_sl ([.ref (ad 56), .ref (ad (24 + 5 * j)), .ref (ad (24 + 5 * t))]) ++ List.replicate (4 - (lg_sl ([.ref (ad 56), .ref (ad (24 + 5 * j)), .ref (ad (24 + 5 * t))])).length) Slot.unset).toArray = ls at hl ⊢
  have hl : lv_has ls 4 [(0, .ref (ad 56)), (1, .ref (ad (24 + 5 * j))), (2, .ref (ad (24 + 5 * t)))] := hl
  show W p l e ({ frames := 4, cells := 0, slots := 0, locals := 95 } : Room) s m ([.ref (ad 56), .ref (ad (24 + 5 * j)), .ref (ad (24 + 5 * t))]).toArray below meth c s.heap [] 0 0 (MQ below (va_Qi (fun r S' => (∃ z, r = bI z) ∧ KA S S') (PX dC dI ad) (AX ad)) ([.ref (ad 56), .ref (ad (24 + 5 * j)), .ref (ad (24 + 5 * t))]).toArray s 0 0 (AX ad)) (F0 m 0 ls [])
  have hK := KA_refl hI
  have h6 : (S.1 6).2.2 = (S.1 6).2.2 := rfl
  have h7 : (S.1 7).2.2 = (S.1 7).2.2 := rfl
  refine lv_aload_n hx hb dX0_isRefiningSound_0 rfl (lv_at hl 1 rfl) ?_
  refine lv_aload_n hx hb dX0_isRefiningSound_1 rfl (lv_at hl 2 rfl) ?_
  refine kx_cr (v := bI (finerB (S.2.1 j).2.2.1 (S.2.1 t).2.2.1)) (va_runV (As := [.ref (ad (24 + 5 * t))]) (rest := []) ⟨hx, hb, hml, hown, hts⟩ (m_X1_isFinerThan l dC dI ad S j t (by omega) (by omega) (hK.1.2 j (by omega)) (hK.1.2 t (by omega))) (cwV 1 hts gX0_isRefiningSound_X1_isFinerThan rfl rfl rfl hdX1_isFinerThan_1 ⟨Nat.le_of_ble_eq_true rfl, Nat.le_of_ble_eq_true rfl⟩) (hX.preOrd (by omega)) rfl rfl hl.1 rfl (lv_room (Nat.le_of_ble_eq_true rfl)) dX0_isRefiningSound_2 ⟨Nat.le_of_ble_eq_true rfl, Nat.le_of_ble_eq_true rfl⟩) (fun _ h => h) ?_
  refine lv_istore_n (lv' := [(3, .int (bI (finerB (S.2.1 j).2.2.1 (S.2.1 t).2.2.1))), (0, .ref (ad 56)), (1, .ref (ad (24 + 5 * j))), (2, .ref (ad (24 + 5 * t)))]) hx hb dX0_isRefiningSound_5 rfl hl (by decide) rfl (fun ls hl => ?_)
  refine lv_aload_n hx hb dX0_isRefiningSound_6 rfl (lv_at hl 1 rfl) ?_
  refine ka_gm hx hb hts hin0 hown hX (hts (.fieldLink RX0 31 "Orderlattice$Auditor" "made" "LOrderlattice$Order;") (tm 15 (by decide +kernel) rfl)) dX0_isRefiningSound_7 ?_
  refine lv_aload_n hx hb dX0_isRefiningSound_10 rfl (lv_at hl 2 rfl) ?_
  refine lv_aload_n hx hb dX0_isRefiningSound_11 rfl (lv_at hl 3 rfl) ?_
  refine kx_cv (va_runV (As := [.ref (ad (24 + 5 * j)), .ref (ad (24 + 5 * t))]) (rest := []) ⟨hx, hb, hml, hown, hts⟩ (m_X1_becomeProductOf l dC dI ad S 5 j t (by decide) (by omega) (by omega) (hK.1.2 5 (by decide)).1 (hK.1.2 j (by omega)).1 (hK.1.2 t (by omega)).1 (by omega) (by omega) (by rw [hK.2.2.2 j (by omega), hK.2.2.2 t (by omega)]; omega)) (cwV 2 hts gX0_isRefiningSound_X1_becomeProductOf rfl rfl rfl hdX1_becomeProductOf_2 ⟨Nat.le_of_ble_eq_true rfl, Nat.le_of_ble_eq_true rfl⟩) (hX.preOrd (by omega)) rfl rfl hl.1 rfl (lv_room (Nat.le_of_ble_eq_true rfl)) dX0_isRefiningSound_12 ⟨Nat.le_of_ble_eq_true rfl, Nat.le_of_ble_eq_true rfl⟩) hX (fun _ h => h) (fun S_1 H locs hw hX => ?_)
  replace h6 := (show (S_1.1 6).2.2 = (S.1 6).2.2 by rw [hw, xO_row]).trans h6
  replace h7 := (show (S_1.1 7).2.2 = (S.1 7).2.2 by rw [hw, xO_row]).trans h7
  replace hK := (show KA S S_1 by rw [hw]; exact KA_ord hK (newO_ok (stepOK_apn2 (D := fun _ => false) (c := fun _ => 0) (r := fun _ => 0) (cl := 0) (hK.1.2 5 (by decide)).1 (hK.1.2 j (by omega)).1 (hK.1.2 t (by omega)).1 (by rw [hK.2.2.2 j (by omega), hK.2.2.2 t (by omega)]; omega))))
  clear hw
  refine lv_iload_n hx hb dX0_isRefiningSound_15 rfl (lv_at hl 0 rfl) ?_
  refine lv_aload_n hx hb dX0_isRefiningSound_16 rfl (lv_at hl 1 rfl) ?_
  refine lv_aload_n hx hb dX0_isRefiningSound_17 rfl (lv_at hl 2 rfl) ?_
  refine lv_aload_n hx hb dX0_isRefiningSound_18 rfl (lv_at hl 3 rfl) ?_
  refine kx_ci (va_runV (As := [.ref (ad (24 + 5 * j)), .ref (ad (24 + 5 * t))]) (rest := [.int (bI (finerB (S.2.1 j).2.2.1 (S.2.1 t).2.2.1))]) ⟨hx, hb, hml, hown, hts⟩ (m_X0_isFinerBySorting l dC dI ad S_1 j t (by omega) (by omega) hK.1) (cwV 2 hts gX0_isRefiningSound_X0_isFinerBySorting rfl rfl rfl hdX0_isFinerBySorting_2 ⟨Nat.le_of_ble_eq_true rfl, Nat.le_of_ble_eq_true rfl⟩) (hX.preTop 56 2 (by decide) (by decide) rfl rfl) rfl rfl hl.1 rfl (lv_room (Nat.le_of_ble_eq_true rfl)) dX0_isRefiningSound_19 ⟨Nat.le_of_ble_eq_true rfl, Nat.le_of_ble_eq_true rfl⟩) hX (fun _ h => h) (fun r_ S_2 H locs hw hX => ?_)
  obtain ⟨⟨z_3, rfl⟩, hK9⟩ := hw
  replace hK := KA_trans hK hK9
  refine lv_icmp_ne (tgt := 55) hx hb dX0_isRefiningSound_22 (by decide) (fun k_4 => ?_) (fun k_4 => ?_)
  · skip
    refine lv_iconst (v := bI false) hx hb dX0_isRefiningSound_55 (by decide) ?_
    exact W.zret (v := bI false) hx hb hr (bI_narrow _) (fun t9 ht9 hW9 => ⟨⟨_, S_2, rfl, ⟨⟨_, rfl⟩, hK⟩, hX.P ht9 hW9⟩, hX.2.2.2.F ht9⟩) hX.2.2.2.2.2 dX0_isRefiningSound_56
  · skip
    refine lv_iload_n hx hb dX0_isRefiningSound_25 rfl (lv_at hl 0 rfl) ?_
    refine kb_if_eq (tgt := 40) hx hb dX0_isRefiningSound_26 (by decide) (fun k_5 => ?_) (fun k_5 => ?_)
    · skip
      refine lv_aload_n hx hb dX0_isRefiningSound_40 rfl (lv_at hl 1 rfl) ?_
      refine ka_gm hx hb hts hin0 hown hX (hts (.fieldLink RX0 31 "Orderlattice$Auditor" "made" "LOrderlattice$Order;") (tm 15 (by decide +kernel) rfl)) dX0_isRefiningSound_41 ?_
      refine lv_aload_n hx hb dX0_isRefiningSound_44 rfl (lv_at hl 2 rfl) ?_
      refine kx_cr (v := bI (finerB (S_2.2.1 5).2.2.1 (S_2.2.1 j).2.2.1)) (va_runV (As := [.ref (ad (24 + 5 * j))]) (rest := []) ⟨hx, hb, hml, hown, hts⟩ (m_X1_isFinerThan l dC dI ad S_2 5 j (by omega) (by omega) (hK.1.2 5 (by omega)) (hK.1.2 j (by omega))) (cwV 1 hts gX0_isRefiningSound_X1_isFinerThan rfl rfl rfl hdX1_isFinerThan_1 ⟨Nat.le_of_ble_eq_true rfl, Nat.le_of_ble_eq_true rfl⟩) (hX.preOrd (by omega)) rfl rfl hl.1 rfl (lv_room (Nat.le_of_ble_eq_true rfl)) dX0_isRefiningSound_45 ⟨Nat.le_of_ble_eq_true rfl, Nat.le_of_ble_eq_true rfl⟩) (fun _ h => h) ?_
      refine kb_if_eq (tgt := 55) hx hb dX0_isRefiningSound_48 (by decide) (fun k_6 => ?_) (fun k_6 => ?_)
      · skip
        refine lv_iconst (v := bI false) hx hb dX0_isRefiningSound_55 (by decide) ?_
        exact W.zret (v := bI false) hx hb hr (bI_narrow _) (fun t9 ht9 hW9 => ⟨⟨_, S_2, rfl, ⟨⟨_, rfl⟩, hK⟩, hX.P ht9 hW9⟩, hX.2.2.2.F ht9⟩) hX.2.2.2.2.2 dX0_isRefiningSound_56
      · skip
        refine lv_iconst (v := bI true) hx hb dX0_isRefiningSound_51 (by decide) ?_
        refine lv_goto (tgt := 56) hx hb dX0_isRefiningSound_52 (by decide) ?_
        exact W.zret (v := bI true) hx hb hr (bI_narrow _) (fun t9 ht9 hW9 => ⟨⟨_, S_2, rfl, ⟨⟨_, rfl⟩, hK⟩, hX.P ht9 hW9⟩, hX.2.2.2.F ht9⟩) hX.2.2.2.2.2 dX0_isRefiningSound_56
    · skip
      refine lv_aload_n hx hb dX0_isRefiningSound_29 rfl (lv_at hl 2 rfl) ?_
      refine kx_cr (v := nI ((S_2.2.1 j).2.2.2.2.2)) (va_runV (As := []) (rest := []) ⟨hx, hb, hml, hown, hts⟩ (m_X1_classCount l dC dI ad S_2 j (by omega)) (cwV 0 hts gX0_isRefiningSound_X1_classCount rfl rfl rfl hdX1_classCount_0 ⟨Nat.le_of_ble_eq_true rfl, Nat.le_of_ble_eq_true rfl⟩) (hX.preOrd (by omega)) rfl rfl hl.1 rfl (lv_room (Nat.le_of_ble_eq_true rfl)) dX0_isRefiningSound_30 ⟨Nat.le_of_ble_eq_true rfl, Nat.le_of_ble_eq_true rfl⟩) (fun _ h => h) ?_
      refine lv_aload_n hx hb dX0_isRefiningSound_33 rfl (lv_at hl 3 rfl) ?_
      refine kx_cr (v := nI ((S_2.2.1 t).2.2.2.2.2)) (va_runV (As := []) (rest := [.int (nI ((S_2.2.1 j).2.2.2.2.2))]) ⟨hx, hb, hml, hown, hts⟩ (m_X1_classCount l dC dI ad S_2 t (by omega)) (cwV 0 hts gX0_isRefiningSound_X1_classCount rfl rfl rfl hdX1_classCount_0 ⟨Nat.le_of_ble_eq_true rfl, Nat.le_of_ble_eq_true rfl⟩) (hX.preOrd (by omega)) rfl rfl hl.1 rfl (lv_room (Nat.le_of_ble_eq_true rfl)) dX0_isRefiningSound_34 ⟨Nat.le_of_ble_eq_true rfl, Nat.le_of_ble_eq_true rfl⟩) (fun _ h => h) ?_
      have hc1 := ordOK.cls (hK.1.2 j (by omega))
      have hc2 := ordOK.cls (hK.1.2 t (by omega))
      refine kn_icmp_lt (tgt := 55) hx hb (by omega) (by omega) dX0_isRefiningSound_37 (by decide) (fun k_7 => ?_) (fun k_7 => ?_)
      · skip
        refine lv_iconst (v := bI false) hx hb dX0_isRefiningSound_55 (by decide) ?_
        exact W.zret (v := bI false) hx hb hr (bI_narrow _) (fun t9 ht9 hW9 => ⟨⟨_, S_2, rfl, ⟨⟨_, rfl⟩, hK⟩, hX.P ht9 hW9⟩, hX.2.2.2.F ht9⟩) hX.2.2.2.2.2 dX0_isRefiningSound_56
      · skip
        refine lv_aload_n hx hb dX0_isRefiningSound_40 rfl (lv_at hl 1 rfl) ?_
        refine ka_gm hx hb hts hin0 hown hX (hts (.fieldLink RX0 31 "Orderlattice$Auditor" "made" "LOrderlattice$Order;") (tm 15 (by decide +kernel) rfl)) dX0_isRefiningSound_41 ?_
        refine lv_aload_n hx hb dX0_isRefiningSound_44 rfl (lv_at hl 2 rfl) ?_
        refine kx_cr (v := bI (finerB (S_2.2.1 5).2.2.1 (S_2.2.1 j).2.2.1)) (va_runV (As := [.ref (ad (24 + 5 * j))]) (rest := []) ⟨hx, hb, hml, hown, hts⟩ (m_X1_isFinerThan l dC dI ad S_2 5 j (by omega) (by omega) (hK.1.2 5 (by omega)) (hK.1.2 j (by omega))) (cwV 1 hts gX0_isRefiningSound_X1_isFinerThan rfl rfl rfl hdX1_isFinerThan_1 ⟨Nat.le_of_ble_eq_true rfl, Nat.le_of_ble_eq_true rfl⟩) (hX.preOrd (by omega)) rfl rfl hl.1 rfl (lv_room (Nat.le_of_ble_eq_true rfl)) dX0_isRefiningSound_45 ⟨Nat.le_of_ble_eq_true rfl, Nat.le_of_ble_eq_true rfl⟩) (fun _ h => h) ?_
        refine kb_if_eq (tgt := 55) hx hb dX0_isRefiningSound_48 (by decide) (fun k_8 => ?_) (fun k_8 => ?_)
        · skip
          refine lv_iconst (v := bI false) hx hb dX0_isRefiningSound_55 (by decide) ?_
          exact W.zret (v := bI false) hx hb hr (bI_narrow _) (fun t9 ht9 hW9 => ⟨⟨_, S_2, rfl, ⟨⟨_, rfl⟩, hK⟩, hX.P ht9 hW9⟩, hX.2.2.2.F ht9⟩) hX.2.2.2.2.2 dX0_isRefiningSound_56
        · skip
          refine lv_iconst (v := bI true) hx hb dX0_isRefiningSound_51 (by decide) ?_
          refine lv_goto (tgt := 56) hx hb dX0_isRefiningSound_52 (by decide) ?_
          exact W.zret (v := bI true) hx hb hr (bI_narrow _) (fun t9 ht9 hW9 => ⟨⟨_, S_2, rfl, ⟨⟨_, rfl⟩, hK⟩, hX.P ht9 hW9⟩, hX.2.2.2.F ht9⟩) hX.2.2.2.2.2 dX0_isRefiningSound_56
set_option maxHeartbeats 4000000 in
set_option maxRecDepth 100000 in
theorem m_X0_isProductAlike (l : Launch) (dC : Nat → ClassId) (dI : Nat → Nat → Nat) (ad : Nat → Nat) (S : XS) (i j t : Nat) (hi : i < 5) (hj : j < 5) (ht : t < 5) (hI : InvX S) (h5j : (S.2.1 j).2.2.2.2.1 ≤ 5) (h5t : (S.2.1 t).2.2.2.2.1 ≤ 5) : Met l yX0_isProductAlike wsX0_isProductAlike ({ frames := 4, cells := 0, slots := 0, locals := 105 } : Room) (va_Pc [.ref (ad 56), .ref (ad (3 * i)), .ref (ad (24 + 5 * j)), .ref (ad (24 + 5 * t))] (PX dC dI ad S)) (va_Qi (fun r S' => (∃ z, r = bI z) ∧ KA S S') (PX dC dI ad) (AX ad)) 0 0 (AX ad) := by
  refine Met.ofW (cc := cX0_isProductAlike) (maxL := 4) (ret := (some .boolean)) pl_X0 rfl ?_
  intro p e s m args below meth c s₁ B hml hv
  obtain ⟨rfl, hPX⟩ := hv
  have hx := B.exec
  have hb := B.bytes
  have hr := B.returns
  have hts := atoms_spec (ws := wsX0_isProductAlike) B.pre
  have hown : s.vm.findClass RX0 = some m.cls := findClass_of_methodNamed B.named
  have hlocks := B.notSynchronized
  have hin0 : ∀ w ∈ u_ws RX0 TX0 4, w ∈ wsX0_isProductAlike := tu 1325 (by decide +kernel) rfl
  have hX := WX.of hPX
  have hl := lv_entry ([.ref (ad 56), .ref (ad (3 * i)), .ref (ad (24 + 5 * j)), .ref (ad (24 + 5 * t))]) (n := 4) (Nat.le_of_ble_eq_true rfl)
  rw [lg_entry_eq]
  generalize (lg_sl ([.ref (ad 56), .ref (ad (3 * i)), .ref (ad (24 + 5 * j)), .ref (ad (24 + 5 * t))]) ++ List.replicate (4 - (lg_sl ([.ref (ad 56), .ref (ad (3 * i)), .ref (ad (24 + 5 * j)), .ref (ad (24 + 5 * t))])).length) Slot.unset).toArray = ls at hl ⊢
  have hl : lv_has ls 4 [(0, .ref (ad 56)), (1, .ref (ad (3 * i))), (2, .ref (ad (24 + 5 * j))), (3, .ref (ad (24 + 5 * t)))] := hl
  show W p l e ({ frames := 4, cells := 0, slots := 0, locals := 105 } : Room) s m ([.ref (ad 56), .ref (ad (3 * i)), .ref (ad (24 + 5 * j)), .ref (ad (24 + 5 * t))]).toArray below meth c s.heap [] 0 0 (MQ below (va_Qi (fun r S' => (∃ z, r = bI z) ∧ KA S S') (PX dC dI ad) (AX ad)) ([.ref (ad 56), .ref (ad (3 * i)), .ref (ad (24 + 5 * j)), .ref (ad (24 + 5 * t))]).toArray s 0 0 (AX ad)) (F0 m 0 ls [])
  have hK := KA_refl hI
  have h6 : (S.1 6).2.2 = (S.1 6).2.2 := rfl
  have h7 : (S.1 7).2.2 = (S.1 7).2.2 := rfl
  refine lv_aload_n hx hb dX0_isProductAlike_0 rfl (lv_at hl 0 rfl) ?_
  refine ka_gl hx hb hts hin0 hown hX (hts (.fieldLink RX0 21 "Orderlattice$Auditor" "left" "LOrderlattice$Row;") (tm 10 (by decide +kernel) rfl)) dX0_isProductAlike_1 ?_
  refine lv_aload_n hx hb dX0_isProductAlike_4 rfl (lv_at hl 1 rfl) ?_
  refine kx_cv (va_runV (As := [.ref (ad (3 * i))]) (rest := []) ⟨hx, hb, hml, hown, hts⟩ (m_X2_becomeCopyOf l dC dI ad S 6 i (by omega) (by omega) (hK.1.1 i (by omega)).1) (cwV 1 hts gX0_isProductAlike_X2_becomeCopyOf rfl rfl rfl hdX2_becomeCopyOf_1 ⟨Nat.le_of_ble_eq_true rfl, Nat.le_of_ble_eq_true rfl⟩) (hX.preRow (by omega)) rfl rfl hl.1 rfl (lv_room (Nat.le_of_ble_eq_true rfl)) dX0_isProductAlike_5 ⟨Nat.le_of_ble_eq_true rfl, Nat.le_of_ble_eq_true rfl⟩) hX (fun _ h => h) (fun S_1 H locs hw hX => ?_)
  replace h7 := (show (S_1.1 7).2.2 = (S.1 7).2.2 by rw [hw, xR_ne _ _ (by decide)]).trans h7
  replace h6 := (show (S_1.1 6).2.2 = (S.1 i).2.2 by rw [hw, xR_row]).trans (congrArg (fun r : RowS => r.2.2) (hK.2.2.1 i (by omega)))
  replace hK := (show KA S S_1 by rw [hw]; exact KA_row hK (by decide) (by decide) (rowOK_ovl (hK.1.1 6 (by omega)) (hK.1.1 i (by omega))))
  clear hw
  refine lv_aload_n hx hb dX0_isProductAlike_8 rfl (lv_at hl 0 rfl) ?_
  refine ka_gs hx hb hts hin0 hown hX (hts (.fieldLink RX0 12 "Orderlattice$Auditor" "sorter" "LOrderlattice$Sorter;") (tm 6 (by decide +kernel) rfl)) dX0_isProductAlike_9 ?_
  refine lv_aload_n hx hb dX0_isProductAlike_12 rfl (lv_at hl 0 rfl) ?_
  refine ka_gl hx hb hts hin0 hown hX (hts (.fieldLink RX0 21 "Orderlattice$Auditor" "left" "LOrderlattice$Row;") (tm 10 (by decide +kernel) rfl)) dX0_isProductAlike_13 ?_
  refine lv_aload_n hx hb dX0_isProductAlike_16 rfl (lv_at hl 2 rfl) ?_
  refine lv_iconst (v := nI 0) hx hb dX0_isProductAlike_17 (by decide) ?_
  refine kx_cv (va_runV (As := [.ref (ad (3 * 6)), .ref (ad (24 + 5 * j)), .int (nI 0)]) (rest := []) ⟨hx, hb, hml, hown, hts⟩ (m_X3_arrangeAll l dC dI ad S_1 1 6 j 0 (by decide) (by omega) (by omega) (hK.1.1 6 (by omega)) (hK.1.2 j (by omega)) (by decide) (hK.1.1 5 (by decide)) (by omega)) (cwV 3 hts gX0_isProductAlike_X3_arrangeAll rfl rfl rfl hdX3_arrangeAll_3 ⟨Nat.le_of_ble_eq_true rfl, Nat.le_of_ble_eq_true rfl⟩) (hX.preSor (by omega)) rfl rfl hl.1 rfl (lv_room (Nat.le_of_ble_eq_true rfl)) dX0_isProductAlike_18 ⟨Nat.le_of_ble_eq_true rfl, Nat.le_of_ble_eq_true rfl⟩) hX (fun _ h => h) (fun S_2 H locs hw hX => ?_)
  replace h6 := hw.2.2.2.2.trans h6
  replace h7 := (show (S_2.1 7).2.2 = (S_1.1 7).2.2 by rw [hw.2.1 7 (by decide) (by decide)]).trans h7
  replace hK := KA_arr hK hw (by decide) (by decide)
  clear hw
  refine lv_aload_n hx hb dX0_isProductAlike_21 rfl (lv_at hl 0 rfl) ?_
  refine ka_gs hx hb hts hin0 hown hX (hts (.fieldLink RX0 12 "Orderlattice$Auditor" "sorter" "LOrderlattice$Sorter;") (tm 6 (by decide +kernel) rfl)) dX0_isProductAlike_22 ?_
  refine lv_aload_n hx hb dX0_isProductAlike_25 rfl (lv_at hl 0 rfl) ?_
  refine ka_gl hx hb hts hin0 hown hX (hts (.fieldLink RX0 21 "Orderlattice$Auditor" "left" "LOrderlattice$Row;") (tm 10 (by decide +kernel) rfl)) dX0_isProductAlike_26 ?_
  refine lv_aload_n hx hb dX0_isProductAlike_29 rfl (lv_at hl 3 rfl) ?_
  refine lv_iconst (v := nI 0) hx hb dX0_isProductAlike_30 (by decide) ?_
  refine kx_cv (va_runV (As := [.ref (ad (3 * 6)), .ref (ad (24 + 5 * t)), .int (nI 0)]) (rest := []) ⟨hx, hb, hml, hown, hts⟩ (m_X3_arrangeAll l dC dI ad S_2 1 6 t 0 (by decide) (by omega) (by omega) (hK.1.1 6 (by omega)) (hK.1.2 t (by omega)) (by decide) (hK.1.1 5 (by decide)) (by omega)) (cwV 3 hts gX0_isProductAlike_X3_arrangeAll rfl rfl rfl hdX3_arrangeAll_3 ⟨Nat.le_of_ble_eq_true rfl, Nat.le_of_ble_eq_true rfl⟩) (hX.preSor (by omega)) rfl rfl hl.1 rfl (lv_room (Nat.le_of_ble_eq_true rfl)) dX0_isProductAlike_31 ⟨Nat.le_of_ble_eq_true rfl, Nat.le_of_ble_eq_true rfl⟩) hX (fun _ h => h) (fun S_3 H locs hw hX => ?_)
  replace h6 := hw.2.2.2.2.trans h6
  replace h7 := (show (S_3.1 7).2.2 = (S_2.1 7).2.2 by rw [hw.2.1 7 (by decide) (by decide)]).trans h7
  replace hK := KA_arr hK hw (by decide) (by decide)
  clear hw
  refine lv_aload_n hx hb dX0_isProductAlike_34 rfl (lv_at hl 0 rfl) ?_
  refine ka_gm hx hb hts hin0 hown hX (hts (.fieldLink RX0 31 "Orderlattice$Auditor" "made" "LOrderlattice$Order;") (tm 15 (by decide +kernel) rfl)) dX0_isProductAlike_35 ?_
  refine lv_aload_n hx hb dX0_isProductAlike_38 rfl (lv_at hl 3 rfl) ?_
  refine lv_aload_n hx hb dX0_isProductAlike_39 rfl (lv_at hl 2 rfl) ?_
  refine kx_cv (va_runV (As := [.ref (ad (24 + 5 * t)), .ref (ad (24 + 5 * j))]) (rest := []) ⟨hx, hb, hml, hown, hts⟩ (m_X1_becomeProductOf l dC dI ad S_3 5 t j (by decide) (by omega) (by omega) (hK.1.2 5 (by decide)).1 (hK.1.2 t (by omega)).1 (hK.1.2 j (by omega)).1 (by omega) (by omega) (by rw [hK.2.2.2 t (by omega), hK.2.2.2 j (by omega)]; omega)) (cwV 2 hts gX0_isProductAlike_X1_becomeProductOf rfl rfl rfl hdX1_becomeProductOf_2 ⟨Nat.le_of_ble_eq_true rfl, Nat.le_of_ble_eq_true rfl⟩) (hX.preOrd (by omega)) rfl rfl hl.1 rfl (lv_room (Nat.le_of_ble_eq_true rfl)) dX0_isProductAlike_40 ⟨Nat.le_of_ble_eq_true rfl, Nat.le_of_ble_eq_true rfl⟩) hX (fun _ h => h) (fun S_4 H locs hw hX => ?_)
  replace h6 := (show (S_4.1 6).2.2 = (S_3.1 6).2.2 by rw [hw, xO_row]).trans h6
  replace h7 := (show (S_4.1 7).2.2 = (S_3.1 7).2.2 by rw [hw, xO_row]).trans h7
  replace hK := (show KA S S_4 by rw [hw]; exact KA_ord hK (newO_ok (stepOK_apn2 (D := fun _ => false) (c := fun _ => 0) (r := fun _ => 0) (cl := 0) (hK.1.2 5 (by decide)).1 (hK.1.2 t (by omega)).1 (hK.1.2 j (by omega)).1 (by rw [hK.2.2.2 t (by omega), hK.2.2.2 j (by omega)]; omega))))
  clear hw
  refine lv_aload_n hx hb dX0_isProductAlike_43 rfl (lv_at hl 0 rfl) ?_
  refine ka_gr hx hb hts hin0 hown hX (hts (.fieldLink RX0 25 "Orderlattice$Auditor" "right" "LOrderlattice$Row;") (tm 11 (by decide +kernel) rfl)) dX0_isProductAlike_44 ?_
  refine lv_aload_n hx hb dX0_isProductAlike_47 rfl (lv_at hl 1 rfl) ?_
  refine kx_cv (va_runV (As := [.ref (ad (3 * i))]) (rest := []) ⟨hx, hb, hml, hown, hts⟩ (m_X2_becomeCopyOf l dC dI ad S_4 7 i (by omega) (by omega) (hK.1.1 i (by omega)).1) (cwV 1 hts gX0_isProductAlike_X2_becomeCopyOf rfl rfl rfl hdX2_becomeCopyOf_1 ⟨Nat.le_of_ble_eq_true rfl, Nat.le_of_ble_eq_true rfl⟩) (hX.preRow (by omega)) rfl rfl hl.1 rfl (lv_room (Nat.le_of_ble_eq_true rfl)) dX0_isProductAlike_48 ⟨Nat.le_of_ble_eq_true rfl, Nat.le_of_ble_eq_true rfl⟩) hX (fun _ h => h) (fun S_5 H locs hw hX => ?_)
  replace h6 := (show (S_5.1 6).2.2 = (S_4.1 6).2.2 by rw [hw, xR_ne _ _ (by decide)]).trans h6
  replace h7 := (show (S_5.1 7).2.2 = (S_4.1 i).2.2 by rw [hw, xR_row]).trans (congrArg (fun r : RowS => r.2.2) (hK.2.2.1 i (by omega)))
  replace hK := (show KA S S_5 by rw [hw]; exact KA_row hK (by decide) (by decide) (rowOK_ovl (hK.1.1 7 (by omega)) (hK.1.1 i (by omega))))
  clear hw
  refine lv_aload_n hx hb dX0_isProductAlike_51 rfl (lv_at hl 0 rfl) ?_
  refine ka_gs hx hb hts hin0 hown hX (hts (.fieldLink RX0 12 "Orderlattice$Auditor" "sorter" "LOrderlattice$Sorter;") (tm 6 (by decide +kernel) rfl)) dX0_isProductAlike_52 ?_
  refine lv_aload_n hx hb dX0_isProductAlike_55 rfl (lv_at hl 0 rfl) ?_
  refine ka_gr hx hb hts hin0 hown hX (hts (.fieldLink RX0 25 "Orderlattice$Auditor" "right" "LOrderlattice$Row;") (tm 11 (by decide +kernel) rfl)) dX0_isProductAlike_56 ?_
  refine lv_aload_n hx hb dX0_isProductAlike_59 rfl (lv_at hl 0 rfl) ?_
  refine ka_gm hx hb hts hin0 hown hX (hts (.fieldLink RX0 31 "Orderlattice$Auditor" "made" "LOrderlattice$Order;") (tm 15 (by decide +kernel) rfl)) dX0_isProductAlike_60 ?_
  refine lv_iconst (v := nI 0) hx hb dX0_isProductAlike_63 (by decide) ?_
  refine kx_cv (va_runV (As := [.ref (ad (3 * 7)), .ref (ad (24 + 5 * 5)), .int (nI 0)]) (rest := []) ⟨hx, hb, hml, hown, hts⟩ (m_X3_arrangeAll l dC dI ad S_5 1 7 5 0 (by decide) (by omega) (by omega) (hK.1.1 7 (by omega)) (hK.1.2 5 (by omega)) (by decide) (hK.1.1 5 (by decide)) (by omega)) (cwV 3 hts gX0_isProductAlike_X3_arrangeAll rfl rfl rfl hdX3_arrangeAll_3 ⟨Nat.le_of_ble_eq_true rfl, Nat.le_of_ble_eq_true rfl⟩) (hX.preSor (by omega)) rfl rfl hl.1 rfl (lv_room (Nat.le_of_ble_eq_true rfl)) dX0_isProductAlike_64 ⟨Nat.le_of_ble_eq_true rfl, Nat.le_of_ble_eq_true rfl⟩) hX (fun _ h => h) (fun S_6 H locs hw hX => ?_)
  replace h7 := hw.2.2.2.2.trans h7
  replace h6 := (show (S_6.1 6).2.2 = (S_5.1 6).2.2 by rw [hw.2.1 6 (by decide) (by decide)]).trans h6
  replace hK := KA_arr hK hw (by decide) (by decide)
  clear hw
  refine lv_aload_n hx hb dX0_isProductAlike_67 rfl (lv_at hl 0 rfl) ?_
  refine ka_gl hx hb hts hin0 hown hX (hts (.fieldLink RX0 21 "Orderlattice$Auditor" "left" "LOrderlattice$Row;") (tm 10 (by decide +kernel) rfl)) dX0_isProductAlike_68 ?_
  refine lv_aload_n hx hb dX0_isProductAlike_71 rfl (lv_at hl 0 rfl) ?_
  refine ka_gr hx hb hts hin0 hown hX (hts (.fieldLink RX0 25 "Orderlattice$Auditor" "right" "LOrderlattice$Row;") (tm 11 (by decide +kernel) rfl)) dX0_isProductAlike_72 ?_
  refine kx_cr (v := bI (decide ((S_6.1 6).2.2 = (S_6.1 7).2.2 ∧ ∀ k, k < (S_6.1 6).2.2 → (S_6.1 6).2.1 k = (S_6.1 7).2.1 k ∧ (S_6.1 6).1 k = (S_6.1 7).1 k))) (va_runV (As := [.ref (ad (3 * 7))]) (rest := []) ⟨hx, hb, hml, hown, hts⟩ (m_X2_isLike l dC dI ad S_6 6 7 (by omega) (by omega) (hK.1.1 6 (by omega)) (hK.1.1 7 (by omega))) (cwV 1 hts gX0_isProductAlike_X2_isLike rfl rfl rfl hdX2_isLike_1 ⟨Nat.le_of_ble_eq_true rfl, Nat.le_of_ble_eq_true rfl⟩) (hX.preRow (by omega)) rfl rfl hl.1 rfl (lv_room (Nat.le_of_ble_eq_true rfl)) dX0_isProductAlike_75 ⟨Nat.le_of_ble_eq_true rfl, Nat.le_of_ble_eq_true rfl⟩) (fun _ h => h) ?_
  exact W.zret (v := bI (decide ((S_6.1 6).2.2 = (S_6.1 7).2.2 ∧ ∀ k, k < (S_6.1 6).2.2 → (S_6.1 6).2.1 k = (S_6.1 7).2.1 k ∧ (S_6.1 6).1 k = (S_6.1 7).1 k))) hx hb hr (bI_narrow _) (fun t9 ht9 hW9 => ⟨⟨_, S_6, rfl, ⟨⟨_, rfl⟩, hK⟩, hX.P ht9 hW9⟩, hX.2.2.2.F ht9⟩) hX.2.2.2.2.2 dX0_isProductAlike_78
set_option maxHeartbeats 4000000 in
set_option maxRecDepth 100000 in
theorem m_X0_staysSorted (l : Launch) (dC : Nat → ClassId) (dI : Nat → Nat → Nat) (ad : Nat → Nat) (S : XS) (i j : Nat) (hi : i < 5) (hj : j < 5) (hI : InvX S) : Met l yX0_staysSorted wsX0_staysSorted ({ frames := 4, cells := 0, slots := 0, locals := 105 } : Room) (va_Pc [.ref (ad 56), .ref (ad (3 * i)), .ref (ad (24 + 5 * j))] (PX dC dI ad S)) (va_Qi (fun r S' => (∃ z, r = bI z) ∧ KA S S') (PX dC dI ad) (AX ad)) 0 0 (AX ad) := by
  refine Met.ofW (cc := cX0_staysSorted) (maxL := 3) (ret := (some .boolean)) pl_X0 rfl ?_
  intro p e s m args below meth c s₁ B hml hv
  obtain ⟨rfl, hPX⟩ := hv
  have hx := B.exec
  have hb := B.bytes
  have hr := B.returns
  have hts := atoms_spec (ws := wsX0_staysSorted) B.pre
  have hown : s.vm.findClass RX0 = some m.cls := findClass_of_methodNamed B.named
  have hlocks := B.notSynchronized
  have hin0 : ∀ w ∈ u_ws RX0 TX0 4, w ∈ wsX0_staysSorted := tu 1325 (by decide +kernel) rfl
  have hX := WX.of hPX
  have hl := lv_entry ([.ref (ad 56), .ref (ad (3 * i)), .ref (ad (24 + 5 * j))]) (n := 3) (Nat.le_of_ble_eq_true rfl)
  rw [lg_entry_eq]
  generalize (lg_sl ([.ref (ad 56), .ref (ad (3 * i)), .ref (ad (24 + 5 * j))]) ++ List.replicate (3 - (lg_sl ([.ref (ad 56), .ref (ad (3 * i)), .ref (ad (24 + 5 * j))])).length) Slot.unset).toArray = ls at hl ⊢
  have hl : lv_has ls 3 [(0, .ref (ad 56)), (1, .ref (ad (3 * i))), (2, .ref (ad (24 + 5 * j)))] := hl
  show W p l e ({ frames := 4, cells := 0, slots := 0, locals := 105 } : Room) s m ([.ref (ad 56), .ref (ad (3 * i)), .ref (ad (24 + 5 * j))]).toArray below meth c s.heap [] 0 0 (MQ below (va_Qi (fun r S' => (∃ z, r = bI z) ∧ KA S S') (PX dC dI ad) (AX ad)) ([.ref (ad 56), .ref (ad (3 * i)), .ref (ad (24 + 5 * j))]).toArray s 0 0 (AX ad)) (F0 m 0 ls [])
  have hK := KA_refl hI
  have h6 : (S.1 6).2.2 = (S.1 6).2.2 := rfl
  have h7 : (S.1 7).2.2 = (S.1 7).2.2 := rfl
  refine lv_aload_n hx hb dX0_staysSorted_0 rfl (lv_at hl 0 rfl) ?_
  refine ka_gl hx hb hts hin0 hown hX (hts (.fieldLink RX0 21 "Orderlattice$Auditor" "left" "LOrderlattice$Row;") (tm 10 (by decide +kernel) rfl)) dX0_staysSorted_1 ?_
  refine lv_aload_n hx hb dX0_staysSorted_4 rfl (lv_at hl 1 rfl) ?_
  refine kx_cv (va_runV (As := [.ref (ad (3 * i))]) (rest := []) ⟨hx, hb, hml, hown, hts⟩ (m_X2_becomeCopyOf l dC dI ad S 6 i (by omega) (by omega) (hK.1.1 i (by omega)).1) (cwV 1 hts gX0_staysSorted_X2_becomeCopyOf rfl rfl rfl hdX2_becomeCopyOf_1 ⟨Nat.le_of_ble_eq_true rfl, Nat.le_of_ble_eq_true rfl⟩) (hX.preRow (by omega)) rfl rfl hl.1 rfl (lv_room (Nat.le_of_ble_eq_true rfl)) dX0_staysSorted_5 ⟨Nat.le_of_ble_eq_true rfl, Nat.le_of_ble_eq_true rfl⟩) hX (fun _ h => h) (fun S_1 H locs hw hX => ?_)
  replace h7 := (show (S_1.1 7).2.2 = (S.1 7).2.2 by rw [hw, xR_ne _ _ (by decide)]).trans h7
  replace h6 := (show (S_1.1 6).2.2 = (S.1 i).2.2 by rw [hw, xR_row]).trans (congrArg (fun r : RowS => r.2.2) (hK.2.2.1 i (by omega)))
  replace hK := (show KA S S_1 by rw [hw]; exact KA_row hK (by decide) (by decide) (rowOK_ovl (hK.1.1 6 (by omega)) (hK.1.1 i (by omega))))
  clear hw
  refine lv_aload_n hx hb dX0_staysSorted_8 rfl (lv_at hl 0 rfl) ?_
  refine ka_gs hx hb hts hin0 hown hX (hts (.fieldLink RX0 12 "Orderlattice$Auditor" "sorter" "LOrderlattice$Sorter;") (tm 6 (by decide +kernel) rfl)) dX0_staysSorted_9 ?_
  refine lv_aload_n hx hb dX0_staysSorted_12 rfl (lv_at hl 0 rfl) ?_
  refine ka_gl hx hb hts hin0 hown hX (hts (.fieldLink RX0 21 "Orderlattice$Auditor" "left" "LOrderlattice$Row;") (tm 10 (by decide +kernel) rfl)) dX0_staysSorted_13 ?_
  refine lv_aload_n hx hb dX0_staysSorted_16 rfl (lv_at hl 2 rfl) ?_
  refine lv_iconst (v := nI 0) hx hb dX0_staysSorted_17 (by decide) ?_
  refine kx_cv (va_runV (As := [.ref (ad (3 * 6)), .ref (ad (24 + 5 * j)), .int (nI 0)]) (rest := []) ⟨hx, hb, hml, hown, hts⟩ (m_X3_arrangeAll l dC dI ad S_1 1 6 j 0 (by decide) (by omega) (by omega) (hK.1.1 6 (by omega)) (hK.1.2 j (by omega)) (by decide) (hK.1.1 5 (by decide)) (by omega)) (cwV 3 hts gX0_staysSorted_X3_arrangeAll rfl rfl rfl hdX3_arrangeAll_3 ⟨Nat.le_of_ble_eq_true rfl, Nat.le_of_ble_eq_true rfl⟩) (hX.preSor (by omega)) rfl rfl hl.1 rfl (lv_room (Nat.le_of_ble_eq_true rfl)) dX0_staysSorted_18 ⟨Nat.le_of_ble_eq_true rfl, Nat.le_of_ble_eq_true rfl⟩) hX (fun _ h => h) (fun S_2 H locs hw hX => ?_)
  replace h6 := hw.2.2.2.2.trans h6
  replace h7 := (show (S_2.1 7).2.2 = (S_1.1 7).2.2 by rw [hw.2.1 7 (by decide) (by decide)]).trans h7
  replace hK := KA_arr hK hw (by decide) (by decide)
  clear hw
  refine lv_aload_n hx hb dX0_staysSorted_21 rfl (lv_at hl 0 rfl) ?_
  refine ka_gr hx hb hts hin0 hown hX (hts (.fieldLink RX0 25 "Orderlattice$Auditor" "right" "LOrderlattice$Row;") (tm 11 (by decide +kernel) rfl)) dX0_staysSorted_22 ?_
  refine lv_aload_n hx hb dX0_staysSorted_25 rfl (lv_at hl 0 rfl) ?_
  refine ka_gl hx hb hts hin0 hown hX (hts (.fieldLink RX0 21 "Orderlattice$Auditor" "left" "LOrderlattice$Row;") (tm 10 (by decide +kernel) rfl)) dX0_staysSorted_26 ?_
  refine kx_cv (va_runV (As := [.ref (ad (3 * 6))]) (rest := []) ⟨hx, hb, hml, hown, hts⟩ (m_X2_becomeCopyOf l dC dI ad S_2 7 6 (by omega) (by omega) (hK.1.1 6 (by omega)).1) (cwV 1 hts gX0_staysSorted_X2_becomeCopyOf rfl rfl rfl hdX2_becomeCopyOf_1 ⟨Nat.le_of_ble_eq_true rfl, Nat.le_of_ble_eq_true rfl⟩) (hX.preRow (by omega)) rfl rfl hl.1 rfl (lv_room (Nat.le_of_ble_eq_true rfl)) dX0_staysSorted_29 ⟨Nat.le_of_ble_eq_true rfl, Nat.le_of_ble_eq_true rfl⟩) hX (fun _ h => h) (fun S_3 H locs hw hX => ?_)
  replace h7 := (show (S_3.1 7).2.2 = (S_2.1 6).2.2 by rw [hw, xR_row]).trans h6
  replace h6 := (show (S_3.1 6).2.2 = (S_2.1 6).2.2 by rw [hw, xR_ne _ _ (by decide)]).trans h6
  replace hK := (show KA S S_3 by rw [hw]; exact KA_row hK (by decide) (by decide) (rowOK_ovl (hK.1.1 7 (by omega)) (hK.1.1 6 (by omega))))
  clear hw
  refine lv_aload_n hx hb dX0_staysSorted_32 rfl (lv_at hl 0 rfl) ?_
  refine ka_gs hx hb hts hin0 hown hX (hts (.fieldLink RX0 12 "Orderlattice$Auditor" "sorter" "LOrderlattice$Sorter;") (tm 6 (by decide +kernel) rfl)) dX0_staysSorted_33 ?_
  refine lv_aload_n hx hb dX0_staysSorted_36 rfl (lv_at hl 0 rfl) ?_
  refine ka_gr hx hb hts hin0 hown hX (hts (.fieldLink RX0 25 "Orderlattice$Auditor" "right" "LOrderlattice$Row;") (tm 11 (by decide +kernel) rfl)) dX0_staysSorted_37 ?_
  refine lv_aload_n hx hb dX0_staysSorted_40 rfl (lv_at hl 2 rfl) ?_
  refine lv_iconst (v := nI 0) hx hb dX0_staysSorted_41 (by decide) ?_
  refine kx_cv (va_runV (As := [.ref (ad (3 * 7)), .ref (ad (24 + 5 * j)), .int (nI 0)]) (rest := []) ⟨hx, hb, hml, hown, hts⟩ (m_X3_arrangeAll l dC dI ad S_3 1 7 j 0 (by decide) (by omega) (by omega) (hK.1.1 7 (by omega)) (hK.1.2 j (by omega)) (by decide) (hK.1.1 5 (by decide)) (by omega)) (cwV 3 hts gX0_staysSorted_X3_arrangeAll rfl rfl rfl hdX3_arrangeAll_3 ⟨Nat.le_of_ble_eq_true rfl, Nat.le_of_ble_eq_true rfl⟩) (hX.preSor (by omega)) rfl rfl hl.1 rfl (lv_room (Nat.le_of_ble_eq_true rfl)) dX0_staysSorted_42 ⟨Nat.le_of_ble_eq_true rfl, Nat.le_of_ble_eq_true rfl⟩) hX (fun _ h => h) (fun S_4 H locs hw hX => ?_)
  replace h7 := hw.2.2.2.2.trans h7
  replace h6 := (show (S_4.1 6).2.2 = (S_3.1 6).2.2 by rw [hw.2.1 6 (by decide) (by decide)]).trans h6
  replace hK := KA_arr hK hw (by decide) (by decide)
  clear hw
  refine lv_aload_n hx hb dX0_staysSorted_45 rfl (lv_at hl 0 rfl) ?_
  refine ka_gl hx hb hts hin0 hown hX (hts (.fieldLink RX0 21 "Orderlattice$Auditor" "left" "LOrderlattice$Row;") (tm 10 (by decide +kernel) rfl)) dX0_staysSorted_46 ?_
  refine lv_aload_n hx hb dX0_staysSorted_49 rfl (lv_at hl 2 rfl) ?_
  refine kx_cr (v := bI (seqB (S_4.2.1 j).2.2.1 (S_4.1 6).1 (S_4.1 6).2.2)) (va_runV (As := [.ref (ad (24 + 5 * j))]) (rest := []) ⟨hx, hb, hml, hown, hts⟩ (m_X2_isInSequenceBy l dC dI ad S_4 6 j (by omega) (by omega) (hK.1.1 6 (by omega)) (hK.1.2 j (by omega))) (cwV 1 hts gX0_staysSorted_X2_isInSequenceBy rfl rfl rfl hdX2_isInSequenceBy_1 ⟨Nat.le_of_ble_eq_true rfl, Nat.le_of_ble_eq_true rfl⟩) (hX.preRow (by omega)) rfl rfl hl.1 rfl (lv_room (Nat.le_of_ble_eq_true rfl)) dX0_staysSorted_50 ⟨Nat.le_of_ble_eq_true rfl, Nat.le_of_ble_eq_true rfl⟩) (fun _ h => h) ?_
  refine kb_if_eq (tgt := 74) hx hb dX0_staysSorted_53 (by decide) (fun k_5 => ?_) (fun k_5 => ?_)
  · skip
    refine lv_iconst (v := bI false) hx hb dX0_staysSorted_74 (by decide) ?_
    exact W.zret (v := bI false) hx hb hr (bI_narrow _) (fun t9 ht9 hW9 => ⟨⟨_, S_4, rfl, ⟨⟨_, rfl⟩, hK⟩, hX.P ht9 hW9⟩, hX.2.2.2.F ht9⟩) hX.2.2.2.2.2 dX0_staysSorted_75
  · skip
    refine lv_aload_n hx hb dX0_staysSorted_56 rfl (lv_at hl 0 rfl) ?_
    refine ka_gl hx hb hts hin0 hown hX (hts (.fieldLink RX0 21 "Orderlattice$Auditor" "left" "LOrderlattice$Row;") (tm 10 (by decide +kernel) rfl)) dX0_staysSorted_57 ?_
    refine lv_aload_n hx hb dX0_staysSorted_60 rfl (lv_at hl 0 rfl) ?_
    refine ka_gr hx hb hts hin0 hown hX (hts (.fieldLink RX0 25 "Orderlattice$Auditor" "right" "LOrderlattice$Row;") (tm 11 (by decide +kernel) rfl)) dX0_staysSorted_61 ?_
    refine kx_cr (v := bI (decide ((S_4.1 6).2.2 = (S_4.1 7).2.2 ∧ ∀ k, k < (S_4.1 6).2.2 → (S_4.1 6).2.1 k = (S_4.1 7).2.1 k ∧ (S_4.1 6).1 k = (S_4.1 7).1 k))) (va_runV (As := [.ref (ad (3 * 7))]) (rest := []) ⟨hx, hb, hml, hown, hts⟩ (m_X2_isLike l dC dI ad S_4 6 7 (by omega) (by omega) (hK.1.1 6 (by omega)) (hK.1.1 7 (by omega))) (cwV 1 hts gX0_staysSorted_X2_isLike rfl rfl rfl hdX2_isLike_1 ⟨Nat.le_of_ble_eq_true rfl, Nat.le_of_ble_eq_true rfl⟩) (hX.preRow (by omega)) rfl rfl hl.1 rfl (lv_room (Nat.le_of_ble_eq_true rfl)) dX0_staysSorted_64 ⟨Nat.le_of_ble_eq_true rfl, Nat.le_of_ble_eq_true rfl⟩) (fun _ h => h) ?_
    refine kb_if_eq (tgt := 74) hx hb dX0_staysSorted_67 (by decide) (fun k_6 => ?_) (fun k_6 => ?_)
    · skip
      refine lv_iconst (v := bI false) hx hb dX0_staysSorted_74 (by decide) ?_
      exact W.zret (v := bI false) hx hb hr (bI_narrow _) (fun t9 ht9 hW9 => ⟨⟨_, S_4, rfl, ⟨⟨_, rfl⟩, hK⟩, hX.P ht9 hW9⟩, hX.2.2.2.F ht9⟩) hX.2.2.2.2.2 dX0_staysSorted_75
    · skip
      refine lv_iconst (v := bI true) hx hb dX0_staysSorted_70 (by decide) ?_
      refine lv_goto (tgt := 75) hx hb dX0_staysSorted_71 (by decide) ?_
      exact W.zret (v := bI true) hx hb hr (bI_narrow _) (fun t9 ht9 hW9 => ⟨⟨_, S_4, rfl, ⟨⟨_, rfl⟩, hK⟩, hX.P ht9 hW9⟩, hX.2.2.2.F ht9⟩) hX.2.2.2.2.2 dX0_staysSorted_75
set_option maxHeartbeats 4000000 in
set_option maxRecDepth 100000 in
theorem m_X0_isTurnedAlike (l : Launch) (dC : Nat → ClassId) (dI : Nat → Nat → Nat) (ad : Nat → Nat) (S : XS) (i j : Nat) (hi : i < 5) (hj : j < 5) (hI : InvX S) : Met l yX0_isTurnedAlike wsX0_isTurnedAlike ({ frames := 4, cells := 0, slots := 0, locals := 105 } : Room) (va_Pc [.ref (ad 56), .ref (ad (3 * i)), .ref (ad (24 + 5 * j))] (PX dC dI ad S)) (va_Qi (fun r S' => (∃ z, r = bI z) ∧ KA S S') (PX dC dI ad) (AX ad)) 0 0 (AX ad) := by
  refine Met.ofW (cc := cX0_isTurnedAlike) (maxL := 3) (ret := (some .boolean)) pl_X0 rfl ?_
  intro p e s m args below meth c s₁ B hml hv
  obtain ⟨rfl, hPX⟩ := hv
  have hx := B.exec
  have hb := B.bytes
  have hr := B.returns
  have hts := atoms_spec (ws := wsX0_isTurnedAlike) B.pre
  have hown : s.vm.findClass RX0 = some m.cls := findClass_of_methodNamed B.named
  have hlocks := B.notSynchronized
  have hin0 : ∀ w ∈ u_ws RX0 TX0 4, w ∈ wsX0_isTurnedAlike := tu 1325 (by decide +kernel) rfl
  have hX := WX.of hPX
  have hl := lv_entry ([.ref (ad 56), .ref (ad (3 * i)), .ref (ad (24 + 5 * j))]) (n := 3) (Nat.le_of_ble_eq_true rfl)
  rw [lg_entry_eq]
  generalize (lg_sl ([.ref (ad 56), .ref (ad (3 * i)), .ref (ad (24 + 5 * j))]) ++ List.replicate (3 - (lg_sl ([.ref (ad 56), .ref (ad (3 * i)), .ref (ad (24 + 5 * j))])).length) Slot.unset).toArray = ls at hl ⊢
  have hl : lv_has ls 3 [(0, .ref (ad 56)), (1, .ref (ad (3 * i))), (2, .ref (ad (24 + 5 * j)))] := hl
  show W p l e ({ frames := 4, cells := 0, slots := 0, locals := 105 } : Room) s m ([.ref (ad 56), .ref (ad (3 * i)), .ref (ad (24 + 5 * j))]).toArray below meth c s.heap [] 0 0 (MQ below (va_Qi (fun r S' => (∃ z, r = bI z) ∧ KA S S') (PX dC dI ad) (AX ad)) ([.ref (ad 56), .ref (ad (3 * i)), .ref (ad (24 + 5 * j))]).toArray s 0 0 (AX ad)) (F0 m 0 ls [])
  have hK := KA_refl hI
  have h6 : (S.1 6).2.2 = (S.1 6).2.2 := rfl
  have h7 : (S.1 7).2.2 = (S.1 7).2.2 := rfl
  refine lv_aload_n hx hb dX0_isTurnedAlike_0 rfl (lv_at hl 0 rfl) ?_
  refine ka_gl hx hb hts hin0 hown hX (hts (.fieldLink RX0 21 "Orderlattice$Auditor" "left" "LOrderlattice$Row;") (tm 10 (by decide +kernel) rfl)) dX0_isTurnedAlike_1 ?_
  refine lv_aload_n hx hb dX0_isTurnedAlike_4 rfl (lv_at hl 1 rfl) ?_
  refine kx_cv (va_runV (As := [.ref (ad (3 * i))]) (rest := []) ⟨hx, hb, hml, hown, hts⟩ (m_X2_becomeCopyOf l dC dI ad S 6 i (by omega) (by omega) (hK.1.1 i (by omega)).1) (cwV 1 hts gX0_isTurnedAlike_X2_becomeCopyOf rfl rfl rfl hdX2_becomeCopyOf_1 ⟨Nat.le_of_ble_eq_true rfl, Nat.le_of_ble_eq_true rfl⟩) (hX.preRow (by omega)) rfl rfl hl.1 rfl (lv_room (Nat.le_of_ble_eq_true rfl)) dX0_isTurnedAlike_5 ⟨Nat.le_of_ble_eq_true rfl, Nat.le_of_ble_eq_true rfl⟩) hX (fun _ h => h) (fun S_1 H locs hw hX => ?_)
  replace h7 := (show (S_1.1 7).2.2 = (S.1 7).2.2 by rw [hw, xR_ne _ _ (by decide)]).trans h7
  replace h6 := (show (S_1.1 6).2.2 = (S.1 i).2.2 by rw [hw, xR_row]).trans (congrArg (fun r : RowS => r.2.2) (hK.2.2.1 i (by omega)))
  replace hK := (show KA S S_1 by rw [hw]; exact KA_row hK (by decide) (by decide) (rowOK_ovl (hK.1.1 6 (by omega)) (hK.1.1 i (by omega))))
  clear hw
  refine lv_aload_n hx hb dX0_isTurnedAlike_8 rfl (lv_at hl 0 rfl) ?_
  refine ka_gl hx hb hts hin0 hown hX (hts (.fieldLink RX0 21 "Orderlattice$Auditor" "left" "LOrderlattice$Row;") (tm 10 (by decide +kernel) rfl)) dX0_isTurnedAlike_9 ?_
  refine kx_cv (va_runV (As := []) (rest := []) ⟨hx, hb, hml, hown, hts⟩ (m_X2_reverse l dC dI ad S_1 6 (by omega) (hK.1.1 6 (by omega)).1) (cwV 0 hts gX0_isTurnedAlike_X2_reverse rfl rfl rfl hdX2_reverse_0 ⟨Nat.le_of_ble_eq_true rfl, Nat.le_of_ble_eq_true rfl⟩) (hX.preRow (by omega)) rfl rfl hl.1 rfl (lv_room (Nat.le_of_ble_eq_true rfl)) dX0_isTurnedAlike_12 ⟨Nat.le_of_ble_eq_true rfl, Nat.le_of_ble_eq_true rfl⟩) hX (fun _ h => h) (fun S_2 H locs hw hX => ?_)
  replace h6 := (show (S_2.1 6).2.2 = (S_1.1 6).2.2 by rw [hw, xR_row]).trans h6
  replace h7 := (show (S_2.1 7).2.2 = (S_1.1 7).2.2 by rw [hw, xR_ne _ _ (by decide)]).trans h7
  replace hK := (show KA S S_2 by rw [hw]; exact KA_row hK (by decide) (by decide) (rowOK_rev (hK.1.1 6 (by omega))))
  clear hw
  refine lv_aload_n hx hb dX0_isTurnedAlike_15 rfl (lv_at hl 0 rfl) ?_
  refine ka_gs hx hb hts hin0 hown hX (hts (.fieldLink RX0 12 "Orderlattice$Auditor" "sorter" "LOrderlattice$Sorter;") (tm 6 (by decide +kernel) rfl)) dX0_isTurnedAlike_16 ?_
  refine lv_aload_n hx hb dX0_isTurnedAlike_19 rfl (lv_at hl 0 rfl) ?_
  refine ka_gl hx hb hts hin0 hown hX (hts (.fieldLink RX0 21 "Orderlattice$Auditor" "left" "LOrderlattice$Row;") (tm 10 (by decide +kernel) rfl)) dX0_isTurnedAlike_20 ?_
  refine lv_aload_n hx hb dX0_isTurnedAlike_23 rfl (lv_at hl 2 rfl) ?_
  refine lv_iconst (v := nI 0) hx hb dX0_isTurnedAlike_24 (by decide) ?_
  refine kx_cv (va_runV (As := [.ref (ad (3 * 6)), .ref (ad (24 + 5 * j)), .int (nI 0)]) (rest := []) ⟨hx, hb, hml, hown, hts⟩ (m_X3_arrangeAll l dC dI ad S_2 1 6 j 0 (by decide) (by omega) (by omega) (hK.1.1 6 (by omega)) (hK.1.2 j (by omega)) (by decide) (hK.1.1 5 (by decide)) (by omega)) (cwV 3 hts gX0_isTurnedAlike_X3_arrangeAll rfl rfl rfl hdX3_arrangeAll_3 ⟨Nat.le_of_ble_eq_true rfl, Nat.le_of_ble_eq_true rfl⟩) (hX.preSor (by omega)) rfl rfl hl.1 rfl (lv_room (Nat.le_of_ble_eq_true rfl)) dX0_isTurnedAlike_25 ⟨Nat.le_of_ble_eq_true rfl, Nat.le_of_ble_eq_true rfl⟩) hX (fun _ h => h) (fun S_3 H locs hw hX => ?_)
  replace h6 := hw.2.2.2.2.trans h6
  replace h7 := (show (S_3.1 7).2.2 = (S_2.1 7).2.2 by rw [hw.2.1 7 (by decide) (by decide)]).trans h7
  replace hK := KA_arr hK hw (by decide) (by decide)
  clear hw
  refine lv_aload_n hx hb dX0_isTurnedAlike_28 rfl (lv_at hl 0 rfl) ?_
  refine ka_gl hx hb hts hin0 hown hX (hts (.fieldLink RX0 21 "Orderlattice$Auditor" "left" "LOrderlattice$Row;") (tm 10 (by decide +kernel) rfl)) dX0_isTurnedAlike_29 ?_
  refine kx_cv (va_runV (As := []) (rest := []) ⟨hx, hb, hml, hown, hts⟩ (m_X2_reverse l dC dI ad S_3 6 (by omega) (hK.1.1 6 (by omega)).1) (cwV 0 hts gX0_isTurnedAlike_X2_reverse rfl rfl rfl hdX2_reverse_0 ⟨Nat.le_of_ble_eq_true rfl, Nat.le_of_ble_eq_true rfl⟩) (hX.preRow (by omega)) rfl rfl hl.1 rfl (lv_room (Nat.le_of_ble_eq_true rfl)) dX0_isTurnedAlike_32 ⟨Nat.le_of_ble_eq_true rfl, Nat.le_of_ble_eq_true rfl⟩) hX (fun _ h => h) (fun S_4 H locs hw hX => ?_)
  replace h6 := (show (S_4.1 6).2.2 = (S_3.1 6).2.2 by rw [hw, xR_row]).trans h6
  replace h7 := (show (S_4.1 7).2.2 = (S_3.1 7).2.2 by rw [hw, xR_ne _ _ (by decide)]).trans h7
  replace hK := (show KA S S_4 by rw [hw]; exact KA_row hK (by decide) (by decide) (rowOK_rev (hK.1.1 6 (by omega))))
  clear hw
  refine lv_aload_n hx hb dX0_isTurnedAlike_35 rfl (lv_at hl 0 rfl) ?_
  refine ka_gm hx hb hts hin0 hown hX (hts (.fieldLink RX0 31 "Orderlattice$Auditor" "made" "LOrderlattice$Order;") (tm 15 (by decide +kernel) rfl)) dX0_isTurnedAlike_36 ?_
  refine lv_aload_n hx hb dX0_isTurnedAlike_39 rfl (lv_at hl 2 rfl) ?_
  refine kx_cv (va_runV (As := [.ref (ad (24 + 5 * j))]) (rest := []) ⟨hx, hb, hml, hown, hts⟩ (m_X1_becomeCopyOf l dC dI ad S_4 5 j (by decide) (by omega) (hK.1.2 5 (by decide)).1 (hK.1.2 j (by omega)).1) (cwV 1 hts gX0_isTurnedAlike_X1_becomeCopyOf rfl rfl rfl hdX1_becomeCopyOf_1 ⟨Nat.le_of_ble_eq_true rfl, Nat.le_of_ble_eq_true rfl⟩) (hX.preOrd (by omega)) rfl rfl hl.1 rfl (lv_room (Nat.le_of_ble_eq_true rfl)) dX0_isTurnedAlike_40 ⟨Nat.le_of_ble_eq_true rfl, Nat.le_of_ble_eq_true rfl⟩) hX (fun _ h => h) (fun S_5 H locs hw hX => ?_)
  replace h6 := (show (S_5.1 6).2.2 = (S_4.1 6).2.2 by rw [hw, xO_row]).trans h6
  replace h7 := (show (S_5.1 7).2.2 = (S_4.1 7).2.2 by rw [hw, xO_row]).trans h7
  replace hK := (show KA S S_5 by rw [hw]; exact KA_ord hK (newO_ok (stepOK_apn0 (D := fun _ => false) (c := fun _ => 0) (r := fun _ => 0) (cl := 0) (hK.1.2 5 (by decide)).1 (hK.1.2 j (by omega)).1)))
  clear hw
  refine lv_aload_n hx hb dX0_isTurnedAlike_43 rfl (lv_at hl 0 rfl) ?_
  refine ka_gm hx hb hts hin0 hown hX (hts (.fieldLink RX0 31 "Orderlattice$Auditor" "made" "LOrderlattice$Order;") (tm 15 (by decide +kernel) rfl)) dX0_isTurnedAlike_44 ?_
  refine kx_cv (va_runV (As := []) (rest := []) ⟨hx, hb, hml, hown, hts⟩ (m_X1_reverse l dC dI ad S_5 5 (by decide) (hK.1.2 5 (by decide)).1) (cwV 0 hts gX0_isTurnedAlike_X1_reverse rfl rfl rfl hdX1_reverse_0 ⟨Nat.le_of_ble_eq_true rfl, Nat.le_of_ble_eq_true rfl⟩) (hX.preOrd (by omega)) rfl rfl hl.1 rfl (lv_room (Nat.le_of_ble_eq_true rfl)) dX0_isTurnedAlike_47 ⟨Nat.le_of_ble_eq_true rfl, Nat.le_of_ble_eq_true rfl⟩) hX (fun _ h => h) (fun S_6 H locs hw hX => ?_)
  replace h6 := (show (S_6.1 6).2.2 = (S_5.1 6).2.2 by rw [hw, xO_row]).trans h6
  replace h7 := (show (S_6.1 7).2.2 = (S_5.1 7).2.2 by rw [hw, xO_row]).trans h7
  replace hK := (show KA S S_6 by rw [hw]; exact KA_ord hK (newO_ok (hK.1.2 5 (by decide)).1))
  clear hw
  refine lv_aload_n hx hb dX0_isTurnedAlike_50 rfl (lv_at hl 0 rfl) ?_
  refine ka_gr hx hb hts hin0 hown hX (hts (.fieldLink RX0 25 "Orderlattice$Auditor" "right" "LOrderlattice$Row;") (tm 11 (by decide +kernel) rfl)) dX0_isTurnedAlike_51 ?_
  refine lv_aload_n hx hb dX0_isTurnedAlike_54 rfl (lv_at hl 1 rfl) ?_
  refine kx_cv (va_runV (As := [.ref (ad (3 * i))]) (rest := []) ⟨hx, hb, hml, hown, hts⟩ (m_X2_becomeCopyOf l dC dI ad S_6 7 i (by omega) (by omega) (hK.1.1 i (by omega)).1) (cwV 1 hts gX0_isTurnedAlike_X2_becomeCopyOf rfl rfl rfl hdX2_becomeCopyOf_1 ⟨Nat.le_of_ble_eq_true rfl, Nat.le_of_ble_eq_true rfl⟩) (hX.preRow (by omega)) rfl rfl hl.1 rfl (lv_room (Nat.le_of_ble_eq_true rfl)) dX0_isTurnedAlike_55 ⟨Nat.le_of_ble_eq_true rfl, Nat.le_of_ble_eq_true rfl⟩) hX (fun _ h => h) (fun S_7 H locs hw hX => ?_)
  replace h6 := (show (S_7.1 6).2.2 = (S_6.1 6).2.2 by rw [hw, xR_ne _ _ (by decide)]).trans h6
  replace h7 := (show (S_7.1 7).2.2 = (S_6.1 i).2.2 by rw [hw, xR_row]).trans (congrArg (fun r : RowS => r.2.2) (hK.2.2.1 i (by omega)))
  replace hK := (show KA S S_7 by rw [hw]; exact KA_row hK (by decide) (by decide) (rowOK_ovl (hK.1.1 7 (by omega)) (hK.1.1 i (by omega))))
  clear hw
  refine lv_aload_n hx hb dX0_isTurnedAlike_58 rfl (lv_at hl 0 rfl) ?_
  refine ka_gs hx hb hts hin0 hown hX (hts (.fieldLink RX0 12 "Orderlattice$Auditor" "sorter" "LOrderlattice$Sorter;") (tm 6 (by decide +kernel) rfl)) dX0_isTurnedAlike_59 ?_
  refine lv_aload_n hx hb dX0_isTurnedAlike_62 rfl (lv_at hl 0 rfl) ?_
  refine ka_gr hx hb hts hin0 hown hX (hts (.fieldLink RX0 25 "Orderlattice$Auditor" "right" "LOrderlattice$Row;") (tm 11 (by decide +kernel) rfl)) dX0_isTurnedAlike_63 ?_
  refine lv_aload_n hx hb dX0_isTurnedAlike_66 rfl (lv_at hl 0 rfl) ?_
  refine ka_gm hx hb hts hin0 hown hX (hts (.fieldLink RX0 31 "Orderlattice$Auditor" "made" "LOrderlattice$Order;") (tm 15 (by decide +kernel) rfl)) dX0_isTurnedAlike_67 ?_
  refine lv_iconst (v := nI 0) hx hb dX0_isTurnedAlike_70 (by decide) ?_
  refine kx_cv (va_runV (As := [.ref (ad (3 * 7)), .ref (ad (24 + 5 * 5)), .int (nI 0)]) (rest := []) ⟨hx, hb, hml, hown, hts⟩ (m_X3_arrangeAll l dC dI ad S_7 1 7 5 0 (by decide) (by omega) (by omega) (hK.1.1 7 (by omega)) (hK.1.2 5 (by omega)) (by decide) (hK.1.1 5 (by decide)) (by omega)) (cwV 3 hts gX0_isTurnedAlike_X3_arrangeAll rfl rfl rfl hdX3_arrangeAll_3 ⟨Nat.le_of_ble_eq_true rfl, Nat.le_of_ble_eq_true rfl⟩) (hX.preSor (by omega)) rfl rfl hl.1 rfl (lv_room (Nat.le_of_ble_eq_true rfl)) dX0_isTurnedAlike_71 ⟨Nat.le_of_ble_eq_true rfl, Nat.le_of_ble_eq_true rfl⟩) hX (fun _ h => h) (fun S_8 H locs hw hX => ?_)
  replace h7 := hw.2.2.2.2.trans h7
  replace h6 := (show (S_8.1 6).2.2 = (S_7.1 6).2.2 by rw [hw.2.1 6 (by decide) (by decide)]).trans h6
  replace hK := KA_arr hK hw (by decide) (by decide)
  clear hw
  refine lv_aload_n hx hb dX0_isTurnedAlike_74 rfl (lv_at hl 0 rfl) ?_
  refine ka_gl hx hb hts hin0 hown hX (hts (.fieldLink RX0 21 "Orderlattice$Auditor" "left" "LOrderlattice$Row;") (tm 10 (by decide +kernel) rfl)) dX0_isTurnedAlike_75 ?_
  refine lv_aload_n hx hb dX0_isTurnedAlike_78 rfl (lv_at hl 0 rfl) ?_
  refine ka_gr hx hb hts hin0 hown hX (hts (.fieldLink RX0 25 "Orderlattice$Auditor" "right" "LOrderlattice$Row;") (tm 11 (by decide +kernel) rfl)) dX0_isTurnedAlike_79 ?_
  refine kx_cr (v := bI (decide ((S_8.1 6).2.2 = (S_8.1 7).2.2 ∧ ∀ k, k < (S_8.1 6).2.2 → (S_8.1 6).2.1 k = (S_8.1 7).2.1 k ∧ (S_8.1 6).1 k = (S_8.1 7).1 k))) (va_runV (As := [.ref (ad (3 * 7))]) (rest := []) ⟨hx, hb, hml, hown, hts⟩ (m_X2_isLike l dC dI ad S_8 6 7 (by omega) (by omega) (hK.1.1 6 (by omega)) (hK.1.1 7 (by omega))) (cwV 1 hts gX0_isTurnedAlike_X2_isLike rfl rfl rfl hdX2_isLike_1 ⟨Nat.le_of_ble_eq_true rfl, Nat.le_of_ble_eq_true rfl⟩) (hX.preRow (by omega)) rfl rfl hl.1 rfl (lv_room (Nat.le_of_ble_eq_true rfl)) dX0_isTurnedAlike_82 ⟨Nat.le_of_ble_eq_true rfl, Nat.le_of_ble_eq_true rfl⟩) (fun _ h => h) ?_
  exact W.zret (v := bI (decide ((S_8.1 6).2.2 = (S_8.1 7).2.2 ∧ ∀ k, k < (S_8.1 6).2.2 → (S_8.1 6).2.1 k = (S_8.1 7).2.1 k ∧ (S_8.1 6).1 k = (S_8.1 7).1 k))) hx hb hr (bI_narrow _) (fun t9 ht9 hW9 => ⟨⟨_, S_8, rfl, ⟨⟨_, rfl⟩, hK⟩, hX.P ht9 hW9⟩, hX.2.2.2.F ht9⟩) hX.2.2.2.2.2 dX0_isTurnedAlike_85
set_option maxHeartbeats 4000000 in
set_option maxRecDepth 100000 in
theorem m_X0_areWaysAgreed (l : Launch) (dC : Nat → ClassId) (dI : Nat → Nat → Nat) (ad : Nat → Nat) (S : XS) (i j : Nat) (hi : i < 5) (hj : j < 5) (hI : InvX S) : Met l yX0_areWaysAgreed wsX0_areWaysAgreed ({ frames := 4, cells := 0, slots := 0, locals := 105 } : Room) (va_Pc [.ref (ad 56), .ref (ad (3 * i)), .ref (ad (24 + 5 * j))] (PX dC dI ad S)) (va_Qi (fun r S' => (∃ z, r = bI z) ∧ KA S S') (PX dC dI ad) (AX ad)) 0 0 (AX ad) := by
  refine Met.ofW (cc := cX0_areWaysAgreed) (maxL := 4) (ret := (some .boolean)) pl_X0 rfl ?_
  intro p e s m args below meth c s₁ B hml hv
  obtain ⟨rfl, hPX⟩ := hv
  have hx := B.exec
  have hb := B.bytes
  have hr := B.returns
  have hts := atoms_spec (ws := wsX0_areWaysAgreed) B.pre
  have hown : s.vm.findClass RX0 = some m.cls := findClass_of_methodNamed B.named
  have hlocks := B.notSynchronized
  have hin0 : ∀ w ∈ u_ws RX0 TX0 4, w ∈ wsX0_areWaysAgreed := tu 1325 (by decide +kernel) rfl
  have hX := WX.of hPX
  have hl := lv_entry ([.ref (ad 56), .ref (ad (3 * i)), .ref (ad (24 + 5 * j))]) (n := 4) (Nat.le_of_ble_eq_true rfl)
  rw [lg_entry_eq]
  generalize (lg_sl ([.ref (ad 56), .ref (ad (3 * i)), .ref (ad (24 + 5 * j))]) ++ List.replicate (4 - (lg_sl ([.ref (ad 56), .ref (ad (3 * i)), .ref (ad (24 + 5 * j))])).length) Slot.unset).toArray = ls at hl ⊢
  have hl : lv_has ls 4 [(0, .ref (ad 56)), (1, .ref (ad (3 * i))), (2, .ref (ad (24 + 5 * j)))] := hl
  show W p l e ({ frames := 4, cells := 0, slots := 0, locals := 105 } : Room) s m ([.ref (ad 56), .ref (ad (3 * i)), .ref (ad (24 + 5 * j))]).toArray below meth c s.heap [] 0 0 (MQ below (va_Qi (fun r S' => (∃ z, r = bI z) ∧ KA S S') (PX dC dI ad) (AX ad)) ([.ref (ad 56), .ref (ad (3 * i)), .ref (ad (24 + 5 * j))]).toArray s 0 0 (AX ad)) (F0 m 0 ls [])
  have hK := KA_refl hI
  have h6 : (S.1 6).2.2 = (S.1 6).2.2 := rfl
  have h7 : (S.1 7).2.2 = (S.1 7).2.2 := rfl
  refine lv_aload_n hx hb dX0_areWaysAgreed_0 rfl (lv_at hl 0 rfl) ?_
  refine ka_gl hx hb hts hin0 hown hX (hts (.fieldLink RX0 21 "Orderlattice$Auditor" "left" "LOrderlattice$Row;") (tm 10 (by decide +kernel) rfl)) dX0_areWaysAgreed_1 ?_
  refine lv_aload_n hx hb dX0_areWaysAgreed_4 rfl (lv_at hl 1 rfl) ?_
  refine kx_cv (va_runV (As := [.ref (ad (3 * i))]) (rest := []) ⟨hx, hb, hml, hown, hts⟩ (m_X2_becomeCopyOf l dC dI ad S 6 i (by omega) (by omega) (hK.1.1 i (by omega)).1) (cwV 1 hts gX0_areWaysAgreed_X2_becomeCopyOf rfl rfl rfl hdX2_becomeCopyOf_1 ⟨Nat.le_of_ble_eq_true rfl, Nat.le_of_ble_eq_true rfl⟩) (hX.preRow (by omega)) rfl rfl hl.1 rfl (lv_room (Nat.le_of_ble_eq_true rfl)) dX0_areWaysAgreed_5 ⟨Nat.le_of_ble_eq_true rfl, Nat.le_of_ble_eq_true rfl⟩) hX (fun _ h => h) (fun S_1 H locs hw hX => ?_)
  replace h7 := (show (S_1.1 7).2.2 = (S.1 7).2.2 by rw [hw, xR_ne _ _ (by decide)]).trans h7
  replace h6 := (show (S_1.1 6).2.2 = (S.1 i).2.2 by rw [hw, xR_row]).trans (congrArg (fun r : RowS => r.2.2) (hK.2.2.1 i (by omega)))
  replace hK := (show KA S S_1 by rw [hw]; exact KA_row hK (by decide) (by decide) (rowOK_ovl (hK.1.1 6 (by omega)) (hK.1.1 i (by omega))))
  clear hw
  refine lv_aload_n hx hb dX0_areWaysAgreed_8 rfl (lv_at hl 0 rfl) ?_
  refine ka_gs hx hb hts hin0 hown hX (hts (.fieldLink RX0 12 "Orderlattice$Auditor" "sorter" "LOrderlattice$Sorter;") (tm 6 (by decide +kernel) rfl)) dX0_areWaysAgreed_9 ?_
  refine lv_aload_n hx hb dX0_areWaysAgreed_12 rfl (lv_at hl 0 rfl) ?_
  refine ka_gl hx hb hts hin0 hown hX (hts (.fieldLink RX0 21 "Orderlattice$Auditor" "left" "LOrderlattice$Row;") (tm 10 (by decide +kernel) rfl)) dX0_areWaysAgreed_13 ?_
  refine lv_aload_n hx hb dX0_areWaysAgreed_16 rfl (lv_at hl 2 rfl) ?_
  refine lv_iconst (v := nI 0) hx hb dX0_areWaysAgreed_17 (by decide) ?_
  refine kx_cv (va_runV (As := [.ref (ad (3 * 6)), .ref (ad (24 + 5 * j)), .int (nI 0)]) (rest := []) ⟨hx, hb, hml, hown, hts⟩ (m_X3_arrangeAll l dC dI ad S_1 1 6 j 0 (by decide) (by omega) (by omega) (hK.1.1 6 (by omega)) (hK.1.2 j (by omega)) (by decide) (hK.1.1 5 (by decide)) (by omega)) (cwV 3 hts gX0_areWaysAgreed_X3_arrangeAll rfl rfl rfl hdX3_arrangeAll_3 ⟨Nat.le_of_ble_eq_true rfl, Nat.le_of_ble_eq_true rfl⟩) (hX.preSor (by omega)) rfl rfl hl.1 rfl (lv_room (Nat.le_of_ble_eq_true rfl)) dX0_areWaysAgreed_18 ⟨Nat.le_of_ble_eq_true rfl, Nat.le_of_ble_eq_true rfl⟩) hX (fun _ h => h) (fun S_2 H locs hw hX => ?_)
  replace h6 := hw.2.2.2.2.trans h6
  replace h7 := (show (S_2.1 7).2.2 = (S_1.1 7).2.2 by rw [hw.2.1 7 (by decide) (by decide)]).trans h7
  replace hK := KA_arr hK hw (by decide) (by decide)
  clear hw
  refine lv_iconst (v := nI 1) hx hb dX0_areWaysAgreed_21 (by decide) ?_
  refine lv_istore_n (lv' := [(3, .int (nI 1)), (0, .ref (ad 56)), (1, .ref (ad (3 * i))), (2, .ref (ad (24 + 5 * j)))]) hx hb dX0_areWaysAgreed_22 rfl hl (by decide) rfl (fun ls hl => ?_)
  have loop23 : ∀ (fuel : Nat) (S1 : XS) (y : Nat) (hK : KA S S1) (h67 : ∃ a b, (S1.1 6).2.2 = a ∧ (S1.1 7).2.2 = b) (hy : 1 ≤ y ∧ y ≤ 3) (H : Heap) (locs : List Loc), 3 - y < fuel → WX dC dI ad S1 (AX ad) s H locs → ∀ ls : Array Slot, lv_has ls 4 [(0, .ref (ad 56)), (1, .ref (ad (3 * i))), (2, .ref (ad (24 + 5 * j))), (3, .int (nI y))] → W p l e ({ frames := 4, cells := 0, slots := 0, locals := 105 } : Room) s m ([.ref (ad 56), .ref (ad (3 * i)), .ref (ad (24 + 5 * j))]).toArray below meth c H locs 0 0 (MQ below (va_Qi (fun r S' => (∃ z, r = bI z) ∧ KA S S') (PX dC dI ad) (AX ad)) ([.ref (ad 56), .ref (ad (3 * i)), .ref (ad (24 + 5 * j))]).toArray s 0 0 (AX ad)) (F0 m 23 ls []) := by
    intro fuel
    induction fuel with
    | zero => intro S1 y hK h67 hy H locs hf; exact absurd hf (Nat.not_lt_zero _)
    | succ fuel ih23 =>
      intro S1 y hK h67 hy H locs hf hX ls hl
      obtain ⟨_, _, h6, h7⟩ := h67
      refine lv_iload_n hx hb dX0_areWaysAgreed_23 rfl (lv_at hl 3 rfl) ?_
      refine lv_iconst (v := nI 3) hx hb dX0_areWaysAgreed_24 (by decide) ?_
      refine kn_icmp_ge (tgt := 71) hx hb (by omega) (by omega) dX0_areWaysAgreed_25 (by decide) (fun k_3 => ?_) (fun k_3 => ?_)
      · skip
        refine lv_iconst (v := bI true) hx hb dX0_areWaysAgreed_71 (by decide) ?_
        exact W.zret (v := bI true) hx hb hr (bI_narrow _) (fun t9 ht9 hW9 => ⟨⟨_, S1, rfl, ⟨⟨_, rfl⟩, hK⟩, hX.P ht9 hW9⟩, hX.2.2.2.F ht9⟩) hX.2.2.2.2.2 dX0_areWaysAgreed_72
      · skip
        refine lv_aload_n hx hb dX0_areWaysAgreed_28 rfl (lv_at hl 0 rfl) ?_
        refine ka_gr hx hb hts hin0 hown hX (hts (.fieldLink RX0 25 "Orderlattice$Auditor" "right" "LOrderlattice$Row;") (tm 11 (by decide +kernel) rfl)) dX0_areWaysAgreed_29 ?_
        refine lv_aload_n hx hb dX0_areWaysAgreed_32 rfl (lv_at hl 1 rfl) ?_
        refine kx_cv (va_runV (As := [.ref (ad (3 * i))]) (rest := []) ⟨hx, hb, hml, hown, hts⟩ (m_X2_becomeCopyOf l dC dI ad S1 7 i (by omega) (by omega) (hK.1.1 i (by omega)).1) (cwV 1 hts gX0_areWaysAgreed_X2_becomeCopyOf rfl rfl rfl hdX2_becomeCopyOf_1 ⟨Nat.le_of_ble_eq_true rfl, Nat.le_of_ble_eq_true rfl⟩) (hX.preRow (by omega)) rfl rfl hl.1 rfl (lv_room (Nat.le_of_ble_eq_true rfl)) dX0_areWaysAgreed_33 ⟨Nat.le_of_ble_eq_true rfl, Nat.le_of_ble_eq_true rfl⟩) hX (fun _ h => h) (fun S_4 H locs hw hX => ?_)
        replace h6 := (show (S_4.1 6).2.2 = (S1.1 6).2.2 by rw [hw, xR_ne _ _ (by decide)]).trans h6
        replace h7 := (show (S_4.1 7).2.2 = (S1.1 i).2.2 by rw [hw, xR_row]).trans (congrArg (fun r : RowS => r.2.2) (hK.2.2.1 i (by omega)))
        replace hK := (show KA S S_4 by rw [hw]; exact KA_row hK (by decide) (by decide) (rowOK_ovl (hK.1.1 7 (by omega)) (hK.1.1 i (by omega))))
        clear hw
        refine lv_aload_n hx hb dX0_areWaysAgreed_36 rfl (lv_at hl 0 rfl) ?_
        refine ka_gs hx hb hts hin0 hown hX (hts (.fieldLink RX0 12 "Orderlattice$Auditor" "sorter" "LOrderlattice$Sorter;") (tm 6 (by decide +kernel) rfl)) dX0_areWaysAgreed_37 ?_
        refine lv_aload_n hx hb dX0_areWaysAgreed_40 rfl (lv_at hl 0 rfl) ?_
        refine ka_gr hx hb hts hin0 hown hX (hts (.fieldLink RX0 25 "Orderlattice$Auditor" "right" "LOrderlattice$Row;") (tm 11 (by decide +kernel) rfl)) dX0_areWaysAgreed_41 ?_
        refine lv_aload_n hx hb dX0_areWaysAgreed_44 rfl (lv_at hl 2 rfl) ?_
        refine lv_iload_n hx hb dX0_areWaysAgreed_45 rfl (lv_at hl 3 rfl) ?_
        refine kx_cv (va_runV (As := [.ref (ad (3 * 7)), .ref (ad (24 + 5 * j)), .int (nI y)]) (rest := []) ⟨hx, hb, hml, hown, hts⟩ (m_X3_arrangeAll l dC dI ad S_4 1 7 j y (by decide) (by omega) (by omega) (hK.1.1 7 (by omega)) (hK.1.2 j (by omega)) (by decide) (hK.1.1 5 (by decide)) (by omega)) (cwV 3 hts gX0_areWaysAgreed_X3_arrangeAll rfl rfl rfl hdX3_arrangeAll_3 ⟨Nat.le_of_ble_eq_true rfl, Nat.le_of_ble_eq_true rfl⟩) (hX.preSor (by omega)) rfl rfl hl.1 rfl (lv_room (Nat.le_of_ble_eq_true rfl)) dX0_areWaysAgreed_46 ⟨Nat.le_of_ble_eq_true rfl, Nat.le_of_ble_eq_true rfl⟩) hX (fun _ h => h) (fun S_5 H locs hw hX => ?_)
        replace h7 := hw.2.2.2.2.trans h7
        replace h6 := (show (S_5.1 6).2.2 = (S_4.1 6).2.2 by rw [hw.2.1 6 (by decide) (by decide)]).trans h6
        replace hK := KA_arr hK hw (by decide) (by decide)
        clear hw
        refine lv_aload_n hx hb dX0_areWaysAgreed_49 rfl (lv_at hl 0 rfl) ?_
        refine ka_gl hx hb hts hin0 hown hX (hts (.fieldLink RX0 21 "Orderlattice$Auditor" "left" "LOrderlattice$Row;") (tm 10 (by decide +kernel) rfl)) dX0_areWaysAgreed_50 ?_
        refine lv_aload_n hx hb dX0_areWaysAgreed_53 rfl (lv_at hl 0 rfl) ?_
        refine ka_gr hx hb hts hin0 hown hX (hts (.fieldLink RX0 25 "Orderlattice$Auditor" "right" "LOrderlattice$Row;") (tm 11 (by decide +kernel) rfl)) dX0_areWaysAgreed_54 ?_
        refine kx_cr (v := bI (decide ((S_5.1 6).2.2 = (S_5.1 7).2.2 ∧ ∀ k, k < (S_5.1 6).2.2 → (S_5.1 6).2.1 k = (S_5.1 7).2.1 k ∧ (S_5.1 6).1 k = (S_5.1 7).1 k))) (va_runV (As := [.ref (ad (3 * 7))]) (rest := []) ⟨hx, hb, hml, hown, hts⟩ (m_X2_isLike l dC dI ad S_5 6 7 (by omega) (by omega) (hK.1.1 6 (by omega)) (hK.1.1 7 (by omega))) (cwV 1 hts gX0_areWaysAgreed_X2_isLike rfl rfl rfl hdX2_isLike_1 ⟨Nat.le_of_ble_eq_true rfl, Nat.le_of_ble_eq_true rfl⟩) (hX.preRow (by omega)) rfl rfl hl.1 rfl (lv_room (Nat.le_of_ble_eq_true rfl)) dX0_areWaysAgreed_57 ⟨Nat.le_of_ble_eq_true rfl, Nat.le_of_ble_eq_true rfl⟩) (fun _ h => h) ?_
        refine kb_if_ne (tgt := 65) hx hb dX0_areWaysAgreed_60 (by decide) (fun k_6 => ?_) (fun k_6 => ?_)
        · skip
          refine lv_iinc (v := nI (y + 1)) (lv' := [(3, .int (nI (y + 1))), (0, .ref (ad 56)), (1, .ref (ad (3 * i))), (2, .ref (ad (24 + 5 * j)))]) hx hb dX0_areWaysAgreed_65 hl (k := 3) rfl (nI_1 y) (by decide) rfl (fun ls hl => ?_)
          refine lv_goto (tgt := 23) hx hb dX0_areWaysAgreed_68 (by decide) ?_
          exact ih23  S_5 (y + 1) hK ⟨_, _, h6, h7⟩ (by omega) _ _ (by omega) hX _ (lv_sub hl [1, 2, 3, 0] rfl)
        · skip
          refine lv_iconst (v := bI false) hx hb dX0_areWaysAgreed_63 (by decide) ?_
          exact W.zret (v := bI false) hx hb hr (bI_narrow _) (fun t9 ht9 hW9 => ⟨⟨_, S_5, rfl, ⟨⟨_, rfl⟩, hK⟩, hX.P ht9 hW9⟩, hX.2.2.2.F ht9⟩) hX.2.2.2.2.2 dX0_areWaysAgreed_64
  exact loop23 (3 + 1) S_2 1 hK ⟨_, _, h6, h7⟩ (by omega) _ _ (by omega) (WX.eqS rfl hX) _ (lv_sub hl [1, 2, 3, 0] rfl)
set_option maxHeartbeats 4000000 in
set_option maxRecDepth 100000 in
theorem m_X0_isQueuedAlike (l : Launch) (dC : Nat → ClassId) (dI : Nat → Nat → Nat) (ad : Nat → Nat) (S : XS) (i j : Nat) (hi : i < 5) (hj : j < 5) (hI : InvX S) : Met l yX0_isQueuedAlike wsX0_isQueuedAlike ({ frames := 4, cells := 0, slots := 0, locals := 105 } : Room) (va_Pc [.ref (ad 56), .ref (ad (3 * i)), .ref (ad (24 + 5 * j))] (PX dC dI ad S)) (va_Qi (fun r S' => (∃ z, r = bI z) ∧ KA S S') (PX dC dI ad) (AX ad)) 0 0 (AX ad) := by
  refine Met.ofW (cc := cX0_isQueuedAlike) (maxL := 5) (ret := (some .boolean)) pl_X0 rfl ?_
  intro p e s m args below meth c s₁ B hml hv
  obtain ⟨rfl, hPX⟩ := hv
  have hx := B.exec
  have hb := B.bytes
  have hr := B.returns
  have hts := atoms_spec (ws := wsX0_isQueuedAlike) B.pre
  have hown : s.vm.findClass RX0 = some m.cls := findClass_of_methodNamed B.named
  have hlocks := B.notSynchronized
  have hin0 : ∀ w ∈ u_ws RX0 TX0 4, w ∈ wsX0_isQueuedAlike := tu 1325 (by decide +kernel) rfl
  have hX := WX.of hPX
  have hl := lv_entry ([.ref (ad 56), .ref (ad (3 * i)), .ref (ad (24 + 5 * j))]) (n := 5) (Nat.le_of_ble_eq_true rfl)
  rw [lg_entry_eq]
  generalize (lg_sl ([.ref (ad 56), .ref (ad (3 * i)), .ref (ad (24 + 5 * j))]) ++ List.replicate (5 - (lg_sl ([.ref (ad 56), .ref (ad (3 * i)), .ref (ad (24 + 5 * j))])).length) Slot.unset).toArray = ls at hl ⊢
  have hl : lv_has ls 5 [(0, .ref (ad 56)), (1, .ref (ad (3 * i))), (2, .ref (ad (24 + 5 * j)))] := hl
  show W p l e ({ frames := 4, cells := 0, slots := 0, locals := 105 } : Room) s m ([.ref (ad 56), .ref (ad (3 * i)), .ref (ad (24 + 5 * j))]).toArray below meth c s.heap [] 0 0 (MQ below (va_Qi (fun r S' => (∃ z, r = bI z) ∧ KA S S') (PX dC dI ad) (AX ad)) ([.ref (ad 56), .ref (ad (3 * i)), .ref (ad (24 + 5 * j))]).toArray s 0 0 (AX ad)) (F0 m 0 ls [])
  have hK := KA_refl hI
  have h6 : (S.1 6).2.2 = (S.1 6).2.2 := rfl
  have h7 : (S.1 7).2.2 = (S.1 7).2.2 := rfl
  have hn9 := (hI.1 i (by omega)).1
  refine lv_aload_n hx hb dX0_isQueuedAlike_0 rfl (lv_at hl 0 rfl) ?_
  refine ka_gl hx hb hts hin0 hown hX (hts (.fieldLink RX0 21 "Orderlattice$Auditor" "left" "LOrderlattice$Row;") (tm 10 (by decide +kernel) rfl)) dX0_isQueuedAlike_1 ?_
  refine lv_aload_n hx hb dX0_isQueuedAlike_4 rfl (lv_at hl 1 rfl) ?_
  refine kx_cv (va_runV (As := [.ref (ad (3 * i))]) (rest := []) ⟨hx, hb, hml, hown, hts⟩ (m_X2_becomeCopyOf l dC dI ad S 6 i (by omega) (by omega) (hK.1.1 i (by omega)).1) (cwV 1 hts gX0_isQueuedAlike_X2_becomeCopyOf rfl rfl rfl hdX2_becomeCopyOf_1 ⟨Nat.le_of_ble_eq_true rfl, Nat.le_of_ble_eq_true rfl⟩) (hX.preRow (by omega)) rfl rfl hl.1 rfl (lv_room (Nat.le_of_ble_eq_true rfl)) dX0_isQueuedAlike_5 ⟨Nat.le_of_ble_eq_true rfl, Nat.le_of_ble_eq_true rfl⟩) hX (fun _ h => h) (fun S_1 H locs hw hX => ?_)
  replace h7 := (show (S_1.1 7).2.2 = (S.1 7).2.2 by rw [hw, xR_ne _ _ (by decide)]).trans h7
  replace h6 := (show (S_1.1 6).2.2 = (S.1 i).2.2 by rw [hw, xR_row]).trans (congrArg (fun r : RowS => r.2.2) (hK.2.2.1 i (by omega)))
  replace hK := (show KA S S_1 by rw [hw]; exact KA_row hK (by decide) (by decide) (rowOK_ovl (hK.1.1 6 (by omega)) (hK.1.1 i (by omega))))
  clear hw
  refine lv_aload_n hx hb dX0_isQueuedAlike_8 rfl (lv_at hl 0 rfl) ?_
  refine ka_gs hx hb hts hin0 hown hX (hts (.fieldLink RX0 12 "Orderlattice$Auditor" "sorter" "LOrderlattice$Sorter;") (tm 6 (by decide +kernel) rfl)) dX0_isQueuedAlike_9 ?_
  refine lv_aload_n hx hb dX0_isQueuedAlike_12 rfl (lv_at hl 0 rfl) ?_
  refine ka_gl hx hb hts hin0 hown hX (hts (.fieldLink RX0 21 "Orderlattice$Auditor" "left" "LOrderlattice$Row;") (tm 10 (by decide +kernel) rfl)) dX0_isQueuedAlike_13 ?_
  refine lv_aload_n hx hb dX0_isQueuedAlike_16 rfl (lv_at hl 2 rfl) ?_
  refine lv_iconst (v := nI 0) hx hb dX0_isQueuedAlike_17 (by decide) ?_
  refine kx_cv (va_runV (As := [.ref (ad (3 * 6)), .ref (ad (24 + 5 * j)), .int (nI 0)]) (rest := []) ⟨hx, hb, hml, hown, hts⟩ (m_X3_arrangeAll l dC dI ad S_1 1 6 j 0 (by decide) (by omega) (by omega) (hK.1.1 6 (by omega)) (hK.1.2 j (by omega)) (by decide) (hK.1.1 5 (by decide)) (by omega)) (cwV 3 hts gX0_isQueuedAlike_X3_arrangeAll rfl rfl rfl hdX3_arrangeAll_3 ⟨Nat.le_of_ble_eq_true rfl, Nat.le_of_ble_eq_true rfl⟩) (hX.preSor (by omega)) rfl rfl hl.1 rfl (lv_room (Nat.le_of_ble_eq_true rfl)) dX0_isQueuedAlike_18 ⟨Nat.le_of_ble_eq_true rfl, Nat.le_of_ble_eq_true rfl⟩) hX (fun _ h => h) (fun S_2 H locs hw hX => ?_)
  replace h6 := hw.2.2.2.2.trans h6
  replace h7 := (show (S_2.1 7).2.2 = (S_1.1 7).2.2 by rw [hw.2.1 7 (by decide) (by decide)]).trans h7
  replace hK := KA_arr hK hw (by decide) (by decide)
  clear hw
  refine lv_aload_n hx hb dX0_isQueuedAlike_21 rfl (lv_at hl 0 rfl) ?_
  refine ka_gr hx hb hts hin0 hown hX (hts (.fieldLink RX0 25 "Orderlattice$Auditor" "right" "LOrderlattice$Row;") (tm 11 (by decide +kernel) rfl)) dX0_isQueuedAlike_22 ?_
  refine lv_aload_n hx hb dX0_isQueuedAlike_25 rfl (lv_at hl 1 rfl) ?_
  refine kx_cv (va_runV (As := [.ref (ad (3 * i))]) (rest := []) ⟨hx, hb, hml, hown, hts⟩ (m_X2_becomeCopyOf l dC dI ad S_2 7 i (by omega) (by omega) (hK.1.1 i (by omega)).1) (cwV 1 hts gX0_isQueuedAlike_X2_becomeCopyOf rfl rfl rfl hdX2_becomeCopyOf_1 ⟨Nat.le_of_ble_eq_true rfl, Nat.le_of_ble_eq_true rfl⟩) (hX.preRow (by omega)) rfl rfl hl.1 rfl (lv_room (Nat.le_of_ble_eq_true rfl)) dX0_isQueuedAlike_26 ⟨Nat.le_of_ble_eq_true rfl, Nat.le_of_ble_eq_true rfl⟩) hX (fun _ h => h) (fun S_3 H locs hw hX => ?_)
  replace h6 := (show (S_3.1 6).2.2 = (S_2.1 6).2.2 by rw [hw, xR_ne _ _ (by decide)]).trans h6
  replace h7 := (show (S_3.1 7).2.2 = (S_2.1 i).2.2 by rw [hw, xR_row]).trans (congrArg (fun r : RowS => r.2.2) (hK.2.2.1 i (by omega)))
  replace hK := (show KA S S_3 by rw [hw]; exact KA_row hK (by decide) (by decide) (rowOK_ovl (hK.1.1 7 (by omega)) (hK.1.1 i (by omega))))
  clear hw
  refine lv_iconst (v := nI 0) hx hb dX0_isQueuedAlike_29 (by decide) ?_
  refine lv_istore_n (lv' := [(3, .int (nI 0)), (0, .ref (ad 56)), (1, .ref (ad (3 * i))), (2, .ref (ad (24 + 5 * j)))]) hx hb dX0_isQueuedAlike_30 rfl hl (by decide) rfl (fun ls hl => ?_)
  have loop31 : ∀ (fuel : Nat) (S1 : XS) (q : Nat) (hK : KA S S1) (h6 : (S1.1 6).2.2 = (S.1 i).2.2) (h7 : (S1.1 7).2.2 = (S.1 i).2.2 - q) (hq : q ≤ (S.1 i).2.2) (H : Heap) (locs : List Loc), (S.1 i).2.2 - q < fuel → WX dC dI ad S1 (AX ad) s H locs → ∀ ls : Array Slot, lv_has ls 5 [(0, .ref (ad 56)), (1, .ref (ad (3 * i))), (2, .ref (ad (24 + 5 * j))), (3, .int (nI q))] → W p l e ({ frames := 4, cells := 0, slots := 0, locals := 105 } : Room) s m ([.ref (ad 56), .ref (ad (3 * i)), .ref (ad (24 + 5 * j))]).toArray below meth c H locs 0 0 (MQ below (va_Qi (fun r S' => (∃ z, r = bI z) ∧ KA S S') (PX dC dI ad) (AX ad)) ([.ref (ad 56), .ref (ad (3 * i)), .ref (ad (24 + 5 * j))]).toArray s 0 0 (AX ad)) (F0 m 31 ls []) := by
    intro fuel
    induction fuel with
    | zero => intro S1 q hK h6 h7 hq H locs hf; exact absurd hf (Nat.not_lt_zero _)
    | succ fuel ih31 =>
      intro S1 q hK h6 h7 hq H locs hf hX ls hl
      refine lv_iload_n hx hb dX0_isQueuedAlike_31 rfl (lv_at hl 3 rfl) ?_
      refine lv_aload_n hx hb dX0_isQueuedAlike_32 rfl (lv_at hl 0 rfl) ?_
      refine ka_gl hx hb hts hin0 hown hX (hts (.fieldLink RX0 21 "Orderlattice$Auditor" "left" "LOrderlattice$Row;") (tm 10 (by decide +kernel) rfl)) dX0_isQueuedAlike_33 ?_
      refine kx_cr (v := nI ((S.1 i).2.2)) (va_runV (As := []) (rest := [.int (nI q)]) ⟨hx, hb, hml, hown, hts⟩ (m_X2_length l dC dI ad S1 6 (by omega)) (cwV 0 hts gX0_isQueuedAlike_X2_length rfl rfl rfl hdX2_length_0 ⟨Nat.le_of_ble_eq_true rfl, Nat.le_of_ble_eq_true rfl⟩) (hX.preRow (by omega)) rfl rfl hl.1 rfl (lv_room (Nat.le_of_ble_eq_true rfl)) dX0_isQueuedAlike_36 ⟨Nat.le_of_ble_eq_true rfl, Nat.le_of_ble_eq_true rfl⟩) (fun _ h => by rw [h, h6]) ?_
      refine kn_icmp_ge (tgt := 97) hx hb (by omega) (by omega) dX0_isQueuedAlike_39 (by decide) (fun k_4 => ?_) (fun k_4 => ?_)
      · skip
        refine lv_iconst (v := bI true) hx hb dX0_isQueuedAlike_97 (by decide) ?_
        exact W.zret (v := bI true) hx hb hr (bI_narrow _) (fun t9 ht9 hW9 => ⟨⟨_, S1, rfl, ⟨⟨_, rfl⟩, hK⟩, hX.P ht9 hW9⟩, hX.2.2.2.F ht9⟩) hX.2.2.2.2.2 dX0_isQueuedAlike_98
      · skip
        refine lv_aload_n hx hb dX0_isQueuedAlike_42 rfl (lv_at hl 0 rfl) ?_
        refine ka_gr hx hb hts hin0 hown hX (hts (.fieldLink RX0 25 "Orderlattice$Auditor" "right" "LOrderlattice$Row;") (tm 11 (by decide +kernel) rfl)) dX0_isQueuedAlike_43 ?_
        refine lv_aload_n hx hb dX0_isQueuedAlike_46 rfl (lv_at hl 2 rfl) ?_
        refine kx_cr (v := (oI (bestB (fun _ => true) (fun a b => decide ((S1.2.1 j).2.2.1 ((S1.1 7).1 a) < (S1.2.1 j).2.2.1 ((S1.1 7).1 b))) (S1.1 7).2.2))) (va_runV (As := [.ref (ad (24 + 5 * j))]) (rest := []) ⟨hx, hb, hml, hown, hts⟩ (m_X2_firstPlaceBy l dC dI ad S1 7 j (by omega) (by omega) (hK.1.1 7 (by omega)) (hK.1.2 j (by omega))) (cwV 1 hts gX0_isQueuedAlike_X2_firstPlaceBy rfl rfl rfl hdX2_firstPlaceBy_1 ⟨Nat.le_of_ble_eq_true rfl, Nat.le_of_ble_eq_true rfl⟩) (hX.preRow (by omega)) rfl rfl hl.1 rfl (lv_room (Nat.le_of_ble_eq_true rfl)) dX0_isQueuedAlike_47 ⟨Nat.le_of_ble_eq_true rfl, Nat.le_of_ble_eq_true rfl⟩) (fun _ h => h) ?_
        obtain ⟨bb, hbb⟩ := bestB_some (lt := (fun a b => decide ((S1.2.1 j).2.2.1 ((S1.1 7).1 a) < (S1.2.1 j).2.2.1 ((S1.1 7).1 b)))) (show 0 < (S1.1 7).2.2 by rw [h7]; omega)
        have hb9 := (bestB_lt hbb).1
        rw [h7] at hb9
        rw [hbb]
        refine lv_istore (lv' := [(4, .int (nI bb)), (0, .ref (ad 56)), (1, .ref (ad (3 * i))), (2, .ref (ad (24 + 5 * j))), (3, .int (nI q))]) hx hb dX0_isQueuedAlike_50 hl (by decide) rfl (fun ls hl => ?_)
        refine lv_aload_n hx hb dX0_isQueuedAlike_52 rfl (lv_at hl 3 rfl) ?_
        refine lv_aload_n hx hb dX0_isQueuedAlike_53 rfl (lv_at hl 1 rfl) ?_
        refine ka_gr hx hb hts hin0 hown hX (hts (.fieldLink RX0 25 "Orderlattice$Auditor" "right" "LOrderlattice$Row;") (tm 11 (by decide +kernel) rfl)) dX0_isQueuedAlike_54 ?_
        refine lv_iload hx hb dX0_isQueuedAlike_57 (lv_at hl 0 rfl) ?_
        refine kx_cr (v := nI ((S1.1 7).1 bb)) (va_runV (As := [.int (nI bb)]) (rest := [.ref (ad (24 + 5 * j))]) ⟨hx, hb, hml, hown, hts⟩ (m_X2_valueOn l dC dI ad S1 7 bb (by omega) (by omega)) (cwV 1 hts gX0_isQueuedAlike_X2_valueOn rfl rfl rfl hdX2_valueOn_1 ⟨Nat.le_of_ble_eq_true rfl, Nat.le_of_ble_eq_true rfl⟩) (hX.preRow (by omega)) rfl rfl hl.1 rfl (lv_room (Nat.le_of_ble_eq_true rfl)) dX0_isQueuedAlike_59 ⟨Nat.le_of_ble_eq_true rfl, Nat.le_of_ble_eq_true rfl⟩) (fun _ h => h) ?_
        refine kx_cr (v := nI ((S1.2.1 j).2.2.2.1 ((S1.1 7).1 bb))) (va_runV (As := [.int (nI ((S1.1 7).1 bb))]) (rest := []) ⟨hx, hb, hml, hown, hts⟩ (m_X1_rankOf l dC dI ad S1 j ((S1.1 7).1 bb) (by omega) ((hK.1.1 7 (by omega)).2 _ (by omega)).1) (cwV 1 hts gX0_isQueuedAlike_X1_rankOf rfl rfl rfl hdX1_rankOf_1 ⟨Nat.le_of_ble_eq_true rfl, Nat.le_of_ble_eq_true rfl⟩) (hX.preOrd (by omega)) rfl rfl hl.1 rfl (lv_room (Nat.le_of_ble_eq_true rfl)) dX0_isQueuedAlike_62 ⟨Nat.le_of_ble_eq_true rfl, Nat.le_of_ble_eq_true rfl⟩) (fun _ h => h) ?_
        refine lv_aload_n hx hb dX0_isQueuedAlike_65 rfl (lv_at hl 3 rfl) ?_
        refine lv_aload_n hx hb dX0_isQueuedAlike_66 rfl (lv_at hl 1 rfl) ?_
        refine ka_gl hx hb hts hin0 hown hX (hts (.fieldLink RX0 21 "Orderlattice$Auditor" "left" "LOrderlattice$Row;") (tm 10 (by decide +kernel) rfl)) dX0_isQueuedAlike_67 ?_
        refine lv_iload_n hx hb dX0_isQueuedAlike_70 rfl (lv_at hl 4 rfl) ?_
        refine kx_cr (v := nI ((S1.1 6).1 q)) (va_runV (As := [.int (nI q)]) (rest := [.ref (ad (24 + 5 * j)), .int (nI ((S1.2.1 j).2.2.2.1 ((S1.1 7).1 bb)))]) ⟨hx, hb, hml, hown, hts⟩ (m_X2_valueOn l dC dI ad S1 6 q (by omega) (by omega)) (cwV 1 hts gX0_isQueuedAlike_X2_valueOn rfl rfl rfl hdX2_valueOn_1 ⟨Nat.le_of_ble_eq_true rfl, Nat.le_of_ble_eq_true rfl⟩) (hX.preRow (by omega)) rfl rfl hl.1 rfl (lv_room (Nat.le_of_ble_eq_true rfl)) dX0_isQueuedAlike_71 ⟨Nat.le_of_ble_eq_true rfl, Nat.le_of_ble_eq_true rfl⟩) (fun _ h => h) ?_
        refine kx_cr (v := nI ((S1.2.1 j).2.2.2.1 ((S1.1 6).1 q))) (va_runV (As := [.int (nI ((S1.1 6).1 q))]) (rest := [.int (nI ((S1.2.1 j).2.2.2.1 ((S1.1 7).1 bb)))]) ⟨hx, hb, hml, hown, hts⟩ (m_X1_rankOf l dC dI ad S1 j ((S1.1 6).1 q) (by omega) ((hK.1.1 6 (by omega)).2 _ (by omega)).1) (cwV 1 hts gX0_isQueuedAlike_X1_rankOf rfl rfl rfl hdX1_rankOf_1 ⟨Nat.le_of_ble_eq_true rfl, Nat.le_of_ble_eq_true rfl⟩) (hX.preOrd (by omega)) rfl rfl hl.1 rfl (lv_room (Nat.le_of_ble_eq_true rfl)) dX0_isQueuedAlike_74 ⟨Nat.le_of_ble_eq_true rfl, Nat.le_of_ble_eq_true rfl⟩) (fun _ h => h) ?_
        have hr1 := ordOK.rnk (hK.1.2 j (by omega)) ((hK.1.1 7 (by omega)).2 bb (by omega)).1
        have hr2 := ordOK.rnk (hK.1.2 j (by omega)) ((hK.1.1 6 (by omega)).2 q (by omega)).1
        refine kn_icmp_eq (tgt := 82) hx hb (by omega) (by omega) dX0_isQueuedAlike_77 (by decide) (fun k_5 => ?_) (fun k_5 => ?_)
        · skip
          refine lv_aload_n hx hb dX0_isQueuedAlike_82 rfl (lv_at hl 1 rfl) ?_
          refine ka_gr hx hb hts hin0 hown hX (hts (.fieldLink RX0 25 "Orderlattice$Auditor" "right" "LOrderlattice$Row;") (tm 11 (by decide +kernel) rfl)) dX0_isQueuedAlike_83 ?_
          refine lv_iload hx hb dX0_isQueuedAlike_86 (lv_at hl 0 rfl) ?_
          refine kx_cv (va_runV (As := [.int (nI bb)]) (rest := []) ⟨hx, hb, hml, hown, hts⟩ (m_X2_remove l dC dI ad S1 7 bb (by omega) (hK.1.1 7 (by omega)).1 (by rw [h7]; omega)) (cwV 1 hts gX0_isQueuedAlike_X2_remove rfl rfl rfl hdX2_remove_1 ⟨Nat.le_of_ble_eq_true rfl, Nat.le_of_ble_eq_true rfl⟩) (hX.preRow (by omega)) rfl rfl hl.1 rfl (lv_room (Nat.le_of_ble_eq_true rfl)) dX0_isQueuedAlike_88 ⟨Nat.le_of_ble_eq_true rfl, Nat.le_of_ble_eq_true rfl⟩) hX (fun _ h => h) (fun S_6 H locs hw hX => ?_)
          replace hK := (show KA S S_6 by rw [hw]; exact KA_row hK (by decide) (by decide) (rowOK_rem (hK.1.1 7 (by omega)) (by rw [h7]; omega)))
          replace h7 := (show (S_6.1 7).2.2 = (S1.1 7).2.2 - 1 by rw [hw, xR_row]).trans (congrArg (· - 1) h7)
          replace h6 := (show (S_6.1 6).2.2 = (S1.1 6).2.2 by rw [hw, xR_ne _ _ (by decide)]).trans h6
          clear hw
          refine lv_iinc (v := nI (q + 1)) (lv' := [(3, .int (nI (q + 1))), (4, .int (nI bb)), (0, .ref (ad 56)), (1, .ref (ad (3 * i))), (2, .ref (ad (24 + 5 * j)))]) hx hb dX0_isQueuedAlike_91 hl (k := 4) rfl (nI_1 q) (by decide) rfl (fun ls hl => ?_)
          refine lv_goto (tgt := 31) hx hb dX0_isQueuedAlike_94 (by decide) ?_
          exact ih31  S_6 (q + 1) hK h6 h7 (by omega) _ _ (by omega) hX _ (lv_sub hl [2, 3, 4, 0] rfl)
        · skip
          refine lv_iconst (v := bI false) hx hb dX0_isQueuedAlike_80 (by decide) ?_
          exact W.zret (v := bI false) hx hb hr (bI_narrow _) (fun t9 ht9 hW9 => ⟨⟨_, S1, rfl, ⟨⟨_, rfl⟩, hK⟩, hX.P ht9 hW9⟩, hX.2.2.2.F ht9⟩) hX.2.2.2.2.2 dX0_isQueuedAlike_81
  exact loop31 ((S.1 i).2.2 + 1) S_3 0 hK h6 h7 (by omega) _ _ (by omega) (WX.eqS rfl hX) _ (lv_sub hl [1, 2, 3, 0] rfl)
end
